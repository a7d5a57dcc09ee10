theorem dX11_acknowledges_41 : decode cX11_acknowledges 41 = .ok (.isub, 1) := by decide +kernel
theorem dX11_acknowledges_42 : decode cX11_acknowledges 42 = .ok (.iastore, 1) := by decide +kernel
theorem dX11_acknowledges_43 : decode cX11_acknowledges 43 = .ok (.iconst 0, 1) := by decide +kernel
theorem dX11_acknowledges_44 : decode cX11_acknowledges 44 = .ok (.istore 4, 2) := by decide +kernel
theorem dX11_acknowledges_46 : decode cX11_acknowledges 46 = .ok (.iload 4, 2) := by decide +kernel
theorem dX11_acknowledges_48 : decode cX11_acknowledges 48 = .ok (.aload_n 0, 1) := by decide +kernel
theorem dX11_acknowledges_49 : decode cX11_acknowledges 49 = .ok (.getfield 71, 3) := by decide +kernel
theorem dX11_acknowledges_52 : decode cX11_acknowledges 52 = .ok (.iload_n 1, 1) := by decide +kernel
theorem dX11_acknowledges_53 : decode cX11_acknowledges 53 = .ok (.iaload, 1) := by decide +kernel
theorem dX11_acknowledges_54 : decode cX11_acknowledges 54 = .ok (.if_icmp .ge 82, 3) := by decide +kernel
theorem dX11_acknowledges_57 : decode cX11_acknowledges 57 = .ok (.bipush 16, 2) := by decide +kernel
theorem dX11_acknowledges_59 : decode cX11_acknowledges 59 = .ok (.iload_n 1, 1) := by decide +kernel
theorem dX11_acknowledges_60 : decode cX11_acknowledges 60 = .ok (.imul, 1) := by decide +kernel
theorem dX11_acknowledges_61 : decode cX11_acknowledges 61 = .ok (.iload 4, 2) := by decide +kernel
theorem dX11_acknowledges_63 : decode cX11_acknowledges 63 = .ok (.iadd, 1) := by decide +kernel
theorem dX11_acknowledges_64 : decode cX11_acknowledges 64 = .ok (.istore 5, 2) := by decide +kernel
theorem dX11_acknowledges_66 : decode cX11_acknowledges 66 = .ok (.aload_n 0, 1) := by decide +kernel
theorem dX11_acknowledges_67 : decode cX11_acknowledges 67 = .ok (.getfield 77, 3) := by decide +kernel
theorem dX11_acknowledges_70 : decode cX11_acknowledges 70 = .ok (.iload 5, 2) := by decide +kernel
theorem dX11_acknowledges_72 : decode cX11_acknowledges 72 = .ok (.aload_n 0, 1) := by decide +kernel
theorem dX11_acknowledges_73 : decode cX11_acknowledges 73 = .ok (.getfield 77, 3) := by decide +kernel
theorem dX11_acknowledges_76 : decode cX11_acknowledges 76 = .ok (.iload 5, 2) := by decide +kernel
theorem dX11_acknowledges_78 : decode cX11_acknowledges 78 = .ok (.iload_n 3, 1) := by decide +kernel
theorem dX11_acknowledges_79 : decode cX11_acknowledges 79 = .ok (.iadd, 1) := by decide +kernel
theorem dX11_acknowledges_80 : decode cX11_acknowledges 80 = .ok (.iaload, 1) := by decide +kernel
theorem dX11_acknowledges_81 : decode cX11_acknowledges 81 = .ok (.iastore, 1) := by decide +kernel
theorem dX11_acknowledges_82 : decode cX11_acknowledges 82 = .ok (.aload_n 0, 1) := by decide +kernel
theorem dX11_acknowledges_83 : decode cX11_acknowledges 83 = .ok (.getfield 80, 3) := by decide +kernel
theorem dX11_acknowledges_86 : decode cX11_acknowledges 86 = .ok (.iload 5, 2) := by decide +kernel
theorem dX11_acknowledges_88 : decode cX11_acknowledges 88 = .ok (.aload_n 0, 1) := by decide +kernel
theorem dX11_acknowledges_89 : decode cX11_acknowledges 89 = .ok (.getfield 80, 3) := by decide +kernel
theorem dX11_acknowledges_92 : decode cX11_acknowledges 92 = .ok (.iload 5, 2) := by decide +kernel
theorem dX11_acknowledges_94 : decode cX11_acknowledges 94 = .ok (.iload_n 3, 1) := by decide +kernel
theorem dX11_acknowledges_95 : decode cX11_acknowledges 95 = .ok (.iadd, 1) := by decide +kernel
theorem dX11_acknowledges_96 : decode cX11_acknowledges 96 = .ok (.iaload, 1) := by decide +kernel
theorem dX11_acknowledges_97 : decode cX11_acknowledges 97 = .ok (.iastore, 1) := by decide +kernel
theorem dX11_acknowledges_98 : decode cX11_acknowledges 98 = .ok (.aload_n 0, 1) := by decide +kernel
theorem dX11_acknowledges_99 : decode cX11_acknowledges 99 = .ok (.getfield 83, 3) := by decide +kernel
theorem dX11_acknowledges_102 : decode cX11_acknowledges 102 = .ok (.iload 5, 2) := by decide +kernel
theorem dX11_acknowledges_104 : decode cX11_acknowledges 104 = .ok (.aload_n 0, 1) := by decide +kernel
theorem dX11_acknowledges_105 : decode cX11_acknowledges 105 = .ok (.getfield 83, 3) := by decide +kernel
theorem dX11_acknowledges_108 : decode cX11_acknowledges 108 = .ok (.iload 5, 2) := by decide +kernel
theorem dX11_acknowledges_110 : decode cX11_acknowledges 110 = .ok (.iload_n 3, 1) := by decide +kernel
theorem dX11_acknowledges_111 : decode cX11_acknowledges 111 = .ok (.iadd, 1) := by decide +kernel
theorem dX11_acknowledges_112 : decode cX11_acknowledges 112 = .ok (.iaload, 1) := by decide +kernel
theorem dX11_acknowledges_113 : decode cX11_acknowledges 113 = .ok (.iastore, 1) := by decide +kernel
theorem dX11_acknowledges_114 : decode cX11_acknowledges 114 = .ok (.aload_n 0, 1) := by decide +kernel
theorem dX11_acknowledges_115 : decode cX11_acknowledges 115 = .ok (.getfield 86, 3) := by decide +kernel
theorem dX11_acknowledges_118 : decode cX11_acknowledges 118 = .ok (.iload 5, 2) := by decide +kernel
theorem dX11_acknowledges_120 : decode cX11_acknowledges 120 = .ok (.aload_n 0, 1) := by decide +kernel
theorem dX11_acknowledges_121 : decode cX11_acknowledges 121 = .ok (.getfield 86, 3) := by decide +kernel
theorem dX11_acknowledges_124 : decode cX11_acknowledges 124 = .ok (.iload 5, 2) := by decide +kernel
theorem dX11_acknowledges_126 : decode cX11_acknowledges 126 = .ok (.iload_n 3, 1) := by decide +kernel
theorem dX11_acknowledges_127 : decode cX11_acknowledges 127 = .ok (.iadd, 1) := by decide +kernel
theorem dX11_acknowledges_128 : decode cX11_acknowledges 128 = .ok (.iaload, 1) := by decide +kernel
theorem dX11_acknowledges_129 : decode cX11_acknowledges 129 = .ok (.iastore, 1) := by decide +kernel
theorem dX11_acknowledges_130 : decode cX11_acknowledges 130 = .ok (.iinc 4 1, 3) := by decide +kernel
theorem dX11_acknowledges_133 : decode cX11_acknowledges 133 = .ok (.goto (-87), 3) := by decide +kernel
theorem dX11_acknowledges_136 : decode cX11_acknowledges 136 = .ok (.return_, 1) := by decide +kernel
theorem dX11_takesExpected_0 : decode cX11_takesExpected 0 = .ok (.iload 4, 2) := by decide +kernel
theorem dX11_takesExpected_2 : decode cX11_takesExpected 2 = .ok (.ifCond .eq 13, 3) := by decide +kernel
theorem dX11_takesExpected_5 : decode cX11_takesExpected 5 = .ok (.aload_n 0, 1) := by decide +kernel
theorem dX11_takesExpected_6 : decode cX11_takesExpected 6 = .ok (.getfield 65, 3) := by decide +kernel
theorem dX11_takesExpected_9 : decode cX11_takesExpected 9 = .ok (.iload_n 1, 1) := by decide +kernel
theorem dX11_takesExpected_10 : decode cX11_takesExpected 10 = .ok (.iload_n 2, 1) := by decide +kernel
theorem dX11_takesExpected_11 : decode cX11_takesExpected 11 = .ok (.iastore, 1) := by decide +kernel
theorem dX11_takesExpected_12 : decode cX11_takesExpected 12 = .ok (.goto 31, 3) := by decide +kernel
theorem dX11_takesExpected_15 : decode cX11_takesExpected 15 = .ok (.aload_n 0, 1) := by decide +kernel
theorem dX11_takesExpected_16 : decode cX11_takesExpected 16 = .ok (.getfield 74, 3) := by decide +kernel
theorem dX11_takesExpected_19 : decode cX11_takesExpected 19 = .ok (.sipush 1200, 3) := by decide +kernel
theorem dX11_takesExpected_22 : decode cX11_takesExpected 22 = .ok (.iload_n 1, 1) := by decide +kernel
theorem dX11_takesExpected_23 : decode cX11_takesExpected 23 = .ok (.imul, 1) := by decide +kernel
theorem dX11_takesExpected_24 : decode cX11_takesExpected 24 = .ok (.aload_n 0, 1) := by decide +kernel
theorem dX11_takesExpected_25 : decode cX11_takesExpected 25 = .ok (.getfield 68, 3) := by decide +kernel
theorem dX11_takesExpected_28 : decode cX11_takesExpected 28 = .ok (.iload_n 1, 1) := by decide +kernel
theorem dX11_takesExpected_29 : decode cX11_takesExpected 29 = .ok (.iaload, 1) := by decide +kernel
theorem dX11_takesExpected_30 : decode cX11_takesExpected 30 = .ok (.iadd, 1) := by decide +kernel
theorem dX11_takesExpected_31 : decode cX11_takesExpected 31 = .ok (.iload_n 3, 1) := by decide +kernel
theorem dX11_takesExpected_32 : decode cX11_takesExpected 32 = .ok (.iastore, 1) := by decide +kernel
theorem dX11_takesExpected_33 : decode cX11_takesExpected 33 = .ok (.aload_n 0, 1) := by decide +kernel
theorem dX11_takesExpected_34 : decode cX11_takesExpected 34 = .ok (.getfield 68, 3) := by decide +kernel
theorem dX11_takesExpected_37 : decode cX11_takesExpected 37 = .ok (.iload_n 1, 1) := by decide +kernel
theorem dX11_takesExpected_38 : decode cX11_takesExpected 38 = .ok (.dup2, 1) := by decide +kernel
theorem dX11_takesExpected_39 : decode cX11_takesExpected 39 = .ok (.iaload, 1) := by decide +kernel
theorem dX11_takesExpected_40 : decode cX11_takesExpected 40 = .ok (.iconst 1, 1) := by decide +kernel
theorem dX11_takesExpected_41 : decode cX11_takesExpected 41 = .ok (.iadd, 1) := by decide +kernel
theorem dX11_takesExpected_42 : decode cX11_takesExpected 42 = .ok (.iastore, 1) := by decide +kernel
theorem dX11_takesExpected_43 : decode cX11_takesExpected 43 = .ok (.aload_n 0, 1) := by decide +kernel
theorem dX11_takesExpected_44 : decode cX11_takesExpected 44 = .ok (.getfield 56, 3) := by decide +kernel
theorem dX11_takesExpected_47 : decode cX11_takesExpected 47 = .ok (.iload_n 1, 1) := by decide +kernel
theorem dX11_takesExpected_48 : decode cX11_takesExpected 48 = .ok (.dup2, 1) := by decide +kernel
theorem dX11_takesExpected_49 : decode cX11_takesExpected 49 = .ok (.iaload, 1) := by decide +kernel
theorem dX11_takesExpected_50 : decode cX11_takesExpected 50 = .ok (.iconst 1, 1) := by decide +kernel
theorem dX11_takesExpected_51 : decode cX11_takesExpected 51 = .ok (.iadd, 1) := by decide +kernel
theorem dX11_takesExpected_52 : decode cX11_takesExpected 52 = .ok (.iastore, 1) := by decide +kernel
theorem dX11_takesExpected_53 : decode cX11_takesExpected 53 = .ok (.return_, 1) := by decide +kernel
theorem dX11_takes_0 : decode cX11_takes 0 = .ok (.aload_n 0, 1) := by decide +kernel
theorem dX11_takes_1 : decode cX11_takes 1 = .ok (.getfield 65, 3) := by decide +kernel
theorem dX11_takes_4 : decode cX11_takes 4 = .ok (.iload_n 1, 1) := by decide +kernel
theorem dX11_takes_5 : decode cX11_takes 5 = .ok (.iaload, 1) := by decide +kernel
theorem dX11_takes_6 : decode cX11_takes 6 = .ok (.ifCond .ge 25, 3) := by decide +kernel
theorem dX11_takes_9 : decode cX11_takes 9 = .ok (.iload_n 2, 1) := by decide +kernel
theorem dX11_takes_10 : decode cX11_takes 10 = .ok (.aload_n 0, 1) := by decide +kernel
theorem dX11_takes_11 : decode cX11_takes 11 = .ok (.getfield 56, 3) := by decide +kernel
theorem dX11_takes_14 : decode cX11_takes 14 = .ok (.iload_n 1, 1) := by decide +kernel
theorem dX11_takes_15 : decode cX11_takes 15 = .ok (.iaload, 1) := by decide +kernel
theorem dX11_takes_16 : decode cX11_takes 16 = .ok (.if_icmp .lt 15, 3) := by decide +kernel
theorem dX11_takes_19 : decode cX11_takes 19 = .ok (.iload_n 2, 1) := by decide +kernel
theorem dX11_takes_20 : decode cX11_takes 20 = .ok (.aload_n 0, 1) := by decide +kernel
theorem dX11_takes_21 : decode cX11_takes 21 = .ok (.getfield 56, 3) := by decide +kernel
theorem dX11_takes_24 : decode cX11_takes 24 = .ok (.iload_n 1, 1) := by decide +kernel
theorem dX11_takes_25 : decode cX11_takes 25 = .ok (.iaload, 1) := by decide +kernel
theorem dX11_takes_26 : decode cX11_takes 26 = .ok (.iconst 4, 1) := by decide +kernel
theorem dX11_takes_27 : decode cX11_takes 27 = .ok (.iadd, 1) := by decide +kernel
theorem dX11_takes_28 : decode cX11_takes 28 = .ok (.if_icmp .lt 4, 3) := by decide +kernel
theorem dX11_takes_31 : decode cX11_takes 31 = .ok (.return_, 1) := by decide +kernel
theorem dX11_takes_32 : decode cX11_takes 32 = .ok (.iconst 4, 1) := by decide +kernel
theorem dX11_takes_33 : decode cX11_takes 33 = .ok (.iload_n 1, 1) := by decide +kernel
theorem dX11_takes_34 : decode cX11_takes 34 = .ok (.imul, 1) := by decide +kernel
theorem dX11_takes_35 : decode cX11_takes 35 = .ok (.iload_n 2, 1) := by decide +kernel
theorem dX11_takes_36 : decode cX11_takes 36 = .ok (.iconst 4, 1) := by decide +kernel
theorem dX11_takes_37 : decode cX11_takes 37 = .ok (.irem, 1) := by decide +kernel
theorem dX11_takes_38 : decode cX11_takes 38 = .ok (.iadd, 1) := by decide +kernel
theorem dX11_takes_39 : decode cX11_takes 39 = .ok (.istore 5, 2) := by decide +kernel
theorem dX11_takes_41 : decode cX11_takes 41 = .ok (.iload_n 2, 1) := by decide +kernel
theorem dX11_takes_42 : decode cX11_takes 42 = .ok (.aload_n 0, 1) := by decide +kernel
theorem dX11_takes_43 : decode cX11_takes 43 = .ok (.getfield 56, 3) := by decide +kernel
theorem dX11_takes_46 : decode cX11_takes 46 = .ok (.iload_n 1, 1) := by decide +kernel
theorem dX11_takes_47 : decode cX11_takes 47 = .ok (.iaload, 1) := by decide +kernel
theorem dX11_takes_48 : decode cX11_takes 48 = .ok (.if_icmp .le 49, 3) := by decide +kernel
theorem dX11_takes_51 : decode cX11_takes 51 = .ok (.aload_n 0, 1) := by decide +kernel
theorem dX11_takes_52 : decode cX11_takes 52 = .ok (.getfield 89, 3) := by decide +kernel
theorem dX11_takes_55 : decode cX11_takes 55 = .ok (.iload 5, 2) := by decide +kernel
theorem dX11_takes_57 : decode cX11_takes 57 = .ok (.iaload, 1) := by decide +kernel
theorem dX11_takes_58 : decode cX11_takes 58 = .ok (.iconst 1, 1) := by decide +kernel
theorem dX11_takes_59 : decode cX11_takes 59 = .ok (.if_icmp .ne 4, 3) := by decide +kernel
theorem dX11_takes_62 : decode cX11_takes 62 = .ok (.return_, 1) := by decide +kernel
theorem dX11_takes_63 : decode cX11_takes 63 = .ok (.aload_n 0, 1) := by decide +kernel
theorem dX11_takes_64 : decode cX11_takes 64 = .ok (.getfield 89, 3) := by decide +kernel
theorem dX11_takes_67 : decode cX11_takes 67 = .ok (.iload 5, 2) := by decide +kernel
theorem dX11_takes_69 : decode cX11_takes 69 = .ok (.iconst 1, 1) := by decide +kernel
theorem dX11_takes_70 : decode cX11_takes 70 = .ok (.iastore, 1) := by decide +kernel
theorem dX11_takes_71 : decode cX11_takes 71 = .ok (.aload_n 0, 1) := by decide +kernel
theorem dX11_takes_72 : decode cX11_takes 72 = .ok (.getfield 92, 3) := by decide +kernel
theorem dX11_takes_75 : decode cX11_takes 75 = .ok (.iload 5, 2) := by decide +kernel
theorem dX11_takes_77 : decode cX11_takes 77 = .ok (.iload_n 3, 1) := by decide +kernel
theorem dX11_takes_78 : decode cX11_takes 78 = .ok (.iastore, 1) := by decide +kernel
theorem dX11_takes_79 : decode cX11_takes 79 = .ok (.aload_n 0, 1) := by decide +kernel
theorem dX11_takes_80 : decode cX11_takes 80 = .ok (.getfield 95, 3) := by decide +kernel
theorem dX11_takes_83 : decode cX11_takes 83 = .ok (.iload 5, 2) := by decide +kernel
theorem dX11_takes_85 : decode cX11_takes 85 = .ok (.iload 4, 2) := by decide +kernel
theorem dX11_takes_87 : decode cX11_takes 87 = .ok (.ifCond .eq 7, 3) := by decide +kernel
theorem dX11_takes_90 : decode cX11_takes 90 = .ok (.iconst 1, 1) := by decide +kernel
theorem dX11_takes_91 : decode cX11_takes 91 = .ok (.goto 4, 3) := by decide +kernel
theorem dX11_takes_94 : decode cX11_takes 94 = .ok (.iconst 0, 1) := by decide +kernel
theorem dX11_takes_95 : decode cX11_takes 95 = .ok (.iastore, 1) := by decide +kernel
theorem dX11_takes_96 : decode cX11_takes 96 = .ok (.return_, 1) := by decide +kernel
theorem dX11_takes_97 : decode cX11_takes 97 = .ok (.aload_n 0, 1) := by decide +kernel
theorem dX11_takes_98 : decode cX11_takes 98 = .ok (.iload_n 1, 1) := by decide +kernel
theorem dX11_takes_99 : decode cX11_takes 99 = .ok (.iload_n 2, 1) := by decide +kernel
theorem dX11_takes_100 : decode cX11_takes 100 = .ok (.iload_n 3, 1) := by decide +kernel
theorem dX11_takes_101 : decode cX11_takes 101 = .ok (.iload 4, 2) := by decide +kernel
theorem dX11_takes_103 : decode cX11_takes 103 = .ok (.invokevirtual 249, 3) := by decide +kernel
theorem dX11_takes_106 : decode cX11_takes 106 = .ok (.iconst 4, 1) := by decide +kernel
theorem dX11_takes_107 : decode cX11_takes 107 = .ok (.iload_n 1, 1) := by decide +kernel
theorem dX11_takes_108 : decode cX11_takes 108 = .ok (.imul, 1) := by decide +kernel
theorem dX11_takes_109 : decode cX11_takes 109 = .ok (.aload_n 0, 1) := by decide +kernel
theorem dX11_takes_110 : decode cX11_takes 110 = .ok (.getfield 56, 3) := by decide +kernel
theorem dX11_takes_113 : decode cX11_takes 113 = .ok (.iload_n 1, 1) := by decide +kernel
theorem dX11_takes_114 : decode cX11_takes 114 = .ok (.iaload, 1) := by decide +kernel
theorem dX11_takes_115 : decode cX11_takes 115 = .ok (.iconst 4, 1) := by decide +kernel
theorem dX11_takes_116 : decode cX11_takes 116 = .ok (.irem, 1) := by decide +kernel
theorem dX11_takes_117 : decode cX11_takes 117 = .ok (.iadd, 1) := by decide +kernel
theorem dX11_takes_118 : decode cX11_takes 118 = .ok (.istore 5, 2) := by decide +kernel
theorem dX11_takes_120 : decode cX11_takes 120 = .ok (.aload_n 0, 1) := by decide +kernel
theorem dX11_takes_121 : decode cX11_takes 121 = .ok (.getfield 89, 3) := by decide +kernel
theorem dX11_takes_124 : decode cX11_takes 124 = .ok (.iload 5, 2) := by decide +kernel
theorem dX11_takes_126 : decode cX11_takes 126 = .ok (.iaload, 1) := by decide +kernel
theorem dX11_takes_127 : decode cX11_takes 127 = .ok (.iconst 1, 1) := by decide +kernel
theorem dX11_takes_128 : decode cX11_takes 128 = .ok (.if_icmp .ne 71, 3) := by decide +kernel
theorem dX11_takes_131 : decode cX11_takes 131 = .ok (.aload_n 0, 1) := by decide +kernel
theorem dX11_takes_132 : decode cX11_takes 132 = .ok (.getfield 65, 3) := by decide +kernel
theorem dX11_takes_135 : decode cX11_takes 135 = .ok (.iload_n 1, 1) := by decide +kernel
theorem dX11_takes_136 : decode cX11_takes 136 = .ok (.iaload, 1) := by decide +kernel
theorem dX11_takes_137 : decode cX11_takes 137 = .ok (.ifCond .ge 62, 3) := by decide +kernel
theorem dX11_takes_140 : decode cX11_takes 140 = .ok (.aload_n 0, 1) := by decide +kernel
theorem dX11_takes_141 : decode cX11_takes 141 = .ok (.getfield 89, 3) := by decide +kernel
theorem dX11_takes_144 : decode cX11_takes 144 = .ok (.iload 5, 2) := by decide +kernel
theorem dX11_takes_146 : decode cX11_takes 146 = .ok (.iconst 0, 1) := by decide +kernel
theorem dX11_takes_147 : decode cX11_takes 147 = .ok (.iastore, 1) := by decide +kernel
theorem dX11_takes_148 : decode cX11_takes 148 = .ok (.aload_n 0, 1) := by decide +kernel
theorem dX11_takes_149 : decode cX11_takes 149 = .ok (.iload_n 1, 1) := by decide +kernel
theorem dX11_takes_150 : decode cX11_takes 150 = .ok (.aload_n 0, 1) := by decide +kernel
theorem dX11_takes_151 : decode cX11_takes 151 = .ok (.getfield 56, 3) := by decide +kernel
theorem dX11_takes_154 : decode cX11_takes 154 = .ok (.iload_n 1, 1) := by decide +kernel
theorem dX11_takes_155 : decode cX11_takes 155 = .ok (.iaload, 1) := by decide +kernel
theorem dX11_takes_156 : decode cX11_takes 156 = .ok (.aload_n 0, 1) := by decide +kernel
theorem dX11_takes_157 : decode cX11_takes 157 = .ok (.getfield 92, 3) := by decide +kernel
theorem dX11_takes_160 : decode cX11_takes 160 = .ok (.iload 5, 2) := by decide +kernel
theorem dX11_takes_162 : decode cX11_takes 162 = .ok (.iaload, 1) := by decide +kernel
theorem dX11_takes_163 : decode cX11_takes 163 = .ok (.aload_n 0, 1) := by decide +kernel
theorem dX11_takes_164 : decode cX11_takes 164 = .ok (.getfield 95, 3) := by decide +kernel
theorem dX11_takes_167 : decode cX11_takes 167 = .ok (.iload 5, 2) := by decide +kernel
theorem dX11_takes_169 : decode cX11_takes 169 = .ok (.iaload, 1) := by decide +kernel
theorem dX11_takes_170 : decode cX11_takes 170 = .ok (.iconst 1, 1) := by decide +kernel
theorem dX11_takes_171 : decode cX11_takes 171 = .ok (.if_icmp .ne 7, 3) := by decide +kernel
theorem dX11_takes_174 : decode cX11_takes 174 = .ok (.iconst 1, 1) := by decide +kernel
theorem dX11_takes_175 : decode cX11_takes 175 = .ok (.goto 4, 3) := by decide +kernel
theorem dX11_takes_178 : decode cX11_takes 178 = .ok (.iconst 0, 1) := by decide +kernel
theorem dX11_takes_179 : decode cX11_takes 179 = .ok (.invokevirtual 249, 3) := by decide +kernel
theorem dX11_takes_182 : decode cX11_takes 182 = .ok (.iconst 4, 1) := by decide +kernel
theorem dX11_takes_183 : decode cX11_takes 183 = .ok (.iload_n 1, 1) := by decide +kernel
theorem dX11_takes_184 : decode cX11_takes 184 = .ok (.imul, 1) := by decide +kernel
theorem dX11_takes_185 : decode cX11_takes 185 = .ok (.aload_n 0, 1) := by decide +kernel
theorem dX11_takes_186 : decode cX11_takes 186 = .ok (.getfield 56, 3) := by decide +kernel
theorem dX11_takes_189 : decode cX11_takes 189 = .ok (.iload_n 1, 1) := by decide +kernel
theorem dX11_takes_190 : decode cX11_takes 190 = .ok (.iaload, 1) := by decide +kernel
theorem dX11_takes_191 : decode cX11_takes 191 = .ok (.iconst 4, 1) := by decide +kernel
theorem dX11_takes_192 : decode cX11_takes 192 = .ok (.irem, 1) := by decide +kernel
theorem dX11_takes_193 : decode cX11_takes 193 = .ok (.iadd, 1) := by decide +kernel
theorem dX11_takes_194 : decode cX11_takes 194 = .ok (.istore 5, 2) := by decide +kernel
theorem dX11_takes_196 : decode cX11_takes 196 = .ok (.goto (-76), 3) := by decide +kernel
theorem dX11_takes_199 : decode cX11_takes 199 = .ok (.return_, 1) := by decide +kernel
theorem dX11_answersHello_0 : decode cX11_answersHello 0 = .ok (.aload_n 0, 1) := by decide +kernel
theorem dX11_answersHello_1 : decode cX11_answersHello 1 = .ok (.getfield 23, 3) := by decide +kernel
theorem dX11_answersHello_4 : decode cX11_answersHello 4 = .ok (.iconst 1, 1) := by decide +kernel
theorem dX11_answersHello_5 : decode cX11_answersHello 5 = .ok (.aload_n 0, 1) := by decide +kernel
theorem dX11_answersHello_6 : decode cX11_answersHello 6 = .ok (.getfield 116, 3) := by decide +kernel
theorem dX11_answersHello_9 : decode cX11_answersHello 9 = .ok (.iconst 2, 1) := by decide +kernel
theorem dX11_answersHello_10 : decode cX11_answersHello 10 = .ok (.iaload, 1) := by decide +kernel
theorem dX11_answersHello_11 : decode cX11_answersHello 11 = .ok (.iastore, 1) := by decide +kernel
theorem dX11_answersHello_12 : decode cX11_answersHello 12 = .ok (.aload_n 0, 1) := by decide +kernel
theorem dX11_answersHello_13 : decode cX11_answersHello 13 = .ok (.getfield 116, 3) := by decide +kernel
theorem dX11_answersHello_16 : decode cX11_answersHello 16 = .ok (.bipush 6, 2) := by decide +kernel
theorem dX11_answersHello_18 : decode cX11_answersHello 18 = .ok (.iaload, 1) := by decide +kernel
theorem dX11_answersHello_19 : decode cX11_answersHello 19 = .ok (.iconst (-1), 1) := by decide +kernel
theorem dX11_answersHello_20 : decode cX11_answersHello 20 = .ok (.if_icmp .ne 11, 3) := by decide +kernel
theorem dX11_answersHello_23 : decode cX11_answersHello 23 = .ok (.aload_n 0, 1) := by decide +kernel
theorem dX11_answersHello_24 : decode cX11_answersHello 24 = .ok (.iconst 1, 1) := by decide +kernel
theorem dX11_answersHello_25 : decode cX11_answersHello 25 = .ok (.invokevirtual 198, 3) := by decide +kernel
theorem dX11_answersHello_28 : decode cX11_answersHello 28 = .ok (.goto 16, 3) := by decide +kernel
theorem dX11_answersHello_31 : decode cX11_answersHello 31 = .ok (.aload_n 0, 1) := by decide +kernel
theorem dX11_answersHello_32 : decode cX11_answersHello 32 = .ok (.getfield 107, 3) := by decide +kernel
theorem dX11_answersHello_35 : decode cX11_answersHello 35 = .ok (.aload_n 0, 1) := by decide +kernel
theorem dX11_answersHello_36 : decode cX11_answersHello 36 = .ok (.getfield 116, 3) := by decide +kernel
theorem dX11_answersHello_39 : decode cX11_answersHello 39 = .ok (.bipush 6, 2) := by decide +kernel
theorem dX11_answersHello_41 : decode cX11_answersHello 41 = .ok (.iaload, 1) := by decide +kernel
theorem dX11_answersHello_42 : decode cX11_answersHello 42 = .ok (.iconst 1, 1) := by decide +kernel
theorem dX11_answersHello_43 : decode cX11_answersHello 43 = .ok (.iastore, 1) := by decide +kernel
theorem dX11_answersHello_44 : decode cX11_answersHello 44 = .ok (.aload_n 0, 1) := by decide +kernel
theorem dX11_answersHello_45 : decode cX11_answersHello 45 = .ok (.getfield 26, 3) := by decide +kernel
theorem dX11_answersHello_48 : decode cX11_answersHello 48 = .ok (.iconst 1, 1) := by decide +kernel
theorem dX11_answersHello_49 : decode cX11_answersHello 49 = .ok (.aload_n 0, 1) := by decide +kernel
theorem dX11_answersHello_50 : decode cX11_answersHello 50 = .ok (.getfield 116, 3) := by decide +kernel
theorem dX11_answersHello_53 : decode cX11_answersHello 53 = .ok (.iconst 5, 1) := by decide +kernel
theorem dX11_answersHello_54 : decode cX11_answersHello 54 = .ok (.iaload, 1) := by decide +kernel
theorem dX11_answersHello_55 : decode cX11_answersHello 55 = .ok (.aload_n 0, 1) := by decide +kernel
theorem dX11_answersHello_56 : decode cX11_answersHello 56 = .ok (.getfield 116, 3) := by decide +kernel
theorem dX11_answersHello_59 : decode cX11_answersHello 59 = .ok (.iconst 2, 1) := by decide +kernel
theorem dX11_answersHello_60 : decode cX11_answersHello 60 = .ok (.iaload, 1) := by decide +kernel
theorem dX11_answersHello_61 : decode cX11_answersHello 61 = .ok (.aload_n 0, 1) := by decide +kernel
theorem dX11_answersHello_62 : decode cX11_answersHello 62 = .ok (.getfield 179, 3) := by decide +kernel
theorem dX11_answersHello_65 : decode cX11_answersHello 65 = .ok (.invokestatic 167, 3) := by decide +kernel
theorem dX11_answersHello_68 : decode cX11_answersHello 68 = .ok (.invokestatic 167, 3) := by decide +kernel
theorem dX11_answersHello_71 : decode cX11_answersHello 71 = .ok (.iastore, 1) := by decide +kernel
theorem dX11_answersHello_72 : decode cX11_answersHello 72 = .ok (.aload_n 0, 1) := by decide +kernel
theorem dX11_answersHello_73 : decode cX11_answersHello 73 = .ok (.getfield 29, 3) := by decide +kernel
theorem dX11_answersHello_76 : decode cX11_answersHello 76 = .ok (.iconst 1, 1) := by decide +kernel
theorem dX11_answersHello_77 : decode cX11_answersHello 77 = .ok (.aload_n 0, 1) := by decide +kernel
theorem dX11_answersHello_78 : decode cX11_answersHello 78 = .ok (.getfield 116, 3) := by decide +kernel
theorem dX11_answersHello_81 : decode cX11_answersHello 81 = .ok (.iconst 5, 1) := by decide +kernel
theorem dX11_answersHello_82 : decode cX11_answersHello 82 = .ok (.iaload, 1) := by decide +kernel
theorem dX11_answersHello_83 : decode cX11_answersHello 83 = .ok (.aload_n 0, 1) := by decide +kernel
theorem dX11_answersHello_84 : decode cX11_answersHello 84 = .ok (.getfield 26, 3) := by decide +kernel
theorem dX11_answersHello_87 : decode cX11_answersHello 87 = .ok (.iconst 1, 1) := by decide +kernel
theorem dX11_answersHello_88 : decode cX11_answersHello 88 = .ok (.iaload, 1) := by decide +kernel
theorem dX11_answersHello_89 : decode cX11_answersHello 89 = .ok (.invokestatic 167, 3) := by decide +kernel
theorem dX11_answersHello_92 : decode cX11_answersHello 92 = .ok (.aload_n 0, 1) := by decide +kernel
theorem dX11_answersHello_93 : decode cX11_answersHello 93 = .ok (.getfield 23, 3) := by decide +kernel
theorem dX11_answersHello_96 : decode cX11_answersHello 96 = .ok (.iconst 1, 1) := by decide +kernel
theorem dX11_answersHello_97 : decode cX11_answersHello 97 = .ok (.iaload, 1) := by decide +kernel
theorem dX11_answersHello_98 : decode cX11_answersHello 98 = .ok (.invokestatic 167, 3) := by decide +kernel
theorem dX11_answersHello_101 : decode cX11_answersHello 101 = .ok (.iastore, 1) := by decide +kernel
theorem dX11_answersHello_102 : decode cX11_answersHello 102 = .ok (.aload_n 0, 1) := by decide +kernel
theorem dX11_answersHello_103 : decode cX11_answersHello 103 = .ok (.iconst 1, 1) := by decide +kernel
theorem dX11_answersHello_104 : decode cX11_answersHello 104 = .ok (.iconst 2, 1) := by decide +kernel
theorem dX11_answersHello_105 : decode cX11_answersHello 105 = .ok (.invokevirtual 185, 3) := by decide +kernel
theorem dX11_answersHello_108 : decode cX11_answersHello 108 = .ok (.aload_n 0, 1) := by decide +kernel
theorem dX11_answersHello_109 : decode cX11_answersHello 109 = .ok (.iconst 1, 1) := by decide +kernel
theorem dX11_answersHello_110 : decode cX11_answersHello 110 = .ok (.invokevirtual 253, 3) := by decide +kernel
theorem dX11_answersHello_113 : decode cX11_answersHello 113 = .ok (.aload_n 0, 1) := by decide +kernel
theorem dX11_answersHello_114 : decode cX11_answersHello 114 = .ok (.iconst 1, 1) := by decide +kernel
theorem dX11_answersHello_115 : decode cX11_answersHello 115 = .ok (.iconst 1, 1) := by decide +kernel
theorem dX11_answersHello_116 : decode cX11_answersHello 116 = .ok (.aload_n 0, 1) := by decide +kernel
theorem dX11_answersHello_117 : decode cX11_answersHello 117 = .ok (.getfield 23, 3) := by decide +kernel
theorem dX11_answersHello_120 : decode cX11_answersHello 120 = .ok (.iconst 1, 1) := by decide +kernel
theorem dX11_answersHello_121 : decode cX11_answersHello 121 = .ok (.iaload, 1) := by decide +kernel
theorem dX11_answersHello_122 : decode cX11_answersHello 122 = .ok (.aload_n 0, 1) := by decide +kernel
theorem dX11_answersHello_123 : decode cX11_answersHello 123 = .ok (.getfield 26, 3) := by decide +kernel
theorem dX11_answersHello_126 : decode cX11_answersHello 126 = .ok (.iconst 1, 1) := by decide +kernel
theorem dX11_answersHello_127 : decode cX11_answersHello 127 = .ok (.iaload, 1) := by decide +kernel
theorem dX11_answersHello_128 : decode cX11_answersHello 128 = .ok (.iconst 0, 1) := by decide +kernel
theorem dX11_answersHello_129 : decode cX11_answersHello 129 = .ok (.invokevirtual 189, 3) := by decide +kernel
theorem dX11_answersHello_132 : decode cX11_answersHello 132 = .ok (.pop, 1) := by decide +kernel
theorem dX11_answersHello_133 : decode cX11_answersHello 133 = .ok (.return_, 1) := by decide +kernel
theorem dX11_hasReply_0 : decode cX11_hasReply 0 = .ok (.aload_n 0, 1) := by decide +kernel
theorem dX11_hasReply_1 : decode cX11_hasReply 1 = .ok (.iconst 0, 1) := by decide +kernel
theorem dX11_hasReply_2 : decode cX11_hasReply 2 = .ok (.iconst 3, 1) := by decide +kernel
theorem dX11_hasReply_3 : decode cX11_hasReply 3 = .ok (.invokevirtual 185, 3) := by decide +kernel
theorem dX11_hasReply_6 : decode cX11_hasReply 6 = .ok (.aload_n 0, 1) := by decide +kernel
theorem dX11_hasReply_7 : decode cX11_hasReply 7 = .ok (.getfield 29, 3) := by decide +kernel
theorem dX11_hasReply_10 : decode cX11_hasReply 10 = .ok (.iconst 0, 1) := by decide +kernel
theorem dX11_hasReply_11 : decode cX11_hasReply 11 = .ok (.aload_n 0, 1) := by decide +kernel
theorem dX11_hasReply_12 : decode cX11_hasReply 12 = .ok (.getfield 26, 3) := by decide +kernel
theorem dX11_hasReply_15 : decode cX11_hasReply 15 = .ok (.iconst 0, 1) := by decide +kernel
theorem dX11_hasReply_16 : decode cX11_hasReply 16 = .ok (.iaload, 1) := by decide +kernel
theorem dX11_hasReply_17 : decode cX11_hasReply 17 = .ok (.aload_n 0, 1) := by decide +kernel
theorem dX11_hasReply_18 : decode cX11_hasReply 18 = .ok (.getfield 116, 3) := by decide +kernel
theorem dX11_hasReply_21 : decode cX11_hasReply 21 = .ok (.iconst 5, 1) := by decide +kernel
theorem dX11_hasReply_22 : decode cX11_hasReply 22 = .ok (.iaload, 1) := by decide +kernel
theorem dX11_hasReply_23 : decode cX11_hasReply 23 = .ok (.invokestatic 167, 3) := by decide +kernel
theorem dX11_hasReply_26 : decode cX11_hasReply 26 = .ok (.aload_n 0, 1) := by decide +kernel
theorem dX11_hasReply_27 : decode cX11_hasReply 27 = .ok (.getfield 23, 3) := by decide +kernel
theorem dX11_hasReply_30 : decode cX11_hasReply 30 = .ok (.iconst 0, 1) := by decide +kernel
theorem dX11_hasReply_31 : decode cX11_hasReply 31 = .ok (.iaload, 1) := by decide +kernel
theorem dX11_hasReply_32 : decode cX11_hasReply 32 = .ok (.invokestatic 167, 3) := by decide +kernel
theorem dX11_hasReply_35 : decode cX11_hasReply 35 = .ok (.iastore, 1) := by decide +kernel
theorem dX11_hasReply_36 : decode cX11_hasReply 36 = .ok (.aload_n 0, 1) := by decide +kernel
theorem dX11_hasReply_37 : decode cX11_hasReply 37 = .ok (.iconst 0, 1) := by decide +kernel
theorem dX11_hasReply_38 : decode cX11_hasReply 38 = .ok (.invokevirtual 253, 3) := by decide +kernel
theorem dX11_hasReply_41 : decode cX11_hasReply 41 = .ok (.aload_n 0, 1) := by decide +kernel
theorem dX11_hasReply_42 : decode cX11_hasReply 42 = .ok (.iconst 0, 1) := by decide +kernel
theorem dX11_hasReply_43 : decode cX11_hasReply 43 = .ok (.iconst 3, 1) := by decide +kernel
theorem dX11_hasReply_44 : decode cX11_hasReply 44 = .ok (.iconst 0, 1) := by decide +kernel
theorem dX11_hasReply_45 : decode cX11_hasReply 45 = .ok (.iconst 0, 1) := by decide +kernel
theorem dX11_hasReply_46 : decode cX11_hasReply 46 = .ok (.invokevirtual 175, 3) := by decide +kernel
theorem dX11_hasReply_49 : decode cX11_hasReply 49 = .ok (.pop, 1) := by decide +kernel
theorem dX11_hasReply_50 : decode cX11_hasReply 50 = .ok (.aload_n 0, 1) := by decide +kernel
theorem dX11_hasReply_51 : decode cX11_hasReply 51 = .ok (.iconst 0, 1) := by decide +kernel
theorem dX11_hasReply_52 : decode cX11_hasReply 52 = .ok (.invokevirtual 208, 3) := by decide +kernel
theorem dX11_hasReply_55 : decode cX11_hasReply 55 = .ok (.return_, 1) := by decide +kernel
theorem dX11_issues_0 : decode cX11_issues 0 = .ok (.aload_n 0, 1) := by decide +kernel
theorem dX11_issues_1 : decode cX11_issues 1 = .ok (.iconst 1, 1) := by decide +kernel
theorem dX11_issues_2 : decode cX11_issues 2 = .ok (.iconst 3, 1) := by decide +kernel
theorem dX11_issues_3 : decode cX11_issues 3 = .ok (.invokevirtual 185, 3) := by decide +kernel
theorem dX11_issues_6 : decode cX11_issues 6 = .ok (.aload_n 0, 1) := by decide +kernel
theorem dX11_issues_7 : decode cX11_issues 7 = .ok (.getfield 223, 3) := by decide +kernel
theorem dX11_issues_10 : decode cX11_issues 10 = .ok (.bipush 16, 2) := by decide +kernel
theorem dX11_issues_12 : decode cX11_issues 12 = .ok (.if_icmp .ne 4, 3) := by decide +kernel
theorem dX11_issues_15 : decode cX11_issues 15 = .ok (.return_, 1) := by decide +kernel
theorem dX11_issues_16 : decode cX11_issues 16 = .ok (.aload_n 0, 1) := by decide +kernel
theorem dX11_issues_17 : decode cX11_issues 17 = .ok (.getfield 104, 3) := by decide +kernel
theorem dX11_issues_20 : decode cX11_issues 20 = .ok (.aload_n 0, 1) := by decide +kernel
theorem dX11_issues_21 : decode cX11_issues 21 = .ok (.getfield 223, 3) := by decide +kernel
theorem dX11_issues_24 : decode cX11_issues 24 = .ok (.aload_n 0, 1) := by decide +kernel
theorem dX11_issues_25 : decode cX11_issues 25 = .ok (.getfield 179, 3) := by decide +kernel
theorem dX11_issues_28 : decode cX11_issues 28 = .ok (.iastore, 1) := by decide +kernel
theorem dX11_issues_29 : decode cX11_issues 29 = .ok (.aload_n 0, 1) := by decide +kernel
theorem dX11_issues_30 : decode cX11_issues 30 = .ok (.getfield 107, 3) := by decide +kernel
theorem dX11_issues_33 : decode cX11_issues 33 = .ok (.aload_n 0, 1) := by decide +kernel
theorem dX11_issues_34 : decode cX11_issues 34 = .ok (.getfield 223, 3) := by decide +kernel
theorem dX11_issues_37 : decode cX11_issues 37 = .ok (.iconst 0, 1) := by decide +kernel
theorem dX11_issues_38 : decode cX11_issues 38 = .ok (.iastore, 1) := by decide +kernel
theorem dX11_issues_39 : decode cX11_issues 39 = .ok (.aload_n 0, 1) := by decide +kernel
theorem dX11_issues_40 : decode cX11_issues 40 = .ok (.dup, 1) := by decide +kernel
theorem dX11_issues_41 : decode cX11_issues 41 = .ok (.getfield 223, 3) := by decide +kernel
theorem dX11_issues_44 : decode cX11_issues 44 = .ok (.iconst 1, 1) := by decide +kernel
theorem dX11_issues_45 : decode cX11_issues 45 = .ok (.iadd, 1) := by decide +kernel
theorem dX11_issues_46 : decode cX11_issues 46 = .ok (.putfield 223, 3) := by decide +kernel
theorem dX11_issues_49 : decode cX11_issues 49 = .ok (.aload_n 0, 1) := by decide +kernel
theorem dX11_issues_50 : decode cX11_issues 50 = .ok (.iconst 1, 1) := by decide +kernel
theorem dX11_issues_51 : decode cX11_issues 51 = .ok (.bipush 6, 2) := by decide +kernel
theorem dX11_issues_53 : decode cX11_issues 53 = .ok (.aload_n 0, 1) := by decide +kernel
theorem dX11_issues_54 : decode cX11_issues 54 = .ok (.getfield 223, 3) := by decide +kernel
theorem dX11_issues_57 : decode cX11_issues 57 = .ok (.iconst 1, 1) := by decide +kernel
theorem dX11_issues_58 : decode cX11_issues 58 = .ok (.isub, 1) := by decide +kernel
theorem dX11_issues_59 : decode cX11_issues 59 = .ok (.iconst 0, 1) := by decide +kernel
theorem dX11_issues_60 : decode cX11_issues 60 = .ok (.invokevirtual 175, 3) := by decide +kernel
theorem dX11_issues_63 : decode cX11_issues 63 = .ok (.pop, 1) := by decide +kernel
theorem dX11_issues_64 : decode cX11_issues 64 = .ok (.return_, 1) := by decide +kernel
theorem dX11_hasProtected_0 : decode cX11_hasProtected 0 = .ok (.aload_n 0, 1) := by decide +kernel
theorem dX11_hasProtected_1 : decode cX11_hasProtected 1 = .ok (.getfield 116, 3) := by decide +kernel
theorem dX11_hasProtected_4 : decode cX11_hasProtected 4 = .ok (.iconst 1, 1) := by decide +kernel
theorem dX11_hasProtected_5 : decode cX11_hasProtected 5 = .ok (.iaload, 1) := by decide +kernel
theorem dX11_hasProtected_6 : decode cX11_hasProtected 6 = .ok (.istore_n 2, 1) := by decide +kernel
theorem dX11_hasProtected_7 : decode cX11_hasProtected 7 = .ok (.aload_n 0, 1) := by decide +kernel
theorem dX11_hasProtected_8 : decode cX11_hasProtected 8 = .ok (.iload_n 1, 1) := by decide +kernel
theorem dX11_hasProtected_9 : decode cX11_hasProtected 9 = .ok (.aload_n 0, 1) := by decide +kernel
theorem dX11_hasProtected_10 : decode cX11_hasProtected 10 = .ok (.getfield 116, 3) := by decide +kernel
theorem dX11_hasProtected_13 : decode cX11_hasProtected 13 = .ok (.iconst 3, 1) := by decide +kernel
theorem dX11_hasProtected_14 : decode cX11_hasProtected 14 = .ok (.iaload, 1) := by decide +kernel
theorem dX11_hasProtected_15 : decode cX11_hasProtected 15 = .ok (.aload_n 0, 1) := by decide +kernel
theorem dX11_hasProtected_16 : decode cX11_hasProtected 16 = .ok (.getfield 116, 3) := by decide +kernel
theorem dX11_hasProtected_19 : decode cX11_hasProtected 19 = .ok (.iconst 4, 1) := by decide +kernel
theorem dX11_hasProtected_20 : decode cX11_hasProtected 20 = .ok (.iaload, 1) := by decide +kernel
theorem dX11_hasProtected_21 : decode cX11_hasProtected 21 = .ok (.invokevirtual 256, 3) := by decide +kernel
theorem dX11_hasProtected_24 : decode cX11_hasProtected 24 = .ok (.aload_n 0, 1) := by decide +kernel
theorem dX11_hasProtected_25 : decode cX11_hasProtected 25 = .ok (.getfield 19, 3) := by decide +kernel
theorem dX11_hasProtected_28 : decode cX11_hasProtected 28 = .ok (.iload_n 1, 1) := by decide +kernel
theorem dX11_hasProtected_29 : decode cX11_hasProtected 29 = .ok (.iaload, 1) := by decide +kernel
theorem dX11_hasProtected_30 : decode cX11_hasProtected 30 = .ok (.iconst 2, 1) := by decide +kernel
theorem dX11_hasProtected_31 : decode cX11_hasProtected 31 = .ok (.if_icmp .ne 7, 3) := by decide +kernel
theorem dX11_hasProtected_34 : decode cX11_hasProtected 34 = .ok (.aload_n 0, 1) := by decide +kernel
theorem dX11_hasProtected_35 : decode cX11_hasProtected 35 = .ok (.invokevirtual 259, 3) := by decide +kernel
theorem dX11_hasProtected_38 : decode cX11_hasProtected 38 = .ok (.aload_n 0, 1) := by decide +kernel
theorem dX11_hasProtected_39 : decode cX11_hasProtected 39 = .ok (.iload_n 1, 1) := by decide +kernel
theorem dX11_hasProtected_40 : decode cX11_hasProtected 40 = .ok (.aload_n 0, 1) := by decide +kernel
theorem dX11_hasProtected_41 : decode cX11_hasProtected 41 = .ok (.getfield 116, 3) := by decide +kernel
theorem dX11_hasProtected_44 : decode cX11_hasProtected 44 = .ok (.bipush 7, 2) := by decide +kernel
theorem dX11_hasProtected_46 : decode cX11_hasProtected 46 = .ok (.iaload, 1) := by decide +kernel
theorem dX11_hasProtected_47 : decode cX11_hasProtected 47 = .ok (.invokevirtual 262, 3) := by decide +kernel
theorem dX11_hasProtected_50 : decode cX11_hasProtected 50 = .ok (.iload_n 2, 1) := by decide +kernel
theorem dX11_hasProtected_51 : decode cX11_hasProtected 51 = .ok (.bipush 6, 2) := by decide +kernel
theorem dX11_hasProtected_53 : decode cX11_hasProtected 53 = .ok (.if_icmp .ne 13, 3) := by decide +kernel
theorem dX11_hasProtected_56 : decode cX11_hasProtected 56 = .ok (.aload_n 0, 1) := by decide +kernel
theorem dX11_hasProtected_57 : decode cX11_hasProtected 57 = .ok (.aload_n 0, 1) := by decide +kernel
theorem dX11_hasProtected_58 : decode cX11_hasProtected 58 = .ok (.getfield 116, 3) := by decide +kernel
theorem dX11_hasProtected_61 : decode cX11_hasProtected 61 = .ok (.iconst 5, 1) := by decide +kernel
theorem dX11_hasProtected_62 : decode cX11_hasProtected 62 = .ok (.iaload, 1) := by decide +kernel
theorem dX11_hasProtected_63 : decode cX11_hasProtected 63 = .ok (.putfield 98, 3) := by decide +kernel
theorem dX11_hasProtected_66 : decode cX11_hasProtected 66 = .ok (.iload_n 2, 1) := by decide +kernel
theorem dX11_hasProtected_67 : decode cX11_hasProtected 67 = .ok (.iconst 4, 1) := by decide +kernel
theorem dX11_hasProtected_68 : decode cX11_hasProtected 68 = .ok (.if_icmp .eq 9, 3) := by decide +kernel
theorem dX11_hasProtected_71 : decode cX11_hasProtected 71 = .ok (.iload_n 2, 1) := by decide +kernel
theorem dX11_hasProtected_72 : decode cX11_hasProtected 72 = .ok (.bipush 7, 2) := by decide +kernel
theorem dX11_hasProtected_74 : decode cX11_hasProtected 74 = .ok (.if_icmp .ne 41, 3) := by decide +kernel
theorem dX11_hasProtected_77 : decode cX11_hasProtected 77 = .ok (.aload_n 0, 1) := by decide +kernel
theorem dX11_hasProtected_78 : decode cX11_hasProtected 78 = .ok (.iload_n 1, 1) := by decide +kernel
theorem dX11_hasProtected_79 : decode cX11_hasProtected 79 = .ok (.aload_n 0, 1) := by decide +kernel
theorem dX11_hasProtected_80 : decode cX11_hasProtected 80 = .ok (.getfield 116, 3) := by decide +kernel
theorem dX11_hasProtected_83 : decode cX11_hasProtected 83 = .ok (.iconst 5, 1) := by decide +kernel
theorem dX11_hasProtected_84 : decode cX11_hasProtected 84 = .ok (.iaload, 1) := by decide +kernel
theorem dX11_hasProtected_85 : decode cX11_hasProtected 85 = .ok (.aload_n 0, 1) := by decide +kernel
theorem dX11_hasProtected_86 : decode cX11_hasProtected 86 = .ok (.getfield 116, 3) := by decide +kernel
theorem dX11_hasProtected_89 : decode cX11_hasProtected 89 = .ok (.bipush 6, 2) := by decide +kernel
theorem dX11_hasProtected_91 : decode cX11_hasProtected 91 = .ok (.iaload, 1) := by decide +kernel
theorem dX11_hasProtected_92 : decode cX11_hasProtected 92 = .ok (.iload_n 2, 1) := by decide +kernel
theorem dX11_hasProtected_93 : decode cX11_hasProtected 93 = .ok (.bipush 7, 2) := by decide +kernel
theorem dX11_hasProtected_95 : decode cX11_hasProtected 95 = .ok (.if_icmp .ne 7, 3) := by decide +kernel
theorem dX11_hasProtected_98 : decode cX11_hasProtected 98 = .ok (.iconst 1, 1) := by decide +kernel
theorem dX11_hasProtected_99 : decode cX11_hasProtected 99 = .ok (.goto 4, 3) := by decide +kernel
theorem dX11_hasProtected_102 : decode cX11_hasProtected 102 = .ok (.iconst 0, 1) := by decide +kernel
theorem dX11_hasProtected_103 : decode cX11_hasProtected 103 = .ok (.invokevirtual 265, 3) := by decide +kernel
theorem dX11_hasProtected_106 : decode cX11_hasProtected 106 = .ok (.aload_n 0, 1) := by decide +kernel
theorem dX11_hasProtected_107 : decode cX11_hasProtected 107 = .ok (.iload_n 1, 1) := by decide +kernel
theorem dX11_hasProtected_108 : decode cX11_hasProtected 108 = .ok (.iconst 5, 1) := by decide +kernel
theorem dX11_hasProtected_109 : decode cX11_hasProtected 109 = .ok (.iconst 0, 1) := by decide +kernel
theorem dX11_hasProtected_110 : decode cX11_hasProtected 110 = .ok (.iconst 0, 1) := by decide +kernel
theorem dX11_hasProtected_111 : decode cX11_hasProtected 111 = .ok (.invokevirtual 175, 3) := by decide +kernel
theorem dX11_hasProtected_114 : decode cX11_hasProtected 114 = .ok (.pop, 1) := by decide +kernel
theorem dX11_hasProtected_115 : decode cX11_hasProtected 115 = .ok (.aload_n 0, 1) := by decide +kernel
theorem dX11_hasProtected_116 : decode cX11_hasProtected 116 = .ok (.iload_n 1, 1) := by decide +kernel
theorem dX11_hasProtected_117 : decode cX11_hasProtected 117 = .ok (.invokevirtual 208, 3) := by decide +kernel
theorem dX11_hasProtected_120 : decode cX11_hasProtected 120 = .ok (.aload_n 0, 1) := by decide +kernel
theorem dX11_hasProtected_121 : decode cX11_hasProtected 121 = .ok (.getfield 65, 3) := by decide +kernel
theorem dX11_hasProtected_124 : decode cX11_hasProtected 124 = .ok (.iload_n 1, 1) := by decide +kernel
theorem dX11_hasProtected_125 : decode cX11_hasProtected 125 = .ok (.iaload, 1) := by decide +kernel
theorem dX11_hasProtected_126 : decode cX11_hasProtected 126 = .ok (.ifCond .lt 43, 3) := by decide +kernel
theorem dX11_hasProtected_129 : decode cX11_hasProtected 129 = .ok (.aload_n 0, 1) := by decide +kernel
theorem dX11_hasProtected_130 : decode cX11_hasProtected 130 = .ok (.getfield 62, 3) := by decide +kernel
theorem dX11_hasProtected_133 : decode cX11_hasProtected 133 = .ok (.iload_n 1, 1) := by decide +kernel
theorem dX11_hasProtected_134 : decode cX11_hasProtected 134 = .ok (.iaload, 1) := by decide +kernel
theorem dX11_hasProtected_135 : decode cX11_hasProtected 135 = .ok (.ifCond .lt 34, 3) := by decide +kernel
theorem dX11_hasProtected_138 : decode cX11_hasProtected 138 = .ok (.aload_n 0, 1) := by decide +kernel
theorem dX11_hasProtected_139 : decode cX11_hasProtected 139 = .ok (.getfield 71, 3) := by decide +kernel
theorem dX11_hasProtected_142 : decode cX11_hasProtected 142 = .ok (.iload_n 1, 1) := by decide +kernel
theorem dX11_hasProtected_143 : decode cX11_hasProtected 143 = .ok (.iaload, 1) := by decide +kernel
theorem dX11_hasProtected_144 : decode cX11_hasProtected 144 = .ok (.ifCond .eq 21, 3) := by decide +kernel
theorem dX11_hasProtected_147 : decode cX11_hasProtected 147 = .ok (.aload_n 0, 1) := by decide +kernel
theorem dX11_hasProtected_148 : decode cX11_hasProtected 148 = .ok (.getfield 77, 3) := by decide +kernel
theorem dX11_hasProtected_151 : decode cX11_hasProtected 151 = .ok (.bipush 16, 2) := by decide +kernel
theorem dX11_hasProtected_153 : decode cX11_hasProtected 153 = .ok (.iload_n 1, 1) := by decide +kernel
theorem dX11_hasProtected_154 : decode cX11_hasProtected 154 = .ok (.imul, 1) := by decide +kernel
theorem dX11_hasProtected_155 : decode cX11_hasProtected 155 = .ok (.iaload, 1) := by decide +kernel
theorem dX11_hasProtected_156 : decode cX11_hasProtected 156 = .ok (.aload_n 0, 1) := by decide +kernel
theorem dX11_hasProtected_157 : decode cX11_hasProtected 157 = .ok (.getfield 62, 3) := by decide +kernel
theorem dX11_hasProtected_160 : decode cX11_hasProtected 160 = .ok (.iload_n 1, 1) := by decide +kernel
theorem dX11_hasProtected_161 : decode cX11_hasProtected 161 = .ok (.iaload, 1) := by decide +kernel
theorem dX11_hasProtected_162 : decode cX11_hasProtected 162 = .ok (.if_icmp .le 7, 3) := by decide +kernel
theorem dX11_hasProtected_165 : decode cX11_hasProtected 165 = .ok (.iconst 1, 1) := by decide +kernel
theorem dX11_hasProtected_166 : decode cX11_hasProtected 166 = .ok (.goto 4, 3) := by decide +kernel
theorem dX11_hasProtected_169 : decode cX11_hasProtected 169 = .ok (.iconst 0, 1) := by decide +kernel
theorem dX11_hasProtected_170 : decode cX11_hasProtected 170 = .ok (.istore_n 3, 1) := by decide +kernel
theorem dX11_hasProtected_171 : decode cX11_hasProtected 171 = .ok (.aload_n 0, 1) := by decide +kernel
theorem dX11_hasProtected_172 : decode cX11_hasProtected 172 = .ok (.getfield 19, 3) := by decide +kernel
theorem dX11_hasProtected_175 : decode cX11_hasProtected 175 = .ok (.iload_n 1, 1) := by decide +kernel
theorem dX11_hasProtected_176 : decode cX11_hasProtected 176 = .ok (.iaload, 1) := by decide +kernel
theorem dX11_hasProtected_177 : decode cX11_hasProtected 177 = .ok (.iconst 3, 1) := by decide +kernel
theorem dX11_hasProtected_178 : decode cX11_hasProtected 178 = .ok (.if_icmp .ne 13, 3) := by decide +kernel
theorem dX11_hasProtected_181 : decode cX11_hasProtected 181 = .ok (.iload_n 3, 1) := by decide +kernel
theorem dX11_hasProtected_182 : decode cX11_hasProtected 182 = .ok (.ifCond .eq 9, 3) := by decide +kernel
theorem dX11_hasProtected_185 : decode cX11_hasProtected 185 = .ok (.aload_n 0, 1) := by decide +kernel
theorem dX11_hasProtected_186 : decode cX11_hasProtected 186 = .ok (.iload_n 1, 1) := by decide +kernel
theorem dX11_hasProtected_187 : decode cX11_hasProtected 187 = .ok (.iconst 4, 1) := by decide +kernel
theorem dX11_hasProtected_188 : decode cX11_hasProtected 188 = .ok (.invokevirtual 185, 3) := by decide +kernel
theorem dX11_hasProtected_191 : decode cX11_hasProtected 191 = .ok (.return_, 1) := by decide +kernel
theorem dX11_removes_0 : decode cX11_removes 0 = .ok (.aload_n 0, 1) := by decide +kernel
theorem dX11_removes_1 : decode cX11_removes 1 = .ok (.dup, 1) := by decide +kernel
theorem dX11_removes_2 : decode cX11_removes 2 = .ok (.getfield 153, 3) := by decide +kernel
theorem dX11_removes_5 : decode cX11_removes 5 = .ok (.iconst 1, 1) := by decide +kernel
theorem dX11_removes_6 : decode cX11_removes 6 = .ok (.isub, 1) := by decide +kernel
theorem dX11_removes_7 : decode cX11_removes 7 = .ok (.putfield 153, 3) := by decide +kernel
theorem dX11_removes_10 : decode cX11_removes 10 = .ok (.bipush 9, 2) := by decide +kernel
theorem dX11_removes_12 : decode cX11_removes 12 = .ok (.iload_n 1, 1) := by decide +kernel
theorem dX11_removes_13 : decode cX11_removes 13 = .ok (.imul, 1) := by decide +kernel
theorem dX11_removes_14 : decode cX11_removes 14 = .ok (.istore_n 2, 1) := by decide +kernel
theorem dX11_removes_15 : decode cX11_removes 15 = .ok (.iload_n 2, 1) := by decide +kernel
theorem dX11_removes_16 : decode cX11_removes 16 = .ok (.bipush 9, 2) := by decide +kernel
theorem dX11_removes_18 : decode cX11_removes 18 = .ok (.aload_n 0, 1) := by decide +kernel
theorem dX11_removes_19 : decode cX11_removes 19 = .ok (.getfield 153, 3) := by decide +kernel
theorem dX11_removes_22 : decode cX11_removes 22 = .ok (.imul, 1) := by decide +kernel
theorem dX11_removes_23 : decode cX11_removes 23 = .ok (.if_icmp .ge 24, 3) := by decide +kernel
theorem dX11_removes_26 : decode cX11_removes 26 = .ok (.aload_n 0, 1) := by decide +kernel
theorem dX11_removes_27 : decode cX11_removes 27 = .ok (.getfield 113, 3) := by decide +kernel
theorem dX11_removes_30 : decode cX11_removes 30 = .ok (.iload_n 2, 1) := by decide +kernel
theorem dX11_removes_31 : decode cX11_removes 31 = .ok (.aload_n 0, 1) := by decide +kernel
theorem dX11_removes_32 : decode cX11_removes 32 = .ok (.getfield 113, 3) := by decide +kernel
theorem dX11_removes_35 : decode cX11_removes 35 = .ok (.iload_n 2, 1) := by decide +kernel
theorem dX11_removes_36 : decode cX11_removes 36 = .ok (.bipush 9, 2) := by decide +kernel
theorem dX11_removes_38 : decode cX11_removes 38 = .ok (.iadd, 1) := by decide +kernel
theorem dX11_removes_39 : decode cX11_removes 39 = .ok (.iaload, 1) := by decide +kernel
theorem dX11_removes_40 : decode cX11_removes 40 = .ok (.iastore, 1) := by decide +kernel
theorem dX11_removes_41 : decode cX11_removes 41 = .ok (.iinc 2 1, 3) := by decide +kernel
theorem dX11_removes_44 : decode cX11_removes 44 = .ok (.goto (-29), 3) := by decide +kernel
theorem dX11_removes_47 : decode cX11_removes 47 = .ok (.return_, 1) := by decide +kernel
theorem dX11_deliver_0 : decode cX11_deliver 0 = .ok (.aload_n 0, 1) := by decide +kernel
theorem dX11_deliver_1 : decode cX11_deliver 1 = .ok (.iload_n 1, 1) := by decide +kernel
theorem dX11_deliver_2 : decode cX11_deliver 2 = .ok (.invokevirtual 268, 3) := by decide +kernel
theorem dX11_deliver_5 : decode cX11_deliver 5 = .ok (.ifCond .ne 6, 3) := by decide +kernel
theorem dX11_deliver_8 : decode cX11_deliver 8 = .ok (.ldc 204, 2) := by decide +kernel
theorem dX11_deliver_10 : decode cX11_deliver 10 = .ok (.ireturn, 1) := by decide +kernel
theorem dX11_deliver_11 : decode cX11_deliver 11 = .ok (.aload_n 0, 1) := by decide +kernel
theorem dX11_deliver_12 : decode cX11_deliver 12 = .ok (.iload_n 1, 1) := by decide +kernel
theorem dX11_deliver_13 : decode cX11_deliver 13 = .ok (.invokevirtual 271, 3) := by decide +kernel
theorem dX11_deliver_16 : decode cX11_deliver 16 = .ok (.istore_n 2, 1) := by decide +kernel
theorem dX11_deliver_17 : decode cX11_deliver 17 = .ok (.iconst 0, 1) := by decide +kernel
theorem dX11_deliver_18 : decode cX11_deliver 18 = .ok (.istore_n 3, 1) := by decide +kernel
theorem dX11_deliver_19 : decode cX11_deliver 19 = .ok (.iload_n 3, 1) := by decide +kernel
theorem dX11_deliver_20 : decode cX11_deliver 20 = .ok (.bipush 9, 2) := by decide +kernel
theorem dX11_deliver_22 : decode cX11_deliver 22 = .ok (.if_icmp .ge 21, 3) := by decide +kernel
theorem dX11_deliver_25 : decode cX11_deliver 25 = .ok (.aload_n 0, 1) := by decide +kernel
theorem dX11_deliver_26 : decode cX11_deliver 26 = .ok (.getfield 116, 3) := by decide +kernel
theorem dX11_deliver_29 : decode cX11_deliver 29 = .ok (.iload_n 3, 1) := by decide +kernel
theorem dX11_deliver_30 : decode cX11_deliver 30 = .ok (.aload_n 0, 1) := by decide +kernel
theorem dX11_deliver_31 : decode cX11_deliver 31 = .ok (.iload_n 1, 1) := by decide +kernel
theorem dX11_deliver_32 : decode cX11_deliver 32 = .ok (.iload_n 3, 1) := by decide +kernel
theorem dX11_deliver_33 : decode cX11_deliver 33 = .ok (.invokevirtual 229, 3) := by decide +kernel
theorem dX11_deliver_36 : decode cX11_deliver 36 = .ok (.iastore, 1) := by decide +kernel
theorem dX11_deliver_37 : decode cX11_deliver 37 = .ok (.iinc 3 1, 3) := by decide +kernel
theorem dX11_deliver_40 : decode cX11_deliver 40 = .ok (.goto (-21), 3) := by decide +kernel
theorem dX11_deliver_43 : decode cX11_deliver 43 = .ok (.aload_n 0, 1) := by decide +kernel
theorem dX11_deliver_44 : decode cX11_deliver 44 = .ok (.iload_n 1, 1) := by decide +kernel
theorem dX11_deliver_45 : decode cX11_deliver 45 = .ok (.invokevirtual 274, 3) := by decide +kernel
theorem dX11_deliver_48 : decode cX11_deliver 48 = .ok (.iconst 1, 1) := by decide +kernel
theorem dX11_deliver_49 : decode cX11_deliver 49 = .ok (.aload_n 0, 1) := by decide +kernel
theorem dX11_deliver_50 : decode cX11_deliver 50 = .ok (.getfield 116, 3) := by decide +kernel
theorem dX11_deliver_53 : decode cX11_deliver 53 = .ok (.iconst 0, 1) := by decide +kernel
theorem dX11_deliver_54 : decode cX11_deliver 54 = .ok (.iaload, 1) := by decide +kernel
theorem dX11_deliver_55 : decode cX11_deliver 55 = .ok (.isub, 1) := by decide +kernel
theorem dX11_deliver_56 : decode cX11_deliver 56 = .ok (.istore_n 3, 1) := by decide +kernel
theorem dX11_deliver_57 : decode cX11_deliver 57 = .ok (.aload_n 0, 1) := by decide +kernel
theorem dX11_deliver_58 : decode cX11_deliver 58 = .ok (.dup, 1) := by decide +kernel
theorem dX11_deliver_59 : decode cX11_deliver 59 = .ok (.getfield 277, 3) := by decide +kernel
theorem dX11_deliver_62 : decode cX11_deliver 62 = .ok (.iconst 1, 1) := by decide +kernel
theorem dX11_deliver_63 : decode cX11_deliver 63 = .ok (.iadd, 1) := by decide +kernel
theorem dX11_deliver_64 : decode cX11_deliver 64 = .ok (.putfield 277, 3) := by decide +kernel
theorem dX11_deliver_67 : decode cX11_deliver 67 = .ok (.aload_n 0, 1) := by decide +kernel
theorem dX11_deliver_68 : decode cX11_deliver 68 = .ok (.getfield 119, 3) := by decide +kernel
theorem dX11_deliver_71 : decode cX11_deliver 71 = .ok (.bipush 9, 2) := by decide +kernel
theorem dX11_deliver_73 : decode cX11_deliver 73 = .ok (.iload_n 3, 1) := by decide +kernel
theorem dX11_deliver_74 : decode cX11_deliver 74 = .ok (.imul, 1) := by decide +kernel
theorem dX11_deliver_75 : decode cX11_deliver 75 = .ok (.iload_n 2, 1) := by decide +kernel
theorem dX11_deliver_76 : decode cX11_deliver 76 = .ok (.iadd, 1) := by decide +kernel
theorem dX11_deliver_77 : decode cX11_deliver 77 = .ok (.dup2, 1) := by decide +kernel
theorem dX11_deliver_78 : decode cX11_deliver 78 = .ok (.iaload, 1) := by decide +kernel
theorem dX11_deliver_79 : decode cX11_deliver 79 = .ok (.iconst 1, 1) := by decide +kernel
theorem dX11_deliver_80 : decode cX11_deliver 80 = .ok (.iadd, 1) := by decide +kernel
theorem dX11_deliver_81 : decode cX11_deliver 81 = .ok (.iastore, 1) := by decide +kernel
theorem dX11_deliver_82 : decode cX11_deliver 82 = .ok (.aload_n 0, 1) := by decide +kernel
theorem dX11_deliver_83 : decode cX11_deliver 83 = .ok (.iconst 1, 1) := by decide +kernel
theorem dX11_deliver_84 : decode cX11_deliver 84 = .ok (.aload_n 0, 1) := by decide +kernel
theorem dX11_deliver_85 : decode cX11_deliver 85 = .ok (.getfield 116, 3) := by decide +kernel
theorem dX11_deliver_88 : decode cX11_deliver 88 = .ok (.iconst 1, 1) := by decide +kernel
theorem dX11_deliver_89 : decode cX11_deliver 89 = .ok (.iaload, 1) := by decide +kernel
theorem dX11_deliver_90 : decode cX11_deliver 90 = .ok (.iload_n 2, 1) := by decide +kernel
theorem dX11_deliver_91 : decode cX11_deliver 91 = .ok (.invokevirtual 142, 3) := by decide +kernel
theorem dX11_deliver_94 : decode cX11_deliver 94 = .ok (.iload_n 2, 1) := by decide +kernel
theorem dX11_deliver_95 : decode cX11_deliver 95 = .ok (.bipush 8, 2) := by decide +kernel
theorem dX11_deliver_97 : decode cX11_deliver 97 = .ok (.if_icmp .ne 18, 3) := by decide +kernel
theorem dX11_deliver_100 : decode cX11_deliver 100 = .ok (.aload_n 0, 1) := by decide +kernel
theorem dX11_deliver_101 : decode cX11_deliver 101 = .ok (.iconst 1, 1) := by decide +kernel
theorem dX11_deliver_102 : decode cX11_deliver 102 = .ok (.iconst 2, 1) := by decide +kernel
theorem dX11_deliver_103 : decode cX11_deliver 103 = .ok (.aload_n 0, 1) := by decide +kernel
theorem dX11_deliver_104 : decode cX11_deliver 104 = .ok (.getfield 116, 3) := by decide +kernel
theorem dX11_deliver_107 : decode cX11_deliver 107 = .ok (.iconst 2, 1) := by decide +kernel
theorem dX11_deliver_108 : decode cX11_deliver 108 = .ok (.iaload, 1) := by decide +kernel
theorem dX11_deliver_109 : decode cX11_deliver 109 = .ok (.iconst 0, 1) := by decide +kernel
theorem dX11_deliver_110 : decode cX11_deliver 110 = .ok (.iconst 0, 1) := by decide +kernel
theorem dX11_deliver_111 : decode cX11_deliver 111 = .ok (.invokevirtual 189, 3) := by decide +kernel
theorem dX11_deliver_114 : decode cX11_deliver 114 = .ok (.pop, 1) := by decide +kernel
theorem dX11_deliver_115 : decode cX11_deliver 115 = .ok (.iload_n 2, 1) := by decide +kernel
theorem dX11_deliver_116 : decode cX11_deliver 116 = .ok (.ifCond .eq 5, 3) := by decide +kernel
theorem dX11_deliver_119 : decode cX11_deliver 119 = .ok (.iload_n 2, 1) := by decide +kernel
theorem dX11_deliver_120 : decode cX11_deliver 120 = .ok (.ireturn, 1) := by decide +kernel
theorem dX11_deliver_121 : decode cX11_deliver 121 = .ok (.aload_n 0, 1) := by decide +kernel
theorem dX11_deliver_122 : decode cX11_deliver 122 = .ok (.getfield 116, 3) := by decide +kernel
theorem dX11_deliver_125 : decode cX11_deliver 125 = .ok (.iconst 1, 1) := by decide +kernel
theorem dX11_deliver_126 : decode cX11_deliver 126 = .ok (.iaload, 1) := by decide +kernel
theorem dX11_deliver_127 : decode cX11_deliver 127 = .ok (.tableswitch 48 0 2 #[25, 32, 39], 25) := by decide +kernel
theorem dX11_deliver_152 : decode cX11_deliver 152 = .ok (.aload_n 0, 1) := by decide +kernel
theorem dX11_deliver_153 : decode cX11_deliver 153 = .ok (.invokevirtual 280, 3) := by decide +kernel
theorem dX11_deliver_156 : decode cX11_deliver 156 = .ok (.goto 24, 3) := by decide +kernel
theorem dX11_deliver_159 : decode cX11_deliver 159 = .ok (.aload_n 0, 1) := by decide +kernel
theorem dX11_deliver_160 : decode cX11_deliver 160 = .ok (.invokevirtual 283, 3) := by decide +kernel
theorem dX11_deliver_163 : decode cX11_deliver 163 = .ok (.goto 17, 3) := by decide +kernel
theorem dX11_deliver_166 : decode cX11_deliver 166 = .ok (.aload_n 0, 1) := by decide +kernel
theorem dX11_deliver_167 : decode cX11_deliver 167 = .ok (.iconst 0, 1) := by decide +kernel
theorem dX11_deliver_168 : decode cX11_deliver 168 = .ok (.iconst 0, 1) := by decide +kernel
theorem dX11_deliver_169 : decode cX11_deliver 169 = .ok (.invokevirtual 185, 3) := by decide +kernel
theorem dX11_deliver_172 : decode cX11_deliver 172 = .ok (.goto 8, 3) := by decide +kernel
theorem dX11_deliver_175 : decode cX11_deliver 175 = .ok (.aload_n 0, 1) := by decide +kernel
theorem dX11_deliver_176 : decode cX11_deliver 176 = .ok (.iload_n 3, 1) := by decide +kernel
theorem dX11_deliver_177 : decode cX11_deliver 177 = .ok (.invokevirtual 286, 3) := by decide +kernel
theorem dX11_deliver_180 : decode cX11_deliver 180 = .ok (.iconst 0, 1) := by decide +kernel
theorem dX11_deliver_181 : decode cX11_deliver 181 = .ok (.ireturn, 1) := by decide +kernel
theorem dX11_foresee_0 : decode cX11_foresee 0 = .ok (.aload_n 0, 1) := by decide +kernel
theorem dX11_foresee_1 : decode cX11_foresee 1 = .ok (.iload_n 1, 1) := by decide +kernel
theorem dX11_foresee_2 : decode cX11_foresee 2 = .ok (.invokevirtual 268, 3) := by decide +kernel
theorem dX11_foresee_5 : decode cX11_foresee 5 = .ok (.ifCond .eq 11, 3) := by decide +kernel
theorem dX11_foresee_8 : decode cX11_foresee 8 = .ok (.aload_n 0, 1) := by decide +kernel
theorem dX11_foresee_9 : decode cX11_foresee 9 = .ok (.iload_n 1, 1) := by decide +kernel
theorem dX11_foresee_10 : decode cX11_foresee 10 = .ok (.invokevirtual 271, 3) := by decide +kernel
theorem dX11_foresee_13 : decode cX11_foresee 13 = .ok (.goto 5, 3) := by decide +kernel
theorem dX11_foresee_16 : decode cX11_foresee 16 = .ok (.ldc 204, 2) := by decide +kernel
theorem dX11_foresee_18 : decode cX11_foresee 18 = .ok (.ireturn, 1) := by decide +kernel
theorem dX11_drop_0 : decode cX11_drop 0 = .ok (.aload_n 0, 1) := by decide +kernel
theorem dX11_drop_1 : decode cX11_drop 1 = .ok (.iload_n 1, 1) := by decide +kernel
theorem dX11_drop_2 : decode cX11_drop 2 = .ok (.invokevirtual 268, 3) := by decide +kernel
theorem dX11_drop_5 : decode cX11_drop 5 = .ok (.ifCond .ne 6, 3) := by decide +kernel
theorem dX11_drop_8 : decode cX11_drop 8 = .ok (.ldc 204, 2) := by decide +kernel
theorem dX11_drop_10 : decode cX11_drop 10 = .ok (.ireturn, 1) := by decide +kernel
theorem dX11_drop_11 : decode cX11_drop 11 = .ok (.aload_n 0, 1) := by decide +kernel
theorem dX11_drop_12 : decode cX11_drop 12 = .ok (.dup, 1) := by decide +kernel
theorem dX11_drop_13 : decode cX11_drop 13 = .ok (.getfield 205, 3) := by decide +kernel
theorem dX11_drop_16 : decode cX11_drop 16 = .ok (.iconst 1, 1) := by decide +kernel
theorem dX11_drop_17 : decode cX11_drop 17 = .ok (.iadd, 1) := by decide +kernel
theorem dX11_drop_18 : decode cX11_drop 18 = .ok (.putfield 205, 3) := by decide +kernel
theorem dX11_drop_21 : decode cX11_drop 21 = .ok (.aload_n 0, 1) := by decide +kernel
theorem dX11_drop_22 : decode cX11_drop 22 = .ok (.iconst 2, 1) := by decide +kernel
theorem dX11_drop_23 : decode cX11_drop 23 = .ok (.aload_n 0, 1) := by decide +kernel
theorem dX11_drop_24 : decode cX11_drop 24 = .ok (.iload_n 1, 1) := by decide +kernel
theorem dX11_drop_25 : decode cX11_drop 25 = .ok (.iconst 0, 1) := by decide +kernel
theorem dX11_drop_26 : decode cX11_drop 26 = .ok (.invokevirtual 229, 3) := by decide +kernel
theorem dX11_drop_29 : decode cX11_drop 29 = .ok (.aload_n 0, 1) := by decide +kernel
theorem dX11_drop_30 : decode cX11_drop 30 = .ok (.iload_n 1, 1) := by decide +kernel
theorem dX11_drop_31 : decode cX11_drop 31 = .ok (.iconst 1, 1) := by decide +kernel
theorem dX11_drop_32 : decode cX11_drop 32 = .ok (.invokevirtual 229, 3) := by decide +kernel
theorem dX11_drop_35 : decode cX11_drop 35 = .ok (.invokevirtual 142, 3) := by decide +kernel
theorem dX11_drop_38 : decode cX11_drop 38 = .ok (.aload_n 0, 1) := by decide +kernel
theorem dX11_drop_39 : decode cX11_drop 39 = .ok (.iload_n 1, 1) := by decide +kernel
theorem dX11_drop_40 : decode cX11_drop 40 = .ok (.invokevirtual 274, 3) := by decide +kernel
theorem dX11_drop_43 : decode cX11_drop 43 = .ok (.aload_n 0, 1) := by decide +kernel
theorem dX11_drop_44 : decode cX11_drop 44 = .ok (.getfield 153, 3) := by decide +kernel
theorem dX11_drop_47 : decode cX11_drop 47 = .ok (.ireturn, 1) := by decide +kernel
theorem dX11_repeat_0 : decode cX11_repeat 0 = .ok (.aload_n 0, 1) := by decide +kernel
theorem dX11_repeat_1 : decode cX11_repeat 1 = .ok (.iload_n 1, 1) := by decide +kernel
theorem dX11_repeat_2 : decode cX11_repeat 2 = .ok (.invokevirtual 268, 3) := by decide +kernel
theorem dX11_repeat_5 : decode cX11_repeat 5 = .ok (.ifCond .ne 6, 3) := by decide +kernel
theorem dX11_repeat_8 : decode cX11_repeat 8 = .ok (.ldc 204, 2) := by decide +kernel
theorem dX11_repeat_10 : decode cX11_repeat 10 = .ok (.ireturn, 1) := by decide +kernel
theorem dX11_repeat_11 : decode cX11_repeat 11 = .ok (.aload_n 0, 1) := by decide +kernel
theorem dX11_repeat_12 : decode cX11_repeat 12 = .ok (.invokevirtual 159, 3) := by decide +kernel
theorem dX11_repeat_15 : decode cX11_repeat 15 = .ok (.ifCond .ne 6, 3) := by decide +kernel
theorem dX11_repeat_18 : decode cX11_repeat 18 = .ok (.ldc 197, 2) := by decide +kernel
theorem dX11_repeat_20 : decode cX11_repeat 20 = .ok (.ireturn, 1) := by decide +kernel
theorem dX11_repeat_21 : decode cX11_repeat 21 = .ok (.iconst 0, 1) := by decide +kernel
theorem dX11_repeat_22 : decode cX11_repeat 22 = .ok (.istore_n 2, 1) := by decide +kernel
theorem dX11_repeat_23 : decode cX11_repeat 23 = .ok (.iload_n 2, 1) := by decide +kernel
theorem dX11_repeat_24 : decode cX11_repeat 24 = .ok (.bipush 9, 2) := by decide +kernel
theorem dX11_repeat_26 : decode cX11_repeat 26 = .ok (.if_icmp .ge 29, 3) := by decide +kernel
theorem dX11_repeat_29 : decode cX11_repeat 29 = .ok (.aload_n 0, 1) := by decide +kernel
theorem dX11_repeat_30 : decode cX11_repeat 30 = .ok (.getfield 113, 3) := by decide +kernel
theorem dX11_repeat_33 : decode cX11_repeat 33 = .ok (.bipush 9, 2) := by decide +kernel
theorem dX11_repeat_35 : decode cX11_repeat 35 = .ok (.aload_n 0, 1) := by decide +kernel
theorem dX11_repeat_36 : decode cX11_repeat 36 = .ok (.getfield 153, 3) := by decide +kernel
theorem dX11_repeat_39 : decode cX11_repeat 39 = .ok (.imul, 1) := by decide +kernel
theorem dX11_repeat_40 : decode cX11_repeat 40 = .ok (.iload_n 2, 1) := by decide +kernel
theorem dX11_repeat_41 : decode cX11_repeat 41 = .ok (.iadd, 1) := by decide +kernel
theorem dX11_repeat_42 : decode cX11_repeat 42 = .ok (.aload_n 0, 1) := by decide +kernel
theorem dX11_repeat_43 : decode cX11_repeat 43 = .ok (.iload_n 1, 1) := by decide +kernel
theorem dX11_repeat_44 : decode cX11_repeat 44 = .ok (.iload_n 2, 1) := by decide +kernel
theorem dX11_repeat_45 : decode cX11_repeat 45 = .ok (.invokevirtual 229, 3) := by decide +kernel
theorem dX11_repeat_48 : decode cX11_repeat 48 = .ok (.iastore, 1) := by decide +kernel
theorem dX11_repeat_49 : decode cX11_repeat 49 = .ok (.iinc 2 1, 3) := by decide +kernel
theorem dX11_repeat_52 : decode cX11_repeat 52 = .ok (.goto (-29), 3) := by decide +kernel
theorem dX11_repeat_55 : decode cX11_repeat 55 = .ok (.aload_n 0, 1) := by decide +kernel
theorem dX11_repeat_56 : decode cX11_repeat 56 = .ok (.dup, 1) := by decide +kernel
theorem dX11_repeat_57 : decode cX11_repeat 57 = .ok (.getfield 153, 3) := by decide +kernel
theorem dX11_repeat_60 : decode cX11_repeat 60 = .ok (.iconst 1, 1) := by decide +kernel
theorem dX11_repeat_61 : decode cX11_repeat 61 = .ok (.iadd, 1) := by decide +kernel
theorem dX11_repeat_62 : decode cX11_repeat 62 = .ok (.putfield 153, 3) := by decide +kernel
theorem dX11_repeat_65 : decode cX11_repeat 65 = .ok (.aload_n 0, 1) := by decide +kernel
theorem dX11_repeat_66 : decode cX11_repeat 66 = .ok (.dup, 1) := by decide +kernel
theorem dX11_repeat_67 : decode cX11_repeat 67 = .ok (.getfield 289, 3) := by decide +kernel
theorem dX11_repeat_70 : decode cX11_repeat 70 = .ok (.iconst 1, 1) := by decide +kernel
theorem dX11_repeat_71 : decode cX11_repeat 71 = .ok (.iadd, 1) := by decide +kernel
theorem dX11_repeat_72 : decode cX11_repeat 72 = .ok (.putfield 289, 3) := by decide +kernel
theorem dX11_repeat_75 : decode cX11_repeat 75 = .ok (.aload_n 0, 1) := by decide +kernel
theorem dX11_repeat_76 : decode cX11_repeat 76 = .ok (.getfield 153, 3) := by decide +kernel
theorem dX11_repeat_79 : decode cX11_repeat 79 = .ok (.ireturn, 1) := by decide +kernel
theorem dX11_alter_0 : decode cX11_alter 0 = .ok (.aload_n 0, 1) := by decide +kernel
theorem dX11_alter_1 : decode cX11_alter 1 = .ok (.iload_n 1, 1) := by decide +kernel
theorem dX11_alter_2 : decode cX11_alter 2 = .ok (.invokevirtual 268, 3) := by decide +kernel
theorem dX11_alter_5 : decode cX11_alter 5 = .ok (.ifCond .ne 6, 3) := by decide +kernel
theorem dX11_alter_8 : decode cX11_alter 8 = .ok (.ldc 204, 2) := by decide +kernel
theorem dX11_alter_10 : decode cX11_alter 10 = .ok (.ireturn, 1) := by decide +kernel
theorem dX11_alter_11 : decode cX11_alter 11 = .ok (.iload_n 2, 1) := by decide +kernel
theorem dX11_alter_12 : decode cX11_alter 12 = .ok (.bipush (-99), 2) := by decide +kernel
theorem dX11_alter_14 : decode cX11_alter 14 = .ok (.bipush 99, 2) := by decide +kernel
theorem dX11_alter_16 : decode cX11_alter 16 = .ok (.invokestatic 137, 3) := by decide +kernel
theorem dX11_alter_19 : decode cX11_alter 19 = .ok (.ifCond .ne 6, 3) := by decide +kernel
theorem dX11_alter_22 : decode cX11_alter 22 = .ok (.ldc 141, 2) := by decide +kernel
theorem dX11_alter_24 : decode cX11_alter 24 = .ok (.ireturn, 1) := by decide +kernel
theorem dX11_alter_25 : decode cX11_alter 25 = .ok (.aload_n 0, 1) := by decide +kernel
theorem dX11_alter_26 : decode cX11_alter 26 = .ok (.getfield 113, 3) := by decide +kernel
theorem dX11_alter_29 : decode cX11_alter 29 = .ok (.bipush 9, 2) := by decide +kernel
theorem dX11_alter_31 : decode cX11_alter 31 = .ok (.iload_n 1, 1) := by decide +kernel
theorem dX11_alter_32 : decode cX11_alter 32 = .ok (.imul, 1) := by decide +kernel
theorem dX11_alter_33 : decode cX11_alter 33 = .ok (.bipush 6, 2) := by decide +kernel
theorem dX11_alter_35 : decode cX11_alter 35 = .ok (.iadd, 1) := by decide +kernel
theorem dX11_alter_36 : decode cX11_alter 36 = .ok (.dup2, 1) := by decide +kernel
theorem dX11_alter_37 : decode cX11_alter 37 = .ok (.iaload, 1) := by decide +kernel
theorem dX11_alter_38 : decode cX11_alter 38 = .ok (.iload_n 2, 1) := by decide +kernel
theorem dX11_alter_39 : decode cX11_alter 39 = .ok (.iadd, 1) := by decide +kernel
theorem dX11_alter_40 : decode cX11_alter 40 = .ok (.iastore, 1) := by decide +kernel
theorem dX11_alter_41 : decode cX11_alter 41 = .ok (.aload_n 0, 1) := by decide +kernel
theorem dX11_alter_42 : decode cX11_alter 42 = .ok (.iload_n 1, 1) := by decide +kernel
theorem dX11_alter_43 : decode cX11_alter 43 = .ok (.bipush 6, 2) := by decide +kernel
theorem dX11_alter_45 : decode cX11_alter 45 = .ok (.invokevirtual 229, 3) := by decide +kernel
theorem dX11_alter_48 : decode cX11_alter 48 = .ok (.ireturn, 1) := by decide +kernel
theorem dX11_ticks_0 : decode cX11_ticks 0 = .ok (.aload_n 0, 1) := by decide +kernel
theorem dX11_ticks_1 : decode cX11_ticks 1 = .ok (.dup, 1) := by decide +kernel
theorem dX11_ticks_2 : decode cX11_ticks 2 = .ok (.getfield 179, 3) := by decide +kernel
theorem dX11_ticks_5 : decode cX11_ticks 5 = .ok (.iconst 1, 1) := by decide +kernel
theorem dX11_ticks_6 : decode cX11_ticks 6 = .ok (.iadd, 1) := by decide +kernel
theorem dX11_ticks_7 : decode cX11_ticks 7 = .ok (.putfield 179, 3) := by decide +kernel
theorem dX11_ticks_10 : decode cX11_ticks 10 = .ok (.aload_n 0, 1) := by decide +kernel
theorem dX11_ticks_11 : decode cX11_ticks 11 = .ok (.getfield 19, 3) := by decide +kernel
theorem dX11_ticks_14 : decode cX11_ticks 14 = .ok (.iconst 0, 1) := by decide +kernel
theorem dX11_ticks_15 : decode cX11_ticks 15 = .ok (.iaload, 1) := by decide +kernel
theorem dX11_ticks_16 : decode cX11_ticks 16 = .ok (.iconst 1, 1) := by decide +kernel
theorem dX11_ticks_17 : decode cX11_ticks 17 = .ok (.if_icmp .ne 52, 3) := by decide +kernel
theorem dX11_ticks_20 : decode cX11_ticks 20 = .ok (.aload_n 0, 1) := by decide +kernel
theorem dX11_ticks_21 : decode cX11_ticks 21 = .ok (.getfield 179, 3) := by decide +kernel
theorem dX11_ticks_24 : decode cX11_ticks 24 = .ok (.aload_n 0, 1) := by decide +kernel
theorem dX11_ticks_25 : decode cX11_ticks 25 = .ok (.getfield 193, 3) := by decide +kernel
theorem dX11_ticks_28 : decode cX11_ticks 28 = .ok (.isub, 1) := by decide +kernel
theorem dX11_ticks_29 : decode cX11_ticks 29 = .ok (.aload_n 0, 1) := by decide +kernel
theorem dX11_ticks_30 : decode cX11_ticks 30 = .ok (.getfield 13, 3) := by decide +kernel
theorem dX11_ticks_33 : decode cX11_ticks 33 = .ok (.if_icmp .lt 36, 3) := by decide +kernel
theorem dX11_ticks_36 : decode cX11_ticks 36 = .ok (.aload_n 0, 1) := by decide +kernel
theorem dX11_ticks_37 : decode cX11_ticks 37 = .ok (.iconst 0, 1) := by decide +kernel
theorem dX11_ticks_38 : decode cX11_ticks 38 = .ok (.iconst 0, 1) := by decide +kernel
theorem dX11_ticks_39 : decode cX11_ticks 39 = .ok (.aload_n 0, 1) := by decide +kernel
theorem dX11_ticks_40 : decode cX11_ticks 40 = .ok (.getfield 23, 3) := by decide +kernel
theorem dX11_ticks_43 : decode cX11_ticks 43 = .ok (.iconst 0, 1) := by decide +kernel
theorem dX11_ticks_44 : decode cX11_ticks 44 = .ok (.iaload, 1) := by decide +kernel
theorem dX11_ticks_45 : decode cX11_ticks 45 = .ok (.aload_n 0, 1) := by decide +kernel
theorem dX11_ticks_46 : decode cX11_ticks 46 = .ok (.getfield 26, 3) := by decide +kernel
theorem dX11_ticks_49 : decode cX11_ticks 49 = .ok (.iconst 0, 1) := by decide +kernel
theorem dX11_ticks_50 : decode cX11_ticks 50 = .ok (.iaload, 1) := by decide +kernel
theorem dX11_ticks_51 : decode cX11_ticks 51 = .ok (.aload_n 0, 1) := by decide +kernel
theorem dX11_ticks_52 : decode cX11_ticks 52 = .ok (.getfield 101, 3) := by decide +kernel
theorem dX11_ticks_55 : decode cX11_ticks 55 = .ok (.invokevirtual 189, 3) := by decide +kernel
theorem dX11_ticks_58 : decode cX11_ticks 58 = .ok (.ifCond .eq 11, 3) := by decide +kernel
theorem dX11_ticks_61 : decode cX11_ticks 61 = .ok (.aload_n 0, 1) := by decide +kernel
theorem dX11_ticks_62 : decode cX11_ticks 62 = .ok (.aload_n 0, 1) := by decide +kernel
theorem dX11_ticks_63 : decode cX11_ticks 63 = .ok (.getfield 179, 3) := by decide +kernel
theorem dX11_ticks_66 : decode cX11_ticks 66 = .ok (.putfield 193, 3) := by decide +kernel
theorem dX11_ticks_69 : decode cX11_ticks 69 = .ok (.iconst 0, 1) := by decide +kernel
theorem dX11_ticks_70 : decode cX11_ticks 70 = .ok (.istore_n 1, 1) := by decide +kernel
theorem dX11_ticks_71 : decode cX11_ticks 71 = .ok (.iload_n 1, 1) := by decide +kernel
theorem dX11_ticks_72 : decode cX11_ticks 72 = .ok (.iconst 2, 1) := by decide +kernel
theorem dX11_ticks_73 : decode cX11_ticks 73 = .ok (.if_icmp .ge 95, 3) := by decide +kernel
theorem dX11_ticks_76 : decode cX11_ticks 76 = .ok (.aload_n 0, 1) := by decide +kernel
theorem dX11_ticks_77 : decode cX11_ticks 77 = .ok (.getfield 19, 3) := by decide +kernel
theorem dX11_ticks_80 : decode cX11_ticks 80 = .ok (.iload_n 1, 1) := by decide +kernel
theorem dX11_ticks_81 : decode cX11_ticks 81 = .ok (.iaload, 1) := by decide +kernel
theorem dX11_ticks_82 : decode cX11_ticks 82 = .ok (.iconst 3, 1) := by decide +kernel
theorem dX11_ticks_83 : decode cX11_ticks 83 = .ok (.if_icmp .eq 6, 3) := by decide +kernel
theorem dX11_ticks_86 : decode cX11_ticks 86 = .ok (.goto 76, 3) := by decide +kernel
theorem dX11_ticks_89 : decode cX11_ticks 89 = .ok (.iconst 0, 1) := by decide +kernel
theorem dX11_ticks_90 : decode cX11_ticks 90 = .ok (.istore_n 2, 1) := by decide +kernel
theorem dX11_ticks_91 : decode cX11_ticks 91 = .ok (.iload_n 2, 1) := by decide +kernel
theorem dX11_ticks_92 : decode cX11_ticks 92 = .ok (.aload_n 0, 1) := by decide +kernel
theorem dX11_ticks_93 : decode cX11_ticks 93 = .ok (.getfield 71, 3) := by decide +kernel
theorem dX11_ticks_96 : decode cX11_ticks 96 = .ok (.iload_n 1, 1) := by decide +kernel
theorem dX11_ticks_97 : decode cX11_ticks 97 = .ok (.iaload, 1) := by decide +kernel
theorem dX11_ticks_98 : decode cX11_ticks 98 = .ok (.if_icmp .ge 59, 3) := by decide +kernel
theorem dX11_ticks_101 : decode cX11_ticks 101 = .ok (.bipush 16, 2) := by decide +kernel
theorem dX11_ticks_103 : decode cX11_ticks 103 = .ok (.iload_n 1, 1) := by decide +kernel
theorem dX11_ticks_104 : decode cX11_ticks 104 = .ok (.imul, 1) := by decide +kernel
theorem dX11_ticks_105 : decode cX11_ticks 105 = .ok (.iload_n 2, 1) := by decide +kernel
theorem dX11_ticks_106 : decode cX11_ticks 106 = .ok (.iadd, 1) := by decide +kernel
theorem dX11_ticks_107 : decode cX11_ticks 107 = .ok (.istore_n 3, 1) := by decide +kernel
theorem dX11_ticks_108 : decode cX11_ticks 108 = .ok (.aload_n 0, 1) := by decide +kernel
theorem dX11_ticks_109 : decode cX11_ticks 109 = .ok (.getfield 86, 3) := by decide +kernel
theorem dX11_ticks_112 : decode cX11_ticks 112 = .ok (.iload_n 3, 1) := by decide +kernel
theorem dX11_ticks_113 : decode cX11_ticks 113 = .ok (.aload_n 0, 1) := by decide +kernel
theorem dX11_ticks_114 : decode cX11_ticks 114 = .ok (.getfield 86, 3) := by decide +kernel
theorem dX11_ticks_117 : decode cX11_ticks 117 = .ok (.iload_n 3, 1) := by decide +kernel
theorem dX11_ticks_118 : decode cX11_ticks 118 = .ok (.iaload, 1) := by decide +kernel
theorem dX11_ticks_119 : decode cX11_ticks 119 = .ok (.ifCond .lt 25, 3) := by decide +kernel
theorem dX11_ticks_122 : decode cX11_ticks 122 = .ok (.aload_n 0, 1) := by decide +kernel
theorem dX11_ticks_123 : decode cX11_ticks 123 = .ok (.getfield 179, 3) := by decide +kernel
theorem dX11_ticks_126 : decode cX11_ticks 126 = .ok (.aload_n 0, 1) := by decide +kernel
theorem dX11_ticks_127 : decode cX11_ticks 127 = .ok (.getfield 86, 3) := by decide +kernel
theorem dX11_ticks_130 : decode cX11_ticks 130 = .ok (.iload_n 3, 1) := by decide +kernel
theorem dX11_ticks_131 : decode cX11_ticks 131 = .ok (.iaload, 1) := by decide +kernel
theorem dX11_ticks_132 : decode cX11_ticks 132 = .ok (.isub, 1) := by decide +kernel
theorem dX11_ticks_133 : decode cX11_ticks 133 = .ok (.aload_n 0, 1) := by decide +kernel
theorem dX11_ticks_134 : decode cX11_ticks 134 = .ok (.getfield 13, 3) := by decide +kernel
theorem dX11_ticks_137 : decode cX11_ticks 137 = .ok (.if_icmp .lt 7, 3) := by decide +kernel
theorem dX11_ticks_140 : decode cX11_ticks 140 = .ok (.iconst (-1), 1) := by decide +kernel
theorem dX11_ticks_141 : decode cX11_ticks 141 = .ok (.goto 9, 3) := by decide +kernel
theorem dX11_ticks_144 : decode cX11_ticks 144 = .ok (.aload_n 0, 1) := by decide +kernel
theorem dX11_ticks_145 : decode cX11_ticks 145 = .ok (.getfield 86, 3) := by decide +kernel
theorem dX11_ticks_148 : decode cX11_ticks 148 = .ok (.iload_n 3, 1) := by decide +kernel
theorem dX11_ticks_149 : decode cX11_ticks 149 = .ok (.iaload, 1) := by decide +kernel
theorem dX11_ticks_150 : decode cX11_ticks 150 = .ok (.iastore, 1) := by decide +kernel
theorem dX11_ticks_151 : decode cX11_ticks 151 = .ok (.iinc 2 1, 3) := by decide +kernel
theorem dX11_ticks_154 : decode cX11_ticks 154 = .ok (.goto (-63), 3) := by decide +kernel
theorem dX11_ticks_157 : decode cX11_ticks 157 = .ok (.aload_n 0, 1) := by decide +kernel
theorem dX11_ticks_158 : decode cX11_ticks 158 = .ok (.iload_n 1, 1) := by decide +kernel
theorem dX11_ticks_159 : decode cX11_ticks 159 = .ok (.invokevirtual 208, 3) := by decide +kernel
theorem dX11_ticks_162 : decode cX11_ticks 162 = .ok (.iinc 1 1, 3) := by decide +kernel
theorem dX11_ticks_165 : decode cX11_ticks 165 = .ok (.goto (-94), 3) := by decide +kernel
theorem dX11_ticks_168 : decode cX11_ticks 168 = .ok (.return_, 1) := by decide +kernel
theorem dX11_tick_0 : decode cX11_tick 0 = .ok (.iload_n 1, 1) := by decide +kernel
theorem dX11_tick_1 : decode cX11_tick 1 = .ok (.iconst 1, 1) := by decide +kernel
theorem dX11_tick_2 : decode cX11_tick 2 = .ok (.bipush 50, 2) := by decide +kernel
theorem dX11_tick_4 : decode cX11_tick 4 = .ok (.invokestatic 137, 3) := by decide +kernel
theorem dX11_tick_7 : decode cX11_tick 7 = .ok (.ifCond .ne 6, 3) := by decide +kernel
theorem dX11_tick_10 : decode cX11_tick 10 = .ok (.ldc 141, 2) := by decide +kernel
theorem dX11_tick_12 : decode cX11_tick 12 = .ok (.ireturn, 1) := by decide +kernel
theorem dX11_tick_13 : decode cX11_tick 13 = .ok (.iconst 0, 1) := by decide +kernel
theorem dX11_tick_14 : decode cX11_tick 14 = .ok (.istore_n 2, 1) := by decide +kernel
theorem dX11_tick_15 : decode cX11_tick 15 = .ok (.iload_n 2, 1) := by decide +kernel
theorem dX11_tick_16 : decode cX11_tick 16 = .ok (.iload_n 1, 1) := by decide +kernel
theorem dX11_tick_17 : decode cX11_tick 17 = .ok (.if_icmp .ge 13, 3) := by decide +kernel
theorem dX11_tick_20 : decode cX11_tick 20 = .ok (.aload_n 0, 1) := by decide +kernel
theorem dX11_tick_21 : decode cX11_tick 21 = .ok (.invokevirtual 292, 3) := by decide +kernel
theorem dX11_tick_24 : decode cX11_tick 24 = .ok (.iinc 2 1, 3) := by decide +kernel
theorem dX11_tick_27 : decode cX11_tick 27 = .ok (.goto (-12), 3) := by decide +kernel
theorem dX11_tick_30 : decode cX11_tick 30 = .ok (.aload_n 0, 1) := by decide +kernel
theorem dX11_tick_31 : decode cX11_tick 31 = .ok (.getfield 179, 3) := by decide +kernel
theorem dX11_tick_34 : decode cX11_tick 34 = .ok (.ireturn, 1) := by decide +kernel
theorem dX11_packet_0 : decode cX11_packet 0 = .ok (.aload_n 0, 1) := by decide +kernel
theorem dX11_packet_1 : decode cX11_packet 1 = .ok (.iload_n 1, 1) := by decide +kernel
theorem dX11_packet_2 : decode cX11_packet 2 = .ok (.invokevirtual 268, 3) := by decide +kernel
theorem dX11_packet_5 : decode cX11_packet 5 = .ok (.ifCond .ne 8, 3) := by decide +kernel
theorem dX11_packet_8 : decode cX11_packet 8 = .ok (.ldc 204, 2) := by decide +kernel
theorem dX11_packet_10 : decode cX11_packet 10 = .ok (.goto 24, 3) := by decide +kernel
theorem dX11_packet_13 : decode cX11_packet 13 = .ok (.iload_n 2, 1) := by decide +kernel
theorem dX11_packet_14 : decode cX11_packet 14 = .ok (.iconst 0, 1) := by decide +kernel
theorem dX11_packet_15 : decode cX11_packet 15 = .ok (.bipush 8, 2) := by decide +kernel
theorem dX11_packet_17 : decode cX11_packet 17 = .ok (.invokestatic 137, 3) := by decide +kernel
theorem dX11_packet_20 : decode cX11_packet 20 = .ok (.ifCond .eq 12, 3) := by decide +kernel
theorem dX11_packet_23 : decode cX11_packet 23 = .ok (.aload_n 0, 1) := by decide +kernel
theorem dX11_packet_24 : decode cX11_packet 24 = .ok (.iload_n 1, 1) := by decide +kernel
theorem dX11_packet_25 : decode cX11_packet 25 = .ok (.iload_n 2, 1) := by decide +kernel
theorem dX11_packet_26 : decode cX11_packet 26 = .ok (.invokevirtual 229, 3) := by decide +kernel
theorem dX11_packet_29 : decode cX11_packet 29 = .ok (.goto 5, 3) := by decide +kernel
theorem dX11_packet_32 : decode cX11_packet 32 = .ok (.ldc 141, 2) := by decide +kernel
theorem dX11_packet_34 : decode cX11_packet 34 = .ok (.ireturn, 1) := by decide +kernel
theorem dX11_waiting_0 : decode cX11_waiting 0 = .ok (.aload_n 0, 1) := by decide +kernel
theorem dX11_waiting_1 : decode cX11_waiting 1 = .ok (.getfield 89, 3) := by decide +kernel
theorem dX11_waiting_4 : decode cX11_waiting 4 = .ok (.iconst 4, 1) := by decide +kernel
theorem dX11_waiting_5 : decode cX11_waiting 5 = .ok (.iload_n 1, 1) := by decide +kernel
theorem dX11_waiting_6 : decode cX11_waiting 6 = .ok (.imul, 1) := by decide +kernel
theorem dX11_waiting_7 : decode cX11_waiting 7 = .ok (.iaload, 1) := by decide +kernel
theorem dX11_waiting_8 : decode cX11_waiting 8 = .ok (.aload_n 0, 1) := by decide +kernel
theorem dX11_waiting_9 : decode cX11_waiting 9 = .ok (.getfield 89, 3) := by decide +kernel
theorem dX11_waiting_12 : decode cX11_waiting 12 = .ok (.iconst 4, 1) := by decide +kernel
theorem dX11_waiting_13 : decode cX11_waiting 13 = .ok (.iload_n 1, 1) := by decide +kernel
theorem dX11_waiting_14 : decode cX11_waiting 14 = .ok (.imul, 1) := by decide +kernel
theorem dX11_waiting_15 : decode cX11_waiting 15 = .ok (.iconst 1, 1) := by decide +kernel
theorem dX11_waiting_16 : decode cX11_waiting 16 = .ok (.iadd, 1) := by decide +kernel
theorem dX11_waiting_17 : decode cX11_waiting 17 = .ok (.iaload, 1) := by decide +kernel
theorem dX11_waiting_18 : decode cX11_waiting 18 = .ok (.iadd, 1) := by decide +kernel
theorem dX11_waiting_19 : decode cX11_waiting 19 = .ok (.aload_n 0, 1) := by decide +kernel
theorem dX11_waiting_20 : decode cX11_waiting 20 = .ok (.getfield 89, 3) := by decide +kernel
theorem dX11_waiting_23 : decode cX11_waiting 23 = .ok (.iconst 4, 1) := by decide +kernel
theorem dX11_waiting_24 : decode cX11_waiting 24 = .ok (.iload_n 1, 1) := by decide +kernel
theorem dX11_waiting_25 : decode cX11_waiting 25 = .ok (.imul, 1) := by decide +kernel
theorem dX11_waiting_26 : decode cX11_waiting 26 = .ok (.iconst 2, 1) := by decide +kernel
theorem dX11_waiting_27 : decode cX11_waiting 27 = .ok (.iadd, 1) := by decide +kernel
theorem dX11_waiting_28 : decode cX11_waiting 28 = .ok (.iaload, 1) := by decide +kernel
theorem dX11_waiting_29 : decode cX11_waiting 29 = .ok (.iadd, 1) := by decide +kernel
theorem dX11_waiting_30 : decode cX11_waiting 30 = .ok (.aload_n 0, 1) := by decide +kernel
theorem dX11_waiting_31 : decode cX11_waiting 31 = .ok (.getfield 89, 3) := by decide +kernel
theorem dX11_waiting_34 : decode cX11_waiting 34 = .ok (.iconst 4, 1) := by decide +kernel
theorem dX11_waiting_35 : decode cX11_waiting 35 = .ok (.iload_n 1, 1) := by decide +kernel
theorem dX11_waiting_36 : decode cX11_waiting 36 = .ok (.imul, 1) := by decide +kernel
theorem dX11_waiting_37 : decode cX11_waiting 37 = .ok (.iconst 3, 1) := by decide +kernel
theorem dX11_waiting_38 : decode cX11_waiting 38 = .ok (.iadd, 1) := by decide +kernel
theorem dX11_waiting_39 : decode cX11_waiting 39 = .ok (.iaload, 1) := by decide +kernel
theorem dX11_waiting_40 : decode cX11_waiting 40 = .ok (.iadd, 1) := by decide +kernel
theorem dX11_waiting_41 : decode cX11_waiting 41 = .ok (.ireturn, 1) := by decide +kernel
theorem dX11_endpoint_0 : decode cX11_endpoint 0 = .ok (.iload_n 1, 1) := by decide +kernel
theorem dX11_endpoint_1 : decode cX11_endpoint 1 = .ok (.invokestatic 211, 3) := by decide +kernel
theorem dX11_endpoint_4 : decode cX11_endpoint 4 = .ok (.ifCond .ne 6, 3) := by decide +kernel
theorem dX11_endpoint_7 : decode cX11_endpoint 7 = .ok (.ldc 141, 2) := by decide +kernel
theorem dX11_endpoint_9 : decode cX11_endpoint 9 = .ok (.ireturn, 1) := by decide +kernel
theorem dX11_endpoint_10 : decode cX11_endpoint 10 = .ok (.iload_n 2, 1) := by decide +kernel
theorem dX11_endpoint_11 : decode cX11_endpoint 11 = .ok (.tableswitch 160 0 11 #[61, 68, 75, 82, 89, 96, 103, 110, 116, 123, 130, 144], 61) := by decide +kernel
theorem dX11_endpoint_72 : decode cX11_endpoint 72 = .ok (.aload_n 0, 1) := by decide +kernel
theorem dX11_endpoint_73 : decode cX11_endpoint 73 = .ok (.getfield 19, 3) := by decide +kernel
theorem dX11_endpoint_76 : decode cX11_endpoint 76 = .ok (.iload_n 1, 1) := by decide +kernel
theorem dX11_endpoint_77 : decode cX11_endpoint 77 = .ok (.iaload, 1) := by decide +kernel
theorem dX11_endpoint_78 : decode cX11_endpoint 78 = .ok (.ireturn, 1) := by decide +kernel
theorem dX11_endpoint_79 : decode cX11_endpoint 79 = .ok (.aload_n 0, 1) := by decide +kernel
theorem dX11_endpoint_80 : decode cX11_endpoint 80 = .ok (.getfield 23, 3) := by decide +kernel
theorem dX11_endpoint_83 : decode cX11_endpoint 83 = .ok (.iload_n 1, 1) := by decide +kernel
theorem dX11_endpoint_84 : decode cX11_endpoint 84 = .ok (.iaload, 1) := by decide +kernel
theorem dX11_endpoint_85 : decode cX11_endpoint 85 = .ok (.ireturn, 1) := by decide +kernel
theorem dX11_endpoint_86 : decode cX11_endpoint 86 = .ok (.aload_n 0, 1) := by decide +kernel
theorem dX11_endpoint_87 : decode cX11_endpoint 87 = .ok (.getfield 32, 3) := by decide +kernel
theorem dX11_endpoint_90 : decode cX11_endpoint 90 = .ok (.iload_n 1, 1) := by decide +kernel
theorem dX11_endpoint_91 : decode cX11_endpoint 91 = .ok (.iaload, 1) := by decide +kernel
theorem dX11_endpoint_92 : decode cX11_endpoint 92 = .ok (.ireturn, 1) := by decide +kernel
theorem dX11_endpoint_93 : decode cX11_endpoint 93 = .ok (.aload_n 0, 1) := by decide +kernel
theorem dX11_endpoint_94 : decode cX11_endpoint 94 = .ok (.getfield 35, 3) := by decide +kernel
theorem dX11_endpoint_97 : decode cX11_endpoint 97 = .ok (.iload_n 1, 1) := by decide +kernel
theorem dX11_endpoint_98 : decode cX11_endpoint 98 = .ok (.iaload, 1) := by decide +kernel
theorem dX11_endpoint_99 : decode cX11_endpoint 99 = .ok (.ireturn, 1) := by decide +kernel
theorem dX11_endpoint_100 : decode cX11_endpoint 100 = .ok (.aload_n 0, 1) := by decide +kernel
theorem dX11_endpoint_101 : decode cX11_endpoint 101 = .ok (.getfield 38, 3) := by decide +kernel
theorem dX11_endpoint_104 : decode cX11_endpoint 104 = .ok (.iload_n 1, 1) := by decide +kernel
theorem dX11_endpoint_105 : decode cX11_endpoint 105 = .ok (.iaload, 1) := by decide +kernel
theorem dX11_endpoint_106 : decode cX11_endpoint 106 = .ok (.ireturn, 1) := by decide +kernel
theorem dX11_endpoint_107 : decode cX11_endpoint 107 = .ok (.aload_n 0, 1) := by decide +kernel
theorem dX11_endpoint_108 : decode cX11_endpoint 108 = .ok (.getfield 71, 3) := by decide +kernel
theorem dX11_endpoint_111 : decode cX11_endpoint 111 = .ok (.iload_n 1, 1) := by decide +kernel
theorem dX11_endpoint_112 : decode cX11_endpoint 112 = .ok (.iaload, 1) := by decide +kernel
theorem dX11_endpoint_113 : decode cX11_endpoint 113 = .ok (.ireturn, 1) := by decide +kernel
theorem dX11_endpoint_114 : decode cX11_endpoint 114 = .ok (.aload_n 0, 1) := by decide +kernel
theorem dX11_endpoint_115 : decode cX11_endpoint 115 = .ok (.getfield 56, 3) := by decide +kernel
theorem dX11_endpoint_118 : decode cX11_endpoint 118 = .ok (.iload_n 1, 1) := by decide +kernel
theorem dX11_endpoint_119 : decode cX11_endpoint 119 = .ok (.iaload, 1) := by decide +kernel
theorem dX11_endpoint_120 : decode cX11_endpoint 120 = .ok (.ireturn, 1) := by decide +kernel
theorem dX11_endpoint_121 : decode cX11_endpoint 121 = .ok (.aload_n 0, 1) := by decide +kernel
theorem dX11_endpoint_122 : decode cX11_endpoint 122 = .ok (.iload_n 1, 1) := by decide +kernel
theorem dX11_endpoint_123 : decode cX11_endpoint 123 = .ok (.invokevirtual 295, 3) := by decide +kernel
theorem dX11_endpoint_126 : decode cX11_endpoint 126 = .ok (.ireturn, 1) := by decide +kernel
theorem dX11_endpoint_127 : decode cX11_endpoint 127 = .ok (.aload_n 0, 1) := by decide +kernel
theorem dX11_endpoint_128 : decode cX11_endpoint 128 = .ok (.getfield 68, 3) := by decide +kernel
theorem dX11_endpoint_131 : decode cX11_endpoint 131 = .ok (.iload_n 1, 1) := by decide +kernel
theorem dX11_endpoint_132 : decode cX11_endpoint 132 = .ok (.iaload, 1) := by decide +kernel
theorem dX11_endpoint_133 : decode cX11_endpoint 133 = .ok (.ireturn, 1) := by decide +kernel
theorem dX11_endpoint_134 : decode cX11_endpoint 134 = .ok (.aload_n 0, 1) := by decide +kernel
theorem dX11_endpoint_135 : decode cX11_endpoint 135 = .ok (.getfield 29, 3) := by decide +kernel
theorem dX11_endpoint_138 : decode cX11_endpoint 138 = .ok (.iload_n 1, 1) := by decide +kernel
theorem dX11_endpoint_139 : decode cX11_endpoint 139 = .ok (.iaload, 1) := by decide +kernel
theorem dX11_endpoint_140 : decode cX11_endpoint 140 = .ok (.ireturn, 1) := by decide +kernel
theorem dX11_endpoint_141 : decode cX11_endpoint 141 = .ok (.aload_n 0, 1) := by decide +kernel
theorem dX11_endpoint_142 : decode cX11_endpoint 142 = .ok (.iload_n 1, 1) := by decide +kernel
theorem dX11_endpoint_143 : decode cX11_endpoint 143 = .ok (.invokevirtual 226, 3) := by decide +kernel
theorem dX11_endpoint_146 : decode cX11_endpoint 146 = .ok (.ifCond .eq 7, 3) := by decide +kernel
theorem dX11_endpoint_149 : decode cX11_endpoint 149 = .ok (.iconst 1, 1) := by decide +kernel
theorem dX11_endpoint_150 : decode cX11_endpoint 150 = .ok (.goto 4, 3) := by decide +kernel
theorem dX11_endpoint_153 : decode cX11_endpoint 153 = .ok (.iconst 0, 1) := by decide +kernel
theorem dX11_endpoint_154 : decode cX11_endpoint 154 = .ok (.ireturn, 1) := by decide +kernel
theorem dX11_endpoint_155 : decode cX11_endpoint 155 = .ok (.iload_n 1, 1) := by decide +kernel
theorem dX11_endpoint_156 : decode cX11_endpoint 156 = .ok (.ifCond .ne 10, 3) := by decide +kernel
theorem dX11_endpoint_159 : decode cX11_endpoint 159 = .ok (.aload_n 0, 1) := by decide +kernel
theorem dX11_endpoint_160 : decode cX11_endpoint 160 = .ok (.getfield 98, 3) := by decide +kernel
theorem dX11_endpoint_163 : decode cX11_endpoint 163 = .ok (.goto 7, 3) := by decide +kernel
theorem dX11_endpoint_166 : decode cX11_endpoint 166 = .ok (.aload_n 0, 1) := by decide +kernel
theorem dX11_endpoint_167 : decode cX11_endpoint 167 = .ok (.getfield 223, 3) := by decide +kernel
theorem dX11_endpoint_170 : decode cX11_endpoint 170 = .ok (.ireturn, 1) := by decide +kernel
theorem dX11_endpoint_171 : decode cX11_endpoint 171 = .ok (.ldc 141, 2) := by decide +kernel
theorem dX11_endpoint_173 : decode cX11_endpoint 173 = .ok (.ireturn, 1) := by decide +kernel
theorem dX11_window_0 : decode cX11_window 0 = .ok (.iload_n 1, 1) := by decide +kernel
theorem dX11_window_1 : decode cX11_window 1 = .ok (.invokestatic 211, 3) := by decide +kernel
theorem dX11_window_4 : decode cX11_window 4 = .ok (.ifCond .eq 12, 3) := by decide +kernel
theorem dX11_window_7 : decode cX11_window 7 = .ok (.iload_n 2, 1) := by decide +kernel
theorem dX11_window_8 : decode cX11_window 8 = .ok (.iconst 0, 1) := by decide +kernel
theorem dX11_window_9 : decode cX11_window 9 = .ok (.iconst 1, 1) := by decide +kernel
theorem dX11_window_10 : decode cX11_window 10 = .ok (.invokestatic 137, 3) := by decide +kernel
theorem dX11_window_13 : decode cX11_window 13 = .ok (.ifCond .ne 6, 3) := by decide +kernel
theorem dX11_window_16 : decode cX11_window 16 = .ok (.ldc 141, 2) := by decide +kernel
theorem dX11_window_18 : decode cX11_window 18 = .ok (.ireturn, 1) := by decide +kernel
theorem dX11_window_19 : decode cX11_window 19 = .ok (.iload_n 2, 1) := by decide +kernel
theorem dX11_window_20 : decode cX11_window 20 = .ok (.iconst 1, 1) := by decide +kernel
theorem dX11_window_21 : decode cX11_window 21 = .ok (.if_icmp .ne 14, 3) := by decide +kernel
theorem dX11_window_24 : decode cX11_window 24 = .ok (.aload_n 0, 1) := by decide +kernel
theorem dX11_window_25 : decode cX11_window 25 = .ok (.iload_n 1, 1) := by decide +kernel
theorem dX11_window_26 : decode cX11_window 26 = .ok (.invokevirtual 226, 3) := by decide +kernel
theorem dX11_window_29 : decode cX11_window 29 = .ok (.ifCond .ne 6, 3) := by decide +kernel
theorem dX11_window_32 : decode cX11_window 32 = .ok (.ldc 204, 2) := by decide +kernel
theorem dX11_window_34 : decode cX11_window 34 = .ok (.ireturn, 1) := by decide +kernel
theorem dX11_window_35 : decode cX11_window 35 = .ok (.iload_n 2, 1) := by decide +kernel
theorem dX11_window_36 : decode cX11_window 36 = .ok (.ifCond .ne 12, 3) := by decide +kernel
theorem dX11_window_39 : decode cX11_window 39 = .ok (.aload_n 0, 1) := by decide +kernel
theorem dX11_window_40 : decode cX11_window 40 = .ok (.getfield 41, 3) := by decide +kernel
theorem dX11_window_43 : decode cX11_window 43 = .ok (.iload_n 1, 1) := by decide +kernel
theorem dX11_window_44 : decode cX11_window 44 = .ok (.iaload, 1) := by decide +kernel
theorem dX11_window_45 : decode cX11_window 45 = .ok (.goto 9, 3) := by decide +kernel
theorem dX11_window_48 : decode cX11_window 48 = .ok (.aload_n 0, 1) := by decide +kernel
theorem dX11_window_49 : decode cX11_window 49 = .ok (.getfield 47, 3) := by decide +kernel
theorem dX11_window_52 : decode cX11_window 52 = .ok (.iload_n 1, 1) := by decide +kernel
theorem dX11_window_53 : decode cX11_window 53 = .ok (.iaload, 1) := by decide +kernel
theorem dX11_window_54 : decode cX11_window 54 = .ok (.istore_n 3, 1) := by decide +kernel
theorem dX11_window_55 : decode cX11_window 55 = .ok (.iload_n 3, 1) := by decide +kernel
theorem dX11_window_56 : decode cX11_window 56 = .ok (.ifCond .ge 7, 3) := by decide +kernel
theorem dX11_window_59 : decode cX11_window 59 = .ok (.iconst (-1), 1) := by decide +kernel
theorem dX11_window_60 : decode cX11_window 60 = .ok (.goto 28, 3) := by decide +kernel
theorem dX11_window_63 : decode cX11_window 63 = .ok (.sipush 256, 3) := by decide +kernel
theorem dX11_window_66 : decode cX11_window 66 = .ok (.iload_n 3, 1) := by decide +kernel
theorem dX11_window_67 : decode cX11_window 67 = .ok (.imul, 1) := by decide +kernel
theorem dX11_window_68 : decode cX11_window 68 = .ok (.iload_n 2, 1) := by decide +kernel
theorem dX11_window_69 : decode cX11_window 69 = .ok (.ifCond .ne 12, 3) := by decide +kernel
theorem dX11_window_72 : decode cX11_window 72 = .ok (.aload_n 0, 1) := by decide +kernel
theorem dX11_window_73 : decode cX11_window 73 = .ok (.getfield 44, 3) := by decide +kernel
theorem dX11_window_76 : decode cX11_window 76 = .ok (.iload_n 1, 1) := by decide +kernel
theorem dX11_window_77 : decode cX11_window 77 = .ok (.iaload, 1) := by decide +kernel
theorem dX11_window_78 : decode cX11_window 78 = .ok (.goto 9, 3) := by decide +kernel
theorem dX11_window_81 : decode cX11_window 81 = .ok (.aload_n 0, 1) := by decide +kernel
theorem dX11_window_82 : decode cX11_window 82 = .ok (.getfield 50, 3) := by decide +kernel
theorem dX11_window_85 : decode cX11_window 85 = .ok (.iload_n 1, 1) := by decide +kernel
theorem dX11_window_86 : decode cX11_window 86 = .ok (.iaload, 1) := by decide +kernel
theorem dX11_window_87 : decode cX11_window 87 = .ok (.iadd, 1) := by decide +kernel
theorem dX11_window_88 : decode cX11_window 88 = .ok (.ireturn, 1) := by decide +kernel
theorem dX11_taken_0 : decode cX11_taken 0 = .ok (.iload_n 1, 1) := by decide +kernel
theorem dX11_taken_1 : decode cX11_taken 1 = .ok (.invokestatic 211, 3) := by decide +kernel
theorem dX11_taken_4 : decode cX11_taken 4 = .ok (.ifCond .eq 34, 3) := by decide +kernel
theorem dX11_taken_7 : decode cX11_taken 7 = .ok (.iload_n 2, 1) := by decide +kernel
theorem dX11_taken_8 : decode cX11_taken 8 = .ok (.iconst 0, 1) := by decide +kernel
theorem dX11_taken_9 : decode cX11_taken 9 = .ok (.aload_n 0, 1) := by decide +kernel
theorem dX11_taken_10 : decode cX11_taken 10 = .ok (.getfield 68, 3) := by decide +kernel
theorem dX11_taken_13 : decode cX11_taken 13 = .ok (.iload_n 1, 1) := by decide +kernel
theorem dX11_taken_14 : decode cX11_taken 14 = .ok (.iaload, 1) := by decide +kernel
theorem dX11_taken_15 : decode cX11_taken 15 = .ok (.iconst 1, 1) := by decide +kernel
theorem dX11_taken_16 : decode cX11_taken 16 = .ok (.isub, 1) := by decide +kernel
theorem dX11_taken_17 : decode cX11_taken 17 = .ok (.invokestatic 137, 3) := by decide +kernel
theorem dX11_taken_20 : decode cX11_taken 20 = .ok (.ifCond .eq 18, 3) := by decide +kernel
theorem dX11_taken_23 : decode cX11_taken 23 = .ok (.aload_n 0, 1) := by decide +kernel
theorem dX11_taken_24 : decode cX11_taken 24 = .ok (.getfield 74, 3) := by decide +kernel
theorem dX11_taken_27 : decode cX11_taken 27 = .ok (.sipush 1200, 3) := by decide +kernel
theorem dX11_taken_30 : decode cX11_taken 30 = .ok (.iload_n 1, 1) := by decide +kernel
theorem dX11_taken_31 : decode cX11_taken 31 = .ok (.imul, 1) := by decide +kernel
theorem dX11_taken_32 : decode cX11_taken 32 = .ok (.iload_n 2, 1) := by decide +kernel
theorem dX11_taken_33 : decode cX11_taken 33 = .ok (.iadd, 1) := by decide +kernel
theorem dX11_taken_34 : decode cX11_taken 34 = .ok (.iaload, 1) := by decide +kernel
theorem dX11_taken_35 : decode cX11_taken 35 = .ok (.goto 5, 3) := by decide +kernel
theorem dX11_taken_38 : decode cX11_taken 38 = .ok (.ldc 204, 2) := by decide +kernel
theorem dX11_taken_40 : decode cX11_taken 40 = .ok (.ireturn, 1) := by decide +kernel
theorem dX11_kept_0 : decode cX11_kept 0 = .ok (.iload_n 1, 1) := by decide +kernel
theorem dX11_kept_1 : decode cX11_kept 1 = .ok (.invokestatic 211, 3) := by decide +kernel
theorem dX11_kept_4 : decode cX11_kept 4 = .ok (.ifCond .eq 19, 3) := by decide +kernel
theorem dX11_kept_7 : decode cX11_kept 7 = .ok (.iload_n 2, 1) := by decide +kernel
theorem dX11_kept_8 : decode cX11_kept 8 = .ok (.iconst 0, 1) := by decide +kernel
theorem dX11_kept_9 : decode cX11_kept 9 = .ok (.aload_n 0, 1) := by decide +kernel
theorem dX11_kept_10 : decode cX11_kept 10 = .ok (.getfield 71, 3) := by decide +kernel
theorem dX11_kept_13 : decode cX11_kept 13 = .ok (.iload_n 1, 1) := by decide +kernel
theorem dX11_kept_14 : decode cX11_kept 14 = .ok (.iaload, 1) := by decide +kernel
theorem dX11_kept_15 : decode cX11_kept 15 = .ok (.iconst 1, 1) := by decide +kernel
theorem dX11_kept_16 : decode cX11_kept 16 = .ok (.isub, 1) := by decide +kernel
theorem dX11_kept_17 : decode cX11_kept 17 = .ok (.invokestatic 137, 3) := by decide +kernel
theorem dX11_kept_20 : decode cX11_kept 20 = .ok (.ifCond .ne 6, 3) := by decide +kernel
theorem dX11_kept_23 : decode cX11_kept 23 = .ok (.ldc 204, 2) := by decide +kernel
theorem dX11_kept_25 : decode cX11_kept 25 = .ok (.ireturn, 1) := by decide +kernel
theorem dX11_kept_26 : decode cX11_kept 26 = .ok (.bipush 16, 2) := by decide +kernel
theorem dX11_kept_28 : decode cX11_kept 28 = .ok (.iload_n 1, 1) := by decide +kernel
theorem dX11_kept_29 : decode cX11_kept 29 = .ok (.imul, 1) := by decide +kernel
theorem dX11_kept_30 : decode cX11_kept 30 = .ok (.iload_n 2, 1) := by decide +kernel
theorem dX11_kept_31 : decode cX11_kept 31 = .ok (.iadd, 1) := by decide +kernel
theorem dX11_kept_32 : decode cX11_kept 32 = .ok (.istore 4, 2) := by decide +kernel
theorem dX11_kept_34 : decode cX11_kept 34 = .ok (.iload_n 3, 1) := by decide +kernel
theorem dX11_kept_35 : decode cX11_kept 35 = .ok (.tableswitch 61 0 3 #[29, 37, 45, 53], 29) := by decide +kernel
theorem dX11_kept_64 : decode cX11_kept 64 = .ok (.aload_n 0, 1) := by decide +kernel
theorem dX11_kept_65 : decode cX11_kept 65 = .ok (.getfield 77, 3) := by decide +kernel
theorem dX11_kept_68 : decode cX11_kept 68 = .ok (.iload 4, 2) := by decide +kernel
theorem dX11_kept_70 : decode cX11_kept 70 = .ok (.iaload, 1) := by decide +kernel
theorem dX11_kept_71 : decode cX11_kept 71 = .ok (.ireturn, 1) := by decide +kernel
theorem dX11_kept_72 : decode cX11_kept 72 = .ok (.aload_n 0, 1) := by decide +kernel
theorem dX11_kept_73 : decode cX11_kept 73 = .ok (.getfield 80, 3) := by decide +kernel
theorem dX11_kept_76 : decode cX11_kept 76 = .ok (.iload 4, 2) := by decide +kernel
theorem dX11_kept_78 : decode cX11_kept 78 = .ok (.iaload, 1) := by decide +kernel
theorem dX11_kept_79 : decode cX11_kept 79 = .ok (.ireturn, 1) := by decide +kernel
theorem dX11_kept_80 : decode cX11_kept 80 = .ok (.aload_n 0, 1) := by decide +kernel
theorem dX11_kept_81 : decode cX11_kept 81 = .ok (.getfield 83, 3) := by decide +kernel
theorem dX11_kept_84 : decode cX11_kept 84 = .ok (.iload 4, 2) := by decide +kernel
theorem dX11_kept_86 : decode cX11_kept 86 = .ok (.iaload, 1) := by decide +kernel
theorem dX11_kept_87 : decode cX11_kept 87 = .ok (.ireturn, 1) := by decide +kernel
theorem dX11_kept_88 : decode cX11_kept 88 = .ok (.aload_n 0, 1) := by decide +kernel
theorem dX11_kept_89 : decode cX11_kept 89 = .ok (.getfield 86, 3) := by decide +kernel
theorem dX11_kept_92 : decode cX11_kept 92 = .ok (.iload 4, 2) := by decide +kernel
theorem dX11_kept_94 : decode cX11_kept 94 = .ok (.iaload, 1) := by decide +kernel
theorem dX11_kept_95 : decode cX11_kept 95 = .ok (.ireturn, 1) := by decide +kernel
theorem dX11_kept_96 : decode cX11_kept 96 = .ok (.ldc 141, 2) := by decide +kernel
theorem dX11_kept_98 : decode cX11_kept 98 = .ok (.ireturn, 1) := by decide +kernel
theorem dX11_results_0 : decode cX11_results 0 = .ok (.iload_n 1, 1) := by decide +kernel
theorem dX11_results_1 : decode cX11_results 1 = .ok (.invokestatic 211, 3) := by decide +kernel
theorem dX11_results_4 : decode cX11_results 4 = .ok (.ifCond .eq 27, 3) := by decide +kernel
theorem dX11_results_7 : decode cX11_results 7 = .ok (.iload_n 2, 1) := by decide +kernel
theorem dX11_results_8 : decode cX11_results 8 = .ok (.iconst 0, 1) := by decide +kernel
theorem dX11_results_9 : decode cX11_results 9 = .ok (.bipush 8, 2) := by decide +kernel
theorem dX11_results_11 : decode cX11_results 11 = .ok (.invokestatic 137, 3) := by decide +kernel
theorem dX11_results_14 : decode cX11_results 14 = .ok (.ifCond .eq 17, 3) := by decide +kernel
theorem dX11_results_17 : decode cX11_results 17 = .ok (.aload_n 0, 1) := by decide +kernel
theorem dX11_results_18 : decode cX11_results 18 = .ok (.getfield 119, 3) := by decide +kernel
theorem dX11_results_21 : decode cX11_results 21 = .ok (.bipush 9, 2) := by decide +kernel
theorem dX11_results_23 : decode cX11_results 23 = .ok (.iload_n 1, 1) := by decide +kernel
theorem dX11_results_24 : decode cX11_results 24 = .ok (.imul, 1) := by decide +kernel
theorem dX11_results_25 : decode cX11_results 25 = .ok (.iload_n 2, 1) := by decide +kernel
theorem dX11_results_26 : decode cX11_results 26 = .ok (.iadd, 1) := by decide +kernel
theorem dX11_results_27 : decode cX11_results 27 = .ok (.iaload, 1) := by decide +kernel
theorem dX11_results_28 : decode cX11_results 28 = .ok (.goto 5, 3) := by decide +kernel
theorem dX11_results_31 : decode cX11_results 31 = .ok (.ldc 141, 2) := by decide +kernel
theorem dX11_results_33 : decode cX11_results 33 = .ok (.ireturn, 1) := by decide +kernel
theorem dX11_count_0 : decode cX11_count 0 = .ok (.iload_n 1, 1) := by decide +kernel
theorem dX11_count_1 : decode cX11_count 1 = .ok (.tableswitch 87 0 7 #[47, 52, 57, 62, 67, 72, 77, 82], 47) := by decide +kernel
theorem dX11_count_48 : decode cX11_count 48 = .ok (.aload_n 0, 1) := by decide +kernel
theorem dX11_count_49 : decode cX11_count 49 = .ok (.getfield 153, 3) := by decide +kernel
theorem dX11_count_52 : decode cX11_count 52 = .ok (.ireturn, 1) := by decide +kernel
theorem dX11_count_53 : decode cX11_count 53 = .ok (.aload_n 0, 1) := by decide +kernel
theorem dX11_count_54 : decode cX11_count 54 = .ok (.getfield 156, 3) := by decide +kernel
theorem dX11_count_57 : decode cX11_count 57 = .ok (.ireturn, 1) := by decide +kernel
theorem dX11_count_58 : decode cX11_count 58 = .ok (.aload_n 0, 1) := by decide +kernel
theorem dX11_count_59 : decode cX11_count 59 = .ok (.getfield 277, 3) := by decide +kernel
theorem dX11_count_62 : decode cX11_count 62 = .ok (.ireturn, 1) := by decide +kernel
theorem dX11_count_63 : decode cX11_count 63 = .ok (.aload_n 0, 1) := by decide +kernel
theorem dX11_count_64 : decode cX11_count 64 = .ok (.getfield 205, 3) := by decide +kernel
theorem dX11_count_67 : decode cX11_count 67 = .ok (.ireturn, 1) := by decide +kernel
theorem dX11_count_68 : decode cX11_count 68 = .ok (.aload_n 0, 1) := by decide +kernel
theorem dX11_count_69 : decode cX11_count 69 = .ok (.getfield 289, 3) := by decide +kernel
theorem dX11_count_72 : decode cX11_count 72 = .ok (.ireturn, 1) := by decide +kernel
theorem dX11_count_73 : decode cX11_count 73 = .ok (.aload_n 0, 1) := by decide +kernel
theorem dX11_count_74 : decode cX11_count 74 = .ok (.getfield 179, 3) := by decide +kernel
theorem dX11_count_77 : decode cX11_count 77 = .ok (.ireturn, 1) := by decide +kernel
theorem dX11_count_78 : decode cX11_count 78 = .ok (.aload_n 0, 1) := by decide +kernel
theorem dX11_count_79 : decode cX11_count 79 = .ok (.getfield 298, 3) := by decide +kernel
theorem dX11_count_82 : decode cX11_count 82 = .ok (.ireturn, 1) := by decide +kernel
theorem dX11_count_83 : decode cX11_count 83 = .ok (.aload_n 0, 1) := by decide +kernel
theorem dX11_count_84 : decode cX11_count 84 = .ok (.getfield 182, 3) := by decide +kernel
theorem dX11_count_87 : decode cX11_count 87 = .ok (.ireturn, 1) := by decide +kernel
theorem dX11_count_88 : decode cX11_count 88 = .ok (.ldc 141, 2) := by decide +kernel
theorem dX11_count_90 : decode cX11_count 90 = .ok (.ireturn, 1) := by decide +kernel
theorem dX11_event_0 : decode cX11_event 0 = .ok (.iload_n 1, 1) := by decide +kernel
theorem dX11_event_1 : decode cX11_event 1 = .ok (.iconst 0, 1) := by decide +kernel
theorem dX11_event_2 : decode cX11_event 2 = .ok (.aload_n 0, 1) := by decide +kernel
theorem dX11_event_3 : decode cX11_event 3 = .ok (.getfield 150, 3) := by decide +kernel
theorem dX11_event_6 : decode cX11_event 6 = .ok (.iconst 1, 1) := by decide +kernel
theorem dX11_event_7 : decode cX11_event 7 = .ok (.isub, 1) := by decide +kernel
theorem dX11_event_8 : decode cX11_event 8 = .ok (.invokestatic 137, 3) := by decide +kernel
theorem dX11_event_11 : decode cX11_event 11 = .ok (.ifCond .ne 6, 3) := by decide +kernel
theorem dX11_event_14 : decode cX11_event 14 = .ok (.ldc 204, 2) := by decide +kernel
theorem dX11_event_16 : decode cX11_event 16 = .ok (.ireturn, 1) := by decide +kernel
theorem dX11_event_17 : decode cX11_event 17 = .ok (.iload_n 2, 1) := by decide +kernel
theorem dX11_event_18 : decode cX11_event 18 = .ok (.iconst 0, 1) := by decide +kernel
theorem dX11_event_19 : decode cX11_event 19 = .ok (.iconst 2, 1) := by decide +kernel
theorem dX11_event_20 : decode cX11_event 20 = .ok (.invokestatic 137, 3) := by decide +kernel
theorem dX11_event_23 : decode cX11_event 23 = .ok (.ifCond .eq 23, 3) := by decide +kernel
theorem dX11_event_26 : decode cX11_event 26 = .ok (.aload_n 0, 1) := by decide +kernel
theorem dX11_event_27 : decode cX11_event 27 = .ok (.getfield 110, 3) := by decide +kernel
theorem dX11_event_30 : decode cX11_event 30 = .ok (.iconst 3, 1) := by decide +kernel
theorem dX11_event_31 : decode cX11_event 31 = .ok (.aload_n 0, 1) := by decide +kernel
theorem dX11_event_32 : decode cX11_event 32 = .ok (.getfield 150, 3) := by decide +kernel
theorem dX11_event_35 : decode cX11_event 35 = .ok (.iconst 1, 1) := by decide +kernel
theorem dX11_event_36 : decode cX11_event 36 = .ok (.isub, 1) := by decide +kernel
theorem dX11_event_37 : decode cX11_event 37 = .ok (.iload_n 1, 1) := by decide +kernel
theorem dX11_event_38 : decode cX11_event 38 = .ok (.isub, 1) := by decide +kernel
theorem dX11_event_39 : decode cX11_event 39 = .ok (.imul, 1) := by decide +kernel
theorem dX11_event_40 : decode cX11_event 40 = .ok (.iload_n 2, 1) := by decide +kernel
theorem dX11_event_41 : decode cX11_event 41 = .ok (.iadd, 1) := by decide +kernel
theorem dX11_event_42 : decode cX11_event 42 = .ok (.iaload, 1) := by decide +kernel
theorem dX11_event_43 : decode cX11_event 43 = .ok (.goto 5, 3) := by decide +kernel
theorem dX11_event_46 : decode cX11_event 46 = .ok (.ldc 141, 2) := by decide +kernel
theorem dX11_event_48 : decode cX11_event 48 = .ok (.ireturn, 1) := by decide +kernel
theorem dX11_agree_0 : decode cX11_agree 0 = .ok (.aload_n 0, 1) := by decide +kernel
theorem dX11_agree_1 : decode cX11_agree 1 = .ok (.getfield 19, 3) := by decide +kernel
theorem dX11_agree_4 : decode cX11_agree 4 = .ok (.iconst 0, 1) := by decide +kernel
theorem dX11_agree_5 : decode cX11_agree 5 = .ok (.iaload, 1) := by decide +kernel
theorem dX11_agree_6 : decode cX11_agree 6 = .ok (.iconst 3, 1) := by decide +kernel
theorem dX11_agree_7 : decode cX11_agree 7 = .ok (.if_icmp .ne 47, 3) := by decide +kernel
theorem dX11_agree_10 : decode cX11_agree 10 = .ok (.aload_n 0, 1) := by decide +kernel
theorem dX11_agree_11 : decode cX11_agree 11 = .ok (.getfield 19, 3) := by decide +kernel
theorem dX11_agree_14 : decode cX11_agree 14 = .ok (.iconst 1, 1) := by decide +kernel
theorem dX11_agree_15 : decode cX11_agree 15 = .ok (.iaload, 1) := by decide +kernel
theorem dX11_agree_16 : decode cX11_agree 16 = .ok (.iconst 3, 1) := by decide +kernel
theorem dX11_agree_17 : decode cX11_agree 17 = .ok (.if_icmp .ne 37, 3) := by decide +kernel
theorem dX11_agree_20 : decode cX11_agree 20 = .ok (.aload_n 0, 1) := by decide +kernel
theorem dX11_agree_21 : decode cX11_agree 21 = .ok (.getfield 23, 3) := by decide +kernel
theorem dX11_agree_24 : decode cX11_agree 24 = .ok (.iconst 0, 1) := by decide +kernel
theorem dX11_agree_25 : decode cX11_agree 25 = .ok (.iaload, 1) := by decide +kernel
theorem dX11_agree_26 : decode cX11_agree 26 = .ok (.aload_n 0, 1) := by decide +kernel
theorem dX11_agree_27 : decode cX11_agree 27 = .ok (.getfield 23, 3) := by decide +kernel
theorem dX11_agree_30 : decode cX11_agree 30 = .ok (.iconst 1, 1) := by decide +kernel
theorem dX11_agree_31 : decode cX11_agree 31 = .ok (.iaload, 1) := by decide +kernel
theorem dX11_agree_32 : decode cX11_agree 32 = .ok (.if_icmp .ne 22, 3) := by decide +kernel
theorem dX11_agree_35 : decode cX11_agree 35 = .ok (.aload_n 0, 1) := by decide +kernel
theorem dX11_agree_36 : decode cX11_agree 36 = .ok (.getfield 29, 3) := by decide +kernel
theorem dX11_agree_39 : decode cX11_agree 39 = .ok (.iconst 0, 1) := by decide +kernel
theorem dX11_agree_40 : decode cX11_agree 40 = .ok (.iaload, 1) := by decide +kernel
theorem dX11_agree_41 : decode cX11_agree 41 = .ok (.aload_n 0, 1) := by decide +kernel
theorem dX11_agree_42 : decode cX11_agree 42 = .ok (.getfield 29, 3) := by decide +kernel
theorem dX11_agree_45 : decode cX11_agree 45 = .ok (.iconst 1, 1) := by decide +kernel
theorem dX11_agree_46 : decode cX11_agree 46 = .ok (.iaload, 1) := by decide +kernel
theorem dX11_agree_47 : decode cX11_agree 47 = .ok (.if_icmp .ne 7, 3) := by decide +kernel
theorem dX11_agree_50 : decode cX11_agree 50 = .ok (.iconst 1, 1) := by decide +kernel
theorem dX11_agree_51 : decode cX11_agree 51 = .ok (.goto 4, 3) := by decide +kernel
theorem dX11_agree_54 : decode cX11_agree 54 = .ok (.iconst 0, 1) := by decide +kernel
theorem dX11_agree_55 : decode cX11_agree 55 = .ok (.ireturn, 1) := by decide +kernel
theorem dX11_append_0 : decode cX11_append 0 = .ok (.iload_n 1, 1) := by decide +kernel
theorem dX11_append_1 : decode cX11_append 1 = .ok (.iconst 0, 1) := by decide +kernel
theorem dX11_append_2 : decode cX11_append 2 = .ok (.bipush 127, 2) := by decide +kernel
theorem dX11_append_4 : decode cX11_append 4 = .ok (.invokestatic 137, 3) := by decide +kernel
theorem dX11_append_7 : decode cX11_append 7 = .ok (.ifCond .eq 13, 3) := by decide +kernel
theorem dX11_append_10 : decode cX11_append 10 = .ok (.iload_n 2, 1) := by decide +kernel
theorem dX11_append_11 : decode cX11_append 11 = .ok (.iconst 1, 1) := by decide +kernel
theorem dX11_append_12 : decode cX11_append 12 = .ok (.bipush 40, 2) := by decide +kernel
theorem dX11_append_14 : decode cX11_append 14 = .ok (.invokestatic 137, 3) := by decide +kernel
theorem dX11_append_17 : decode cX11_append 17 = .ok (.ifCond .ne 6, 3) := by decide +kernel
theorem dX11_append_20 : decode cX11_append 20 = .ok (.ldc 141, 2) := by decide +kernel
theorem dX11_append_22 : decode cX11_append 22 = .ok (.ireturn, 1) := by decide +kernel
theorem dX11_append_23 : decode cX11_append 23 = .ok (.aload_n 0, 1) := by decide +kernel
theorem dX11_append_24 : decode cX11_append 24 = .ok (.getfield 298, 3) := by decide +kernel
theorem dX11_append_27 : decode cX11_append 27 = .ok (.iload_n 2, 1) := by decide +kernel
theorem dX11_append_28 : decode cX11_append 28 = .ok (.iadd, 1) := by decide +kernel
theorem dX11_append_29 : decode cX11_append 29 = .ok (.bipush 40, 2) := by decide +kernel
theorem dX11_append_31 : decode cX11_append 31 = .ok (.if_icmp .le 6, 3) := by decide +kernel
theorem dX11_append_34 : decode cX11_append 34 = .ok (.ldc 197, 2) := by decide +kernel
theorem dX11_append_36 : decode cX11_append 36 = .ok (.ireturn, 1) := by decide +kernel
theorem dX11_append_37 : decode cX11_append 37 = .ok (.iconst 0, 1) := by decide +kernel
theorem dX11_append_38 : decode cX11_append 38 = .ok (.istore_n 3, 1) := by decide +kernel
theorem dX11_append_39 : decode cX11_append 39 = .ok (.iload_n 3, 1) := by decide +kernel
theorem dX11_append_40 : decode cX11_append 40 = .ok (.iload_n 2, 1) := by decide +kernel
theorem dX11_append_41 : decode cX11_append 41 = .ok (.if_icmp .ge 21, 3) := by decide +kernel
theorem dX11_append_44 : decode cX11_append 44 = .ok (.aload_n 0, 1) := by decide +kernel
theorem dX11_append_45 : decode cX11_append 45 = .ok (.getfield 122, 3) := by decide +kernel
theorem dX11_append_48 : decode cX11_append 48 = .ok (.aload_n 0, 1) := by decide +kernel
theorem dX11_append_49 : decode cX11_append 49 = .ok (.getfield 298, 3) := by decide +kernel
theorem dX11_append_52 : decode cX11_append 52 = .ok (.iload_n 3, 1) := by decide +kernel
theorem dX11_append_53 : decode cX11_append 53 = .ok (.iadd, 1) := by decide +kernel
theorem dX11_append_54 : decode cX11_append 54 = .ok (.iload_n 1, 1) := by decide +kernel
theorem dX11_append_55 : decode cX11_append 55 = .ok (.iastore, 1) := by decide +kernel
theorem dX11_append_56 : decode cX11_append 56 = .ok (.iinc 3 1, 3) := by decide +kernel
theorem dX11_append_59 : decode cX11_append 59 = .ok (.goto (-20), 3) := by decide +kernel
theorem dX11_append_62 : decode cX11_append 62 = .ok (.aload_n 0, 1) := by decide +kernel
theorem dX11_append_63 : decode cX11_append 63 = .ok (.dup, 1) := by decide +kernel
theorem dX11_append_64 : decode cX11_append 64 = .ok (.getfield 298, 3) := by decide +kernel
theorem dX11_append_67 : decode cX11_append 67 = .ok (.iload_n 2, 1) := by decide +kernel
theorem dX11_append_68 : decode cX11_append 68 = .ok (.iadd, 1) := by decide +kernel
theorem dX11_append_69 : decode cX11_append 69 = .ok (.putfield 298, 3) := by decide +kernel
theorem dX11_append_72 : decode cX11_append 72 = .ok (.aload_n 0, 1) := by decide +kernel
theorem dX11_append_73 : decode cX11_append 73 = .ok (.getfield 298, 3) := by decide +kernel
theorem dX11_append_76 : decode cX11_append 76 = .ok (.ireturn, 1) := by decide +kernel
theorem dX11_isDigit_0 : decode cX11_isDigit 0 = .ok (.aload_n 0, 1) := by decide +kernel
theorem dX11_isDigit_1 : decode cX11_isDigit 1 = .ok (.getfield 301, 3) := by decide +kernel
theorem dX11_isDigit_4 : decode cX11_isDigit 4 = .ok (.aload_n 0, 1) := by decide +kernel
theorem dX11_isDigit_5 : decode cX11_isDigit 5 = .ok (.getfield 298, 3) := by decide +kernel
theorem dX11_isDigit_8 : decode cX11_isDigit 8 = .ok (.if_icmp .ge 26, 3) := by decide +kernel
theorem dX11_isDigit_11 : decode cX11_isDigit 11 = .ok (.aload_n 0, 1) := by decide +kernel
theorem dX11_isDigit_12 : decode cX11_isDigit 12 = .ok (.getfield 122, 3) := by decide +kernel
theorem dX11_isDigit_15 : decode cX11_isDigit 15 = .ok (.aload_n 0, 1) := by decide +kernel
theorem dX11_isDigit_16 : decode cX11_isDigit 16 = .ok (.getfield 301, 3) := by decide +kernel
theorem dX11_isDigit_19 : decode cX11_isDigit 19 = .ok (.iaload, 1) := by decide +kernel
theorem dX11_isDigit_20 : decode cX11_isDigit 20 = .ok (.bipush 48, 2) := by decide +kernel
theorem dX11_isDigit_22 : decode cX11_isDigit 22 = .ok (.bipush 57, 2) := by decide +kernel
theorem dX11_isDigit_24 : decode cX11_isDigit 24 = .ok (.invokestatic 137, 3) := by decide +kernel
theorem dX11_isDigit_27 : decode cX11_isDigit 27 = .ok (.ifCond .eq 7, 3) := by decide +kernel
theorem dX11_isDigit_30 : decode cX11_isDigit 30 = .ok (.iconst 1, 1) := by decide +kernel
theorem dX11_isDigit_31 : decode cX11_isDigit 31 = .ok (.goto 4, 3) := by decide +kernel
theorem dX11_isDigit_34 : decode cX11_isDigit 34 = .ok (.iconst 0, 1) := by decide +kernel
theorem dX11_isDigit_35 : decode cX11_isDigit 35 = .ok (.ireturn, 1) := by decide +kernel
theorem dX11_takesNumber_0 : decode cX11_takesNumber 0 = .ok (.aload_n 0, 1) := by decide +kernel
theorem dX11_takesNumber_1 : decode cX11_takesNumber 1 = .ok (.invokevirtual 304, 3) := by decide +kernel
theorem dX11_takesNumber_4 : decode cX11_takesNumber 4 = .ok (.ifCond .ne 5, 3) := by decide +kernel
theorem dX11_takesNumber_7 : decode cX11_takesNumber 7 = .ok (.iconst 0, 1) := by decide +kernel
theorem dX11_takesNumber_8 : decode cX11_takesNumber 8 = .ok (.ireturn, 1) := by decide +kernel
theorem dX11_takesNumber_9 : decode cX11_takesNumber 9 = .ok (.aload_n 0, 1) := by decide +kernel
theorem dX11_takesNumber_10 : decode cX11_takesNumber 10 = .ok (.getfield 128, 3) := by decide +kernel
theorem dX11_takesNumber_13 : decode cX11_takesNumber 13 = .ok (.aload_n 0, 1) := by decide +kernel
theorem dX11_takesNumber_14 : decode cX11_takesNumber 14 = .ok (.getfield 307, 3) := by decide +kernel
theorem dX11_takesNumber_17 : decode cX11_takesNumber 17 = .ok (.aload_n 0, 1) := by decide +kernel
theorem dX11_takesNumber_18 : decode cX11_takesNumber 18 = .ok (.getfield 122, 3) := by decide +kernel
theorem dX11_takesNumber_21 : decode cX11_takesNumber 21 = .ok (.aload_n 0, 1) := by decide +kernel
theorem dX11_takesNumber_22 : decode cX11_takesNumber 22 = .ok (.getfield 301, 3) := by decide +kernel
theorem dX11_takesNumber_25 : decode cX11_takesNumber 25 = .ok (.iaload, 1) := by decide +kernel
theorem dX11_takesNumber_26 : decode cX11_takesNumber 26 = .ok (.bipush 48, 2) := by decide +kernel
theorem dX11_takesNumber_28 : decode cX11_takesNumber 28 = .ok (.isub, 1) := by decide +kernel
theorem dX11_takesNumber_29 : decode cX11_takesNumber 29 = .ok (.iastore, 1) := by decide +kernel
theorem dX11_takesNumber_30 : decode cX11_takesNumber 30 = .ok (.aload_n 0, 1) := by decide +kernel
theorem dX11_takesNumber_31 : decode cX11_takesNumber 31 = .ok (.dup, 1) := by decide +kernel
theorem dX11_takesNumber_32 : decode cX11_takesNumber 32 = .ok (.getfield 301, 3) := by decide +kernel
theorem dX11_takesNumber_35 : decode cX11_takesNumber 35 = .ok (.iconst 1, 1) := by decide +kernel
theorem dX11_takesNumber_36 : decode cX11_takesNumber 36 = .ok (.iadd, 1) := by decide +kernel
theorem dX11_takesNumber_37 : decode cX11_takesNumber 37 = .ok (.putfield 301, 3) := by decide +kernel
theorem dX11_takesNumber_40 : decode cX11_takesNumber 40 = .ok (.aload_n 0, 1) := by decide +kernel
theorem dX11_takesNumber_41 : decode cX11_takesNumber 41 = .ok (.invokevirtual 304, 3) := by decide +kernel
theorem dX11_takesNumber_44 : decode cX11_takesNumber 44 = .ok (.ifCond .ne 5, 3) := by decide +kernel
theorem dX11_takesNumber_47 : decode cX11_takesNumber 47 = .ok (.iconst 1, 1) := by decide +kernel
theorem dX11_takesNumber_48 : decode cX11_takesNumber 48 = .ok (.ireturn, 1) := by decide +kernel
theorem dX11_takesNumber_49 : decode cX11_takesNumber 49 = .ok (.aload_n 0, 1) := by decide +kernel
theorem dX11_takesNumber_50 : decode cX11_takesNumber 50 = .ok (.getfield 128, 3) := by decide +kernel
theorem dX11_takesNumber_53 : decode cX11_takesNumber 53 = .ok (.aload_n 0, 1) := by decide +kernel
theorem dX11_takesNumber_54 : decode cX11_takesNumber 54 = .ok (.getfield 307, 3) := by decide +kernel
theorem dX11_takesNumber_57 : decode cX11_takesNumber 57 = .ok (.bipush 10, 2) := by decide +kernel
theorem dX11_takesNumber_59 : decode cX11_takesNumber 59 = .ok (.aload_n 0, 1) := by decide +kernel
theorem dX11_takesNumber_60 : decode cX11_takesNumber 60 = .ok (.getfield 128, 3) := by decide +kernel
theorem dX11_takesNumber_63 : decode cX11_takesNumber 63 = .ok (.aload_n 0, 1) := by decide +kernel
theorem dX11_takesNumber_64 : decode cX11_takesNumber 64 = .ok (.getfield 307, 3) := by decide +kernel
theorem dX11_takesNumber_67 : decode cX11_takesNumber 67 = .ok (.iaload, 1) := by decide +kernel
theorem dX11_takesNumber_68 : decode cX11_takesNumber 68 = .ok (.imul, 1) := by decide +kernel
theorem dX11_takesNumber_69 : decode cX11_takesNumber 69 = .ok (.aload_n 0, 1) := by decide +kernel
theorem dX11_takesNumber_70 : decode cX11_takesNumber 70 = .ok (.getfield 122, 3) := by decide +kernel
theorem dX11_takesNumber_73 : decode cX11_takesNumber 73 = .ok (.aload_n 0, 1) := by decide +kernel
theorem dX11_takesNumber_74 : decode cX11_takesNumber 74 = .ok (.getfield 301, 3) := by decide +kernel
theorem dX11_takesNumber_77 : decode cX11_takesNumber 77 = .ok (.iaload, 1) := by decide +kernel
theorem dX11_takesNumber_78 : decode cX11_takesNumber 78 = .ok (.iadd, 1) := by decide +kernel
theorem dX11_takesNumber_79 : decode cX11_takesNumber 79 = .ok (.bipush 48, 2) := by decide +kernel
theorem dX11_takesNumber_81 : decode cX11_takesNumber 81 = .ok (.isub, 1) := by decide +kernel
theorem dX11_takesNumber_82 : decode cX11_takesNumber 82 = .ok (.iastore, 1) := by decide +kernel
theorem dX11_takesNumber_83 : decode cX11_takesNumber 83 = .ok (.aload_n 0, 1) := by decide +kernel
theorem dX11_takesNumber_84 : decode cX11_takesNumber 84 = .ok (.dup, 1) := by decide +kernel
theorem dX11_takesNumber_85 : decode cX11_takesNumber 85 = .ok (.getfield 301, 3) := by decide +kernel
theorem dX11_takesNumber_88 : decode cX11_takesNumber 88 = .ok (.iconst 1, 1) := by decide +kernel
theorem dX11_takesNumber_89 : decode cX11_takesNumber 89 = .ok (.iadd, 1) := by decide +kernel
theorem dX11_takesNumber_90 : decode cX11_takesNumber 90 = .ok (.putfield 301, 3) := by decide +kernel
theorem dX11_takesNumber_93 : decode cX11_takesNumber 93 = .ok (.iconst 1, 1) := by decide +kernel
theorem dX11_takesNumber_94 : decode cX11_takesNumber 94 = .ok (.ireturn, 1) := by decide +kernel
theorem dX11_takesAction_0 : decode cX11_takesAction 0 = .ok (.aload_n 0, 1) := by decide +kernel
theorem dX11_takesAction_1 : decode cX11_takesAction 1 = .ok (.getfield 301, 3) := by decide +kernel
theorem dX11_takesAction_4 : decode cX11_takesAction 4 = .ok (.aload_n 0, 1) := by decide +kernel
theorem dX11_takesAction_5 : decode cX11_takesAction 5 = .ok (.getfield 298, 3) := by decide +kernel
theorem dX11_takesAction_8 : decode cX11_takesAction 8 = .ok (.if_icmp .ge 15, 3) := by decide +kernel
theorem dX11_takesAction_11 : decode cX11_takesAction 11 = .ok (.aload_n 0, 1) := by decide +kernel
theorem dX11_takesAction_12 : decode cX11_takesAction 12 = .ok (.getfield 122, 3) := by decide +kernel
theorem dX11_takesAction_15 : decode cX11_takesAction 15 = .ok (.aload_n 0, 1) := by decide +kernel
theorem dX11_takesAction_16 : decode cX11_takesAction 16 = .ok (.getfield 301, 3) := by decide +kernel
theorem dX11_takesAction_19 : decode cX11_takesAction 19 = .ok (.iaload, 1) := by decide +kernel
theorem dX11_takesAction_20 : decode cX11_takesAction 20 = .ok (.goto 4, 3) := by decide +kernel
theorem dX11_takesAction_23 : decode cX11_takesAction 23 = .ok (.iconst (-1), 1) := by decide +kernel
theorem dX11_takesAction_24 : decode cX11_takesAction 24 = .ok (.istore_n 1, 1) := by decide +kernel
theorem dX11_takesAction_25 : decode cX11_takesAction 25 = .ok (.iload_n 1, 1) := by decide +kernel
theorem dX11_takesAction_26 : decode cX11_takesAction 26 = .ok (.bipush 100, 2) := by decide +kernel
theorem dX11_takesAction_28 : decode cX11_takesAction 28 = .ok (.if_icmp .eq 29, 3) := by decide +kernel
theorem dX11_takesAction_31 : decode cX11_takesAction 31 = .ok (.iload_n 1, 1) := by decide +kernel
theorem dX11_takesAction_32 : decode cX11_takesAction 32 = .ok (.bipush 120, 2) := by decide +kernel
theorem dX11_takesAction_34 : decode cX11_takesAction 34 = .ok (.if_icmp .eq 23, 3) := by decide +kernel
theorem dX11_takesAction_37 : decode cX11_takesAction 37 = .ok (.iload_n 1, 1) := by decide +kernel
theorem dX11_takesAction_38 : decode cX11_takesAction 38 = .ok (.bipush 117, 2) := by decide +kernel
theorem dX11_takesAction_40 : decode cX11_takesAction 40 = .ok (.if_icmp .eq 17, 3) := by decide +kernel
theorem dX11_takesAction_43 : decode cX11_takesAction 43 = .ok (.iload_n 1, 1) := by decide +kernel
theorem dX11_takesAction_44 : decode cX11_takesAction 44 = .ok (.bipush 116, 2) := by decide +kernel
theorem dX11_takesAction_46 : decode cX11_takesAction 46 = .ok (.if_icmp .eq 11, 3) := by decide +kernel
theorem dX11_takesAction_49 : decode cX11_takesAction 49 = .ok (.iload_n 1, 1) := by decide +kernel
theorem dX11_takesAction_50 : decode cX11_takesAction 50 = .ok (.bipush 115, 2) := by decide +kernel
theorem dX11_takesAction_52 : decode cX11_takesAction 52 = .ok (.if_icmp .eq 5, 3) := by decide +kernel
theorem dX11_takesAction_55 : decode cX11_takesAction 55 = .ok (.iconst 0, 1) := by decide +kernel
theorem dX11_takesAction_56 : decode cX11_takesAction 56 = .ok (.ireturn, 1) := by decide +kernel
theorem dX11_takesAction_57 : decode cX11_takesAction 57 = .ok (.aload_n 0, 1) := by decide +kernel
theorem dX11_takesAction_58 : decode cX11_takesAction 58 = .ok (.dup, 1) := by decide +kernel
theorem dX11_takesAction_59 : decode cX11_takesAction 59 = .ok (.getfield 301, 3) := by decide +kernel
theorem dX11_takesAction_62 : decode cX11_takesAction 62 = .ok (.iconst 1, 1) := by decide +kernel
theorem dX11_takesAction_63 : decode cX11_takesAction 63 = .ok (.iadd, 1) := by decide +kernel
theorem dX11_takesAction_64 : decode cX11_takesAction 64 = .ok (.putfield 301, 3) := by decide +kernel
theorem dX11_takesAction_67 : decode cX11_takesAction 67 = .ok (.aload_n 0, 1) := by decide +kernel
theorem dX11_takesAction_68 : decode cX11_takesAction 68 = .ok (.getfield 125, 3) := by decide +kernel
theorem dX11_takesAction_71 : decode cX11_takesAction 71 = .ok (.aload_n 0, 1) := by decide +kernel
theorem dX11_takesAction_72 : decode cX11_takesAction 72 = .ok (.getfield 307, 3) := by decide +kernel
theorem dX11_takesAction_75 : decode cX11_takesAction 75 = .ok (.iload_n 1, 1) := by decide +kernel
theorem dX11_takesAction_76 : decode cX11_takesAction 76 = .ok (.iastore, 1) := by decide +kernel
theorem dX11_takesAction_77 : decode cX11_takesAction 77 = .ok (.aload_n 0, 1) := by decide +kernel
theorem dX11_takesAction_78 : decode cX11_takesAction 78 = .ok (.getfield 128, 3) := by decide +kernel
theorem dX11_takesAction_81 : decode cX11_takesAction 81 = .ok (.aload_n 0, 1) := by decide +kernel
theorem dX11_takesAction_82 : decode cX11_takesAction 82 = .ok (.getfield 307, 3) := by decide +kernel
theorem dX11_takesAction_85 : decode cX11_takesAction 85 = .ok (.iconst 1, 1) := by decide +kernel
theorem dX11_takesAction_86 : decode cX11_takesAction 86 = .ok (.iastore, 1) := by decide +kernel
theorem dX11_takesAction_87 : decode cX11_takesAction 87 = .ok (.iload_n 1, 1) := by decide +kernel
theorem dX11_takesAction_88 : decode cX11_takesAction 88 = .ok (.bipush 115, 2) := by decide +kernel
theorem dX11_takesAction_90 : decode cX11_takesAction 90 = .ok (.if_icmp .ne 66, 3) := by decide +kernel
theorem dX11_takesAction_93 : decode cX11_takesAction 93 = .ok (.aload_n 0, 1) := by decide +kernel
theorem dX11_takesAction_94 : decode cX11_takesAction 94 = .ok (.getfield 301, 3) := by decide +kernel
theorem dX11_takesAction_97 : decode cX11_takesAction 97 = .ok (.aload_n 0, 1) := by decide +kernel
theorem dX11_takesAction_98 : decode cX11_takesAction 98 = .ok (.getfield 298, 3) := by decide +kernel
theorem dX11_takesAction_101 : decode cX11_takesAction 101 = .ok (.if_icmp .eq 22, 3) := by decide +kernel
theorem dX11_takesAction_104 : decode cX11_takesAction 104 = .ok (.aload_n 0, 1) := by decide +kernel
theorem dX11_takesAction_105 : decode cX11_takesAction 105 = .ok (.getfield 122, 3) := by decide +kernel
theorem dX11_takesAction_108 : decode cX11_takesAction 108 = .ok (.aload_n 0, 1) := by decide +kernel
theorem dX11_takesAction_109 : decode cX11_takesAction 109 = .ok (.getfield 301, 3) := by decide +kernel
theorem dX11_takesAction_112 : decode cX11_takesAction 112 = .ok (.iaload, 1) := by decide +kernel
theorem dX11_takesAction_113 : decode cX11_takesAction 113 = .ok (.bipush 48, 2) := by decide +kernel
theorem dX11_takesAction_115 : decode cX11_takesAction 115 = .ok (.bipush 49, 2) := by decide +kernel
theorem dX11_takesAction_117 : decode cX11_takesAction 117 = .ok (.invokestatic 137, 3) := by decide +kernel
theorem dX11_takesAction_120 : decode cX11_takesAction 120 = .ok (.ifCond .ne 5, 3) := by decide +kernel
theorem dX11_takesAction_123 : decode cX11_takesAction 123 = .ok (.iconst 0, 1) := by decide +kernel
theorem dX11_takesAction_124 : decode cX11_takesAction 124 = .ok (.ireturn, 1) := by decide +kernel
theorem dX11_takesAction_125 : decode cX11_takesAction 125 = .ok (.aload_n 0, 1) := by decide +kernel
theorem dX11_takesAction_126 : decode cX11_takesAction 126 = .ok (.getfield 131, 3) := by decide +kernel
theorem dX11_takesAction_129 : decode cX11_takesAction 129 = .ok (.aload_n 0, 1) := by decide +kernel
theorem dX11_takesAction_130 : decode cX11_takesAction 130 = .ok (.getfield 307, 3) := by decide +kernel
theorem dX11_takesAction_133 : decode cX11_takesAction 133 = .ok (.aload_n 0, 1) := by decide +kernel
theorem dX11_takesAction_134 : decode cX11_takesAction 134 = .ok (.getfield 122, 3) := by decide +kernel
theorem dX11_takesAction_137 : decode cX11_takesAction 137 = .ok (.aload_n 0, 1) := by decide +kernel
theorem dX11_takesAction_138 : decode cX11_takesAction 138 = .ok (.getfield 301, 3) := by decide +kernel
theorem dX11_takesAction_141 : decode cX11_takesAction 141 = .ok (.iaload, 1) := by decide +kernel
theorem dX11_takesAction_142 : decode cX11_takesAction 142 = .ok (.bipush 48, 2) := by decide +kernel
theorem dX11_takesAction_144 : decode cX11_takesAction 144 = .ok (.isub, 1) := by decide +kernel
theorem dX11_takesAction_145 : decode cX11_takesAction 145 = .ok (.iastore, 1) := by decide +kernel
theorem dX11_takesAction_146 : decode cX11_takesAction 146 = .ok (.aload_n 0, 1) := by decide +kernel
theorem dX11_takesAction_147 : decode cX11_takesAction 147 = .ok (.dup, 1) := by decide +kernel
theorem dX11_takesAction_148 : decode cX11_takesAction 148 = .ok (.getfield 301, 3) := by decide +kernel
theorem dX11_takesAction_151 : decode cX11_takesAction 151 = .ok (.iconst 1, 1) := by decide +kernel
theorem dX11_takesAction_152 : decode cX11_takesAction 152 = .ok (.iadd, 1) := by decide +kernel
theorem dX11_takesAction_153 : decode cX11_takesAction 153 = .ok (.putfield 301, 3) := by decide +kernel
theorem dX11_takesAction_156 : decode cX11_takesAction 156 = .ok (.iload_n 1, 1) := by decide +kernel
theorem dX11_takesAction_157 : decode cX11_takesAction 157 = .ok (.bipush 116, 2) := by decide +kernel
theorem dX11_takesAction_159 : decode cX11_takesAction 159 = .ok (.if_icmp .ne 10, 3) := by decide +kernel
theorem dX11_takesAction_162 : decode cX11_takesAction 162 = .ok (.aload_n 0, 1) := by decide +kernel
theorem dX11_takesAction_163 : decode cX11_takesAction 163 = .ok (.invokevirtual 304, 3) := by decide +kernel
theorem dX11_takesAction_166 : decode cX11_takesAction 166 = .ok (.ifCond .eq 12, 3) := by decide +kernel
theorem dX11_takesAction_169 : decode cX11_takesAction 169 = .ok (.aload_n 0, 1) := by decide +kernel
theorem dX11_takesAction_170 : decode cX11_takesAction 170 = .ok (.invokevirtual 310, 3) := by decide +kernel
theorem dX11_takesAction_173 : decode cX11_takesAction 173 = .ok (.ifCond .ne 5, 3) := by decide +kernel
theorem dX11_takesAction_176 : decode cX11_takesAction 176 = .ok (.iconst 0, 1) := by decide +kernel
theorem dX11_takesAction_177 : decode cX11_takesAction 177 = .ok (.ireturn, 1) := by decide +kernel
theorem dX11_takesAction_178 : decode cX11_takesAction 178 = .ok (.aload_n 0, 1) := by decide +kernel
theorem dX11_takesAction_179 : decode cX11_takesAction 179 = .ok (.dup, 1) := by decide +kernel
theorem dX11_takesAction_180 : decode cX11_takesAction 180 = .ok (.getfield 307, 3) := by decide +kernel
theorem dX11_takesAction_183 : decode cX11_takesAction 183 = .ok (.iconst 1, 1) := by decide +kernel
theorem dX11_takesAction_184 : decode cX11_takesAction 184 = .ok (.iadd, 1) := by decide +kernel
theorem dX11_takesAction_185 : decode cX11_takesAction 185 = .ok (.putfield 307, 3) := by decide +kernel
theorem dX11_takesAction_188 : decode cX11_takesAction 188 = .ok (.iconst 1, 1) := by decide +kernel
theorem dX11_takesAction_189 : decode cX11_takesAction 189 = .ok (.ireturn, 1) := by decide +kernel
theorem dX11_takesScript_0 : decode cX11_takesScript 0 = .ok (.aload_n 0, 1) := by decide +kernel
theorem dX11_takesScript_1 : decode cX11_takesScript 1 = .ok (.iconst 0, 1) := by decide +kernel
theorem dX11_takesScript_2 : decode cX11_takesScript 2 = .ok (.putfield 301, 3) := by decide +kernel
theorem dX11_takesScript_5 : decode cX11_takesScript 5 = .ok (.aload_n 0, 1) := by decide +kernel
theorem dX11_takesScript_6 : decode cX11_takesScript 6 = .ok (.iconst 0, 1) := by decide +kernel
theorem dX11_takesScript_7 : decode cX11_takesScript 7 = .ok (.putfield 307, 3) := by decide +kernel
theorem dX11_takesScript_10 : decode cX11_takesScript 10 = .ok (.aload_n 0, 1) := by decide +kernel
theorem dX11_takesScript_11 : decode cX11_takesScript 11 = .ok (.invokevirtual 313, 3) := by decide +kernel
theorem dX11_takesScript_14 : decode cX11_takesScript 14 = .ok (.ifCond .eq 45, 3) := by decide +kernel
theorem dX11_takesScript_17 : decode cX11_takesScript 17 = .ok (.aload_n 0, 1) := by decide +kernel
theorem dX11_takesScript_18 : decode cX11_takesScript 18 = .ok (.getfield 301, 3) := by decide +kernel
theorem dX11_takesScript_21 : decode cX11_takesScript 21 = .ok (.aload_n 0, 1) := by decide +kernel
theorem dX11_takesScript_22 : decode cX11_takesScript 22 = .ok (.getfield 298, 3) := by decide +kernel
theorem dX11_takesScript_25 : decode cX11_takesScript 25 = .ok (.if_icmp .ne 5, 3) := by decide +kernel
theorem dX11_takesScript_28 : decode cX11_takesScript 28 = .ok (.iconst 1, 1) := by decide +kernel
theorem dX11_takesScript_29 : decode cX11_takesScript 29 = .ok (.ireturn, 1) := by decide +kernel
theorem dX11_takesScript_30 : decode cX11_takesScript 30 = .ok (.aload_n 0, 1) := by decide +kernel
theorem dX11_takesScript_31 : decode cX11_takesScript 31 = .ok (.getfield 122, 3) := by decide +kernel
theorem dX11_takesScript_34 : decode cX11_takesScript 34 = .ok (.aload_n 0, 1) := by decide +kernel
theorem dX11_takesScript_35 : decode cX11_takesScript 35 = .ok (.getfield 301, 3) := by decide +kernel
theorem dX11_takesScript_38 : decode cX11_takesScript 38 = .ok (.iaload, 1) := by decide +kernel
theorem dX11_takesScript_39 : decode cX11_takesScript 39 = .ok (.bipush 59, 2) := by decide +kernel
theorem dX11_takesScript_41 : decode cX11_takesScript 41 = .ok (.if_icmp .eq 5, 3) := by decide +kernel
theorem dX11_takesScript_44 : decode cX11_takesScript 44 = .ok (.iconst 0, 1) := by decide +kernel
theorem dX11_takesScript_45 : decode cX11_takesScript 45 = .ok (.ireturn, 1) := by decide +kernel
theorem dX11_takesScript_46 : decode cX11_takesScript 46 = .ok (.aload_n 0, 1) := by decide +kernel
theorem dX11_takesScript_47 : decode cX11_takesScript 47 = .ok (.dup, 1) := by decide +kernel
theorem dX11_takesScript_48 : decode cX11_takesScript 48 = .ok (.getfield 301, 3) := by decide +kernel
theorem dX11_takesScript_51 : decode cX11_takesScript 51 = .ok (.iconst 1, 1) := by decide +kernel
theorem dX11_takesScript_52 : decode cX11_takesScript 52 = .ok (.iadd, 1) := by decide +kernel
theorem dX11_takesScript_53 : decode cX11_takesScript 53 = .ok (.putfield 301, 3) := by decide +kernel
theorem dX11_takesScript_56 : decode cX11_takesScript 56 = .ok (.goto (-46), 3) := by decide +kernel
theorem dX11_takesScript_59 : decode cX11_takesScript 59 = .ok (.iconst 0, 1) := by decide +kernel
theorem dX11_takesScript_60 : decode cX11_takesScript 60 = .ok (.ireturn, 1) := by decide +kernel
theorem dX11_isError_0 : decode cX11_isError 0 = .ok (.iload_n 0, 1) := by decide +kernel
theorem dX11_isError_1 : decode cX11_isError 1 = .ok (.ldc 141, 2) := by decide +kernel
theorem dX11_isError_3 : decode cX11_isError 3 = .ok (.if_icmp .eq 15, 3) := by decide +kernel
theorem dX11_isError_6 : decode cX11_isError 6 = .ok (.iload_n 0, 1) := by decide +kernel
theorem dX11_isError_7 : decode cX11_isError 7 = .ok (.ldc 197, 2) := by decide +kernel
theorem dX11_isError_9 : decode cX11_isError 9 = .ok (.if_icmp .eq 9, 3) := by decide +kernel
theorem dX11_isError_12 : decode cX11_isError 12 = .ok (.iload_n 0, 1) := by decide +kernel
theorem dX11_isError_13 : decode cX11_isError 13 = .ok (.ldc 196, 2) := by decide +kernel
theorem dX11_isError_15 : decode cX11_isError 15 = .ok (.if_icmp .ne 7, 3) := by decide +kernel
theorem dX11_isError_18 : decode cX11_isError 18 = .ok (.iconst 1, 1) := by decide +kernel
theorem dX11_isError_19 : decode cX11_isError 19 = .ok (.goto 4, 3) := by decide +kernel
theorem dX11_isError_22 : decode cX11_isError 22 = .ok (.iconst 0, 1) := by decide +kernel
theorem dX11_isError_23 : decode cX11_isError 23 = .ok (.ireturn, 1) := by decide +kernel
theorem dX11_does_0 : decode cX11_does 0 = .ok (.aload_n 0, 1) := by decide +kernel
theorem dX11_does_1 : decode cX11_does 1 = .ok (.getfield 125, 3) := by decide +kernel
theorem dX11_does_4 : decode cX11_does 4 = .ok (.iload_n 1, 1) := by decide +kernel
theorem dX11_does_5 : decode cX11_does 5 = .ok (.iaload, 1) := by decide +kernel
theorem dX11_does_6 : decode cX11_does 6 = .ok (.lookupswitch 92 #[(100, 42), (115, 75), (117, 64), (120, 53)], 42) := by decide +kernel
theorem dX11_does_48 : decode cX11_does 48 = .ok (.aload_n 0, 1) := by decide +kernel
theorem dX11_does_49 : decode cX11_does 49 = .ok (.aload_n 0, 1) := by decide +kernel
theorem dX11_does_50 : decode cX11_does 50 = .ok (.getfield 128, 3) := by decide +kernel
theorem dX11_does_53 : decode cX11_does 53 = .ok (.iload_n 1, 1) := by decide +kernel
theorem dX11_does_54 : decode cX11_does 54 = .ok (.iaload, 1) := by decide +kernel
theorem dX11_does_55 : decode cX11_does 55 = .ok (.invokevirtual 316, 3) := by decide +kernel
theorem dX11_does_58 : decode cX11_does 58 = .ok (.ireturn, 1) := by decide +kernel
theorem dX11_does_59 : decode cX11_does 59 = .ok (.aload_n 0, 1) := by decide +kernel
theorem dX11_does_60 : decode cX11_does 60 = .ok (.aload_n 0, 1) := by decide +kernel
theorem dX11_does_61 : decode cX11_does 61 = .ok (.getfield 128, 3) := by decide +kernel
theorem dX11_does_64 : decode cX11_does 64 = .ok (.iload_n 1, 1) := by decide +kernel
theorem dX11_does_65 : decode cX11_does 65 = .ok (.iaload, 1) := by decide +kernel
theorem dX11_does_66 : decode cX11_does 66 = .ok (.invokevirtual 319, 3) := by decide +kernel
theorem dX11_does_69 : decode cX11_does 69 = .ok (.ireturn, 1) := by decide +kernel
theorem dX11_does_70 : decode cX11_does 70 = .ok (.aload_n 0, 1) := by decide +kernel
theorem dX11_does_71 : decode cX11_does 71 = .ok (.aload_n 0, 1) := by decide +kernel
theorem dX11_does_72 : decode cX11_does 72 = .ok (.getfield 128, 3) := by decide +kernel
theorem dX11_does_75 : decode cX11_does 75 = .ok (.iload_n 1, 1) := by decide +kernel
theorem dX11_does_76 : decode cX11_does 76 = .ok (.iaload, 1) := by decide +kernel
theorem dX11_does_77 : decode cX11_does 77 = .ok (.invokevirtual 322, 3) := by decide +kernel
theorem dX11_does_80 : decode cX11_does 80 = .ok (.ireturn, 1) := by decide +kernel
theorem dX11_does_81 : decode cX11_does 81 = .ok (.aload_n 0, 1) := by decide +kernel
theorem dX11_does_82 : decode cX11_does 82 = .ok (.aload_n 0, 1) := by decide +kernel
theorem dX11_does_83 : decode cX11_does 83 = .ok (.getfield 131, 3) := by decide +kernel
theorem dX11_does_86 : decode cX11_does 86 = .ok (.iload_n 1, 1) := by decide +kernel
theorem dX11_does_87 : decode cX11_does 87 = .ok (.iaload, 1) := by decide +kernel
theorem dX11_does_88 : decode cX11_does 88 = .ok (.aload_n 0, 1) := by decide +kernel
theorem dX11_does_89 : decode cX11_does 89 = .ok (.getfield 128, 3) := by decide +kernel
theorem dX11_does_92 : decode cX11_does 92 = .ok (.iload_n 1, 1) := by decide +kernel
theorem dX11_does_93 : decode cX11_does 93 = .ok (.iaload, 1) := by decide +kernel
theorem dX11_does_94 : decode cX11_does 94 = .ok (.invokevirtual 325, 3) := by decide +kernel
theorem dX11_does_97 : decode cX11_does 97 = .ok (.ireturn, 1) := by decide +kernel
theorem dX11_does_98 : decode cX11_does 98 = .ok (.aload_n 0, 1) := by decide +kernel
theorem dX11_does_99 : decode cX11_does 99 = .ok (.getfield 128, 3) := by decide +kernel
theorem dX11_does_102 : decode cX11_does 102 = .ok (.iload_n 1, 1) := by decide +kernel
theorem dX11_does_103 : decode cX11_does 103 = .ok (.iaload, 1) := by decide +kernel
theorem dX11_does_104 : decode cX11_does 104 = .ok (.ifCond .ne 7, 3) := by decide +kernel
theorem dX11_does_107 : decode cX11_does 107 = .ok (.iconst 0, 1) := by decide +kernel
theorem dX11_does_108 : decode cX11_does 108 = .ok (.goto 13, 3) := by decide +kernel
theorem dX11_does_111 : decode cX11_does 111 = .ok (.aload_n 0, 1) := by decide +kernel
theorem dX11_does_112 : decode cX11_does 112 = .ok (.aload_n 0, 1) := by decide +kernel
theorem dX11_does_113 : decode cX11_does 113 = .ok (.getfield 128, 3) := by decide +kernel
theorem dX11_does_116 : decode cX11_does 116 = .ok (.iload_n 1, 1) := by decide +kernel
theorem dX11_does_117 : decode cX11_does 117 = .ok (.iaload, 1) := by decide +kernel
theorem dX11_does_118 : decode cX11_does 118 = .ok (.invokevirtual 328, 3) := by decide +kernel
theorem dX11_does_121 : decode cX11_does 121 = .ok (.ireturn, 1) := by decide +kernel
theorem dX11_runScript_0 : decode cX11_runScript 0 = .ok (.aload_n 0, 1) := by decide +kernel
theorem dX11_runScript_1 : decode cX11_runScript 1 = .ok (.invokevirtual 331, 3) := by decide +kernel
theorem dX11_runScript_4 : decode cX11_runScript 4 = .ok (.istore_n 1, 1) := by decide +kernel
theorem dX11_runScript_5 : decode cX11_runScript 5 = .ok (.aload_n 0, 1) := by decide +kernel
theorem dX11_runScript_6 : decode cX11_runScript 6 = .ok (.iconst 0, 1) := by decide +kernel
theorem dX11_runScript_7 : decode cX11_runScript 7 = .ok (.putfield 298, 3) := by decide +kernel
theorem dX11_runScript_10 : decode cX11_runScript 10 = .ok (.iload_n 1, 1) := by decide +kernel
theorem dX11_runScript_11 : decode cX11_runScript 11 = .ok (.ifCond .ne 12, 3) := by decide +kernel
theorem dX11_runScript_14 : decode cX11_runScript 14 = .ok (.sipush (-2000), 3) := by decide +kernel
theorem dX11_runScript_17 : decode cX11_runScript 17 = .ok (.aload_n 0, 1) := by decide +kernel
theorem dX11_runScript_18 : decode cX11_runScript 18 = .ok (.getfield 301, 3) := by decide +kernel
theorem dX11_runScript_21 : decode cX11_runScript 21 = .ok (.isub, 1) := by decide +kernel
theorem dX11_runScript_22 : decode cX11_runScript 22 = .ok (.ireturn, 1) := by decide +kernel
theorem dX11_runScript_23 : decode cX11_runScript 23 = .ok (.iconst 0, 1) := by decide +kernel
theorem dX11_runScript_24 : decode cX11_runScript 24 = .ok (.istore_n 2, 1) := by decide +kernel
theorem dX11_runScript_25 : decode cX11_runScript 25 = .ok (.iload_n 2, 1) := by decide +kernel
theorem dX11_runScript_26 : decode cX11_runScript 26 = .ok (.aload_n 0, 1) := by decide +kernel
theorem dX11_runScript_27 : decode cX11_runScript 27 = .ok (.getfield 307, 3) := by decide +kernel
theorem dX11_runScript_30 : decode cX11_runScript 30 = .ok (.if_icmp .ge 20, 3) := by decide +kernel
theorem dX11_runScript_33 : decode cX11_runScript 33 = .ok (.aload_n 0, 1) := by decide +kernel
theorem dX11_runScript_34 : decode cX11_runScript 34 = .ok (.iload_n 2, 1) := by decide +kernel
theorem dX11_runScript_35 : decode cX11_runScript 35 = .ok (.invokevirtual 334, 3) := by decide +kernel
theorem dX11_runScript_38 : decode cX11_runScript 38 = .ok (.invokestatic 337, 3) := by decide +kernel
theorem dX11_runScript_41 : decode cX11_runScript 41 = .ok (.ifCond .ne 9, 3) := by decide +kernel
theorem dX11_runScript_44 : decode cX11_runScript 44 = .ok (.iinc 2 1, 3) := by decide +kernel
theorem dX11_runScript_47 : decode cX11_runScript 47 = .ok (.goto (-22), 3) := by decide +kernel
theorem dX11_runScript_50 : decode cX11_runScript 50 = .ok (.iload_n 2, 1) := by decide +kernel
theorem dX11_runScript_51 : decode cX11_runScript 51 = .ok (.ireturn, 1) := by decide +kernel
theorem dX11_hands_0 : decode cX11_hands 0 = .ok (.iconst 0, 1) := by decide +kernel
theorem dX11_hands_1 : decode cX11_hands 1 = .ok (.istore_n 2, 1) := by decide +kernel
theorem dX11_hands_2 : decode cX11_hands 2 = .ok (.iload_n 2, 1) := by decide +kernel
theorem dX11_hands_3 : decode cX11_hands 3 = .ok (.aload_n 1, 1) := by decide +kernel
theorem dX11_hands_4 : decode cX11_hands 4 = .ok (.arraylength, 1) := by decide +kernel
theorem dX11_hands_5 : decode cX11_hands 5 = .ok (.if_icmp .ge 53, 3) := by decide +kernel
theorem dX11_hands_8 : decode cX11_hands 8 = .ok (.aload_n 0, 1) := by decide +kernel
theorem dX11_hands_9 : decode cX11_hands 9 = .ok (.getfield 340, 3) := by decide +kernel
theorem dX11_hands_12 : decode cX11_hands 12 = .ok (.ifCond .eq 18, 3) := by decide +kernel
theorem dX11_hands_15 : decode cX11_hands 15 = .ok (.aload_n 0, 1) := by decide +kernel
theorem dX11_hands_16 : decode cX11_hands 16 = .ok (.getfield 134, 3) := by decide +kernel
theorem dX11_hands_19 : decode cX11_hands 19 = .ok (.aload_n 0, 1) := by decide +kernel
theorem dX11_hands_20 : decode cX11_hands 20 = .ok (.getfield 344, 3) := by decide +kernel
theorem dX11_hands_23 : decode cX11_hands 23 = .ok (.aload_n 1, 1) := by decide +kernel
theorem dX11_hands_24 : decode cX11_hands 24 = .ok (.iload_n 2, 1) := by decide +kernel
theorem dX11_hands_25 : decode cX11_hands 25 = .ok (.iaload, 1) := by decide +kernel
theorem dX11_hands_26 : decode cX11_hands 26 = .ok (.iastore, 1) := by decide +kernel
theorem dX11_hands_27 : decode cX11_hands 27 = .ok (.goto 15, 3) := by decide +kernel
theorem dX11_hands_30 : decode cX11_hands 30 = .ok (.aload_n 1, 1) := by decide +kernel
theorem dX11_hands_31 : decode cX11_hands 31 = .ok (.iload_n 2, 1) := by decide +kernel
theorem dX11_hands_32 : decode cX11_hands 32 = .ok (.aload_n 0, 1) := by decide +kernel
theorem dX11_hands_33 : decode cX11_hands 33 = .ok (.getfield 134, 3) := by decide +kernel
theorem dX11_hands_36 : decode cX11_hands 36 = .ok (.aload_n 0, 1) := by decide +kernel
theorem dX11_hands_37 : decode cX11_hands 37 = .ok (.getfield 344, 3) := by decide +kernel
theorem dX11_hands_40 : decode cX11_hands 40 = .ok (.iaload, 1) := by decide +kernel
theorem dX11_hands_41 : decode cX11_hands 41 = .ok (.iastore, 1) := by decide +kernel
theorem dX11_hands_42 : decode cX11_hands 42 = .ok (.aload_n 0, 1) := by decide +kernel
theorem dX11_hands_43 : decode cX11_hands 43 = .ok (.dup, 1) := by decide +kernel
theorem dX11_hands_44 : decode cX11_hands 44 = .ok (.getfield 344, 3) := by decide +kernel
theorem dX11_hands_47 : decode cX11_hands 47 = .ok (.iconst 1, 1) := by decide +kernel
theorem dX11_hands_48 : decode cX11_hands 48 = .ok (.iadd, 1) := by decide +kernel
theorem dX11_hands_49 : decode cX11_hands 49 = .ok (.putfield 344, 3) := by decide +kernel
theorem dX11_hands_52 : decode cX11_hands 52 = .ok (.iinc 2 1, 3) := by decide +kernel
theorem dX11_hands_55 : decode cX11_hands 55 = .ok (.goto (-53), 3) := by decide +kernel
theorem dX11_hands_58 : decode cX11_hands 58 = .ok (.return_, 1) := by decide +kernel
theorem dX11_hand_0 : decode cX11_hand 0 = .ok (.aload_n 0, 1) := by decide +kernel
theorem dX11_hand_1 : decode cX11_hand 1 = .ok (.getfield 340, 3) := by decide +kernel
theorem dX11_hand_4 : decode cX11_hand 4 = .ok (.ifCond .eq 7, 3) := by decide +kernel
theorem dX11_hand_7 : decode cX11_hand 7 = .ok (.iload_n 1, 1) := by decide +kernel
theorem dX11_hand_8 : decode cX11_hand 8 = .ok (.goto 12, 3) := by decide +kernel
theorem dX11_hand_11 : decode cX11_hand 11 = .ok (.aload_n 0, 1) := by decide +kernel
theorem dX11_hand_12 : decode cX11_hand 12 = .ok (.getfield 134, 3) := by decide +kernel
theorem dX11_hand_15 : decode cX11_hand 15 = .ok (.aload_n 0, 1) := by decide +kernel
theorem dX11_hand_16 : decode cX11_hand 16 = .ok (.getfield 344, 3) := by decide +kernel
theorem dX11_hand_19 : decode cX11_hand 19 = .ok (.iaload, 1) := by decide +kernel
theorem dX11_hand_20 : decode cX11_hand 20 = .ok (.istore_n 2, 1) := by decide +kernel
theorem dX11_hand_21 : decode cX11_hand 21 = .ok (.aload_n 0, 1) := by decide +kernel
theorem dX11_hand_22 : decode cX11_hand 22 = .ok (.getfield 134, 3) := by decide +kernel
theorem dX11_hand_25 : decode cX11_hand 25 = .ok (.aload_n 0, 1) := by decide +kernel
theorem dX11_hand_26 : decode cX11_hand 26 = .ok (.getfield 344, 3) := by decide +kernel
theorem dX11_hand_29 : decode cX11_hand 29 = .ok (.iload_n 2, 1) := by decide +kernel
theorem dX11_hand_30 : decode cX11_hand 30 = .ok (.iastore, 1) := by decide +kernel
theorem dX11_hand_31 : decode cX11_hand 31 = .ok (.aload_n 0, 1) := by decide +kernel
theorem dX11_hand_32 : decode cX11_hand 32 = .ok (.dup, 1) := by decide +kernel
theorem dX11_hand_33 : decode cX11_hand 33 = .ok (.getfield 344, 3) := by decide +kernel
theorem dX11_hand_36 : decode cX11_hand 36 = .ok (.iconst 1, 1) := by decide +kernel
theorem dX11_hand_37 : decode cX11_hand 37 = .ok (.iadd, 1) := by decide +kernel
theorem dX11_hand_38 : decode cX11_hand 38 = .ok (.putfield 344, 3) := by decide +kernel
theorem dX11_hand_41 : decode cX11_hand 41 = .ok (.iload_n 2, 1) := by decide +kernel
theorem dX11_hand_42 : decode cX11_hand 42 = .ok (.ireturn, 1) := by decide +kernel
theorem dX11_handsEndpoints_0 : decode cX11_handsEndpoints 0 = .ok (.aload_n 0, 1) := by decide +kernel
theorem dX11_handsEndpoints_1 : decode cX11_handsEndpoints 1 = .ok (.aload_n 0, 1) := by decide +kernel
theorem dX11_handsEndpoints_2 : decode cX11_handsEndpoints 2 = .ok (.getfield 19, 3) := by decide +kernel
theorem dX11_handsEndpoints_5 : decode cX11_handsEndpoints 5 = .ok (.invokevirtual 347, 3) := by decide +kernel
theorem dX11_handsEndpoints_8 : decode cX11_handsEndpoints 8 = .ok (.aload_n 0, 1) := by decide +kernel
theorem dX11_handsEndpoints_9 : decode cX11_handsEndpoints 9 = .ok (.aload_n 0, 1) := by decide +kernel
theorem dX11_handsEndpoints_10 : decode cX11_handsEndpoints 10 = .ok (.getfield 23, 3) := by decide +kernel
theorem dX11_handsEndpoints_13 : decode cX11_handsEndpoints 13 = .ok (.invokevirtual 347, 3) := by decide +kernel
theorem dX11_handsEndpoints_16 : decode cX11_handsEndpoints 16 = .ok (.aload_n 0, 1) := by decide +kernel
theorem dX11_handsEndpoints_17 : decode cX11_handsEndpoints 17 = .ok (.aload_n 0, 1) := by decide +kernel
theorem dX11_handsEndpoints_18 : decode cX11_handsEndpoints 18 = .ok (.getfield 26, 3) := by decide +kernel
theorem dX11_handsEndpoints_21 : decode cX11_handsEndpoints 21 = .ok (.invokevirtual 347, 3) := by decide +kernel
theorem dX11_handsEndpoints_24 : decode cX11_handsEndpoints 24 = .ok (.aload_n 0, 1) := by decide +kernel
theorem dX11_handsEndpoints_25 : decode cX11_handsEndpoints 25 = .ok (.aload_n 0, 1) := by decide +kernel
theorem dX11_handsEndpoints_26 : decode cX11_handsEndpoints 26 = .ok (.getfield 29, 3) := by decide +kernel
theorem dX11_handsEndpoints_29 : decode cX11_handsEndpoints 29 = .ok (.invokevirtual 347, 3) := by decide +kernel
theorem dX11_handsEndpoints_32 : decode cX11_handsEndpoints 32 = .ok (.aload_n 0, 1) := by decide +kernel
theorem dX11_handsEndpoints_33 : decode cX11_handsEndpoints 33 = .ok (.aload_n 0, 1) := by decide +kernel
theorem dX11_handsEndpoints_34 : decode cX11_handsEndpoints 34 = .ok (.getfield 32, 3) := by decide +kernel
theorem dX11_handsEndpoints_37 : decode cX11_handsEndpoints 37 = .ok (.invokevirtual 347, 3) := by decide +kernel
theorem dX11_handsEndpoints_40 : decode cX11_handsEndpoints 40 = .ok (.aload_n 0, 1) := by decide +kernel
theorem dX11_handsEndpoints_41 : decode cX11_handsEndpoints 41 = .ok (.aload_n 0, 1) := by decide +kernel
theorem dX11_handsEndpoints_42 : decode cX11_handsEndpoints 42 = .ok (.getfield 35, 3) := by decide +kernel
theorem dX11_handsEndpoints_45 : decode cX11_handsEndpoints 45 = .ok (.invokevirtual 347, 3) := by decide +kernel
theorem dX11_handsEndpoints_48 : decode cX11_handsEndpoints 48 = .ok (.aload_n 0, 1) := by decide +kernel
theorem dX11_handsEndpoints_49 : decode cX11_handsEndpoints 49 = .ok (.aload_n 0, 1) := by decide +kernel
theorem dX11_handsEndpoints_50 : decode cX11_handsEndpoints 50 = .ok (.getfield 38, 3) := by decide +kernel
theorem dX11_handsEndpoints_53 : decode cX11_handsEndpoints 53 = .ok (.invokevirtual 347, 3) := by decide +kernel
theorem dX11_handsEndpoints_56 : decode cX11_handsEndpoints 56 = .ok (.aload_n 0, 1) := by decide +kernel
theorem dX11_handsEndpoints_57 : decode cX11_handsEndpoints 57 = .ok (.aload_n 0, 1) := by decide +kernel
theorem dX11_handsEndpoints_58 : decode cX11_handsEndpoints 58 = .ok (.getfield 41, 3) := by decide +kernel
theorem dX11_handsEndpoints_61 : decode cX11_handsEndpoints 61 = .ok (.invokevirtual 347, 3) := by decide +kernel
theorem dX11_handsEndpoints_64 : decode cX11_handsEndpoints 64 = .ok (.aload_n 0, 1) := by decide +kernel
theorem dX11_handsEndpoints_65 : decode cX11_handsEndpoints 65 = .ok (.aload_n 0, 1) := by decide +kernel
theorem dX11_handsEndpoints_66 : decode cX11_handsEndpoints 66 = .ok (.getfield 44, 3) := by decide +kernel
theorem dX11_handsEndpoints_69 : decode cX11_handsEndpoints 69 = .ok (.invokevirtual 347, 3) := by decide +kernel
theorem dX11_handsEndpoints_72 : decode cX11_handsEndpoints 72 = .ok (.aload_n 0, 1) := by decide +kernel
theorem dX11_handsEndpoints_73 : decode cX11_handsEndpoints 73 = .ok (.aload_n 0, 1) := by decide +kernel
theorem dX11_handsEndpoints_74 : decode cX11_handsEndpoints 74 = .ok (.getfield 47, 3) := by decide +kernel
theorem dX11_handsEndpoints_77 : decode cX11_handsEndpoints 77 = .ok (.invokevirtual 347, 3) := by decide +kernel
theorem dX11_handsEndpoints_80 : decode cX11_handsEndpoints 80 = .ok (.aload_n 0, 1) := by decide +kernel
theorem dX11_handsEndpoints_81 : decode cX11_handsEndpoints 81 = .ok (.aload_n 0, 1) := by decide +kernel
theorem dX11_handsEndpoints_82 : decode cX11_handsEndpoints 82 = .ok (.getfield 50, 3) := by decide +kernel
theorem dX11_handsEndpoints_85 : decode cX11_handsEndpoints 85 = .ok (.invokevirtual 347, 3) := by decide +kernel
theorem dX11_handsEndpoints_88 : decode cX11_handsEndpoints 88 = .ok (.aload_n 0, 1) := by decide +kernel
theorem dX11_handsEndpoints_89 : decode cX11_handsEndpoints 89 = .ok (.aload_n 0, 1) := by decide +kernel
theorem dX11_handsEndpoints_90 : decode cX11_handsEndpoints 90 = .ok (.getfield 53, 3) := by decide +kernel
theorem dX11_handsEndpoints_93 : decode cX11_handsEndpoints 93 = .ok (.invokevirtual 347, 3) := by decide +kernel
theorem dX11_handsEndpoints_96 : decode cX11_handsEndpoints 96 = .ok (.aload_n 0, 1) := by decide +kernel
theorem dX11_handsEndpoints_97 : decode cX11_handsEndpoints 97 = .ok (.aload_n 0, 1) := by decide +kernel
theorem dX11_handsEndpoints_98 : decode cX11_handsEndpoints 98 = .ok (.getfield 56, 3) := by decide +kernel
theorem dX11_handsEndpoints_101 : decode cX11_handsEndpoints 101 = .ok (.invokevirtual 347, 3) := by decide +kernel
theorem dX11_handsEndpoints_104 : decode cX11_handsEndpoints 104 = .ok (.aload_n 0, 1) := by decide +kernel
theorem dX11_handsEndpoints_105 : decode cX11_handsEndpoints 105 = .ok (.aload_n 0, 1) := by decide +kernel
theorem dX11_handsEndpoints_106 : decode cX11_handsEndpoints 106 = .ok (.getfield 59, 3) := by decide +kernel
theorem dX11_handsEndpoints_109 : decode cX11_handsEndpoints 109 = .ok (.invokevirtual 347, 3) := by decide +kernel
theorem dX11_handsEndpoints_112 : decode cX11_handsEndpoints 112 = .ok (.aload_n 0, 1) := by decide +kernel
theorem dX11_handsEndpoints_113 : decode cX11_handsEndpoints 113 = .ok (.aload_n 0, 1) := by decide +kernel
theorem dX11_handsEndpoints_114 : decode cX11_handsEndpoints 114 = .ok (.getfield 62, 3) := by decide +kernel
theorem dX11_handsEndpoints_117 : decode cX11_handsEndpoints 117 = .ok (.invokevirtual 347, 3) := by decide +kernel
theorem dX11_handsEndpoints_120 : decode cX11_handsEndpoints 120 = .ok (.aload_n 0, 1) := by decide +kernel
theorem dX11_handsEndpoints_121 : decode cX11_handsEndpoints 121 = .ok (.aload_n 0, 1) := by decide +kernel
theorem dX11_handsEndpoints_122 : decode cX11_handsEndpoints 122 = .ok (.getfield 65, 3) := by decide +kernel
theorem dX11_handsEndpoints_125 : decode cX11_handsEndpoints 125 = .ok (.invokevirtual 347, 3) := by decide +kernel
theorem dX11_handsEndpoints_128 : decode cX11_handsEndpoints 128 = .ok (.aload_n 0, 1) := by decide +kernel
theorem dX11_handsEndpoints_129 : decode cX11_handsEndpoints 129 = .ok (.aload_n 0, 1) := by decide +kernel
theorem dX11_handsEndpoints_130 : decode cX11_handsEndpoints 130 = .ok (.getfield 68, 3) := by decide +kernel
theorem dX11_handsEndpoints_133 : decode cX11_handsEndpoints 133 = .ok (.invokevirtual 347, 3) := by decide +kernel
theorem dX11_handsEndpoints_136 : decode cX11_handsEndpoints 136 = .ok (.aload_n 0, 1) := by decide +kernel
theorem dX11_handsEndpoints_137 : decode cX11_handsEndpoints 137 = .ok (.aload_n 0, 1) := by decide +kernel
theorem dX11_handsEndpoints_138 : decode cX11_handsEndpoints 138 = .ok (.getfield 71, 3) := by decide +kernel
theorem dX11_handsEndpoints_141 : decode cX11_handsEndpoints 141 = .ok (.invokevirtual 347, 3) := by decide +kernel
theorem dX11_handsEndpoints_144 : decode cX11_handsEndpoints 144 = .ok (.aload_n 0, 1) := by decide +kernel
theorem dX11_handsEndpoints_145 : decode cX11_handsEndpoints 145 = .ok (.aload_n 0, 1) := by decide +kernel
theorem dX11_handsEndpoints_146 : decode cX11_handsEndpoints 146 = .ok (.getfield 74, 3) := by decide +kernel
theorem dX11_handsEndpoints_149 : decode cX11_handsEndpoints 149 = .ok (.invokevirtual 347, 3) := by decide +kernel
theorem dX11_handsEndpoints_152 : decode cX11_handsEndpoints 152 = .ok (.aload_n 0, 1) := by decide +kernel
theorem dX11_handsEndpoints_153 : decode cX11_handsEndpoints 153 = .ok (.aload_n 0, 1) := by decide +kernel
theorem dX11_handsEndpoints_154 : decode cX11_handsEndpoints 154 = .ok (.getfield 77, 3) := by decide +kernel
theorem dX11_handsEndpoints_157 : decode cX11_handsEndpoints 157 = .ok (.invokevirtual 347, 3) := by decide +kernel
theorem dX11_handsEndpoints_160 : decode cX11_handsEndpoints 160 = .ok (.aload_n 0, 1) := by decide +kernel
theorem dX11_handsEndpoints_161 : decode cX11_handsEndpoints 161 = .ok (.aload_n 0, 1) := by decide +kernel
theorem dX11_handsEndpoints_162 : decode cX11_handsEndpoints 162 = .ok (.getfield 80, 3) := by decide +kernel
theorem dX11_handsEndpoints_165 : decode cX11_handsEndpoints 165 = .ok (.invokevirtual 347, 3) := by decide +kernel
theorem dX11_handsEndpoints_168 : decode cX11_handsEndpoints 168 = .ok (.aload_n 0, 1) := by decide +kernel
theorem dX11_handsEndpoints_169 : decode cX11_handsEndpoints 169 = .ok (.aload_n 0, 1) := by decide +kernel
theorem dX11_handsEndpoints_170 : decode cX11_handsEndpoints 170 = .ok (.getfield 83, 3) := by decide +kernel
theorem dX11_handsEndpoints_173 : decode cX11_handsEndpoints 173 = .ok (.invokevirtual 347, 3) := by decide +kernel
theorem dX11_handsEndpoints_176 : decode cX11_handsEndpoints 176 = .ok (.aload_n 0, 1) := by decide +kernel
theorem dX11_handsEndpoints_177 : decode cX11_handsEndpoints 177 = .ok (.aload_n 0, 1) := by decide +kernel
theorem dX11_handsEndpoints_178 : decode cX11_handsEndpoints 178 = .ok (.getfield 86, 3) := by decide +kernel
theorem dX11_handsEndpoints_181 : decode cX11_handsEndpoints 181 = .ok (.invokevirtual 347, 3) := by decide +kernel
theorem dX11_handsEndpoints_184 : decode cX11_handsEndpoints 184 = .ok (.aload_n 0, 1) := by decide +kernel
theorem dX11_handsEndpoints_185 : decode cX11_handsEndpoints 185 = .ok (.aload_n 0, 1) := by decide +kernel
theorem dX11_handsEndpoints_186 : decode cX11_handsEndpoints 186 = .ok (.getfield 89, 3) := by decide +kernel
theorem dX11_handsEndpoints_189 : decode cX11_handsEndpoints 189 = .ok (.invokevirtual 347, 3) := by decide +kernel
theorem dX11_handsEndpoints_192 : decode cX11_handsEndpoints 192 = .ok (.aload_n 0, 1) := by decide +kernel
theorem dX11_handsEndpoints_193 : decode cX11_handsEndpoints 193 = .ok (.aload_n 0, 1) := by decide +kernel
theorem dX11_handsEndpoints_194 : decode cX11_handsEndpoints 194 = .ok (.getfield 92, 3) := by decide +kernel
theorem dX11_handsEndpoints_197 : decode cX11_handsEndpoints 197 = .ok (.invokevirtual 347, 3) := by decide +kernel
theorem dX11_handsEndpoints_200 : decode cX11_handsEndpoints 200 = .ok (.aload_n 0, 1) := by decide +kernel
theorem dX11_handsEndpoints_201 : decode cX11_handsEndpoints 201 = .ok (.aload_n 0, 1) := by decide +kernel
theorem dX11_handsEndpoints_202 : decode cX11_handsEndpoints 202 = .ok (.getfield 95, 3) := by decide +kernel
theorem dX11_handsEndpoints_205 : decode cX11_handsEndpoints 205 = .ok (.invokevirtual 347, 3) := by decide +kernel
theorem dX11_handsEndpoints_208 : decode cX11_handsEndpoints 208 = .ok (.aload_n 0, 1) := by decide +kernel
theorem dX11_handsEndpoints_209 : decode cX11_handsEndpoints 209 = .ok (.aload_n 0, 1) := by decide +kernel
theorem dX11_handsEndpoints_210 : decode cX11_handsEndpoints 210 = .ok (.getfield 104, 3) := by decide +kernel
theorem dX11_handsEndpoints_213 : decode cX11_handsEndpoints 213 = .ok (.invokevirtual 347, 3) := by decide +kernel
theorem dX11_handsEndpoints_216 : decode cX11_handsEndpoints 216 = .ok (.aload_n 0, 1) := by decide +kernel
theorem dX11_handsEndpoints_217 : decode cX11_handsEndpoints 217 = .ok (.aload_n 0, 1) := by decide +kernel
theorem dX11_handsEndpoints_218 : decode cX11_handsEndpoints 218 = .ok (.getfield 107, 3) := by decide +kernel
theorem dX11_handsEndpoints_221 : decode cX11_handsEndpoints 221 = .ok (.invokevirtual 347, 3) := by decide +kernel
theorem dX11_handsEndpoints_224 : decode cX11_handsEndpoints 224 = .ok (.aload_n 0, 1) := by decide +kernel
theorem dX11_handsEndpoints_225 : decode cX11_handsEndpoints 225 = .ok (.aload_n 0, 1) := by decide +kernel
theorem dX11_handsEndpoints_226 : decode cX11_handsEndpoints 226 = .ok (.getfield 119, 3) := by decide +kernel
theorem dX11_handsEndpoints_229 : decode cX11_handsEndpoints 229 = .ok (.invokevirtual 347, 3) := by decide +kernel
theorem dX11_handsEndpoints_232 : decode cX11_handsEndpoints 232 = .ok (.aload_n 0, 1) := by decide +kernel
theorem dX11_handsEndpoints_233 : decode cX11_handsEndpoints 233 = .ok (.aload_n 0, 1) := by decide +kernel
theorem dX11_handsEndpoints_234 : decode cX11_handsEndpoints 234 = .ok (.getfield 110, 3) := by decide +kernel
theorem dX11_handsEndpoints_237 : decode cX11_handsEndpoints 237 = .ok (.invokevirtual 347, 3) := by decide +kernel
theorem dX11_handsEndpoints_240 : decode cX11_handsEndpoints 240 = .ok (.aload_n 0, 1) := by decide +kernel
theorem dX11_handsEndpoints_241 : decode cX11_handsEndpoints 241 = .ok (.aload_n 0, 1) := by decide +kernel
theorem dX11_handsEndpoints_242 : decode cX11_handsEndpoints 242 = .ok (.getfield 113, 3) := by decide +kernel
theorem dX11_handsEndpoints_245 : decode cX11_handsEndpoints 245 = .ok (.invokevirtual 347, 3) := by decide +kernel
theorem dX11_handsEndpoints_248 : decode cX11_handsEndpoints 248 = .ok (.return_, 1) := by decide +kernel
theorem dX11_handsAll_0 : decode cX11_handsAll 0 = .ok (.aload_n 0, 1) := by decide +kernel
theorem dX11_handsAll_1 : decode cX11_handsAll 1 = .ok (.iload_n 1, 1) := by decide +kernel
theorem dX11_handsAll_2 : decode cX11_handsAll 2 = .ok (.putfield 340, 3) := by decide +kernel
theorem dX11_handsAll_5 : decode cX11_handsAll 5 = .ok (.aload_n 0, 1) := by decide +kernel
theorem dX11_handsAll_6 : decode cX11_handsAll 6 = .ok (.iconst 0, 1) := by decide +kernel
theorem dX11_handsAll_7 : decode cX11_handsAll 7 = .ok (.putfield 344, 3) := by decide +kernel
theorem dX11_handsAll_10 : decode cX11_handsAll 10 = .ok (.aload_n 0, 1) := by decide +kernel
theorem dX11_handsAll_11 : decode cX11_handsAll 11 = .ok (.invokevirtual 351, 3) := by decide +kernel
theorem dX11_handsAll_14 : decode cX11_handsAll 14 = .ok (.aload_n 0, 1) := by decide +kernel
theorem dX11_handsAll_15 : decode cX11_handsAll 15 = .ok (.aload_n 0, 1) := by decide +kernel
theorem dX11_handsAll_16 : decode cX11_handsAll 16 = .ok (.aload_n 0, 1) := by decide +kernel
theorem dX11_handsAll_17 : decode cX11_handsAll 17 = .ok (.getfield 7, 3) := by decide +kernel
theorem dX11_handsAll_20 : decode cX11_handsAll 20 = .ok (.invokevirtual 354, 3) := by decide +kernel
theorem dX11_handsAll_23 : decode cX11_handsAll 23 = .ok (.putfield 7, 3) := by decide +kernel
theorem dX11_handsAll_26 : decode cX11_handsAll 26 = .ok (.aload_n 0, 1) := by decide +kernel
theorem dX11_handsAll_27 : decode cX11_handsAll 27 = .ok (.aload_n 0, 1) := by decide +kernel
theorem dX11_handsAll_28 : decode cX11_handsAll 28 = .ok (.aload_n 0, 1) := by decide +kernel
theorem dX11_handsAll_29 : decode cX11_handsAll 29 = .ok (.getfield 13, 3) := by decide +kernel
theorem dX11_handsAll_32 : decode cX11_handsAll 32 = .ok (.invokevirtual 354, 3) := by decide +kernel
theorem dX11_handsAll_35 : decode cX11_handsAll 35 = .ok (.putfield 13, 3) := by decide +kernel
theorem dX11_handsAll_38 : decode cX11_handsAll 38 = .ok (.aload_n 0, 1) := by decide +kernel
theorem dX11_handsAll_39 : decode cX11_handsAll 39 = .ok (.aload_n 0, 1) := by decide +kernel
theorem dX11_handsAll_40 : decode cX11_handsAll 40 = .ok (.aload_n 0, 1) := by decide +kernel
theorem dX11_handsAll_41 : decode cX11_handsAll 41 = .ok (.getfield 16, 3) := by decide +kernel
theorem dX11_handsAll_44 : decode cX11_handsAll 44 = .ok (.invokevirtual 354, 3) := by decide +kernel
theorem dX11_handsAll_47 : decode cX11_handsAll 47 = .ok (.putfield 16, 3) := by decide +kernel
theorem dX11_handsAll_50 : decode cX11_handsAll 50 = .ok (.aload_n 0, 1) := by decide +kernel
theorem dX11_handsAll_51 : decode cX11_handsAll 51 = .ok (.aload_n 0, 1) := by decide +kernel
theorem dX11_handsAll_52 : decode cX11_handsAll 52 = .ok (.aload_n 0, 1) := by decide +kernel
theorem dX11_handsAll_53 : decode cX11_handsAll 53 = .ok (.getfield 182, 3) := by decide +kernel
theorem dX11_handsAll_56 : decode cX11_handsAll 56 = .ok (.invokevirtual 354, 3) := by decide +kernel
theorem dX11_handsAll_59 : decode cX11_handsAll 59 = .ok (.putfield 182, 3) := by decide +kernel
theorem dX11_handsAll_62 : decode cX11_handsAll 62 = .ok (.aload_n 0, 1) := by decide +kernel
theorem dX11_handsAll_63 : decode cX11_handsAll 63 = .ok (.aload_n 0, 1) := by decide +kernel
theorem dX11_handsAll_64 : decode cX11_handsAll 64 = .ok (.aload_n 0, 1) := by decide +kernel
theorem dX11_handsAll_65 : decode cX11_handsAll 65 = .ok (.getfield 179, 3) := by decide +kernel
theorem dX11_handsAll_68 : decode cX11_handsAll 68 = .ok (.invokevirtual 354, 3) := by decide +kernel
theorem dX11_handsAll_71 : decode cX11_handsAll 71 = .ok (.putfield 179, 3) := by decide +kernel
theorem dX11_handsAll_74 : decode cX11_handsAll 74 = .ok (.aload_n 0, 1) := by decide +kernel
theorem dX11_handsAll_75 : decode cX11_handsAll 75 = .ok (.aload_n 0, 1) := by decide +kernel
theorem dX11_handsAll_76 : decode cX11_handsAll 76 = .ok (.aload_n 0, 1) := by decide +kernel
theorem dX11_handsAll_77 : decode cX11_handsAll 77 = .ok (.getfield 156, 3) := by decide +kernel
theorem dX11_handsAll_80 : decode cX11_handsAll 80 = .ok (.invokevirtual 354, 3) := by decide +kernel
theorem dX11_handsAll_83 : decode cX11_handsAll 83 = .ok (.putfield 156, 3) := by decide +kernel
theorem dX11_handsAll_86 : decode cX11_handsAll 86 = .ok (.aload_n 0, 1) := by decide +kernel
theorem dX11_handsAll_87 : decode cX11_handsAll 87 = .ok (.aload_n 0, 1) := by decide +kernel
theorem dX11_handsAll_88 : decode cX11_handsAll 88 = .ok (.aload_n 0, 1) := by decide +kernel
theorem dX11_handsAll_89 : decode cX11_handsAll 89 = .ok (.getfield 277, 3) := by decide +kernel
theorem dX11_handsAll_92 : decode cX11_handsAll 92 = .ok (.invokevirtual 354, 3) := by decide +kernel
theorem dX11_handsAll_95 : decode cX11_handsAll 95 = .ok (.putfield 277, 3) := by decide +kernel
theorem dX11_handsAll_98 : decode cX11_handsAll 98 = .ok (.aload_n 0, 1) := by decide +kernel
theorem dX11_handsAll_99 : decode cX11_handsAll 99 = .ok (.aload_n 0, 1) := by decide +kernel
theorem dX11_handsAll_100 : decode cX11_handsAll 100 = .ok (.aload_n 0, 1) := by decide +kernel
theorem dX11_handsAll_101 : decode cX11_handsAll 101 = .ok (.getfield 205, 3) := by decide +kernel
theorem dX11_handsAll_104 : decode cX11_handsAll 104 = .ok (.invokevirtual 354, 3) := by decide +kernel
theorem dX11_handsAll_107 : decode cX11_handsAll 107 = .ok (.putfield 205, 3) := by decide +kernel
theorem dX11_handsAll_110 : decode cX11_handsAll 110 = .ok (.aload_n 0, 1) := by decide +kernel
theorem dX11_handsAll_111 : decode cX11_handsAll 111 = .ok (.aload_n 0, 1) := by decide +kernel
theorem dX11_handsAll_112 : decode cX11_handsAll 112 = .ok (.aload_n 0, 1) := by decide +kernel
theorem dX11_handsAll_113 : decode cX11_handsAll 113 = .ok (.getfield 289, 3) := by decide +kernel
theorem dX11_handsAll_116 : decode cX11_handsAll 116 = .ok (.invokevirtual 354, 3) := by decide +kernel
theorem dX11_handsAll_119 : decode cX11_handsAll 119 = .ok (.putfield 289, 3) := by decide +kernel
theorem dX11_handsAll_122 : decode cX11_handsAll 122 = .ok (.aload_n 0, 1) := by decide +kernel
theorem dX11_handsAll_123 : decode cX11_handsAll 123 = .ok (.aload_n 0, 1) := by decide +kernel
theorem dX11_handsAll_124 : decode cX11_handsAll 124 = .ok (.aload_n 0, 1) := by decide +kernel
theorem dX11_handsAll_125 : decode cX11_handsAll 125 = .ok (.getfield 98, 3) := by decide +kernel
theorem dX11_handsAll_128 : decode cX11_handsAll 128 = .ok (.invokevirtual 354, 3) := by decide +kernel
theorem dX11_handsAll_131 : decode cX11_handsAll 131 = .ok (.putfield 98, 3) := by decide +kernel
theorem dX11_handsAll_134 : decode cX11_handsAll 134 = .ok (.aload_n 0, 1) := by decide +kernel
theorem dX11_handsAll_135 : decode cX11_handsAll 135 = .ok (.aload_n 0, 1) := by decide +kernel
theorem dX11_handsAll_136 : decode cX11_handsAll 136 = .ok (.aload_n 0, 1) := by decide +kernel
theorem dX11_handsAll_137 : decode cX11_handsAll 137 = .ok (.getfield 101, 3) := by decide +kernel
theorem dX11_handsAll_140 : decode cX11_handsAll 140 = .ok (.invokevirtual 354, 3) := by decide +kernel
theorem dX11_handsAll_143 : decode cX11_handsAll 143 = .ok (.putfield 101, 3) := by decide +kernel
theorem dX11_handsAll_146 : decode cX11_handsAll 146 = .ok (.aload_n 0, 1) := by decide +kernel
theorem dX11_handsAll_147 : decode cX11_handsAll 147 = .ok (.aload_n 0, 1) := by decide +kernel
theorem dX11_handsAll_148 : decode cX11_handsAll 148 = .ok (.aload_n 0, 1) := by decide +kernel
theorem dX11_handsAll_149 : decode cX11_handsAll 149 = .ok (.getfield 193, 3) := by decide +kernel
theorem dX11_handsAll_152 : decode cX11_handsAll 152 = .ok (.invokevirtual 354, 3) := by decide +kernel
theorem dX11_handsAll_155 : decode cX11_handsAll 155 = .ok (.putfield 193, 3) := by decide +kernel
theorem dX11_handsAll_158 : decode cX11_handsAll 158 = .ok (.aload_n 0, 1) := by decide +kernel
theorem dX11_handsAll_159 : decode cX11_handsAll 159 = .ok (.aload_n 0, 1) := by decide +kernel
theorem dX11_handsAll_160 : decode cX11_handsAll 160 = .ok (.aload_n 0, 1) := by decide +kernel
theorem dX11_handsAll_161 : decode cX11_handsAll 161 = .ok (.getfield 223, 3) := by decide +kernel
theorem dX11_handsAll_164 : decode cX11_handsAll 164 = .ok (.invokevirtual 354, 3) := by decide +kernel
theorem dX11_handsAll_167 : decode cX11_handsAll 167 = .ok (.putfield 223, 3) := by decide +kernel
theorem dX11_handsAll_170 : decode cX11_handsAll 170 = .ok (.aload_n 0, 1) := by decide +kernel
theorem dX11_handsAll_171 : decode cX11_handsAll 171 = .ok (.aload_n 0, 1) := by decide +kernel
theorem dX11_handsAll_172 : decode cX11_handsAll 172 = .ok (.aload_n 0, 1) := by decide +kernel
theorem dX11_handsAll_173 : decode cX11_handsAll 173 = .ok (.getfield 150, 3) := by decide +kernel
theorem dX11_handsAll_176 : decode cX11_handsAll 176 = .ok (.invokevirtual 354, 3) := by decide +kernel
theorem dX11_handsAll_179 : decode cX11_handsAll 179 = .ok (.putfield 150, 3) := by decide +kernel
theorem dX11_handsAll_182 : decode cX11_handsAll 182 = .ok (.aload_n 0, 1) := by decide +kernel
theorem dX11_handsAll_183 : decode cX11_handsAll 183 = .ok (.aload_n 0, 1) := by decide +kernel
theorem dX11_handsAll_184 : decode cX11_handsAll 184 = .ok (.aload_n 0, 1) := by decide +kernel
theorem dX11_handsAll_185 : decode cX11_handsAll 185 = .ok (.getfield 153, 3) := by decide +kernel
theorem dX11_handsAll_188 : decode cX11_handsAll 188 = .ok (.invokevirtual 354, 3) := by decide +kernel
theorem dX11_handsAll_191 : decode cX11_handsAll 191 = .ok (.putfield 153, 3) := by decide +kernel
theorem dX11_handsAll_194 : decode cX11_handsAll 194 = .ok (.return_, 1) := by decide +kernel
theorem dX11_save_0 : decode cX11_save 0 = .ok (.aload_n 0, 1) := by decide +kernel
theorem dX11_save_1 : decode cX11_save 1 = .ok (.iconst 1, 1) := by decide +kernel
theorem dX11_save_2 : decode cX11_save 2 = .ok (.putfield 357, 3) := by decide +kernel
theorem dX11_save_5 : decode cX11_save 5 = .ok (.aload_n 0, 1) := by decide +kernel
theorem dX11_save_6 : decode cX11_save 6 = .ok (.iconst 1, 1) := by decide +kernel
theorem dX11_save_7 : decode cX11_save 7 = .ok (.invokevirtual 360, 3) := by decide +kernel
theorem dX11_save_10 : decode cX11_save 10 = .ok (.aload_n 0, 1) := by decide +kernel
theorem dX11_save_11 : decode cX11_save 11 = .ok (.getfield 153, 3) := by decide +kernel
theorem dX11_save_14 : decode cX11_save 14 = .ok (.ireturn, 1) := by decide +kernel
theorem dX11_restore_0 : decode cX11_restore 0 = .ok (.aload_n 0, 1) := by decide +kernel
theorem dX11_restore_1 : decode cX11_restore 1 = .ok (.getfield 357, 3) := by decide +kernel
theorem dX11_restore_4 : decode cX11_restore 4 = .ok (.ifCond .ne 6, 3) := by decide +kernel
theorem dX11_restore_7 : decode cX11_restore 7 = .ok (.ldc 204, 2) := by decide +kernel
theorem dX11_restore_9 : decode cX11_restore 9 = .ok (.ireturn, 1) := by decide +kernel
theorem dX11_restore_10 : decode cX11_restore 10 = .ok (.aload_n 0, 1) := by decide +kernel
theorem dX11_restore_11 : decode cX11_restore 11 = .ok (.iconst 0, 1) := by decide +kernel
theorem dX11_restore_12 : decode cX11_restore 12 = .ok (.invokevirtual 360, 3) := by decide +kernel
theorem dX11_restore_15 : decode cX11_restore 15 = .ok (.aload_n 0, 1) := by decide +kernel
theorem dX11_restore_16 : decode cX11_restore 16 = .ok (.getfield 153, 3) := by decide +kernel
theorem dX11_restore_19 : decode cX11_restore 19 = .ok (.ireturn, 1) := by decide +kernel
theorem dJ9_floorMod_7cf53_0 : decode cJ9_floorMod_7cf53 0 = .ok (.iload_n 0, 1) := by decide +kernel
theorem dJ9_floorMod_7cf53_1 : decode cJ9_floorMod_7cf53 1 = .ok (.iload_n 1, 1) := by decide +kernel
theorem dJ9_floorMod_7cf53_2 : decode cJ9_floorMod_7cf53 2 = .ok (.irem, 1) := by decide +kernel
theorem dJ9_floorMod_7cf53_3 : decode cJ9_floorMod_7cf53 3 = .ok (.istore_n 2, 1) := by decide +kernel
theorem dJ9_floorMod_7cf53_4 : decode cJ9_floorMod_7cf53 4 = .ok (.iload_n 0, 1) := by decide +kernel
theorem dJ9_floorMod_7cf53_5 : decode cJ9_floorMod_7cf53 5 = .ok (.iload_n 1, 1) := by decide +kernel
theorem dJ9_floorMod_7cf53_6 : decode cJ9_floorMod_7cf53 6 = .ok (.ixor, 1) := by decide +kernel
theorem dJ9_floorMod_7cf53_7 : decode cJ9_floorMod_7cf53 7 = .ok (.ifCond .ge 11, 3) := by decide +kernel
theorem dJ9_floorMod_7cf53_10 : decode cJ9_floorMod_7cf53 10 = .ok (.iload_n 2, 1) := by decide +kernel
theorem dJ9_floorMod_7cf53_11 : decode cJ9_floorMod_7cf53 11 = .ok (.ifCond .eq 7, 3) := by decide +kernel
theorem dJ9_floorMod_7cf53_14 : decode cJ9_floorMod_7cf53 14 = .ok (.iload_n 2, 1) := by decide +kernel
theorem dJ9_floorMod_7cf53_15 : decode cJ9_floorMod_7cf53 15 = .ok (.iload_n 1, 1) := by decide +kernel
theorem dJ9_floorMod_7cf53_16 : decode cJ9_floorMod_7cf53 16 = .ok (.iadd, 1) := by decide +kernel
theorem dJ9_floorMod_7cf53_17 : decode cJ9_floorMod_7cf53 17 = .ok (.ireturn, 1) := by decide +kernel
theorem dJ9_floorMod_7cf53_18 : decode cJ9_floorMod_7cf53 18 = .ok (.iload_n 2, 1) := by decide +kernel
theorem dJ9_floorMod_7cf53_19 : decode cJ9_floorMod_7cf53 19 = .ok (.ireturn, 1) := by decide +kernel
theorem dJ9_min_7cf53_0 : decode cJ9_min_7cf53 0 = .ok (.iload_n 0, 1) := by decide +kernel
theorem dJ9_min_7cf53_1 : decode cJ9_min_7cf53 1 = .ok (.iload_n 1, 1) := by decide +kernel
theorem dJ9_min_7cf53_2 : decode cJ9_min_7cf53 2 = .ok (.if_icmp .gt 7, 3) := by decide +kernel
theorem dJ9_min_7cf53_5 : decode cJ9_min_7cf53 5 = .ok (.iload_n 0, 1) := by decide +kernel
theorem dJ9_min_7cf53_6 : decode cJ9_min_7cf53 6 = .ok (.goto 4, 3) := by decide +kernel
theorem dJ9_min_7cf53_9 : decode cJ9_min_7cf53 9 = .ok (.iload_n 1, 1) := by decide +kernel
theorem dJ9_min_7cf53_10 : decode cJ9_min_7cf53 10 = .ok (.ireturn, 1) := by decide +kernel
theorem dL_law_0 : decode cL_law 0 = .ok (.new 7, 3) := by decide +kernel
theorem dL_law_3 : decode cL_law 3 = .ok (.dup, 1) := by decide +kernel
theorem dL_law_4 : decode cL_law 4 = .ok (.invokespecial 9, 3) := by decide +kernel
theorem dL_law_7 : decode cL_law 7 = .ok (.astore_n 1, 1) := by decide +kernel
theorem dL_law_8 : decode cL_law 8 = .ok (.new 10, 3) := by decide +kernel
theorem dL_law_11 : decode cL_law 11 = .ok (.dup, 1) := by decide +kernel
theorem dL_law_12 : decode cL_law 12 = .ok (.invokespecial 12, 3) := by decide +kernel
theorem dL_law_15 : decode cL_law 15 = .ok (.astore_n 2, 1) := by decide +kernel
theorem dL_law_16 : decode cL_law 16 = .ok (.iconst 0, 1) := by decide +kernel
theorem dL_law_17 : decode cL_law 17 = .ok (.istore_n 3, 1) := by decide +kernel
theorem dL_law_18 : decode cL_law 18 = .ok (.iload_n 3, 1) := by decide +kernel
theorem dL_law_19 : decode cL_law 19 = .ok (.aload_n 0, 1) := by decide +kernel
theorem dL_law_20 : decode cL_law 20 = .ok (.arraylength, 1) := by decide +kernel
theorem dL_law_21 : decode cL_law 21 = .ok (.iconst 4, 1) := by decide +kernel
theorem dL_law_22 : decode cL_law 22 = .ok (.isub, 1) := by decide +kernel
theorem dL_law_23 : decode cL_law 23 = .ok (.if_icmp .gt 786, 3) := by decide +kernel
theorem dL_law_26 : decode cL_law 26 = .ok (.aload_n 0, 1) := by decide +kernel
theorem dL_law_27 : decode cL_law 27 = .ok (.iload_n 3, 1) := by decide +kernel
theorem dL_law_28 : decode cL_law 28 = .ok (.iaload, 1) := by decide +kernel
theorem dL_law_29 : decode cL_law 29 = .ok (.bipush 31, 2) := by decide +kernel
theorem dL_law_31 : decode cL_law 31 = .ok (.iand, 1) := by decide +kernel
theorem dL_law_32 : decode cL_law 32 = .ok (.tableswitch 771 0 24 #[116, 159, 182, 205, 218, 251, 274, 297, 320, 343, 366, 399, 422, 455, 488, 521, 554, 597, 630, 653, 686, 699, 732, 745, 758], 116) := by decide +kernel
theorem dL_law_148 : decode cL_law 148 = .ok (.aload_n 1, 1) := by decide +kernel
theorem dL_law_149 : decode cL_law 149 = .ok (.aload_n 0, 1) := by decide +kernel
theorem dL_law_150 : decode cL_law 150 = .ok (.iload_n 3, 1) := by decide +kernel
theorem dL_law_151 : decode cL_law 151 = .ok (.iconst 1, 1) := by decide +kernel
theorem dL_law_152 : decode cL_law 152 = .ok (.iadd, 1) := by decide +kernel
theorem dL_law_153 : decode cL_law 153 = .ok (.iaload, 1) := by decide +kernel
theorem dL_law_154 : decode cL_law 154 = .ok (.aload_n 0, 1) := by decide +kernel
theorem dL_law_155 : decode cL_law 155 = .ok (.iload_n 3, 1) := by decide +kernel
theorem dL_law_156 : decode cL_law 156 = .ok (.iconst 2, 1) := by decide +kernel
theorem dL_law_157 : decode cL_law 157 = .ok (.iadd, 1) := by decide +kernel
theorem dL_law_158 : decode cL_law 158 = .ok (.iaload, 1) := by decide +kernel
theorem dL_law_159 : decode cL_law 159 = .ok (.aload_n 0, 1) := by decide +kernel
theorem dL_law_160 : decode cL_law 160 = .ok (.iload_n 3, 1) := by decide +kernel
theorem dL_law_161 : decode cL_law 161 = .ok (.iconst 3, 1) := by decide +kernel
theorem dL_law_162 : decode cL_law 162 = .ok (.iadd, 1) := by decide +kernel
theorem dL_law_163 : decode cL_law 163 = .ok (.iaload, 1) := by decide +kernel
theorem dL_law_164 : decode cL_law 164 = .ok (.invokevirtual 13, 3) := by decide +kernel
theorem dL_law_167 : decode cL_law 167 = .ok (.aload_n 2, 1) := by decide +kernel
theorem dL_law_168 : decode cL_law 168 = .ok (.aload_n 0, 1) := by decide +kernel
theorem dL_law_169 : decode cL_law 169 = .ok (.iload_n 3, 1) := by decide +kernel
theorem dL_law_170 : decode cL_law 170 = .ok (.iconst 1, 1) := by decide +kernel
theorem dL_law_171 : decode cL_law 171 = .ok (.iadd, 1) := by decide +kernel
theorem dL_law_172 : decode cL_law 172 = .ok (.iaload, 1) := by decide +kernel
theorem dL_law_173 : decode cL_law 173 = .ok (.aload_n 0, 1) := by decide +kernel
theorem dL_law_174 : decode cL_law 174 = .ok (.iload_n 3, 1) := by decide +kernel
theorem dL_law_175 : decode cL_law 175 = .ok (.iconst 2, 1) := by decide +kernel
theorem dL_law_176 : decode cL_law 176 = .ok (.iadd, 1) := by decide +kernel
theorem dL_law_177 : decode cL_law 177 = .ok (.iaload, 1) := by decide +kernel
theorem dL_law_178 : decode cL_law 178 = .ok (.aload_n 0, 1) := by decide +kernel
theorem dL_law_179 : decode cL_law 179 = .ok (.iload_n 3, 1) := by decide +kernel
theorem dL_law_180 : decode cL_law 180 = .ok (.iconst 3, 1) := by decide +kernel
theorem dL_law_181 : decode cL_law 181 = .ok (.iadd, 1) := by decide +kernel
theorem dL_law_182 : decode cL_law 182 = .ok (.iaload, 1) := by decide +kernel
theorem dL_law_183 : decode cL_law 183 = .ok (.invokevirtual 17, 3) := by decide +kernel
theorem dL_law_186 : decode cL_law 186 = .ok (.if_icmp .eq 617, 3) := by decide +kernel
theorem dL_law_189 : decode cL_law 189 = .ok (.iconst 0, 1) := by decide +kernel
theorem dL_law_190 : decode cL_law 190 = .ok (.ireturn, 1) := by decide +kernel
theorem dL_law_191 : decode cL_law 191 = .ok (.aload_n 1, 1) := by decide +kernel
theorem dL_law_192 : decode cL_law 192 = .ok (.aload_n 0, 1) := by decide +kernel
theorem dL_law_193 : decode cL_law 193 = .ok (.iload_n 3, 1) := by decide +kernel
theorem dL_law_194 : decode cL_law 194 = .ok (.iconst 1, 1) := by decide +kernel
theorem dL_law_195 : decode cL_law 195 = .ok (.iadd, 1) := by decide +kernel
theorem dL_law_196 : decode cL_law 196 = .ok (.iaload, 1) := by decide +kernel
theorem dL_law_197 : decode cL_law 197 = .ok (.invokevirtual 18, 3) := by decide +kernel
theorem dL_law_200 : decode cL_law 200 = .ok (.aload_n 2, 1) := by decide +kernel
theorem dL_law_201 : decode cL_law 201 = .ok (.aload_n 0, 1) := by decide +kernel
theorem dL_law_202 : decode cL_law 202 = .ok (.iload_n 3, 1) := by decide +kernel
theorem dL_law_203 : decode cL_law 203 = .ok (.iconst 1, 1) := by decide +kernel
theorem dL_law_204 : decode cL_law 204 = .ok (.iadd, 1) := by decide +kernel
theorem dL_law_205 : decode cL_law 205 = .ok (.iaload, 1) := by decide +kernel
theorem dL_law_206 : decode cL_law 206 = .ok (.invokevirtual 22, 3) := by decide +kernel
theorem dL_law_209 : decode cL_law 209 = .ok (.if_icmp .eq 594, 3) := by decide +kernel
theorem dL_law_212 : decode cL_law 212 = .ok (.iconst 0, 1) := by decide +kernel
theorem dL_law_213 : decode cL_law 213 = .ok (.ireturn, 1) := by decide +kernel
theorem dL_law_214 : decode cL_law 214 = .ok (.aload_n 1, 1) := by decide +kernel
theorem dL_law_215 : decode cL_law 215 = .ok (.aload_n 0, 1) := by decide +kernel
theorem dL_law_216 : decode cL_law 216 = .ok (.iload_n 3, 1) := by decide +kernel
theorem dL_law_217 : decode cL_law 217 = .ok (.iconst 1, 1) := by decide +kernel
theorem dL_law_218 : decode cL_law 218 = .ok (.iadd, 1) := by decide +kernel
theorem dL_law_219 : decode cL_law 219 = .ok (.iaload, 1) := by decide +kernel
theorem dL_law_220 : decode cL_law 220 = .ok (.invokevirtual 23, 3) := by decide +kernel
theorem dL_law_223 : decode cL_law 223 = .ok (.aload_n 2, 1) := by decide +kernel
theorem dL_law_224 : decode cL_law 224 = .ok (.aload_n 0, 1) := by decide +kernel
theorem dL_law_225 : decode cL_law 225 = .ok (.iload_n 3, 1) := by decide +kernel
theorem dL_law_226 : decode cL_law 226 = .ok (.iconst 1, 1) := by decide +kernel
theorem dL_law_227 : decode cL_law 227 = .ok (.iadd, 1) := by decide +kernel
theorem dL_law_228 : decode cL_law 228 = .ok (.iaload, 1) := by decide +kernel
theorem dL_law_229 : decode cL_law 229 = .ok (.invokevirtual 26, 3) := by decide +kernel
theorem dL_law_232 : decode cL_law 232 = .ok (.if_icmp .eq 571, 3) := by decide +kernel
theorem dL_law_235 : decode cL_law 235 = .ok (.iconst 0, 1) := by decide +kernel
theorem dL_law_236 : decode cL_law 236 = .ok (.ireturn, 1) := by decide +kernel
theorem dL_law_237 : decode cL_law 237 = .ok (.aload_n 1, 1) := by decide +kernel
theorem dL_law_238 : decode cL_law 238 = .ok (.invokevirtual 27, 3) := by decide +kernel
theorem dL_law_241 : decode cL_law 241 = .ok (.aload_n 2, 1) := by decide +kernel
theorem dL_law_242 : decode cL_law 242 = .ok (.invokevirtual 31, 3) := by decide +kernel
theorem dL_law_245 : decode cL_law 245 = .ok (.if_icmp .eq 558, 3) := by decide +kernel
theorem dL_law_248 : decode cL_law 248 = .ok (.iconst 0, 1) := by decide +kernel
theorem dL_law_249 : decode cL_law 249 = .ok (.ireturn, 1) := by decide +kernel
theorem dL_law_250 : decode cL_law 250 = .ok (.aload_n 1, 1) := by decide +kernel
theorem dL_law_251 : decode cL_law 251 = .ok (.aload_n 0, 1) := by decide +kernel
theorem dL_law_252 : decode cL_law 252 = .ok (.iload_n 3, 1) := by decide +kernel
theorem dL_law_253 : decode cL_law 253 = .ok (.iconst 1, 1) := by decide +kernel
theorem dL_law_254 : decode cL_law 254 = .ok (.iadd, 1) := by decide +kernel
theorem dL_law_255 : decode cL_law 255 = .ok (.iaload, 1) := by decide +kernel
theorem dL_law_256 : decode cL_law 256 = .ok (.aload_n 0, 1) := by decide +kernel
theorem dL_law_257 : decode cL_law 257 = .ok (.iload_n 3, 1) := by decide +kernel
theorem dL_law_258 : decode cL_law 258 = .ok (.iconst 2, 1) := by decide +kernel
theorem dL_law_259 : decode cL_law 259 = .ok (.iadd, 1) := by decide +kernel
theorem dL_law_260 : decode cL_law 260 = .ok (.iaload, 1) := by decide +kernel
theorem dL_law_261 : decode cL_law 261 = .ok (.invokevirtual 32, 3) := by decide +kernel
theorem dL_law_264 : decode cL_law 264 = .ok (.aload_n 2, 1) := by decide +kernel
theorem dL_law_265 : decode cL_law 265 = .ok (.aload_n 0, 1) := by decide +kernel
theorem dL_law_266 : decode cL_law 266 = .ok (.iload_n 3, 1) := by decide +kernel
theorem dL_law_267 : decode cL_law 267 = .ok (.iconst 1, 1) := by decide +kernel
theorem dL_law_268 : decode cL_law 268 = .ok (.iadd, 1) := by decide +kernel
theorem dL_law_269 : decode cL_law 269 = .ok (.iaload, 1) := by decide +kernel
theorem dL_law_270 : decode cL_law 270 = .ok (.aload_n 0, 1) := by decide +kernel
theorem dL_law_271 : decode cL_law 271 = .ok (.iload_n 3, 1) := by decide +kernel
theorem dL_law_272 : decode cL_law 272 = .ok (.iconst 2, 1) := by decide +kernel
theorem dL_law_273 : decode cL_law 273 = .ok (.iadd, 1) := by decide +kernel
theorem dL_law_274 : decode cL_law 274 = .ok (.iaload, 1) := by decide +kernel
theorem dL_law_275 : decode cL_law 275 = .ok (.invokevirtual 36, 3) := by decide +kernel
theorem dL_law_278 : decode cL_law 278 = .ok (.if_icmp .eq 525, 3) := by decide +kernel
theorem dL_law_281 : decode cL_law 281 = .ok (.iconst 0, 1) := by decide +kernel
theorem dL_law_282 : decode cL_law 282 = .ok (.ireturn, 1) := by decide +kernel
theorem dL_law_283 : decode cL_law 283 = .ok (.aload_n 1, 1) := by decide +kernel
theorem dL_law_284 : decode cL_law 284 = .ok (.aload_n 0, 1) := by decide +kernel
theorem dL_law_285 : decode cL_law 285 = .ok (.iload_n 3, 1) := by decide +kernel
theorem dL_law_286 : decode cL_law 286 = .ok (.iconst 1, 1) := by decide +kernel
theorem dL_law_287 : decode cL_law 287 = .ok (.iadd, 1) := by decide +kernel
theorem dL_law_288 : decode cL_law 288 = .ok (.iaload, 1) := by decide +kernel
theorem dL_law_289 : decode cL_law 289 = .ok (.invokevirtual 37, 3) := by decide +kernel
theorem dL_law_292 : decode cL_law 292 = .ok (.aload_n 2, 1) := by decide +kernel
theorem dL_law_293 : decode cL_law 293 = .ok (.aload_n 0, 1) := by decide +kernel
theorem dL_law_294 : decode cL_law 294 = .ok (.iload_n 3, 1) := by decide +kernel
theorem dL_law_295 : decode cL_law 295 = .ok (.iconst 1, 1) := by decide +kernel
theorem dL_law_296 : decode cL_law 296 = .ok (.iadd, 1) := by decide +kernel
theorem dL_law_297 : decode cL_law 297 = .ok (.iaload, 1) := by decide +kernel
theorem dL_law_298 : decode cL_law 298 = .ok (.invokevirtual 40, 3) := by decide +kernel
theorem dL_law_301 : decode cL_law 301 = .ok (.if_icmp .eq 502, 3) := by decide +kernel
theorem dL_law_304 : decode cL_law 304 = .ok (.iconst 0, 1) := by decide +kernel
theorem dL_law_305 : decode cL_law 305 = .ok (.ireturn, 1) := by decide +kernel
theorem dL_law_306 : decode cL_law 306 = .ok (.aload_n 1, 1) := by decide +kernel
theorem dL_law_307 : decode cL_law 307 = .ok (.aload_n 0, 1) := by decide +kernel
theorem dL_law_308 : decode cL_law 308 = .ok (.iload_n 3, 1) := by decide +kernel
theorem dL_law_309 : decode cL_law 309 = .ok (.iconst 1, 1) := by decide +kernel
theorem dL_law_310 : decode cL_law 310 = .ok (.iadd, 1) := by decide +kernel
theorem dL_law_311 : decode cL_law 311 = .ok (.iaload, 1) := by decide +kernel
theorem dL_law_312 : decode cL_law 312 = .ok (.invokevirtual 41, 3) := by decide +kernel
theorem dL_law_315 : decode cL_law 315 = .ok (.aload_n 2, 1) := by decide +kernel
theorem dL_law_316 : decode cL_law 316 = .ok (.aload_n 0, 1) := by decide +kernel
theorem dL_law_317 : decode cL_law 317 = .ok (.iload_n 3, 1) := by decide +kernel
theorem dL_law_318 : decode cL_law 318 = .ok (.iconst 1, 1) := by decide +kernel
theorem dL_law_319 : decode cL_law 319 = .ok (.iadd, 1) := by decide +kernel
theorem dL_law_320 : decode cL_law 320 = .ok (.iaload, 1) := by decide +kernel
theorem dL_law_321 : decode cL_law 321 = .ok (.invokevirtual 44, 3) := by decide +kernel
theorem dL_law_324 : decode cL_law 324 = .ok (.if_icmp .eq 479, 3) := by decide +kernel
theorem dL_law_327 : decode cL_law 327 = .ok (.iconst 0, 1) := by decide +kernel
theorem dL_law_328 : decode cL_law 328 = .ok (.ireturn, 1) := by decide +kernel
theorem dL_law_329 : decode cL_law 329 = .ok (.aload_n 1, 1) := by decide +kernel
theorem dL_law_330 : decode cL_law 330 = .ok (.aload_n 0, 1) := by decide +kernel
theorem dL_law_331 : decode cL_law 331 = .ok (.iload_n 3, 1) := by decide +kernel
theorem dL_law_332 : decode cL_law 332 = .ok (.iconst 1, 1) := by decide +kernel
theorem dL_law_333 : decode cL_law 333 = .ok (.iadd, 1) := by decide +kernel
theorem dL_law_334 : decode cL_law 334 = .ok (.iaload, 1) := by decide +kernel
theorem dL_law_335 : decode cL_law 335 = .ok (.invokevirtual 45, 3) := by decide +kernel
theorem dL_law_338 : decode cL_law 338 = .ok (.aload_n 2, 1) := by decide +kernel
theorem dL_law_339 : decode cL_law 339 = .ok (.aload_n 0, 1) := by decide +kernel
theorem dL_law_340 : decode cL_law 340 = .ok (.iload_n 3, 1) := by decide +kernel
theorem dL_law_341 : decode cL_law 341 = .ok (.iconst 1, 1) := by decide +kernel
theorem dL_law_342 : decode cL_law 342 = .ok (.iadd, 1) := by decide +kernel
theorem dL_law_343 : decode cL_law 343 = .ok (.iaload, 1) := by decide +kernel
theorem dL_law_344 : decode cL_law 344 = .ok (.invokevirtual 48, 3) := by decide +kernel
theorem dL_law_347 : decode cL_law 347 = .ok (.if_icmp .eq 456, 3) := by decide +kernel
theorem dL_law_350 : decode cL_law 350 = .ok (.iconst 0, 1) := by decide +kernel
theorem dL_law_351 : decode cL_law 351 = .ok (.ireturn, 1) := by decide +kernel
theorem dL_law_352 : decode cL_law 352 = .ok (.aload_n 1, 1) := by decide +kernel
theorem dL_law_353 : decode cL_law 353 = .ok (.aload_n 0, 1) := by decide +kernel
theorem dL_law_354 : decode cL_law 354 = .ok (.iload_n 3, 1) := by decide +kernel
theorem dL_law_355 : decode cL_law 355 = .ok (.iconst 1, 1) := by decide +kernel
theorem dL_law_356 : decode cL_law 356 = .ok (.iadd, 1) := by decide +kernel
theorem dL_law_357 : decode cL_law 357 = .ok (.iaload, 1) := by decide +kernel
theorem dL_law_358 : decode cL_law 358 = .ok (.invokevirtual 49, 3) := by decide +kernel
theorem dL_law_361 : decode cL_law 361 = .ok (.aload_n 2, 1) := by decide +kernel
theorem dL_law_362 : decode cL_law 362 = .ok (.aload_n 0, 1) := by decide +kernel
theorem dL_law_363 : decode cL_law 363 = .ok (.iload_n 3, 1) := by decide +kernel
theorem dL_law_364 : decode cL_law 364 = .ok (.iconst 1, 1) := by decide +kernel
theorem dL_law_365 : decode cL_law 365 = .ok (.iadd, 1) := by decide +kernel
theorem dL_law_366 : decode cL_law 366 = .ok (.iaload, 1) := by decide +kernel
theorem dL_law_367 : decode cL_law 367 = .ok (.invokevirtual 52, 3) := by decide +kernel
theorem dL_law_370 : decode cL_law 370 = .ok (.if_icmp .eq 433, 3) := by decide +kernel
theorem dL_law_373 : decode cL_law 373 = .ok (.iconst 0, 1) := by decide +kernel
theorem dL_law_374 : decode cL_law 374 = .ok (.ireturn, 1) := by decide +kernel
theorem dL_law_375 : decode cL_law 375 = .ok (.aload_n 1, 1) := by decide +kernel
theorem dL_law_376 : decode cL_law 376 = .ok (.aload_n 0, 1) := by decide +kernel
theorem dL_law_377 : decode cL_law 377 = .ok (.iload_n 3, 1) := by decide +kernel
theorem dL_law_378 : decode cL_law 378 = .ok (.iconst 1, 1) := by decide +kernel
theorem dL_law_379 : decode cL_law 379 = .ok (.iadd, 1) := by decide +kernel
theorem dL_law_380 : decode cL_law 380 = .ok (.iaload, 1) := by decide +kernel
theorem dL_law_381 : decode cL_law 381 = .ok (.invokevirtual 53, 3) := by decide +kernel
theorem dL_law_384 : decode cL_law 384 = .ok (.aload_n 2, 1) := by decide +kernel
theorem dL_law_385 : decode cL_law 385 = .ok (.aload_n 0, 1) := by decide +kernel
theorem dL_law_386 : decode cL_law 386 = .ok (.iload_n 3, 1) := by decide +kernel
theorem dL_law_387 : decode cL_law 387 = .ok (.iconst 1, 1) := by decide +kernel
theorem dL_law_388 : decode cL_law 388 = .ok (.iadd, 1) := by decide +kernel
theorem dL_law_389 : decode cL_law 389 = .ok (.iaload, 1) := by decide +kernel
theorem dL_law_390 : decode cL_law 390 = .ok (.invokevirtual 56, 3) := by decide +kernel
theorem dL_law_393 : decode cL_law 393 = .ok (.if_icmp .eq 410, 3) := by decide +kernel
theorem dL_law_396 : decode cL_law 396 = .ok (.iconst 0, 1) := by decide +kernel
theorem dL_law_397 : decode cL_law 397 = .ok (.ireturn, 1) := by decide +kernel
theorem dL_law_398 : decode cL_law 398 = .ok (.aload_n 1, 1) := by decide +kernel
theorem dL_law_399 : decode cL_law 399 = .ok (.aload_n 0, 1) := by decide +kernel
theorem dL_law_400 : decode cL_law 400 = .ok (.iload_n 3, 1) := by decide +kernel
theorem dL_law_401 : decode cL_law 401 = .ok (.iconst 1, 1) := by decide +kernel
theorem dL_law_402 : decode cL_law 402 = .ok (.iadd, 1) := by decide +kernel
theorem dL_law_403 : decode cL_law 403 = .ok (.iaload, 1) := by decide +kernel
theorem dL_law_404 : decode cL_law 404 = .ok (.aload_n 0, 1) := by decide +kernel
theorem dL_law_405 : decode cL_law 405 = .ok (.iload_n 3, 1) := by decide +kernel
theorem dL_law_406 : decode cL_law 406 = .ok (.iconst 2, 1) := by decide +kernel
theorem dL_law_407 : decode cL_law 407 = .ok (.iadd, 1) := by decide +kernel
theorem dL_law_408 : decode cL_law 408 = .ok (.iaload, 1) := by decide +kernel
theorem dL_law_409 : decode cL_law 409 = .ok (.invokevirtual 57, 3) := by decide +kernel
theorem dL_law_412 : decode cL_law 412 = .ok (.aload_n 2, 1) := by decide +kernel
theorem dL_law_413 : decode cL_law 413 = .ok (.aload_n 0, 1) := by decide +kernel
theorem dL_law_414 : decode cL_law 414 = .ok (.iload_n 3, 1) := by decide +kernel
theorem dL_law_415 : decode cL_law 415 = .ok (.iconst 1, 1) := by decide +kernel
theorem dL_law_416 : decode cL_law 416 = .ok (.iadd, 1) := by decide +kernel
theorem dL_law_417 : decode cL_law 417 = .ok (.iaload, 1) := by decide +kernel
theorem dL_law_418 : decode cL_law 418 = .ok (.aload_n 0, 1) := by decide +kernel
theorem dL_law_419 : decode cL_law 419 = .ok (.iload_n 3, 1) := by decide +kernel
theorem dL_law_420 : decode cL_law 420 = .ok (.iconst 2, 1) := by decide +kernel
theorem dL_law_421 : decode cL_law 421 = .ok (.iadd, 1) := by decide +kernel
theorem dL_law_422 : decode cL_law 422 = .ok (.iaload, 1) := by decide +kernel
theorem dL_law_423 : decode cL_law 423 = .ok (.invokevirtual 60, 3) := by decide +kernel
theorem dL_law_426 : decode cL_law 426 = .ok (.if_icmp .eq 377, 3) := by decide +kernel
theorem dL_law_429 : decode cL_law 429 = .ok (.iconst 0, 1) := by decide +kernel
theorem dL_law_430 : decode cL_law 430 = .ok (.ireturn, 1) := by decide +kernel
theorem dL_law_431 : decode cL_law 431 = .ok (.aload_n 1, 1) := by decide +kernel
theorem dL_law_432 : decode cL_law 432 = .ok (.aload_n 0, 1) := by decide +kernel
theorem dL_law_433 : decode cL_law 433 = .ok (.iload_n 3, 1) := by decide +kernel
theorem dL_law_434 : decode cL_law 434 = .ok (.iconst 1, 1) := by decide +kernel
theorem dL_law_435 : decode cL_law 435 = .ok (.iadd, 1) := by decide +kernel
theorem dL_law_436 : decode cL_law 436 = .ok (.iaload, 1) := by decide +kernel
theorem dL_law_437 : decode cL_law 437 = .ok (.invokevirtual 61, 3) := by decide +kernel
theorem dL_law_440 : decode cL_law 440 = .ok (.aload_n 2, 1) := by decide +kernel
theorem dL_law_441 : decode cL_law 441 = .ok (.aload_n 0, 1) := by decide +kernel
theorem dL_law_442 : decode cL_law 442 = .ok (.iload_n 3, 1) := by decide +kernel
theorem dL_law_443 : decode cL_law 443 = .ok (.iconst 1, 1) := by decide +kernel
theorem dL_law_444 : decode cL_law 444 = .ok (.iadd, 1) := by decide +kernel
theorem dL_law_445 : decode cL_law 445 = .ok (.iaload, 1) := by decide +kernel
theorem dL_law_446 : decode cL_law 446 = .ok (.invokevirtual 64, 3) := by decide +kernel
theorem dL_law_449 : decode cL_law 449 = .ok (.if_icmp .eq 354, 3) := by decide +kernel
theorem dL_law_452 : decode cL_law 452 = .ok (.iconst 0, 1) := by decide +kernel
theorem dL_law_453 : decode cL_law 453 = .ok (.ireturn, 1) := by decide +kernel
theorem dL_law_454 : decode cL_law 454 = .ok (.aload_n 1, 1) := by decide +kernel
theorem dL_law_455 : decode cL_law 455 = .ok (.aload_n 0, 1) := by decide +kernel
theorem dL_law_456 : decode cL_law 456 = .ok (.iload_n 3, 1) := by decide +kernel
theorem dL_law_457 : decode cL_law 457 = .ok (.iconst 1, 1) := by decide +kernel
theorem dL_law_458 : decode cL_law 458 = .ok (.iadd, 1) := by decide +kernel
theorem dL_law_459 : decode cL_law 459 = .ok (.iaload, 1) := by decide +kernel
theorem dL_law_460 : decode cL_law 460 = .ok (.aload_n 0, 1) := by decide +kernel
theorem dL_law_461 : decode cL_law 461 = .ok (.iload_n 3, 1) := by decide +kernel
theorem dL_law_462 : decode cL_law 462 = .ok (.iconst 2, 1) := by decide +kernel
theorem dL_law_463 : decode cL_law 463 = .ok (.iadd, 1) := by decide +kernel
theorem dL_law_464 : decode cL_law 464 = .ok (.iaload, 1) := by decide +kernel
theorem dL_law_465 : decode cL_law 465 = .ok (.invokevirtual 65, 3) := by decide +kernel
theorem dL_law_468 : decode cL_law 468 = .ok (.aload_n 2, 1) := by decide +kernel
theorem dL_law_469 : decode cL_law 469 = .ok (.aload_n 0, 1) := by decide +kernel
theorem dL_law_470 : decode cL_law 470 = .ok (.iload_n 3, 1) := by decide +kernel
theorem dL_law_471 : decode cL_law 471 = .ok (.iconst 1, 1) := by decide +kernel
theorem dL_law_472 : decode cL_law 472 = .ok (.iadd, 1) := by decide +kernel
theorem dL_law_473 : decode cL_law 473 = .ok (.iaload, 1) := by decide +kernel
theorem dL_law_474 : decode cL_law 474 = .ok (.aload_n 0, 1) := by decide +kernel
theorem dL_law_475 : decode cL_law 475 = .ok (.iload_n 3, 1) := by decide +kernel
theorem dL_law_476 : decode cL_law 476 = .ok (.iconst 2, 1) := by decide +kernel
theorem dL_law_477 : decode cL_law 477 = .ok (.iadd, 1) := by decide +kernel
theorem dL_law_478 : decode cL_law 478 = .ok (.iaload, 1) := by decide +kernel
theorem dL_law_479 : decode cL_law 479 = .ok (.invokevirtual 68, 3) := by decide +kernel
theorem dL_law_482 : decode cL_law 482 = .ok (.if_icmp .eq 321, 3) := by decide +kernel
theorem dL_law_485 : decode cL_law 485 = .ok (.iconst 0, 1) := by decide +kernel
theorem dL_law_486 : decode cL_law 486 = .ok (.ireturn, 1) := by decide +kernel
theorem dL_law_487 : decode cL_law 487 = .ok (.aload_n 1, 1) := by decide +kernel
theorem dL_law_488 : decode cL_law 488 = .ok (.aload_n 0, 1) := by decide +kernel
theorem dL_law_489 : decode cL_law 489 = .ok (.iload_n 3, 1) := by decide +kernel
theorem dL_law_490 : decode cL_law 490 = .ok (.iconst 1, 1) := by decide +kernel
theorem dL_law_491 : decode cL_law 491 = .ok (.iadd, 1) := by decide +kernel
theorem dL_law_492 : decode cL_law 492 = .ok (.iaload, 1) := by decide +kernel
theorem dL_law_493 : decode cL_law 493 = .ok (.aload_n 0, 1) := by decide +kernel
theorem dL_law_494 : decode cL_law 494 = .ok (.iload_n 3, 1) := by decide +kernel
theorem dL_law_495 : decode cL_law 495 = .ok (.iconst 2, 1) := by decide +kernel
theorem dL_law_496 : decode cL_law 496 = .ok (.iadd, 1) := by decide +kernel
theorem dL_law_497 : decode cL_law 497 = .ok (.iaload, 1) := by decide +kernel
theorem dL_law_498 : decode cL_law 498 = .ok (.invokevirtual 69, 3) := by decide +kernel
theorem dL_law_501 : decode cL_law 501 = .ok (.aload_n 2, 1) := by decide +kernel
theorem dL_law_502 : decode cL_law 502 = .ok (.aload_n 0, 1) := by decide +kernel
theorem dL_law_503 : decode cL_law 503 = .ok (.iload_n 3, 1) := by decide +kernel
theorem dL_law_504 : decode cL_law 504 = .ok (.iconst 1, 1) := by decide +kernel
theorem dL_law_505 : decode cL_law 505 = .ok (.iadd, 1) := by decide +kernel
theorem dL_law_506 : decode cL_law 506 = .ok (.iaload, 1) := by decide +kernel
theorem dL_law_507 : decode cL_law 507 = .ok (.aload_n 0, 1) := by decide +kernel
theorem dL_law_508 : decode cL_law 508 = .ok (.iload_n 3, 1) := by decide +kernel
theorem dL_law_509 : decode cL_law 509 = .ok (.iconst 2, 1) := by decide +kernel
theorem dL_law_510 : decode cL_law 510 = .ok (.iadd, 1) := by decide +kernel
theorem dL_law_511 : decode cL_law 511 = .ok (.iaload, 1) := by decide +kernel
theorem dL_law_512 : decode cL_law 512 = .ok (.invokevirtual 72, 3) := by decide +kernel
theorem dL_law_515 : decode cL_law 515 = .ok (.if_icmp .eq 288, 3) := by decide +kernel
theorem dL_law_518 : decode cL_law 518 = .ok (.iconst 0, 1) := by decide +kernel
theorem dL_law_519 : decode cL_law 519 = .ok (.ireturn, 1) := by decide +kernel
theorem dL_law_520 : decode cL_law 520 = .ok (.aload_n 1, 1) := by decide +kernel
theorem dL_law_521 : decode cL_law 521 = .ok (.aload_n 0, 1) := by decide +kernel
theorem dL_law_522 : decode cL_law 522 = .ok (.iload_n 3, 1) := by decide +kernel
theorem dL_law_523 : decode cL_law 523 = .ok (.iconst 1, 1) := by decide +kernel
theorem dL_law_524 : decode cL_law 524 = .ok (.iadd, 1) := by decide +kernel
theorem dL_law_525 : decode cL_law 525 = .ok (.iaload, 1) := by decide +kernel
theorem dL_law_526 : decode cL_law 526 = .ok (.aload_n 0, 1) := by decide +kernel
theorem dL_law_527 : decode cL_law 527 = .ok (.iload_n 3, 1) := by decide +kernel
theorem dL_law_528 : decode cL_law 528 = .ok (.iconst 2, 1) := by decide +kernel
theorem dL_law_529 : decode cL_law 529 = .ok (.iadd, 1) := by decide +kernel
theorem dL_law_530 : decode cL_law 530 = .ok (.iaload, 1) := by decide +kernel
theorem dL_law_531 : decode cL_law 531 = .ok (.invokevirtual 73, 3) := by decide +kernel
theorem dL_law_534 : decode cL_law 534 = .ok (.aload_n 2, 1) := by decide +kernel
theorem dL_law_535 : decode cL_law 535 = .ok (.aload_n 0, 1) := by decide +kernel
theorem dL_law_536 : decode cL_law 536 = .ok (.iload_n 3, 1) := by decide +kernel
theorem dL_law_537 : decode cL_law 537 = .ok (.iconst 1, 1) := by decide +kernel
theorem dL_law_538 : decode cL_law 538 = .ok (.iadd, 1) := by decide +kernel
theorem dL_law_539 : decode cL_law 539 = .ok (.iaload, 1) := by decide +kernel
theorem dL_law_540 : decode cL_law 540 = .ok (.aload_n 0, 1) := by decide +kernel
theorem dL_law_541 : decode cL_law 541 = .ok (.iload_n 3, 1) := by decide +kernel
theorem dL_law_542 : decode cL_law 542 = .ok (.iconst 2, 1) := by decide +kernel
theorem dL_law_543 : decode cL_law 543 = .ok (.iadd, 1) := by decide +kernel
theorem dL_law_544 : decode cL_law 544 = .ok (.iaload, 1) := by decide +kernel
theorem dL_law_545 : decode cL_law 545 = .ok (.invokevirtual 76, 3) := by decide +kernel
theorem dL_law_548 : decode cL_law 548 = .ok (.if_icmp .eq 255, 3) := by decide +kernel
theorem dL_law_551 : decode cL_law 551 = .ok (.iconst 0, 1) := by decide +kernel
theorem dL_law_552 : decode cL_law 552 = .ok (.ireturn, 1) := by decide +kernel
theorem dL_law_553 : decode cL_law 553 = .ok (.aload_n 1, 1) := by decide +kernel
theorem dL_law_554 : decode cL_law 554 = .ok (.aload_n 0, 1) := by decide +kernel
theorem dL_law_555 : decode cL_law 555 = .ok (.iload_n 3, 1) := by decide +kernel
theorem dL_law_556 : decode cL_law 556 = .ok (.iconst 1, 1) := by decide +kernel
theorem dL_law_557 : decode cL_law 557 = .ok (.iadd, 1) := by decide +kernel
theorem dL_law_558 : decode cL_law 558 = .ok (.iaload, 1) := by decide +kernel
theorem dL_law_559 : decode cL_law 559 = .ok (.aload_n 0, 1) := by decide +kernel
theorem dL_law_560 : decode cL_law 560 = .ok (.iload_n 3, 1) := by decide +kernel
theorem dL_law_561 : decode cL_law 561 = .ok (.iconst 2, 1) := by decide +kernel
theorem dL_law_562 : decode cL_law 562 = .ok (.iadd, 1) := by decide +kernel
theorem dL_law_563 : decode cL_law 563 = .ok (.iaload, 1) := by decide +kernel
theorem dL_law_564 : decode cL_law 564 = .ok (.invokevirtual 77, 3) := by decide +kernel
theorem dL_law_567 : decode cL_law 567 = .ok (.aload_n 2, 1) := by decide +kernel
theorem dL_law_568 : decode cL_law 568 = .ok (.aload_n 0, 1) := by decide +kernel
theorem dL_law_569 : decode cL_law 569 = .ok (.iload_n 3, 1) := by decide +kernel
theorem dL_law_570 : decode cL_law 570 = .ok (.iconst 1, 1) := by decide +kernel
theorem dL_law_571 : decode cL_law 571 = .ok (.iadd, 1) := by decide +kernel
theorem dL_law_572 : decode cL_law 572 = .ok (.iaload, 1) := by decide +kernel
theorem dL_law_573 : decode cL_law 573 = .ok (.aload_n 0, 1) := by decide +kernel
theorem dL_law_574 : decode cL_law 574 = .ok (.iload_n 3, 1) := by decide +kernel
theorem dL_law_575 : decode cL_law 575 = .ok (.iconst 2, 1) := by decide +kernel
theorem dL_law_576 : decode cL_law 576 = .ok (.iadd, 1) := by decide +kernel
theorem dL_law_577 : decode cL_law 577 = .ok (.iaload, 1) := by decide +kernel
theorem dL_law_578 : decode cL_law 578 = .ok (.invokevirtual 80, 3) := by decide +kernel
theorem dL_law_581 : decode cL_law 581 = .ok (.if_icmp .eq 222, 3) := by decide +kernel
theorem dL_law_584 : decode cL_law 584 = .ok (.iconst 0, 1) := by decide +kernel
theorem dL_law_585 : decode cL_law 585 = .ok (.ireturn, 1) := by decide +kernel
theorem dL_law_586 : decode cL_law 586 = .ok (.aload_n 1, 1) := by decide +kernel
theorem dL_law_587 : decode cL_law 587 = .ok (.aload_n 0, 1) := by decide +kernel
theorem dL_law_588 : decode cL_law 588 = .ok (.iload_n 3, 1) := by decide +kernel
theorem dL_law_589 : decode cL_law 589 = .ok (.iconst 1, 1) := by decide +kernel
theorem dL_law_590 : decode cL_law 590 = .ok (.iadd, 1) := by decide +kernel
theorem dL_law_591 : decode cL_law 591 = .ok (.iaload, 1) := by decide +kernel
theorem dL_law_592 : decode cL_law 592 = .ok (.aload_n 0, 1) := by decide +kernel
theorem dL_law_593 : decode cL_law 593 = .ok (.iload_n 3, 1) := by decide +kernel
theorem dL_law_594 : decode cL_law 594 = .ok (.iconst 2, 1) := by decide +kernel
theorem dL_law_595 : decode cL_law 595 = .ok (.iadd, 1) := by decide +kernel
theorem dL_law_596 : decode cL_law 596 = .ok (.iaload, 1) := by decide +kernel
theorem dL_law_597 : decode cL_law 597 = .ok (.aload_n 0, 1) := by decide +kernel
theorem dL_law_598 : decode cL_law 598 = .ok (.iload_n 3, 1) := by decide +kernel
theorem dL_law_599 : decode cL_law 599 = .ok (.iconst 3, 1) := by decide +kernel
theorem dL_law_600 : decode cL_law 600 = .ok (.iadd, 1) := by decide +kernel
theorem dL_law_601 : decode cL_law 601 = .ok (.iaload, 1) := by decide +kernel
theorem dL_law_602 : decode cL_law 602 = .ok (.invokevirtual 81, 3) := by decide +kernel
theorem dL_law_605 : decode cL_law 605 = .ok (.aload_n 2, 1) := by decide +kernel
theorem dL_law_606 : decode cL_law 606 = .ok (.aload_n 0, 1) := by decide +kernel
theorem dL_law_607 : decode cL_law 607 = .ok (.iload_n 3, 1) := by decide +kernel
theorem dL_law_608 : decode cL_law 608 = .ok (.iconst 1, 1) := by decide +kernel
theorem dL_law_609 : decode cL_law 609 = .ok (.iadd, 1) := by decide +kernel
theorem dL_law_610 : decode cL_law 610 = .ok (.iaload, 1) := by decide +kernel
theorem dL_law_611 : decode cL_law 611 = .ok (.aload_n 0, 1) := by decide +kernel
theorem dL_law_612 : decode cL_law 612 = .ok (.iload_n 3, 1) := by decide +kernel
theorem dL_law_613 : decode cL_law 613 = .ok (.iconst 2, 1) := by decide +kernel
theorem dL_law_614 : decode cL_law 614 = .ok (.iadd, 1) := by decide +kernel
theorem dL_law_615 : decode cL_law 615 = .ok (.iaload, 1) := by decide +kernel
theorem dL_law_616 : decode cL_law 616 = .ok (.aload_n 0, 1) := by decide +kernel
theorem dL_law_617 : decode cL_law 617 = .ok (.iload_n 3, 1) := by decide +kernel
theorem dL_law_618 : decode cL_law 618 = .ok (.iconst 3, 1) := by decide +kernel
theorem dL_law_619 : decode cL_law 619 = .ok (.iadd, 1) := by decide +kernel
theorem dL_law_620 : decode cL_law 620 = .ok (.iaload, 1) := by decide +kernel
theorem dL_law_621 : decode cL_law 621 = .ok (.invokevirtual 84, 3) := by decide +kernel
theorem dL_law_624 : decode cL_law 624 = .ok (.if_icmp .eq 179, 3) := by decide +kernel
theorem dL_law_627 : decode cL_law 627 = .ok (.iconst 0, 1) := by decide +kernel
theorem dL_law_628 : decode cL_law 628 = .ok (.ireturn, 1) := by decide +kernel
theorem dL_law_629 : decode cL_law 629 = .ok (.aload_n 1, 1) := by decide +kernel
theorem dL_law_630 : decode cL_law 630 = .ok (.aload_n 0, 1) := by decide +kernel
theorem dL_law_631 : decode cL_law 631 = .ok (.iload_n 3, 1) := by decide +kernel
theorem dL_law_632 : decode cL_law 632 = .ok (.iconst 1, 1) := by decide +kernel
theorem dL_law_633 : decode cL_law 633 = .ok (.iadd, 1) := by decide +kernel
theorem dL_law_634 : decode cL_law 634 = .ok (.iaload, 1) := by decide +kernel
theorem dL_law_635 : decode cL_law 635 = .ok (.aload_n 0, 1) := by decide +kernel
theorem dL_law_636 : decode cL_law 636 = .ok (.iload_n 3, 1) := by decide +kernel
theorem dL_law_637 : decode cL_law 637 = .ok (.iconst 2, 1) := by decide +kernel
theorem dL_law_638 : decode cL_law 638 = .ok (.iadd, 1) := by decide +kernel
theorem dL_law_639 : decode cL_law 639 = .ok (.iaload, 1) := by decide +kernel
theorem dL_law_640 : decode cL_law 640 = .ok (.invokevirtual 85, 3) := by decide +kernel
theorem dL_law_643 : decode cL_law 643 = .ok (.aload_n 2, 1) := by decide +kernel
theorem dL_law_644 : decode cL_law 644 = .ok (.aload_n 0, 1) := by decide +kernel
theorem dL_law_645 : decode cL_law 645 = .ok (.iload_n 3, 1) := by decide +kernel
theorem dL_law_646 : decode cL_law 646 = .ok (.iconst 1, 1) := by decide +kernel
theorem dL_law_647 : decode cL_law 647 = .ok (.iadd, 1) := by decide +kernel
theorem dL_law_648 : decode cL_law 648 = .ok (.iaload, 1) := by decide +kernel
theorem dL_law_649 : decode cL_law 649 = .ok (.aload_n 0, 1) := by decide +kernel
theorem dL_law_650 : decode cL_law 650 = .ok (.iload_n 3, 1) := by decide +kernel
theorem dL_law_651 : decode cL_law 651 = .ok (.iconst 2, 1) := by decide +kernel
theorem dL_law_652 : decode cL_law 652 = .ok (.iadd, 1) := by decide +kernel
theorem dL_law_653 : decode cL_law 653 = .ok (.iaload, 1) := by decide +kernel
theorem dL_law_654 : decode cL_law 654 = .ok (.invokevirtual 88, 3) := by decide +kernel
theorem dL_law_657 : decode cL_law 657 = .ok (.if_icmp .eq 146, 3) := by decide +kernel
theorem dL_law_660 : decode cL_law 660 = .ok (.iconst 0, 1) := by decide +kernel
theorem dL_law_661 : decode cL_law 661 = .ok (.ireturn, 1) := by decide +kernel
theorem dL_law_662 : decode cL_law 662 = .ok (.aload_n 1, 1) := by decide +kernel
theorem dL_law_663 : decode cL_law 663 = .ok (.aload_n 0, 1) := by decide +kernel
theorem dL_law_664 : decode cL_law 664 = .ok (.iload_n 3, 1) := by decide +kernel
theorem dL_law_665 : decode cL_law 665 = .ok (.iconst 1, 1) := by decide +kernel
theorem dL_law_666 : decode cL_law 666 = .ok (.iadd, 1) := by decide +kernel
theorem dL_law_667 : decode cL_law 667 = .ok (.iaload, 1) := by decide +kernel
theorem dL_law_668 : decode cL_law 668 = .ok (.invokevirtual 89, 3) := by decide +kernel
theorem dL_law_671 : decode cL_law 671 = .ok (.aload_n 2, 1) := by decide +kernel
theorem dL_law_672 : decode cL_law 672 = .ok (.aload_n 0, 1) := by decide +kernel
theorem dL_law_673 : decode cL_law 673 = .ok (.iload_n 3, 1) := by decide +kernel
theorem dL_law_674 : decode cL_law 674 = .ok (.iconst 1, 1) := by decide +kernel
theorem dL_law_675 : decode cL_law 675 = .ok (.iadd, 1) := by decide +kernel
theorem dL_law_676 : decode cL_law 676 = .ok (.iaload, 1) := by decide +kernel
theorem dL_law_677 : decode cL_law 677 = .ok (.invokevirtual 92, 3) := by decide +kernel
theorem dL_law_680 : decode cL_law 680 = .ok (.if_icmp .eq 123, 3) := by decide +kernel
theorem dL_law_683 : decode cL_law 683 = .ok (.iconst 0, 1) := by decide +kernel
theorem dL_law_684 : decode cL_law 684 = .ok (.ireturn, 1) := by decide +kernel
theorem dL_law_685 : decode cL_law 685 = .ok (.aload_n 1, 1) := by decide +kernel
theorem dL_law_686 : decode cL_law 686 = .ok (.aload_n 0, 1) := by decide +kernel
theorem dL_law_687 : decode cL_law 687 = .ok (.iload_n 3, 1) := by decide +kernel
theorem dL_law_688 : decode cL_law 688 = .ok (.iconst 1, 1) := by decide +kernel
theorem dL_law_689 : decode cL_law 689 = .ok (.iadd, 1) := by decide +kernel
theorem dL_law_690 : decode cL_law 690 = .ok (.iaload, 1) := by decide +kernel
theorem dL_law_691 : decode cL_law 691 = .ok (.aload_n 0, 1) := by decide +kernel
theorem dL_law_692 : decode cL_law 692 = .ok (.iload_n 3, 1) := by decide +kernel
theorem dL_law_693 : decode cL_law 693 = .ok (.iconst 2, 1) := by decide +kernel
theorem dL_law_694 : decode cL_law 694 = .ok (.iadd, 1) := by decide +kernel
theorem dL_law_695 : decode cL_law 695 = .ok (.iaload, 1) := by decide +kernel
theorem dL_law_696 : decode cL_law 696 = .ok (.invokevirtual 93, 3) := by decide +kernel
theorem dL_law_699 : decode cL_law 699 = .ok (.aload_n 2, 1) := by decide +kernel
theorem dL_law_700 : decode cL_law 700 = .ok (.aload_n 0, 1) := by decide +kernel
theorem dL_law_701 : decode cL_law 701 = .ok (.iload_n 3, 1) := by decide +kernel
theorem dL_law_702 : decode cL_law 702 = .ok (.iconst 1, 1) := by decide +kernel
theorem dL_law_703 : decode cL_law 703 = .ok (.iadd, 1) := by decide +kernel
theorem dL_law_704 : decode cL_law 704 = .ok (.iaload, 1) := by decide +kernel
theorem dL_law_705 : decode cL_law 705 = .ok (.aload_n 0, 1) := by decide +kernel
theorem dL_law_706 : decode cL_law 706 = .ok (.iload_n 3, 1) := by decide +kernel
theorem dL_law_707 : decode cL_law 707 = .ok (.iconst 2, 1) := by decide +kernel
theorem dL_law_708 : decode cL_law 708 = .ok (.iadd, 1) := by decide +kernel
theorem dL_law_709 : decode cL_law 709 = .ok (.iaload, 1) := by decide +kernel
theorem dL_law_710 : decode cL_law 710 = .ok (.invokevirtual 96, 3) := by decide +kernel
theorem dL_law_713 : decode cL_law 713 = .ok (.if_icmp .eq 90, 3) := by decide +kernel
theorem dL_law_716 : decode cL_law 716 = .ok (.iconst 0, 1) := by decide +kernel
theorem dL_law_717 : decode cL_law 717 = .ok (.ireturn, 1) := by decide +kernel
theorem dL_law_718 : decode cL_law 718 = .ok (.aload_n 1, 1) := by decide +kernel
theorem dL_law_719 : decode cL_law 719 = .ok (.invokevirtual 97, 3) := by decide +kernel
theorem dL_law_722 : decode cL_law 722 = .ok (.aload_n 2, 1) := by decide +kernel
theorem dL_law_723 : decode cL_law 723 = .ok (.invokevirtual 100, 3) := by decide +kernel
theorem dL_law_726 : decode cL_law 726 = .ok (.if_icmp .eq 77, 3) := by decide +kernel
theorem dL_law_729 : decode cL_law 729 = .ok (.iconst 0, 1) := by decide +kernel
theorem dL_law_730 : decode cL_law 730 = .ok (.ireturn, 1) := by decide +kernel
theorem dL_law_731 : decode cL_law 731 = .ok (.aload_n 1, 1) := by decide +kernel
theorem dL_law_732 : decode cL_law 732 = .ok (.aload_n 0, 1) := by decide +kernel
theorem dL_law_733 : decode cL_law 733 = .ok (.iload_n 3, 1) := by decide +kernel
theorem dL_law_734 : decode cL_law 734 = .ok (.iconst 1, 1) := by decide +kernel
theorem dL_law_735 : decode cL_law 735 = .ok (.iadd, 1) := by decide +kernel
theorem dL_law_736 : decode cL_law 736 = .ok (.iaload, 1) := by decide +kernel
theorem dL_law_737 : decode cL_law 737 = .ok (.aload_n 0, 1) := by decide +kernel
theorem dL_law_738 : decode cL_law 738 = .ok (.iload_n 3, 1) := by decide +kernel
theorem dL_law_739 : decode cL_law 739 = .ok (.iconst 2, 1) := by decide +kernel
theorem dL_law_740 : decode cL_law 740 = .ok (.iadd, 1) := by decide +kernel
theorem dL_law_741 : decode cL_law 741 = .ok (.iaload, 1) := by decide +kernel
theorem dL_law_742 : decode cL_law 742 = .ok (.invokevirtual 101, 3) := by decide +kernel
theorem dL_law_745 : decode cL_law 745 = .ok (.aload_n 2, 1) := by decide +kernel
theorem dL_law_746 : decode cL_law 746 = .ok (.aload_n 0, 1) := by decide +kernel
theorem dL_law_747 : decode cL_law 747 = .ok (.iload_n 3, 1) := by decide +kernel
theorem dL_law_748 : decode cL_law 748 = .ok (.iconst 1, 1) := by decide +kernel
theorem dL_law_749 : decode cL_law 749 = .ok (.iadd, 1) := by decide +kernel
theorem dL_law_750 : decode cL_law 750 = .ok (.iaload, 1) := by decide +kernel
theorem dL_law_751 : decode cL_law 751 = .ok (.aload_n 0, 1) := by decide +kernel
theorem dL_law_752 : decode cL_law 752 = .ok (.iload_n 3, 1) := by decide +kernel
theorem dL_law_753 : decode cL_law 753 = .ok (.iconst 2, 1) := by decide +kernel
theorem dL_law_754 : decode cL_law 754 = .ok (.iadd, 1) := by decide +kernel
theorem dL_law_755 : decode cL_law 755 = .ok (.iaload, 1) := by decide +kernel
theorem dL_law_756 : decode cL_law 756 = .ok (.invokevirtual 104, 3) := by decide +kernel
theorem dL_law_759 : decode cL_law 759 = .ok (.if_icmp .eq 44, 3) := by decide +kernel
theorem dL_law_762 : decode cL_law 762 = .ok (.iconst 0, 1) := by decide +kernel
theorem dL_law_763 : decode cL_law 763 = .ok (.ireturn, 1) := by decide +kernel
theorem dL_law_764 : decode cL_law 764 = .ok (.aload_n 1, 1) := by decide +kernel
theorem dL_law_765 : decode cL_law 765 = .ok (.invokevirtual 105, 3) := by decide +kernel
theorem dL_law_768 : decode cL_law 768 = .ok (.aload_n 2, 1) := by decide +kernel
theorem dL_law_769 : decode cL_law 769 = .ok (.invokevirtual 108, 3) := by decide +kernel
theorem dL_law_772 : decode cL_law 772 = .ok (.if_icmp .eq 31, 3) := by decide +kernel
theorem dL_law_775 : decode cL_law 775 = .ok (.iconst 0, 1) := by decide +kernel
theorem dL_law_776 : decode cL_law 776 = .ok (.ireturn, 1) := by decide +kernel
theorem dL_law_777 : decode cL_law 777 = .ok (.aload_n 1, 1) := by decide +kernel
theorem dL_law_778 : decode cL_law 778 = .ok (.invokevirtual 109, 3) := by decide +kernel
theorem dL_law_781 : decode cL_law 781 = .ok (.aload_n 2, 1) := by decide +kernel
theorem dL_law_782 : decode cL_law 782 = .ok (.invokevirtual 112, 3) := by decide +kernel
theorem dL_law_785 : decode cL_law 785 = .ok (.if_icmp .eq 18, 3) := by decide +kernel
theorem dL_law_788 : decode cL_law 788 = .ok (.iconst 0, 1) := by decide +kernel
theorem dL_law_789 : decode cL_law 789 = .ok (.ireturn, 1) := by decide +kernel
theorem dL_law_790 : decode cL_law 790 = .ok (.aload_n 1, 1) := by decide +kernel
theorem dL_law_791 : decode cL_law 791 = .ok (.invokevirtual 113, 3) := by decide +kernel
theorem dL_law_794 : decode cL_law 794 = .ok (.aload_n 2, 1) := by decide +kernel
theorem dL_law_795 : decode cL_law 795 = .ok (.invokevirtual 116, 3) := by decide +kernel
theorem dL_law_798 : decode cL_law 798 = .ok (.if_icmp .eq 5, 3) := by decide +kernel
theorem dL_law_801 : decode cL_law 801 = .ok (.iconst 0, 1) := by decide +kernel
theorem dL_law_802 : decode cL_law 802 = .ok (.ireturn, 1) := by decide +kernel
theorem dL_law_803 : decode cL_law 803 = .ok (.iinc 3 4, 3) := by decide +kernel
theorem dL_law_806 : decode cL_law 806 = .ok (.goto (-788), 3) := by decide +kernel
theorem dL_law_809 : decode cL_law 809 = .ok (.iconst 1, 1) := by decide +kernel
theorem dL_law_810 : decode cL_law 810 = .ok (.ireturn, 1) := by decide +kernel
