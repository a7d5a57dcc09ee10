theorem dX0_init_0 : decode cX0_init 0 = .ok (.aload_n 0, 1) := by decide +kernel
theorem dX0_init_1 : decode cX0_init 1 = .ok (.invokespecial 3, 3) := by decide +kernel
theorem dX0_init_4 : decode cX0_init 4 = .ok (.aload_n 0, 1) := by decide +kernel
theorem dX0_init_5 : decode cX0_init 5 = .ok (.bipush 9, 2) := by decide +kernel
theorem dX0_init_7 : decode cX0_init 7 = .ok (.newarray .int, 2) := by decide +kernel
theorem dX0_init_9 : decode cX0_init 9 = .ok (.putfield 9, 3) := by decide +kernel
theorem dX0_init_12 : decode cX0_init 12 = .ok (.aload_n 0, 1) := by decide +kernel
theorem dX0_init_13 : decode cX0_init 13 = .ok (.new 15, 3) := by decide +kernel
theorem dX0_init_16 : decode cX0_init 16 = .ok (.dup, 1) := by decide +kernel
theorem dX0_init_17 : decode cX0_init 17 = .ok (.invokespecial 17, 3) := by decide +kernel
theorem dX0_init_20 : decode cX0_init 20 = .ok (.putfield 18, 3) := by decide +kernel
theorem dX0_init_23 : decode cX0_init 23 = .ok (.aload_n 0, 1) := by decide +kernel
theorem dX0_init_24 : decode cX0_init 24 = .ok (.new 22, 3) := by decide +kernel
theorem dX0_init_27 : decode cX0_init 27 = .ok (.dup, 1) := by decide +kernel
theorem dX0_init_28 : decode cX0_init 28 = .ok (.invokespecial 24, 3) := by decide +kernel
theorem dX0_init_31 : decode cX0_init 31 = .ok (.putfield 25, 3) := by decide +kernel
theorem dX0_init_34 : decode cX0_init 34 = .ok (.aload_n 0, 1) := by decide +kernel
theorem dX0_init_35 : decode cX0_init 35 = .ok (.new 29, 3) := by decide +kernel
theorem dX0_init_38 : decode cX0_init 38 = .ok (.dup, 1) := by decide +kernel
theorem dX0_init_39 : decode cX0_init 39 = .ok (.invokespecial 31, 3) := by decide +kernel
theorem dX0_init_42 : decode cX0_init 42 = .ok (.putfield 32, 3) := by decide +kernel
theorem dX0_init_45 : decode cX0_init 45 = .ok (.aload_n 0, 1) := by decide +kernel
theorem dX0_init_46 : decode cX0_init 46 = .ok (.new 29, 3) := by decide +kernel
theorem dX0_init_49 : decode cX0_init 49 = .ok (.dup, 1) := by decide +kernel
theorem dX0_init_50 : decode cX0_init 50 = .ok (.invokespecial 31, 3) := by decide +kernel
theorem dX0_init_53 : decode cX0_init 53 = .ok (.putfield 36, 3) := by decide +kernel
theorem dX0_init_56 : decode cX0_init 56 = .ok (.aload_n 0, 1) := by decide +kernel
theorem dX0_init_57 : decode cX0_init 57 = .ok (.iconst 0, 1) := by decide +kernel
theorem dX0_init_58 : decode cX0_init 58 = .ok (.putfield 39, 3) := by decide +kernel
theorem dX0_init_61 : decode cX0_init 61 = .ok (.aload_n 0, 1) := by decide +kernel
theorem dX0_init_62 : decode cX0_init 62 = .ok (.iconst (-1), 1) := by decide +kernel
theorem dX0_init_63 : decode cX0_init 63 = .ok (.putfield 43, 3) := by decide +kernel
theorem dX0_init_66 : decode cX0_init 66 = .ok (.aload_n 0, 1) := by decide +kernel
theorem dX0_init_67 : decode cX0_init 67 = .ok (.iconst (-1), 1) := by decide +kernel
theorem dX0_init_68 : decode cX0_init 68 = .ok (.putfield 46, 3) := by decide +kernel
theorem dX0_init_71 : decode cX0_init 71 = .ok (.aload_n 0, 1) := by decide +kernel
theorem dX0_init_72 : decode cX0_init 72 = .ok (.iload_n 1, 1) := by decide +kernel
theorem dX0_init_73 : decode cX0_init 73 = .ok (.putfield 49, 3) := by decide +kernel
theorem dX0_init_76 : decode cX0_init 76 = .ok (.return_, 1) := by decide +kernel
theorem dX0_copyFrom_0 : decode cX0_copyFrom 0 = .ok (.aload_n 1, 1) := by decide +kernel
theorem dX0_copyFrom_1 : decode cX0_copyFrom 1 = .ok (.getfield 9, 3) := by decide +kernel
theorem dX0_copyFrom_4 : decode cX0_copyFrom 4 = .ok (.iconst 0, 1) := by decide +kernel
theorem dX0_copyFrom_5 : decode cX0_copyFrom 5 = .ok (.aload_n 0, 1) := by decide +kernel
theorem dX0_copyFrom_6 : decode cX0_copyFrom 6 = .ok (.getfield 9, 3) := by decide +kernel
theorem dX0_copyFrom_9 : decode cX0_copyFrom 9 = .ok (.iconst 0, 1) := by decide +kernel
theorem dX0_copyFrom_10 : decode cX0_copyFrom 10 = .ok (.bipush 9, 2) := by decide +kernel
theorem dX0_copyFrom_12 : decode cX0_copyFrom 12 = .ok (.invokestatic 52, 3) := by decide +kernel
theorem dX0_copyFrom_15 : decode cX0_copyFrom 15 = .ok (.aload_n 0, 1) := by decide +kernel
theorem dX0_copyFrom_16 : decode cX0_copyFrom 16 = .ok (.getfield 18, 3) := by decide +kernel
theorem dX0_copyFrom_19 : decode cX0_copyFrom 19 = .ok (.aload_n 1, 1) := by decide +kernel
theorem dX0_copyFrom_20 : decode cX0_copyFrom 20 = .ok (.getfield 18, 3) := by decide +kernel
theorem dX0_copyFrom_23 : decode cX0_copyFrom 23 = .ok (.invokevirtual 58, 3) := by decide +kernel
theorem dX0_copyFrom_26 : decode cX0_copyFrom 26 = .ok (.aload_n 0, 1) := by decide +kernel
theorem dX0_copyFrom_27 : decode cX0_copyFrom 27 = .ok (.getfield 25, 3) := by decide +kernel
theorem dX0_copyFrom_30 : decode cX0_copyFrom 30 = .ok (.aload_n 1, 1) := by decide +kernel
theorem dX0_copyFrom_31 : decode cX0_copyFrom 31 = .ok (.getfield 25, 3) := by decide +kernel
theorem dX0_copyFrom_34 : decode cX0_copyFrom 34 = .ok (.invokevirtual 62, 3) := by decide +kernel
theorem dX0_copyFrom_37 : decode cX0_copyFrom 37 = .ok (.aload_n 0, 1) := by decide +kernel
theorem dX0_copyFrom_38 : decode cX0_copyFrom 38 = .ok (.getfield 32, 3) := by decide +kernel
theorem dX0_copyFrom_41 : decode cX0_copyFrom 41 = .ok (.aload_n 1, 1) := by decide +kernel
theorem dX0_copyFrom_42 : decode cX0_copyFrom 42 = .ok (.getfield 32, 3) := by decide +kernel
theorem dX0_copyFrom_45 : decode cX0_copyFrom 45 = .ok (.invokevirtual 65, 3) := by decide +kernel
theorem dX0_copyFrom_48 : decode cX0_copyFrom 48 = .ok (.aload_n 0, 1) := by decide +kernel
theorem dX0_copyFrom_49 : decode cX0_copyFrom 49 = .ok (.getfield 36, 3) := by decide +kernel
theorem dX0_copyFrom_52 : decode cX0_copyFrom 52 = .ok (.aload_n 1, 1) := by decide +kernel
theorem dX0_copyFrom_53 : decode cX0_copyFrom 53 = .ok (.getfield 36, 3) := by decide +kernel
theorem dX0_copyFrom_56 : decode cX0_copyFrom 56 = .ok (.invokevirtual 65, 3) := by decide +kernel
theorem dX0_copyFrom_59 : decode cX0_copyFrom 59 = .ok (.aload_n 0, 1) := by decide +kernel
theorem dX0_copyFrom_60 : decode cX0_copyFrom 60 = .ok (.aload_n 1, 1) := by decide +kernel
theorem dX0_copyFrom_61 : decode cX0_copyFrom 61 = .ok (.getfield 68, 3) := by decide +kernel
theorem dX0_copyFrom_64 : decode cX0_copyFrom 64 = .ok (.putfield 68, 3) := by decide +kernel
theorem dX0_copyFrom_67 : decode cX0_copyFrom 67 = .ok (.aload_n 0, 1) := by decide +kernel
theorem dX0_copyFrom_68 : decode cX0_copyFrom 68 = .ok (.aload_n 1, 1) := by decide +kernel
theorem dX0_copyFrom_69 : decode cX0_copyFrom 69 = .ok (.getfield 72, 3) := by decide +kernel
theorem dX0_copyFrom_72 : decode cX0_copyFrom 72 = .ok (.putfield 72, 3) := by decide +kernel
theorem dX0_copyFrom_75 : decode cX0_copyFrom 75 = .ok (.aload_n 0, 1) := by decide +kernel
theorem dX0_copyFrom_76 : decode cX0_copyFrom 76 = .ok (.aload_n 1, 1) := by decide +kernel
theorem dX0_copyFrom_77 : decode cX0_copyFrom 77 = .ok (.getfield 39, 3) := by decide +kernel
theorem dX0_copyFrom_80 : decode cX0_copyFrom 80 = .ok (.putfield 39, 3) := by decide +kernel
theorem dX0_copyFrom_83 : decode cX0_copyFrom 83 = .ok (.aload_n 0, 1) := by decide +kernel
theorem dX0_copyFrom_84 : decode cX0_copyFrom 84 = .ok (.aload_n 1, 1) := by decide +kernel
theorem dX0_copyFrom_85 : decode cX0_copyFrom 85 = .ok (.getfield 75, 3) := by decide +kernel
theorem dX0_copyFrom_88 : decode cX0_copyFrom 88 = .ok (.putfield 75, 3) := by decide +kernel
theorem dX0_copyFrom_91 : decode cX0_copyFrom 91 = .ok (.aload_n 0, 1) := by decide +kernel
theorem dX0_copyFrom_92 : decode cX0_copyFrom 92 = .ok (.aload_n 1, 1) := by decide +kernel
theorem dX0_copyFrom_93 : decode cX0_copyFrom 93 = .ok (.getfield 78, 3) := by decide +kernel
theorem dX0_copyFrom_96 : decode cX0_copyFrom 96 = .ok (.putfield 78, 3) := by decide +kernel
theorem dX0_copyFrom_99 : decode cX0_copyFrom 99 = .ok (.aload_n 0, 1) := by decide +kernel
theorem dX0_copyFrom_100 : decode cX0_copyFrom 100 = .ok (.aload_n 1, 1) := by decide +kernel
theorem dX0_copyFrom_101 : decode cX0_copyFrom 101 = .ok (.getfield 81, 3) := by decide +kernel
theorem dX0_copyFrom_104 : decode cX0_copyFrom 104 = .ok (.putfield 81, 3) := by decide +kernel
theorem dX0_copyFrom_107 : decode cX0_copyFrom 107 = .ok (.aload_n 0, 1) := by decide +kernel
theorem dX0_copyFrom_108 : decode cX0_copyFrom 108 = .ok (.aload_n 1, 1) := by decide +kernel
theorem dX0_copyFrom_109 : decode cX0_copyFrom 109 = .ok (.getfield 84, 3) := by decide +kernel
theorem dX0_copyFrom_112 : decode cX0_copyFrom 112 = .ok (.putfield 84, 3) := by decide +kernel
theorem dX0_copyFrom_115 : decode cX0_copyFrom 115 = .ok (.aload_n 0, 1) := by decide +kernel
theorem dX0_copyFrom_116 : decode cX0_copyFrom 116 = .ok (.aload_n 1, 1) := by decide +kernel
theorem dX0_copyFrom_117 : decode cX0_copyFrom 117 = .ok (.getfield 87, 3) := by decide +kernel
theorem dX0_copyFrom_120 : decode cX0_copyFrom 120 = .ok (.putfield 87, 3) := by decide +kernel
theorem dX0_copyFrom_123 : decode cX0_copyFrom 123 = .ok (.aload_n 0, 1) := by decide +kernel
theorem dX0_copyFrom_124 : decode cX0_copyFrom 124 = .ok (.aload_n 1, 1) := by decide +kernel
theorem dX0_copyFrom_125 : decode cX0_copyFrom 125 = .ok (.getfield 43, 3) := by decide +kernel
theorem dX0_copyFrom_128 : decode cX0_copyFrom 128 = .ok (.putfield 43, 3) := by decide +kernel
theorem dX0_copyFrom_131 : decode cX0_copyFrom 131 = .ok (.aload_n 0, 1) := by decide +kernel
theorem dX0_copyFrom_132 : decode cX0_copyFrom 132 = .ok (.aload_n 1, 1) := by decide +kernel
theorem dX0_copyFrom_133 : decode cX0_copyFrom 133 = .ok (.getfield 90, 3) := by decide +kernel
theorem dX0_copyFrom_136 : decode cX0_copyFrom 136 = .ok (.putfield 90, 3) := by decide +kernel
theorem dX0_copyFrom_139 : decode cX0_copyFrom 139 = .ok (.aload_n 0, 1) := by decide +kernel
theorem dX0_copyFrom_140 : decode cX0_copyFrom 140 = .ok (.aload_n 1, 1) := by decide +kernel
theorem dX0_copyFrom_141 : decode cX0_copyFrom 141 = .ok (.getfield 46, 3) := by decide +kernel
theorem dX0_copyFrom_144 : decode cX0_copyFrom 144 = .ok (.putfield 46, 3) := by decide +kernel
theorem dX0_copyFrom_147 : decode cX0_copyFrom 147 = .ok (.aload_n 0, 1) := by decide +kernel
theorem dX0_copyFrom_148 : decode cX0_copyFrom 148 = .ok (.aload_n 1, 1) := by decide +kernel
theorem dX0_copyFrom_149 : decode cX0_copyFrom 149 = .ok (.getfield 93, 3) := by decide +kernel
theorem dX0_copyFrom_152 : decode cX0_copyFrom 152 = .ok (.putfield 93, 3) := by decide +kernel
theorem dX0_copyFrom_155 : decode cX0_copyFrom 155 = .ok (.return_, 1) := by decide +kernel
theorem dX0_beginStream_0 : decode cX0_beginStream 0 = .ok (.aload_n 0, 1) := by decide +kernel
theorem dX0_beginStream_1 : decode cX0_beginStream 1 = .ok (.getfield 18, 3) := by decide +kernel
theorem dX0_beginStream_4 : decode cX0_beginStream 4 = .ok (.invokevirtual 96, 3) := by decide +kernel
theorem dX0_beginStream_7 : decode cX0_beginStream 7 = .ok (.aload_n 0, 1) := by decide +kernel
theorem dX0_beginStream_8 : decode cX0_beginStream 8 = .ok (.getfield 25, 3) := by decide +kernel
theorem dX0_beginStream_11 : decode cX0_beginStream 11 = .ok (.invokevirtual 99, 3) := by decide +kernel
theorem dX0_beginStream_14 : decode cX0_beginStream 14 = .ok (.return_, 1) := by decide +kernel
theorem dX0_beginKeys_0 : decode cX0_beginKeys 0 = .ok (.aload_n 0, 1) := by decide +kernel
theorem dX0_beginKeys_1 : decode cX0_beginKeys 1 = .ok (.iconst 0, 1) := by decide +kernel
theorem dX0_beginKeys_2 : decode cX0_beginKeys 2 = .ok (.putfield 81, 3) := by decide +kernel
theorem dX0_beginKeys_5 : decode cX0_beginKeys 5 = .ok (.aload_n 0, 1) := by decide +kernel
theorem dX0_beginKeys_6 : decode cX0_beginKeys 6 = .ok (.iconst 0, 1) := by decide +kernel
theorem dX0_beginKeys_7 : decode cX0_beginKeys 7 = .ok (.putfield 84, 3) := by decide +kernel
theorem dX0_beginKeys_10 : decode cX0_beginKeys 10 = .ok (.aload_n 0, 1) := by decide +kernel
theorem dX0_beginKeys_11 : decode cX0_beginKeys 11 = .ok (.iconst 0, 1) := by decide +kernel
theorem dX0_beginKeys_12 : decode cX0_beginKeys 12 = .ok (.putfield 87, 3) := by decide +kernel
theorem dX0_beginKeys_15 : decode cX0_beginKeys 15 = .ok (.aload_n 0, 1) := by decide +kernel
theorem dX0_beginKeys_16 : decode cX0_beginKeys 16 = .ok (.getfield 32, 3) := by decide +kernel
theorem dX0_beginKeys_19 : decode cX0_beginKeys 19 = .ok (.invokevirtual 100, 3) := by decide +kernel
theorem dX0_beginKeys_22 : decode cX0_beginKeys 22 = .ok (.aload_n 0, 1) := by decide +kernel
theorem dX0_beginKeys_23 : decode cX0_beginKeys 23 = .ok (.iconst 0, 1) := by decide +kernel
theorem dX0_beginKeys_24 : decode cX0_beginKeys 24 = .ok (.putfield 68, 3) := by decide +kernel
theorem dX0_beginKeys_27 : decode cX0_beginKeys 27 = .ok (.aload_n 0, 1) := by decide +kernel
theorem dX0_beginKeys_28 : decode cX0_beginKeys 28 = .ok (.getfield 18, 3) := by decide +kernel
theorem dX0_beginKeys_31 : decode cX0_beginKeys 31 = .ok (.invokevirtual 103, 3) := by decide +kernel
theorem dX0_beginKeys_34 : decode cX0_beginKeys 34 = .ok (.return_, 1) := by decide +kernel
theorem dX0_countResult_0 : decode cX0_countResult 0 = .ok (.iload_n 1, 1) := by decide +kernel
theorem dX0_countResult_1 : decode cX0_countResult 1 = .ok (.ifCond .lt 19, 3) := by decide +kernel
theorem dX0_countResult_4 : decode cX0_countResult 4 = .ok (.iload_n 1, 1) := by decide +kernel
theorem dX0_countResult_5 : decode cX0_countResult 5 = .ok (.bipush 9, 2) := by decide +kernel
theorem dX0_countResult_7 : decode cX0_countResult 7 = .ok (.if_icmp .ge 13, 3) := by decide +kernel
theorem dX0_countResult_10 : decode cX0_countResult 10 = .ok (.aload_n 0, 1) := by decide +kernel
theorem dX0_countResult_11 : decode cX0_countResult 11 = .ok (.getfield 9, 3) := by decide +kernel
theorem dX0_countResult_14 : decode cX0_countResult 14 = .ok (.iload_n 1, 1) := by decide +kernel
theorem dX0_countResult_15 : decode cX0_countResult 15 = .ok (.dup2, 1) := by decide +kernel
theorem dX0_countResult_16 : decode cX0_countResult 16 = .ok (.iaload, 1) := by decide +kernel
theorem dX0_countResult_17 : decode cX0_countResult 17 = .ok (.iconst 1, 1) := by decide +kernel
theorem dX0_countResult_18 : decode cX0_countResult 18 = .ok (.iadd, 1) := by decide +kernel
theorem dX0_countResult_19 : decode cX0_countResult 19 = .ok (.iastore, 1) := by decide +kernel
theorem dX0_countResult_20 : decode cX0_countResult 20 = .ok (.return_, 1) := by decide +kernel
theorem dX0_takesKind_0 : decode cX0_takesKind 0 = .ok (.iload_n 1, 1) := by decide +kernel
theorem dX0_takesKind_1 : decode cX0_takesKind 1 = .ok (.tableswitch 122 0 6 #[43, 80, 80, 122, 122, 122, 101], 43) := by decide +kernel
theorem dX0_takesKind_44 : decode cX0_takesKind 44 = .ok (.aload_n 0, 1) := by decide +kernel
theorem dX0_takesKind_45 : decode cX0_takesKind 45 = .ok (.getfield 49, 3) := by decide +kernel
theorem dX0_takesKind_48 : decode cX0_takesKind 48 = .ok (.iconst 1, 1) := by decide +kernel
theorem dX0_takesKind_49 : decode cX0_takesKind 49 = .ok (.if_icmp .ne 30, 3) := by decide +kernel
theorem dX0_takesKind_52 : decode cX0_takesKind 52 = .ok (.aload_n 0, 1) := by decide +kernel
theorem dX0_takesKind_53 : decode cX0_takesKind 53 = .ok (.getfield 39, 3) := by decide +kernel
theorem dX0_takesKind_56 : decode cX0_takesKind 56 = .ok (.ifCond .eq 19, 3) := by decide +kernel
theorem dX0_takesKind_59 : decode cX0_takesKind 59 = .ok (.aload_n 0, 1) := by decide +kernel
theorem dX0_takesKind_60 : decode cX0_takesKind 60 = .ok (.getfield 39, 3) := by decide +kernel
theorem dX0_takesKind_63 : decode cX0_takesKind 63 = .ok (.iconst 2, 1) := by decide +kernel
theorem dX0_takesKind_64 : decode cX0_takesKind 64 = .ok (.if_icmp .eq 11, 3) := by decide +kernel
theorem dX0_takesKind_67 : decode cX0_takesKind 67 = .ok (.aload_n 0, 1) := by decide +kernel
theorem dX0_takesKind_68 : decode cX0_takesKind 68 = .ok (.getfield 39, 3) := by decide +kernel
theorem dX0_takesKind_71 : decode cX0_takesKind 71 = .ok (.iconst 4, 1) := by decide +kernel
theorem dX0_takesKind_72 : decode cX0_takesKind 72 = .ok (.if_icmp .ne 7, 3) := by decide +kernel
theorem dX0_takesKind_75 : decode cX0_takesKind 75 = .ok (.iconst 1, 1) := by decide +kernel
theorem dX0_takesKind_76 : decode cX0_takesKind 76 = .ok (.goto 4, 3) := by decide +kernel
theorem dX0_takesKind_79 : decode cX0_takesKind 79 = .ok (.iconst 0, 1) := by decide +kernel
theorem dX0_takesKind_80 : decode cX0_takesKind 80 = .ok (.ireturn, 1) := by decide +kernel
theorem dX0_takesKind_81 : decode cX0_takesKind 81 = .ok (.aload_n 0, 1) := by decide +kernel
theorem dX0_takesKind_82 : decode cX0_takesKind 82 = .ok (.getfield 49, 3) := by decide +kernel
theorem dX0_takesKind_85 : decode cX0_takesKind 85 = .ok (.ifCond .ne 15, 3) := by decide +kernel
theorem dX0_takesKind_88 : decode cX0_takesKind 88 = .ok (.aload_n 0, 1) := by decide +kernel
theorem dX0_takesKind_89 : decode cX0_takesKind 89 = .ok (.getfield 39, 3) := by decide +kernel
theorem dX0_takesKind_92 : decode cX0_takesKind 92 = .ok (.iconst 1, 1) := by decide +kernel
theorem dX0_takesKind_93 : decode cX0_takesKind 93 = .ok (.if_icmp .ne 7, 3) := by decide +kernel
theorem dX0_takesKind_96 : decode cX0_takesKind 96 = .ok (.iconst 1, 1) := by decide +kernel
theorem dX0_takesKind_97 : decode cX0_takesKind 97 = .ok (.goto 4, 3) := by decide +kernel
theorem dX0_takesKind_100 : decode cX0_takesKind 100 = .ok (.iconst 0, 1) := by decide +kernel
theorem dX0_takesKind_101 : decode cX0_takesKind 101 = .ok (.ireturn, 1) := by decide +kernel
theorem dX0_takesKind_102 : decode cX0_takesKind 102 = .ok (.aload_n 0, 1) := by decide +kernel
theorem dX0_takesKind_103 : decode cX0_takesKind 103 = .ok (.getfield 49, 3) := by decide +kernel
theorem dX0_takesKind_106 : decode cX0_takesKind 106 = .ok (.ifCond .ne 15, 3) := by decide +kernel
theorem dX0_takesKind_109 : decode cX0_takesKind 109 = .ok (.aload_n 0, 1) := by decide +kernel
theorem dX0_takesKind_110 : decode cX0_takesKind 110 = .ok (.getfield 39, 3) := by decide +kernel
theorem dX0_takesKind_113 : decode cX0_takesKind 113 = .ok (.iconst 3, 1) := by decide +kernel
theorem dX0_takesKind_114 : decode cX0_takesKind 114 = .ok (.if_icmp .ne 7, 3) := by decide +kernel
theorem dX0_takesKind_117 : decode cX0_takesKind 117 = .ok (.iconst 1, 1) := by decide +kernel
theorem dX0_takesKind_118 : decode cX0_takesKind 118 = .ok (.goto 4, 3) := by decide +kernel
theorem dX0_takesKind_121 : decode cX0_takesKind 121 = .ok (.iconst 0, 1) := by decide +kernel
theorem dX0_takesKind_122 : decode cX0_takesKind 122 = .ok (.ireturn, 1) := by decide +kernel
theorem dX0_takesKind_123 : decode cX0_takesKind 123 = .ok (.aload_n 0, 1) := by decide +kernel
theorem dX0_takesKind_124 : decode cX0_takesKind 124 = .ok (.getfield 39, 3) := by decide +kernel
theorem dX0_takesKind_127 : decode cX0_takesKind 127 = .ok (.iconst 3, 1) := by decide +kernel
theorem dX0_takesKind_128 : decode cX0_takesKind 128 = .ok (.if_icmp .eq 19, 3) := by decide +kernel
theorem dX0_takesKind_131 : decode cX0_takesKind 131 = .ok (.aload_n 0, 1) := by decide +kernel
theorem dX0_takesKind_132 : decode cX0_takesKind 132 = .ok (.getfield 39, 3) := by decide +kernel
theorem dX0_takesKind_135 : decode cX0_takesKind 135 = .ok (.iconst 2, 1) := by decide +kernel
theorem dX0_takesKind_136 : decode cX0_takesKind 136 = .ok (.if_icmp .eq 11, 3) := by decide +kernel
theorem dX0_takesKind_139 : decode cX0_takesKind 139 = .ok (.aload_n 0, 1) := by decide +kernel
theorem dX0_takesKind_140 : decode cX0_takesKind 140 = .ok (.getfield 39, 3) := by decide +kernel
theorem dX0_takesKind_143 : decode cX0_takesKind 143 = .ok (.iconst 4, 1) := by decide +kernel
theorem dX0_takesKind_144 : decode cX0_takesKind 144 = .ok (.if_icmp .ne 7, 3) := by decide +kernel
theorem dX0_takesKind_147 : decode cX0_takesKind 147 = .ok (.iconst 1, 1) := by decide +kernel
theorem dX0_takesKind_148 : decode cX0_takesKind 148 = .ok (.goto 4, 3) := by decide +kernel
theorem dX0_takesKind_151 : decode cX0_takesKind 151 = .ok (.iconst 0, 1) := by decide +kernel
theorem dX0_takesKind_152 : decode cX0_takesKind 152 = .ok (.ireturn, 1) := by decide +kernel
theorem dX0_takesEpoch_0 : decode cX0_takesEpoch 0 = .ok (.iload_n 1, 1) := by decide +kernel
theorem dX0_takesEpoch_1 : decode cX0_takesEpoch 1 = .ok (.aload_n 0, 1) := by decide +kernel
theorem dX0_takesEpoch_2 : decode cX0_takesEpoch 2 = .ok (.getfield 87, 3) := by decide +kernel
theorem dX0_takesEpoch_5 : decode cX0_takesEpoch 5 = .ok (.isub, 1) := by decide +kernel
theorem dX0_takesEpoch_6 : decode cX0_takesEpoch 6 = .ok (.istore_n 2, 1) := by decide +kernel
theorem dX0_takesEpoch_7 : decode cX0_takesEpoch 7 = .ok (.iload_n 2, 1) := by decide +kernel
theorem dX0_takesEpoch_8 : decode cX0_takesEpoch 8 = .ok (.ifCond .lt 8, 3) := by decide +kernel
theorem dX0_takesEpoch_11 : decode cX0_takesEpoch 11 = .ok (.iload_n 2, 1) := by decide +kernel
theorem dX0_takesEpoch_12 : decode cX0_takesEpoch 12 = .ok (.iconst 2, 1) := by decide +kernel
theorem dX0_takesEpoch_13 : decode cX0_takesEpoch 13 = .ok (.if_icmp .le 15, 3) := by decide +kernel
theorem dX0_takesEpoch_16 : decode cX0_takesEpoch 16 = .ok (.aload_n 0, 1) := by decide +kernel
theorem dX0_takesEpoch_17 : decode cX0_takesEpoch 17 = .ok (.getfield 68, 3) := by decide +kernel
theorem dX0_takesEpoch_20 : decode cX0_takesEpoch 20 = .ok (.ifCond .eq 12, 3) := by decide +kernel
theorem dX0_takesEpoch_23 : decode cX0_takesEpoch 23 = .ok (.iload_n 2, 1) := by decide +kernel
theorem dX0_takesEpoch_24 : decode cX0_takesEpoch 24 = .ok (.iconst (-1), 1) := by decide +kernel
theorem dX0_takesEpoch_25 : decode cX0_takesEpoch 25 = .ok (.if_icmp .ne 7, 3) := by decide +kernel
theorem dX0_takesEpoch_28 : decode cX0_takesEpoch 28 = .ok (.iconst 1, 1) := by decide +kernel
theorem dX0_takesEpoch_29 : decode cX0_takesEpoch 29 = .ok (.goto 4, 3) := by decide +kernel
theorem dX0_takesEpoch_32 : decode cX0_takesEpoch 32 = .ok (.iconst 0, 1) := by decide +kernel
theorem dX0_takesEpoch_33 : decode cX0_takesEpoch 33 = .ok (.ireturn, 1) := by decide +kernel
theorem dX0_windowOf_0 : decode cX0_windowOf 0 = .ok (.iload_n 1, 1) := by decide +kernel
theorem dX0_windowOf_1 : decode cX0_windowOf 1 = .ok (.aload_n 0, 1) := by decide +kernel
theorem dX0_windowOf_2 : decode cX0_windowOf 2 = .ok (.getfield 87, 3) := by decide +kernel
theorem dX0_windowOf_5 : decode cX0_windowOf 5 = .ok (.if_icmp .ne 10, 3) := by decide +kernel
theorem dX0_windowOf_8 : decode cX0_windowOf 8 = .ok (.aload_n 0, 1) := by decide +kernel
theorem dX0_windowOf_9 : decode cX0_windowOf 9 = .ok (.getfield 32, 3) := by decide +kernel
theorem dX0_windowOf_12 : decode cX0_windowOf 12 = .ok (.goto 7, 3) := by decide +kernel
theorem dX0_windowOf_15 : decode cX0_windowOf 15 = .ok (.aload_n 0, 1) := by decide +kernel
theorem dX0_windowOf_16 : decode cX0_windowOf 16 = .ok (.getfield 36, 3) := by decide +kernel
theorem dX0_windowOf_19 : decode cX0_windowOf 19 = .ok (.areturn, 1) := by decide +kernel
theorem dX0_enterInWindow_0 : decode cX0_enterInWindow 0 = .ok (.iload_n 1, 1) := by decide +kernel
theorem dX0_enterInWindow_1 : decode cX0_enterInWindow 1 = .ok (.aload_n 0, 1) := by decide +kernel
theorem dX0_enterInWindow_2 : decode cX0_enterInWindow 2 = .ok (.getfield 87, 3) := by decide +kernel
theorem dX0_enterInWindow_5 : decode cX0_enterInWindow 5 = .ok (.if_icmp .le 53, 3) := by decide +kernel
theorem dX0_enterInWindow_8 : decode cX0_enterInWindow 8 = .ok (.aload_n 0, 1) := by decide +kernel
theorem dX0_enterInWindow_9 : decode cX0_enterInWindow 9 = .ok (.iload_n 1, 1) := by decide +kernel
theorem dX0_enterInWindow_10 : decode cX0_enterInWindow 10 = .ok (.aload_n 0, 1) := by decide +kernel
theorem dX0_enterInWindow_11 : decode cX0_enterInWindow 11 = .ok (.getfield 87, 3) := by decide +kernel
theorem dX0_enterInWindow_14 : decode cX0_enterInWindow 14 = .ok (.isub, 1) := by decide +kernel
theorem dX0_enterInWindow_15 : decode cX0_enterInWindow 15 = .ok (.iconst 1, 1) := by decide +kernel
theorem dX0_enterInWindow_16 : decode cX0_enterInWindow 16 = .ok (.if_icmp .ne 7, 3) := by decide +kernel
theorem dX0_enterInWindow_19 : decode cX0_enterInWindow 19 = .ok (.iconst 1, 1) := by decide +kernel
theorem dX0_enterInWindow_20 : decode cX0_enterInWindow 20 = .ok (.goto 4, 3) := by decide +kernel
theorem dX0_enterInWindow_23 : decode cX0_enterInWindow 23 = .ok (.iconst 0, 1) := by decide +kernel
theorem dX0_enterInWindow_24 : decode cX0_enterInWindow 24 = .ok (.putfield 68, 3) := by decide +kernel
theorem dX0_enterInWindow_27 : decode cX0_enterInWindow 27 = .ok (.aload_n 0, 1) := by decide +kernel
theorem dX0_enterInWindow_28 : decode cX0_enterInWindow 28 = .ok (.getfield 36, 3) := by decide +kernel
theorem dX0_enterInWindow_31 : decode cX0_enterInWindow 31 = .ok (.aload_n 0, 1) := by decide +kernel
theorem dX0_enterInWindow_32 : decode cX0_enterInWindow 32 = .ok (.getfield 32, 3) := by decide +kernel
theorem dX0_enterInWindow_35 : decode cX0_enterInWindow 35 = .ok (.invokevirtual 65, 3) := by decide +kernel
theorem dX0_enterInWindow_38 : decode cX0_enterInWindow 38 = .ok (.aload_n 0, 1) := by decide +kernel
theorem dX0_enterInWindow_39 : decode cX0_enterInWindow 39 = .ok (.iconst 4, 1) := by decide +kernel
theorem dX0_enterInWindow_40 : decode cX0_enterInWindow 40 = .ok (.putfield 72, 3) := by decide +kernel
theorem dX0_enterInWindow_43 : decode cX0_enterInWindow 43 = .ok (.aload_n 0, 1) := by decide +kernel
theorem dX0_enterInWindow_44 : decode cX0_enterInWindow 44 = .ok (.iload_n 1, 1) := by decide +kernel
theorem dX0_enterInWindow_45 : decode cX0_enterInWindow 45 = .ok (.putfield 87, 3) := by decide +kernel
theorem dX0_enterInWindow_48 : decode cX0_enterInWindow 48 = .ok (.aload_n 0, 1) := by decide +kernel
theorem dX0_enterInWindow_49 : decode cX0_enterInWindow 49 = .ok (.getfield 32, 3) := by decide +kernel
theorem dX0_enterInWindow_52 : decode cX0_enterInWindow 52 = .ok (.invokevirtual 100, 3) := by decide +kernel
theorem dX0_enterInWindow_55 : decode cX0_enterInWindow 55 = .ok (.goto 44, 3) := by decide +kernel
theorem dX0_enterInWindow_58 : decode cX0_enterInWindow 58 = .ok (.iload_n 1, 1) := by decide +kernel
theorem dX0_enterInWindow_59 : decode cX0_enterInWindow 59 = .ok (.aload_n 0, 1) := by decide +kernel
theorem dX0_enterInWindow_60 : decode cX0_enterInWindow 60 = .ok (.getfield 87, 3) := by decide +kernel
theorem dX0_enterInWindow_63 : decode cX0_enterInWindow 63 = .ok (.if_icmp .ne 36, 3) := by decide +kernel
theorem dX0_enterInWindow_66 : decode cX0_enterInWindow 66 = .ok (.aload_n 0, 1) := by decide +kernel
theorem dX0_enterInWindow_67 : decode cX0_enterInWindow 67 = .ok (.getfield 68, 3) := by decide +kernel
theorem dX0_enterInWindow_70 : decode cX0_enterInWindow 70 = .ok (.ifCond .eq 29, 3) := by decide +kernel
theorem dX0_enterInWindow_73 : decode cX0_enterInWindow 73 = .ok (.aload_n 0, 1) := by decide +kernel
theorem dX0_enterInWindow_74 : decode cX0_enterInWindow 74 = .ok (.dup, 1) := by decide +kernel
theorem dX0_enterInWindow_75 : decode cX0_enterInWindow 75 = .ok (.getfield 72, 3) := by decide +kernel
theorem dX0_enterInWindow_78 : decode cX0_enterInWindow 78 = .ok (.iconst 1, 1) := by decide +kernel
theorem dX0_enterInWindow_79 : decode cX0_enterInWindow 79 = .ok (.isub, 1) := by decide +kernel
theorem dX0_enterInWindow_80 : decode cX0_enterInWindow 80 = .ok (.putfield 72, 3) := by decide +kernel
theorem dX0_enterInWindow_83 : decode cX0_enterInWindow 83 = .ok (.aload_n 0, 1) := by decide +kernel
theorem dX0_enterInWindow_84 : decode cX0_enterInWindow 84 = .ok (.aload_n 0, 1) := by decide +kernel
theorem dX0_enterInWindow_85 : decode cX0_enterInWindow 85 = .ok (.getfield 72, 3) := by decide +kernel
theorem dX0_enterInWindow_88 : decode cX0_enterInWindow 88 = .ok (.ifCond .le 7, 3) := by decide +kernel
theorem dX0_enterInWindow_91 : decode cX0_enterInWindow 91 = .ok (.iconst 1, 1) := by decide +kernel
theorem dX0_enterInWindow_92 : decode cX0_enterInWindow 92 = .ok (.goto 4, 3) := by decide +kernel
theorem dX0_enterInWindow_95 : decode cX0_enterInWindow 95 = .ok (.iconst 0, 1) := by decide +kernel
theorem dX0_enterInWindow_96 : decode cX0_enterInWindow 96 = .ok (.putfield 68, 3) := by decide +kernel
theorem dX0_enterInWindow_99 : decode cX0_enterInWindow 99 = .ok (.aload_n 0, 1) := by decide +kernel
theorem dX0_enterInWindow_100 : decode cX0_enterInWindow 100 = .ok (.iload_n 1, 1) := by decide +kernel
theorem dX0_enterInWindow_101 : decode cX0_enterInWindow 101 = .ok (.invokevirtual 106, 3) := by decide +kernel
theorem dX0_enterInWindow_104 : decode cX0_enterInWindow 104 = .ok (.iload_n 2, 1) := by decide +kernel
theorem dX0_enterInWindow_105 : decode cX0_enterInWindow 105 = .ok (.invokevirtual 110, 3) := by decide +kernel
theorem dX0_enterInWindow_108 : decode cX0_enterInWindow 108 = .ok (.return_, 1) := by decide +kernel
theorem dX0_hasEnded_0 : decode cX0_hasEnded 0 = .ok (.aload_n 0, 1) := by decide +kernel
theorem dX0_hasEnded_1 : decode cX0_hasEnded 1 = .ok (.getfield 25, 3) := by decide +kernel
theorem dX0_hasEnded_4 : decode cX0_hasEnded 4 = .ok (.getfield 114, 3) := by decide +kernel
theorem dX0_hasEnded_7 : decode cX0_hasEnded 7 = .ok (.iconst (-1), 1) := by decide +kernel
theorem dX0_hasEnded_8 : decode cX0_hasEnded 8 = .ok (.if_icmp .eq 17, 3) := by decide +kernel
theorem dX0_hasEnded_11 : decode cX0_hasEnded 11 = .ok (.aload_n 0, 1) := by decide +kernel
theorem dX0_hasEnded_12 : decode cX0_hasEnded 12 = .ok (.getfield 18, 3) := by decide +kernel
theorem dX0_hasEnded_15 : decode cX0_hasEnded 15 = .ok (.invokevirtual 117, 3) := by decide +kernel
theorem dX0_hasEnded_18 : decode cX0_hasEnded 18 = .ok (.ifCond .eq 7, 3) := by decide +kernel
theorem dX0_hasEnded_21 : decode cX0_hasEnded 21 = .ok (.iconst 1, 1) := by decide +kernel
theorem dX0_hasEnded_22 : decode cX0_hasEnded 22 = .ok (.goto 4, 3) := by decide +kernel
theorem dX0_hasEnded_25 : decode cX0_hasEnded 25 = .ok (.iconst 0, 1) := by decide +kernel
theorem dX0_hasEnded_26 : decode cX0_hasEnded 26 = .ok (.ireturn, 1) := by decide +kernel
theorem dX0_part_0 : decode cX0_part 0 = .ok (.iload_n 1, 1) := by decide +kernel
theorem dX0_part_1 : decode cX0_part 1 = .ok (.tableswitch 143 0 11 #[63, 68, 73, 78, 83, 88, 96, 104, 112, 120, 125, 138], 63) := by decide +kernel
theorem dX0_part_64 : decode cX0_part 64 = .ok (.aload_n 0, 1) := by decide +kernel
theorem dX0_part_65 : decode cX0_part 65 = .ok (.getfield 39, 3) := by decide +kernel
theorem dX0_part_68 : decode cX0_part 68 = .ok (.ireturn, 1) := by decide +kernel
theorem dX0_part_69 : decode cX0_part 69 = .ok (.aload_n 0, 1) := by decide +kernel
theorem dX0_part_70 : decode cX0_part 70 = .ok (.getfield 75, 3) := by decide +kernel
theorem dX0_part_73 : decode cX0_part 73 = .ok (.ireturn, 1) := by decide +kernel
theorem dX0_part_74 : decode cX0_part 74 = .ok (.aload_n 0, 1) := by decide +kernel
theorem dX0_part_75 : decode cX0_part 75 = .ok (.getfield 81, 3) := by decide +kernel
theorem dX0_part_78 : decode cX0_part 78 = .ok (.ireturn, 1) := by decide +kernel
theorem dX0_part_79 : decode cX0_part 79 = .ok (.aload_n 0, 1) := by decide +kernel
theorem dX0_part_80 : decode cX0_part 80 = .ok (.getfield 84, 3) := by decide +kernel
theorem dX0_part_83 : decode cX0_part 83 = .ok (.ireturn, 1) := by decide +kernel
theorem dX0_part_84 : decode cX0_part 84 = .ok (.aload_n 0, 1) := by decide +kernel
theorem dX0_part_85 : decode cX0_part 85 = .ok (.getfield 87, 3) := by decide +kernel
theorem dX0_part_88 : decode cX0_part 88 = .ok (.ireturn, 1) := by decide +kernel
theorem dX0_part_89 : decode cX0_part 89 = .ok (.aload_n 0, 1) := by decide +kernel
theorem dX0_part_90 : decode cX0_part 90 = .ok (.getfield 18, 3) := by decide +kernel
theorem dX0_part_93 : decode cX0_part 93 = .ok (.getfield 121, 3) := by decide +kernel
theorem dX0_part_96 : decode cX0_part 96 = .ok (.ireturn, 1) := by decide +kernel
theorem dX0_part_97 : decode cX0_part 97 = .ok (.aload_n 0, 1) := by decide +kernel
theorem dX0_part_98 : decode cX0_part 98 = .ok (.getfield 25, 3) := by decide +kernel
theorem dX0_part_101 : decode cX0_part 101 = .ok (.getfield 124, 3) := by decide +kernel
theorem dX0_part_104 : decode cX0_part 104 = .ok (.ireturn, 1) := by decide +kernel
theorem dX0_part_105 : decode cX0_part 105 = .ok (.aload_n 0, 1) := by decide +kernel
theorem dX0_part_106 : decode cX0_part 106 = .ok (.getfield 25, 3) := by decide +kernel
theorem dX0_part_109 : decode cX0_part 109 = .ok (.invokevirtual 127, 3) := by decide +kernel
theorem dX0_part_112 : decode cX0_part 112 = .ok (.ireturn, 1) := by decide +kernel
theorem dX0_part_113 : decode cX0_part 113 = .ok (.aload_n 0, 1) := by decide +kernel
theorem dX0_part_114 : decode cX0_part 114 = .ok (.getfield 25, 3) := by decide +kernel
theorem dX0_part_117 : decode cX0_part 117 = .ok (.getfield 131, 3) := by decide +kernel
theorem dX0_part_120 : decode cX0_part 120 = .ok (.ireturn, 1) := by decide +kernel
theorem dX0_part_121 : decode cX0_part 121 = .ok (.aload_n 0, 1) := by decide +kernel
theorem dX0_part_122 : decode cX0_part 122 = .ok (.getfield 78, 3) := by decide +kernel
theorem dX0_part_125 : decode cX0_part 125 = .ok (.ireturn, 1) := by decide +kernel
theorem dX0_part_126 : decode cX0_part 126 = .ok (.aload_n 0, 1) := by decide +kernel
theorem dX0_part_127 : decode cX0_part 127 = .ok (.getfield 68, 3) := by decide +kernel
theorem dX0_part_130 : decode cX0_part 130 = .ok (.ifCond .eq 7, 3) := by decide +kernel
theorem dX0_part_133 : decode cX0_part 133 = .ok (.iconst 1, 1) := by decide +kernel
theorem dX0_part_134 : decode cX0_part 134 = .ok (.goto 4, 3) := by decide +kernel
theorem dX0_part_137 : decode cX0_part 137 = .ok (.iconst 0, 1) := by decide +kernel
theorem dX0_part_138 : decode cX0_part 138 = .ok (.ireturn, 1) := by decide +kernel
theorem dX0_part_139 : decode cX0_part 139 = .ok (.aload_n 0, 1) := by decide +kernel
theorem dX0_part_140 : decode cX0_part 140 = .ok (.getfield 43, 3) := by decide +kernel
theorem dX0_part_143 : decode cX0_part 143 = .ok (.ireturn, 1) := by decide +kernel
theorem dX0_part_144 : decode cX0_part 144 = .ok (.ldc 134, 2) := by decide +kernel
theorem dX0_part_146 : decode cX0_part 146 = .ok (.ireturn, 1) := by decide +kernel
theorem dX1_init_0 : decode cX1_init 0 = .ok (.aload_n 0, 1) := by decide +kernel
theorem dX1_init_1 : decode cX1_init 1 = .ok (.invokespecial 3, 3) := by decide +kernel
theorem dX1_init_4 : decode cX1_init 4 = .ok (.aload_n 0, 1) := by decide +kernel
theorem dX1_init_5 : decode cX1_init 5 = .ok (.sipush 512, 3) := by decide +kernel
theorem dX1_init_8 : decode cX1_init 8 = .ok (.newarray .int, 2) := by decide +kernel
theorem dX1_init_10 : decode cX1_init 10 = .ok (.putfield 9, 3) := by decide +kernel
theorem dX1_init_13 : decode cX1_init 13 = .ok (.aload_n 0, 1) := by decide +kernel
theorem dX1_init_14 : decode cX1_init 14 = .ok (.iconst 4, 1) := by decide +kernel
theorem dX1_init_15 : decode cX1_init 15 = .ok (.newarray .boolean, 2) := by decide +kernel
theorem dX1_init_17 : decode cX1_init 17 = .ok (.putfield 15, 3) := by decide +kernel
theorem dX1_init_20 : decode cX1_init 20 = .ok (.aload_n 0, 1) := by decide +kernel
theorem dX1_init_21 : decode cX1_init 21 = .ok (.iconst 4, 1) := by decide +kernel
theorem dX1_init_22 : decode cX1_init 22 = .ok (.newarray .boolean, 2) := by decide +kernel
theorem dX1_init_24 : decode cX1_init 24 = .ok (.putfield 19, 3) := by decide +kernel
theorem dX1_init_27 : decode cX1_init 27 = .ok (.aload_n 0, 1) := by decide +kernel
theorem dX1_init_28 : decode cX1_init 28 = .ok (.iconst 4, 1) := by decide +kernel
theorem dX1_init_29 : decode cX1_init 29 = .ok (.newarray .int, 2) := by decide +kernel
theorem dX1_init_31 : decode cX1_init 31 = .ok (.putfield 22, 3) := by decide +kernel
theorem dX1_init_34 : decode cX1_init 34 = .ok (.aload_n 0, 1) := by decide +kernel
theorem dX1_init_35 : decode cX1_init 35 = .ok (.iconst (-1), 1) := by decide +kernel
theorem dX1_init_36 : decode cX1_init 36 = .ok (.putfield 25, 3) := by decide +kernel
theorem dX1_init_39 : decode cX1_init 39 = .ok (.return_, 1) := by decide +kernel
theorem dX1_begin_0 : decode cX1_begin 0 = .ok (.aload_n 0, 1) := by decide +kernel
theorem dX1_begin_1 : decode cX1_begin 1 = .ok (.iconst 0, 1) := by decide +kernel
theorem dX1_begin_2 : decode cX1_begin 2 = .ok (.putfield 29, 3) := by decide +kernel
theorem dX1_begin_5 : decode cX1_begin 5 = .ok (.aload_n 0, 1) := by decide +kernel
theorem dX1_begin_6 : decode cX1_begin 6 = .ok (.iconst 0, 1) := by decide +kernel
theorem dX1_begin_7 : decode cX1_begin 7 = .ok (.putfield 32, 3) := by decide +kernel
theorem dX1_begin_10 : decode cX1_begin 10 = .ok (.aload_n 0, 1) := by decide +kernel
theorem dX1_begin_11 : decode cX1_begin 11 = .ok (.iconst (-1), 1) := by decide +kernel
theorem dX1_begin_12 : decode cX1_begin 12 = .ok (.putfield 25, 3) := by decide +kernel
theorem dX1_begin_15 : decode cX1_begin 15 = .ok (.aload_n 0, 1) := by decide +kernel
theorem dX1_begin_16 : decode cX1_begin 16 = .ok (.invokevirtual 35, 3) := by decide +kernel
theorem dX1_begin_19 : decode cX1_begin 19 = .ok (.return_, 1) := by decide +kernel
theorem dX1_copyFrom_0 : decode cX1_copyFrom 0 = .ok (.aload_n 1, 1) := by decide +kernel
theorem dX1_copyFrom_1 : decode cX1_copyFrom 1 = .ok (.getfield 9, 3) := by decide +kernel
theorem dX1_copyFrom_4 : decode cX1_copyFrom 4 = .ok (.iconst 0, 1) := by decide +kernel
theorem dX1_copyFrom_5 : decode cX1_copyFrom 5 = .ok (.aload_n 0, 1) := by decide +kernel
theorem dX1_copyFrom_6 : decode cX1_copyFrom 6 = .ok (.getfield 9, 3) := by decide +kernel
theorem dX1_copyFrom_9 : decode cX1_copyFrom 9 = .ok (.iconst 0, 1) := by decide +kernel
theorem dX1_copyFrom_10 : decode cX1_copyFrom 10 = .ok (.sipush 512, 3) := by decide +kernel
theorem dX1_copyFrom_13 : decode cX1_copyFrom 13 = .ok (.invokestatic 38, 3) := by decide +kernel
theorem dX1_copyFrom_16 : decode cX1_copyFrom 16 = .ok (.iconst 0, 1) := by decide +kernel
theorem dX1_copyFrom_17 : decode cX1_copyFrom 17 = .ok (.istore_n 2, 1) := by decide +kernel
theorem dX1_copyFrom_18 : decode cX1_copyFrom 18 = .ok (.iload_n 2, 1) := by decide +kernel
theorem dX1_copyFrom_19 : decode cX1_copyFrom 19 = .ok (.iconst 4, 1) := by decide +kernel
theorem dX1_copyFrom_20 : decode cX1_copyFrom 20 = .ok (.if_icmp .ge 45, 3) := by decide +kernel
theorem dX1_copyFrom_23 : decode cX1_copyFrom 23 = .ok (.aload_n 0, 1) := by decide +kernel
theorem dX1_copyFrom_24 : decode cX1_copyFrom 24 = .ok (.getfield 15, 3) := by decide +kernel
theorem dX1_copyFrom_27 : decode cX1_copyFrom 27 = .ok (.iload_n 2, 1) := by decide +kernel
theorem dX1_copyFrom_28 : decode cX1_copyFrom 28 = .ok (.aload_n 1, 1) := by decide +kernel
theorem dX1_copyFrom_29 : decode cX1_copyFrom 29 = .ok (.getfield 15, 3) := by decide +kernel
theorem dX1_copyFrom_32 : decode cX1_copyFrom 32 = .ok (.iload_n 2, 1) := by decide +kernel
theorem dX1_copyFrom_33 : decode cX1_copyFrom 33 = .ok (.baload, 1) := by decide +kernel
theorem dX1_copyFrom_34 : decode cX1_copyFrom 34 = .ok (.bastore, 1) := by decide +kernel
theorem dX1_copyFrom_35 : decode cX1_copyFrom 35 = .ok (.aload_n 0, 1) := by decide +kernel
theorem dX1_copyFrom_36 : decode cX1_copyFrom 36 = .ok (.getfield 19, 3) := by decide +kernel
theorem dX1_copyFrom_39 : decode cX1_copyFrom 39 = .ok (.iload_n 2, 1) := by decide +kernel
theorem dX1_copyFrom_40 : decode cX1_copyFrom 40 = .ok (.aload_n 1, 1) := by decide +kernel
theorem dX1_copyFrom_41 : decode cX1_copyFrom 41 = .ok (.getfield 19, 3) := by decide +kernel
theorem dX1_copyFrom_44 : decode cX1_copyFrom 44 = .ok (.iload_n 2, 1) := by decide +kernel
theorem dX1_copyFrom_45 : decode cX1_copyFrom 45 = .ok (.baload, 1) := by decide +kernel
theorem dX1_copyFrom_46 : decode cX1_copyFrom 46 = .ok (.bastore, 1) := by decide +kernel
theorem dX1_copyFrom_47 : decode cX1_copyFrom 47 = .ok (.aload_n 0, 1) := by decide +kernel
theorem dX1_copyFrom_48 : decode cX1_copyFrom 48 = .ok (.getfield 22, 3) := by decide +kernel
theorem dX1_copyFrom_51 : decode cX1_copyFrom 51 = .ok (.iload_n 2, 1) := by decide +kernel
theorem dX1_copyFrom_52 : decode cX1_copyFrom 52 = .ok (.aload_n 1, 1) := by decide +kernel
theorem dX1_copyFrom_53 : decode cX1_copyFrom 53 = .ok (.getfield 22, 3) := by decide +kernel
theorem dX1_copyFrom_56 : decode cX1_copyFrom 56 = .ok (.iload_n 2, 1) := by decide +kernel
theorem dX1_copyFrom_57 : decode cX1_copyFrom 57 = .ok (.iaload, 1) := by decide +kernel
theorem dX1_copyFrom_58 : decode cX1_copyFrom 58 = .ok (.iastore, 1) := by decide +kernel
theorem dX1_copyFrom_59 : decode cX1_copyFrom 59 = .ok (.iinc 2 1, 3) := by decide +kernel
theorem dX1_copyFrom_62 : decode cX1_copyFrom 62 = .ok (.goto (-44), 3) := by decide +kernel
theorem dX1_copyFrom_65 : decode cX1_copyFrom 65 = .ok (.aload_n 0, 1) := by decide +kernel
theorem dX1_copyFrom_66 : decode cX1_copyFrom 66 = .ok (.aload_n 1, 1) := by decide +kernel
theorem dX1_copyFrom_67 : decode cX1_copyFrom 67 = .ok (.getfield 29, 3) := by decide +kernel
theorem dX1_copyFrom_70 : decode cX1_copyFrom 70 = .ok (.putfield 29, 3) := by decide +kernel
theorem dX1_copyFrom_73 : decode cX1_copyFrom 73 = .ok (.aload_n 0, 1) := by decide +kernel
theorem dX1_copyFrom_74 : decode cX1_copyFrom 74 = .ok (.aload_n 1, 1) := by decide +kernel
theorem dX1_copyFrom_75 : decode cX1_copyFrom 75 = .ok (.getfield 32, 3) := by decide +kernel
theorem dX1_copyFrom_78 : decode cX1_copyFrom 78 = .ok (.putfield 32, 3) := by decide +kernel
theorem dX1_copyFrom_81 : decode cX1_copyFrom 81 = .ok (.aload_n 0, 1) := by decide +kernel
theorem dX1_copyFrom_82 : decode cX1_copyFrom 82 = .ok (.aload_n 1, 1) := by decide +kernel
theorem dX1_copyFrom_83 : decode cX1_copyFrom 83 = .ok (.getfield 25, 3) := by decide +kernel
theorem dX1_copyFrom_86 : decode cX1_copyFrom 86 = .ok (.putfield 25, 3) := by decide +kernel
theorem dX1_copyFrom_89 : decode cX1_copyFrom 89 = .ok (.return_, 1) := by decide +kernel
theorem dX1_discardWaiting_0 : decode cX1_discardWaiting 0 = .ok (.iconst 0, 1) := by decide +kernel
theorem dX1_discardWaiting_1 : decode cX1_discardWaiting 1 = .ok (.istore_n 1, 1) := by decide +kernel
theorem dX1_discardWaiting_2 : decode cX1_discardWaiting 2 = .ok (.iload_n 1, 1) := by decide +kernel
theorem dX1_discardWaiting_3 : decode cX1_discardWaiting 3 = .ok (.iconst 4, 1) := by decide +kernel
theorem dX1_discardWaiting_4 : decode cX1_discardWaiting 4 = .ok (.if_icmp .ge 16, 3) := by decide +kernel
theorem dX1_discardWaiting_7 : decode cX1_discardWaiting 7 = .ok (.aload_n 0, 1) := by decide +kernel
theorem dX1_discardWaiting_8 : decode cX1_discardWaiting 8 = .ok (.getfield 15, 3) := by decide +kernel
theorem dX1_discardWaiting_11 : decode cX1_discardWaiting 11 = .ok (.iload_n 1, 1) := by decide +kernel
theorem dX1_discardWaiting_12 : decode cX1_discardWaiting 12 = .ok (.iconst 0, 1) := by decide +kernel
theorem dX1_discardWaiting_13 : decode cX1_discardWaiting 13 = .ok (.bastore, 1) := by decide +kernel
theorem dX1_discardWaiting_14 : decode cX1_discardWaiting 14 = .ok (.iinc 1 1, 3) := by decide +kernel
theorem dX1_discardWaiting_17 : decode cX1_discardWaiting 17 = .ok (.goto (-15), 3) := by decide +kernel
theorem dX1_discardWaiting_20 : decode cX1_discardWaiting 20 = .ok (.return_, 1) := by decide +kernel
theorem dX1_waitingCount_0 : decode cX1_waitingCount 0 = .ok (.iconst 0, 1) := by decide +kernel
theorem dX1_waitingCount_1 : decode cX1_waitingCount 1 = .ok (.istore_n 1, 1) := by decide +kernel
theorem dX1_waitingCount_2 : decode cX1_waitingCount 2 = .ok (.iconst 0, 1) := by decide +kernel
theorem dX1_waitingCount_3 : decode cX1_waitingCount 3 = .ok (.istore_n 2, 1) := by decide +kernel
theorem dX1_waitingCount_4 : decode cX1_waitingCount 4 = .ok (.iload_n 2, 1) := by decide +kernel
theorem dX1_waitingCount_5 : decode cX1_waitingCount 5 = .ok (.iconst 4, 1) := by decide +kernel
theorem dX1_waitingCount_6 : decode cX1_waitingCount 6 = .ok (.if_icmp .ge 26, 3) := by decide +kernel
theorem dX1_waitingCount_9 : decode cX1_waitingCount 9 = .ok (.iload_n 1, 1) := by decide +kernel
theorem dX1_waitingCount_10 : decode cX1_waitingCount 10 = .ok (.aload_n 0, 1) := by decide +kernel
theorem dX1_waitingCount_11 : decode cX1_waitingCount 11 = .ok (.getfield 15, 3) := by decide +kernel
theorem dX1_waitingCount_14 : decode cX1_waitingCount 14 = .ok (.iload_n 2, 1) := by decide +kernel
theorem dX1_waitingCount_15 : decode cX1_waitingCount 15 = .ok (.baload, 1) := by decide +kernel
theorem dX1_waitingCount_16 : decode cX1_waitingCount 16 = .ok (.ifCond .eq 7, 3) := by decide +kernel
theorem dX1_waitingCount_19 : decode cX1_waitingCount 19 = .ok (.iconst 1, 1) := by decide +kernel
theorem dX1_waitingCount_20 : decode cX1_waitingCount 20 = .ok (.goto 4, 3) := by decide +kernel
theorem dX1_waitingCount_23 : decode cX1_waitingCount 23 = .ok (.iconst 0, 1) := by decide +kernel
theorem dX1_waitingCount_24 : decode cX1_waitingCount 24 = .ok (.iadd, 1) := by decide +kernel
theorem dX1_waitingCount_25 : decode cX1_waitingCount 25 = .ok (.istore_n 1, 1) := by decide +kernel
theorem dX1_waitingCount_26 : decode cX1_waitingCount 26 = .ok (.iinc 2 1, 3) := by decide +kernel
theorem dX1_waitingCount_29 : decode cX1_waitingCount 29 = .ok (.goto (-25), 3) := by decide +kernel
theorem dX1_waitingCount_32 : decode cX1_waitingCount 32 = .ok (.iload_n 1, 1) := by decide +kernel
theorem dX1_waitingCount_33 : decode cX1_waitingCount 33 = .ok (.ireturn, 1) := by decide +kernel
theorem dX1_isAfterClose_0 : decode cX1_isAfterClose 0 = .ok (.aload_n 0, 1) := by decide +kernel
theorem dX1_isAfterClose_1 : decode cX1_isAfterClose 1 = .ok (.getfield 25, 3) := by decide +kernel
theorem dX1_isAfterClose_4 : decode cX1_isAfterClose 4 = .ok (.iconst (-1), 1) := by decide +kernel
theorem dX1_isAfterClose_5 : decode cX1_isAfterClose 5 = .ok (.if_icmp .eq 15, 3) := by decide +kernel
theorem dX1_isAfterClose_8 : decode cX1_isAfterClose 8 = .ok (.iload_n 1, 1) := by decide +kernel
theorem dX1_isAfterClose_9 : decode cX1_isAfterClose 9 = .ok (.aload_n 0, 1) := by decide +kernel
theorem dX1_isAfterClose_10 : decode cX1_isAfterClose 10 = .ok (.getfield 25, 3) := by decide +kernel
theorem dX1_isAfterClose_13 : decode cX1_isAfterClose 13 = .ok (.if_icmp .le 7, 3) := by decide +kernel
theorem dX1_isAfterClose_16 : decode cX1_isAfterClose 16 = .ok (.iconst 1, 1) := by decide +kernel
theorem dX1_isAfterClose_17 : decode cX1_isAfterClose 17 = .ok (.goto 4, 3) := by decide +kernel
theorem dX1_isAfterClose_20 : decode cX1_isAfterClose 20 = .ok (.iconst 0, 1) := by decide +kernel
theorem dX1_isAfterClose_21 : decode cX1_isAfterClose 21 = .ok (.ireturn, 1) := by decide +kernel
theorem dX1_take_0 : decode cX1_take 0 = .ok (.aload_n 0, 1) := by decide +kernel
theorem dX1_take_1 : decode cX1_take 1 = .ok (.getfield 25, 3) := by decide +kernel
theorem dX1_take_4 : decode cX1_take 4 = .ok (.iconst (-1), 1) := by decide +kernel
theorem dX1_take_5 : decode cX1_take 5 = .ok (.if_icmp .ne 21, 3) := by decide +kernel
theorem dX1_take_8 : decode cX1_take 8 = .ok (.iload_n 1, 1) := by decide +kernel
theorem dX1_take_9 : decode cX1_take 9 = .ok (.aload_n 0, 1) := by decide +kernel
theorem dX1_take_10 : decode cX1_take 10 = .ok (.getfield 32, 3) := by decide +kernel
theorem dX1_take_13 : decode cX1_take 13 = .ok (.if_icmp .lt 13, 3) := by decide +kernel
theorem dX1_take_16 : decode cX1_take 16 = .ok (.iload_n 1, 1) := by decide +kernel
theorem dX1_take_17 : decode cX1_take 17 = .ok (.aload_n 0, 1) := by decide +kernel
theorem dX1_take_18 : decode cX1_take 18 = .ok (.getfield 32, 3) := by decide +kernel
theorem dX1_take_21 : decode cX1_take 21 = .ok (.iconst 4, 1) := by decide +kernel
theorem dX1_take_22 : decode cX1_take 22 = .ok (.iadd, 1) := by decide +kernel
theorem dX1_take_23 : decode cX1_take 23 = .ok (.if_icmp .lt 4, 3) := by decide +kernel
theorem dX1_take_26 : decode cX1_take 26 = .ok (.return_, 1) := by decide +kernel
theorem dX1_take_27 : decode cX1_take 27 = .ok (.iload_n 1, 1) := by decide +kernel
theorem dX1_take_28 : decode cX1_take 28 = .ok (.iconst 3, 1) := by decide +kernel
theorem dX1_take_29 : decode cX1_take 29 = .ok (.iand, 1) := by decide +kernel
theorem dX1_take_30 : decode cX1_take 30 = .ok (.istore 4, 2) := by decide +kernel
theorem dX1_take_32 : decode cX1_take 32 = .ok (.aload_n 0, 1) := by decide +kernel
theorem dX1_take_33 : decode cX1_take 33 = .ok (.getfield 15, 3) := by decide +kernel
theorem dX1_take_36 : decode cX1_take 36 = .ok (.iload 4, 2) := by decide +kernel
theorem dX1_take_38 : decode cX1_take 38 = .ok (.baload, 1) := by decide +kernel
theorem dX1_take_39 : decode cX1_take 39 = .ok (.ifCond .ne 27, 3) := by decide +kernel
theorem dX1_take_42 : decode cX1_take 42 = .ok (.aload_n 0, 1) := by decide +kernel
theorem dX1_take_43 : decode cX1_take 43 = .ok (.getfield 15, 3) := by decide +kernel
theorem dX1_take_46 : decode cX1_take 46 = .ok (.iload 4, 2) := by decide +kernel
theorem dX1_take_48 : decode cX1_take 48 = .ok (.iconst 1, 1) := by decide +kernel
theorem dX1_take_49 : decode cX1_take 49 = .ok (.bastore, 1) := by decide +kernel
theorem dX1_take_50 : decode cX1_take 50 = .ok (.aload_n 0, 1) := by decide +kernel
theorem dX1_take_51 : decode cX1_take 51 = .ok (.getfield 22, 3) := by decide +kernel
theorem dX1_take_54 : decode cX1_take 54 = .ok (.iload 4, 2) := by decide +kernel
theorem dX1_take_56 : decode cX1_take 56 = .ok (.iload_n 2, 1) := by decide +kernel
theorem dX1_take_57 : decode cX1_take 57 = .ok (.iastore, 1) := by decide +kernel
theorem dX1_take_58 : decode cX1_take 58 = .ok (.aload_n 0, 1) := by decide +kernel
theorem dX1_take_59 : decode cX1_take 59 = .ok (.getfield 19, 3) := by decide +kernel
theorem dX1_take_62 : decode cX1_take 62 = .ok (.iload 4, 2) := by decide +kernel
theorem dX1_take_64 : decode cX1_take 64 = .ok (.iload_n 3, 1) := by decide +kernel
theorem dX1_take_65 : decode cX1_take 65 = .ok (.bastore, 1) := by decide +kernel
theorem dX1_take_66 : decode cX1_take 66 = .ok (.iconst 0, 1) := by decide +kernel
theorem dX1_take_67 : decode cX1_take 67 = .ok (.istore 5, 2) := by decide +kernel
theorem dX1_take_69 : decode cX1_take 69 = .ok (.iload 5, 2) := by decide +kernel
theorem dX1_take_71 : decode cX1_take 71 = .ok (.iconst 4, 1) := by decide +kernel
theorem dX1_take_72 : decode cX1_take 72 = .ok (.if_icmp .ge 41, 3) := by decide +kernel
theorem dX1_take_75 : decode cX1_take 75 = .ok (.aload_n 0, 1) := by decide +kernel
theorem dX1_take_76 : decode cX1_take 76 = .ok (.getfield 25, 3) := by decide +kernel
theorem dX1_take_79 : decode cX1_take 79 = .ok (.iconst (-1), 1) := by decide +kernel
theorem dX1_take_80 : decode cX1_take 80 = .ok (.if_icmp .ne 33, 3) := by decide +kernel
theorem dX1_take_83 : decode cX1_take 83 = .ok (.aload_n 0, 1) := by decide +kernel
theorem dX1_take_84 : decode cX1_take 84 = .ok (.getfield 15, 3) := by decide +kernel
theorem dX1_take_87 : decode cX1_take 87 = .ok (.aload_n 0, 1) := by decide +kernel
theorem dX1_take_88 : decode cX1_take 88 = .ok (.getfield 32, 3) := by decide +kernel
theorem dX1_take_91 : decode cX1_take 91 = .ok (.iconst 3, 1) := by decide +kernel
theorem dX1_take_92 : decode cX1_take 92 = .ok (.iand, 1) := by decide +kernel
theorem dX1_take_93 : decode cX1_take 93 = .ok (.baload, 1) := by decide +kernel
theorem dX1_take_94 : decode cX1_take 94 = .ok (.ifCond .eq 19, 3) := by decide +kernel
theorem dX1_take_97 : decode cX1_take 97 = .ok (.aload_n 0, 1) := by decide +kernel
theorem dX1_take_98 : decode cX1_take 98 = .ok (.aload_n 0, 1) := by decide +kernel
theorem dX1_take_99 : decode cX1_take 99 = .ok (.getfield 32, 3) := by decide +kernel
theorem dX1_take_102 : decode cX1_take 102 = .ok (.iconst 3, 1) := by decide +kernel
theorem dX1_take_103 : decode cX1_take 103 = .ok (.iand, 1) := by decide +kernel
theorem dX1_take_104 : decode cX1_take 104 = .ok (.invokevirtual 44, 3) := by decide +kernel
theorem dX1_take_107 : decode cX1_take 107 = .ok (.iinc 5 1, 3) := by decide +kernel
theorem dX1_take_110 : decode cX1_take 110 = .ok (.goto (-41), 3) := by decide +kernel
theorem dX1_take_113 : decode cX1_take 113 = .ok (.return_, 1) := by decide +kernel
theorem dX1_takeExpected_0 : decode cX1_takeExpected 0 = .ok (.aload_n 0, 1) := by decide +kernel
theorem dX1_takeExpected_1 : decode cX1_takeExpected 1 = .ok (.getfield 19, 3) := by decide +kernel
theorem dX1_takeExpected_4 : decode cX1_takeExpected 4 = .ok (.iload_n 1, 1) := by decide +kernel
theorem dX1_takeExpected_5 : decode cX1_takeExpected 5 = .ok (.baload, 1) := by decide +kernel
theorem dX1_takeExpected_6 : decode cX1_takeExpected 6 = .ok (.ifCond .eq 14, 3) := by decide +kernel
theorem dX1_takeExpected_9 : decode cX1_takeExpected 9 = .ok (.aload_n 0, 1) := by decide +kernel
theorem dX1_takeExpected_10 : decode cX1_takeExpected 10 = .ok (.aload_n 0, 1) := by decide +kernel
theorem dX1_takeExpected_11 : decode cX1_takeExpected 11 = .ok (.getfield 32, 3) := by decide +kernel
theorem dX1_takeExpected_14 : decode cX1_takeExpected 14 = .ok (.putfield 25, 3) := by decide +kernel
theorem dX1_takeExpected_17 : decode cX1_takeExpected 17 = .ok (.goto 38, 3) := by decide +kernel
theorem dX1_takeExpected_20 : decode cX1_takeExpected 20 = .ok (.aload_n 0, 1) := by decide +kernel
theorem dX1_takeExpected_21 : decode cX1_takeExpected 21 = .ok (.getfield 29, 3) := by decide +kernel
theorem dX1_takeExpected_24 : decode cX1_takeExpected 24 = .ok (.sipush 512, 3) := by decide +kernel
theorem dX1_takeExpected_27 : decode cX1_takeExpected 27 = .ok (.if_icmp .ge 28, 3) := by decide +kernel
theorem dX1_takeExpected_30 : decode cX1_takeExpected 30 = .ok (.aload_n 0, 1) := by decide +kernel
theorem dX1_takeExpected_31 : decode cX1_takeExpected 31 = .ok (.getfield 9, 3) := by decide +kernel
theorem dX1_takeExpected_34 : decode cX1_takeExpected 34 = .ok (.aload_n 0, 1) := by decide +kernel
theorem dX1_takeExpected_35 : decode cX1_takeExpected 35 = .ok (.getfield 29, 3) := by decide +kernel
theorem dX1_takeExpected_38 : decode cX1_takeExpected 38 = .ok (.aload_n 0, 1) := by decide +kernel
theorem dX1_takeExpected_39 : decode cX1_takeExpected 39 = .ok (.getfield 22, 3) := by decide +kernel
theorem dX1_takeExpected_42 : decode cX1_takeExpected 42 = .ok (.iload_n 1, 1) := by decide +kernel
theorem dX1_takeExpected_43 : decode cX1_takeExpected 43 = .ok (.iaload, 1) := by decide +kernel
theorem dX1_takeExpected_44 : decode cX1_takeExpected 44 = .ok (.iastore, 1) := by decide +kernel
theorem dX1_takeExpected_45 : decode cX1_takeExpected 45 = .ok (.aload_n 0, 1) := by decide +kernel
theorem dX1_takeExpected_46 : decode cX1_takeExpected 46 = .ok (.dup, 1) := by decide +kernel
theorem dX1_takeExpected_47 : decode cX1_takeExpected 47 = .ok (.getfield 29, 3) := by decide +kernel
theorem dX1_takeExpected_50 : decode cX1_takeExpected 50 = .ok (.iconst 1, 1) := by decide +kernel
theorem dX1_takeExpected_51 : decode cX1_takeExpected 51 = .ok (.iadd, 1) := by decide +kernel
theorem dX1_takeExpected_52 : decode cX1_takeExpected 52 = .ok (.putfield 29, 3) := by decide +kernel
theorem dX1_takeExpected_55 : decode cX1_takeExpected 55 = .ok (.aload_n 0, 1) := by decide +kernel
theorem dX1_takeExpected_56 : decode cX1_takeExpected 56 = .ok (.getfield 15, 3) := by decide +kernel
theorem dX1_takeExpected_59 : decode cX1_takeExpected 59 = .ok (.iload_n 1, 1) := by decide +kernel
theorem dX1_takeExpected_60 : decode cX1_takeExpected 60 = .ok (.iconst 0, 1) := by decide +kernel
theorem dX1_takeExpected_61 : decode cX1_takeExpected 61 = .ok (.bastore, 1) := by decide +kernel
theorem dX1_takeExpected_62 : decode cX1_takeExpected 62 = .ok (.aload_n 0, 1) := by decide +kernel
theorem dX1_takeExpected_63 : decode cX1_takeExpected 63 = .ok (.dup, 1) := by decide +kernel
theorem dX1_takeExpected_64 : decode cX1_takeExpected 64 = .ok (.getfield 32, 3) := by decide +kernel
theorem dX1_takeExpected_67 : decode cX1_takeExpected 67 = .ok (.iconst 1, 1) := by decide +kernel
theorem dX1_takeExpected_68 : decode cX1_takeExpected 68 = .ok (.iadd, 1) := by decide +kernel
theorem dX1_takeExpected_69 : decode cX1_takeExpected 69 = .ok (.putfield 32, 3) := by decide +kernel
theorem dX1_takeExpected_72 : decode cX1_takeExpected 72 = .ok (.return_, 1) := by decide +kernel
theorem dX1_valueAt_0 : decode cX1_valueAt 0 = .ok (.iload_n 1, 1) := by decide +kernel
theorem dX1_valueAt_1 : decode cX1_valueAt 1 = .ok (.ifCond .lt 18, 3) := by decide +kernel
theorem dX1_valueAt_4 : decode cX1_valueAt 4 = .ok (.iload_n 1, 1) := by decide +kernel
theorem dX1_valueAt_5 : decode cX1_valueAt 5 = .ok (.aload_n 0, 1) := by decide +kernel
theorem dX1_valueAt_6 : decode cX1_valueAt 6 = .ok (.getfield 29, 3) := by decide +kernel
theorem dX1_valueAt_9 : decode cX1_valueAt 9 = .ok (.if_icmp .ge 10, 3) := by decide +kernel
theorem dX1_valueAt_12 : decode cX1_valueAt 12 = .ok (.iload_n 1, 1) := by decide +kernel
theorem dX1_valueAt_13 : decode cX1_valueAt 13 = .ok (.sipush 512, 3) := by decide +kernel
theorem dX1_valueAt_16 : decode cX1_valueAt 16 = .ok (.if_icmp .lt 6, 3) := by decide +kernel
theorem dX1_valueAt_19 : decode cX1_valueAt 19 = .ok (.ldc 48, 2) := by decide +kernel
theorem dX1_valueAt_21 : decode cX1_valueAt 21 = .ok (.ireturn, 1) := by decide +kernel
theorem dX1_valueAt_22 : decode cX1_valueAt 22 = .ok (.aload_n 0, 1) := by decide +kernel
theorem dX1_valueAt_23 : decode cX1_valueAt 23 = .ok (.getfield 9, 3) := by decide +kernel
theorem dX1_valueAt_26 : decode cX1_valueAt 26 = .ok (.iload_n 1, 1) := by decide +kernel
theorem dX1_valueAt_27 : decode cX1_valueAt 27 = .ok (.iaload, 1) := by decide +kernel
theorem dX1_valueAt_28 : decode cX1_valueAt 28 = .ok (.ireturn, 1) := by decide +kernel
theorem dX2_init_0 : decode cX2_init 0 = .ok (.aload_n 0, 1) := by decide +kernel
theorem dX2_init_1 : decode cX2_init 1 = .ok (.invokespecial 3, 3) := by decide +kernel
theorem dX2_init_4 : decode cX2_init 4 = .ok (.aload_n 0, 1) := by decide +kernel
theorem dX2_init_5 : decode cX2_init 5 = .ok (.bipush 30, 2) := by decide +kernel
theorem dX2_init_7 : decode cX2_init 7 = .ok (.newarray .int, 2) := by decide +kernel
theorem dX2_init_9 : decode cX2_init 9 = .ok (.putfield 9, 3) := by decide +kernel
theorem dX2_init_12 : decode cX2_init 12 = .ok (.aload_n 0, 1) := by decide +kernel
theorem dX2_init_13 : decode cX2_init 13 = .ok (.bipush 30, 2) := by decide +kernel
theorem dX2_init_15 : decode cX2_init 15 = .ok (.newarray .int, 2) := by decide +kernel
theorem dX2_init_17 : decode cX2_init 17 = .ok (.putfield 15, 3) := by decide +kernel
theorem dX2_init_20 : decode cX2_init 20 = .ok (.aload_n 0, 1) := by decide +kernel
theorem dX2_init_21 : decode cX2_init 21 = .ok (.bipush 30, 2) := by decide +kernel
theorem dX2_init_23 : decode cX2_init 23 = .ok (.newarray .int, 2) := by decide +kernel
theorem dX2_init_25 : decode cX2_init 25 = .ok (.putfield 18, 3) := by decide +kernel
theorem dX2_init_28 : decode cX2_init 28 = .ok (.aload_n 0, 1) := by decide +kernel
theorem dX2_init_29 : decode cX2_init 29 = .ok (.bipush 29, 2) := by decide +kernel
theorem dX2_init_31 : decode cX2_init 31 = .ok (.putfield 21, 3) := by decide +kernel
theorem dX2_init_34 : decode cX2_init 34 = .ok (.return_, 1) := by decide +kernel
theorem dX2_add_0 : decode cX2_add 0 = .ok (.aload_n 0, 1) := by decide +kernel
theorem dX2_add_1 : decode cX2_add 1 = .ok (.aload_n 0, 1) := by decide +kernel
theorem dX2_add_2 : decode cX2_add 2 = .ok (.getfield 21, 3) := by decide +kernel
theorem dX2_add_5 : decode cX2_add 5 = .ok (.ifCond .lt 21, 3) := by decide +kernel
theorem dX2_add_8 : decode cX2_add 8 = .ok (.aload_n 0, 1) := by decide +kernel
theorem dX2_add_9 : decode cX2_add 9 = .ok (.getfield 21, 3) := by decide +kernel
theorem dX2_add_12 : decode cX2_add 12 = .ok (.bipush 29, 2) := by decide +kernel
theorem dX2_add_14 : decode cX2_add 14 = .ok (.if_icmp .ge 12, 3) := by decide +kernel
theorem dX2_add_17 : decode cX2_add 17 = .ok (.aload_n 0, 1) := by decide +kernel
theorem dX2_add_18 : decode cX2_add 18 = .ok (.getfield 21, 3) := by decide +kernel
theorem dX2_add_21 : decode cX2_add 21 = .ok (.iconst 1, 1) := by decide +kernel
theorem dX2_add_22 : decode cX2_add 22 = .ok (.iadd, 1) := by decide +kernel
theorem dX2_add_23 : decode cX2_add 23 = .ok (.goto 4, 3) := by decide +kernel
theorem dX2_add_26 : decode cX2_add 26 = .ok (.iconst 0, 1) := by decide +kernel
theorem dX2_add_27 : decode cX2_add 27 = .ok (.putfield 21, 3) := by decide +kernel
theorem dX2_add_30 : decode cX2_add 30 = .ok (.aload_n 0, 1) := by decide +kernel
theorem dX2_add_31 : decode cX2_add 31 = .ok (.getfield 9, 3) := by decide +kernel
theorem dX2_add_34 : decode cX2_add 34 = .ok (.aload_n 0, 1) := by decide +kernel
theorem dX2_add_35 : decode cX2_add 35 = .ok (.getfield 21, 3) := by decide +kernel
theorem dX2_add_38 : decode cX2_add 38 = .ok (.iload_n 1, 1) := by decide +kernel
theorem dX2_add_39 : decode cX2_add 39 = .ok (.iastore, 1) := by decide +kernel
theorem dX2_add_40 : decode cX2_add 40 = .ok (.aload_n 0, 1) := by decide +kernel
theorem dX2_add_41 : decode cX2_add 41 = .ok (.getfield 15, 3) := by decide +kernel
theorem dX2_add_44 : decode cX2_add 44 = .ok (.aload_n 0, 1) := by decide +kernel
theorem dX2_add_45 : decode cX2_add 45 = .ok (.getfield 21, 3) := by decide +kernel
theorem dX2_add_48 : decode cX2_add 48 = .ok (.iload_n 2, 1) := by decide +kernel
theorem dX2_add_49 : decode cX2_add 49 = .ok (.iastore, 1) := by decide +kernel
theorem dX2_add_50 : decode cX2_add 50 = .ok (.aload_n 0, 1) := by decide +kernel
theorem dX2_add_51 : decode cX2_add 51 = .ok (.getfield 18, 3) := by decide +kernel
theorem dX2_add_54 : decode cX2_add 54 = .ok (.aload_n 0, 1) := by decide +kernel
theorem dX2_add_55 : decode cX2_add 55 = .ok (.getfield 21, 3) := by decide +kernel
theorem dX2_add_58 : decode cX2_add 58 = .ok (.iload_n 3, 1) := by decide +kernel
theorem dX2_add_59 : decode cX2_add 59 = .ok (.iastore, 1) := by decide +kernel
theorem dX2_add_60 : decode cX2_add 60 = .ok (.aload_n 0, 1) := by decide +kernel
theorem dX2_add_61 : decode cX2_add 61 = .ok (.getfield 25, 3) := by decide +kernel
theorem dX2_add_64 : decode cX2_add 64 = .ok (.bipush 30, 2) := by decide +kernel
theorem dX2_add_66 : decode cX2_add 66 = .ok (.if_icmp .ge 13, 3) := by decide +kernel
theorem dX2_add_69 : decode cX2_add 69 = .ok (.aload_n 0, 1) := by decide +kernel
theorem dX2_add_70 : decode cX2_add 70 = .ok (.dup, 1) := by decide +kernel
theorem dX2_add_71 : decode cX2_add 71 = .ok (.getfield 25, 3) := by decide +kernel
theorem dX2_add_74 : decode cX2_add 74 = .ok (.iconst 1, 1) := by decide +kernel
theorem dX2_add_75 : decode cX2_add 75 = .ok (.iadd, 1) := by decide +kernel
theorem dX2_add_76 : decode cX2_add 76 = .ok (.putfield 25, 3) := by decide +kernel
theorem dX2_add_79 : decode cX2_add 79 = .ok (.return_, 1) := by decide +kernel
theorem dX2_copyFrom_0 : decode cX2_copyFrom 0 = .ok (.aload_n 1, 1) := by decide +kernel
theorem dX2_copyFrom_1 : decode cX2_copyFrom 1 = .ok (.getfield 9, 3) := by decide +kernel
theorem dX2_copyFrom_4 : decode cX2_copyFrom 4 = .ok (.iconst 0, 1) := by decide +kernel
theorem dX2_copyFrom_5 : decode cX2_copyFrom 5 = .ok (.aload_n 0, 1) := by decide +kernel
theorem dX2_copyFrom_6 : decode cX2_copyFrom 6 = .ok (.getfield 9, 3) := by decide +kernel
theorem dX2_copyFrom_9 : decode cX2_copyFrom 9 = .ok (.iconst 0, 1) := by decide +kernel
theorem dX2_copyFrom_10 : decode cX2_copyFrom 10 = .ok (.bipush 30, 2) := by decide +kernel
theorem dX2_copyFrom_12 : decode cX2_copyFrom 12 = .ok (.invokestatic 28, 3) := by decide +kernel
theorem dX2_copyFrom_15 : decode cX2_copyFrom 15 = .ok (.aload_n 1, 1) := by decide +kernel
theorem dX2_copyFrom_16 : decode cX2_copyFrom 16 = .ok (.getfield 15, 3) := by decide +kernel
theorem dX2_copyFrom_19 : decode cX2_copyFrom 19 = .ok (.iconst 0, 1) := by decide +kernel
theorem dX2_copyFrom_20 : decode cX2_copyFrom 20 = .ok (.aload_n 0, 1) := by decide +kernel
theorem dX2_copyFrom_21 : decode cX2_copyFrom 21 = .ok (.getfield 15, 3) := by decide +kernel
theorem dX2_copyFrom_24 : decode cX2_copyFrom 24 = .ok (.iconst 0, 1) := by decide +kernel
theorem dX2_copyFrom_25 : decode cX2_copyFrom 25 = .ok (.bipush 30, 2) := by decide +kernel
theorem dX2_copyFrom_27 : decode cX2_copyFrom 27 = .ok (.invokestatic 28, 3) := by decide +kernel
theorem dX2_copyFrom_30 : decode cX2_copyFrom 30 = .ok (.aload_n 1, 1) := by decide +kernel
theorem dX2_copyFrom_31 : decode cX2_copyFrom 31 = .ok (.getfield 18, 3) := by decide +kernel
theorem dX2_copyFrom_34 : decode cX2_copyFrom 34 = .ok (.iconst 0, 1) := by decide +kernel
theorem dX2_copyFrom_35 : decode cX2_copyFrom 35 = .ok (.aload_n 0, 1) := by decide +kernel
theorem dX2_copyFrom_36 : decode cX2_copyFrom 36 = .ok (.getfield 18, 3) := by decide +kernel
theorem dX2_copyFrom_39 : decode cX2_copyFrom 39 = .ok (.iconst 0, 1) := by decide +kernel
theorem dX2_copyFrom_40 : decode cX2_copyFrom 40 = .ok (.bipush 30, 2) := by decide +kernel
theorem dX2_copyFrom_42 : decode cX2_copyFrom 42 = .ok (.invokestatic 28, 3) := by decide +kernel
theorem dX2_copyFrom_45 : decode cX2_copyFrom 45 = .ok (.aload_n 0, 1) := by decide +kernel
theorem dX2_copyFrom_46 : decode cX2_copyFrom 46 = .ok (.aload_n 1, 1) := by decide +kernel
theorem dX2_copyFrom_47 : decode cX2_copyFrom 47 = .ok (.getfield 25, 3) := by decide +kernel
theorem dX2_copyFrom_50 : decode cX2_copyFrom 50 = .ok (.putfield 25, 3) := by decide +kernel
theorem dX2_copyFrom_53 : decode cX2_copyFrom 53 = .ok (.aload_n 0, 1) := by decide +kernel
theorem dX2_copyFrom_54 : decode cX2_copyFrom 54 = .ok (.aload_n 1, 1) := by decide +kernel
theorem dX2_copyFrom_55 : decode cX2_copyFrom 55 = .ok (.getfield 21, 3) := by decide +kernel
theorem dX2_copyFrom_58 : decode cX2_copyFrom 58 = .ok (.putfield 21, 3) := by decide +kernel
theorem dX2_copyFrom_61 : decode cX2_copyFrom 61 = .ok (.return_, 1) := by decide +kernel
theorem dX2_part_0 : decode cX2_part 0 = .ok (.iload_n 1, 1) := by decide +kernel
theorem dX2_part_1 : decode cX2_part 1 = .ok (.ifCond .lt 11, 3) := by decide +kernel
theorem dX2_part_4 : decode cX2_part 4 = .ok (.iload_n 1, 1) := by decide +kernel
theorem dX2_part_5 : decode cX2_part 5 = .ok (.aload_n 0, 1) := by decide +kernel
theorem dX2_part_6 : decode cX2_part 6 = .ok (.getfield 25, 3) := by decide +kernel
theorem dX2_part_9 : decode cX2_part 9 = .ok (.if_icmp .lt 6, 3) := by decide +kernel
theorem dX2_part_12 : decode cX2_part 12 = .ok (.ldc 34, 2) := by decide +kernel
theorem dX2_part_14 : decode cX2_part 14 = .ok (.ireturn, 1) := by decide +kernel
theorem dX2_part_15 : decode cX2_part 15 = .ok (.aload_n 0, 1) := by decide +kernel
theorem dX2_part_16 : decode cX2_part 16 = .ok (.getfield 21, 3) := by decide +kernel
theorem dX2_part_19 : decode cX2_part 19 = .ok (.iload_n 1, 1) := by decide +kernel
theorem dX2_part_20 : decode cX2_part 20 = .ok (.isub, 1) := by decide +kernel
theorem dX2_part_21 : decode cX2_part 21 = .ok (.bipush 30, 2) := by decide +kernel
theorem dX2_part_23 : decode cX2_part 23 = .ok (.invokestatic 35, 3) := by decide +kernel
theorem dX2_part_26 : decode cX2_part 26 = .ok (.istore_n 3, 1) := by decide +kernel
theorem dX2_part_27 : decode cX2_part 27 = .ok (.iload_n 2, 1) := by decide +kernel
theorem dX2_part_28 : decode cX2_part 28 = .ok (.tableswitch 49 0 2 #[28, 35, 42], 28) := by decide +kernel
theorem dX2_part_56 : decode cX2_part 56 = .ok (.aload_n 0, 1) := by decide +kernel
theorem dX2_part_57 : decode cX2_part 57 = .ok (.getfield 9, 3) := by decide +kernel
theorem dX2_part_60 : decode cX2_part 60 = .ok (.iload_n 3, 1) := by decide +kernel
theorem dX2_part_61 : decode cX2_part 61 = .ok (.iaload, 1) := by decide +kernel
theorem dX2_part_62 : decode cX2_part 62 = .ok (.ireturn, 1) := by decide +kernel
theorem dX2_part_63 : decode cX2_part 63 = .ok (.aload_n 0, 1) := by decide +kernel
theorem dX2_part_64 : decode cX2_part 64 = .ok (.getfield 15, 3) := by decide +kernel
theorem dX2_part_67 : decode cX2_part 67 = .ok (.iload_n 3, 1) := by decide +kernel
theorem dX2_part_68 : decode cX2_part 68 = .ok (.iaload, 1) := by decide +kernel
theorem dX2_part_69 : decode cX2_part 69 = .ok (.ireturn, 1) := by decide +kernel
theorem dX2_part_70 : decode cX2_part 70 = .ok (.aload_n 0, 1) := by decide +kernel
theorem dX2_part_71 : decode cX2_part 71 = .ok (.getfield 18, 3) := by decide +kernel
theorem dX2_part_74 : decode cX2_part 74 = .ok (.iload_n 3, 1) := by decide +kernel
theorem dX2_part_75 : decode cX2_part 75 = .ok (.iaload, 1) := by decide +kernel
theorem dX2_part_76 : decode cX2_part 76 = .ok (.ireturn, 1) := by decide +kernel
theorem dX2_part_77 : decode cX2_part 77 = .ok (.ldc 41, 2) := by decide +kernel
theorem dX2_part_79 : decode cX2_part 79 = .ok (.ireturn, 1) := by decide +kernel
theorem dX3_init_0 : decode cX3_init 0 = .ok (.aload_n 0, 1) := by decide +kernel
theorem dX3_init_1 : decode cX3_init 1 = .ok (.invokespecial 3, 3) := by decide +kernel
theorem dX3_init_4 : decode cX3_init 4 = .ok (.aload_n 0, 1) := by decide +kernel
theorem dX3_init_5 : decode cX3_init 5 = .ok (.bipush 24, 2) := by decide +kernel
theorem dX3_init_7 : decode cX3_init 7 = .ok (.anewarray 9, 3) := by decide +kernel
theorem dX3_init_10 : decode cX3_init 10 = .ok (.putfield 11, 3) := by decide +kernel
theorem dX3_init_13 : decode cX3_init 13 = .ok (.iconst 0, 1) := by decide +kernel
theorem dX3_init_14 : decode cX3_init 14 = .ok (.istore_n 1, 1) := by decide +kernel
theorem dX3_init_15 : decode cX3_init 15 = .ok (.iload_n 1, 1) := by decide +kernel
theorem dX3_init_16 : decode cX3_init 16 = .ok (.bipush 24, 2) := by decide +kernel
theorem dX3_init_18 : decode cX3_init 18 = .ok (.if_icmp .ge 22, 3) := by decide +kernel
theorem dX3_init_21 : decode cX3_init 21 = .ok (.aload_n 0, 1) := by decide +kernel
theorem dX3_init_22 : decode cX3_init 22 = .ok (.getfield 11, 3) := by decide +kernel
theorem dX3_init_25 : decode cX3_init 25 = .ok (.iload_n 1, 1) := by decide +kernel
theorem dX3_init_26 : decode cX3_init 26 = .ok (.new 9, 3) := by decide +kernel
theorem dX3_init_29 : decode cX3_init 29 = .ok (.dup, 1) := by decide +kernel
theorem dX3_init_30 : decode cX3_init 30 = .ok (.invokespecial 17, 3) := by decide +kernel
theorem dX3_init_33 : decode cX3_init 33 = .ok (.aastore, 1) := by decide +kernel
theorem dX3_init_34 : decode cX3_init 34 = .ok (.iinc 1 1, 3) := by decide +kernel
theorem dX3_init_37 : decode cX3_init 37 = .ok (.goto (-22), 3) := by decide +kernel
theorem dX3_init_40 : decode cX3_init 40 = .ok (.return_, 1) := by decide +kernel
theorem dX3_isFull_0 : decode cX3_isFull 0 = .ok (.aload_n 0, 1) := by decide +kernel
theorem dX3_isFull_1 : decode cX3_isFull 1 = .ok (.getfield 18, 3) := by decide +kernel
theorem dX3_isFull_4 : decode cX3_isFull 4 = .ok (.bipush 24, 2) := by decide +kernel
theorem dX3_isFull_6 : decode cX3_isFull 6 = .ok (.if_icmp .lt 7, 3) := by decide +kernel
theorem dX3_isFull_9 : decode cX3_isFull 9 = .ok (.iconst 1, 1) := by decide +kernel
theorem dX3_isFull_10 : decode cX3_isFull 10 = .ok (.goto 4, 3) := by decide +kernel
theorem dX3_isFull_13 : decode cX3_isFull 13 = .ok (.iconst 0, 1) := by decide +kernel
theorem dX3_isFull_14 : decode cX3_isFull 14 = .ok (.ireturn, 1) := by decide +kernel
theorem dX3_at_0 : decode cX3_at 0 = .ok (.iload_n 1, 1) := by decide +kernel
theorem dX3_at_1 : decode cX3_at 1 = .ok (.ifCond .lt 17, 3) := by decide +kernel
theorem dX3_at_4 : decode cX3_at 4 = .ok (.iload_n 1, 1) := by decide +kernel
theorem dX3_at_5 : decode cX3_at 5 = .ok (.aload_n 0, 1) := by decide +kernel
theorem dX3_at_6 : decode cX3_at 6 = .ok (.getfield 18, 3) := by decide +kernel
theorem dX3_at_9 : decode cX3_at 9 = .ok (.if_icmp .ge 9, 3) := by decide +kernel
theorem dX3_at_12 : decode cX3_at 12 = .ok (.iload_n 1, 1) := by decide +kernel
theorem dX3_at_13 : decode cX3_at 13 = .ok (.bipush 24, 2) := by decide +kernel
theorem dX3_at_15 : decode cX3_at 15 = .ok (.if_icmp .lt 5, 3) := by decide +kernel
theorem dX3_at_18 : decode cX3_at 18 = .ok (.aconst_null, 1) := by decide +kernel
theorem dX3_at_19 : decode cX3_at 19 = .ok (.areturn, 1) := by decide +kernel
theorem dX3_at_20 : decode cX3_at 20 = .ok (.aload_n 0, 1) := by decide +kernel
theorem dX3_at_21 : decode cX3_at 21 = .ok (.getfield 11, 3) := by decide +kernel
theorem dX3_at_24 : decode cX3_at 24 = .ok (.iload_n 1, 1) := by decide +kernel
theorem dX3_at_25 : decode cX3_at 25 = .ok (.aaload, 1) := by decide +kernel
theorem dX3_at_26 : decode cX3_at 26 = .ok (.areturn, 1) := by decide +kernel
theorem dX3_extend_0 : decode cX3_extend 0 = .ok (.aload_n 0, 1) := by decide +kernel
theorem dX3_extend_1 : decode cX3_extend 1 = .ok (.getfield 18, 3) := by decide +kernel
theorem dX3_extend_4 : decode cX3_extend 4 = .ok (.ifCond .lt 12, 3) := by decide +kernel
theorem dX3_extend_7 : decode cX3_extend 7 = .ok (.aload_n 0, 1) := by decide +kernel
theorem dX3_extend_8 : decode cX3_extend 8 = .ok (.getfield 18, 3) := by decide +kernel
theorem dX3_extend_11 : decode cX3_extend 11 = .ok (.bipush 24, 2) := by decide +kernel
theorem dX3_extend_13 : decode cX3_extend 13 = .ok (.if_icmp .lt 5, 3) := by decide +kernel
theorem dX3_extend_16 : decode cX3_extend 16 = .ok (.aconst_null, 1) := by decide +kernel
theorem dX3_extend_17 : decode cX3_extend 17 = .ok (.areturn, 1) := by decide +kernel
theorem dX3_extend_18 : decode cX3_extend 18 = .ok (.aload_n 0, 1) := by decide +kernel
theorem dX3_extend_19 : decode cX3_extend 19 = .ok (.dup, 1) := by decide +kernel
theorem dX3_extend_20 : decode cX3_extend 20 = .ok (.getfield 18, 3) := by decide +kernel
theorem dX3_extend_23 : decode cX3_extend 23 = .ok (.iconst 1, 1) := by decide +kernel
theorem dX3_extend_24 : decode cX3_extend 24 = .ok (.iadd, 1) := by decide +kernel
theorem dX3_extend_25 : decode cX3_extend 25 = .ok (.putfield 18, 3) := by decide +kernel
theorem dX3_extend_28 : decode cX3_extend 28 = .ok (.aload_n 0, 1) := by decide +kernel
theorem dX3_extend_29 : decode cX3_extend 29 = .ok (.getfield 11, 3) := by decide +kernel
theorem dX3_extend_32 : decode cX3_extend 32 = .ok (.aload_n 0, 1) := by decide +kernel
theorem dX3_extend_33 : decode cX3_extend 33 = .ok (.getfield 18, 3) := by decide +kernel
theorem dX3_extend_36 : decode cX3_extend 36 = .ok (.iconst 1, 1) := by decide +kernel
theorem dX3_extend_37 : decode cX3_extend 37 = .ok (.isub, 1) := by decide +kernel
theorem dX3_extend_38 : decode cX3_extend 38 = .ok (.aaload, 1) := by decide +kernel
theorem dX3_extend_39 : decode cX3_extend 39 = .ok (.areturn, 1) := by decide +kernel
theorem dX3_remove_0 : decode cX3_remove 0 = .ok (.iload_n 1, 1) := by decide +kernel
theorem dX3_remove_1 : decode cX3_remove 1 = .ok (.ifCond .lt 20, 3) := by decide +kernel
theorem dX3_remove_4 : decode cX3_remove 4 = .ok (.iload_n 1, 1) := by decide +kernel
theorem dX3_remove_5 : decode cX3_remove 5 = .ok (.aload_n 0, 1) := by decide +kernel
theorem dX3_remove_6 : decode cX3_remove 6 = .ok (.getfield 18, 3) := by decide +kernel
theorem dX3_remove_9 : decode cX3_remove 9 = .ok (.if_icmp .ge 12, 3) := by decide +kernel
theorem dX3_remove_12 : decode cX3_remove 12 = .ok (.aload_n 0, 1) := by decide +kernel
theorem dX3_remove_13 : decode cX3_remove 13 = .ok (.getfield 18, 3) := by decide +kernel
theorem dX3_remove_16 : decode cX3_remove 16 = .ok (.bipush 24, 2) := by decide +kernel
theorem dX3_remove_18 : decode cX3_remove 18 = .ok (.if_icmp .le 4, 3) := by decide +kernel
theorem dX3_remove_21 : decode cX3_remove 21 = .ok (.return_, 1) := by decide +kernel
theorem dX3_remove_22 : decode cX3_remove 22 = .ok (.aload_n 0, 1) := by decide +kernel
theorem dX3_remove_23 : decode cX3_remove 23 = .ok (.getfield 11, 3) := by decide +kernel
theorem dX3_remove_26 : decode cX3_remove 26 = .ok (.iload_n 1, 1) := by decide +kernel
theorem dX3_remove_27 : decode cX3_remove 27 = .ok (.aaload, 1) := by decide +kernel
theorem dX3_remove_28 : decode cX3_remove 28 = .ok (.astore_n 2, 1) := by decide +kernel
theorem dX3_remove_29 : decode cX3_remove 29 = .ok (.iload_n 1, 1) := by decide +kernel
theorem dX3_remove_30 : decode cX3_remove 30 = .ok (.istore_n 3, 1) := by decide +kernel
theorem dX3_remove_31 : decode cX3_remove 31 = .ok (.iload_n 3, 1) := by decide +kernel
theorem dX3_remove_32 : decode cX3_remove 32 = .ok (.aload_n 0, 1) := by decide +kernel
theorem dX3_remove_33 : decode cX3_remove 33 = .ok (.getfield 18, 3) := by decide +kernel
theorem dX3_remove_36 : decode cX3_remove 36 = .ok (.iconst 1, 1) := by decide +kernel
theorem dX3_remove_37 : decode cX3_remove 37 = .ok (.isub, 1) := by decide +kernel
theorem dX3_remove_38 : decode cX3_remove 38 = .ok (.if_icmp .ge 23, 3) := by decide +kernel
theorem dX3_remove_41 : decode cX3_remove 41 = .ok (.aload_n 0, 1) := by decide +kernel
theorem dX3_remove_42 : decode cX3_remove 42 = .ok (.getfield 11, 3) := by decide +kernel
theorem dX3_remove_45 : decode cX3_remove 45 = .ok (.iload_n 3, 1) := by decide +kernel
theorem dX3_remove_46 : decode cX3_remove 46 = .ok (.aload_n 0, 1) := by decide +kernel
theorem dX3_remove_47 : decode cX3_remove 47 = .ok (.getfield 11, 3) := by decide +kernel
theorem dX3_remove_50 : decode cX3_remove 50 = .ok (.iload_n 3, 1) := by decide +kernel
theorem dX3_remove_51 : decode cX3_remove 51 = .ok (.iconst 1, 1) := by decide +kernel
theorem dX3_remove_52 : decode cX3_remove 52 = .ok (.iadd, 1) := by decide +kernel
theorem dX3_remove_53 : decode cX3_remove 53 = .ok (.aaload, 1) := by decide +kernel
theorem dX3_remove_54 : decode cX3_remove 54 = .ok (.aastore, 1) := by decide +kernel
theorem dX3_remove_55 : decode cX3_remove 55 = .ok (.iinc 3 1, 3) := by decide +kernel
theorem dX3_remove_58 : decode cX3_remove 58 = .ok (.goto (-27), 3) := by decide +kernel
theorem dX3_remove_61 : decode cX3_remove 61 = .ok (.aload_n 0, 1) := by decide +kernel
theorem dX3_remove_62 : decode cX3_remove 62 = .ok (.getfield 11, 3) := by decide +kernel
theorem dX3_remove_65 : decode cX3_remove 65 = .ok (.aload_n 0, 1) := by decide +kernel
theorem dX3_remove_66 : decode cX3_remove 66 = .ok (.getfield 18, 3) := by decide +kernel
theorem dX3_remove_69 : decode cX3_remove 69 = .ok (.iconst 1, 1) := by decide +kernel
theorem dX3_remove_70 : decode cX3_remove 70 = .ok (.isub, 1) := by decide +kernel
theorem dX3_remove_71 : decode cX3_remove 71 = .ok (.aload_n 2, 1) := by decide +kernel
theorem dX3_remove_72 : decode cX3_remove 72 = .ok (.aastore, 1) := by decide +kernel
theorem dX3_remove_73 : decode cX3_remove 73 = .ok (.aload_n 0, 1) := by decide +kernel
theorem dX3_remove_74 : decode cX3_remove 74 = .ok (.dup, 1) := by decide +kernel
theorem dX3_remove_75 : decode cX3_remove 75 = .ok (.getfield 18, 3) := by decide +kernel
theorem dX3_remove_78 : decode cX3_remove 78 = .ok (.iconst 1, 1) := by decide +kernel
theorem dX3_remove_79 : decode cX3_remove 79 = .ok (.isub, 1) := by decide +kernel
theorem dX3_remove_80 : decode cX3_remove 80 = .ok (.putfield 18, 3) := by decide +kernel
theorem dX3_remove_83 : decode cX3_remove 83 = .ok (.return_, 1) := by decide +kernel
theorem dX3_copyFrom_0 : decode cX3_copyFrom 0 = .ok (.aload_n 0, 1) := by decide +kernel
theorem dX3_copyFrom_1 : decode cX3_copyFrom 1 = .ok (.aload_n 1, 1) := by decide +kernel
theorem dX3_copyFrom_2 : decode cX3_copyFrom 2 = .ok (.getfield 18, 3) := by decide +kernel
theorem dX3_copyFrom_5 : decode cX3_copyFrom 5 = .ok (.putfield 18, 3) := by decide +kernel
theorem dX3_copyFrom_8 : decode cX3_copyFrom 8 = .ok (.iconst 0, 1) := by decide +kernel
theorem dX3_copyFrom_9 : decode cX3_copyFrom 9 = .ok (.istore_n 2, 1) := by decide +kernel
theorem dX3_copyFrom_10 : decode cX3_copyFrom 10 = .ok (.iload_n 2, 1) := by decide +kernel
theorem dX3_copyFrom_11 : decode cX3_copyFrom 11 = .ok (.bipush 24, 2) := by decide +kernel
theorem dX3_copyFrom_13 : decode cX3_copyFrom 13 = .ok (.if_icmp .ge 24, 3) := by decide +kernel
theorem dX3_copyFrom_16 : decode cX3_copyFrom 16 = .ok (.aload_n 0, 1) := by decide +kernel
theorem dX3_copyFrom_17 : decode cX3_copyFrom 17 = .ok (.getfield 11, 3) := by decide +kernel
theorem dX3_copyFrom_20 : decode cX3_copyFrom 20 = .ok (.iload_n 2, 1) := by decide +kernel
theorem dX3_copyFrom_21 : decode cX3_copyFrom 21 = .ok (.aaload, 1) := by decide +kernel
theorem dX3_copyFrom_22 : decode cX3_copyFrom 22 = .ok (.aload_n 1, 1) := by decide +kernel
theorem dX3_copyFrom_23 : decode cX3_copyFrom 23 = .ok (.getfield 11, 3) := by decide +kernel
theorem dX3_copyFrom_26 : decode cX3_copyFrom 26 = .ok (.iload_n 2, 1) := by decide +kernel
theorem dX3_copyFrom_27 : decode cX3_copyFrom 27 = .ok (.aaload, 1) := by decide +kernel
theorem dX3_copyFrom_28 : decode cX3_copyFrom 28 = .ok (.invokevirtual 22, 3) := by decide +kernel
theorem dX3_copyFrom_31 : decode cX3_copyFrom 31 = .ok (.iinc 2 1, 3) := by decide +kernel
theorem dX3_copyFrom_34 : decode cX3_copyFrom 34 = .ok (.goto (-24), 3) := by decide +kernel
theorem dX3_copyFrom_37 : decode cX3_copyFrom 37 = .ok (.return_, 1) := by decide +kernel
theorem dX4_init_0 : decode cX4_init 0 = .ok (.aload_n 0, 1) := by decide +kernel
theorem dX4_init_1 : decode cX4_init 1 = .ok (.invokespecial 3, 3) := by decide +kernel
theorem dX4_init_4 : decode cX4_init 4 = .ok (.aload_n 0, 1) := by decide +kernel
theorem dX4_init_5 : decode cX4_init 5 = .ok (.bipush 16, 2) := by decide +kernel
theorem dX4_init_7 : decode cX4_init 7 = .ok (.newarray .int, 2) := by decide +kernel
theorem dX4_init_9 : decode cX4_init 9 = .ok (.putfield 9, 3) := by decide +kernel
theorem dX4_init_12 : decode cX4_init 12 = .ok (.aload_n 0, 1) := by decide +kernel
theorem dX4_init_13 : decode cX4_init 13 = .ok (.bipush 16, 2) := by decide +kernel
theorem dX4_init_15 : decode cX4_init 15 = .ok (.newarray .int, 2) := by decide +kernel
theorem dX4_init_17 : decode cX4_init 17 = .ok (.putfield 15, 3) := by decide +kernel
theorem dX4_init_20 : decode cX4_init 20 = .ok (.aload_n 0, 1) := by decide +kernel
theorem dX4_init_21 : decode cX4_init 21 = .ok (.iconst (-1), 1) := by decide +kernel
theorem dX4_init_22 : decode cX4_init 22 = .ok (.putfield 18, 3) := by decide +kernel
theorem dX4_init_25 : decode cX4_init 25 = .ok (.return_, 1) := by decide +kernel
theorem dX4_begin_0 : decode cX4_begin 0 = .ok (.aload_n 0, 1) := by decide +kernel
theorem dX4_begin_1 : decode cX4_begin 1 = .ok (.iconst 0, 1) := by decide +kernel
theorem dX4_begin_2 : decode cX4_begin 2 = .ok (.putfield 22, 3) := by decide +kernel
theorem dX4_begin_5 : decode cX4_begin 5 = .ok (.aload_n 0, 1) := by decide +kernel
theorem dX4_begin_6 : decode cX4_begin 6 = .ok (.iconst 0, 1) := by decide +kernel
theorem dX4_begin_7 : decode cX4_begin 7 = .ok (.putfield 25, 3) := by decide +kernel
theorem dX4_begin_10 : decode cX4_begin 10 = .ok (.aload_n 0, 1) := by decide +kernel
theorem dX4_begin_11 : decode cX4_begin 11 = .ok (.iconst (-1), 1) := by decide +kernel
theorem dX4_begin_12 : decode cX4_begin 12 = .ok (.putfield 18, 3) := by decide +kernel
theorem dX4_begin_15 : decode cX4_begin 15 = .ok (.return_, 1) := by decide +kernel
theorem dX4_copyFrom_0 : decode cX4_copyFrom 0 = .ok (.aload_n 1, 1) := by decide +kernel
theorem dX4_copyFrom_1 : decode cX4_copyFrom 1 = .ok (.getfield 9, 3) := by decide +kernel
theorem dX4_copyFrom_4 : decode cX4_copyFrom 4 = .ok (.iconst 0, 1) := by decide +kernel
theorem dX4_copyFrom_5 : decode cX4_copyFrom 5 = .ok (.aload_n 0, 1) := by decide +kernel
theorem dX4_copyFrom_6 : decode cX4_copyFrom 6 = .ok (.getfield 9, 3) := by decide +kernel
theorem dX4_copyFrom_9 : decode cX4_copyFrom 9 = .ok (.iconst 0, 1) := by decide +kernel
theorem dX4_copyFrom_10 : decode cX4_copyFrom 10 = .ok (.bipush 16, 2) := by decide +kernel
theorem dX4_copyFrom_12 : decode cX4_copyFrom 12 = .ok (.invokestatic 28, 3) := by decide +kernel
theorem dX4_copyFrom_15 : decode cX4_copyFrom 15 = .ok (.aload_n 1, 1) := by decide +kernel
theorem dX4_copyFrom_16 : decode cX4_copyFrom 16 = .ok (.getfield 15, 3) := by decide +kernel
theorem dX4_copyFrom_19 : decode cX4_copyFrom 19 = .ok (.iconst 0, 1) := by decide +kernel
theorem dX4_copyFrom_20 : decode cX4_copyFrom 20 = .ok (.aload_n 0, 1) := by decide +kernel
theorem dX4_copyFrom_21 : decode cX4_copyFrom 21 = .ok (.getfield 15, 3) := by decide +kernel
theorem dX4_copyFrom_24 : decode cX4_copyFrom 24 = .ok (.iconst 0, 1) := by decide +kernel
theorem dX4_copyFrom_25 : decode cX4_copyFrom 25 = .ok (.bipush 16, 2) := by decide +kernel
theorem dX4_copyFrom_27 : decode cX4_copyFrom 27 = .ok (.invokestatic 28, 3) := by decide +kernel
theorem dX4_copyFrom_30 : decode cX4_copyFrom 30 = .ok (.aload_n 0, 1) := by decide +kernel
theorem dX4_copyFrom_31 : decode cX4_copyFrom 31 = .ok (.aload_n 1, 1) := by decide +kernel
theorem dX4_copyFrom_32 : decode cX4_copyFrom 32 = .ok (.getfield 22, 3) := by decide +kernel
theorem dX4_copyFrom_35 : decode cX4_copyFrom 35 = .ok (.putfield 22, 3) := by decide +kernel
theorem dX4_copyFrom_38 : decode cX4_copyFrom 38 = .ok (.aload_n 0, 1) := by decide +kernel
theorem dX4_copyFrom_39 : decode cX4_copyFrom 39 = .ok (.aload_n 1, 1) := by decide +kernel
theorem dX4_copyFrom_40 : decode cX4_copyFrom 40 = .ok (.getfield 25, 3) := by decide +kernel
theorem dX4_copyFrom_43 : decode cX4_copyFrom 43 = .ok (.putfield 25, 3) := by decide +kernel
theorem dX4_copyFrom_46 : decode cX4_copyFrom 46 = .ok (.aload_n 0, 1) := by decide +kernel
theorem dX4_copyFrom_47 : decode cX4_copyFrom 47 = .ok (.aload_n 1, 1) := by decide +kernel
theorem dX4_copyFrom_48 : decode cX4_copyFrom 48 = .ok (.getfield 18, 3) := by decide +kernel
theorem dX4_copyFrom_51 : decode cX4_copyFrom 51 = .ok (.putfield 18, 3) := by decide +kernel
theorem dX4_copyFrom_54 : decode cX4_copyFrom 54 = .ok (.return_, 1) := by decide +kernel
theorem dX4_isFull_0 : decode cX4_isFull 0 = .ok (.aload_n 0, 1) := by decide +kernel
theorem dX4_isFull_1 : decode cX4_isFull 1 = .ok (.getfield 22, 3) := by decide +kernel
theorem dX4_isFull_4 : decode cX4_isFull 4 = .ok (.bipush 16, 2) := by decide +kernel
theorem dX4_isFull_6 : decode cX4_isFull 6 = .ok (.if_icmp .lt 7, 3) := by decide +kernel
theorem dX4_isFull_9 : decode cX4_isFull 9 = .ok (.iconst 1, 1) := by decide +kernel
theorem dX4_isFull_10 : decode cX4_isFull 10 = .ok (.goto 4, 3) := by decide +kernel
theorem dX4_isFull_13 : decode cX4_isFull 13 = .ok (.iconst 0, 1) := by decide +kernel
theorem dX4_isFull_14 : decode cX4_isFull 14 = .ok (.ireturn, 1) := by decide +kernel
theorem dX4_isClose_0 : decode cX4_isClose 0 = .ok (.aload_n 0, 1) := by decide +kernel
theorem dX4_isClose_1 : decode cX4_isClose 1 = .ok (.getfield 18, 3) := by decide +kernel
theorem dX4_isClose_4 : decode cX4_isClose 4 = .ok (.iconst (-1), 1) := by decide +kernel
theorem dX4_isClose_5 : decode cX4_isClose 5 = .ok (.if_icmp .eq 20, 3) := by decide +kernel
theorem dX4_isClose_8 : decode cX4_isClose 8 = .ok (.aload_n 0, 1) := by decide +kernel
theorem dX4_isClose_9 : decode cX4_isClose 9 = .ok (.getfield 25, 3) := by decide +kernel
theorem dX4_isClose_12 : decode cX4_isClose 12 = .ok (.iload_n 1, 1) := by decide +kernel
theorem dX4_isClose_13 : decode cX4_isClose 13 = .ok (.iadd, 1) := by decide +kernel
theorem dX4_isClose_14 : decode cX4_isClose 14 = .ok (.aload_n 0, 1) := by decide +kernel
theorem dX4_isClose_15 : decode cX4_isClose 15 = .ok (.getfield 18, 3) := by decide +kernel
theorem dX4_isClose_18 : decode cX4_isClose 18 = .ok (.if_icmp .ne 7, 3) := by decide +kernel
theorem dX4_isClose_21 : decode cX4_isClose 21 = .ok (.iconst 1, 1) := by decide +kernel
theorem dX4_isClose_22 : decode cX4_isClose 22 = .ok (.goto 4, 3) := by decide +kernel
theorem dX4_isClose_25 : decode cX4_isClose 25 = .ok (.iconst 0, 1) := by decide +kernel
theorem dX4_isClose_26 : decode cX4_isClose 26 = .ok (.ireturn, 1) := by decide +kernel
theorem dX4_isCloseAcknowledged_0 : decode cX4_isCloseAcknowledged 0 = .ok (.aload_n 0, 1) := by decide +kernel
theorem dX4_isCloseAcknowledged_1 : decode cX4_isCloseAcknowledged 1 = .ok (.getfield 18, 3) := by decide +kernel
theorem dX4_isCloseAcknowledged_4 : decode cX4_isCloseAcknowledged 4 = .ok (.iconst (-1), 1) := by decide +kernel
theorem dX4_isCloseAcknowledged_5 : decode cX4_isCloseAcknowledged 5 = .ok (.if_icmp .eq 18, 3) := by decide +kernel
theorem dX4_isCloseAcknowledged_8 : decode cX4_isCloseAcknowledged 8 = .ok (.aload_n 0, 1) := by decide +kernel
theorem dX4_isCloseAcknowledged_9 : decode cX4_isCloseAcknowledged 9 = .ok (.getfield 25, 3) := by decide +kernel
theorem dX4_isCloseAcknowledged_12 : decode cX4_isCloseAcknowledged 12 = .ok (.aload_n 0, 1) := by decide +kernel
theorem dX4_isCloseAcknowledged_13 : decode cX4_isCloseAcknowledged 13 = .ok (.getfield 18, 3) := by decide +kernel
theorem dX4_isCloseAcknowledged_16 : decode cX4_isCloseAcknowledged 16 = .ok (.if_icmp .le 7, 3) := by decide +kernel
theorem dX4_isCloseAcknowledged_19 : decode cX4_isCloseAcknowledged 19 = .ok (.iconst 1, 1) := by decide +kernel
theorem dX4_isCloseAcknowledged_20 : decode cX4_isCloseAcknowledged 20 = .ok (.goto 4, 3) := by decide +kernel
theorem dX4_isCloseAcknowledged_23 : decode cX4_isCloseAcknowledged 23 = .ok (.iconst 0, 1) := by decide +kernel
theorem dX4_isCloseAcknowledged_24 : decode cX4_isCloseAcknowledged 24 = .ok (.ireturn, 1) := by decide +kernel
theorem dX4_add_0 : decode cX4_add 0 = .ok (.aload_n 0, 1) := by decide +kernel
theorem dX4_add_1 : decode cX4_add 1 = .ok (.getfield 22, 3) := by decide +kernel
theorem dX4_add_4 : decode cX4_add 4 = .ok (.ifCond .lt 12, 3) := by decide +kernel
theorem dX4_add_7 : decode cX4_add 7 = .ok (.aload_n 0, 1) := by decide +kernel
theorem dX4_add_8 : decode cX4_add 8 = .ok (.getfield 22, 3) := by decide +kernel
theorem dX4_add_11 : decode cX4_add 11 = .ok (.bipush 16, 2) := by decide +kernel
theorem dX4_add_13 : decode cX4_add 13 = .ok (.if_icmp .lt 6, 3) := by decide +kernel
theorem dX4_add_16 : decode cX4_add 16 = .ok (.ldc 34, 2) := by decide +kernel
theorem dX4_add_18 : decode cX4_add 18 = .ok (.ireturn, 1) := by decide +kernel
theorem dX4_add_19 : decode cX4_add 19 = .ok (.aload_n 0, 1) := by decide +kernel
theorem dX4_add_20 : decode cX4_add 20 = .ok (.getfield 25, 3) := by decide +kernel
theorem dX4_add_23 : decode cX4_add 23 = .ok (.aload_n 0, 1) := by decide +kernel
theorem dX4_add_24 : decode cX4_add 24 = .ok (.getfield 22, 3) := by decide +kernel
theorem dX4_add_27 : decode cX4_add 27 = .ok (.iadd, 1) := by decide +kernel
theorem dX4_add_28 : decode cX4_add 28 = .ok (.istore_n 3, 1) := by decide +kernel
theorem dX4_add_29 : decode cX4_add 29 = .ok (.aload_n 0, 1) := by decide +kernel
theorem dX4_add_30 : decode cX4_add 30 = .ok (.getfield 9, 3) := by decide +kernel
theorem dX4_add_33 : decode cX4_add 33 = .ok (.aload_n 0, 1) := by decide +kernel
theorem dX4_add_34 : decode cX4_add 34 = .ok (.getfield 22, 3) := by decide +kernel
theorem dX4_add_37 : decode cX4_add 37 = .ok (.iload_n 1, 1) := by decide +kernel
theorem dX4_add_38 : decode cX4_add 38 = .ok (.iastore, 1) := by decide +kernel
theorem dX4_add_39 : decode cX4_add 39 = .ok (.aload_n 0, 1) := by decide +kernel
theorem dX4_add_40 : decode cX4_add 40 = .ok (.getfield 15, 3) := by decide +kernel
theorem dX4_add_43 : decode cX4_add 43 = .ok (.aload_n 0, 1) := by decide +kernel
theorem dX4_add_44 : decode cX4_add 44 = .ok (.getfield 22, 3) := by decide +kernel
theorem dX4_add_47 : decode cX4_add 47 = .ok (.iconst (-1), 1) := by decide +kernel
theorem dX4_add_48 : decode cX4_add 48 = .ok (.iastore, 1) := by decide +kernel
theorem dX4_add_49 : decode cX4_add 49 = .ok (.aload_n 0, 1) := by decide +kernel
theorem dX4_add_50 : decode cX4_add 50 = .ok (.dup, 1) := by decide +kernel
theorem dX4_add_51 : decode cX4_add 51 = .ok (.getfield 22, 3) := by decide +kernel
theorem dX4_add_54 : decode cX4_add 54 = .ok (.iconst 1, 1) := by decide +kernel
theorem dX4_add_55 : decode cX4_add 55 = .ok (.iadd, 1) := by decide +kernel
theorem dX4_add_56 : decode cX4_add 56 = .ok (.putfield 22, 3) := by decide +kernel
theorem dX4_add_59 : decode cX4_add 59 = .ok (.iload_n 2, 1) := by decide +kernel
theorem dX4_add_60 : decode cX4_add 60 = .ok (.ifCond .eq 8, 3) := by decide +kernel
theorem dX4_add_63 : decode cX4_add 63 = .ok (.aload_n 0, 1) := by decide +kernel
theorem dX4_add_64 : decode cX4_add 64 = .ok (.iload_n 3, 1) := by decide +kernel
theorem dX4_add_65 : decode cX4_add 65 = .ok (.putfield 18, 3) := by decide +kernel
theorem dX4_add_68 : decode cX4_add 68 = .ok (.iload_n 3, 1) := by decide +kernel
theorem dX4_add_69 : decode cX4_add 69 = .ok (.ireturn, 1) := by decide +kernel
theorem dX4_acknowledge_0 : decode cX4_acknowledge 0 = .ok (.iload_n 1, 1) := by decide +kernel
theorem dX4_acknowledge_1 : decode cX4_acknowledge 1 = .ok (.aload_n 0, 1) := by decide +kernel
theorem dX4_acknowledge_2 : decode cX4_acknowledge 2 = .ok (.getfield 25, 3) := by decide +kernel
theorem dX4_acknowledge_5 : decode cX4_acknowledge 5 = .ok (.isub, 1) := by decide +kernel
theorem dX4_acknowledge_6 : decode cX4_acknowledge 6 = .ok (.aload_n 0, 1) := by decide +kernel
theorem dX4_acknowledge_7 : decode cX4_acknowledge 7 = .ok (.getfield 22, 3) := by decide +kernel
theorem dX4_acknowledge_10 : decode cX4_acknowledge 10 = .ok (.invokestatic 35, 3) := by decide +kernel
theorem dX4_acknowledge_13 : decode cX4_acknowledge 13 = .ok (.istore_n 2, 1) := by decide +kernel
theorem dX4_acknowledge_14 : decode cX4_acknowledge 14 = .ok (.iload_n 2, 1) := by decide +kernel
theorem dX4_acknowledge_15 : decode cX4_acknowledge 15 = .ok (.ifCond .gt 4, 3) := by decide +kernel
theorem dX4_acknowledge_18 : decode cX4_acknowledge 18 = .ok (.return_, 1) := by decide +kernel
theorem dX4_acknowledge_19 : decode cX4_acknowledge 19 = .ok (.iload_n 2, 1) := by decide +kernel
theorem dX4_acknowledge_20 : decode cX4_acknowledge 20 = .ok (.istore_n 3, 1) := by decide +kernel
theorem dX4_acknowledge_21 : decode cX4_acknowledge 21 = .ok (.iload_n 3, 1) := by decide +kernel
theorem dX4_acknowledge_22 : decode cX4_acknowledge 22 = .ok (.aload_n 0, 1) := by decide +kernel
theorem dX4_acknowledge_23 : decode cX4_acknowledge 23 = .ok (.getfield 22, 3) := by decide +kernel
theorem dX4_acknowledge_26 : decode cX4_acknowledge 26 = .ok (.if_icmp .ge 43, 3) := by decide +kernel
theorem dX4_acknowledge_29 : decode cX4_acknowledge 29 = .ok (.iload_n 3, 1) := by decide +kernel
theorem dX4_acknowledge_30 : decode cX4_acknowledge 30 = .ok (.bipush 16, 2) := by decide +kernel
theorem dX4_acknowledge_32 : decode cX4_acknowledge 32 = .ok (.if_icmp .ge 37, 3) := by decide +kernel
theorem dX4_acknowledge_35 : decode cX4_acknowledge 35 = .ok (.aload_n 0, 1) := by decide +kernel
theorem dX4_acknowledge_36 : decode cX4_acknowledge 36 = .ok (.getfield 9, 3) := by decide +kernel
theorem dX4_acknowledge_39 : decode cX4_acknowledge 39 = .ok (.iload_n 3, 1) := by decide +kernel
theorem dX4_acknowledge_40 : decode cX4_acknowledge 40 = .ok (.iload_n 2, 1) := by decide +kernel
theorem dX4_acknowledge_41 : decode cX4_acknowledge 41 = .ok (.isub, 1) := by decide +kernel
theorem dX4_acknowledge_42 : decode cX4_acknowledge 42 = .ok (.aload_n 0, 1) := by decide +kernel
theorem dX4_acknowledge_43 : decode cX4_acknowledge 43 = .ok (.getfield 9, 3) := by decide +kernel
theorem dX4_acknowledge_46 : decode cX4_acknowledge 46 = .ok (.iload_n 3, 1) := by decide +kernel
theorem dX4_acknowledge_47 : decode cX4_acknowledge 47 = .ok (.iaload, 1) := by decide +kernel
theorem dX4_acknowledge_48 : decode cX4_acknowledge 48 = .ok (.iastore, 1) := by decide +kernel
theorem dX4_acknowledge_49 : decode cX4_acknowledge 49 = .ok (.aload_n 0, 1) := by decide +kernel
theorem dX4_acknowledge_50 : decode cX4_acknowledge 50 = .ok (.getfield 15, 3) := by decide +kernel
theorem dX4_acknowledge_53 : decode cX4_acknowledge 53 = .ok (.iload_n 3, 1) := by decide +kernel
theorem dX4_acknowledge_54 : decode cX4_acknowledge 54 = .ok (.iload_n 2, 1) := by decide +kernel
theorem dX4_acknowledge_55 : decode cX4_acknowledge 55 = .ok (.isub, 1) := by decide +kernel
theorem dX4_acknowledge_56 : decode cX4_acknowledge 56 = .ok (.aload_n 0, 1) := by decide +kernel
theorem dX4_acknowledge_57 : decode cX4_acknowledge 57 = .ok (.getfield 15, 3) := by decide +kernel
theorem dX4_acknowledge_60 : decode cX4_acknowledge 60 = .ok (.iload_n 3, 1) := by decide +kernel
theorem dX4_acknowledge_61 : decode cX4_acknowledge 61 = .ok (.iaload, 1) := by decide +kernel
theorem dX4_acknowledge_62 : decode cX4_acknowledge 62 = .ok (.iastore, 1) := by decide +kernel
theorem dX4_acknowledge_63 : decode cX4_acknowledge 63 = .ok (.iinc 3 1, 3) := by decide +kernel
theorem dX4_acknowledge_66 : decode cX4_acknowledge 66 = .ok (.goto (-45), 3) := by decide +kernel
theorem dX4_acknowledge_69 : decode cX4_acknowledge 69 = .ok (.aload_n 0, 1) := by decide +kernel
theorem dX4_acknowledge_70 : decode cX4_acknowledge 70 = .ok (.dup, 1) := by decide +kernel
theorem dX4_acknowledge_71 : decode cX4_acknowledge 71 = .ok (.getfield 22, 3) := by decide +kernel
theorem dX4_acknowledge_74 : decode cX4_acknowledge 74 = .ok (.iload_n 2, 1) := by decide +kernel
theorem dX4_acknowledge_75 : decode cX4_acknowledge 75 = .ok (.isub, 1) := by decide +kernel
theorem dX4_acknowledge_76 : decode cX4_acknowledge 76 = .ok (.putfield 22, 3) := by decide +kernel
theorem dX4_acknowledge_79 : decode cX4_acknowledge 79 = .ok (.aload_n 0, 1) := by decide +kernel
theorem dX4_acknowledge_80 : decode cX4_acknowledge 80 = .ok (.dup, 1) := by decide +kernel
theorem dX4_acknowledge_81 : decode cX4_acknowledge 81 = .ok (.getfield 25, 3) := by decide +kernel
theorem dX4_acknowledge_84 : decode cX4_acknowledge 84 = .ok (.iload_n 2, 1) := by decide +kernel
theorem dX4_acknowledge_85 : decode cX4_acknowledge 85 = .ok (.iadd, 1) := by decide +kernel
theorem dX4_acknowledge_86 : decode cX4_acknowledge 86 = .ok (.putfield 25, 3) := by decide +kernel
theorem dX4_acknowledge_89 : decode cX4_acknowledge 89 = .ok (.return_, 1) := by decide +kernel
theorem dX4_forgetSent_0 : decode cX4_forgetSent 0 = .ok (.iconst 0, 1) := by decide +kernel
theorem dX4_forgetSent_1 : decode cX4_forgetSent 1 = .ok (.istore_n 1, 1) := by decide +kernel
theorem dX4_forgetSent_2 : decode cX4_forgetSent 2 = .ok (.iload_n 1, 1) := by decide +kernel
theorem dX4_forgetSent_3 : decode cX4_forgetSent 3 = .ok (.bipush 16, 2) := by decide +kernel
theorem dX4_forgetSent_5 : decode cX4_forgetSent 5 = .ok (.if_icmp .ge 16, 3) := by decide +kernel
theorem dX4_forgetSent_8 : decode cX4_forgetSent 8 = .ok (.aload_n 0, 1) := by decide +kernel
theorem dX4_forgetSent_9 : decode cX4_forgetSent 9 = .ok (.getfield 15, 3) := by decide +kernel
theorem dX4_forgetSent_12 : decode cX4_forgetSent 12 = .ok (.iload_n 1, 1) := by decide +kernel
theorem dX4_forgetSent_13 : decode cX4_forgetSent 13 = .ok (.iconst (-1), 1) := by decide +kernel
theorem dX4_forgetSent_14 : decode cX4_forgetSent 14 = .ok (.iastore, 1) := by decide +kernel
theorem dX4_forgetSent_15 : decode cX4_forgetSent 15 = .ok (.iinc 1 1, 3) := by decide +kernel
theorem dX4_forgetSent_18 : decode cX4_forgetSent 18 = .ok (.goto (-16), 3) := by decide +kernel
theorem dX4_forgetSent_21 : decode cX4_forgetSent 21 = .ok (.return_, 1) := by decide +kernel
theorem dX4_forgetSentUntil_0 : decode cX4_forgetSentUntil 0 = .ok (.iconst 0, 1) := by decide +kernel
theorem dX4_forgetSentUntil_1 : decode cX4_forgetSentUntil 1 = .ok (.istore_n 2, 1) := by decide +kernel
theorem dX4_forgetSentUntil_2 : decode cX4_forgetSentUntil 2 = .ok (.iload_n 2, 1) := by decide +kernel
theorem dX4_forgetSentUntil_3 : decode cX4_forgetSentUntil 3 = .ok (.bipush 16, 2) := by decide +kernel
theorem dX4_forgetSentUntil_5 : decode cX4_forgetSentUntil 5 = .ok (.if_icmp .ge 26, 3) := by decide +kernel
theorem dX4_forgetSentUntil_8 : decode cX4_forgetSentUntil 8 = .ok (.aload_n 0, 1) := by decide +kernel
theorem dX4_forgetSentUntil_9 : decode cX4_forgetSentUntil 9 = .ok (.getfield 15, 3) := by decide +kernel
theorem dX4_forgetSentUntil_12 : decode cX4_forgetSentUntil 12 = .ok (.iload_n 2, 1) := by decide +kernel
theorem dX4_forgetSentUntil_13 : decode cX4_forgetSentUntil 13 = .ok (.iaload, 1) := by decide +kernel
theorem dX4_forgetSentUntil_14 : decode cX4_forgetSentUntil 14 = .ok (.iload_n 1, 1) := by decide +kernel
theorem dX4_forgetSentUntil_15 : decode cX4_forgetSentUntil 15 = .ok (.if_icmp .gt 10, 3) := by decide +kernel
theorem dX4_forgetSentUntil_18 : decode cX4_forgetSentUntil 18 = .ok (.aload_n 0, 1) := by decide +kernel
theorem dX4_forgetSentUntil_19 : decode cX4_forgetSentUntil 19 = .ok (.getfield 15, 3) := by decide +kernel
theorem dX4_forgetSentUntil_22 : decode cX4_forgetSentUntil 22 = .ok (.iload_n 2, 1) := by decide +kernel
theorem dX4_forgetSentUntil_23 : decode cX4_forgetSentUntil 23 = .ok (.iconst (-1), 1) := by decide +kernel
theorem dX4_forgetSentUntil_24 : decode cX4_forgetSentUntil 24 = .ok (.iastore, 1) := by decide +kernel
theorem dX4_forgetSentUntil_25 : decode cX4_forgetSentUntil 25 = .ok (.iinc 2 1, 3) := by decide +kernel
theorem dX4_forgetSentUntil_28 : decode cX4_forgetSentUntil 28 = .ok (.goto (-26), 3) := by decide +kernel
theorem dX4_forgetSentUntil_31 : decode cX4_forgetSentUntil 31 = .ok (.return_, 1) := by decide +kernel
theorem dX4_part_0 : decode cX4_part 0 = .ok (.iload_n 1, 1) := by decide +kernel
theorem dX4_part_1 : decode cX4_part 1 = .ok (.ifCond .lt 17, 3) := by decide +kernel
theorem dX4_part_4 : decode cX4_part 4 = .ok (.iload_n 1, 1) := by decide +kernel
theorem dX4_part_5 : decode cX4_part 5 = .ok (.aload_n 0, 1) := by decide +kernel
theorem dX4_part_6 : decode cX4_part 6 = .ok (.getfield 22, 3) := by decide +kernel
theorem dX4_part_9 : decode cX4_part 9 = .ok (.if_icmp .ge 9, 3) := by decide +kernel
theorem dX4_part_12 : decode cX4_part 12 = .ok (.iload_n 1, 1) := by decide +kernel
theorem dX4_part_13 : decode cX4_part 13 = .ok (.bipush 16, 2) := by decide +kernel
theorem dX4_part_15 : decode cX4_part 15 = .ok (.if_icmp .lt 6, 3) := by decide +kernel
theorem dX4_part_18 : decode cX4_part 18 = .ok (.ldc 41, 2) := by decide +kernel
theorem dX4_part_20 : decode cX4_part 20 = .ok (.ireturn, 1) := by decide +kernel
theorem dX4_part_21 : decode cX4_part 21 = .ok (.iload_n 2, 1) := by decide +kernel
theorem dX4_part_22 : decode cX4_part 22 = .ok (.tableswitch 65 0 3 #[30, 37, 44, 58], 30) := by decide +kernel
theorem dX4_part_52 : decode cX4_part 52 = .ok (.aload_n 0, 1) := by decide +kernel
theorem dX4_part_53 : decode cX4_part 53 = .ok (.getfield 25, 3) := by decide +kernel
theorem dX4_part_56 : decode cX4_part 56 = .ok (.iload_n 1, 1) := by decide +kernel
theorem dX4_part_57 : decode cX4_part 57 = .ok (.iadd, 1) := by decide +kernel
theorem dX4_part_58 : decode cX4_part 58 = .ok (.ireturn, 1) := by decide +kernel
theorem dX4_part_59 : decode cX4_part 59 = .ok (.aload_n 0, 1) := by decide +kernel
theorem dX4_part_60 : decode cX4_part 60 = .ok (.getfield 9, 3) := by decide +kernel
theorem dX4_part_63 : decode cX4_part 63 = .ok (.iload_n 1, 1) := by decide +kernel
theorem dX4_part_64 : decode cX4_part 64 = .ok (.iaload, 1) := by decide +kernel
theorem dX4_part_65 : decode cX4_part 65 = .ok (.ireturn, 1) := by decide +kernel
theorem dX4_part_66 : decode cX4_part 66 = .ok (.aload_n 0, 1) := by decide +kernel
theorem dX4_part_67 : decode cX4_part 67 = .ok (.iload_n 1, 1) := by decide +kernel
theorem dX4_part_68 : decode cX4_part 68 = .ok (.invokevirtual 42, 3) := by decide +kernel
theorem dX4_part_71 : decode cX4_part 71 = .ok (.ifCond .eq 7, 3) := by decide +kernel
theorem dX4_part_74 : decode cX4_part 74 = .ok (.iconst 1, 1) := by decide +kernel
theorem dX4_part_75 : decode cX4_part 75 = .ok (.goto 4, 3) := by decide +kernel
theorem dX4_part_78 : decode cX4_part 78 = .ok (.iconst 0, 1) := by decide +kernel
theorem dX4_part_79 : decode cX4_part 79 = .ok (.ireturn, 1) := by decide +kernel
theorem dX4_part_80 : decode cX4_part 80 = .ok (.aload_n 0, 1) := by decide +kernel
theorem dX4_part_81 : decode cX4_part 81 = .ok (.getfield 15, 3) := by decide +kernel
theorem dX4_part_84 : decode cX4_part 84 = .ok (.iload_n 1, 1) := by decide +kernel
theorem dX4_part_85 : decode cX4_part 85 = .ok (.iaload, 1) := by decide +kernel
theorem dX4_part_86 : decode cX4_part 86 = .ok (.ireturn, 1) := by decide +kernel
theorem dX4_part_87 : decode cX4_part 87 = .ok (.ldc 46, 2) := by decide +kernel
theorem dX4_part_89 : decode cX4_part 89 = .ok (.ireturn, 1) := by decide +kernel
theorem dX5_init_0 : decode cX5_init 0 = .ok (.aload_n 0, 1) := by decide +kernel
theorem dX5_init_1 : decode cX5_init 1 = .ok (.invokespecial 3, 3) := by decide +kernel
theorem dX5_init_4 : decode cX5_init 4 = .ok (.return_, 1) := by decide +kernel
theorem dX5_fill_0 : decode cX5_fill 0 = .ok (.aload_n 0, 1) := by decide +kernel
theorem dX5_fill_1 : decode cX5_fill 1 = .ok (.iload_n 1, 1) := by decide +kernel
theorem dX5_fill_2 : decode cX5_fill 2 = .ok (.putfield 9, 3) := by decide +kernel
theorem dX5_fill_5 : decode cX5_fill 5 = .ok (.aload_n 0, 1) := by decide +kernel
theorem dX5_fill_6 : decode cX5_fill 6 = .ok (.iload_n 2, 1) := by decide +kernel
theorem dX5_fill_7 : decode cX5_fill 7 = .ok (.putfield 15, 3) := by decide +kernel
theorem dX5_fill_10 : decode cX5_fill 10 = .ok (.aload_n 0, 1) := by decide +kernel
theorem dX5_fill_11 : decode cX5_fill 11 = .ok (.iload_n 3, 1) := by decide +kernel
theorem dX5_fill_12 : decode cX5_fill 12 = .ok (.putfield 18, 3) := by decide +kernel
theorem dX5_fill_15 : decode cX5_fill 15 = .ok (.aload_n 0, 1) := by decide +kernel
theorem dX5_fill_16 : decode cX5_fill 16 = .ok (.iconst 0, 1) := by decide +kernel
theorem dX5_fill_17 : decode cX5_fill 17 = .ok (.putfield 21, 3) := by decide +kernel
theorem dX5_fill_20 : decode cX5_fill 20 = .ok (.aload_n 0, 1) := by decide +kernel
theorem dX5_fill_21 : decode cX5_fill 21 = .ok (.iconst 0, 1) := by decide +kernel
theorem dX5_fill_22 : decode cX5_fill 22 = .ok (.putfield 24, 3) := by decide +kernel
theorem dX5_fill_25 : decode cX5_fill 25 = .ok (.aload_n 0, 1) := by decide +kernel
theorem dX5_fill_26 : decode cX5_fill 26 = .ok (.iload 4, 2) := by decide +kernel
theorem dX5_fill_28 : decode cX5_fill 28 = .ok (.putfield 27, 3) := by decide +kernel
theorem dX5_fill_31 : decode cX5_fill 31 = .ok (.aload_n 0, 1) := by decide +kernel
theorem dX5_fill_32 : decode cX5_fill 32 = .ok (.iload 5, 2) := by decide +kernel
theorem dX5_fill_34 : decode cX5_fill 34 = .ok (.putfield 30, 3) := by decide +kernel
theorem dX5_fill_37 : decode cX5_fill 37 = .ok (.aload_n 0, 1) := by decide +kernel
theorem dX5_fill_38 : decode cX5_fill 38 = .ok (.iconst 0, 1) := by decide +kernel
theorem dX5_fill_39 : decode cX5_fill 39 = .ok (.putfield 33, 3) := by decide +kernel
theorem dX5_fill_42 : decode cX5_fill 42 = .ok (.aload_n 0, 1) := by decide +kernel
theorem dX5_fill_43 : decode cX5_fill 43 = .ok (.iconst 0, 1) := by decide +kernel
theorem dX5_fill_44 : decode cX5_fill 44 = .ok (.putfield 36, 3) := by decide +kernel
theorem dX5_fill_47 : decode cX5_fill 47 = .ok (.return_, 1) := by decide +kernel
theorem dX5_copyFrom_0 : decode cX5_copyFrom 0 = .ok (.aload_n 0, 1) := by decide +kernel
theorem dX5_copyFrom_1 : decode cX5_copyFrom 1 = .ok (.aload_n 1, 1) := by decide +kernel
theorem dX5_copyFrom_2 : decode cX5_copyFrom 2 = .ok (.getfield 9, 3) := by decide +kernel
theorem dX5_copyFrom_5 : decode cX5_copyFrom 5 = .ok (.putfield 9, 3) := by decide +kernel
theorem dX5_copyFrom_8 : decode cX5_copyFrom 8 = .ok (.aload_n 0, 1) := by decide +kernel
theorem dX5_copyFrom_9 : decode cX5_copyFrom 9 = .ok (.aload_n 1, 1) := by decide +kernel
theorem dX5_copyFrom_10 : decode cX5_copyFrom 10 = .ok (.getfield 15, 3) := by decide +kernel
theorem dX5_copyFrom_13 : decode cX5_copyFrom 13 = .ok (.putfield 15, 3) := by decide +kernel
theorem dX5_copyFrom_16 : decode cX5_copyFrom 16 = .ok (.aload_n 0, 1) := by decide +kernel
theorem dX5_copyFrom_17 : decode cX5_copyFrom 17 = .ok (.aload_n 1, 1) := by decide +kernel
theorem dX5_copyFrom_18 : decode cX5_copyFrom 18 = .ok (.getfield 18, 3) := by decide +kernel
theorem dX5_copyFrom_21 : decode cX5_copyFrom 21 = .ok (.putfield 18, 3) := by decide +kernel
theorem dX5_copyFrom_24 : decode cX5_copyFrom 24 = .ok (.aload_n 0, 1) := by decide +kernel
theorem dX5_copyFrom_25 : decode cX5_copyFrom 25 = .ok (.aload_n 1, 1) := by decide +kernel
theorem dX5_copyFrom_26 : decode cX5_copyFrom 26 = .ok (.getfield 21, 3) := by decide +kernel
theorem dX5_copyFrom_29 : decode cX5_copyFrom 29 = .ok (.putfield 21, 3) := by decide +kernel
theorem dX5_copyFrom_32 : decode cX5_copyFrom 32 = .ok (.aload_n 0, 1) := by decide +kernel
theorem dX5_copyFrom_33 : decode cX5_copyFrom 33 = .ok (.aload_n 1, 1) := by decide +kernel
theorem dX5_copyFrom_34 : decode cX5_copyFrom 34 = .ok (.getfield 24, 3) := by decide +kernel
theorem dX5_copyFrom_37 : decode cX5_copyFrom 37 = .ok (.putfield 24, 3) := by decide +kernel
theorem dX5_copyFrom_40 : decode cX5_copyFrom 40 = .ok (.aload_n 0, 1) := by decide +kernel
theorem dX5_copyFrom_41 : decode cX5_copyFrom 41 = .ok (.aload_n 1, 1) := by decide +kernel
theorem dX5_copyFrom_42 : decode cX5_copyFrom 42 = .ok (.getfield 27, 3) := by decide +kernel
theorem dX5_copyFrom_45 : decode cX5_copyFrom 45 = .ok (.putfield 27, 3) := by decide +kernel
theorem dX5_copyFrom_48 : decode cX5_copyFrom 48 = .ok (.aload_n 0, 1) := by decide +kernel
theorem dX5_copyFrom_49 : decode cX5_copyFrom 49 = .ok (.aload_n 1, 1) := by decide +kernel
theorem dX5_copyFrom_50 : decode cX5_copyFrom 50 = .ok (.getfield 30, 3) := by decide +kernel
theorem dX5_copyFrom_53 : decode cX5_copyFrom 53 = .ok (.putfield 30, 3) := by decide +kernel
theorem dX5_copyFrom_56 : decode cX5_copyFrom 56 = .ok (.aload_n 0, 1) := by decide +kernel
theorem dX5_copyFrom_57 : decode cX5_copyFrom 57 = .ok (.aload_n 1, 1) := by decide +kernel
theorem dX5_copyFrom_58 : decode cX5_copyFrom 58 = .ok (.getfield 33, 3) := by decide +kernel
theorem dX5_copyFrom_61 : decode cX5_copyFrom 61 = .ok (.putfield 33, 3) := by decide +kernel
theorem dX5_copyFrom_64 : decode cX5_copyFrom 64 = .ok (.aload_n 0, 1) := by decide +kernel
theorem dX5_copyFrom_65 : decode cX5_copyFrom 65 = .ok (.aload_n 1, 1) := by decide +kernel
theorem dX5_copyFrom_66 : decode cX5_copyFrom 66 = .ok (.getfield 36, 3) := by decide +kernel
theorem dX5_copyFrom_69 : decode cX5_copyFrom 69 = .ok (.putfield 36, 3) := by decide +kernel
theorem dX5_copyFrom_72 : decode cX5_copyFrom 72 = .ok (.return_, 1) := by decide +kernel
theorem dX5_isProtected_0 : decode cX5_isProtected 0 = .ok (.aload_n 0, 1) := by decide +kernel
theorem dX5_isProtected_1 : decode cX5_isProtected 1 = .ok (.getfield 15, 3) := by decide +kernel
theorem dX5_isProtected_4 : decode cX5_isProtected 4 = .ok (.iconst 3, 1) := by decide +kernel
theorem dX5_isProtected_5 : decode cX5_isProtected 5 = .ok (.if_icmp .lt 7, 3) := by decide +kernel
theorem dX5_isProtected_8 : decode cX5_isProtected 8 = .ok (.iconst 1, 1) := by decide +kernel
theorem dX5_isProtected_9 : decode cX5_isProtected 9 = .ok (.goto 4, 3) := by decide +kernel
theorem dX5_isProtected_12 : decode cX5_isProtected 12 = .ok (.iconst 0, 1) := by decide +kernel
theorem dX5_isProtected_13 : decode cX5_isProtected 13 = .ok (.ireturn, 1) := by decide +kernel
theorem dX5_bringsMessage_0 : decode cX5_bringsMessage 0 = .ok (.aload_n 0, 1) := by decide +kernel
theorem dX5_bringsMessage_1 : decode cX5_bringsMessage 1 = .ok (.getfield 15, 3) := by decide +kernel
theorem dX5_bringsMessage_4 : decode cX5_bringsMessage 4 = .ok (.iconst 4, 1) := by decide +kernel
theorem dX5_bringsMessage_5 : decode cX5_bringsMessage 5 = .ok (.if_icmp .eq 12, 3) := by decide +kernel
theorem dX5_bringsMessage_8 : decode cX5_bringsMessage 8 = .ok (.aload_n 0, 1) := by decide +kernel
theorem dX5_bringsMessage_9 : decode cX5_bringsMessage 9 = .ok (.getfield 15, 3) := by decide +kernel
theorem dX5_bringsMessage_12 : decode cX5_bringsMessage 12 = .ok (.bipush 7, 2) := by decide +kernel
theorem dX5_bringsMessage_14 : decode cX5_bringsMessage 14 = .ok (.if_icmp .ne 7, 3) := by decide +kernel
theorem dX5_bringsMessage_17 : decode cX5_bringsMessage 17 = .ok (.iconst 1, 1) := by decide +kernel
theorem dX5_bringsMessage_18 : decode cX5_bringsMessage 18 = .ok (.goto 4, 3) := by decide +kernel
theorem dX5_bringsMessage_21 : decode cX5_bringsMessage 21 = .ok (.iconst 0, 1) := by decide +kernel
theorem dX5_bringsMessage_22 : decode cX5_bringsMessage 22 = .ok (.ireturn, 1) := by decide +kernel
theorem dX5_part_0 : decode cX5_part 0 = .ok (.iload_n 1, 1) := by decide +kernel
theorem dX5_part_1 : decode cX5_part 1 = .ok (.tableswitch 96 0 8 #[51, 56, 61, 66, 71, 76, 81, 86, 91], 51) := by decide +kernel
theorem dX5_part_52 : decode cX5_part 52 = .ok (.aload_n 0, 1) := by decide +kernel
theorem dX5_part_53 : decode cX5_part 53 = .ok (.getfield 9, 3) := by decide +kernel
theorem dX5_part_56 : decode cX5_part 56 = .ok (.ireturn, 1) := by decide +kernel
theorem dX5_part_57 : decode cX5_part 57 = .ok (.aload_n 0, 1) := by decide +kernel
theorem dX5_part_58 : decode cX5_part 58 = .ok (.getfield 15, 3) := by decide +kernel
theorem dX5_part_61 : decode cX5_part 61 = .ok (.ireturn, 1) := by decide +kernel
theorem dX5_part_62 : decode cX5_part 62 = .ok (.aload_n 0, 1) := by decide +kernel
theorem dX5_part_63 : decode cX5_part 63 = .ok (.getfield 18, 3) := by decide +kernel
theorem dX5_part_66 : decode cX5_part 66 = .ok (.ireturn, 1) := by decide +kernel
theorem dX5_part_67 : decode cX5_part 67 = .ok (.aload_n 0, 1) := by decide +kernel
theorem dX5_part_68 : decode cX5_part 68 = .ok (.getfield 21, 3) := by decide +kernel
theorem dX5_part_71 : decode cX5_part 71 = .ok (.ireturn, 1) := by decide +kernel
theorem dX5_part_72 : decode cX5_part 72 = .ok (.aload_n 0, 1) := by decide +kernel
theorem dX5_part_73 : decode cX5_part 73 = .ok (.getfield 24, 3) := by decide +kernel
theorem dX5_part_76 : decode cX5_part 76 = .ok (.ireturn, 1) := by decide +kernel
theorem dX5_part_77 : decode cX5_part 77 = .ok (.aload_n 0, 1) := by decide +kernel
theorem dX5_part_78 : decode cX5_part 78 = .ok (.getfield 27, 3) := by decide +kernel
theorem dX5_part_81 : decode cX5_part 81 = .ok (.ireturn, 1) := by decide +kernel
theorem dX5_part_82 : decode cX5_part 82 = .ok (.aload_n 0, 1) := by decide +kernel
theorem dX5_part_83 : decode cX5_part 83 = .ok (.getfield 30, 3) := by decide +kernel
theorem dX5_part_86 : decode cX5_part 86 = .ok (.ireturn, 1) := by decide +kernel
theorem dX5_part_87 : decode cX5_part 87 = .ok (.aload_n 0, 1) := by decide +kernel
theorem dX5_part_88 : decode cX5_part 88 = .ok (.getfield 33, 3) := by decide +kernel
theorem dX5_part_91 : decode cX5_part 91 = .ok (.ireturn, 1) := by decide +kernel
theorem dX5_part_92 : decode cX5_part 92 = .ok (.aload_n 0, 1) := by decide +kernel
theorem dX5_part_93 : decode cX5_part 93 = .ok (.getfield 36, 3) := by decide +kernel
theorem dX5_part_96 : decode cX5_part 96 = .ok (.ireturn, 1) := by decide +kernel
theorem dX5_part_97 : decode cX5_part 97 = .ok (.ldc 39, 2) := by decide +kernel
theorem dX5_part_99 : decode cX5_part 99 = .ok (.ireturn, 1) := by decide +kernel
theorem dX6_init_0 : decode cX6_init 0 = .ok (.aload_n 0, 1) := by decide +kernel
theorem dX6_init_1 : decode cX6_init 1 = .ok (.invokespecial 3, 3) := by decide +kernel
theorem dX6_init_4 : decode cX6_init 4 = .ok (.aload_n 0, 1) := by decide +kernel
theorem dX6_init_5 : decode cX6_init 5 = .ok (.bipush 40, 2) := by decide +kernel
theorem dX6_init_7 : decode cX6_init 7 = .ok (.newarray .int, 2) := by decide +kernel
theorem dX6_init_9 : decode cX6_init 9 = .ok (.putfield 9, 3) := by decide +kernel
theorem dX6_init_12 : decode cX6_init 12 = .ok (.aload_n 0, 1) := by decide +kernel
theorem dX6_init_13 : decode cX6_init 13 = .ok (.bipush 40, 2) := by decide +kernel
theorem dX6_init_15 : decode cX6_init 15 = .ok (.newarray .int, 2) := by decide +kernel
theorem dX6_init_17 : decode cX6_init 17 = .ok (.putfield 15, 3) := by decide +kernel
theorem dX6_init_20 : decode cX6_init 20 = .ok (.aload_n 0, 1) := by decide +kernel
theorem dX6_init_21 : decode cX6_init 21 = .ok (.bipush 40, 2) := by decide +kernel
theorem dX6_init_23 : decode cX6_init 23 = .ok (.newarray .int, 2) := by decide +kernel
theorem dX6_init_25 : decode cX6_init 25 = .ok (.putfield 18, 3) := by decide +kernel
theorem dX6_init_28 : decode cX6_init 28 = .ok (.aload_n 0, 1) := by decide +kernel
theorem dX6_init_29 : decode cX6_init 29 = .ok (.bipush 40, 2) := by decide +kernel
theorem dX6_init_31 : decode cX6_init 31 = .ok (.newarray .int, 2) := by decide +kernel
theorem dX6_init_33 : decode cX6_init 33 = .ok (.putfield 21, 3) := by decide +kernel
theorem dX6_init_36 : decode cX6_init 36 = .ok (.return_, 1) := by decide +kernel
theorem dX6_extend_0 : decode cX6_extend 0 = .ok (.iconst 0, 1) := by decide +kernel
theorem dX6_extend_1 : decode cX6_extend 1 = .ok (.istore_n 3, 1) := by decide +kernel
theorem dX6_extend_2 : decode cX6_extend 2 = .ok (.iload_n 3, 1) := by decide +kernel
theorem dX6_extend_3 : decode cX6_extend 3 = .ok (.iload_n 2, 1) := by decide +kernel
theorem dX6_extend_4 : decode cX6_extend 4 = .ok (.if_icmp .ge 45, 3) := by decide +kernel
theorem dX6_extend_7 : decode cX6_extend 7 = .ok (.aload_n 0, 1) := by decide +kernel
theorem dX6_extend_8 : decode cX6_extend 8 = .ok (.getfield 24, 3) := by decide +kernel
theorem dX6_extend_11 : decode cX6_extend 11 = .ok (.ifCond .lt 38, 3) := by decide +kernel
theorem dX6_extend_14 : decode cX6_extend 14 = .ok (.aload_n 0, 1) := by decide +kernel
theorem dX6_extend_15 : decode cX6_extend 15 = .ok (.getfield 24, 3) := by decide +kernel
theorem dX6_extend_18 : decode cX6_extend 18 = .ok (.bipush 40, 2) := by decide +kernel
theorem dX6_extend_20 : decode cX6_extend 20 = .ok (.if_icmp .ge 29, 3) := by decide +kernel
theorem dX6_extend_23 : decode cX6_extend 23 = .ok (.aload_n 0, 1) := by decide +kernel
theorem dX6_extend_24 : decode cX6_extend 24 = .ok (.getfield 9, 3) := by decide +kernel
theorem dX6_extend_27 : decode cX6_extend 27 = .ok (.aload_n 0, 1) := by decide +kernel
theorem dX6_extend_28 : decode cX6_extend 28 = .ok (.getfield 24, 3) := by decide +kernel
theorem dX6_extend_31 : decode cX6_extend 31 = .ok (.iload_n 1, 1) := by decide +kernel
theorem dX6_extend_32 : decode cX6_extend 32 = .ok (.iastore, 1) := by decide +kernel
theorem dX6_extend_33 : decode cX6_extend 33 = .ok (.aload_n 0, 1) := by decide +kernel
theorem dX6_extend_34 : decode cX6_extend 34 = .ok (.dup, 1) := by decide +kernel
theorem dX6_extend_35 : decode cX6_extend 35 = .ok (.getfield 24, 3) := by decide +kernel
theorem dX6_extend_38 : decode cX6_extend 38 = .ok (.iconst 1, 1) := by decide +kernel
theorem dX6_extend_39 : decode cX6_extend 39 = .ok (.iadd, 1) := by decide +kernel
theorem dX6_extend_40 : decode cX6_extend 40 = .ok (.putfield 24, 3) := by decide +kernel
theorem dX6_extend_43 : decode cX6_extend 43 = .ok (.iinc 3 1, 3) := by decide +kernel
theorem dX6_extend_46 : decode cX6_extend 46 = .ok (.goto (-44), 3) := by decide +kernel
theorem dX6_extend_49 : decode cX6_extend 49 = .ok (.return_, 1) := by decide +kernel
theorem dX6_parse_0 : decode cX6_parse 0 = .ok (.aload_n 0, 1) := by decide +kernel
theorem dX6_parse_1 : decode cX6_parse 1 = .ok (.iconst 0, 1) := by decide +kernel
theorem dX6_parse_2 : decode cX6_parse 2 = .ok (.putfield 28, 3) := by decide +kernel
theorem dX6_parse_5 : decode cX6_parse 5 = .ok (.aload_n 0, 1) := by decide +kernel
theorem dX6_parse_6 : decode cX6_parse 6 = .ok (.iconst 0, 1) := by decide +kernel
theorem dX6_parse_7 : decode cX6_parse 7 = .ok (.putfield 31, 3) := by decide +kernel
theorem dX6_parse_10 : decode cX6_parse 10 = .ok (.iconst 0, 1) := by decide +kernel
theorem dX6_parse_11 : decode cX6_parse 11 = .ok (.istore_n 1, 1) := by decide +kernel
theorem dX6_parse_12 : decode cX6_parse 12 = .ok (.iload_n 1, 1) := by decide +kernel
theorem dX6_parse_13 : decode cX6_parse 13 = .ok (.bipush 40, 2) := by decide +kernel
theorem dX6_parse_15 : decode cX6_parse 15 = .ok (.if_icmp .ge 50, 3) := by decide +kernel
theorem dX6_parse_18 : decode cX6_parse 18 = .ok (.aload_n 0, 1) := by decide +kernel
theorem dX6_parse_19 : decode cX6_parse 19 = .ok (.invokevirtual 34, 3) := by decide +kernel
theorem dX6_parse_22 : decode cX6_parse 22 = .ok (.ifCond .eq 43, 3) := by decide +kernel
theorem dX6_parse_25 : decode cX6_parse 25 = .ok (.aload_n 0, 1) := by decide +kernel
theorem dX6_parse_26 : decode cX6_parse 26 = .ok (.getfield 28, 3) := by decide +kernel
theorem dX6_parse_29 : decode cX6_parse 29 = .ok (.aload_n 0, 1) := by decide +kernel
theorem dX6_parse_30 : decode cX6_parse 30 = .ok (.getfield 24, 3) := by decide +kernel
theorem dX6_parse_33 : decode cX6_parse 33 = .ok (.if_icmp .ne 5, 3) := by decide +kernel
theorem dX6_parse_36 : decode cX6_parse 36 = .ok (.iconst 1, 1) := by decide +kernel
theorem dX6_parse_37 : decode cX6_parse 37 = .ok (.ireturn, 1) := by decide +kernel
theorem dX6_parse_38 : decode cX6_parse 38 = .ok (.aload_n 0, 1) := by decide +kernel
theorem dX6_parse_39 : decode cX6_parse 39 = .ok (.invokevirtual 38, 3) := by decide +kernel
theorem dX6_parse_42 : decode cX6_parse 42 = .ok (.bipush 59, 2) := by decide +kernel
theorem dX6_parse_44 : decode cX6_parse 44 = .ok (.if_icmp .eq 5, 3) := by decide +kernel
theorem dX6_parse_47 : decode cX6_parse 47 = .ok (.iconst 0, 1) := by decide +kernel
theorem dX6_parse_48 : decode cX6_parse 48 = .ok (.ireturn, 1) := by decide +kernel
theorem dX6_parse_49 : decode cX6_parse 49 = .ok (.aload_n 0, 1) := by decide +kernel
theorem dX6_parse_50 : decode cX6_parse 50 = .ok (.dup, 1) := by decide +kernel
theorem dX6_parse_51 : decode cX6_parse 51 = .ok (.getfield 28, 3) := by decide +kernel
theorem dX6_parse_54 : decode cX6_parse 54 = .ok (.iconst 1, 1) := by decide +kernel
theorem dX6_parse_55 : decode cX6_parse 55 = .ok (.iadd, 1) := by decide +kernel
theorem dX6_parse_56 : decode cX6_parse 56 = .ok (.putfield 28, 3) := by decide +kernel
theorem dX6_parse_59 : decode cX6_parse 59 = .ok (.iinc 1 1, 3) := by decide +kernel
theorem dX6_parse_62 : decode cX6_parse 62 = .ok (.goto (-50), 3) := by decide +kernel
theorem dX6_parse_65 : decode cX6_parse 65 = .ok (.iconst 0, 1) := by decide +kernel
theorem dX6_parse_66 : decode cX6_parse 66 = .ok (.ireturn, 1) := by decide +kernel
theorem dX6_readAction_0 : decode cX6_readAction 0 = .ok (.aload_n 0, 1) := by decide +kernel
theorem dX6_readAction_1 : decode cX6_readAction 1 = .ok (.invokevirtual 38, 3) := by decide +kernel
theorem dX6_readAction_4 : decode cX6_readAction 4 = .ok (.istore_n 1, 1) := by decide +kernel
theorem dX6_readAction_5 : decode cX6_readAction 5 = .ok (.iload_n 1, 1) := by decide +kernel
theorem dX6_readAction_6 : decode cX6_readAction 6 = .ok (.bipush 100, 2) := by decide +kernel
theorem dX6_readAction_8 : decode cX6_readAction 8 = .ok (.if_icmp .eq 29, 3) := by decide +kernel
theorem dX6_readAction_11 : decode cX6_readAction 11 = .ok (.iload_n 1, 1) := by decide +kernel
theorem dX6_readAction_12 : decode cX6_readAction 12 = .ok (.bipush 120, 2) := by decide +kernel
theorem dX6_readAction_14 : decode cX6_readAction 14 = .ok (.if_icmp .eq 23, 3) := by decide +kernel
theorem dX6_readAction_17 : decode cX6_readAction 17 = .ok (.iload_n 1, 1) := by decide +kernel
theorem dX6_readAction_18 : decode cX6_readAction 18 = .ok (.bipush 117, 2) := by decide +kernel
theorem dX6_readAction_20 : decode cX6_readAction 20 = .ok (.if_icmp .eq 17, 3) := by decide +kernel
theorem dX6_readAction_23 : decode cX6_readAction 23 = .ok (.iload_n 1, 1) := by decide +kernel
theorem dX6_readAction_24 : decode cX6_readAction 24 = .ok (.bipush 116, 2) := by decide +kernel
theorem dX6_readAction_26 : decode cX6_readAction 26 = .ok (.if_icmp .eq 11, 3) := by decide +kernel
theorem dX6_readAction_29 : decode cX6_readAction 29 = .ok (.iload_n 1, 1) := by decide +kernel
theorem dX6_readAction_30 : decode cX6_readAction 30 = .ok (.bipush 115, 2) := by decide +kernel
theorem dX6_readAction_32 : decode cX6_readAction 32 = .ok (.if_icmp .eq 5, 3) := by decide +kernel
theorem dX6_readAction_35 : decode cX6_readAction 35 = .ok (.iconst 0, 1) := by decide +kernel
theorem dX6_readAction_36 : decode cX6_readAction 36 = .ok (.ireturn, 1) := by decide +kernel
theorem dX6_readAction_37 : decode cX6_readAction 37 = .ok (.aload_n 0, 1) := by decide +kernel
theorem dX6_readAction_38 : decode cX6_readAction 38 = .ok (.dup, 1) := by decide +kernel
theorem dX6_readAction_39 : decode cX6_readAction 39 = .ok (.getfield 28, 3) := by decide +kernel
theorem dX6_readAction_42 : decode cX6_readAction 42 = .ok (.iconst 1, 1) := by decide +kernel
theorem dX6_readAction_43 : decode cX6_readAction 43 = .ok (.iadd, 1) := by decide +kernel
theorem dX6_readAction_44 : decode cX6_readAction 44 = .ok (.putfield 28, 3) := by decide +kernel
theorem dX6_readAction_47 : decode cX6_readAction 47 = .ok (.iconst 0, 1) := by decide +kernel
theorem dX6_readAction_48 : decode cX6_readAction 48 = .ok (.istore_n 2, 1) := by decide +kernel
theorem dX6_readAction_49 : decode cX6_readAction 49 = .ok (.iload_n 1, 1) := by decide +kernel
theorem dX6_readAction_50 : decode cX6_readAction 50 = .ok (.bipush 115, 2) := by decide +kernel
theorem dX6_readAction_52 : decode cX6_readAction 52 = .ok (.if_icmp .ne 28, 3) := by decide +kernel
theorem dX6_readAction_55 : decode cX6_readAction 55 = .ok (.aload_n 0, 1) := by decide +kernel
theorem dX6_readAction_56 : decode cX6_readAction 56 = .ok (.invokevirtual 38, 3) := by decide +kernel
theorem dX6_readAction_59 : decode cX6_readAction 59 = .ok (.bipush 48, 2) := by decide +kernel
theorem dX6_readAction_61 : decode cX6_readAction 61 = .ok (.if_icmp .eq 14, 3) := by decide +kernel
theorem dX6_readAction_64 : decode cX6_readAction 64 = .ok (.aload_n 0, 1) := by decide +kernel
theorem dX6_readAction_65 : decode cX6_readAction 65 = .ok (.invokevirtual 38, 3) := by decide +kernel
theorem dX6_readAction_68 : decode cX6_readAction 68 = .ok (.bipush 49, 2) := by decide +kernel
theorem dX6_readAction_70 : decode cX6_readAction 70 = .ok (.if_icmp .eq 5, 3) := by decide +kernel
theorem dX6_readAction_73 : decode cX6_readAction 73 = .ok (.iconst 0, 1) := by decide +kernel
theorem dX6_readAction_74 : decode cX6_readAction 74 = .ok (.ireturn, 1) := by decide +kernel
theorem dX6_readAction_75 : decode cX6_readAction 75 = .ok (.aload_n 0, 1) := by decide +kernel
theorem dX6_readAction_76 : decode cX6_readAction 76 = .ok (.invokevirtual 42, 3) := by decide +kernel
theorem dX6_readAction_79 : decode cX6_readAction 79 = .ok (.istore_n 2, 1) := by decide +kernel
theorem dX6_readAction_80 : decode cX6_readAction 80 = .ok (.iconst 1, 1) := by decide +kernel
theorem dX6_readAction_81 : decode cX6_readAction 81 = .ok (.istore_n 3, 1) := by decide +kernel
theorem dX6_readAction_82 : decode cX6_readAction 82 = .ok (.aload_n 0, 1) := by decide +kernel
theorem dX6_readAction_83 : decode cX6_readAction 83 = .ok (.invokevirtual 45, 3) := by decide +kernel
theorem dX6_readAction_86 : decode cX6_readAction 86 = .ok (.ifCond .eq 11, 3) := by decide +kernel
theorem dX6_readAction_89 : decode cX6_readAction 89 = .ok (.aload_n 0, 1) := by decide +kernel
theorem dX6_readAction_90 : decode cX6_readAction 90 = .ok (.invokevirtual 48, 3) := by decide +kernel
theorem dX6_readAction_93 : decode cX6_readAction 93 = .ok (.istore_n 3, 1) := by decide +kernel
theorem dX6_readAction_94 : decode cX6_readAction 94 = .ok (.goto 11, 3) := by decide +kernel
theorem dX6_readAction_97 : decode cX6_readAction 97 = .ok (.iload_n 1, 1) := by decide +kernel
theorem dX6_readAction_98 : decode cX6_readAction 98 = .ok (.bipush 116, 2) := by decide +kernel
theorem dX6_readAction_100 : decode cX6_readAction 100 = .ok (.if_icmp .eq 5, 3) := by decide +kernel
theorem dX6_readAction_103 : decode cX6_readAction 103 = .ok (.iconst 0, 1) := by decide +kernel
theorem dX6_readAction_104 : decode cX6_readAction 104 = .ok (.ireturn, 1) := by decide +kernel
theorem dX6_readAction_105 : decode cX6_readAction 105 = .ok (.aload_n 0, 1) := by decide +kernel
theorem dX6_readAction_106 : decode cX6_readAction 106 = .ok (.iload_n 1, 1) := by decide +kernel
theorem dX6_readAction_107 : decode cX6_readAction 107 = .ok (.iload_n 2, 1) := by decide +kernel
theorem dX6_readAction_108 : decode cX6_readAction 108 = .ok (.iload_n 3, 1) := by decide +kernel
theorem dX6_readAction_109 : decode cX6_readAction 109 = .ok (.invokevirtual 51, 3) := by decide +kernel
theorem dX6_readAction_112 : decode cX6_readAction 112 = .ok (.iconst 1, 1) := by decide +kernel
theorem dX6_readAction_113 : decode cX6_readAction 113 = .ok (.ireturn, 1) := by decide +kernel
theorem dX6_readNumber_0 : decode cX6_readNumber 0 = .ok (.aload_n 0, 1) := by decide +kernel
theorem dX6_readNumber_1 : decode cX6_readNumber 1 = .ok (.invokevirtual 42, 3) := by decide +kernel
theorem dX6_readNumber_4 : decode cX6_readNumber 4 = .ok (.istore_n 1, 1) := by decide +kernel
theorem dX6_readNumber_5 : decode cX6_readNumber 5 = .ok (.aload_n 0, 1) := by decide +kernel
theorem dX6_readNumber_6 : decode cX6_readNumber 6 = .ok (.invokevirtual 45, 3) := by decide +kernel
theorem dX6_readNumber_9 : decode cX6_readNumber 9 = .ok (.ifCond .eq 15, 3) := by decide +kernel
theorem dX6_readNumber_12 : decode cX6_readNumber 12 = .ok (.iload_n 1, 1) := by decide +kernel
theorem dX6_readNumber_13 : decode cX6_readNumber 13 = .ok (.bipush 10, 2) := by decide +kernel
theorem dX6_readNumber_15 : decode cX6_readNumber 15 = .ok (.imul, 1) := by decide +kernel
theorem dX6_readNumber_16 : decode cX6_readNumber 16 = .ok (.aload_n 0, 1) := by decide +kernel
theorem dX6_readNumber_17 : decode cX6_readNumber 17 = .ok (.invokevirtual 42, 3) := by decide +kernel
theorem dX6_readNumber_20 : decode cX6_readNumber 20 = .ok (.iadd, 1) := by decide +kernel
theorem dX6_readNumber_21 : decode cX6_readNumber 21 = .ok (.goto 4, 3) := by decide +kernel
theorem dX6_readNumber_24 : decode cX6_readNumber 24 = .ok (.iload_n 1, 1) := by decide +kernel
theorem dX6_readNumber_25 : decode cX6_readNumber 25 = .ok (.ireturn, 1) := by decide +kernel
theorem dX6_readDigit_0 : decode cX6_readDigit 0 = .ok (.aload_n 0, 1) := by decide +kernel
theorem dX6_readDigit_1 : decode cX6_readDigit 1 = .ok (.invokevirtual 38, 3) := by decide +kernel
theorem dX6_readDigit_4 : decode cX6_readDigit 4 = .ok (.bipush 48, 2) := by decide +kernel
theorem dX6_readDigit_6 : decode cX6_readDigit 6 = .ok (.isub, 1) := by decide +kernel
theorem dX6_readDigit_7 : decode cX6_readDigit 7 = .ok (.istore_n 1, 1) := by decide +kernel
theorem dX6_readDigit_8 : decode cX6_readDigit 8 = .ok (.aload_n 0, 1) := by decide +kernel
theorem dX6_readDigit_9 : decode cX6_readDigit 9 = .ok (.dup, 1) := by decide +kernel
theorem dX6_readDigit_10 : decode cX6_readDigit 10 = .ok (.getfield 28, 3) := by decide +kernel
theorem dX6_readDigit_13 : decode cX6_readDigit 13 = .ok (.iconst 1, 1) := by decide +kernel
theorem dX6_readDigit_14 : decode cX6_readDigit 14 = .ok (.iadd, 1) := by decide +kernel
theorem dX6_readDigit_15 : decode cX6_readDigit 15 = .ok (.putfield 28, 3) := by decide +kernel
theorem dX6_readDigit_18 : decode cX6_readDigit 18 = .ok (.iload_n 1, 1) := by decide +kernel
theorem dX6_readDigit_19 : decode cX6_readDigit 19 = .ok (.ireturn, 1) := by decide +kernel
theorem dX6_isDigit_0 : decode cX6_isDigit 0 = .ok (.aload_n 0, 1) := by decide +kernel
theorem dX6_isDigit_1 : decode cX6_isDigit 1 = .ok (.invokevirtual 38, 3) := by decide +kernel
theorem dX6_isDigit_4 : decode cX6_isDigit 4 = .ok (.bipush 48, 2) := by decide +kernel
theorem dX6_isDigit_6 : decode cX6_isDigit 6 = .ok (.if_icmp .lt 16, 3) := by decide +kernel
theorem dX6_isDigit_9 : decode cX6_isDigit 9 = .ok (.aload_n 0, 1) := by decide +kernel
theorem dX6_isDigit_10 : decode cX6_isDigit 10 = .ok (.invokevirtual 38, 3) := by decide +kernel
theorem dX6_isDigit_13 : decode cX6_isDigit 13 = .ok (.bipush 57, 2) := by decide +kernel
theorem dX6_isDigit_15 : decode cX6_isDigit 15 = .ok (.if_icmp .gt 7, 3) := by decide +kernel
theorem dX6_isDigit_18 : decode cX6_isDigit 18 = .ok (.iconst 1, 1) := by decide +kernel
theorem dX6_isDigit_19 : decode cX6_isDigit 19 = .ok (.goto 4, 3) := by decide +kernel
theorem dX6_isDigit_22 : decode cX6_isDigit 22 = .ok (.iconst 0, 1) := by decide +kernel
theorem dX6_isDigit_23 : decode cX6_isDigit 23 = .ok (.ireturn, 1) := by decide +kernel
theorem dX6_here_0 : decode cX6_here 0 = .ok (.aload_n 0, 1) := by decide +kernel
theorem dX6_here_1 : decode cX6_here 1 = .ok (.getfield 28, 3) := by decide +kernel
theorem dX6_here_4 : decode cX6_here 4 = .ok (.ifCond .lt 23, 3) := by decide +kernel
theorem dX6_here_7 : decode cX6_here 7 = .ok (.aload_n 0, 1) := by decide +kernel
theorem dX6_here_8 : decode cX6_here 8 = .ok (.getfield 28, 3) := by decide +kernel
theorem dX6_here_11 : decode cX6_here 11 = .ok (.aload_n 0, 1) := by decide +kernel
theorem dX6_here_12 : decode cX6_here 12 = .ok (.getfield 24, 3) := by decide +kernel
theorem dX6_here_15 : decode cX6_here 15 = .ok (.if_icmp .ge 12, 3) := by decide +kernel
theorem dX6_here_18 : decode cX6_here 18 = .ok (.aload_n 0, 1) := by decide +kernel
theorem dX6_here_19 : decode cX6_here 19 = .ok (.getfield 28, 3) := by decide +kernel
theorem dX6_here_22 : decode cX6_here 22 = .ok (.bipush 40, 2) := by decide +kernel
theorem dX6_here_24 : decode cX6_here 24 = .ok (.if_icmp .lt 5, 3) := by decide +kernel
theorem dX6_here_27 : decode cX6_here 27 = .ok (.iconst (-1), 1) := by decide +kernel
theorem dX6_here_28 : decode cX6_here 28 = .ok (.ireturn, 1) := by decide +kernel
theorem dX6_here_29 : decode cX6_here 29 = .ok (.aload_n 0, 1) := by decide +kernel
theorem dX6_here_30 : decode cX6_here 30 = .ok (.getfield 9, 3) := by decide +kernel
theorem dX6_here_33 : decode cX6_here 33 = .ok (.aload_n 0, 1) := by decide +kernel
theorem dX6_here_34 : decode cX6_here 34 = .ok (.getfield 28, 3) := by decide +kernel
theorem dX6_here_37 : decode cX6_here 37 = .ok (.iaload, 1) := by decide +kernel
theorem dX6_here_38 : decode cX6_here 38 = .ok (.ireturn, 1) := by decide +kernel
theorem dX6_addAction_0 : decode cX6_addAction 0 = .ok (.aload_n 0, 1) := by decide +kernel
theorem dX6_addAction_1 : decode cX6_addAction 1 = .ok (.getfield 31, 3) := by decide +kernel
theorem dX6_addAction_4 : decode cX6_addAction 4 = .ok (.ifCond .lt 52, 3) := by decide +kernel
theorem dX6_addAction_7 : decode cX6_addAction 7 = .ok (.aload_n 0, 1) := by decide +kernel
theorem dX6_addAction_8 : decode cX6_addAction 8 = .ok (.getfield 31, 3) := by decide +kernel
theorem dX6_addAction_11 : decode cX6_addAction 11 = .ok (.bipush 40, 2) := by decide +kernel
theorem dX6_addAction_13 : decode cX6_addAction 13 = .ok (.if_icmp .ge 43, 3) := by decide +kernel
theorem dX6_addAction_16 : decode cX6_addAction 16 = .ok (.aload_n 0, 1) := by decide +kernel
theorem dX6_addAction_17 : decode cX6_addAction 17 = .ok (.getfield 15, 3) := by decide +kernel
theorem dX6_addAction_20 : decode cX6_addAction 20 = .ok (.aload_n 0, 1) := by decide +kernel
theorem dX6_addAction_21 : decode cX6_addAction 21 = .ok (.getfield 31, 3) := by decide +kernel
theorem dX6_addAction_24 : decode cX6_addAction 24 = .ok (.iload_n 1, 1) := by decide +kernel
theorem dX6_addAction_25 : decode cX6_addAction 25 = .ok (.iastore, 1) := by decide +kernel
theorem dX6_addAction_26 : decode cX6_addAction 26 = .ok (.aload_n 0, 1) := by decide +kernel
theorem dX6_addAction_27 : decode cX6_addAction 27 = .ok (.getfield 18, 3) := by decide +kernel
theorem dX6_addAction_30 : decode cX6_addAction 30 = .ok (.aload_n 0, 1) := by decide +kernel
theorem dX6_addAction_31 : decode cX6_addAction 31 = .ok (.getfield 31, 3) := by decide +kernel
theorem dX6_addAction_34 : decode cX6_addAction 34 = .ok (.iload_n 2, 1) := by decide +kernel
theorem dX6_addAction_35 : decode cX6_addAction 35 = .ok (.iastore, 1) := by decide +kernel
theorem dX6_addAction_36 : decode cX6_addAction 36 = .ok (.aload_n 0, 1) := by decide +kernel
theorem dX6_addAction_37 : decode cX6_addAction 37 = .ok (.getfield 21, 3) := by decide +kernel
theorem dX6_addAction_40 : decode cX6_addAction 40 = .ok (.aload_n 0, 1) := by decide +kernel
theorem dX6_addAction_41 : decode cX6_addAction 41 = .ok (.getfield 31, 3) := by decide +kernel
theorem dX6_addAction_44 : decode cX6_addAction 44 = .ok (.iload_n 3, 1) := by decide +kernel
theorem dX6_addAction_45 : decode cX6_addAction 45 = .ok (.iastore, 1) := by decide +kernel
theorem dX6_addAction_46 : decode cX6_addAction 46 = .ok (.aload_n 0, 1) := by decide +kernel
theorem dX6_addAction_47 : decode cX6_addAction 47 = .ok (.dup, 1) := by decide +kernel
theorem dX6_addAction_48 : decode cX6_addAction 48 = .ok (.getfield 31, 3) := by decide +kernel
theorem dX6_addAction_51 : decode cX6_addAction 51 = .ok (.iconst 1, 1) := by decide +kernel
theorem dX6_addAction_52 : decode cX6_addAction 52 = .ok (.iadd, 1) := by decide +kernel
theorem dX6_addAction_53 : decode cX6_addAction 53 = .ok (.putfield 31, 3) := by decide +kernel
theorem dX6_addAction_56 : decode cX6_addAction 56 = .ok (.return_, 1) := by decide +kernel
theorem dX7_init_0 : decode cX7_init 0 = .ok (.aload_n 0, 1) := by decide +kernel
theorem dX7_init_1 : decode cX7_init 1 = .ok (.invokespecial 3, 3) := by decide +kernel
theorem dX7_init_4 : decode cX7_init 4 = .ok (.aload_n 0, 1) := by decide +kernel
theorem dX7_init_5 : decode cX7_init 5 = .ok (.bipush 16, 2) := by decide +kernel
theorem dX7_init_7 : decode cX7_init 7 = .ok (.newarray .int, 2) := by decide +kernel
theorem dX7_init_9 : decode cX7_init 9 = .ok (.putfield 9, 3) := by decide +kernel
theorem dX7_init_12 : decode cX7_init 12 = .ok (.aload_n 0, 1) := by decide +kernel
theorem dX7_init_13 : decode cX7_init 13 = .ok (.bipush 16, 2) := by decide +kernel
theorem dX7_init_15 : decode cX7_init 15 = .ok (.newarray .boolean, 2) := by decide +kernel
theorem dX7_init_17 : decode cX7_init 17 = .ok (.putfield 15, 3) := by decide +kernel
theorem dX7_init_20 : decode cX7_init 20 = .ok (.return_, 1) := by decide +kernel
theorem dX7_copyFrom_0 : decode cX7_copyFrom 0 = .ok (.iconst 0, 1) := by decide +kernel
theorem dX7_copyFrom_1 : decode cX7_copyFrom 1 = .ok (.istore_n 2, 1) := by decide +kernel
theorem dX7_copyFrom_2 : decode cX7_copyFrom 2 = .ok (.iload_n 2, 1) := by decide +kernel
theorem dX7_copyFrom_3 : decode cX7_copyFrom 3 = .ok (.bipush 16, 2) := by decide +kernel
theorem dX7_copyFrom_5 : decode cX7_copyFrom 5 = .ok (.if_icmp .ge 33, 3) := by decide +kernel
theorem dX7_copyFrom_8 : decode cX7_copyFrom 8 = .ok (.aload_n 0, 1) := by decide +kernel
theorem dX7_copyFrom_9 : decode cX7_copyFrom 9 = .ok (.getfield 9, 3) := by decide +kernel
theorem dX7_copyFrom_12 : decode cX7_copyFrom 12 = .ok (.iload_n 2, 1) := by decide +kernel
theorem dX7_copyFrom_13 : decode cX7_copyFrom 13 = .ok (.aload_n 1, 1) := by decide +kernel
theorem dX7_copyFrom_14 : decode cX7_copyFrom 14 = .ok (.getfield 9, 3) := by decide +kernel
theorem dX7_copyFrom_17 : decode cX7_copyFrom 17 = .ok (.iload_n 2, 1) := by decide +kernel
theorem dX7_copyFrom_18 : decode cX7_copyFrom 18 = .ok (.iaload, 1) := by decide +kernel
theorem dX7_copyFrom_19 : decode cX7_copyFrom 19 = .ok (.iastore, 1) := by decide +kernel
theorem dX7_copyFrom_20 : decode cX7_copyFrom 20 = .ok (.aload_n 0, 1) := by decide +kernel
theorem dX7_copyFrom_21 : decode cX7_copyFrom 21 = .ok (.getfield 15, 3) := by decide +kernel
theorem dX7_copyFrom_24 : decode cX7_copyFrom 24 = .ok (.iload_n 2, 1) := by decide +kernel
theorem dX7_copyFrom_25 : decode cX7_copyFrom 25 = .ok (.aload_n 1, 1) := by decide +kernel
theorem dX7_copyFrom_26 : decode cX7_copyFrom 26 = .ok (.getfield 15, 3) := by decide +kernel
theorem dX7_copyFrom_29 : decode cX7_copyFrom 29 = .ok (.iload_n 2, 1) := by decide +kernel
theorem dX7_copyFrom_30 : decode cX7_copyFrom 30 = .ok (.baload, 1) := by decide +kernel
theorem dX7_copyFrom_31 : decode cX7_copyFrom 31 = .ok (.bastore, 1) := by decide +kernel
theorem dX7_copyFrom_32 : decode cX7_copyFrom 32 = .ok (.iinc 2 1, 3) := by decide +kernel
theorem dX7_copyFrom_35 : decode cX7_copyFrom 35 = .ok (.goto (-33), 3) := by decide +kernel
theorem dX7_copyFrom_38 : decode cX7_copyFrom 38 = .ok (.aload_n 0, 1) := by decide +kernel
theorem dX7_copyFrom_39 : decode cX7_copyFrom 39 = .ok (.aload_n 1, 1) := by decide +kernel
theorem dX7_copyFrom_40 : decode cX7_copyFrom 40 = .ok (.getfield 19, 3) := by decide +kernel
theorem dX7_copyFrom_43 : decode cX7_copyFrom 43 = .ok (.putfield 19, 3) := by decide +kernel
theorem dX7_copyFrom_46 : decode cX7_copyFrom 46 = .ok (.return_, 1) := by decide +kernel
theorem dX7_isIssued_0 : decode cX7_isIssued 0 = .ok (.iload_n 1, 1) := by decide +kernel
theorem dX7_isIssued_1 : decode cX7_isIssued 1 = .ok (.ifCond .lt 21, 3) := by decide +kernel
theorem dX7_isIssued_4 : decode cX7_isIssued 4 = .ok (.iload_n 1, 1) := by decide +kernel
theorem dX7_isIssued_5 : decode cX7_isIssued 5 = .ok (.aload_n 0, 1) := by decide +kernel
theorem dX7_isIssued_6 : decode cX7_isIssued 6 = .ok (.getfield 19, 3) := by decide +kernel
theorem dX7_isIssued_9 : decode cX7_isIssued 9 = .ok (.if_icmp .ge 13, 3) := by decide +kernel
theorem dX7_isIssued_12 : decode cX7_isIssued 12 = .ok (.iload_n 1, 1) := by decide +kernel
theorem dX7_isIssued_13 : decode cX7_isIssued 13 = .ok (.bipush 16, 2) := by decide +kernel
theorem dX7_isIssued_15 : decode cX7_isIssued 15 = .ok (.if_icmp .ge 7, 3) := by decide +kernel
theorem dX7_isIssued_18 : decode cX7_isIssued 18 = .ok (.iconst 1, 1) := by decide +kernel
theorem dX7_isIssued_19 : decode cX7_isIssued 19 = .ok (.goto 4, 3) := by decide +kernel
theorem dX7_isIssued_22 : decode cX7_isIssued 22 = .ok (.iconst 0, 1) := by decide +kernel
theorem dX7_isIssued_23 : decode cX7_isIssued 23 = .ok (.ireturn, 1) := by decide +kernel
theorem dX7_isValid_0 : decode cX7_isValid 0 = .ok (.aload_n 0, 1) := by decide +kernel
theorem dX7_isValid_1 : decode cX7_isValid 1 = .ok (.iload_n 1, 1) := by decide +kernel
theorem dX7_isValid_2 : decode cX7_isValid 2 = .ok (.invokevirtual 23, 3) := by decide +kernel
theorem dX7_isValid_5 : decode cX7_isValid 5 = .ok (.ifCond .eq 28, 3) := by decide +kernel
theorem dX7_isValid_8 : decode cX7_isValid 8 = .ok (.aload_n 0, 1) := by decide +kernel
theorem dX7_isValid_9 : decode cX7_isValid 9 = .ok (.getfield 15, 3) := by decide +kernel
theorem dX7_isValid_12 : decode cX7_isValid 12 = .ok (.iload_n 1, 1) := by decide +kernel
theorem dX7_isValid_13 : decode cX7_isValid 13 = .ok (.baload, 1) := by decide +kernel
theorem dX7_isValid_14 : decode cX7_isValid 14 = .ok (.ifCond .ne 19, 3) := by decide +kernel
theorem dX7_isValid_17 : decode cX7_isValid 17 = .ok (.iload_n 2, 1) := by decide +kernel
theorem dX7_isValid_18 : decode cX7_isValid 18 = .ok (.aload_n 0, 1) := by decide +kernel
theorem dX7_isValid_19 : decode cX7_isValid 19 = .ok (.getfield 9, 3) := by decide +kernel
theorem dX7_isValid_22 : decode cX7_isValid 22 = .ok (.iload_n 1, 1) := by decide +kernel
theorem dX7_isValid_23 : decode cX7_isValid 23 = .ok (.iaload, 1) := by decide +kernel
theorem dX7_isValid_24 : decode cX7_isValid 24 = .ok (.isub, 1) := by decide +kernel
theorem dX7_isValid_25 : decode cX7_isValid 25 = .ok (.iload_n 3, 1) := by decide +kernel
theorem dX7_isValid_26 : decode cX7_isValid 26 = .ok (.if_icmp .gt 7, 3) := by decide +kernel
theorem dX7_isValid_29 : decode cX7_isValid 29 = .ok (.iconst 1, 1) := by decide +kernel
theorem dX7_isValid_30 : decode cX7_isValid 30 = .ok (.goto 4, 3) := by decide +kernel
theorem dX7_isValid_33 : decode cX7_isValid 33 = .ok (.iconst 0, 1) := by decide +kernel
theorem dX7_isValid_34 : decode cX7_isValid 34 = .ok (.ireturn, 1) := by decide +kernel
theorem dX7_issue_0 : decode cX7_issue 0 = .ok (.aload_n 0, 1) := by decide +kernel
theorem dX7_issue_1 : decode cX7_issue 1 = .ok (.getfield 19, 3) := by decide +kernel
theorem dX7_issue_4 : decode cX7_issue 4 = .ok (.ifCond .lt 12, 3) := by decide +kernel
theorem dX7_issue_7 : decode cX7_issue 7 = .ok (.aload_n 0, 1) := by decide +kernel
theorem dX7_issue_8 : decode cX7_issue 8 = .ok (.getfield 19, 3) := by decide +kernel
theorem dX7_issue_11 : decode cX7_issue 11 = .ok (.bipush 16, 2) := by decide +kernel
theorem dX7_issue_13 : decode cX7_issue 13 = .ok (.if_icmp .lt 5, 3) := by decide +kernel
theorem dX7_issue_16 : decode cX7_issue 16 = .ok (.iconst (-1), 1) := by decide +kernel
theorem dX7_issue_17 : decode cX7_issue 17 = .ok (.ireturn, 1) := by decide +kernel
theorem dX7_issue_18 : decode cX7_issue 18 = .ok (.aload_n 0, 1) := by decide +kernel
theorem dX7_issue_19 : decode cX7_issue 19 = .ok (.getfield 19, 3) := by decide +kernel
theorem dX7_issue_22 : decode cX7_issue 22 = .ok (.istore_n 2, 1) := by decide +kernel
theorem dX7_issue_23 : decode cX7_issue 23 = .ok (.aload_n 0, 1) := by decide +kernel
theorem dX7_issue_24 : decode cX7_issue 24 = .ok (.getfield 9, 3) := by decide +kernel
theorem dX7_issue_27 : decode cX7_issue 27 = .ok (.iload_n 2, 1) := by decide +kernel
theorem dX7_issue_28 : decode cX7_issue 28 = .ok (.iload_n 1, 1) := by decide +kernel
theorem dX7_issue_29 : decode cX7_issue 29 = .ok (.iastore, 1) := by decide +kernel
theorem dX7_issue_30 : decode cX7_issue 30 = .ok (.aload_n 0, 1) := by decide +kernel
theorem dX7_issue_31 : decode cX7_issue 31 = .ok (.dup, 1) := by decide +kernel
theorem dX7_issue_32 : decode cX7_issue 32 = .ok (.getfield 19, 3) := by decide +kernel
theorem dX7_issue_35 : decode cX7_issue 35 = .ok (.iconst 1, 1) := by decide +kernel
theorem dX7_issue_36 : decode cX7_issue 36 = .ok (.iadd, 1) := by decide +kernel
theorem dX7_issue_37 : decode cX7_issue 37 = .ok (.putfield 19, 3) := by decide +kernel
theorem dX7_issue_40 : decode cX7_issue 40 = .ok (.iload_n 2, 1) := by decide +kernel
theorem dX7_issue_41 : decode cX7_issue 41 = .ok (.ireturn, 1) := by decide +kernel
theorem dX7_use_0 : decode cX7_use 0 = .ok (.aload_n 0, 1) := by decide +kernel
theorem dX7_use_1 : decode cX7_use 1 = .ok (.iload_n 1, 1) := by decide +kernel
theorem dX7_use_2 : decode cX7_use 2 = .ok (.invokevirtual 23, 3) := by decide +kernel
theorem dX7_use_5 : decode cX7_use 5 = .ok (.ifCond .eq 10, 3) := by decide +kernel
theorem dX7_use_8 : decode cX7_use 8 = .ok (.aload_n 0, 1) := by decide +kernel
theorem dX7_use_9 : decode cX7_use 9 = .ok (.getfield 15, 3) := by decide +kernel
theorem dX7_use_12 : decode cX7_use 12 = .ok (.iload_n 1, 1) := by decide +kernel
theorem dX7_use_13 : decode cX7_use 13 = .ok (.iconst 1, 1) := by decide +kernel
theorem dX7_use_14 : decode cX7_use 14 = .ok (.bastore, 1) := by decide +kernel
theorem dX7_use_15 : decode cX7_use 15 = .ok (.return_, 1) := by decide +kernel
theorem dX8_init_0 : decode cX8_init 0 = .ok (.aload_n 0, 1) := by decide +kernel
theorem dX8_init_1 : decode cX8_init 1 = .ok (.invokespecial 3, 3) := by decide +kernel
theorem dX8_init_4 : decode cX8_init 4 = .ok (.return_, 1) := by decide +kernel
theorem dX8_clear_0 : decode cX8_clear 0 = .ok (.aload_n 0, 1) := by decide +kernel
theorem dX8_clear_1 : decode cX8_clear 1 = .ok (.iconst 0, 1) := by decide +kernel
theorem dX8_clear_2 : decode cX8_clear 2 = .ok (.putfield 9, 3) := by decide +kernel
theorem dX8_clear_5 : decode cX8_clear 5 = .ok (.aload_n 0, 1) := by decide +kernel
theorem dX8_clear_6 : decode cX8_clear 6 = .ok (.iconst 0, 1) := by decide +kernel
theorem dX8_clear_7 : decode cX8_clear 7 = .ok (.putfield 15, 3) := by decide +kernel
theorem dX8_clear_10 : decode cX8_clear 10 = .ok (.return_, 1) := by decide +kernel
theorem dX8_copyFrom_0 : decode cX8_copyFrom 0 = .ok (.aload_n 0, 1) := by decide +kernel
theorem dX8_copyFrom_1 : decode cX8_copyFrom 1 = .ok (.aload_n 1, 1) := by decide +kernel
theorem dX8_copyFrom_2 : decode cX8_copyFrom 2 = .ok (.getfield 9, 3) := by decide +kernel
theorem dX8_copyFrom_5 : decode cX8_copyFrom 5 = .ok (.putfield 9, 3) := by decide +kernel
theorem dX8_copyFrom_8 : decode cX8_copyFrom 8 = .ok (.aload_n 0, 1) := by decide +kernel
theorem dX8_copyFrom_9 : decode cX8_copyFrom 9 = .ok (.aload_n 1, 1) := by decide +kernel
theorem dX8_copyFrom_10 : decode cX8_copyFrom 10 = .ok (.getfield 15, 3) := by decide +kernel
theorem dX8_copyFrom_13 : decode cX8_copyFrom 13 = .ok (.putfield 15, 3) := by decide +kernel
theorem dX8_copyFrom_16 : decode cX8_copyFrom 16 = .ok (.return_, 1) := by decide +kernel
theorem dX8_isBehind_0 : decode cX8_isBehind 0 = .ok (.aload_n 0, 1) := by decide +kernel
theorem dX8_isBehind_1 : decode cX8_isBehind 1 = .ok (.getfield 15, 3) := by decide +kernel
theorem dX8_isBehind_4 : decode cX8_isBehind 4 = .ok (.ifCond .eq 18, 3) := by decide +kernel
theorem dX8_isBehind_7 : decode cX8_isBehind 7 = .ok (.iload_n 1, 1) := by decide +kernel
theorem dX8_isBehind_8 : decode cX8_isBehind 8 = .ok (.aload_n 0, 1) := by decide +kernel
theorem dX8_isBehind_9 : decode cX8_isBehind 9 = .ok (.getfield 9, 3) := by decide +kernel
theorem dX8_isBehind_12 : decode cX8_isBehind 12 = .ok (.bipush 7, 2) := by decide +kernel
theorem dX8_isBehind_14 : decode cX8_isBehind 14 = .ok (.isub, 1) := by decide +kernel
theorem dX8_isBehind_15 : decode cX8_isBehind 15 = .ok (.if_icmp .ge 7, 3) := by decide +kernel
theorem dX8_isBehind_18 : decode cX8_isBehind 18 = .ok (.iconst 1, 1) := by decide +kernel
theorem dX8_isBehind_19 : decode cX8_isBehind 19 = .ok (.goto 4, 3) := by decide +kernel
theorem dX8_isBehind_22 : decode cX8_isBehind 22 = .ok (.iconst 0, 1) := by decide +kernel
theorem dX8_isBehind_23 : decode cX8_isBehind 23 = .ok (.ireturn, 1) := by decide +kernel
theorem dX8_holds_0 : decode cX8_holds 0 = .ok (.aload_n 0, 1) := by decide +kernel
theorem dX8_holds_1 : decode cX8_holds 1 = .ok (.getfield 9, 3) := by decide +kernel
theorem dX8_holds_4 : decode cX8_holds 4 = .ok (.iload_n 1, 1) := by decide +kernel
theorem dX8_holds_5 : decode cX8_holds 5 = .ok (.isub, 1) := by decide +kernel
theorem dX8_holds_6 : decode cX8_holds 6 = .ok (.istore_n 2, 1) := by decide +kernel
theorem dX8_holds_7 : decode cX8_holds 7 = .ok (.iload_n 2, 1) := by decide +kernel
theorem dX8_holds_8 : decode cX8_holds 8 = .ok (.ifCond .lt 25, 3) := by decide +kernel
theorem dX8_holds_11 : decode cX8_holds 11 = .ok (.iload_n 2, 1) := by decide +kernel
theorem dX8_holds_12 : decode cX8_holds 12 = .ok (.bipush 7, 2) := by decide +kernel
theorem dX8_holds_14 : decode cX8_holds 14 = .ok (.if_icmp .gt 19, 3) := by decide +kernel
theorem dX8_holds_17 : decode cX8_holds 17 = .ok (.aload_n 0, 1) := by decide +kernel
theorem dX8_holds_18 : decode cX8_holds 18 = .ok (.getfield 15, 3) := by decide +kernel
theorem dX8_holds_21 : decode cX8_holds 21 = .ok (.iload_n 2, 1) := by decide +kernel
theorem dX8_holds_22 : decode cX8_holds 22 = .ok (.iushr, 1) := by decide +kernel
theorem dX8_holds_23 : decode cX8_holds 23 = .ok (.iconst 1, 1) := by decide +kernel
theorem dX8_holds_24 : decode cX8_holds 24 = .ok (.iand, 1) := by decide +kernel
theorem dX8_holds_25 : decode cX8_holds 25 = .ok (.iconst 1, 1) := by decide +kernel
theorem dX8_holds_26 : decode cX8_holds 26 = .ok (.if_icmp .ne 7, 3) := by decide +kernel
theorem dX8_holds_29 : decode cX8_holds 29 = .ok (.iconst 1, 1) := by decide +kernel
theorem dX8_holds_30 : decode cX8_holds 30 = .ok (.goto 4, 3) := by decide +kernel
theorem dX8_holds_33 : decode cX8_holds 33 = .ok (.iconst 0, 1) := by decide +kernel
theorem dX8_holds_34 : decode cX8_holds 34 = .ok (.ireturn, 1) := by decide +kernel
theorem dX8_enter_0 : decode cX8_enter 0 = .ok (.aload_n 0, 1) := by decide +kernel
theorem dX8_enter_1 : decode cX8_enter 1 = .ok (.getfield 9, 3) := by decide +kernel
theorem dX8_enter_4 : decode cX8_enter 4 = .ok (.iload_n 1, 1) := by decide +kernel
theorem dX8_enter_5 : decode cX8_enter 5 = .ok (.isub, 1) := by decide +kernel
theorem dX8_enter_6 : decode cX8_enter 6 = .ok (.istore_n 2, 1) := by decide +kernel
theorem dX8_enter_7 : decode cX8_enter 7 = .ok (.aload_n 0, 1) := by decide +kernel
theorem dX8_enter_8 : decode cX8_enter 8 = .ok (.getfield 15, 3) := by decide +kernel
theorem dX8_enter_11 : decode cX8_enter 11 = .ok (.ifCond .eq 9, 3) := by decide +kernel
theorem dX8_enter_14 : decode cX8_enter 14 = .ok (.iload_n 2, 1) := by decide +kernel
theorem dX8_enter_15 : decode cX8_enter 15 = .ok (.bipush (-7), 2) := by decide +kernel
theorem dX8_enter_17 : decode cX8_enter 17 = .ok (.if_icmp .ge 16, 3) := by decide +kernel
theorem dX8_enter_20 : decode cX8_enter 20 = .ok (.aload_n 0, 1) := by decide +kernel
theorem dX8_enter_21 : decode cX8_enter 21 = .ok (.iload_n 1, 1) := by decide +kernel
theorem dX8_enter_22 : decode cX8_enter 22 = .ok (.putfield 9, 3) := by decide +kernel
theorem dX8_enter_25 : decode cX8_enter 25 = .ok (.aload_n 0, 1) := by decide +kernel
theorem dX8_enter_26 : decode cX8_enter 26 = .ok (.iconst 1, 1) := by decide +kernel
theorem dX8_enter_27 : decode cX8_enter 27 = .ok (.putfield 15, 3) := by decide +kernel
theorem dX8_enter_30 : decode cX8_enter 30 = .ok (.goto 50, 3) := by decide +kernel
theorem dX8_enter_33 : decode cX8_enter 33 = .ok (.iload_n 2, 1) := by decide +kernel
theorem dX8_enter_34 : decode cX8_enter 34 = .ok (.ifCond .ge 28, 3) := by decide +kernel
theorem dX8_enter_37 : decode cX8_enter 37 = .ok (.aload_n 0, 1) := by decide +kernel
theorem dX8_enter_38 : decode cX8_enter 38 = .ok (.iload_n 1, 1) := by decide +kernel
theorem dX8_enter_39 : decode cX8_enter 39 = .ok (.putfield 9, 3) := by decide +kernel
theorem dX8_enter_42 : decode cX8_enter 42 = .ok (.aload_n 0, 1) := by decide +kernel
theorem dX8_enter_43 : decode cX8_enter 43 = .ok (.aload_n 0, 1) := by decide +kernel
theorem dX8_enter_44 : decode cX8_enter 44 = .ok (.getfield 15, 3) := by decide +kernel
theorem dX8_enter_47 : decode cX8_enter 47 = .ok (.iload_n 2, 1) := by decide +kernel
theorem dX8_enter_48 : decode cX8_enter 48 = .ok (.ineg, 1) := by decide +kernel
theorem dX8_enter_49 : decode cX8_enter 49 = .ok (.ishl, 1) := by decide +kernel
theorem dX8_enter_50 : decode cX8_enter 50 = .ok (.iconst 1, 1) := by decide +kernel
theorem dX8_enter_51 : decode cX8_enter 51 = .ok (.ior, 1) := by decide +kernel
theorem dX8_enter_52 : decode cX8_enter 52 = .ok (.sipush 255, 3) := by decide +kernel
theorem dX8_enter_55 : decode cX8_enter 55 = .ok (.iand, 1) := by decide +kernel
theorem dX8_enter_56 : decode cX8_enter 56 = .ok (.putfield 15, 3) := by decide +kernel
theorem dX8_enter_59 : decode cX8_enter 59 = .ok (.goto 21, 3) := by decide +kernel
theorem dX8_enter_62 : decode cX8_enter 62 = .ok (.iload_n 2, 1) := by decide +kernel
theorem dX8_enter_63 : decode cX8_enter 63 = .ok (.bipush 7, 2) := by decide +kernel
theorem dX8_enter_65 : decode cX8_enter 65 = .ok (.if_icmp .gt 15, 3) := by decide +kernel
theorem dX8_enter_68 : decode cX8_enter 68 = .ok (.aload_n 0, 1) := by decide +kernel
theorem dX8_enter_69 : decode cX8_enter 69 = .ok (.dup, 1) := by decide +kernel
theorem dX8_enter_70 : decode cX8_enter 70 = .ok (.getfield 15, 3) := by decide +kernel
theorem dX8_enter_73 : decode cX8_enter 73 = .ok (.iconst 1, 1) := by decide +kernel
theorem dX8_enter_74 : decode cX8_enter 74 = .ok (.iload_n 2, 1) := by decide +kernel
theorem dX8_enter_75 : decode cX8_enter 75 = .ok (.ishl, 1) := by decide +kernel
theorem dX8_enter_76 : decode cX8_enter 76 = .ok (.ior, 1) := by decide +kernel
theorem dX8_enter_77 : decode cX8_enter 77 = .ok (.putfield 15, 3) := by decide +kernel
theorem dX8_enter_80 : decode cX8_enter 80 = .ok (.return_, 1) := by decide +kernel
theorem dX8_asNumber_0 : decode cX8_asNumber 0 = .ok (.aload_n 0, 1) := by decide +kernel
theorem dX8_asNumber_1 : decode cX8_asNumber 1 = .ok (.getfield 15, 3) := by decide +kernel
theorem dX8_asNumber_4 : decode cX8_asNumber 4 = .ok (.ifCond .ne 7, 3) := by decide +kernel
theorem dX8_asNumber_7 : decode cX8_asNumber 7 = .ok (.iconst (-1), 1) := by decide +kernel
theorem dX8_asNumber_8 : decode cX8_asNumber 8 = .ok (.goto 16, 3) := by decide +kernel
theorem dX8_asNumber_11 : decode cX8_asNumber 11 = .ok (.aload_n 0, 1) := by decide +kernel
theorem dX8_asNumber_12 : decode cX8_asNumber 12 = .ok (.getfield 9, 3) := by decide +kernel
theorem dX8_asNumber_15 : decode cX8_asNumber 15 = .ok (.sipush 256, 3) := by decide +kernel
theorem dX8_asNumber_18 : decode cX8_asNumber 18 = .ok (.imul, 1) := by decide +kernel
theorem dX8_asNumber_19 : decode cX8_asNumber 19 = .ok (.aload_n 0, 1) := by decide +kernel
theorem dX8_asNumber_20 : decode cX8_asNumber 20 = .ok (.getfield 15, 3) := by decide +kernel
theorem dX8_asNumber_23 : decode cX8_asNumber 23 = .ok (.iadd, 1) := by decide +kernel
theorem dX8_asNumber_24 : decode cX8_asNumber 24 = .ok (.ireturn, 1) := by decide +kernel
theorem dX9_init_0 : decode cX9_init 0 = .ok (.aload_n 0, 1) := by decide +kernel
theorem dX9_init_1 : decode cX9_init 1 = .ok (.invokespecial 1, 3) := by decide +kernel
theorem dX9_init_4 : decode cX9_init 4 = .ok (.aload_n 0, 1) := by decide +kernel
theorem dX9_init_5 : decode cX9_init 5 = .ok (.new 7, 3) := by decide +kernel
theorem dX9_init_8 : decode cX9_init 8 = .ok (.dup, 1) := by decide +kernel
theorem dX9_init_9 : decode cX9_init 9 = .ok (.iconst 0, 1) := by decide +kernel
theorem dX9_init_10 : decode cX9_init 10 = .ok (.invokespecial 9, 3) := by decide +kernel
theorem dX9_init_13 : decode cX9_init 13 = .ok (.putfield 12, 3) := by decide +kernel
theorem dX9_init_16 : decode cX9_init 16 = .ok (.aload_n 0, 1) := by decide +kernel
theorem dX9_init_17 : decode cX9_init 17 = .ok (.new 7, 3) := by decide +kernel
theorem dX9_init_20 : decode cX9_init 20 = .ok (.dup, 1) := by decide +kernel
theorem dX9_init_21 : decode cX9_init 21 = .ok (.iconst 1, 1) := by decide +kernel
theorem dX9_init_22 : decode cX9_init 22 = .ok (.invokespecial 9, 3) := by decide +kernel
theorem dX9_init_25 : decode cX9_init 25 = .ok (.putfield 18, 3) := by decide +kernel
theorem dX9_init_28 : decode cX9_init 28 = .ok (.aload_n 0, 1) := by decide +kernel
theorem dX9_init_29 : decode cX9_init 29 = .ok (.new 21, 3) := by decide +kernel
theorem dX9_init_32 : decode cX9_init 32 = .ok (.dup, 1) := by decide +kernel
theorem dX9_init_33 : decode cX9_init 33 = .ok (.invokespecial 23, 3) := by decide +kernel
theorem dX9_init_36 : decode cX9_init 36 = .ok (.putfield 24, 3) := by decide +kernel
theorem dX9_init_39 : decode cX9_init 39 = .ok (.aload_n 0, 1) := by decide +kernel
theorem dX9_init_40 : decode cX9_init 40 = .ok (.new 28, 3) := by decide +kernel
theorem dX9_init_43 : decode cX9_init 43 = .ok (.dup, 1) := by decide +kernel
theorem dX9_init_44 : decode cX9_init 44 = .ok (.invokespecial 30, 3) := by decide +kernel
theorem dX9_init_47 : decode cX9_init 47 = .ok (.putfield 31, 3) := by decide +kernel
theorem dX9_init_50 : decode cX9_init 50 = .ok (.aload_n 0, 1) := by decide +kernel
theorem dX9_init_51 : decode cX9_init 51 = .ok (.new 35, 3) := by decide +kernel
theorem dX9_init_54 : decode cX9_init 54 = .ok (.dup, 1) := by decide +kernel
theorem dX9_init_55 : decode cX9_init 55 = .ok (.invokespecial 37, 3) := by decide +kernel
theorem dX9_init_58 : decode cX9_init 58 = .ok (.putfield 38, 3) := by decide +kernel
theorem dX9_init_61 : decode cX9_init 61 = .ok (.aload_n 0, 1) := by decide +kernel
theorem dX9_init_62 : decode cX9_init 62 = .ok (.bipush 6, 2) := by decide +kernel
theorem dX9_init_64 : decode cX9_init 64 = .ok (.putfield 42, 3) := by decide +kernel
theorem dX9_init_67 : decode cX9_init 67 = .ok (.aload_n 0, 1) := by decide +kernel
theorem dX9_init_68 : decode cX9_init 68 = .ok (.iconst 3, 1) := by decide +kernel
theorem dX9_init_69 : decode cX9_init 69 = .ok (.putfield 46, 3) := by decide +kernel
theorem dX9_init_72 : decode cX9_init 72 = .ok (.aload_n 0, 1) := by decide +kernel
theorem dX9_init_73 : decode cX9_init 73 = .ok (.bipush 20, 2) := by decide +kernel
theorem dX9_init_75 : decode cX9_init 75 = .ok (.putfield 49, 3) := by decide +kernel
theorem dX9_init_78 : decode cX9_init 78 = .ok (.return_, 1) := by decide +kernel
theorem dX9_copyFrom_0 : decode cX9_copyFrom 0 = .ok (.aload_n 0, 1) := by decide +kernel
theorem dX9_copyFrom_1 : decode cX9_copyFrom 1 = .ok (.getfield 12, 3) := by decide +kernel
theorem dX9_copyFrom_4 : decode cX9_copyFrom 4 = .ok (.aload_n 1, 1) := by decide +kernel
theorem dX9_copyFrom_5 : decode cX9_copyFrom 5 = .ok (.getfield 12, 3) := by decide +kernel
theorem dX9_copyFrom_8 : decode cX9_copyFrom 8 = .ok (.invokevirtual 52, 3) := by decide +kernel
theorem dX9_copyFrom_11 : decode cX9_copyFrom 11 = .ok (.aload_n 0, 1) := by decide +kernel
theorem dX9_copyFrom_12 : decode cX9_copyFrom 12 = .ok (.getfield 18, 3) := by decide +kernel
theorem dX9_copyFrom_15 : decode cX9_copyFrom 15 = .ok (.aload_n 1, 1) := by decide +kernel
theorem dX9_copyFrom_16 : decode cX9_copyFrom 16 = .ok (.getfield 18, 3) := by decide +kernel
theorem dX9_copyFrom_19 : decode cX9_copyFrom 19 = .ok (.invokevirtual 52, 3) := by decide +kernel
theorem dX9_copyFrom_22 : decode cX9_copyFrom 22 = .ok (.aload_n 0, 1) := by decide +kernel
theorem dX9_copyFrom_23 : decode cX9_copyFrom 23 = .ok (.getfield 24, 3) := by decide +kernel
theorem dX9_copyFrom_26 : decode cX9_copyFrom 26 = .ok (.aload_n 1, 1) := by decide +kernel
theorem dX9_copyFrom_27 : decode cX9_copyFrom 27 = .ok (.getfield 24, 3) := by decide +kernel
theorem dX9_copyFrom_30 : decode cX9_copyFrom 30 = .ok (.invokevirtual 56, 3) := by decide +kernel
theorem dX9_copyFrom_33 : decode cX9_copyFrom 33 = .ok (.aload_n 0, 1) := by decide +kernel
theorem dX9_copyFrom_34 : decode cX9_copyFrom 34 = .ok (.getfield 31, 3) := by decide +kernel
theorem dX9_copyFrom_37 : decode cX9_copyFrom 37 = .ok (.aload_n 1, 1) := by decide +kernel
theorem dX9_copyFrom_38 : decode cX9_copyFrom 38 = .ok (.getfield 31, 3) := by decide +kernel
theorem dX9_copyFrom_41 : decode cX9_copyFrom 41 = .ok (.invokevirtual 59, 3) := by decide +kernel
theorem dX9_copyFrom_44 : decode cX9_copyFrom 44 = .ok (.aload_n 0, 1) := by decide +kernel
theorem dX9_copyFrom_45 : decode cX9_copyFrom 45 = .ok (.getfield 38, 3) := by decide +kernel
theorem dX9_copyFrom_48 : decode cX9_copyFrom 48 = .ok (.aload_n 1, 1) := by decide +kernel
theorem dX9_copyFrom_49 : decode cX9_copyFrom 49 = .ok (.getfield 38, 3) := by decide +kernel
theorem dX9_copyFrom_52 : decode cX9_copyFrom 52 = .ok (.invokevirtual 62, 3) := by decide +kernel
theorem dX9_copyFrom_55 : decode cX9_copyFrom 55 = .ok (.aload_n 0, 1) := by decide +kernel
theorem dX9_copyFrom_56 : decode cX9_copyFrom 56 = .ok (.aload_n 1, 1) := by decide +kernel
theorem dX9_copyFrom_57 : decode cX9_copyFrom 57 = .ok (.getfield 42, 3) := by decide +kernel
theorem dX9_copyFrom_60 : decode cX9_copyFrom 60 = .ok (.putfield 42, 3) := by decide +kernel
theorem dX9_copyFrom_63 : decode cX9_copyFrom 63 = .ok (.aload_n 0, 1) := by decide +kernel
theorem dX9_copyFrom_64 : decode cX9_copyFrom 64 = .ok (.aload_n 1, 1) := by decide +kernel
theorem dX9_copyFrom_65 : decode cX9_copyFrom 65 = .ok (.getfield 46, 3) := by decide +kernel
theorem dX9_copyFrom_68 : decode cX9_copyFrom 68 = .ok (.putfield 46, 3) := by decide +kernel
theorem dX9_copyFrom_71 : decode cX9_copyFrom 71 = .ok (.aload_n 0, 1) := by decide +kernel
theorem dX9_copyFrom_72 : decode cX9_copyFrom 72 = .ok (.aload_n 1, 1) := by decide +kernel
theorem dX9_copyFrom_73 : decode cX9_copyFrom 73 = .ok (.getfield 49, 3) := by decide +kernel
theorem dX9_copyFrom_76 : decode cX9_copyFrom 76 = .ok (.putfield 49, 3) := by decide +kernel
theorem dX9_copyFrom_79 : decode cX9_copyFrom 79 = .ok (.aload_n 0, 1) := by decide +kernel
theorem dX9_copyFrom_80 : decode cX9_copyFrom 80 = .ok (.aload_n 1, 1) := by decide +kernel
theorem dX9_copyFrom_81 : decode cX9_copyFrom 81 = .ok (.getfield 65, 3) := by decide +kernel
theorem dX9_copyFrom_84 : decode cX9_copyFrom 84 = .ok (.putfield 65, 3) := by decide +kernel
theorem dX9_copyFrom_87 : decode cX9_copyFrom 87 = .ok (.aload_n 0, 1) := by decide +kernel
theorem dX9_copyFrom_88 : decode cX9_copyFrom 88 = .ok (.aload_n 1, 1) := by decide +kernel
theorem dX9_copyFrom_89 : decode cX9_copyFrom 89 = .ok (.getfield 68, 3) := by decide +kernel
theorem dX9_copyFrom_92 : decode cX9_copyFrom 92 = .ok (.putfield 68, 3) := by decide +kernel
theorem dX9_copyFrom_95 : decode cX9_copyFrom 95 = .ok (.aload_n 0, 1) := by decide +kernel
theorem dX9_copyFrom_96 : decode cX9_copyFrom 96 = .ok (.aload_n 1, 1) := by decide +kernel
theorem dX9_copyFrom_97 : decode cX9_copyFrom 97 = .ok (.getfield 71, 3) := by decide +kernel
theorem dX9_copyFrom_100 : decode cX9_copyFrom 100 = .ok (.putfield 71, 3) := by decide +kernel
theorem dX9_copyFrom_103 : decode cX9_copyFrom 103 = .ok (.aload_n 0, 1) := by decide +kernel
theorem dX9_copyFrom_104 : decode cX9_copyFrom 104 = .ok (.aload_n 1, 1) := by decide +kernel
theorem dX9_copyFrom_105 : decode cX9_copyFrom 105 = .ok (.getfield 74, 3) := by decide +kernel
theorem dX9_copyFrom_108 : decode cX9_copyFrom 108 = .ok (.putfield 74, 3) := by decide +kernel
theorem dX9_copyFrom_111 : decode cX9_copyFrom 111 = .ok (.aload_n 0, 1) := by decide +kernel
theorem dX9_copyFrom_112 : decode cX9_copyFrom 112 = .ok (.aload_n 1, 1) := by decide +kernel
theorem dX9_copyFrom_113 : decode cX9_copyFrom 113 = .ok (.getfield 77, 3) := by decide +kernel
theorem dX9_copyFrom_116 : decode cX9_copyFrom 116 = .ok (.putfield 77, 3) := by decide +kernel
theorem dX9_copyFrom_119 : decode cX9_copyFrom 119 = .ok (.aload_n 0, 1) := by decide +kernel
theorem dX9_copyFrom_120 : decode cX9_copyFrom 120 = .ok (.aload_n 1, 1) := by decide +kernel
theorem dX9_copyFrom_121 : decode cX9_copyFrom 121 = .ok (.getfield 80, 3) := by decide +kernel
theorem dX9_copyFrom_124 : decode cX9_copyFrom 124 = .ok (.putfield 80, 3) := by decide +kernel
theorem dX9_copyFrom_127 : decode cX9_copyFrom 127 = .ok (.return_, 1) := by decide +kernel
theorem dX10_init_0 : decode cX10_init 0 = .ok (.aload_n 0, 1) := by decide +kernel
theorem dX10_init_1 : decode cX10_init 1 = .ok (.invokespecial 1, 3) := by decide +kernel
theorem dX10_init_4 : decode cX10_init 4 = .ok (.aload_n 0, 1) := by decide +kernel
theorem dX10_init_5 : decode cX10_init 5 = .ok (.new 7, 3) := by decide +kernel
theorem dX10_init_8 : decode cX10_init 8 = .ok (.dup, 1) := by decide +kernel
theorem dX10_init_9 : decode cX10_init 9 = .ok (.invokespecial 9, 3) := by decide +kernel
theorem dX10_init_12 : decode cX10_init 12 = .ok (.putfield 10, 3) := by decide +kernel
theorem dX10_init_15 : decode cX10_init 15 = .ok (.aload_n 0, 1) := by decide +kernel
theorem dX10_init_16 : decode cX10_init 16 = .ok (.new 7, 3) := by decide +kernel
theorem dX10_init_19 : decode cX10_init 19 = .ok (.dup, 1) := by decide +kernel
theorem dX10_init_20 : decode cX10_init 20 = .ok (.invokespecial 9, 3) := by decide +kernel
theorem dX10_init_23 : decode cX10_init 23 = .ok (.putfield 16, 3) := by decide +kernel
theorem dX10_init_26 : decode cX10_init 26 = .ok (.aload_n 0, 1) := by decide +kernel
theorem dX10_init_27 : decode cX10_init 27 = .ok (.new 19, 3) := by decide +kernel
theorem dX10_init_30 : decode cX10_init 30 = .ok (.dup, 1) := by decide +kernel
theorem dX10_init_31 : decode cX10_init 31 = .ok (.invokespecial 21, 3) := by decide +kernel
theorem dX10_init_34 : decode cX10_init 34 = .ok (.putfield 22, 3) := by decide +kernel
theorem dX10_init_37 : decode cX10_init 37 = .ok (.aload_n 0, 1) := by decide +kernel
theorem dX10_init_38 : decode cX10_init 38 = .ok (.new 26, 3) := by decide +kernel
theorem dX10_init_41 : decode cX10_init 41 = .ok (.dup, 1) := by decide +kernel
theorem dX10_init_42 : decode cX10_init 42 = .ok (.invokespecial 28, 3) := by decide +kernel
theorem dX10_init_45 : decode cX10_init 45 = .ok (.putfield 29, 3) := by decide +kernel
theorem dX10_init_48 : decode cX10_init 48 = .ok (.aload_n 0, 1) := by decide +kernel
theorem dX10_init_49 : decode cX10_init 49 = .ok (.iconst 0, 1) := by decide +kernel
theorem dX10_init_50 : decode cX10_init 50 = .ok (.putfield 33, 3) := by decide +kernel
theorem dX10_init_53 : decode cX10_init 53 = .ok (.return_, 1) := by decide +kernel
theorem dX10_configure_0 : decode cX10_configure 0 = .ok (.iload_n 1, 1) := by decide +kernel
theorem dX10_configure_1 : decode cX10_configure 1 = .ok (.iconst 1, 1) := by decide +kernel
theorem dX10_configure_2 : decode cX10_configure 2 = .ok (.if_icmp .lt 30, 3) := by decide +kernel
theorem dX10_configure_5 : decode cX10_configure 5 = .ok (.iload_n 1, 1) := by decide +kernel
theorem dX10_configure_6 : decode cX10_configure 6 = .ok (.bipush 20, 2) := by decide +kernel
theorem dX10_configure_8 : decode cX10_configure 8 = .ok (.if_icmp .gt 24, 3) := by decide +kernel
theorem dX10_configure_11 : decode cX10_configure 11 = .ok (.iload_n 2, 1) := by decide +kernel
theorem dX10_configure_12 : decode cX10_configure 12 = .ok (.iconst 1, 1) := by decide +kernel
theorem dX10_configure_13 : decode cX10_configure 13 = .ok (.if_icmp .lt 19, 3) := by decide +kernel
theorem dX10_configure_16 : decode cX10_configure 16 = .ok (.iload_n 2, 1) := by decide +kernel
theorem dX10_configure_17 : decode cX10_configure 17 = .ok (.bipush 9, 2) := by decide +kernel
theorem dX10_configure_19 : decode cX10_configure 19 = .ok (.if_icmp .gt 13, 3) := by decide +kernel
theorem dX10_configure_22 : decode cX10_configure 22 = .ok (.iload_n 3, 1) := by decide +kernel
theorem dX10_configure_23 : decode cX10_configure 23 = .ok (.ifCond .lt 9, 3) := by decide +kernel
theorem dX10_configure_26 : decode cX10_configure 26 = .ok (.iload_n 3, 1) := by decide +kernel
theorem dX10_configure_27 : decode cX10_configure 27 = .ok (.bipush 50, 2) := by decide +kernel
theorem dX10_configure_29 : decode cX10_configure 29 = .ok (.if_icmp .le 6, 3) := by decide +kernel
theorem dX10_configure_32 : decode cX10_configure 32 = .ok (.ldc 37, 2) := by decide +kernel
theorem dX10_configure_34 : decode cX10_configure 34 = .ok (.ireturn, 1) := by decide +kernel
theorem dX10_configure_35 : decode cX10_configure 35 = .ok (.sipush 1000, 3) := by decide +kernel
theorem dX10_configure_38 : decode cX10_configure 38 = .ok (.aload_n 0, 1) := by decide +kernel
theorem dX10_configure_39 : decode cX10_configure 39 = .ok (.getfield 10, 3) := by decide +kernel
theorem dX10_configure_42 : decode cX10_configure 42 = .ok (.getfield 38, 3) := by decide +kernel
theorem dX10_configure_45 : decode cX10_configure 45 = .ok (.imul, 1) := by decide +kernel
theorem dX10_configure_46 : decode cX10_configure 46 = .ok (.bipush 100, 2) := by decide +kernel
theorem dX10_configure_48 : decode cX10_configure 48 = .ok (.aload_n 0, 1) := by decide +kernel
theorem dX10_configure_49 : decode cX10_configure 49 = .ok (.getfield 10, 3) := by decide +kernel
theorem dX10_configure_52 : decode cX10_configure 52 = .ok (.getfield 42, 3) := by decide +kernel
theorem dX10_configure_55 : decode cX10_configure 55 = .ok (.imul, 1) := by decide +kernel
theorem dX10_configure_56 : decode cX10_configure 56 = .ok (.iadd, 1) := by decide +kernel
theorem dX10_configure_57 : decode cX10_configure 57 = .ok (.aload_n 0, 1) := by decide +kernel
theorem dX10_configure_58 : decode cX10_configure 58 = .ok (.getfield 10, 3) := by decide +kernel
theorem dX10_configure_61 : decode cX10_configure 61 = .ok (.getfield 45, 3) := by decide +kernel
theorem dX10_configure_64 : decode cX10_configure 64 = .ok (.iadd, 1) := by decide +kernel
theorem dX10_configure_65 : decode cX10_configure 65 = .ok (.istore 4, 2) := by decide +kernel
theorem dX10_configure_67 : decode cX10_configure 67 = .ok (.aload_n 0, 1) := by decide +kernel
theorem dX10_configure_68 : decode cX10_configure 68 = .ok (.getfield 10, 3) := by decide +kernel
theorem dX10_configure_71 : decode cX10_configure 71 = .ok (.iload_n 1, 1) := by decide +kernel
theorem dX10_configure_72 : decode cX10_configure 72 = .ok (.putfield 38, 3) := by decide +kernel
theorem dX10_configure_75 : decode cX10_configure 75 = .ok (.aload_n 0, 1) := by decide +kernel
theorem dX10_configure_76 : decode cX10_configure 76 = .ok (.getfield 10, 3) := by decide +kernel
theorem dX10_configure_79 : decode cX10_configure 79 = .ok (.iload_n 2, 1) := by decide +kernel
theorem dX10_configure_80 : decode cX10_configure 80 = .ok (.putfield 42, 3) := by decide +kernel
theorem dX10_configure_83 : decode cX10_configure 83 = .ok (.aload_n 0, 1) := by decide +kernel
theorem dX10_configure_84 : decode cX10_configure 84 = .ok (.getfield 10, 3) := by decide +kernel
theorem dX10_configure_87 : decode cX10_configure 87 = .ok (.iload_n 3, 1) := by decide +kernel
theorem dX10_configure_88 : decode cX10_configure 88 = .ok (.putfield 45, 3) := by decide +kernel
theorem dX10_configure_91 : decode cX10_configure 91 = .ok (.iload 4, 2) := by decide +kernel
theorem dX10_configure_93 : decode cX10_configure 93 = .ok (.ireturn, 1) := by decide +kernel
theorem dX10_connect_0 : decode cX10_connect 0 = .ok (.aload_n 0, 1) := by decide +kernel
theorem dX10_connect_1 : decode cX10_connect 1 = .ok (.getfield 10, 3) := by decide +kernel
theorem dX10_connect_4 : decode cX10_connect 4 = .ok (.getfield 48, 3) := by decide +kernel
theorem dX10_connect_7 : decode cX10_connect 7 = .ok (.astore_n 2, 1) := by decide +kernel
theorem dX10_connect_8 : decode cX10_connect 8 = .ok (.iload_n 1, 1) := by decide +kernel
theorem dX10_connect_9 : decode cX10_connect 9 = .ok (.ifCond .lt 10, 3) := by decide +kernel
theorem dX10_connect_12 : decode cX10_connect 12 = .ok (.iload_n 1, 1) := by decide +kernel
theorem dX10_connect_13 : decode cX10_connect 13 = .ok (.sipush 9999, 3) := by decide +kernel
theorem dX10_connect_16 : decode cX10_connect 16 = .ok (.if_icmp .le 6, 3) := by decide +kernel
theorem dX10_connect_19 : decode cX10_connect 19 = .ok (.ldc 37, 2) := by decide +kernel
theorem dX10_connect_21 : decode cX10_connect 21 = .ok (.ireturn, 1) := by decide +kernel
theorem dX10_connect_22 : decode cX10_connect 22 = .ok (.aload_n 2, 1) := by decide +kernel
theorem dX10_connect_23 : decode cX10_connect 23 = .ok (.getfield 52, 3) := by decide +kernel
theorem dX10_connect_26 : decode cX10_connect 26 = .ok (.ifCond .eq 14, 3) := by decide +kernel
theorem dX10_connect_29 : decode cX10_connect 29 = .ok (.aload_n 2, 1) := by decide +kernel
theorem dX10_connect_30 : decode cX10_connect 30 = .ok (.getfield 52, 3) := by decide +kernel
theorem dX10_connect_33 : decode cX10_connect 33 = .ok (.iconst 4, 1) := by decide +kernel
theorem dX10_connect_34 : decode cX10_connect 34 = .ok (.if_icmp .eq 6, 3) := by decide +kernel
theorem dX10_connect_37 : decode cX10_connect 37 = .ok (.ldc 57, 2) := by decide +kernel
theorem dX10_connect_39 : decode cX10_connect 39 = .ok (.ireturn, 1) := by decide +kernel
theorem dX10_connect_40 : decode cX10_connect 40 = .ok (.aload_n 0, 1) := by decide +kernel
theorem dX10_connect_41 : decode cX10_connect 41 = .ok (.getfield 10, 3) := by decide +kernel
theorem dX10_connect_44 : decode cX10_connect 44 = .ok (.getfield 58, 3) := by decide +kernel
theorem dX10_connect_47 : decode cX10_connect 47 = .ok (.invokevirtual 62, 3) := by decide +kernel
theorem dX10_connect_50 : decode cX10_connect 50 = .ok (.ifCond .eq 6, 3) := by decide +kernel
theorem dX10_connect_53 : decode cX10_connect 53 = .ok (.ldc 68, 2) := by decide +kernel
theorem dX10_connect_55 : decode cX10_connect 55 = .ok (.ireturn, 1) := by decide +kernel
theorem dX10_connect_56 : decode cX10_connect 56 = .ok (.aload_n 2, 1) := by decide +kernel
theorem dX10_connect_57 : decode cX10_connect 57 = .ok (.invokevirtual 69, 3) := by decide +kernel
theorem dX10_connect_60 : decode cX10_connect 60 = .ok (.aload_n 0, 1) := by decide +kernel
theorem dX10_connect_61 : decode cX10_connect 61 = .ok (.iload_n 1, 1) := by decide +kernel
theorem dX10_connect_62 : decode cX10_connect 62 = .ok (.iconst (-1), 1) := by decide +kernel
theorem dX10_connect_63 : decode cX10_connect 63 = .ok (.invokevirtual 72, 3) := by decide +kernel
theorem dX10_connect_66 : decode cX10_connect 66 = .ok (.aload_n 0, 1) := by decide +kernel
theorem dX10_connect_67 : decode cX10_connect 67 = .ok (.getfield 10, 3) := by decide +kernel
theorem dX10_connect_70 : decode cX10_connect 70 = .ok (.getfield 76, 3) := by decide +kernel
theorem dX10_connect_73 : decode cX10_connect 73 = .ok (.ireturn, 1) := by decide +kernel
theorem dX10_resume_0 : decode cX10_resume 0 = .ok (.aload_n 0, 1) := by decide +kernel
theorem dX10_resume_1 : decode cX10_resume 1 = .ok (.getfield 10, 3) := by decide +kernel
theorem dX10_resume_4 : decode cX10_resume 4 = .ok (.getfield 48, 3) := by decide +kernel
theorem dX10_resume_7 : decode cX10_resume 7 = .ok (.astore_n 2, 1) := by decide +kernel
theorem dX10_resume_8 : decode cX10_resume 8 = .ok (.iload_n 1, 1) := by decide +kernel
theorem dX10_resume_9 : decode cX10_resume 9 = .ok (.ifCond .lt 10, 3) := by decide +kernel
theorem dX10_resume_12 : decode cX10_resume 12 = .ok (.iload_n 1, 1) := by decide +kernel
theorem dX10_resume_13 : decode cX10_resume 13 = .ok (.sipush 9999, 3) := by decide +kernel
theorem dX10_resume_16 : decode cX10_resume 16 = .ok (.if_icmp .le 6, 3) := by decide +kernel
theorem dX10_resume_19 : decode cX10_resume 19 = .ok (.ldc 37, 2) := by decide +kernel
theorem dX10_resume_21 : decode cX10_resume 21 = .ok (.ireturn, 1) := by decide +kernel
theorem dX10_resume_22 : decode cX10_resume 22 = .ok (.aload_n 2, 1) := by decide +kernel
theorem dX10_resume_23 : decode cX10_resume 23 = .ok (.getfield 52, 3) := by decide +kernel
theorem dX10_resume_26 : decode cX10_resume 26 = .ok (.ifCond .eq 6, 3) := by decide +kernel
theorem dX10_resume_29 : decode cX10_resume 29 = .ok (.ldc 57, 2) := by decide +kernel
theorem dX10_resume_31 : decode cX10_resume 31 = .ok (.ireturn, 1) := by decide +kernel
theorem dX10_resume_32 : decode cX10_resume 32 = .ok (.aload_n 2, 1) := by decide +kernel
theorem dX10_resume_33 : decode cX10_resume 33 = .ok (.getfield 79, 3) := by decide +kernel
theorem dX10_resume_36 : decode cX10_resume 36 = .ok (.iconst (-1), 1) := by decide +kernel
theorem dX10_resume_37 : decode cX10_resume 37 = .ok (.if_icmp .ne 6, 3) := by decide +kernel
theorem dX10_resume_40 : decode cX10_resume 40 = .ok (.ldc 82, 2) := by decide +kernel
theorem dX10_resume_42 : decode cX10_resume 42 = .ok (.ireturn, 1) := by decide +kernel
theorem dX10_resume_43 : decode cX10_resume 43 = .ok (.aload_n 0, 1) := by decide +kernel
theorem dX10_resume_44 : decode cX10_resume 44 = .ok (.getfield 10, 3) := by decide +kernel
theorem dX10_resume_47 : decode cX10_resume 47 = .ok (.getfield 58, 3) := by decide +kernel
theorem dX10_resume_50 : decode cX10_resume 50 = .ok (.invokevirtual 62, 3) := by decide +kernel
theorem dX10_resume_53 : decode cX10_resume 53 = .ok (.ifCond .eq 6, 3) := by decide +kernel
theorem dX10_resume_56 : decode cX10_resume 56 = .ok (.ldc 68, 2) := by decide +kernel
theorem dX10_resume_58 : decode cX10_resume 58 = .ok (.ireturn, 1) := by decide +kernel
theorem dX10_resume_59 : decode cX10_resume 59 = .ok (.aload_n 2, 1) := by decide +kernel
theorem dX10_resume_60 : decode cX10_resume 60 = .ok (.getfield 79, 3) := by decide +kernel
theorem dX10_resume_63 : decode cX10_resume 63 = .ok (.istore_n 3, 1) := by decide +kernel
theorem dX10_resume_64 : decode cX10_resume 64 = .ok (.aload_n 2, 1) := by decide +kernel
theorem dX10_resume_65 : decode cX10_resume 65 = .ok (.iconst (-1), 1) := by decide +kernel
theorem dX10_resume_66 : decode cX10_resume 66 = .ok (.putfield 79, 3) := by decide +kernel
theorem dX10_resume_69 : decode cX10_resume 69 = .ok (.aload_n 0, 1) := by decide +kernel
theorem dX10_resume_70 : decode cX10_resume 70 = .ok (.iload_n 1, 1) := by decide +kernel
theorem dX10_resume_71 : decode cX10_resume 71 = .ok (.iload_n 3, 1) := by decide +kernel
theorem dX10_resume_72 : decode cX10_resume 72 = .ok (.invokevirtual 72, 3) := by decide +kernel
theorem dX10_resume_75 : decode cX10_resume 75 = .ok (.aload_n 0, 1) := by decide +kernel
theorem dX10_resume_76 : decode cX10_resume 76 = .ok (.getfield 10, 3) := by decide +kernel
theorem dX10_resume_79 : decode cX10_resume 79 = .ok (.getfield 76, 3) := by decide +kernel
theorem dX10_resume_82 : decode cX10_resume 82 = .ok (.ireturn, 1) := by decide +kernel
theorem dX10_disconnect_0 : decode cX10_disconnect 0 = .ok (.aload_n 0, 1) := by decide +kernel
theorem dX10_disconnect_1 : decode cX10_disconnect 1 = .ok (.getfield 10, 3) := by decide +kernel
theorem dX10_disconnect_4 : decode cX10_disconnect 4 = .ok (.getfield 58, 3) := by decide +kernel
theorem dX10_disconnect_7 : decode cX10_disconnect 7 = .ok (.getfield 83, 3) := by decide +kernel
theorem dX10_disconnect_10 : decode cX10_disconnect 10 = .ok (.istore_n 1, 1) := by decide +kernel
theorem dX10_disconnect_11 : decode cX10_disconnect 11 = .ok (.aload_n 0, 1) := by decide +kernel
theorem dX10_disconnect_12 : decode cX10_disconnect 12 = .ok (.getfield 10, 3) := by decide +kernel
theorem dX10_disconnect_15 : decode cX10_disconnect 15 = .ok (.getfield 58, 3) := by decide +kernel
theorem dX10_disconnect_18 : decode cX10_disconnect 18 = .ok (.iconst 0, 1) := by decide +kernel
theorem dX10_disconnect_19 : decode cX10_disconnect 19 = .ok (.putfield 83, 3) := by decide +kernel
theorem dX10_disconnect_22 : decode cX10_disconnect 22 = .ok (.aload_n 0, 1) := by decide +kernel
theorem dX10_disconnect_23 : decode cX10_disconnect 23 = .ok (.getfield 10, 3) := by decide +kernel
theorem dX10_disconnect_26 : decode cX10_disconnect 26 = .ok (.dup, 1) := by decide +kernel
theorem dX10_disconnect_27 : decode cX10_disconnect 27 = .ok (.getfield 86, 3) := by decide +kernel
theorem dX10_disconnect_30 : decode cX10_disconnect 30 = .ok (.iload_n 1, 1) := by decide +kernel
theorem dX10_disconnect_31 : decode cX10_disconnect 31 = .ok (.iadd, 1) := by decide +kernel
theorem dX10_disconnect_32 : decode cX10_disconnect 32 = .ok (.putfield 86, 3) := by decide +kernel
theorem dX10_disconnect_35 : decode cX10_disconnect 35 = .ok (.aload_n 0, 1) := by decide +kernel
theorem dX10_disconnect_36 : decode cX10_disconnect 36 = .ok (.aload_n 0, 1) := by decide +kernel
theorem dX10_disconnect_37 : decode cX10_disconnect 37 = .ok (.getfield 10, 3) := by decide +kernel
theorem dX10_disconnect_40 : decode cX10_disconnect 40 = .ok (.getfield 48, 3) := by decide +kernel
theorem dX10_disconnect_43 : decode cX10_disconnect 43 = .ok (.invokevirtual 89, 3) := by decide +kernel
theorem dX10_disconnect_46 : decode cX10_disconnect 46 = .ok (.aload_n 0, 1) := by decide +kernel
theorem dX10_disconnect_47 : decode cX10_disconnect 47 = .ok (.aload_n 0, 1) := by decide +kernel
theorem dX10_disconnect_48 : decode cX10_disconnect 48 = .ok (.getfield 10, 3) := by decide +kernel
theorem dX10_disconnect_51 : decode cX10_disconnect 51 = .ok (.getfield 93, 3) := by decide +kernel
theorem dX10_disconnect_54 : decode cX10_disconnect 54 = .ok (.invokevirtual 89, 3) := by decide +kernel
theorem dX10_disconnect_57 : decode cX10_disconnect 57 = .ok (.iload_n 1, 1) := by decide +kernel
theorem dX10_disconnect_58 : decode cX10_disconnect 58 = .ok (.ireturn, 1) := by decide +kernel
theorem dX10_send_0 : decode cX10_send 0 = .ok (.iload_n 1, 1) := by decide +kernel
theorem dX10_send_1 : decode cX10_send 1 = .ok (.invokestatic 96, 3) := by decide +kernel
theorem dX10_send_4 : decode cX10_send 4 = .ok (.ifCond .eq 17, 3) := by decide +kernel
theorem dX10_send_7 : decode cX10_send 7 = .ok (.iload_n 2, 1) := by decide +kernel
theorem dX10_send_8 : decode cX10_send 8 = .ok (.sipush (-999), 3) := by decide +kernel
theorem dX10_send_11 : decode cX10_send 11 = .ok (.if_icmp .lt 10, 3) := by decide +kernel
theorem dX10_send_14 : decode cX10_send 14 = .ok (.iload_n 2, 1) := by decide +kernel
theorem dX10_send_15 : decode cX10_send 15 = .ok (.sipush 999, 3) := by decide +kernel
theorem dX10_send_18 : decode cX10_send 18 = .ok (.if_icmp .le 6, 3) := by decide +kernel
theorem dX10_send_21 : decode cX10_send 21 = .ok (.ldc 37, 2) := by decide +kernel
theorem dX10_send_23 : decode cX10_send 23 = .ok (.ireturn, 1) := by decide +kernel
theorem dX10_send_24 : decode cX10_send 24 = .ok (.aload_n 0, 1) := by decide +kernel
theorem dX10_send_25 : decode cX10_send 25 = .ok (.aload_n 0, 1) := by decide +kernel
theorem dX10_send_26 : decode cX10_send 26 = .ok (.iload_n 1, 1) := by decide +kernel
theorem dX10_send_27 : decode cX10_send 27 = .ok (.invokevirtual 100, 3) := by decide +kernel
theorem dX10_send_30 : decode cX10_send 30 = .ok (.iload_n 2, 1) := by decide +kernel
theorem dX10_send_31 : decode cX10_send 31 = .ok (.iconst 0, 1) := by decide +kernel
theorem dX10_send_32 : decode cX10_send 32 = .ok (.invokevirtual 104, 3) := by decide +kernel
theorem dX10_send_35 : decode cX10_send 35 = .ok (.ireturn, 1) := by decide +kernel
theorem dX10_close_0 : decode cX10_close 0 = .ok (.iload_n 1, 1) := by decide +kernel
theorem dX10_close_1 : decode cX10_close 1 = .ok (.invokestatic 96, 3) := by decide +kernel
theorem dX10_close_4 : decode cX10_close 4 = .ok (.ifCond .ne 6, 3) := by decide +kernel
theorem dX10_close_7 : decode cX10_close 7 = .ok (.ldc 37, 2) := by decide +kernel
theorem dX10_close_9 : decode cX10_close 9 = .ok (.ireturn, 1) := by decide +kernel
theorem dX10_close_10 : decode cX10_close 10 = .ok (.aload_n 0, 1) := by decide +kernel
theorem dX10_close_11 : decode cX10_close 11 = .ok (.aload_n 0, 1) := by decide +kernel
theorem dX10_close_12 : decode cX10_close 12 = .ok (.iload_n 1, 1) := by decide +kernel
theorem dX10_close_13 : decode cX10_close 13 = .ok (.invokevirtual 100, 3) := by decide +kernel
theorem dX10_close_16 : decode cX10_close 16 = .ok (.iconst 0, 1) := by decide +kernel
theorem dX10_close_17 : decode cX10_close 17 = .ok (.iconst 1, 1) := by decide +kernel
theorem dX10_close_18 : decode cX10_close 18 = .ok (.invokevirtual 104, 3) := by decide +kernel
theorem dX10_close_21 : decode cX10_close 21 = .ok (.ireturn, 1) := by decide +kernel
theorem dX10_deliver_0 : decode cX10_deliver 0 = .ok (.aload_n 0, 1) := by decide +kernel
theorem dX10_deliver_1 : decode cX10_deliver 1 = .ok (.getfield 10, 3) := by decide +kernel
theorem dX10_deliver_4 : decode cX10_deliver 4 = .ok (.getfield 58, 3) := by decide +kernel
theorem dX10_deliver_7 : decode cX10_deliver 7 = .ok (.iload_n 1, 1) := by decide +kernel
theorem dX10_deliver_8 : decode cX10_deliver 8 = .ok (.invokevirtual 108, 3) := by decide +kernel
theorem dX10_deliver_11 : decode cX10_deliver 11 = .ok (.astore_n 2, 1) := by decide +kernel
theorem dX10_deliver_12 : decode cX10_deliver 12 = .ok (.aload_n 2, 1) := by decide +kernel
theorem dX10_deliver_13 : decode cX10_deliver 13 = .ok (.ifnonnull 6, 3) := by decide +kernel
theorem dX10_deliver_16 : decode cX10_deliver 16 = .ok (.ldc 82, 2) := by decide +kernel
theorem dX10_deliver_18 : decode cX10_deliver 18 = .ok (.ireturn, 1) := by decide +kernel
theorem dX10_deliver_19 : decode cX10_deliver 19 = .ok (.aload_n 0, 1) := by decide +kernel
theorem dX10_deliver_20 : decode cX10_deliver 20 = .ok (.getfield 29, 3) := by decide +kernel
theorem dX10_deliver_23 : decode cX10_deliver 23 = .ok (.aload_n 2, 1) := by decide +kernel
theorem dX10_deliver_24 : decode cX10_deliver 24 = .ok (.invokevirtual 112, 3) := by decide +kernel
theorem dX10_deliver_27 : decode cX10_deliver 27 = .ok (.aload_n 0, 1) := by decide +kernel
theorem dX10_deliver_28 : decode cX10_deliver 28 = .ok (.getfield 10, 3) := by decide +kernel
theorem dX10_deliver_31 : decode cX10_deliver 31 = .ok (.getfield 58, 3) := by decide +kernel
theorem dX10_deliver_34 : decode cX10_deliver 34 = .ok (.iload_n 1, 1) := by decide +kernel
theorem dX10_deliver_35 : decode cX10_deliver 35 = .ok (.invokevirtual 116, 3) := by decide +kernel
theorem dX10_deliver_38 : decode cX10_deliver 38 = .ok (.aload_n 0, 1) := by decide +kernel
theorem dX10_deliver_39 : decode cX10_deliver 39 = .ok (.iconst 1, 1) := by decide +kernel
theorem dX10_deliver_40 : decode cX10_deliver 40 = .ok (.aload_n 0, 1) := by decide +kernel
theorem dX10_deliver_41 : decode cX10_deliver 41 = .ok (.getfield 29, 3) := by decide +kernel
theorem dX10_deliver_44 : decode cX10_deliver 44 = .ok (.getfield 120, 3) := by decide +kernel
theorem dX10_deliver_47 : decode cX10_deliver 47 = .ok (.isub, 1) := by decide +kernel
theorem dX10_deliver_48 : decode cX10_deliver 48 = .ok (.invokevirtual 100, 3) := by decide +kernel
theorem dX10_deliver_51 : decode cX10_deliver 51 = .ok (.astore_n 3, 1) := by decide +kernel
theorem dX10_deliver_52 : decode cX10_deliver 52 = .ok (.aload_n 0, 1) := by decide +kernel
theorem dX10_deliver_53 : decode cX10_deliver 53 = .ok (.aload_n 0, 1) := by decide +kernel
theorem dX10_deliver_54 : decode cX10_deliver 54 = .ok (.getfield 29, 3) := by decide +kernel
theorem dX10_deliver_57 : decode cX10_deliver 57 = .ok (.aload_n 3, 1) := by decide +kernel
theorem dX10_deliver_58 : decode cX10_deliver 58 = .ok (.invokevirtual 123, 3) := by decide +kernel
theorem dX10_deliver_61 : decode cX10_deliver 61 = .ok (.istore 4, 2) := by decide +kernel
theorem dX10_deliver_63 : decode cX10_deliver 63 = .ok (.aload_n 3, 1) := by decide +kernel
theorem dX10_deliver_64 : decode cX10_deliver 64 = .ok (.iload 4, 2) := by decide +kernel
theorem dX10_deliver_66 : decode cX10_deliver 66 = .ok (.invokevirtual 127, 3) := by decide +kernel
theorem dX10_deliver_69 : decode cX10_deliver 69 = .ok (.aload_n 0, 1) := by decide +kernel
theorem dX10_deliver_70 : decode cX10_deliver 70 = .ok (.getfield 10, 3) := by decide +kernel
theorem dX10_deliver_73 : decode cX10_deliver 73 = .ok (.dup, 1) := by decide +kernel
theorem dX10_deliver_74 : decode cX10_deliver 74 = .ok (.getfield 130, 3) := by decide +kernel
theorem dX10_deliver_77 : decode cX10_deliver 77 = .ok (.iconst 1, 1) := by decide +kernel
theorem dX10_deliver_78 : decode cX10_deliver 78 = .ok (.iadd, 1) := by decide +kernel
theorem dX10_deliver_79 : decode cX10_deliver 79 = .ok (.putfield 130, 3) := by decide +kernel
theorem dX10_deliver_82 : decode cX10_deliver 82 = .ok (.aload_n 0, 1) := by decide +kernel
theorem dX10_deliver_83 : decode cX10_deliver 83 = .ok (.getfield 10, 3) := by decide +kernel
theorem dX10_deliver_86 : decode cX10_deliver 86 = .ok (.getfield 133, 3) := by decide +kernel
theorem dX10_deliver_89 : decode cX10_deliver 89 = .ok (.iconst 1, 1) := by decide +kernel
theorem dX10_deliver_90 : decode cX10_deliver 90 = .ok (.aload_n 0, 1) := by decide +kernel
theorem dX10_deliver_91 : decode cX10_deliver 91 = .ok (.getfield 29, 3) := by decide +kernel
theorem dX10_deliver_94 : decode cX10_deliver 94 = .ok (.getfield 137, 3) := by decide +kernel
theorem dX10_deliver_97 : decode cX10_deliver 97 = .ok (.iload 4, 2) := by decide +kernel
theorem dX10_deliver_99 : decode cX10_deliver 99 = .ok (.invokevirtual 140, 3) := by decide +kernel
theorem dX10_deliver_102 : decode cX10_deliver 102 = .ok (.iload 4, 2) := by decide +kernel
theorem dX10_deliver_104 : decode cX10_deliver 104 = .ok (.bipush 8, 2) := by decide +kernel
theorem dX10_deliver_106 : decode cX10_deliver 106 = .ok (.if_icmp .ne 22, 3) := by decide +kernel
theorem dX10_deliver_109 : decode cX10_deliver 109 = .ok (.aload_n 0, 1) := by decide +kernel
theorem dX10_deliver_110 : decode cX10_deliver 110 = .ok (.aload_n 3, 1) := by decide +kernel
theorem dX10_deliver_111 : decode cX10_deliver 111 = .ok (.iconst 2, 1) := by decide +kernel
theorem dX10_deliver_112 : decode cX10_deliver 112 = .ok (.aload_n 0, 1) := by decide +kernel
theorem dX10_deliver_113 : decode cX10_deliver 113 = .ok (.getfield 29, 3) := by decide +kernel
theorem dX10_deliver_116 : decode cX10_deliver 116 = .ok (.getfield 146, 3) := by decide +kernel
theorem dX10_deliver_119 : decode cX10_deliver 119 = .ok (.iconst 0, 1) := by decide +kernel
theorem dX10_deliver_120 : decode cX10_deliver 120 = .ok (.iconst 0, 1) := by decide +kernel
theorem dX10_deliver_121 : decode cX10_deliver 121 = .ok (.invokevirtual 149, 3) := by decide +kernel
theorem dX10_deliver_124 : decode cX10_deliver 124 = .ok (.pop, 1) := by decide +kernel
theorem dX10_deliver_125 : decode cX10_deliver 125 = .ok (.goto 44, 3) := by decide +kernel
theorem dX10_deliver_128 : decode cX10_deliver 128 = .ok (.iload 4, 2) := by decide +kernel
theorem dX10_deliver_130 : decode cX10_deliver 130 = .ok (.ifCond .ne 25, 3) := by decide +kernel
theorem dX10_deliver_133 : decode cX10_deliver 133 = .ok (.aload_n 0, 1) := by decide +kernel
theorem dX10_deliver_134 : decode cX10_deliver 134 = .ok (.getfield 29, 3) := by decide +kernel
theorem dX10_deliver_137 : decode cX10_deliver 137 = .ok (.invokevirtual 153, 3) := by decide +kernel
theorem dX10_deliver_140 : decode cX10_deliver 140 = .ok (.ifCond .eq 15, 3) := by decide +kernel
theorem dX10_deliver_143 : decode cX10_deliver 143 = .ok (.aload_n 0, 1) := by decide +kernel
theorem dX10_deliver_144 : decode cX10_deliver 144 = .ok (.aload_n 3, 1) := by decide +kernel
theorem dX10_deliver_145 : decode cX10_deliver 145 = .ok (.aload_n 0, 1) := by decide +kernel
theorem dX10_deliver_146 : decode cX10_deliver 146 = .ok (.getfield 29, 3) := by decide +kernel
theorem dX10_deliver_149 : decode cX10_deliver 149 = .ok (.invokevirtual 156, 3) := by decide +kernel
theorem dX10_deliver_152 : decode cX10_deliver 152 = .ok (.goto 17, 3) := by decide +kernel
theorem dX10_deliver_155 : decode cX10_deliver 155 = .ok (.iload 4, 2) := by decide +kernel
theorem dX10_deliver_157 : decode cX10_deliver 157 = .ok (.ifCond .ne 12, 3) := by decide +kernel
theorem dX10_deliver_160 : decode cX10_deliver 160 = .ok (.aload_n 0, 1) := by decide +kernel
theorem dX10_deliver_161 : decode cX10_deliver 161 = .ok (.aload_n 3, 1) := by decide +kernel
theorem dX10_deliver_162 : decode cX10_deliver 162 = .ok (.aload_n 0, 1) := by decide +kernel
theorem dX10_deliver_163 : decode cX10_deliver 163 = .ok (.getfield 29, 3) := by decide +kernel
theorem dX10_deliver_166 : decode cX10_deliver 166 = .ok (.invokevirtual 160, 3) := by decide +kernel
theorem dX10_deliver_169 : decode cX10_deliver 169 = .ok (.iload 4, 2) := by decide +kernel
theorem dX10_deliver_171 : decode cX10_deliver 171 = .ok (.ireturn, 1) := by decide +kernel
theorem dX10_foresee_0 : decode cX10_foresee 0 = .ok (.aload_n 0, 1) := by decide +kernel
theorem dX10_foresee_1 : decode cX10_foresee 1 = .ok (.getfield 10, 3) := by decide +kernel
theorem dX10_foresee_4 : decode cX10_foresee 4 = .ok (.getfield 58, 3) := by decide +kernel
theorem dX10_foresee_7 : decode cX10_foresee 7 = .ok (.iload_n 1, 1) := by decide +kernel
theorem dX10_foresee_8 : decode cX10_foresee 8 = .ok (.invokevirtual 108, 3) := by decide +kernel
theorem dX10_foresee_11 : decode cX10_foresee 11 = .ok (.astore_n 2, 1) := by decide +kernel
theorem dX10_foresee_12 : decode cX10_foresee 12 = .ok (.aload_n 2, 1) := by decide +kernel
theorem dX10_foresee_13 : decode cX10_foresee 13 = .ok (.ifnonnull 6, 3) := by decide +kernel
theorem dX10_foresee_16 : decode cX10_foresee 16 = .ok (.ldc 82, 2) := by decide +kernel
theorem dX10_foresee_18 : decode cX10_foresee 18 = .ok (.ireturn, 1) := by decide +kernel
theorem dX10_foresee_19 : decode cX10_foresee 19 = .ok (.aload_n 0, 1) := by decide +kernel
theorem dX10_foresee_20 : decode cX10_foresee 20 = .ok (.aload_n 2, 1) := by decide +kernel
theorem dX10_foresee_21 : decode cX10_foresee 21 = .ok (.aload_n 0, 1) := by decide +kernel
theorem dX10_foresee_22 : decode cX10_foresee 22 = .ok (.iconst 1, 1) := by decide +kernel
theorem dX10_foresee_23 : decode cX10_foresee 23 = .ok (.aload_n 2, 1) := by decide +kernel
theorem dX10_foresee_24 : decode cX10_foresee 24 = .ok (.getfield 120, 3) := by decide +kernel
theorem dX10_foresee_27 : decode cX10_foresee 27 = .ok (.isub, 1) := by decide +kernel
theorem dX10_foresee_28 : decode cX10_foresee 28 = .ok (.invokevirtual 100, 3) := by decide +kernel
theorem dX10_foresee_31 : decode cX10_foresee 31 = .ok (.invokevirtual 123, 3) := by decide +kernel
theorem dX10_foresee_34 : decode cX10_foresee 34 = .ok (.ireturn, 1) := by decide +kernel
theorem dX10_drop_0 : decode cX10_drop 0 = .ok (.aload_n 0, 1) := by decide +kernel
theorem dX10_drop_1 : decode cX10_drop 1 = .ok (.getfield 10, 3) := by decide +kernel
theorem dX10_drop_4 : decode cX10_drop 4 = .ok (.getfield 58, 3) := by decide +kernel
theorem dX10_drop_7 : decode cX10_drop 7 = .ok (.iload_n 1, 1) := by decide +kernel
theorem dX10_drop_8 : decode cX10_drop 8 = .ok (.invokevirtual 108, 3) := by decide +kernel
theorem dX10_drop_11 : decode cX10_drop 11 = .ok (.astore_n 2, 1) := by decide +kernel
theorem dX10_drop_12 : decode cX10_drop 12 = .ok (.aload_n 2, 1) := by decide +kernel
theorem dX10_drop_13 : decode cX10_drop 13 = .ok (.ifnonnull 6, 3) := by decide +kernel
theorem dX10_drop_16 : decode cX10_drop 16 = .ok (.ldc 82, 2) := by decide +kernel
theorem dX10_drop_18 : decode cX10_drop 18 = .ok (.ireturn, 1) := by decide +kernel
theorem dX10_drop_19 : decode cX10_drop 19 = .ok (.aload_n 0, 1) := by decide +kernel
theorem dX10_drop_20 : decode cX10_drop 20 = .ok (.getfield 10, 3) := by decide +kernel
theorem dX10_drop_23 : decode cX10_drop 23 = .ok (.dup, 1) := by decide +kernel
theorem dX10_drop_24 : decode cX10_drop 24 = .ok (.getfield 86, 3) := by decide +kernel
theorem dX10_drop_27 : decode cX10_drop 27 = .ok (.iconst 1, 1) := by decide +kernel
theorem dX10_drop_28 : decode cX10_drop 28 = .ok (.iadd, 1) := by decide +kernel
theorem dX10_drop_29 : decode cX10_drop 29 = .ok (.putfield 86, 3) := by decide +kernel
theorem dX10_drop_32 : decode cX10_drop 32 = .ok (.aload_n 0, 1) := by decide +kernel
theorem dX10_drop_33 : decode cX10_drop 33 = .ok (.getfield 10, 3) := by decide +kernel
theorem dX10_drop_36 : decode cX10_drop 36 = .ok (.getfield 133, 3) := by decide +kernel
theorem dX10_drop_39 : decode cX10_drop 39 = .ok (.iconst 2, 1) := by decide +kernel
theorem dX10_drop_40 : decode cX10_drop 40 = .ok (.aload_n 2, 1) := by decide +kernel
theorem dX10_drop_41 : decode cX10_drop 41 = .ok (.getfield 120, 3) := by decide +kernel
theorem dX10_drop_44 : decode cX10_drop 44 = .ok (.aload_n 2, 1) := by decide +kernel
theorem dX10_drop_45 : decode cX10_drop 45 = .ok (.getfield 137, 3) := by decide +kernel
theorem dX10_drop_48 : decode cX10_drop 48 = .ok (.invokevirtual 140, 3) := by decide +kernel
theorem dX10_drop_51 : decode cX10_drop 51 = .ok (.aload_n 0, 1) := by decide +kernel
theorem dX10_drop_52 : decode cX10_drop 52 = .ok (.getfield 10, 3) := by decide +kernel
theorem dX10_drop_55 : decode cX10_drop 55 = .ok (.getfield 58, 3) := by decide +kernel
theorem dX10_drop_58 : decode cX10_drop 58 = .ok (.iload_n 1, 1) := by decide +kernel
theorem dX10_drop_59 : decode cX10_drop 59 = .ok (.invokevirtual 116, 3) := by decide +kernel
theorem dX10_drop_62 : decode cX10_drop 62 = .ok (.aload_n 0, 1) := by decide +kernel
theorem dX10_drop_63 : decode cX10_drop 63 = .ok (.getfield 10, 3) := by decide +kernel
theorem dX10_drop_66 : decode cX10_drop 66 = .ok (.getfield 58, 3) := by decide +kernel
theorem dX10_drop_69 : decode cX10_drop 69 = .ok (.getfield 83, 3) := by decide +kernel
theorem dX10_drop_72 : decode cX10_drop 72 = .ok (.ireturn, 1) := by decide +kernel
theorem dX10_repeat_0 : decode cX10_repeat 0 = .ok (.aload_n 0, 1) := by decide +kernel
theorem dX10_repeat_1 : decode cX10_repeat 1 = .ok (.getfield 10, 3) := by decide +kernel
theorem dX10_repeat_4 : decode cX10_repeat 4 = .ok (.getfield 58, 3) := by decide +kernel
theorem dX10_repeat_7 : decode cX10_repeat 7 = .ok (.iload_n 1, 1) := by decide +kernel
theorem dX10_repeat_8 : decode cX10_repeat 8 = .ok (.invokevirtual 108, 3) := by decide +kernel
theorem dX10_repeat_11 : decode cX10_repeat 11 = .ok (.astore_n 2, 1) := by decide +kernel
theorem dX10_repeat_12 : decode cX10_repeat 12 = .ok (.aload_n 2, 1) := by decide +kernel
theorem dX10_repeat_13 : decode cX10_repeat 13 = .ok (.ifnonnull 6, 3) := by decide +kernel
theorem dX10_repeat_16 : decode cX10_repeat 16 = .ok (.ldc 82, 2) := by decide +kernel
theorem dX10_repeat_18 : decode cX10_repeat 18 = .ok (.ireturn, 1) := by decide +kernel
theorem dX10_repeat_19 : decode cX10_repeat 19 = .ok (.aload_n 0, 1) := by decide +kernel
theorem dX10_repeat_20 : decode cX10_repeat 20 = .ok (.getfield 10, 3) := by decide +kernel
theorem dX10_repeat_23 : decode cX10_repeat 23 = .ok (.getfield 58, 3) := by decide +kernel
theorem dX10_repeat_26 : decode cX10_repeat 26 = .ok (.invokevirtual 163, 3) := by decide +kernel
theorem dX10_repeat_29 : decode cX10_repeat 29 = .ok (.astore_n 3, 1) := by decide +kernel
theorem dX10_repeat_30 : decode cX10_repeat 30 = .ok (.aload_n 3, 1) := by decide +kernel
theorem dX10_repeat_31 : decode cX10_repeat 31 = .ok (.ifnonnull 6, 3) := by decide +kernel
theorem dX10_repeat_34 : decode cX10_repeat 34 = .ok (.ldc 68, 2) := by decide +kernel
theorem dX10_repeat_36 : decode cX10_repeat 36 = .ok (.ireturn, 1) := by decide +kernel
theorem dX10_repeat_37 : decode cX10_repeat 37 = .ok (.aload_n 3, 1) := by decide +kernel
theorem dX10_repeat_38 : decode cX10_repeat 38 = .ok (.aload_n 2, 1) := by decide +kernel
theorem dX10_repeat_39 : decode cX10_repeat 39 = .ok (.invokevirtual 112, 3) := by decide +kernel
theorem dX10_repeat_42 : decode cX10_repeat 42 = .ok (.aload_n 0, 1) := by decide +kernel
theorem dX10_repeat_43 : decode cX10_repeat 43 = .ok (.getfield 10, 3) := by decide +kernel
theorem dX10_repeat_46 : decode cX10_repeat 46 = .ok (.dup, 1) := by decide +kernel
theorem dX10_repeat_47 : decode cX10_repeat 47 = .ok (.getfield 167, 3) := by decide +kernel
theorem dX10_repeat_50 : decode cX10_repeat 50 = .ok (.iconst 1, 1) := by decide +kernel
theorem dX10_repeat_51 : decode cX10_repeat 51 = .ok (.iadd, 1) := by decide +kernel
theorem dX10_repeat_52 : decode cX10_repeat 52 = .ok (.putfield 167, 3) := by decide +kernel
theorem dX10_repeat_55 : decode cX10_repeat 55 = .ok (.aload_n 0, 1) := by decide +kernel
theorem dX10_repeat_56 : decode cX10_repeat 56 = .ok (.getfield 10, 3) := by decide +kernel
theorem dX10_repeat_59 : decode cX10_repeat 59 = .ok (.getfield 58, 3) := by decide +kernel
theorem dX10_repeat_62 : decode cX10_repeat 62 = .ok (.getfield 83, 3) := by decide +kernel
theorem dX10_repeat_65 : decode cX10_repeat 65 = .ok (.ireturn, 1) := by decide +kernel
theorem dX10_alter_0 : decode cX10_alter 0 = .ok (.aload_n 0, 1) := by decide +kernel
theorem dX10_alter_1 : decode cX10_alter 1 = .ok (.getfield 10, 3) := by decide +kernel
theorem dX10_alter_4 : decode cX10_alter 4 = .ok (.getfield 58, 3) := by decide +kernel
theorem dX10_alter_7 : decode cX10_alter 7 = .ok (.iload_n 1, 1) := by decide +kernel
theorem dX10_alter_8 : decode cX10_alter 8 = .ok (.invokevirtual 108, 3) := by decide +kernel
theorem dX10_alter_11 : decode cX10_alter 11 = .ok (.astore_n 3, 1) := by decide +kernel
theorem dX10_alter_12 : decode cX10_alter 12 = .ok (.aload_n 3, 1) := by decide +kernel
theorem dX10_alter_13 : decode cX10_alter 13 = .ok (.ifnonnull 6, 3) := by decide +kernel
theorem dX10_alter_16 : decode cX10_alter 16 = .ok (.ldc 82, 2) := by decide +kernel
theorem dX10_alter_18 : decode cX10_alter 18 = .ok (.ireturn, 1) := by decide +kernel
theorem dX10_alter_19 : decode cX10_alter 19 = .ok (.iload_n 2, 1) := by decide +kernel
theorem dX10_alter_20 : decode cX10_alter 20 = .ok (.bipush (-99), 2) := by decide +kernel
theorem dX10_alter_22 : decode cX10_alter 22 = .ok (.if_icmp .lt 9, 3) := by decide +kernel
theorem dX10_alter_25 : decode cX10_alter 25 = .ok (.iload_n 2, 1) := by decide +kernel
theorem dX10_alter_26 : decode cX10_alter 26 = .ok (.bipush 99, 2) := by decide +kernel
theorem dX10_alter_28 : decode cX10_alter 28 = .ok (.if_icmp .le 6, 3) := by decide +kernel
theorem dX10_alter_31 : decode cX10_alter 31 = .ok (.ldc 37, 2) := by decide +kernel
theorem dX10_alter_33 : decode cX10_alter 33 = .ok (.ireturn, 1) := by decide +kernel
theorem dX10_alter_34 : decode cX10_alter 34 = .ok (.aload_n 3, 1) := by decide +kernel
theorem dX10_alter_35 : decode cX10_alter 35 = .ok (.dup, 1) := by decide +kernel
theorem dX10_alter_36 : decode cX10_alter 36 = .ok (.getfield 170, 3) := by decide +kernel
theorem dX10_alter_39 : decode cX10_alter 39 = .ok (.iload_n 2, 1) := by decide +kernel
theorem dX10_alter_40 : decode cX10_alter 40 = .ok (.iadd, 1) := by decide +kernel
theorem dX10_alter_41 : decode cX10_alter 41 = .ok (.putfield 170, 3) := by decide +kernel
theorem dX10_alter_44 : decode cX10_alter 44 = .ok (.aload_n 3, 1) := by decide +kernel
theorem dX10_alter_45 : decode cX10_alter 45 = .ok (.getfield 170, 3) := by decide +kernel
theorem dX10_alter_48 : decode cX10_alter 48 = .ok (.ireturn, 1) := by decide +kernel
theorem dX10_tick_0 : decode cX10_tick 0 = .ok (.iload_n 1, 1) := by decide +kernel
theorem dX10_tick_1 : decode cX10_tick 1 = .ok (.iconst 1, 1) := by decide +kernel
theorem dX10_tick_2 : decode cX10_tick 2 = .ok (.if_icmp .lt 9, 3) := by decide +kernel
theorem dX10_tick_5 : decode cX10_tick 5 = .ok (.iload_n 1, 1) := by decide +kernel
theorem dX10_tick_6 : decode cX10_tick 6 = .ok (.bipush 50, 2) := by decide +kernel
theorem dX10_tick_8 : decode cX10_tick 8 = .ok (.if_icmp .le 6, 3) := by decide +kernel
theorem dX10_tick_11 : decode cX10_tick 11 = .ok (.ldc 37, 2) := by decide +kernel
theorem dX10_tick_13 : decode cX10_tick 13 = .ok (.ireturn, 1) := by decide +kernel
theorem dX10_tick_14 : decode cX10_tick 14 = .ok (.iconst 0, 1) := by decide +kernel
theorem dX10_tick_15 : decode cX10_tick 15 = .ok (.istore_n 2, 1) := by decide +kernel
theorem dX10_tick_16 : decode cX10_tick 16 = .ok (.iload_n 2, 1) := by decide +kernel
theorem dX10_tick_17 : decode cX10_tick 17 = .ok (.iload_n 1, 1) := by decide +kernel
theorem dX10_tick_18 : decode cX10_tick 18 = .ok (.if_icmp .ge 48, 3) := by decide +kernel
theorem dX10_tick_21 : decode cX10_tick 21 = .ok (.aload_n 0, 1) := by decide +kernel
theorem dX10_tick_22 : decode cX10_tick 22 = .ok (.getfield 10, 3) := by decide +kernel
theorem dX10_tick_25 : decode cX10_tick 25 = .ok (.dup, 1) := by decide +kernel
theorem dX10_tick_26 : decode cX10_tick 26 = .ok (.getfield 173, 3) := by decide +kernel
theorem dX10_tick_29 : decode cX10_tick 29 = .ok (.iconst 1, 1) := by decide +kernel
theorem dX10_tick_30 : decode cX10_tick 30 = .ok (.iadd, 1) := by decide +kernel
theorem dX10_tick_31 : decode cX10_tick 31 = .ok (.putfield 173, 3) := by decide +kernel
theorem dX10_tick_34 : decode cX10_tick 34 = .ok (.aload_n 0, 1) := by decide +kernel
theorem dX10_tick_35 : decode cX10_tick 35 = .ok (.invokevirtual 176, 3) := by decide +kernel
theorem dX10_tick_38 : decode cX10_tick 38 = .ok (.aload_n 0, 1) := by decide +kernel
theorem dX10_tick_39 : decode cX10_tick 39 = .ok (.aload_n 0, 1) := by decide +kernel
theorem dX10_tick_40 : decode cX10_tick 40 = .ok (.getfield 10, 3) := by decide +kernel
theorem dX10_tick_43 : decode cX10_tick 43 = .ok (.getfield 48, 3) := by decide +kernel
theorem dX10_tick_46 : decode cX10_tick 46 = .ok (.invokevirtual 179, 3) := by decide +kernel
theorem dX10_tick_49 : decode cX10_tick 49 = .ok (.aload_n 0, 1) := by decide +kernel
theorem dX10_tick_50 : decode cX10_tick 50 = .ok (.aload_n 0, 1) := by decide +kernel
theorem dX10_tick_51 : decode cX10_tick 51 = .ok (.getfield 10, 3) := by decide +kernel
theorem dX10_tick_54 : decode cX10_tick 54 = .ok (.getfield 93, 3) := by decide +kernel
theorem dX10_tick_57 : decode cX10_tick 57 = .ok (.invokevirtual 179, 3) := by decide +kernel
theorem dX10_tick_60 : decode cX10_tick 60 = .ok (.iinc 2 1, 3) := by decide +kernel
theorem dX10_tick_63 : decode cX10_tick 63 = .ok (.goto (-47), 3) := by decide +kernel
theorem dX10_tick_66 : decode cX10_tick 66 = .ok (.aload_n 0, 1) := by decide +kernel
theorem dX10_tick_67 : decode cX10_tick 67 = .ok (.getfield 10, 3) := by decide +kernel
theorem dX10_tick_70 : decode cX10_tick 70 = .ok (.getfield 173, 3) := by decide +kernel
theorem dX10_tick_73 : decode cX10_tick 73 = .ok (.ireturn, 1) := by decide +kernel
theorem dX10_packet_0 : decode cX10_packet 0 = .ok (.aload_n 0, 1) := by decide +kernel
theorem dX10_packet_1 : decode cX10_packet 1 = .ok (.getfield 10, 3) := by decide +kernel
theorem dX10_packet_4 : decode cX10_packet 4 = .ok (.getfield 58, 3) := by decide +kernel
theorem dX10_packet_7 : decode cX10_packet 7 = .ok (.iload_n 1, 1) := by decide +kernel
theorem dX10_packet_8 : decode cX10_packet 8 = .ok (.invokevirtual 108, 3) := by decide +kernel
theorem dX10_packet_11 : decode cX10_packet 11 = .ok (.astore_n 3, 1) := by decide +kernel
theorem dX10_packet_12 : decode cX10_packet 12 = .ok (.aload_n 3, 1) := by decide +kernel
theorem dX10_packet_13 : decode cX10_packet 13 = .ok (.ifnonnull 6, 3) := by decide +kernel
theorem dX10_packet_16 : decode cX10_packet 16 = .ok (.ldc 82, 2) := by decide +kernel
theorem dX10_packet_18 : decode cX10_packet 18 = .ok (.ireturn, 1) := by decide +kernel
theorem dX10_packet_19 : decode cX10_packet 19 = .ok (.aload_n 3, 1) := by decide +kernel
theorem dX10_packet_20 : decode cX10_packet 20 = .ok (.iload_n 2, 1) := by decide +kernel
theorem dX10_packet_21 : decode cX10_packet 21 = .ok (.invokevirtual 182, 3) := by decide +kernel
theorem dX10_packet_24 : decode cX10_packet 24 = .ok (.ireturn, 1) := by decide +kernel
theorem dX10_endpoint_0 : decode cX10_endpoint 0 = .ok (.iload_n 1, 1) := by decide +kernel
theorem dX10_endpoint_1 : decode cX10_endpoint 1 = .ok (.invokestatic 96, 3) := by decide +kernel
theorem dX10_endpoint_4 : decode cX10_endpoint 4 = .ok (.ifCond .ne 6, 3) := by decide +kernel
theorem dX10_endpoint_7 : decode cX10_endpoint 7 = .ok (.ldc 37, 2) := by decide +kernel
theorem dX10_endpoint_9 : decode cX10_endpoint 9 = .ok (.ireturn, 1) := by decide +kernel
theorem dX10_endpoint_10 : decode cX10_endpoint 10 = .ok (.iload_n 1, 1) := by decide +kernel
theorem dX10_endpoint_11 : decode cX10_endpoint 11 = .ok (.iconst 1, 1) := by decide +kernel
theorem dX10_endpoint_12 : decode cX10_endpoint 12 = .ok (.if_icmp .ne 20, 3) := by decide +kernel
theorem dX10_endpoint_15 : decode cX10_endpoint 15 = .ok (.iload_n 2, 1) := by decide +kernel
theorem dX10_endpoint_16 : decode cX10_endpoint 16 = .ok (.bipush 11, 2) := by decide +kernel
theorem dX10_endpoint_18 : decode cX10_endpoint 18 = .ok (.if_icmp .ne 14, 3) := by decide +kernel
theorem dX10_endpoint_21 : decode cX10_endpoint 21 = .ok (.aload_n 0, 1) := by decide +kernel
theorem dX10_endpoint_22 : decode cX10_endpoint 22 = .ok (.getfield 10, 3) := by decide +kernel
theorem dX10_endpoint_25 : decode cX10_endpoint 25 = .ok (.getfield 186, 3) := by decide +kernel
theorem dX10_endpoint_28 : decode cX10_endpoint 28 = .ok (.getfield 190, 3) := by decide +kernel
theorem dX10_endpoint_31 : decode cX10_endpoint 31 = .ok (.ireturn, 1) := by decide +kernel
theorem dX10_endpoint_32 : decode cX10_endpoint 32 = .ok (.aload_n 0, 1) := by decide +kernel
theorem dX10_endpoint_33 : decode cX10_endpoint 33 = .ok (.iload_n 1, 1) := by decide +kernel
theorem dX10_endpoint_34 : decode cX10_endpoint 34 = .ok (.invokevirtual 100, 3) := by decide +kernel
theorem dX10_endpoint_37 : decode cX10_endpoint 37 = .ok (.iload_n 2, 1) := by decide +kernel
theorem dX10_endpoint_38 : decode cX10_endpoint 38 = .ok (.invokevirtual 195, 3) := by decide +kernel
theorem dX10_endpoint_41 : decode cX10_endpoint 41 = .ok (.ireturn, 1) := by decide +kernel
theorem dX10_window_0 : decode cX10_window 0 = .ok (.iload_n 1, 1) := by decide +kernel
theorem dX10_window_1 : decode cX10_window 1 = .ok (.invokestatic 96, 3) := by decide +kernel
theorem dX10_window_4 : decode cX10_window 4 = .ok (.ifCond .eq 12, 3) := by decide +kernel
theorem dX10_window_7 : decode cX10_window 7 = .ok (.iload_n 2, 1) := by decide +kernel
theorem dX10_window_8 : decode cX10_window 8 = .ok (.ifCond .lt 8, 3) := by decide +kernel
theorem dX10_window_11 : decode cX10_window 11 = .ok (.iload_n 2, 1) := by decide +kernel
theorem dX10_window_12 : decode cX10_window 12 = .ok (.iconst 1, 1) := by decide +kernel
theorem dX10_window_13 : decode cX10_window 13 = .ok (.if_icmp .le 6, 3) := by decide +kernel
theorem dX10_window_16 : decode cX10_window 16 = .ok (.ldc 37, 2) := by decide +kernel
theorem dX10_window_18 : decode cX10_window 18 = .ok (.ireturn, 1) := by decide +kernel
theorem dX10_window_19 : decode cX10_window 19 = .ok (.aload_n 0, 1) := by decide +kernel
theorem dX10_window_20 : decode cX10_window 20 = .ok (.iload_n 1, 1) := by decide +kernel
theorem dX10_window_21 : decode cX10_window 21 = .ok (.invokevirtual 100, 3) := by decide +kernel
theorem dX10_window_24 : decode cX10_window 24 = .ok (.astore_n 3, 1) := by decide +kernel
theorem dX10_window_25 : decode cX10_window 25 = .ok (.iload_n 2, 1) := by decide +kernel
theorem dX10_window_26 : decode cX10_window 26 = .ok (.ifCond .ne 11, 3) := by decide +kernel
theorem dX10_window_29 : decode cX10_window 29 = .ok (.aload_n 3, 1) := by decide +kernel
theorem dX10_window_30 : decode cX10_window 30 = .ok (.getfield 196, 3) := by decide +kernel
theorem dX10_window_33 : decode cX10_window 33 = .ok (.invokevirtual 200, 3) := by decide +kernel
theorem dX10_window_36 : decode cX10_window 36 = .ok (.ireturn, 1) := by decide +kernel
theorem dX10_window_37 : decode cX10_window 37 = .ok (.aload_n 3, 1) := by decide +kernel
theorem dX10_window_38 : decode cX10_window 38 = .ok (.getfield 206, 3) := by decide +kernel
theorem dX10_window_41 : decode cX10_window 41 = .ok (.ifCond .eq 13, 3) := by decide +kernel
theorem dX10_window_44 : decode cX10_window 44 = .ok (.aload_n 3, 1) := by decide +kernel
theorem dX10_window_45 : decode cX10_window 45 = .ok (.getfield 209, 3) := by decide +kernel
theorem dX10_window_48 : decode cX10_window 48 = .ok (.invokevirtual 200, 3) := by decide +kernel
theorem dX10_window_51 : decode cX10_window 51 = .ok (.goto 5, 3) := by decide +kernel
theorem dX10_window_54 : decode cX10_window 54 = .ok (.ldc 82, 2) := by decide +kernel
theorem dX10_window_56 : decode cX10_window 56 = .ok (.ireturn, 1) := by decide +kernel
theorem dX10_taken_0 : decode cX10_taken 0 = .ok (.iload_n 1, 1) := by decide +kernel
theorem dX10_taken_1 : decode cX10_taken 1 = .ok (.invokestatic 96, 3) := by decide +kernel
theorem dX10_taken_4 : decode cX10_taken 4 = .ok (.ifCond .ne 6, 3) := by decide +kernel
theorem dX10_taken_7 : decode cX10_taken 7 = .ok (.ldc 82, 2) := by decide +kernel
theorem dX10_taken_9 : decode cX10_taken 9 = .ok (.ireturn, 1) := by decide +kernel
theorem dX10_taken_10 : decode cX10_taken 10 = .ok (.aload_n 0, 1) := by decide +kernel
theorem dX10_taken_11 : decode cX10_taken 11 = .ok (.iload_n 1, 1) := by decide +kernel
theorem dX10_taken_12 : decode cX10_taken 12 = .ok (.invokevirtual 100, 3) := by decide +kernel
theorem dX10_taken_15 : decode cX10_taken 15 = .ok (.getfield 212, 3) := by decide +kernel
theorem dX10_taken_18 : decode cX10_taken 18 = .ok (.iload_n 2, 1) := by decide +kernel
theorem dX10_taken_19 : decode cX10_taken 19 = .ok (.invokevirtual 216, 3) := by decide +kernel
theorem dX10_taken_22 : decode cX10_taken 22 = .ok (.ireturn, 1) := by decide +kernel
theorem dX10_kept_0 : decode cX10_kept 0 = .ok (.iload_n 1, 1) := by decide +kernel
theorem dX10_kept_1 : decode cX10_kept 1 = .ok (.invokestatic 96, 3) := by decide +kernel
theorem dX10_kept_4 : decode cX10_kept 4 = .ok (.ifCond .ne 6, 3) := by decide +kernel
theorem dX10_kept_7 : decode cX10_kept 7 = .ok (.ldc 82, 2) := by decide +kernel
theorem dX10_kept_9 : decode cX10_kept 9 = .ok (.ireturn, 1) := by decide +kernel
theorem dX10_kept_10 : decode cX10_kept 10 = .ok (.aload_n 0, 1) := by decide +kernel
theorem dX10_kept_11 : decode cX10_kept 11 = .ok (.iload_n 1, 1) := by decide +kernel
theorem dX10_kept_12 : decode cX10_kept 12 = .ok (.invokevirtual 100, 3) := by decide +kernel
theorem dX10_kept_15 : decode cX10_kept 15 = .ok (.getfield 221, 3) := by decide +kernel
theorem dX10_kept_18 : decode cX10_kept 18 = .ok (.iload_n 2, 1) := by decide +kernel
theorem dX10_kept_19 : decode cX10_kept 19 = .ok (.iload_n 3, 1) := by decide +kernel
theorem dX10_kept_20 : decode cX10_kept 20 = .ok (.invokevirtual 225, 3) := by decide +kernel
theorem dX10_kept_23 : decode cX10_kept 23 = .ok (.ireturn, 1) := by decide +kernel
theorem dX10_results_0 : decode cX10_results 0 = .ok (.iload_n 1, 1) := by decide +kernel
theorem dX10_results_1 : decode cX10_results 1 = .ok (.invokestatic 96, 3) := by decide +kernel
theorem dX10_results_4 : decode cX10_results 4 = .ok (.ifCond .eq 13, 3) := by decide +kernel
theorem dX10_results_7 : decode cX10_results 7 = .ok (.iload_n 2, 1) := by decide +kernel
theorem dX10_results_8 : decode cX10_results 8 = .ok (.ifCond .lt 9, 3) := by decide +kernel
theorem dX10_results_11 : decode cX10_results 11 = .ok (.iload_n 2, 1) := by decide +kernel
theorem dX10_results_12 : decode cX10_results 12 = .ok (.bipush 9, 2) := by decide +kernel
theorem dX10_results_14 : decode cX10_results 14 = .ok (.if_icmp .lt 6, 3) := by decide +kernel
theorem dX10_results_17 : decode cX10_results 17 = .ok (.ldc 37, 2) := by decide +kernel
theorem dX10_results_19 : decode cX10_results 19 = .ok (.ireturn, 1) := by decide +kernel
theorem dX10_results_20 : decode cX10_results 20 = .ok (.aload_n 0, 1) := by decide +kernel
theorem dX10_results_21 : decode cX10_results 21 = .ok (.iload_n 1, 1) := by decide +kernel
theorem dX10_results_22 : decode cX10_results 22 = .ok (.invokevirtual 100, 3) := by decide +kernel
theorem dX10_results_25 : decode cX10_results 25 = .ok (.getfield 230, 3) := by decide +kernel
theorem dX10_results_28 : decode cX10_results 28 = .ok (.iload_n 2, 1) := by decide +kernel
theorem dX10_results_29 : decode cX10_results 29 = .ok (.iaload, 1) := by decide +kernel
theorem dX10_results_30 : decode cX10_results 30 = .ok (.ireturn, 1) := by decide +kernel
theorem dX10_count_0 : decode cX10_count 0 = .ok (.iload_n 1, 1) := by decide +kernel
theorem dX10_count_1 : decode cX10_count 1 = .ok (.tableswitch 114 0 7 #[47, 58, 66, 74, 82, 90, 98, 106], 47) := by decide +kernel
theorem dX10_count_48 : decode cX10_count 48 = .ok (.aload_n 0, 1) := by decide +kernel
theorem dX10_count_49 : decode cX10_count 49 = .ok (.getfield 10, 3) := by decide +kernel
theorem dX10_count_52 : decode cX10_count 52 = .ok (.getfield 58, 3) := by decide +kernel
theorem dX10_count_55 : decode cX10_count 55 = .ok (.getfield 83, 3) := by decide +kernel
theorem dX10_count_58 : decode cX10_count 58 = .ok (.ireturn, 1) := by decide +kernel
theorem dX10_count_59 : decode cX10_count 59 = .ok (.aload_n 0, 1) := by decide +kernel
theorem dX10_count_60 : decode cX10_count 60 = .ok (.getfield 10, 3) := by decide +kernel
theorem dX10_count_63 : decode cX10_count 63 = .ok (.getfield 234, 3) := by decide +kernel
theorem dX10_count_66 : decode cX10_count 66 = .ok (.ireturn, 1) := by decide +kernel
theorem dX10_count_67 : decode cX10_count 67 = .ok (.aload_n 0, 1) := by decide +kernel
theorem dX10_count_68 : decode cX10_count 68 = .ok (.getfield 10, 3) := by decide +kernel
theorem dX10_count_71 : decode cX10_count 71 = .ok (.getfield 130, 3) := by decide +kernel
theorem dX10_count_74 : decode cX10_count 74 = .ok (.ireturn, 1) := by decide +kernel
theorem dX10_count_75 : decode cX10_count 75 = .ok (.aload_n 0, 1) := by decide +kernel
theorem dX10_count_76 : decode cX10_count 76 = .ok (.getfield 10, 3) := by decide +kernel
theorem dX10_count_79 : decode cX10_count 79 = .ok (.getfield 86, 3) := by decide +kernel
theorem dX10_count_82 : decode cX10_count 82 = .ok (.ireturn, 1) := by decide +kernel
theorem dX10_count_83 : decode cX10_count 83 = .ok (.aload_n 0, 1) := by decide +kernel
theorem dX10_count_84 : decode cX10_count 84 = .ok (.getfield 10, 3) := by decide +kernel
theorem dX10_count_87 : decode cX10_count 87 = .ok (.getfield 167, 3) := by decide +kernel
theorem dX10_count_90 : decode cX10_count 90 = .ok (.ireturn, 1) := by decide +kernel
theorem dX10_count_91 : decode cX10_count 91 = .ok (.aload_n 0, 1) := by decide +kernel
theorem dX10_count_92 : decode cX10_count 92 = .ok (.getfield 10, 3) := by decide +kernel
theorem dX10_count_95 : decode cX10_count 95 = .ok (.getfield 173, 3) := by decide +kernel
theorem dX10_count_98 : decode cX10_count 98 = .ok (.ireturn, 1) := by decide +kernel
theorem dX10_count_99 : decode cX10_count 99 = .ok (.aload_n 0, 1) := by decide +kernel
theorem dX10_count_100 : decode cX10_count 100 = .ok (.getfield 22, 3) := by decide +kernel
theorem dX10_count_103 : decode cX10_count 103 = .ok (.getfield 237, 3) := by decide +kernel
theorem dX10_count_106 : decode cX10_count 106 = .ok (.ireturn, 1) := by decide +kernel
theorem dX10_count_107 : decode cX10_count 107 = .ok (.aload_n 0, 1) := by decide +kernel
theorem dX10_count_108 : decode cX10_count 108 = .ok (.getfield 10, 3) := by decide +kernel
theorem dX10_count_111 : decode cX10_count 111 = .ok (.getfield 76, 3) := by decide +kernel
theorem dX10_count_114 : decode cX10_count 114 = .ok (.ireturn, 1) := by decide +kernel
