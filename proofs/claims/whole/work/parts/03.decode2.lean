theorem dX10_count_115 : decode cX10_count 115 = .ok (.ldc 37, 2) := by decide +kernel
theorem dX10_count_117 : decode cX10_count 117 = .ok (.ireturn, 1) := by decide +kernel
theorem dX10_event_0 : decode cX10_event 0 = .ok (.aload_n 0, 1) := by decide +kernel
theorem dX10_event_1 : decode cX10_event 1 = .ok (.getfield 10, 3) := by decide +kernel
theorem dX10_event_4 : decode cX10_event 4 = .ok (.getfield 133, 3) := by decide +kernel
theorem dX10_event_7 : decode cX10_event 7 = .ok (.iload_n 1, 1) := by decide +kernel
theorem dX10_event_8 : decode cX10_event 8 = .ok (.iload_n 2, 1) := by decide +kernel
theorem dX10_event_9 : decode cX10_event 9 = .ok (.invokevirtual 240, 3) := by decide +kernel
theorem dX10_event_12 : decode cX10_event 12 = .ok (.ireturn, 1) := by decide +kernel
theorem dX10_agree_0 : decode cX10_agree 0 = .ok (.aload_n 0, 1) := by decide +kernel
theorem dX10_agree_1 : decode cX10_agree 1 = .ok (.getfield 10, 3) := by decide +kernel
theorem dX10_agree_4 : decode cX10_agree 4 = .ok (.getfield 48, 3) := by decide +kernel
theorem dX10_agree_7 : decode cX10_agree 7 = .ok (.astore_n 1, 1) := by decide +kernel
theorem dX10_agree_8 : decode cX10_agree 8 = .ok (.aload_n 0, 1) := by decide +kernel
theorem dX10_agree_9 : decode cX10_agree 9 = .ok (.getfield 10, 3) := by decide +kernel
theorem dX10_agree_12 : decode cX10_agree 12 = .ok (.getfield 93, 3) := by decide +kernel
theorem dX10_agree_15 : decode cX10_agree 15 = .ok (.astore_n 2, 1) := by decide +kernel
theorem dX10_agree_16 : decode cX10_agree 16 = .ok (.aload_n 1, 1) := by decide +kernel
theorem dX10_agree_17 : decode cX10_agree 17 = .ok (.getfield 52, 3) := by decide +kernel
theorem dX10_agree_20 : decode cX10_agree 20 = .ok (.iconst 3, 1) := by decide +kernel
theorem dX10_agree_21 : decode cX10_agree 21 = .ok (.if_icmp .ne 15, 3) := by decide +kernel
theorem dX10_agree_24 : decode cX10_agree 24 = .ok (.aload_n 2, 1) := by decide +kernel
theorem dX10_agree_25 : decode cX10_agree 25 = .ok (.getfield 52, 3) := by decide +kernel
theorem dX10_agree_28 : decode cX10_agree 28 = .ok (.iconst 3, 1) := by decide +kernel
theorem dX10_agree_29 : decode cX10_agree 29 = .ok (.if_icmp .ne 7, 3) := by decide +kernel
theorem dX10_agree_32 : decode cX10_agree 32 = .ok (.iconst 1, 1) := by decide +kernel
theorem dX10_agree_33 : decode cX10_agree 33 = .ok (.goto 4, 3) := by decide +kernel
theorem dX10_agree_36 : decode cX10_agree 36 = .ok (.iconst 0, 1) := by decide +kernel
theorem dX10_agree_37 : decode cX10_agree 37 = .ok (.istore_n 3, 1) := by decide +kernel
theorem dX10_agree_38 : decode cX10_agree 38 = .ok (.iload_n 3, 1) := by decide +kernel
theorem dX10_agree_39 : decode cX10_agree 39 = .ok (.ifCond .eq 29, 3) := by decide +kernel
theorem dX10_agree_42 : decode cX10_agree 42 = .ok (.aload_n 1, 1) := by decide +kernel
theorem dX10_agree_43 : decode cX10_agree 43 = .ok (.getfield 241, 3) := by decide +kernel
theorem dX10_agree_46 : decode cX10_agree 46 = .ok (.aload_n 2, 1) := by decide +kernel
theorem dX10_agree_47 : decode cX10_agree 47 = .ok (.getfield 241, 3) := by decide +kernel
theorem dX10_agree_50 : decode cX10_agree 50 = .ok (.if_icmp .ne 18, 3) := by decide +kernel
theorem dX10_agree_53 : decode cX10_agree 53 = .ok (.aload_n 1, 1) := by decide +kernel
theorem dX10_agree_54 : decode cX10_agree 54 = .ok (.getfield 242, 3) := by decide +kernel
theorem dX10_agree_57 : decode cX10_agree 57 = .ok (.aload_n 2, 1) := by decide +kernel
theorem dX10_agree_58 : decode cX10_agree 58 = .ok (.getfield 242, 3) := by decide +kernel
theorem dX10_agree_61 : decode cX10_agree 61 = .ok (.if_icmp .ne 7, 3) := by decide +kernel
theorem dX10_agree_64 : decode cX10_agree 64 = .ok (.iconst 1, 1) := by decide +kernel
theorem dX10_agree_65 : decode cX10_agree 65 = .ok (.goto 4, 3) := by decide +kernel
theorem dX10_agree_68 : decode cX10_agree 68 = .ok (.iconst 0, 1) := by decide +kernel
theorem dX10_agree_69 : decode cX10_agree 69 = .ok (.ireturn, 1) := by decide +kernel
theorem dX10_append_0 : decode cX10_append 0 = .ok (.iload_n 1, 1) := by decide +kernel
theorem dX10_append_1 : decode cX10_append 1 = .ok (.ifCond .lt 20, 3) := by decide +kernel
theorem dX10_append_4 : decode cX10_append 4 = .ok (.iload_n 1, 1) := by decide +kernel
theorem dX10_append_5 : decode cX10_append 5 = .ok (.bipush 127, 2) := by decide +kernel
theorem dX10_append_7 : decode cX10_append 7 = .ok (.if_icmp .gt 14, 3) := by decide +kernel
theorem dX10_append_10 : decode cX10_append 10 = .ok (.iload_n 2, 1) := by decide +kernel
theorem dX10_append_11 : decode cX10_append 11 = .ok (.iconst 1, 1) := by decide +kernel
theorem dX10_append_12 : decode cX10_append 12 = .ok (.if_icmp .lt 9, 3) := by decide +kernel
theorem dX10_append_15 : decode cX10_append 15 = .ok (.iload_n 2, 1) := by decide +kernel
theorem dX10_append_16 : decode cX10_append 16 = .ok (.bipush 40, 2) := by decide +kernel
theorem dX10_append_18 : decode cX10_append 18 = .ok (.if_icmp .le 6, 3) := by decide +kernel
theorem dX10_append_21 : decode cX10_append 21 = .ok (.ldc 37, 2) := by decide +kernel
theorem dX10_append_23 : decode cX10_append 23 = .ok (.ireturn, 1) := by decide +kernel
theorem dX10_append_24 : decode cX10_append 24 = .ok (.aload_n 0, 1) := by decide +kernel
theorem dX10_append_25 : decode cX10_append 25 = .ok (.getfield 22, 3) := by decide +kernel
theorem dX10_append_28 : decode cX10_append 28 = .ok (.getfield 237, 3) := by decide +kernel
theorem dX10_append_31 : decode cX10_append 31 = .ok (.iload_n 2, 1) := by decide +kernel
theorem dX10_append_32 : decode cX10_append 32 = .ok (.iadd, 1) := by decide +kernel
theorem dX10_append_33 : decode cX10_append 33 = .ok (.bipush 40, 2) := by decide +kernel
theorem dX10_append_35 : decode cX10_append 35 = .ok (.if_icmp .le 6, 3) := by decide +kernel
theorem dX10_append_38 : decode cX10_append 38 = .ok (.ldc 68, 2) := by decide +kernel
theorem dX10_append_40 : decode cX10_append 40 = .ok (.ireturn, 1) := by decide +kernel
theorem dX10_append_41 : decode cX10_append 41 = .ok (.aload_n 0, 1) := by decide +kernel
theorem dX10_append_42 : decode cX10_append 42 = .ok (.getfield 22, 3) := by decide +kernel
theorem dX10_append_45 : decode cX10_append 45 = .ok (.iload_n 1, 1) := by decide +kernel
theorem dX10_append_46 : decode cX10_append 46 = .ok (.iload_n 2, 1) := by decide +kernel
theorem dX10_append_47 : decode cX10_append 47 = .ok (.invokevirtual 245, 3) := by decide +kernel
theorem dX10_append_50 : decode cX10_append 50 = .ok (.aload_n 0, 1) := by decide +kernel
theorem dX10_append_51 : decode cX10_append 51 = .ok (.getfield 22, 3) := by decide +kernel
theorem dX10_append_54 : decode cX10_append 54 = .ok (.getfield 237, 3) := by decide +kernel
theorem dX10_append_57 : decode cX10_append 57 = .ok (.ireturn, 1) := by decide +kernel
theorem dX10_runScript_0 : decode cX10_runScript 0 = .ok (.aload_n 0, 1) := by decide +kernel
theorem dX10_runScript_1 : decode cX10_runScript 1 = .ok (.getfield 22, 3) := by decide +kernel
theorem dX10_runScript_4 : decode cX10_runScript 4 = .ok (.invokevirtual 247, 3) := by decide +kernel
theorem dX10_runScript_7 : decode cX10_runScript 7 = .ok (.istore_n 1, 1) := by decide +kernel
theorem dX10_runScript_8 : decode cX10_runScript 8 = .ok (.aload_n 0, 1) := by decide +kernel
theorem dX10_runScript_9 : decode cX10_runScript 9 = .ok (.getfield 22, 3) := by decide +kernel
theorem dX10_runScript_12 : decode cX10_runScript 12 = .ok (.iconst 0, 1) := by decide +kernel
theorem dX10_runScript_13 : decode cX10_runScript 13 = .ok (.putfield 237, 3) := by decide +kernel
theorem dX10_runScript_16 : decode cX10_runScript 16 = .ok (.iload_n 1, 1) := by decide +kernel
theorem dX10_runScript_17 : decode cX10_runScript 17 = .ok (.ifCond .ne 15, 3) := by decide +kernel
theorem dX10_runScript_20 : decode cX10_runScript 20 = .ok (.sipush (-2000), 3) := by decide +kernel
theorem dX10_runScript_23 : decode cX10_runScript 23 = .ok (.aload_n 0, 1) := by decide +kernel
theorem dX10_runScript_24 : decode cX10_runScript 24 = .ok (.getfield 22, 3) := by decide +kernel
theorem dX10_runScript_27 : decode cX10_runScript 27 = .ok (.getfield 250, 3) := by decide +kernel
theorem dX10_runScript_30 : decode cX10_runScript 30 = .ok (.isub, 1) := by decide +kernel
theorem dX10_runScript_31 : decode cX10_runScript 31 = .ok (.ireturn, 1) := by decide +kernel
theorem dX10_runScript_32 : decode cX10_runScript 32 = .ok (.iconst 0, 1) := by decide +kernel
theorem dX10_runScript_33 : decode cX10_runScript 33 = .ok (.istore_n 2, 1) := by decide +kernel
theorem dX10_runScript_34 : decode cX10_runScript 34 = .ok (.iload_n 2, 1) := by decide +kernel
theorem dX10_runScript_35 : decode cX10_runScript 35 = .ok (.aload_n 0, 1) := by decide +kernel
theorem dX10_runScript_36 : decode cX10_runScript 36 = .ok (.getfield 22, 3) := by decide +kernel
theorem dX10_runScript_39 : decode cX10_runScript 39 = .ok (.getfield 253, 3) := by decide +kernel
theorem dX10_runScript_42 : decode cX10_runScript 42 = .ok (.if_icmp .ge 156, 3) := by decide +kernel
theorem dX10_runScript_45 : decode cX10_runScript 45 = .ok (.iload_n 2, 1) := by decide +kernel
theorem dX10_runScript_46 : decode cX10_runScript 46 = .ok (.bipush 40, 2) := by decide +kernel
theorem dX10_runScript_48 : decode cX10_runScript 48 = .ok (.if_icmp .ge 150, 3) := by decide +kernel
theorem dX10_runScript_51 : decode cX10_runScript 51 = .ok (.aload_n 0, 1) := by decide +kernel
theorem dX10_runScript_52 : decode cX10_runScript 52 = .ok (.getfield 22, 3) := by decide +kernel
theorem dX10_runScript_55 : decode cX10_runScript 55 = .ok (.getfield 256, 3) := by decide +kernel
theorem dX10_runScript_58 : decode cX10_runScript 58 = .ok (.iload_n 2, 1) := by decide +kernel
theorem dX10_runScript_59 : decode cX10_runScript 59 = .ok (.iaload, 1) := by decide +kernel
theorem dX10_runScript_60 : decode cX10_runScript 60 = .ok (.istore_n 3, 1) := by decide +kernel
theorem dX10_runScript_61 : decode cX10_runScript 61 = .ok (.aload_n 0, 1) := by decide +kernel
theorem dX10_runScript_62 : decode cX10_runScript 62 = .ok (.getfield 22, 3) := by decide +kernel
theorem dX10_runScript_65 : decode cX10_runScript 65 = .ok (.getfield 259, 3) := by decide +kernel
theorem dX10_runScript_68 : decode cX10_runScript 68 = .ok (.iload_n 2, 1) := by decide +kernel
theorem dX10_runScript_69 : decode cX10_runScript 69 = .ok (.iaload, 1) := by decide +kernel
theorem dX10_runScript_70 : decode cX10_runScript 70 = .ok (.lookupswitch 91 #[(100, 42), (115, 72), (117, 62), (120, 52)], 42) := by decide +kernel
theorem dX10_runScript_112 : decode cX10_runScript 112 = .ok (.aload_n 0, 1) := by decide +kernel
theorem dX10_runScript_113 : decode cX10_runScript 113 = .ok (.iload_n 3, 1) := by decide +kernel
theorem dX10_runScript_114 : decode cX10_runScript 114 = .ok (.invokevirtual 262, 3) := by decide +kernel
theorem dX10_runScript_117 : decode cX10_runScript 117 = .ok (.istore 4, 2) := by decide +kernel
theorem dX10_runScript_119 : decode cX10_runScript 119 = .ok (.goto 63, 3) := by decide +kernel
theorem dX10_runScript_122 : decode cX10_runScript 122 = .ok (.aload_n 0, 1) := by decide +kernel
theorem dX10_runScript_123 : decode cX10_runScript 123 = .ok (.iload_n 3, 1) := by decide +kernel
theorem dX10_runScript_124 : decode cX10_runScript 124 = .ok (.invokevirtual 265, 3) := by decide +kernel
theorem dX10_runScript_127 : decode cX10_runScript 127 = .ok (.istore 4, 2) := by decide +kernel
theorem dX10_runScript_129 : decode cX10_runScript 129 = .ok (.goto 53, 3) := by decide +kernel
theorem dX10_runScript_132 : decode cX10_runScript 132 = .ok (.aload_n 0, 1) := by decide +kernel
theorem dX10_runScript_133 : decode cX10_runScript 133 = .ok (.iload_n 3, 1) := by decide +kernel
theorem dX10_runScript_134 : decode cX10_runScript 134 = .ok (.invokevirtual 268, 3) := by decide +kernel
theorem dX10_runScript_137 : decode cX10_runScript 137 = .ok (.istore 4, 2) := by decide +kernel
theorem dX10_runScript_139 : decode cX10_runScript 139 = .ok (.goto 43, 3) := by decide +kernel
theorem dX10_runScript_142 : decode cX10_runScript 142 = .ok (.aload_n 0, 1) := by decide +kernel
theorem dX10_runScript_143 : decode cX10_runScript 143 = .ok (.aload_n 0, 1) := by decide +kernel
theorem dX10_runScript_144 : decode cX10_runScript 144 = .ok (.getfield 22, 3) := by decide +kernel
theorem dX10_runScript_147 : decode cX10_runScript 147 = .ok (.getfield 271, 3) := by decide +kernel
theorem dX10_runScript_150 : decode cX10_runScript 150 = .ok (.iload_n 2, 1) := by decide +kernel
theorem dX10_runScript_151 : decode cX10_runScript 151 = .ok (.iaload, 1) := by decide +kernel
theorem dX10_runScript_152 : decode cX10_runScript 152 = .ok (.iload_n 3, 1) := by decide +kernel
theorem dX10_runScript_153 : decode cX10_runScript 153 = .ok (.invokevirtual 274, 3) := by decide +kernel
theorem dX10_runScript_156 : decode cX10_runScript 156 = .ok (.istore 4, 2) := by decide +kernel
theorem dX10_runScript_158 : decode cX10_runScript 158 = .ok (.goto 24, 3) := by decide +kernel
theorem dX10_runScript_161 : decode cX10_runScript 161 = .ok (.iload_n 3, 1) := by decide +kernel
theorem dX10_runScript_162 : decode cX10_runScript 162 = .ok (.ifCond .ne 13, 3) := by decide +kernel
theorem dX10_runScript_165 : decode cX10_runScript 165 = .ok (.aload_n 0, 1) := by decide +kernel
theorem dX10_runScript_166 : decode cX10_runScript 166 = .ok (.getfield 10, 3) := by decide +kernel
theorem dX10_runScript_169 : decode cX10_runScript 169 = .ok (.getfield 173, 3) := by decide +kernel
theorem dX10_runScript_172 : decode cX10_runScript 172 = .ok (.goto 8, 3) := by decide +kernel
theorem dX10_runScript_175 : decode cX10_runScript 175 = .ok (.aload_n 0, 1) := by decide +kernel
theorem dX10_runScript_176 : decode cX10_runScript 176 = .ok (.iload_n 3, 1) := by decide +kernel
theorem dX10_runScript_177 : decode cX10_runScript 177 = .ok (.invokevirtual 277, 3) := by decide +kernel
theorem dX10_runScript_180 : decode cX10_runScript 180 = .ok (.istore 4, 2) := by decide +kernel
theorem dX10_runScript_182 : decode cX10_runScript 182 = .ok (.iload 4, 2) := by decide +kernel
theorem dX10_runScript_184 : decode cX10_runScript 184 = .ok (.invokestatic 280, 3) := by decide +kernel
theorem dX10_runScript_187 : decode cX10_runScript 187 = .ok (.ifCond .eq 5, 3) := by decide +kernel
theorem dX10_runScript_190 : decode cX10_runScript 190 = .ok (.iload_n 2, 1) := by decide +kernel
theorem dX10_runScript_191 : decode cX10_runScript 191 = .ok (.ireturn, 1) := by decide +kernel
theorem dX10_runScript_192 : decode cX10_runScript 192 = .ok (.iinc 2 1, 3) := by decide +kernel
theorem dX10_runScript_195 : decode cX10_runScript 195 = .ok (.goto (-161), 3) := by decide +kernel
theorem dX10_runScript_198 : decode cX10_runScript 198 = .ok (.aload_n 0, 1) := by decide +kernel
theorem dX10_runScript_199 : decode cX10_runScript 199 = .ok (.getfield 22, 3) := by decide +kernel
theorem dX10_runScript_202 : decode cX10_runScript 202 = .ok (.getfield 253, 3) := by decide +kernel
theorem dX10_runScript_205 : decode cX10_runScript 205 = .ok (.ireturn, 1) := by decide +kernel
theorem dX10_save_0 : decode cX10_save 0 = .ok (.aload_n 0, 1) := by decide +kernel
theorem dX10_save_1 : decode cX10_save 1 = .ok (.getfield 16, 3) := by decide +kernel
theorem dX10_save_4 : decode cX10_save 4 = .ok (.aload_n 0, 1) := by decide +kernel
theorem dX10_save_5 : decode cX10_save 5 = .ok (.getfield 10, 3) := by decide +kernel
theorem dX10_save_8 : decode cX10_save 8 = .ok (.invokevirtual 283, 3) := by decide +kernel
theorem dX10_save_11 : decode cX10_save 11 = .ok (.aload_n 0, 1) := by decide +kernel
theorem dX10_save_12 : decode cX10_save 12 = .ok (.iconst 1, 1) := by decide +kernel
theorem dX10_save_13 : decode cX10_save 13 = .ok (.putfield 33, 3) := by decide +kernel
theorem dX10_save_16 : decode cX10_save 16 = .ok (.aload_n 0, 1) := by decide +kernel
theorem dX10_save_17 : decode cX10_save 17 = .ok (.getfield 10, 3) := by decide +kernel
theorem dX10_save_20 : decode cX10_save 20 = .ok (.getfield 58, 3) := by decide +kernel
theorem dX10_save_23 : decode cX10_save 23 = .ok (.getfield 83, 3) := by decide +kernel
theorem dX10_save_26 : decode cX10_save 26 = .ok (.ireturn, 1) := by decide +kernel
theorem dX10_restore_0 : decode cX10_restore 0 = .ok (.aload_n 0, 1) := by decide +kernel
theorem dX10_restore_1 : decode cX10_restore 1 = .ok (.getfield 33, 3) := by decide +kernel
theorem dX10_restore_4 : decode cX10_restore 4 = .ok (.ifCond .ne 6, 3) := by decide +kernel
theorem dX10_restore_7 : decode cX10_restore 7 = .ok (.ldc 82, 2) := by decide +kernel
theorem dX10_restore_9 : decode cX10_restore 9 = .ok (.ireturn, 1) := by decide +kernel
theorem dX10_restore_10 : decode cX10_restore 10 = .ok (.aload_n 0, 1) := by decide +kernel
theorem dX10_restore_11 : decode cX10_restore 11 = .ok (.getfield 10, 3) := by decide +kernel
theorem dX10_restore_14 : decode cX10_restore 14 = .ok (.aload_n 0, 1) := by decide +kernel
theorem dX10_restore_15 : decode cX10_restore 15 = .ok (.getfield 16, 3) := by decide +kernel
theorem dX10_restore_18 : decode cX10_restore 18 = .ok (.invokevirtual 283, 3) := by decide +kernel
theorem dX10_restore_21 : decode cX10_restore 21 = .ok (.aload_n 0, 1) := by decide +kernel
theorem dX10_restore_22 : decode cX10_restore 22 = .ok (.getfield 10, 3) := by decide +kernel
theorem dX10_restore_25 : decode cX10_restore 25 = .ok (.getfield 58, 3) := by decide +kernel
theorem dX10_restore_28 : decode cX10_restore 28 = .ok (.getfield 83, 3) := by decide +kernel
theorem dX10_restore_31 : decode cX10_restore 31 = .ok (.ireturn, 1) := by decide +kernel
theorem dX10_isEndpoint_0 : decode cX10_isEndpoint 0 = .ok (.iload_n 0, 1) := by decide +kernel
theorem dX10_isEndpoint_1 : decode cX10_isEndpoint 1 = .ok (.ifCond .eq 8, 3) := by decide +kernel
theorem dX10_isEndpoint_4 : decode cX10_isEndpoint 4 = .ok (.iload_n 0, 1) := by decide +kernel
theorem dX10_isEndpoint_5 : decode cX10_isEndpoint 5 = .ok (.iconst 1, 1) := by decide +kernel
theorem dX10_isEndpoint_6 : decode cX10_isEndpoint 6 = .ok (.if_icmp .ne 7, 3) := by decide +kernel
theorem dX10_isEndpoint_9 : decode cX10_isEndpoint 9 = .ok (.iconst 1, 1) := by decide +kernel
theorem dX10_isEndpoint_10 : decode cX10_isEndpoint 10 = .ok (.goto 4, 3) := by decide +kernel
theorem dX10_isEndpoint_13 : decode cX10_isEndpoint 13 = .ok (.iconst 0, 1) := by decide +kernel
theorem dX10_isEndpoint_14 : decode cX10_isEndpoint 14 = .ok (.ireturn, 1) := by decide +kernel
theorem dX10_isError_0 : decode cX10_isError 0 = .ok (.iload_n 0, 1) := by decide +kernel
theorem dX10_isError_1 : decode cX10_isError 1 = .ok (.ldc 37, 2) := by decide +kernel
theorem dX10_isError_3 : decode cX10_isError 3 = .ok (.if_icmp .eq 15, 3) := by decide +kernel
theorem dX10_isError_6 : decode cX10_isError 6 = .ok (.iload_n 0, 1) := by decide +kernel
theorem dX10_isError_7 : decode cX10_isError 7 = .ok (.ldc 68, 2) := by decide +kernel
theorem dX10_isError_9 : decode cX10_isError 9 = .ok (.if_icmp .eq 9, 3) := by decide +kernel
theorem dX10_isError_12 : decode cX10_isError 12 = .ok (.iload_n 0, 1) := by decide +kernel
theorem dX10_isError_13 : decode cX10_isError 13 = .ok (.ldc 57, 2) := by decide +kernel
theorem dX10_isError_15 : decode cX10_isError 15 = .ok (.if_icmp .ne 7, 3) := by decide +kernel
theorem dX10_isError_18 : decode cX10_isError 18 = .ok (.iconst 1, 1) := by decide +kernel
theorem dX10_isError_19 : decode cX10_isError 19 = .ok (.goto 4, 3) := by decide +kernel
theorem dX10_isError_22 : decode cX10_isError 22 = .ok (.iconst 0, 1) := by decide +kernel
theorem dX10_isError_23 : decode cX10_isError 23 = .ok (.ireturn, 1) := by decide +kernel
theorem dX10_mix_0 : decode cX10_mix 0 = .ok (.iload_n 0, 1) := by decide +kernel
theorem dX10_mix_1 : decode cX10_mix 1 = .ok (.bipush 31, 2) := by decide +kernel
theorem dX10_mix_3 : decode cX10_mix 3 = .ok (.imul, 1) := by decide +kernel
theorem dX10_mix_4 : decode cX10_mix 4 = .ok (.iload_n 1, 1) := by decide +kernel
theorem dX10_mix_5 : decode cX10_mix 5 = .ok (.iadd, 1) := by decide +kernel
theorem dX10_mix_6 : decode cX10_mix 6 = .ok (.istore_n 2, 1) := by decide +kernel
theorem dX10_mix_7 : decode cX10_mix 7 = .ok (.iload_n 2, 1) := by decide +kernel
theorem dX10_mix_8 : decode cX10_mix 8 = .ok (.iload_n 2, 1) := by decide +kernel
theorem dX10_mix_9 : decode cX10_mix 9 = .ok (.bipush 7, 2) := by decide +kernel
theorem dX10_mix_11 : decode cX10_mix 11 = .ok (.iushr, 1) := by decide +kernel
theorem dX10_mix_12 : decode cX10_mix 12 = .ok (.ixor, 1) := by decide +kernel
theorem dX10_mix_13 : decode cX10_mix 13 = .ok (.ireturn, 1) := by decide +kernel
theorem dX10_baseOf_0 : decode cX10_baseOf 0 = .ok (.iload_n 0, 1) := by decide +kernel
theorem dX10_baseOf_1 : decode cX10_baseOf 1 = .ok (.iload_n 1, 1) := by decide +kernel
theorem dX10_baseOf_2 : decode cX10_baseOf 2 = .ok (.invokestatic 286, 3) := by decide +kernel
theorem dX10_baseOf_5 : decode cX10_baseOf 5 = .ok (.iload_n 2, 1) := by decide +kernel
theorem dX10_baseOf_6 : decode cX10_baseOf 6 = .ok (.invokestatic 286, 3) := by decide +kernel
theorem dX10_baseOf_9 : decode cX10_baseOf 9 = .ok (.ireturn, 1) := by decide +kernel
theorem dX10_tagOf_0 : decode cX10_tagOf 0 = .ok (.iload_n 1, 1) := by decide +kernel
theorem dX10_tagOf_1 : decode cX10_tagOf 1 = .ok (.aload_n 0, 1) := by decide +kernel
theorem dX10_tagOf_2 : decode cX10_tagOf 2 = .ok (.getfield 289, 3) := by decide +kernel
theorem dX10_tagOf_5 : decode cX10_tagOf 5 = .ok (.invokestatic 286, 3) := by decide +kernel
theorem dX10_tagOf_8 : decode cX10_tagOf 8 = .ok (.aload_n 0, 1) := by decide +kernel
theorem dX10_tagOf_9 : decode cX10_tagOf 9 = .ok (.getfield 120, 3) := by decide +kernel
theorem dX10_tagOf_12 : decode cX10_tagOf 12 = .ok (.invokestatic 286, 3) := by decide +kernel
theorem dX10_tagOf_15 : decode cX10_tagOf 15 = .ok (.istore_n 2, 1) := by decide +kernel
theorem dX10_tagOf_16 : decode cX10_tagOf 16 = .ok (.iload_n 2, 1) := by decide +kernel
theorem dX10_tagOf_17 : decode cX10_tagOf 17 = .ok (.aload_n 0, 1) := by decide +kernel
theorem dX10_tagOf_18 : decode cX10_tagOf 18 = .ok (.getfield 292, 3) := by decide +kernel
theorem dX10_tagOf_21 : decode cX10_tagOf 21 = .ok (.invokestatic 286, 3) := by decide +kernel
theorem dX10_tagOf_24 : decode cX10_tagOf 24 = .ok (.aload_n 0, 1) := by decide +kernel
theorem dX10_tagOf_25 : decode cX10_tagOf 25 = .ok (.getfield 137, 3) := by decide +kernel
theorem dX10_tagOf_28 : decode cX10_tagOf 28 = .ok (.aload_n 0, 1) := by decide +kernel
theorem dX10_tagOf_29 : decode cX10_tagOf 29 = .ok (.getfield 295, 3) := by decide +kernel
theorem dX10_tagOf_32 : decode cX10_tagOf 32 = .ok (.invokestatic 286, 3) := by decide +kernel
theorem dX10_tagOf_35 : decode cX10_tagOf 35 = .ok (.invokestatic 286, 3) := by decide +kernel
theorem dX10_tagOf_38 : decode cX10_tagOf 38 = .ok (.istore_n 3, 1) := by decide +kernel
theorem dX10_tagOf_39 : decode cX10_tagOf 39 = .ok (.iload_n 3, 1) := by decide +kernel
theorem dX10_tagOf_40 : decode cX10_tagOf 40 = .ok (.aload_n 0, 1) := by decide +kernel
theorem dX10_tagOf_41 : decode cX10_tagOf 41 = .ok (.getfield 170, 3) := by decide +kernel
theorem dX10_tagOf_44 : decode cX10_tagOf 44 = .ok (.invokestatic 286, 3) := by decide +kernel
theorem dX10_tagOf_47 : decode cX10_tagOf 47 = .ok (.aload_n 0, 1) := by decide +kernel
theorem dX10_tagOf_48 : decode cX10_tagOf 48 = .ok (.getfield 298, 3) := by decide +kernel
theorem dX10_tagOf_51 : decode cX10_tagOf 51 = .ok (.invokestatic 286, 3) := by decide +kernel
theorem dX10_tagOf_54 : decode cX10_tagOf 54 = .ok (.ireturn, 1) := by decide +kernel
theorem dX10_endpointOf_0 : decode cX10_endpointOf 0 = .ok (.iload_n 1, 1) := by decide +kernel
theorem dX10_endpointOf_1 : decode cX10_endpointOf 1 = .ok (.ifCond .ne 13, 3) := by decide +kernel
theorem dX10_endpointOf_4 : decode cX10_endpointOf 4 = .ok (.aload_n 0, 1) := by decide +kernel
theorem dX10_endpointOf_5 : decode cX10_endpointOf 5 = .ok (.getfield 10, 3) := by decide +kernel
theorem dX10_endpointOf_8 : decode cX10_endpointOf 8 = .ok (.getfield 48, 3) := by decide +kernel
theorem dX10_endpointOf_11 : decode cX10_endpointOf 11 = .ok (.goto 10, 3) := by decide +kernel
theorem dX10_endpointOf_14 : decode cX10_endpointOf 14 = .ok (.aload_n 0, 1) := by decide +kernel
theorem dX10_endpointOf_15 : decode cX10_endpointOf 15 = .ok (.getfield 10, 3) := by decide +kernel
theorem dX10_endpointOf_18 : decode cX10_endpointOf 18 = .ok (.getfield 93, 3) := by decide +kernel
theorem dX10_endpointOf_21 : decode cX10_endpointOf 21 = .ok (.areturn, 1) := by decide +kernel
theorem dX10_changeState_0 : decode cX10_changeState 0 = .ok (.aload_n 1, 1) := by decide +kernel
theorem dX10_changeState_1 : decode cX10_changeState 1 = .ok (.getfield 52, 3) := by decide +kernel
theorem dX10_changeState_4 : decode cX10_changeState 4 = .ok (.iload_n 2, 1) := by decide +kernel
theorem dX10_changeState_5 : decode cX10_changeState 5 = .ok (.if_icmp .eq 24, 3) := by decide +kernel
theorem dX10_changeState_8 : decode cX10_changeState 8 = .ok (.aload_n 1, 1) := by decide +kernel
theorem dX10_changeState_9 : decode cX10_changeState 9 = .ok (.iload_n 2, 1) := by decide +kernel
theorem dX10_changeState_10 : decode cX10_changeState 10 = .ok (.putfield 52, 3) := by decide +kernel
theorem dX10_changeState_13 : decode cX10_changeState 13 = .ok (.aload_n 0, 1) := by decide +kernel
theorem dX10_changeState_14 : decode cX10_changeState 14 = .ok (.getfield 10, 3) := by decide +kernel
theorem dX10_changeState_17 : decode cX10_changeState 17 = .ok (.getfield 133, 3) := by decide +kernel
theorem dX10_changeState_20 : decode cX10_changeState 20 = .ok (.iconst 3, 1) := by decide +kernel
theorem dX10_changeState_21 : decode cX10_changeState 21 = .ok (.aload_n 1, 1) := by decide +kernel
theorem dX10_changeState_22 : decode cX10_changeState 22 = .ok (.getfield 301, 3) := by decide +kernel
theorem dX10_changeState_25 : decode cX10_changeState 25 = .ok (.iload_n 2, 1) := by decide +kernel
theorem dX10_changeState_26 : decode cX10_changeState 26 = .ok (.invokevirtual 140, 3) := by decide +kernel
theorem dX10_changeState_29 : decode cX10_changeState 29 = .ok (.return_, 1) := by decide +kernel
theorem dX10_beginSession_0 : decode cX10_beginSession 0 = .ok (.aload_n 0, 1) := by decide +kernel
theorem dX10_beginSession_1 : decode cX10_beginSession 1 = .ok (.getfield 10, 3) := by decide +kernel
theorem dX10_beginSession_4 : decode cX10_beginSession 4 = .ok (.getfield 48, 3) := by decide +kernel
theorem dX10_beginSession_7 : decode cX10_beginSession 7 = .ok (.astore_n 3, 1) := by decide +kernel
theorem dX10_beginSession_8 : decode cX10_beginSession 8 = .ok (.aload_n 0, 1) := by decide +kernel
theorem dX10_beginSession_9 : decode cX10_beginSession 9 = .ok (.getfield 10, 3) := by decide +kernel
theorem dX10_beginSession_12 : decode cX10_beginSession 12 = .ok (.dup, 1) := by decide +kernel
theorem dX10_beginSession_13 : decode cX10_beginSession 13 = .ok (.getfield 76, 3) := by decide +kernel
theorem dX10_beginSession_16 : decode cX10_beginSession 16 = .ok (.iconst 1, 1) := by decide +kernel
theorem dX10_beginSession_17 : decode cX10_beginSession 17 = .ok (.iadd, 1) := by decide +kernel
theorem dX10_beginSession_18 : decode cX10_beginSession 18 = .ok (.putfield 76, 3) := by decide +kernel
theorem dX10_beginSession_21 : decode cX10_beginSession 21 = .ok (.aload_n 3, 1) := by decide +kernel
theorem dX10_beginSession_22 : decode cX10_beginSession 22 = .ok (.aload_n 0, 1) := by decide +kernel
theorem dX10_beginSession_23 : decode cX10_beginSession 23 = .ok (.getfield 10, 3) := by decide +kernel
theorem dX10_beginSession_26 : decode cX10_beginSession 26 = .ok (.getfield 76, 3) := by decide +kernel
theorem dX10_beginSession_29 : decode cX10_beginSession 29 = .ok (.putfield 241, 3) := by decide +kernel
theorem dX10_beginSession_32 : decode cX10_beginSession 32 = .ok (.aload_n 3, 1) := by decide +kernel
theorem dX10_beginSession_33 : decode cX10_beginSession 33 = .ok (.iload_n 1, 1) := by decide +kernel
theorem dX10_beginSession_34 : decode cX10_beginSession 34 = .ok (.putfield 304, 3) := by decide +kernel
theorem dX10_beginSession_37 : decode cX10_beginSession 37 = .ok (.aload_n 3, 1) := by decide +kernel
theorem dX10_beginSession_38 : decode cX10_beginSession 38 = .ok (.iload_n 2, 1) := by decide +kernel
theorem dX10_beginSession_39 : decode cX10_beginSession 39 = .ok (.putfield 307, 3) := by decide +kernel
theorem dX10_beginSession_42 : decode cX10_beginSession 42 = .ok (.aload_n 0, 1) := by decide +kernel
theorem dX10_beginSession_43 : decode cX10_beginSession 43 = .ok (.aload_n 3, 1) := by decide +kernel
theorem dX10_beginSession_44 : decode cX10_beginSession 44 = .ok (.iconst 1, 1) := by decide +kernel
theorem dX10_beginSession_45 : decode cX10_beginSession 45 = .ok (.invokevirtual 310, 3) := by decide +kernel
theorem dX10_beginSession_48 : decode cX10_beginSession 48 = .ok (.aload_n 0, 1) := by decide +kernel
theorem dX10_beginSession_49 : decode cX10_beginSession 49 = .ok (.invokevirtual 314, 3) := by decide +kernel
theorem dX10_beginSession_52 : decode cX10_beginSession 52 = .ok (.return_, 1) := by decide +kernel
theorem dX10_breakOff_0 : decode cX10_breakOff 0 = .ok (.aload_n 1, 1) := by decide +kernel
theorem dX10_breakOff_1 : decode cX10_breakOff 1 = .ok (.getfield 52, 3) := by decide +kernel
theorem dX10_breakOff_4 : decode cX10_breakOff 4 = .ok (.iconst 4, 1) := by decide +kernel
theorem dX10_breakOff_5 : decode cX10_breakOff 5 = .ok (.if_icmp .eq 9, 3) := by decide +kernel
theorem dX10_breakOff_8 : decode cX10_breakOff 8 = .ok (.aload_n 0, 1) := by decide +kernel
theorem dX10_breakOff_9 : decode cX10_breakOff 9 = .ok (.aload_n 1, 1) := by decide +kernel
theorem dX10_breakOff_10 : decode cX10_breakOff 10 = .ok (.iconst 0, 1) := by decide +kernel
theorem dX10_breakOff_11 : decode cX10_breakOff 11 = .ok (.invokevirtual 310, 3) := by decide +kernel
theorem dX10_breakOff_14 : decode cX10_breakOff 14 = .ok (.aload_n 1, 1) := by decide +kernel
theorem dX10_breakOff_15 : decode cX10_breakOff 15 = .ok (.getfield 212, 3) := by decide +kernel
theorem dX10_breakOff_18 : decode cX10_breakOff 18 = .ok (.invokevirtual 317, 3) := by decide +kernel
theorem dX10_breakOff_21 : decode cX10_breakOff 21 = .ok (.return_, 1) := by decide +kernel
theorem dX10_addMessage_0 : decode cX10_addMessage 0 = .ok (.aload_n 1, 1) := by decide +kernel
theorem dX10_addMessage_1 : decode cX10_addMessage 1 = .ok (.getfield 221, 3) := by decide +kernel
theorem dX10_addMessage_4 : decode cX10_addMessage 4 = .ok (.astore 4, 2) := by decide +kernel
theorem dX10_addMessage_6 : decode cX10_addMessage 6 = .ok (.aload 4, 2) := by decide +kernel
theorem dX10_addMessage_8 : decode cX10_addMessage 8 = .ok (.getfield 320, 3) := by decide +kernel
theorem dX10_addMessage_11 : decode cX10_addMessage 11 = .ok (.iconst (-1), 1) := by decide +kernel
theorem dX10_addMessage_12 : decode cX10_addMessage 12 = .ok (.if_icmp .ne 11, 3) := by decide +kernel
theorem dX10_addMessage_15 : decode cX10_addMessage 15 = .ok (.aload_n 1, 1) := by decide +kernel
theorem dX10_addMessage_16 : decode cX10_addMessage 16 = .ok (.getfield 52, 3) := by decide +kernel
theorem dX10_addMessage_19 : decode cX10_addMessage 19 = .ok (.iconst 4, 1) := by decide +kernel
theorem dX10_addMessage_20 : decode cX10_addMessage 20 = .ok (.if_icmp .ne 6, 3) := by decide +kernel
theorem dX10_addMessage_23 : decode cX10_addMessage 23 = .ok (.ldc 57, 2) := by decide +kernel
theorem dX10_addMessage_25 : decode cX10_addMessage 25 = .ok (.ireturn, 1) := by decide +kernel
theorem dX10_addMessage_26 : decode cX10_addMessage 26 = .ok (.aload 4, 2) := by decide +kernel
theorem dX10_addMessage_28 : decode cX10_addMessage 28 = .ok (.invokevirtual 323, 3) := by decide +kernel
theorem dX10_addMessage_31 : decode cX10_addMessage 31 = .ok (.ifCond .eq 6, 3) := by decide +kernel
theorem dX10_addMessage_34 : decode cX10_addMessage 34 = .ok (.ldc 68, 2) := by decide +kernel
theorem dX10_addMessage_36 : decode cX10_addMessage 36 = .ok (.ireturn, 1) := by decide +kernel
theorem dX10_addMessage_37 : decode cX10_addMessage 37 = .ok (.aload 4, 2) := by decide +kernel
theorem dX10_addMessage_39 : decode cX10_addMessage 39 = .ok (.iload_n 2, 1) := by decide +kernel
theorem dX10_addMessage_40 : decode cX10_addMessage 40 = .ok (.iload_n 3, 1) := by decide +kernel
theorem dX10_addMessage_41 : decode cX10_addMessage 41 = .ok (.invokevirtual 324, 3) := by decide +kernel
theorem dX10_addMessage_44 : decode cX10_addMessage 44 = .ok (.istore 5, 2) := by decide +kernel
theorem dX10_addMessage_46 : decode cX10_addMessage 46 = .ok (.aload_n 0, 1) := by decide +kernel
theorem dX10_addMessage_47 : decode cX10_addMessage 47 = .ok (.aload_n 1, 1) := by decide +kernel
theorem dX10_addMessage_48 : decode cX10_addMessage 48 = .ok (.invokevirtual 327, 3) := by decide +kernel
theorem dX10_addMessage_51 : decode cX10_addMessage 51 = .ok (.iload 5, 2) := by decide +kernel
theorem dX10_addMessage_53 : decode cX10_addMessage 53 = .ok (.ireturn, 1) := by decide +kernel
theorem dX10_sendHello_0 : decode cX10_sendHello 0 = .ok (.aload_n 0, 1) := by decide +kernel
theorem dX10_sendHello_1 : decode cX10_sendHello 1 = .ok (.getfield 10, 3) := by decide +kernel
theorem dX10_sendHello_4 : decode cX10_sendHello 4 = .ok (.getfield 48, 3) := by decide +kernel
theorem dX10_sendHello_7 : decode cX10_sendHello 7 = .ok (.astore_n 1, 1) := by decide +kernel
theorem dX10_sendHello_8 : decode cX10_sendHello 8 = .ok (.aload_n 0, 1) := by decide +kernel
theorem dX10_sendHello_9 : decode cX10_sendHello 9 = .ok (.aload_n 1, 1) := by decide +kernel
theorem dX10_sendHello_10 : decode cX10_sendHello 10 = .ok (.iconst 0, 1) := by decide +kernel
theorem dX10_sendHello_11 : decode cX10_sendHello 11 = .ok (.aload_n 1, 1) := by decide +kernel
theorem dX10_sendHello_12 : decode cX10_sendHello 12 = .ok (.getfield 241, 3) := by decide +kernel
theorem dX10_sendHello_15 : decode cX10_sendHello 15 = .ok (.aload_n 1, 1) := by decide +kernel
theorem dX10_sendHello_16 : decode cX10_sendHello 16 = .ok (.getfield 304, 3) := by decide +kernel
theorem dX10_sendHello_19 : decode cX10_sendHello 19 = .ok (.aload_n 1, 1) := by decide +kernel
theorem dX10_sendHello_20 : decode cX10_sendHello 20 = .ok (.getfield 307, 3) := by decide +kernel
theorem dX10_sendHello_23 : decode cX10_sendHello 23 = .ok (.invokevirtual 149, 3) := by decide +kernel
theorem dX10_sendHello_26 : decode cX10_sendHello 26 = .ok (.ifCond .eq 14, 3) := by decide +kernel
theorem dX10_sendHello_29 : decode cX10_sendHello 29 = .ok (.aload_n 1, 1) := by decide +kernel
theorem dX10_sendHello_30 : decode cX10_sendHello 30 = .ok (.aload_n 0, 1) := by decide +kernel
theorem dX10_sendHello_31 : decode cX10_sendHello 31 = .ok (.getfield 10, 3) := by decide +kernel
theorem dX10_sendHello_34 : decode cX10_sendHello 34 = .ok (.getfield 173, 3) := by decide +kernel
theorem dX10_sendHello_37 : decode cX10_sendHello 37 = .ok (.putfield 330, 3) := by decide +kernel
theorem dX10_sendHello_40 : decode cX10_sendHello 40 = .ok (.return_, 1) := by decide +kernel
theorem dX10_sendPlain_0 : decode cX10_sendPlain 0 = .ok (.aload_n 0, 1) := by decide +kernel
theorem dX10_sendPlain_1 : decode cX10_sendPlain 1 = .ok (.getfield 10, 3) := by decide +kernel
theorem dX10_sendPlain_4 : decode cX10_sendPlain 4 = .ok (.getfield 58, 3) := by decide +kernel
theorem dX10_sendPlain_7 : decode cX10_sendPlain 7 = .ok (.invokevirtual 163, 3) := by decide +kernel
theorem dX10_sendPlain_10 : decode cX10_sendPlain 10 = .ok (.astore 6, 2) := by decide +kernel
theorem dX10_sendPlain_12 : decode cX10_sendPlain 12 = .ok (.aload 6, 2) := by decide +kernel
theorem dX10_sendPlain_14 : decode cX10_sendPlain 14 = .ok (.ifnonnull 5, 3) := by decide +kernel
theorem dX10_sendPlain_17 : decode cX10_sendPlain 17 = .ok (.iconst 0, 1) := by decide +kernel
theorem dX10_sendPlain_18 : decode cX10_sendPlain 18 = .ok (.ireturn, 1) := by decide +kernel
theorem dX10_sendPlain_19 : decode cX10_sendPlain 19 = .ok (.aload 6, 2) := by decide +kernel
theorem dX10_sendPlain_21 : decode cX10_sendPlain 21 = .ok (.aload_n 1, 1) := by decide +kernel
theorem dX10_sendPlain_22 : decode cX10_sendPlain 22 = .ok (.getfield 301, 3) := by decide +kernel
theorem dX10_sendPlain_25 : decode cX10_sendPlain 25 = .ok (.iload_n 2, 1) := by decide +kernel
theorem dX10_sendPlain_26 : decode cX10_sendPlain 26 = .ok (.iload_n 3, 1) := by decide +kernel
theorem dX10_sendPlain_27 : decode cX10_sendPlain 27 = .ok (.iload 4, 2) := by decide +kernel
theorem dX10_sendPlain_29 : decode cX10_sendPlain 29 = .ok (.iload 5, 2) := by decide +kernel
theorem dX10_sendPlain_31 : decode cX10_sendPlain 31 = .ok (.invokevirtual 333, 3) := by decide +kernel
theorem dX10_sendPlain_34 : decode cX10_sendPlain 34 = .ok (.aload_n 0, 1) := by decide +kernel
theorem dX10_sendPlain_35 : decode cX10_sendPlain 35 = .ok (.aload 6, 2) := by decide +kernel
theorem dX10_sendPlain_37 : decode cX10_sendPlain 37 = .ok (.invokevirtual 337, 3) := by decide +kernel
theorem dX10_sendPlain_40 : decode cX10_sendPlain 40 = .ok (.iconst 1, 1) := by decide +kernel
theorem dX10_sendPlain_41 : decode cX10_sendPlain 41 = .ok (.ireturn, 1) := by decide +kernel
theorem dX10_sendProtected_0 : decode cX10_sendProtected 0 = .ok (.aload_n 0, 1) := by decide +kernel
theorem dX10_sendProtected_1 : decode cX10_sendProtected 1 = .ok (.getfield 10, 3) := by decide +kernel
theorem dX10_sendProtected_4 : decode cX10_sendProtected 4 = .ok (.getfield 58, 3) := by decide +kernel
theorem dX10_sendProtected_7 : decode cX10_sendProtected 7 = .ok (.invokevirtual 163, 3) := by decide +kernel
theorem dX10_sendProtected_10 : decode cX10_sendProtected 10 = .ok (.astore 5, 2) := by decide +kernel
theorem dX10_sendProtected_12 : decode cX10_sendProtected 12 = .ok (.aload 5, 2) := by decide +kernel
theorem dX10_sendProtected_14 : decode cX10_sendProtected 14 = .ok (.ifnonnull 5, 3) := by decide +kernel
theorem dX10_sendProtected_17 : decode cX10_sendProtected 17 = .ok (.iconst 0, 1) := by decide +kernel
theorem dX10_sendProtected_18 : decode cX10_sendProtected 18 = .ok (.ireturn, 1) := by decide +kernel
theorem dX10_sendProtected_19 : decode cX10_sendProtected 19 = .ok (.aload_n 1, 1) := by decide +kernel
theorem dX10_sendProtected_20 : decode cX10_sendProtected 20 = .ok (.getfield 340, 3) := by decide +kernel
theorem dX10_sendProtected_23 : decode cX10_sendProtected 23 = .ok (.aload_n 0, 1) := by decide +kernel
theorem dX10_sendProtected_24 : decode cX10_sendProtected 24 = .ok (.getfield 10, 3) := by decide +kernel
theorem dX10_sendProtected_27 : decode cX10_sendProtected 27 = .ok (.getfield 38, 3) := by decide +kernel
theorem dX10_sendProtected_30 : decode cX10_sendProtected 30 = .ok (.if_icmp .lt 18, 3) := by decide +kernel
theorem dX10_sendProtected_33 : decode cX10_sendProtected 33 = .ok (.aload_n 1, 1) := by decide +kernel
theorem dX10_sendProtected_34 : decode cX10_sendProtected 34 = .ok (.dup, 1) := by decide +kernel
theorem dX10_sendProtected_35 : decode cX10_sendProtected 35 = .ok (.getfield 343, 3) := by decide +kernel
theorem dX10_sendProtected_38 : decode cX10_sendProtected 38 = .ok (.iconst 1, 1) := by decide +kernel
theorem dX10_sendProtected_39 : decode cX10_sendProtected 39 = .ok (.iadd, 1) := by decide +kernel
theorem dX10_sendProtected_40 : decode cX10_sendProtected 40 = .ok (.putfield 343, 3) := by decide +kernel
theorem dX10_sendProtected_43 : decode cX10_sendProtected 43 = .ok (.aload_n 1, 1) := by decide +kernel
theorem dX10_sendProtected_44 : decode cX10_sendProtected 44 = .ok (.iconst 0, 1) := by decide +kernel
theorem dX10_sendProtected_45 : decode cX10_sendProtected 45 = .ok (.putfield 340, 3) := by decide +kernel
theorem dX10_sendProtected_48 : decode cX10_sendProtected 48 = .ok (.aload 5, 2) := by decide +kernel
theorem dX10_sendProtected_50 : decode cX10_sendProtected 50 = .ok (.aload_n 1, 1) := by decide +kernel
theorem dX10_sendProtected_51 : decode cX10_sendProtected 51 = .ok (.getfield 301, 3) := by decide +kernel
theorem dX10_sendProtected_54 : decode cX10_sendProtected 54 = .ok (.iload_n 2, 1) := by decide +kernel
theorem dX10_sendProtected_55 : decode cX10_sendProtected 55 = .ok (.aload_n 1, 1) := by decide +kernel
theorem dX10_sendProtected_56 : decode cX10_sendProtected 56 = .ok (.getfield 241, 3) := by decide +kernel
theorem dX10_sendProtected_59 : decode cX10_sendProtected 59 = .ok (.iload_n 3, 1) := by decide +kernel
theorem dX10_sendProtected_60 : decode cX10_sendProtected 60 = .ok (.iload 4, 2) := by decide +kernel
theorem dX10_sendProtected_62 : decode cX10_sendProtected 62 = .ok (.invokevirtual 333, 3) := by decide +kernel
theorem dX10_sendProtected_65 : decode cX10_sendProtected 65 = .ok (.aload 5, 2) := by decide +kernel
theorem dX10_sendProtected_67 : decode cX10_sendProtected 67 = .ok (.aload_n 1, 1) := by decide +kernel
theorem dX10_sendProtected_68 : decode cX10_sendProtected 68 = .ok (.getfield 343, 3) := by decide +kernel
theorem dX10_sendProtected_71 : decode cX10_sendProtected 71 = .ok (.putfield 289, 3) := by decide +kernel
theorem dX10_sendProtected_74 : decode cX10_sendProtected 74 = .ok (.aload 5, 2) := by decide +kernel
theorem dX10_sendProtected_76 : decode cX10_sendProtected 76 = .ok (.aload_n 1, 1) := by decide +kernel
theorem dX10_sendProtected_77 : decode cX10_sendProtected 77 = .ok (.getfield 340, 3) := by decide +kernel
theorem dX10_sendProtected_80 : decode cX10_sendProtected 80 = .ok (.putfield 292, 3) := by decide +kernel
theorem dX10_sendProtected_83 : decode cX10_sendProtected 83 = .ok (.aload 5, 2) := by decide +kernel
theorem dX10_sendProtected_85 : decode cX10_sendProtected 85 = .ok (.aload_n 1, 1) := by decide +kernel
theorem dX10_sendProtected_86 : decode cX10_sendProtected 86 = .ok (.getfield 212, 3) := by decide +kernel
theorem dX10_sendProtected_89 : decode cX10_sendProtected 89 = .ok (.getfield 346, 3) := by decide +kernel
theorem dX10_sendProtected_92 : decode cX10_sendProtected 92 = .ok (.putfield 298, 3) := by decide +kernel
theorem dX10_sendProtected_95 : decode cX10_sendProtected 95 = .ok (.aload 5, 2) := by decide +kernel
theorem dX10_sendProtected_97 : decode cX10_sendProtected 97 = .ok (.aload 5, 2) := by decide +kernel
theorem dX10_sendProtected_99 : decode cX10_sendProtected 99 = .ok (.aload_n 1, 1) := by decide +kernel
theorem dX10_sendProtected_100 : decode cX10_sendProtected 100 = .ok (.getfield 242, 3) := by decide +kernel
theorem dX10_sendProtected_103 : decode cX10_sendProtected 103 = .ok (.invokestatic 349, 3) := by decide +kernel
theorem dX10_sendProtected_106 : decode cX10_sendProtected 106 = .ok (.putfield 353, 3) := by decide +kernel
theorem dX10_sendProtected_109 : decode cX10_sendProtected 109 = .ok (.aload_n 1, 1) := by decide +kernel
theorem dX10_sendProtected_110 : decode cX10_sendProtected 110 = .ok (.dup, 1) := by decide +kernel
theorem dX10_sendProtected_111 : decode cX10_sendProtected 111 = .ok (.getfield 340, 3) := by decide +kernel
theorem dX10_sendProtected_114 : decode cX10_sendProtected 114 = .ok (.iconst 1, 1) := by decide +kernel
theorem dX10_sendProtected_115 : decode cX10_sendProtected 115 = .ok (.iadd, 1) := by decide +kernel
theorem dX10_sendProtected_116 : decode cX10_sendProtected 116 = .ok (.putfield 340, 3) := by decide +kernel
theorem dX10_sendProtected_119 : decode cX10_sendProtected 119 = .ok (.aload_n 0, 1) := by decide +kernel
theorem dX10_sendProtected_120 : decode cX10_sendProtected 120 = .ok (.aload 5, 2) := by decide +kernel
theorem dX10_sendProtected_122 : decode cX10_sendProtected 122 = .ok (.invokevirtual 337, 3) := by decide +kernel
theorem dX10_sendProtected_125 : decode cX10_sendProtected 125 = .ok (.iconst 1, 1) := by decide +kernel
theorem dX10_sendProtected_126 : decode cX10_sendProtected 126 = .ok (.ireturn, 1) := by decide +kernel
theorem dX10_noteSent_0 : decode cX10_noteSent 0 = .ok (.aload_n 0, 1) := by decide +kernel
theorem dX10_noteSent_1 : decode cX10_noteSent 1 = .ok (.getfield 10, 3) := by decide +kernel
theorem dX10_noteSent_4 : decode cX10_noteSent 4 = .ok (.dup, 1) := by decide +kernel
theorem dX10_noteSent_5 : decode cX10_noteSent 5 = .ok (.getfield 234, 3) := by decide +kernel
theorem dX10_noteSent_8 : decode cX10_noteSent 8 = .ok (.iconst 1, 1) := by decide +kernel
theorem dX10_noteSent_9 : decode cX10_noteSent 9 = .ok (.iadd, 1) := by decide +kernel
theorem dX10_noteSent_10 : decode cX10_noteSent 10 = .ok (.putfield 234, 3) := by decide +kernel
theorem dX10_noteSent_13 : decode cX10_noteSent 13 = .ok (.aload_n 0, 1) := by decide +kernel
theorem dX10_noteSent_14 : decode cX10_noteSent 14 = .ok (.getfield 10, 3) := by decide +kernel
theorem dX10_noteSent_17 : decode cX10_noteSent 17 = .ok (.getfield 133, 3) := by decide +kernel
theorem dX10_noteSent_20 : decode cX10_noteSent 20 = .ok (.iconst 0, 1) := by decide +kernel
theorem dX10_noteSent_21 : decode cX10_noteSent 21 = .ok (.aload_n 1, 1) := by decide +kernel
theorem dX10_noteSent_22 : decode cX10_noteSent 22 = .ok (.getfield 120, 3) := by decide +kernel
theorem dX10_noteSent_25 : decode cX10_noteSent 25 = .ok (.aload_n 1, 1) := by decide +kernel
theorem dX10_noteSent_26 : decode cX10_noteSent 26 = .ok (.getfield 137, 3) := by decide +kernel
theorem dX10_noteSent_29 : decode cX10_noteSent 29 = .ok (.invokevirtual 140, 3) := by decide +kernel
theorem dX10_noteSent_32 : decode cX10_noteSent 32 = .ok (.return_, 1) := by decide +kernel
theorem dX10_sendDue_0 : decode cX10_sendDue 0 = .ok (.aload_n 1, 1) := by decide +kernel
theorem dX10_sendDue_1 : decode cX10_sendDue 1 = .ok (.getfield 52, 3) := by decide +kernel
theorem dX10_sendDue_4 : decode cX10_sendDue 4 = .ok (.iconst 3, 1) := by decide +kernel
theorem dX10_sendDue_5 : decode cX10_sendDue 5 = .ok (.if_icmp .eq 4, 3) := by decide +kernel
theorem dX10_sendDue_8 : decode cX10_sendDue 8 = .ok (.return_, 1) := by decide +kernel
theorem dX10_sendDue_9 : decode cX10_sendDue 9 = .ok (.aload_n 1, 1) := by decide +kernel
theorem dX10_sendDue_10 : decode cX10_sendDue 10 = .ok (.getfield 221, 3) := by decide +kernel
theorem dX10_sendDue_13 : decode cX10_sendDue 13 = .ok (.astore_n 2, 1) := by decide +kernel
theorem dX10_sendDue_14 : decode cX10_sendDue 14 = .ok (.iconst 0, 1) := by decide +kernel
theorem dX10_sendDue_15 : decode cX10_sendDue 15 = .ok (.istore_n 3, 1) := by decide +kernel
theorem dX10_sendDue_16 : decode cX10_sendDue 16 = .ok (.iload_n 3, 1) := by decide +kernel
theorem dX10_sendDue_17 : decode cX10_sendDue 17 = .ok (.aload_n 2, 1) := by decide +kernel
theorem dX10_sendDue_18 : decode cX10_sendDue 18 = .ok (.getfield 356, 3) := by decide +kernel
theorem dX10_sendDue_21 : decode cX10_sendDue 21 = .ok (.if_icmp .ge 76, 3) := by decide +kernel
theorem dX10_sendDue_24 : decode cX10_sendDue 24 = .ok (.iload_n 3, 1) := by decide +kernel
theorem dX10_sendDue_25 : decode cX10_sendDue 25 = .ok (.iconst 3, 1) := by decide +kernel
theorem dX10_sendDue_26 : decode cX10_sendDue 26 = .ok (.if_icmp .ge 71, 3) := by decide +kernel
theorem dX10_sendDue_29 : decode cX10_sendDue 29 = .ok (.aload_n 2, 1) := by decide +kernel
theorem dX10_sendDue_30 : decode cX10_sendDue 30 = .ok (.getfield 357, 3) := by decide +kernel
theorem dX10_sendDue_33 : decode cX10_sendDue 33 = .ok (.iload_n 3, 1) := by decide +kernel
theorem dX10_sendDue_34 : decode cX10_sendDue 34 = .ok (.iaload, 1) := by decide +kernel
theorem dX10_sendDue_35 : decode cX10_sendDue 35 = .ok (.iconst (-1), 1) := by decide +kernel
theorem dX10_sendDue_36 : decode cX10_sendDue 36 = .ok (.if_icmp .ne 55, 3) := by decide +kernel
theorem dX10_sendDue_39 : decode cX10_sendDue 39 = .ok (.aload_n 2, 1) := by decide +kernel
theorem dX10_sendDue_40 : decode cX10_sendDue 40 = .ok (.iload_n 3, 1) := by decide +kernel
theorem dX10_sendDue_41 : decode cX10_sendDue 41 = .ok (.invokevirtual 360, 3) := by decide +kernel
theorem dX10_sendDue_44 : decode cX10_sendDue 44 = .ok (.ifCond .eq 8, 3) := by decide +kernel
theorem dX10_sendDue_47 : decode cX10_sendDue 47 = .ok (.bipush 7, 2) := by decide +kernel
theorem dX10_sendDue_49 : decode cX10_sendDue 49 = .ok (.goto 4, 3) := by decide +kernel
theorem dX10_sendDue_52 : decode cX10_sendDue 52 = .ok (.iconst 4, 1) := by decide +kernel
theorem dX10_sendDue_53 : decode cX10_sendDue 53 = .ok (.istore 4, 2) := by decide +kernel
theorem dX10_sendDue_55 : decode cX10_sendDue 55 = .ok (.aload_n 0, 1) := by decide +kernel
theorem dX10_sendDue_56 : decode cX10_sendDue 56 = .ok (.aload_n 1, 1) := by decide +kernel
theorem dX10_sendDue_57 : decode cX10_sendDue 57 = .ok (.iload 4, 2) := by decide +kernel
theorem dX10_sendDue_59 : decode cX10_sendDue 59 = .ok (.aload_n 2, 1) := by decide +kernel
theorem dX10_sendDue_60 : decode cX10_sendDue 60 = .ok (.getfield 363, 3) := by decide +kernel
theorem dX10_sendDue_63 : decode cX10_sendDue 63 = .ok (.iload_n 3, 1) := by decide +kernel
theorem dX10_sendDue_64 : decode cX10_sendDue 64 = .ok (.iadd, 1) := by decide +kernel
theorem dX10_sendDue_65 : decode cX10_sendDue 65 = .ok (.aload_n 2, 1) := by decide +kernel
theorem dX10_sendDue_66 : decode cX10_sendDue 66 = .ok (.getfield 366, 3) := by decide +kernel
theorem dX10_sendDue_69 : decode cX10_sendDue 69 = .ok (.iload_n 3, 1) := by decide +kernel
theorem dX10_sendDue_70 : decode cX10_sendDue 70 = .ok (.iaload, 1) := by decide +kernel
theorem dX10_sendDue_71 : decode cX10_sendDue 71 = .ok (.invokevirtual 369, 3) := by decide +kernel
theorem dX10_sendDue_74 : decode cX10_sendDue 74 = .ok (.ifCond .ne 4, 3) := by decide +kernel
theorem dX10_sendDue_77 : decode cX10_sendDue 77 = .ok (.return_, 1) := by decide +kernel
theorem dX10_sendDue_78 : decode cX10_sendDue 78 = .ok (.aload_n 2, 1) := by decide +kernel
theorem dX10_sendDue_79 : decode cX10_sendDue 79 = .ok (.getfield 357, 3) := by decide +kernel
theorem dX10_sendDue_82 : decode cX10_sendDue 82 = .ok (.iload_n 3, 1) := by decide +kernel
theorem dX10_sendDue_83 : decode cX10_sendDue 83 = .ok (.aload_n 0, 1) := by decide +kernel
theorem dX10_sendDue_84 : decode cX10_sendDue 84 = .ok (.getfield 10, 3) := by decide +kernel
theorem dX10_sendDue_87 : decode cX10_sendDue 87 = .ok (.getfield 173, 3) := by decide +kernel
theorem dX10_sendDue_90 : decode cX10_sendDue 90 = .ok (.iastore, 1) := by decide +kernel
theorem dX10_sendDue_91 : decode cX10_sendDue 91 = .ok (.iinc 3 1, 3) := by decide +kernel
theorem dX10_sendDue_94 : decode cX10_sendDue 94 = .ok (.goto (-78), 3) := by decide +kernel
theorem dX10_sendDue_97 : decode cX10_sendDue 97 = .ok (.return_, 1) := by decide +kernel
theorem dX10_repeatHello_0 : decode cX10_repeatHello 0 = .ok (.aload_n 0, 1) := by decide +kernel
theorem dX10_repeatHello_1 : decode cX10_repeatHello 1 = .ok (.getfield 10, 3) := by decide +kernel
theorem dX10_repeatHello_4 : decode cX10_repeatHello 4 = .ok (.getfield 48, 3) := by decide +kernel
theorem dX10_repeatHello_7 : decode cX10_repeatHello 7 = .ok (.astore_n 1, 1) := by decide +kernel
theorem dX10_repeatHello_8 : decode cX10_repeatHello 8 = .ok (.aload_n 1, 1) := by decide +kernel
theorem dX10_repeatHello_9 : decode cX10_repeatHello 9 = .ok (.getfield 52, 3) := by decide +kernel
theorem dX10_repeatHello_12 : decode cX10_repeatHello 12 = .ok (.iconst 1, 1) := by decide +kernel
theorem dX10_repeatHello_13 : decode cX10_repeatHello 13 = .ok (.if_icmp .ne 29, 3) := by decide +kernel
theorem dX10_repeatHello_16 : decode cX10_repeatHello 16 = .ok (.aload_n 0, 1) := by decide +kernel
theorem dX10_repeatHello_17 : decode cX10_repeatHello 17 = .ok (.getfield 10, 3) := by decide +kernel
theorem dX10_repeatHello_20 : decode cX10_repeatHello 20 = .ok (.getfield 173, 3) := by decide +kernel
theorem dX10_repeatHello_23 : decode cX10_repeatHello 23 = .ok (.aload_n 1, 1) := by decide +kernel
theorem dX10_repeatHello_24 : decode cX10_repeatHello 24 = .ok (.getfield 330, 3) := by decide +kernel
theorem dX10_repeatHello_27 : decode cX10_repeatHello 27 = .ok (.isub, 1) := by decide +kernel
theorem dX10_repeatHello_28 : decode cX10_repeatHello 28 = .ok (.aload_n 0, 1) := by decide +kernel
theorem dX10_repeatHello_29 : decode cX10_repeatHello 29 = .ok (.getfield 10, 3) := by decide +kernel
theorem dX10_repeatHello_32 : decode cX10_repeatHello 32 = .ok (.getfield 42, 3) := by decide +kernel
theorem dX10_repeatHello_35 : decode cX10_repeatHello 35 = .ok (.if_icmp .lt 7, 3) := by decide +kernel
theorem dX10_repeatHello_38 : decode cX10_repeatHello 38 = .ok (.aload_n 0, 1) := by decide +kernel
theorem dX10_repeatHello_39 : decode cX10_repeatHello 39 = .ok (.invokevirtual 314, 3) := by decide +kernel
theorem dX10_repeatHello_42 : decode cX10_repeatHello 42 = .ok (.return_, 1) := by decide +kernel
theorem dX10_resendLateMessages_0 : decode cX10_resendLateMessages 0 = .ok (.aload_n 1, 1) := by decide +kernel
theorem dX10_resendLateMessages_1 : decode cX10_resendLateMessages 1 = .ok (.getfield 52, 3) := by decide +kernel
theorem dX10_resendLateMessages_4 : decode cX10_resendLateMessages 4 = .ok (.iconst 3, 1) := by decide +kernel
theorem dX10_resendLateMessages_5 : decode cX10_resendLateMessages 5 = .ok (.if_icmp .ne 30, 3) := by decide +kernel
theorem dX10_resendLateMessages_8 : decode cX10_resendLateMessages 8 = .ok (.aload_n 1, 1) := by decide +kernel
theorem dX10_resendLateMessages_9 : decode cX10_resendLateMessages 9 = .ok (.getfield 221, 3) := by decide +kernel
theorem dX10_resendLateMessages_12 : decode cX10_resendLateMessages 12 = .ok (.aload_n 0, 1) := by decide +kernel
theorem dX10_resendLateMessages_13 : decode cX10_resendLateMessages 13 = .ok (.getfield 10, 3) := by decide +kernel
theorem dX10_resendLateMessages_16 : decode cX10_resendLateMessages 16 = .ok (.getfield 173, 3) := by decide +kernel
theorem dX10_resendLateMessages_19 : decode cX10_resendLateMessages 19 = .ok (.aload_n 0, 1) := by decide +kernel
theorem dX10_resendLateMessages_20 : decode cX10_resendLateMessages 20 = .ok (.getfield 10, 3) := by decide +kernel
theorem dX10_resendLateMessages_23 : decode cX10_resendLateMessages 23 = .ok (.getfield 42, 3) := by decide +kernel
theorem dX10_resendLateMessages_26 : decode cX10_resendLateMessages 26 = .ok (.isub, 1) := by decide +kernel
theorem dX10_resendLateMessages_27 : decode cX10_resendLateMessages 27 = .ok (.invokevirtual 373, 3) := by decide +kernel
theorem dX10_resendLateMessages_30 : decode cX10_resendLateMessages 30 = .ok (.aload_n 0, 1) := by decide +kernel
theorem dX10_resendLateMessages_31 : decode cX10_resendLateMessages 31 = .ok (.aload_n 1, 1) := by decide +kernel
theorem dX10_resendLateMessages_32 : decode cX10_resendLateMessages 32 = .ok (.invokevirtual 327, 3) := by decide +kernel
theorem dX10_resendLateMessages_35 : decode cX10_resendLateMessages 35 = .ok (.return_, 1) := by decide +kernel
theorem dX10_resultOf_0 : decode cX10_resultOf 0 = .ok (.aload_n 2, 1) := by decide +kernel
theorem dX10_resultOf_1 : decode cX10_resultOf 1 = .ok (.aload_n 1, 1) := by decide +kernel
theorem dX10_resultOf_2 : decode cX10_resultOf 2 = .ok (.getfield 137, 3) := by decide +kernel
theorem dX10_resultOf_5 : decode cX10_resultOf 5 = .ok (.invokevirtual 376, 3) := by decide +kernel
theorem dX10_resultOf_8 : decode cX10_resultOf 8 = .ok (.ifCond .ne 5, 3) := by decide +kernel
theorem dX10_resultOf_11 : decode cX10_resultOf 11 = .ok (.iconst 1, 1) := by decide +kernel
theorem dX10_resultOf_12 : decode cX10_resultOf 12 = .ok (.ireturn, 1) := by decide +kernel
theorem dX10_resultOf_13 : decode cX10_resultOf 13 = .ok (.aload_n 1, 1) := by decide +kernel
theorem dX10_resultOf_14 : decode cX10_resultOf 14 = .ok (.getfield 137, 3) := by decide +kernel
theorem dX10_resultOf_17 : decode cX10_resultOf 17 = .ok (.ifCond .ne 21, 3) := by decide +kernel
theorem dX10_resultOf_20 : decode cX10_resultOf 20 = .ok (.aload_n 0, 1) := by decide +kernel
theorem dX10_resultOf_21 : decode cX10_resultOf 21 = .ok (.aload_n 1, 1) := by decide +kernel
theorem dX10_resultOf_22 : decode cX10_resultOf 22 = .ok (.getfield 170, 3) := by decide +kernel
theorem dX10_resultOf_25 : decode cX10_resultOf 25 = .ok (.invokevirtual 379, 3) := by decide +kernel
theorem dX10_resultOf_28 : decode cX10_resultOf 28 = .ok (.ifCond .eq 8, 3) := by decide +kernel
theorem dX10_resultOf_31 : decode cX10_resultOf 31 = .ok (.bipush 8, 2) := by decide +kernel
theorem dX10_resultOf_33 : decode cX10_resultOf 33 = .ok (.goto 4, 3) := by decide +kernel
theorem dX10_resultOf_36 : decode cX10_resultOf 36 = .ok (.iconst 0, 1) := by decide +kernel
theorem dX10_resultOf_37 : decode cX10_resultOf 37 = .ok (.ireturn, 1) := by decide +kernel
theorem dX10_resultOf_38 : decode cX10_resultOf 38 = .ok (.aload_n 1, 1) := by decide +kernel
theorem dX10_resultOf_39 : decode cX10_resultOf 39 = .ok (.getfield 146, 3) := by decide +kernel
theorem dX10_resultOf_42 : decode cX10_resultOf 42 = .ok (.aload_n 2, 1) := by decide +kernel
theorem dX10_resultOf_43 : decode cX10_resultOf 43 = .ok (.getfield 241, 3) := by decide +kernel
theorem dX10_resultOf_46 : decode cX10_resultOf 46 = .ok (.if_icmp .eq 5, 3) := by decide +kernel
theorem dX10_resultOf_49 : decode cX10_resultOf 49 = .ok (.iconst 2, 1) := by decide +kernel
theorem dX10_resultOf_50 : decode cX10_resultOf 50 = .ok (.ireturn, 1) := by decide +kernel
theorem dX10_resultOf_51 : decode cX10_resultOf 51 = .ok (.aload_n 1, 1) := by decide +kernel
theorem dX10_resultOf_52 : decode cX10_resultOf 52 = .ok (.invokevirtual 153, 3) := by decide +kernel
theorem dX10_resultOf_55 : decode cX10_resultOf 55 = .ok (.ifCond .eq 12, 3) := by decide +kernel
theorem dX10_resultOf_58 : decode cX10_resultOf 58 = .ok (.aload_n 0, 1) := by decide +kernel
theorem dX10_resultOf_59 : decode cX10_resultOf 59 = .ok (.aload_n 1, 1) := by decide +kernel
theorem dX10_resultOf_60 : decode cX10_resultOf 60 = .ok (.aload_n 2, 1) := by decide +kernel
theorem dX10_resultOf_61 : decode cX10_resultOf 61 = .ok (.invokevirtual 382, 3) := by decide +kernel
theorem dX10_resultOf_64 : decode cX10_resultOf 64 = .ok (.goto 4, 3) := by decide +kernel
theorem dX10_resultOf_67 : decode cX10_resultOf 67 = .ok (.iconst 0, 1) := by decide +kernel
theorem dX10_resultOf_68 : decode cX10_resultOf 68 = .ok (.ireturn, 1) := by decide +kernel
theorem dX10_isRefused_0 : decode cX10_isRefused 0 = .ok (.iload_n 1, 1) := by decide +kernel
theorem dX10_isRefused_1 : decode cX10_isRefused 1 = .ok (.iconst (-1), 1) := by decide +kernel
theorem dX10_isRefused_2 : decode cX10_isRefused 2 = .ok (.if_icmp .eq 35, 3) := by decide +kernel
theorem dX10_isRefused_5 : decode cX10_isRefused 5 = .ok (.aload_n 0, 1) := by decide +kernel
theorem dX10_isRefused_6 : decode cX10_isRefused 6 = .ok (.getfield 10, 3) := by decide +kernel
theorem dX10_isRefused_9 : decode cX10_isRefused 9 = .ok (.getfield 186, 3) := by decide +kernel
theorem dX10_isRefused_12 : decode cX10_isRefused 12 = .ok (.iload_n 1, 1) := by decide +kernel
theorem dX10_isRefused_13 : decode cX10_isRefused 13 = .ok (.aload_n 0, 1) := by decide +kernel
theorem dX10_isRefused_14 : decode cX10_isRefused 14 = .ok (.getfield 10, 3) := by decide +kernel
theorem dX10_isRefused_17 : decode cX10_isRefused 17 = .ok (.getfield 173, 3) := by decide +kernel
theorem dX10_isRefused_20 : decode cX10_isRefused 20 = .ok (.aload_n 0, 1) := by decide +kernel
theorem dX10_isRefused_21 : decode cX10_isRefused 21 = .ok (.getfield 10, 3) := by decide +kernel
theorem dX10_isRefused_24 : decode cX10_isRefused 24 = .ok (.getfield 45, 3) := by decide +kernel
theorem dX10_isRefused_27 : decode cX10_isRefused 27 = .ok (.invokevirtual 385, 3) := by decide +kernel
theorem dX10_isRefused_30 : decode cX10_isRefused 30 = .ok (.ifCond .ne 7, 3) := by decide +kernel
theorem dX10_isRefused_33 : decode cX10_isRefused 33 = .ok (.iconst 1, 1) := by decide +kernel
theorem dX10_isRefused_34 : decode cX10_isRefused 34 = .ok (.goto 4, 3) := by decide +kernel
theorem dX10_isRefused_37 : decode cX10_isRefused 37 = .ok (.iconst 0, 1) := by decide +kernel
theorem dX10_isRefused_38 : decode cX10_isRefused 38 = .ok (.ireturn, 1) := by decide +kernel
theorem dX10_protectedResultOf_0 : decode cX10_protectedResultOf 0 = .ok (.aload_n 2, 1) := by decide +kernel
theorem dX10_protectedResultOf_1 : decode cX10_protectedResultOf 1 = .ok (.aload_n 1, 1) := by decide +kernel
theorem dX10_protectedResultOf_2 : decode cX10_protectedResultOf 2 = .ok (.getfield 289, 3) := by decide +kernel
theorem dX10_protectedResultOf_5 : decode cX10_protectedResultOf 5 = .ok (.invokevirtual 389, 3) := by decide +kernel
theorem dX10_protectedResultOf_8 : decode cX10_protectedResultOf 8 = .ok (.ifCond .ne 5, 3) := by decide +kernel
theorem dX10_protectedResultOf_11 : decode cX10_protectedResultOf 11 = .ok (.iconst 3, 1) := by decide +kernel
theorem dX10_protectedResultOf_12 : decode cX10_protectedResultOf 12 = .ok (.ireturn, 1) := by decide +kernel
theorem dX10_protectedResultOf_13 : decode cX10_protectedResultOf 13 = .ok (.aload_n 1, 1) := by decide +kernel
theorem dX10_protectedResultOf_14 : decode cX10_protectedResultOf 14 = .ok (.getfield 353, 3) := by decide +kernel
theorem dX10_protectedResultOf_17 : decode cX10_protectedResultOf 17 = .ok (.aload_n 1, 1) := by decide +kernel
theorem dX10_protectedResultOf_18 : decode cX10_protectedResultOf 18 = .ok (.aload_n 2, 1) := by decide +kernel
theorem dX10_protectedResultOf_19 : decode cX10_protectedResultOf 19 = .ok (.getfield 242, 3) := by decide +kernel
theorem dX10_protectedResultOf_22 : decode cX10_protectedResultOf 22 = .ok (.invokestatic 349, 3) := by decide +kernel
theorem dX10_protectedResultOf_25 : decode cX10_protectedResultOf 25 = .ok (.if_icmp .eq 5, 3) := by decide +kernel
theorem dX10_protectedResultOf_28 : decode cX10_protectedResultOf 28 = .ok (.iconst 4, 1) := by decide +kernel
theorem dX10_protectedResultOf_29 : decode cX10_protectedResultOf 29 = .ok (.ireturn, 1) := by decide +kernel
theorem dX10_protectedResultOf_30 : decode cX10_protectedResultOf 30 = .ok (.aload_n 1, 1) := by decide +kernel
theorem dX10_protectedResultOf_31 : decode cX10_protectedResultOf 31 = .ok (.getfield 289, 3) := by decide +kernel
theorem dX10_protectedResultOf_34 : decode cX10_protectedResultOf 34 = .ok (.aload_n 2, 1) := by decide +kernel
theorem dX10_protectedResultOf_35 : decode cX10_protectedResultOf 35 = .ok (.getfield 392, 3) := by decide +kernel
theorem dX10_protectedResultOf_38 : decode cX10_protectedResultOf 38 = .ok (.if_icmp .gt 39, 3) := by decide +kernel
theorem dX10_protectedResultOf_41 : decode cX10_protectedResultOf 41 = .ok (.aload_n 2, 1) := by decide +kernel
theorem dX10_protectedResultOf_42 : decode cX10_protectedResultOf 42 = .ok (.aload_n 1, 1) := by decide +kernel
theorem dX10_protectedResultOf_43 : decode cX10_protectedResultOf 43 = .ok (.getfield 289, 3) := by decide +kernel
theorem dX10_protectedResultOf_46 : decode cX10_protectedResultOf 46 = .ok (.invokevirtual 395, 3) := by decide +kernel
theorem dX10_protectedResultOf_49 : decode cX10_protectedResultOf 49 = .ok (.astore_n 3, 1) := by decide +kernel
theorem dX10_protectedResultOf_50 : decode cX10_protectedResultOf 50 = .ok (.aload_n 3, 1) := by decide +kernel
theorem dX10_protectedResultOf_51 : decode cX10_protectedResultOf 51 = .ok (.aload_n 1, 1) := by decide +kernel
theorem dX10_protectedResultOf_52 : decode cX10_protectedResultOf 52 = .ok (.getfield 292, 3) := by decide +kernel
theorem dX10_protectedResultOf_55 : decode cX10_protectedResultOf 55 = .ok (.invokevirtual 399, 3) := by decide +kernel
theorem dX10_protectedResultOf_58 : decode cX10_protectedResultOf 58 = .ok (.ifCond .eq 5, 3) := by decide +kernel
theorem dX10_protectedResultOf_61 : decode cX10_protectedResultOf 61 = .ok (.iconst 5, 1) := by decide +kernel
theorem dX10_protectedResultOf_62 : decode cX10_protectedResultOf 62 = .ok (.ireturn, 1) := by decide +kernel
theorem dX10_protectedResultOf_63 : decode cX10_protectedResultOf 63 = .ok (.aload_n 3, 1) := by decide +kernel
theorem dX10_protectedResultOf_64 : decode cX10_protectedResultOf 64 = .ok (.aload_n 1, 1) := by decide +kernel
theorem dX10_protectedResultOf_65 : decode cX10_protectedResultOf 65 = .ok (.getfield 292, 3) := by decide +kernel
theorem dX10_protectedResultOf_68 : decode cX10_protectedResultOf 68 = .ok (.invokevirtual 402, 3) := by decide +kernel
theorem dX10_protectedResultOf_71 : decode cX10_protectedResultOf 71 = .ok (.ifCond .eq 6, 3) := by decide +kernel
theorem dX10_protectedResultOf_74 : decode cX10_protectedResultOf 74 = .ok (.bipush 6, 2) := by decide +kernel
theorem dX10_protectedResultOf_76 : decode cX10_protectedResultOf 76 = .ok (.ireturn, 1) := by decide +kernel
theorem dX10_protectedResultOf_77 : decode cX10_protectedResultOf 77 = .ok (.aload_n 1, 1) := by decide +kernel
theorem dX10_protectedResultOf_78 : decode cX10_protectedResultOf 78 = .ok (.invokevirtual 405, 3) := by decide +kernel
theorem dX10_protectedResultOf_81 : decode cX10_protectedResultOf 81 = .ok (.ifCond .eq 22, 3) := by decide +kernel
theorem dX10_protectedResultOf_84 : decode cX10_protectedResultOf 84 = .ok (.aload_n 2, 1) := by decide +kernel
theorem dX10_protectedResultOf_85 : decode cX10_protectedResultOf 85 = .ok (.getfield 212, 3) := by decide +kernel
theorem dX10_protectedResultOf_88 : decode cX10_protectedResultOf 88 = .ok (.aload_n 1, 1) := by decide +kernel
theorem dX10_protectedResultOf_89 : decode cX10_protectedResultOf 89 = .ok (.getfield 295, 3) := by decide +kernel
theorem dX10_protectedResultOf_92 : decode cX10_protectedResultOf 92 = .ok (.invokevirtual 408, 3) := by decide +kernel
theorem dX10_protectedResultOf_95 : decode cX10_protectedResultOf 95 = .ok (.ifCond .eq 8, 3) := by decide +kernel
theorem dX10_protectedResultOf_98 : decode cX10_protectedResultOf 98 = .ok (.bipush 7, 2) := by decide +kernel
theorem dX10_protectedResultOf_100 : decode cX10_protectedResultOf 100 = .ok (.goto 4, 3) := by decide +kernel
theorem dX10_protectedResultOf_103 : decode cX10_protectedResultOf 103 = .ok (.iconst 0, 1) := by decide +kernel
theorem dX10_protectedResultOf_104 : decode cX10_protectedResultOf 104 = .ok (.ireturn, 1) := by decide +kernel
theorem dX10_acceptPlain_0 : decode cX10_acceptPlain 0 = .ok (.aload_n 2, 1) := by decide +kernel
theorem dX10_acceptPlain_1 : decode cX10_acceptPlain 1 = .ok (.getfield 137, 3) := by decide +kernel
theorem dX10_acceptPlain_4 : decode cX10_acceptPlain 4 = .ok (.ifCond .ne 12, 3) := by decide +kernel
theorem dX10_acceptPlain_7 : decode cX10_acceptPlain 7 = .ok (.aload_n 0, 1) := by decide +kernel
theorem dX10_acceptPlain_8 : decode cX10_acceptPlain 8 = .ok (.aload_n 1, 1) := by decide +kernel
theorem dX10_acceptPlain_9 : decode cX10_acceptPlain 9 = .ok (.aload_n 2, 1) := by decide +kernel
theorem dX10_acceptPlain_10 : decode cX10_acceptPlain 10 = .ok (.invokevirtual 411, 3) := by decide +kernel
theorem dX10_acceptPlain_13 : decode cX10_acceptPlain 13 = .ok (.goto 26, 3) := by decide +kernel
theorem dX10_acceptPlain_16 : decode cX10_acceptPlain 16 = .ok (.aload_n 2, 1) := by decide +kernel
theorem dX10_acceptPlain_17 : decode cX10_acceptPlain 17 = .ok (.getfield 137, 3) := by decide +kernel
theorem dX10_acceptPlain_20 : decode cX10_acceptPlain 20 = .ok (.iconst 1, 1) := by decide +kernel
theorem dX10_acceptPlain_21 : decode cX10_acceptPlain 21 = .ok (.if_icmp .ne 12, 3) := by decide +kernel
theorem dX10_acceptPlain_24 : decode cX10_acceptPlain 24 = .ok (.aload_n 0, 1) := by decide +kernel
theorem dX10_acceptPlain_25 : decode cX10_acceptPlain 25 = .ok (.aload_n 1, 1) := by decide +kernel
theorem dX10_acceptPlain_26 : decode cX10_acceptPlain 26 = .ok (.aload_n 2, 1) := by decide +kernel
theorem dX10_acceptPlain_27 : decode cX10_acceptPlain 27 = .ok (.invokevirtual 414, 3) := by decide +kernel
theorem dX10_acceptPlain_30 : decode cX10_acceptPlain 30 = .ok (.goto 9, 3) := by decide +kernel
theorem dX10_acceptPlain_33 : decode cX10_acceptPlain 33 = .ok (.aload_n 0, 1) := by decide +kernel
theorem dX10_acceptPlain_34 : decode cX10_acceptPlain 34 = .ok (.aload_n 1, 1) := by decide +kernel
theorem dX10_acceptPlain_35 : decode cX10_acceptPlain 35 = .ok (.iconst 0, 1) := by decide +kernel
theorem dX10_acceptPlain_36 : decode cX10_acceptPlain 36 = .ok (.invokevirtual 310, 3) := by decide +kernel
theorem dX10_acceptPlain_39 : decode cX10_acceptPlain 39 = .ok (.return_, 1) := by decide +kernel
theorem dX10_acceptHello_0 : decode cX10_acceptHello 0 = .ok (.aload_n 1, 1) := by decide +kernel
theorem dX10_acceptHello_1 : decode cX10_acceptHello 1 = .ok (.aload_n 2, 1) := by decide +kernel
theorem dX10_acceptHello_2 : decode cX10_acceptHello 2 = .ok (.getfield 146, 3) := by decide +kernel
theorem dX10_acceptHello_5 : decode cX10_acceptHello 5 = .ok (.putfield 241, 3) := by decide +kernel
theorem dX10_acceptHello_8 : decode cX10_acceptHello 8 = .ok (.aload_n 2, 1) := by decide +kernel
theorem dX10_acceptHello_9 : decode cX10_acceptHello 9 = .ok (.getfield 170, 3) := by decide +kernel
theorem dX10_acceptHello_12 : decode cX10_acceptHello 12 = .ok (.iconst (-1), 1) := by decide +kernel
theorem dX10_acceptHello_13 : decode cX10_acceptHello 13 = .ok (.if_icmp .ne 10, 3) := by decide +kernel
theorem dX10_acceptHello_16 : decode cX10_acceptHello 16 = .ok (.aload_n 1, 1) := by decide +kernel
theorem dX10_acceptHello_17 : decode cX10_acceptHello 17 = .ok (.invokevirtual 69, 3) := by decide +kernel
theorem dX10_acceptHello_20 : decode cX10_acceptHello 20 = .ok (.goto 17, 3) := by decide +kernel
theorem dX10_acceptHello_23 : decode cX10_acceptHello 23 = .ok (.aload_n 0, 1) := by decide +kernel
theorem dX10_acceptHello_24 : decode cX10_acceptHello 24 = .ok (.getfield 10, 3) := by decide +kernel
theorem dX10_acceptHello_27 : decode cX10_acceptHello 27 = .ok (.getfield 186, 3) := by decide +kernel
theorem dX10_acceptHello_30 : decode cX10_acceptHello 30 = .ok (.aload_n 2, 1) := by decide +kernel
theorem dX10_acceptHello_31 : decode cX10_acceptHello 31 = .ok (.getfield 170, 3) := by decide +kernel
theorem dX10_acceptHello_34 : decode cX10_acceptHello 34 = .ok (.invokevirtual 417, 3) := by decide +kernel
theorem dX10_acceptHello_37 : decode cX10_acceptHello 37 = .ok (.aload_n 2, 1) := by decide +kernel
theorem dX10_acceptHello_38 : decode cX10_acceptHello 38 = .ok (.getfield 295, 3) := by decide +kernel
theorem dX10_acceptHello_41 : decode cX10_acceptHello 41 = .ok (.aload_n 2, 1) := by decide +kernel
theorem dX10_acceptHello_42 : decode cX10_acceptHello 42 = .ok (.getfield 146, 3) := by decide +kernel
theorem dX10_acceptHello_45 : decode cX10_acceptHello 45 = .ok (.aload_n 0, 1) := by decide +kernel
theorem dX10_acceptHello_46 : decode cX10_acceptHello 46 = .ok (.getfield 10, 3) := by decide +kernel
theorem dX10_acceptHello_49 : decode cX10_acceptHello 49 = .ok (.getfield 173, 3) := by decide +kernel
theorem dX10_acceptHello_52 : decode cX10_acceptHello 52 = .ok (.invokestatic 286, 3) := by decide +kernel
theorem dX10_acceptHello_55 : decode cX10_acceptHello 55 = .ok (.invokestatic 286, 3) := by decide +kernel
theorem dX10_acceptHello_58 : decode cX10_acceptHello 58 = .ok (.istore_n 3, 1) := by decide +kernel
theorem dX10_acceptHello_59 : decode cX10_acceptHello 59 = .ok (.aload_n 1, 1) := by decide +kernel
theorem dX10_acceptHello_60 : decode cX10_acceptHello 60 = .ok (.aload_n 2, 1) := by decide +kernel
theorem dX10_acceptHello_61 : decode cX10_acceptHello 61 = .ok (.getfield 295, 3) := by decide +kernel
theorem dX10_acceptHello_64 : decode cX10_acceptHello 64 = .ok (.iload_n 3, 1) := by decide +kernel
theorem dX10_acceptHello_65 : decode cX10_acceptHello 65 = .ok (.aload_n 2, 1) := by decide +kernel
theorem dX10_acceptHello_66 : decode cX10_acceptHello 66 = .ok (.getfield 146, 3) := by decide +kernel
theorem dX10_acceptHello_69 : decode cX10_acceptHello 69 = .ok (.invokestatic 420, 3) := by decide +kernel
theorem dX10_acceptHello_72 : decode cX10_acceptHello 72 = .ok (.putfield 242, 3) := by decide +kernel
theorem dX10_acceptHello_75 : decode cX10_acceptHello 75 = .ok (.aload_n 0, 1) := by decide +kernel
theorem dX10_acceptHello_76 : decode cX10_acceptHello 76 = .ok (.aload_n 1, 1) := by decide +kernel
theorem dX10_acceptHello_77 : decode cX10_acceptHello 77 = .ok (.iconst 2, 1) := by decide +kernel
theorem dX10_acceptHello_78 : decode cX10_acceptHello 78 = .ok (.invokevirtual 310, 3) := by decide +kernel
theorem dX10_acceptHello_81 : decode cX10_acceptHello 81 = .ok (.aload_n 1, 1) := by decide +kernel
theorem dX10_acceptHello_82 : decode cX10_acceptHello 82 = .ok (.invokevirtual 424, 3) := by decide +kernel
theorem dX10_acceptHello_85 : decode cX10_acceptHello 85 = .ok (.aload_n 0, 1) := by decide +kernel
theorem dX10_acceptHello_86 : decode cX10_acceptHello 86 = .ok (.aload_n 1, 1) := by decide +kernel
theorem dX10_acceptHello_87 : decode cX10_acceptHello 87 = .ok (.iconst 1, 1) := by decide +kernel
theorem dX10_acceptHello_88 : decode cX10_acceptHello 88 = .ok (.aload_n 1, 1) := by decide +kernel
theorem dX10_acceptHello_89 : decode cX10_acceptHello 89 = .ok (.getfield 241, 3) := by decide +kernel
theorem dX10_acceptHello_92 : decode cX10_acceptHello 92 = .ok (.iload_n 3, 1) := by decide +kernel
theorem dX10_acceptHello_93 : decode cX10_acceptHello 93 = .ok (.iconst 0, 1) := by decide +kernel
theorem dX10_acceptHello_94 : decode cX10_acceptHello 94 = .ok (.invokevirtual 149, 3) := by decide +kernel
theorem dX10_acceptHello_97 : decode cX10_acceptHello 97 = .ok (.pop, 1) := by decide +kernel
theorem dX10_acceptHello_98 : decode cX10_acceptHello 98 = .ok (.return_, 1) := by decide +kernel
theorem dX10_acceptReply_0 : decode cX10_acceptReply 0 = .ok (.aload_n 1, 1) := by decide +kernel
theorem dX10_acceptReply_1 : decode cX10_acceptReply 1 = .ok (.aload_n 1, 1) := by decide +kernel
theorem dX10_acceptReply_2 : decode cX10_acceptReply 2 = .ok (.getfield 304, 3) := by decide +kernel
theorem dX10_acceptReply_5 : decode cX10_acceptReply 5 = .ok (.aload_n 2, 1) := by decide +kernel
theorem dX10_acceptReply_6 : decode cX10_acceptReply 6 = .ok (.getfield 295, 3) := by decide +kernel
theorem dX10_acceptReply_9 : decode cX10_acceptReply 9 = .ok (.aload_n 1, 1) := by decide +kernel
theorem dX10_acceptReply_10 : decode cX10_acceptReply 10 = .ok (.getfield 241, 3) := by decide +kernel
theorem dX10_acceptReply_13 : decode cX10_acceptReply 13 = .ok (.invokestatic 420, 3) := by decide +kernel
theorem dX10_acceptReply_16 : decode cX10_acceptReply 16 = .ok (.putfield 242, 3) := by decide +kernel
theorem dX10_acceptReply_19 : decode cX10_acceptReply 19 = .ok (.aload_n 0, 1) := by decide +kernel
theorem dX10_acceptReply_20 : decode cX10_acceptReply 20 = .ok (.aload_n 1, 1) := by decide +kernel
theorem dX10_acceptReply_21 : decode cX10_acceptReply 21 = .ok (.iconst 3, 1) := by decide +kernel
theorem dX10_acceptReply_22 : decode cX10_acceptReply 22 = .ok (.invokevirtual 310, 3) := by decide +kernel
theorem dX10_acceptReply_25 : decode cX10_acceptReply 25 = .ok (.aload_n 1, 1) := by decide +kernel
theorem dX10_acceptReply_26 : decode cX10_acceptReply 26 = .ok (.invokevirtual 424, 3) := by decide +kernel
theorem dX10_acceptReply_29 : decode cX10_acceptReply 29 = .ok (.aload_n 0, 1) := by decide +kernel
theorem dX10_acceptReply_30 : decode cX10_acceptReply 30 = .ok (.aload_n 1, 1) := by decide +kernel
theorem dX10_acceptReply_31 : decode cX10_acceptReply 31 = .ok (.iconst 3, 1) := by decide +kernel
theorem dX10_acceptReply_32 : decode cX10_acceptReply 32 = .ok (.iconst 0, 1) := by decide +kernel
theorem dX10_acceptReply_33 : decode cX10_acceptReply 33 = .ok (.iconst 0, 1) := by decide +kernel
theorem dX10_acceptReply_34 : decode cX10_acceptReply 34 = .ok (.invokevirtual 369, 3) := by decide +kernel
theorem dX10_acceptReply_37 : decode cX10_acceptReply 37 = .ok (.pop, 1) := by decide +kernel
theorem dX10_acceptReply_38 : decode cX10_acceptReply 38 = .ok (.aload_n 0, 1) := by decide +kernel
theorem dX10_acceptReply_39 : decode cX10_acceptReply 39 = .ok (.aload_n 1, 1) := by decide +kernel
theorem dX10_acceptReply_40 : decode cX10_acceptReply 40 = .ok (.invokevirtual 327, 3) := by decide +kernel
theorem dX10_acceptReply_43 : decode cX10_acceptReply 43 = .ok (.return_, 1) := by decide +kernel
theorem dX10_acceptProtected_0 : decode cX10_acceptProtected 0 = .ok (.aload_n 1, 1) := by decide +kernel
theorem dX10_acceptProtected_1 : decode cX10_acceptProtected 1 = .ok (.aload_n 2, 1) := by decide +kernel
theorem dX10_acceptProtected_2 : decode cX10_acceptProtected 2 = .ok (.getfield 289, 3) := by decide +kernel
theorem dX10_acceptProtected_5 : decode cX10_acceptProtected 5 = .ok (.aload_n 2, 1) := by decide +kernel
theorem dX10_acceptProtected_6 : decode cX10_acceptProtected 6 = .ok (.getfield 292, 3) := by decide +kernel
theorem dX10_acceptProtected_9 : decode cX10_acceptProtected 9 = .ok (.invokevirtual 427, 3) := by decide +kernel
theorem dX10_acceptProtected_12 : decode cX10_acceptProtected 12 = .ok (.aload_n 1, 1) := by decide +kernel
theorem dX10_acceptProtected_13 : decode cX10_acceptProtected 13 = .ok (.getfield 52, 3) := by decide +kernel
theorem dX10_acceptProtected_16 : decode cX10_acceptProtected 16 = .ok (.iconst 2, 1) := by decide +kernel
theorem dX10_acceptProtected_17 : decode cX10_acceptProtected 17 = .ok (.if_icmp .ne 14, 3) := by decide +kernel
theorem dX10_acceptProtected_20 : decode cX10_acceptProtected 20 = .ok (.aload_n 0, 1) := by decide +kernel
theorem dX10_acceptProtected_21 : decode cX10_acceptProtected 21 = .ok (.aload_n 1, 1) := by decide +kernel
theorem dX10_acceptProtected_22 : decode cX10_acceptProtected 22 = .ok (.iconst 3, 1) := by decide +kernel
theorem dX10_acceptProtected_23 : decode cX10_acceptProtected 23 = .ok (.invokevirtual 310, 3) := by decide +kernel
theorem dX10_acceptProtected_26 : decode cX10_acceptProtected 26 = .ok (.aload_n 0, 1) := by decide +kernel
theorem dX10_acceptProtected_27 : decode cX10_acceptProtected 27 = .ok (.aload_n 1, 1) := by decide +kernel
theorem dX10_acceptProtected_28 : decode cX10_acceptProtected 28 = .ok (.invokevirtual 430, 3) := by decide +kernel
theorem dX10_acceptProtected_31 : decode cX10_acceptProtected 31 = .ok (.aload_n 1, 1) := by decide +kernel
theorem dX10_acceptProtected_32 : decode cX10_acceptProtected 32 = .ok (.getfield 221, 3) := by decide +kernel
theorem dX10_acceptProtected_35 : decode cX10_acceptProtected 35 = .ok (.aload_n 2, 1) := by decide +kernel
theorem dX10_acceptProtected_36 : decode cX10_acceptProtected 36 = .ok (.getfield 298, 3) := by decide +kernel
theorem dX10_acceptProtected_39 : decode cX10_acceptProtected 39 = .ok (.invokevirtual 433, 3) := by decide +kernel
theorem dX10_acceptProtected_42 : decode cX10_acceptProtected 42 = .ok (.aload_n 2, 1) := by decide +kernel
theorem dX10_acceptProtected_43 : decode cX10_acceptProtected 43 = .ok (.getfield 137, 3) := by decide +kernel
theorem dX10_acceptProtected_46 : decode cX10_acceptProtected 46 = .ok (.bipush 6, 2) := by decide +kernel
theorem dX10_acceptProtected_48 : decode cX10_acceptProtected 48 = .ok (.if_icmp .ne 14, 3) := by decide +kernel
theorem dX10_acceptProtected_51 : decode cX10_acceptProtected 51 = .ok (.aload_n 1, 1) := by decide +kernel
theorem dX10_acceptProtected_52 : decode cX10_acceptProtected 52 = .ok (.aload_n 2, 1) := by decide +kernel
theorem dX10_acceptProtected_53 : decode cX10_acceptProtected 53 = .ok (.getfield 295, 3) := by decide +kernel
theorem dX10_acceptProtected_56 : decode cX10_acceptProtected 56 = .ok (.putfield 79, 3) := by decide +kernel
theorem dX10_acceptProtected_59 : decode cX10_acceptProtected 59 = .ok (.goto 48, 3) := by decide +kernel
theorem dX10_acceptProtected_62 : decode cX10_acceptProtected 62 = .ok (.aload_n 2, 1) := by decide +kernel
theorem dX10_acceptProtected_63 : decode cX10_acceptProtected 63 = .ok (.invokevirtual 405, 3) := by decide +kernel
theorem dX10_acceptProtected_66 : decode cX10_acceptProtected 66 = .ok (.ifCond .eq 41, 3) := by decide +kernel
theorem dX10_acceptProtected_69 : decode cX10_acceptProtected 69 = .ok (.aload_n 1, 1) := by decide +kernel
theorem dX10_acceptProtected_70 : decode cX10_acceptProtected 70 = .ok (.getfield 212, 3) := by decide +kernel
theorem dX10_acceptProtected_73 : decode cX10_acceptProtected 73 = .ok (.aload_n 2, 1) := by decide +kernel
theorem dX10_acceptProtected_74 : decode cX10_acceptProtected 74 = .ok (.getfield 295, 3) := by decide +kernel
theorem dX10_acceptProtected_77 : decode cX10_acceptProtected 77 = .ok (.aload_n 2, 1) := by decide +kernel
theorem dX10_acceptProtected_78 : decode cX10_acceptProtected 78 = .ok (.getfield 170, 3) := by decide +kernel
theorem dX10_acceptProtected_81 : decode cX10_acceptProtected 81 = .ok (.aload_n 2, 1) := by decide +kernel
theorem dX10_acceptProtected_82 : decode cX10_acceptProtected 82 = .ok (.getfield 137, 3) := by decide +kernel
theorem dX10_acceptProtected_85 : decode cX10_acceptProtected 85 = .ok (.bipush 7, 2) := by decide +kernel
theorem dX10_acceptProtected_87 : decode cX10_acceptProtected 87 = .ok (.if_icmp .ne 7, 3) := by decide +kernel
theorem dX10_acceptProtected_90 : decode cX10_acceptProtected 90 = .ok (.iconst 1, 1) := by decide +kernel
theorem dX10_acceptProtected_91 : decode cX10_acceptProtected 91 = .ok (.goto 4, 3) := by decide +kernel
theorem dX10_acceptProtected_94 : decode cX10_acceptProtected 94 = .ok (.iconst 0, 1) := by decide +kernel
theorem dX10_acceptProtected_95 : decode cX10_acceptProtected 95 = .ok (.invokevirtual 436, 3) := by decide +kernel
theorem dX10_acceptProtected_98 : decode cX10_acceptProtected 98 = .ok (.aload_n 0, 1) := by decide +kernel
theorem dX10_acceptProtected_99 : decode cX10_acceptProtected 99 = .ok (.aload_n 1, 1) := by decide +kernel
theorem dX10_acceptProtected_100 : decode cX10_acceptProtected 100 = .ok (.iconst 5, 1) := by decide +kernel
theorem dX10_acceptProtected_101 : decode cX10_acceptProtected 101 = .ok (.iconst 0, 1) := by decide +kernel
theorem dX10_acceptProtected_102 : decode cX10_acceptProtected 102 = .ok (.iconst 0, 1) := by decide +kernel
theorem dX10_acceptProtected_103 : decode cX10_acceptProtected 103 = .ok (.invokevirtual 369, 3) := by decide +kernel
theorem dX10_acceptProtected_106 : decode cX10_acceptProtected 106 = .ok (.pop, 1) := by decide +kernel
theorem dX10_acceptProtected_107 : decode cX10_acceptProtected 107 = .ok (.aload_n 0, 1) := by decide +kernel
theorem dX10_acceptProtected_108 : decode cX10_acceptProtected 108 = .ok (.aload_n 1, 1) := by decide +kernel
theorem dX10_acceptProtected_109 : decode cX10_acceptProtected 109 = .ok (.invokevirtual 327, 3) := by decide +kernel
theorem dX10_acceptProtected_112 : decode cX10_acceptProtected 112 = .ok (.aload_n 1, 1) := by decide +kernel
theorem dX10_acceptProtected_113 : decode cX10_acceptProtected 113 = .ok (.getfield 52, 3) := by decide +kernel
theorem dX10_acceptProtected_116 : decode cX10_acceptProtected 116 = .ok (.iconst 3, 1) := by decide +kernel
theorem dX10_acceptProtected_117 : decode cX10_acceptProtected 117 = .ok (.if_icmp .ne 16, 3) := by decide +kernel
theorem dX10_acceptProtected_120 : decode cX10_acceptProtected 120 = .ok (.aload_n 1, 1) := by decide +kernel
theorem dX10_acceptProtected_121 : decode cX10_acceptProtected 121 = .ok (.invokevirtual 440, 3) := by decide +kernel
theorem dX10_acceptProtected_124 : decode cX10_acceptProtected 124 = .ok (.ifCond .eq 9, 3) := by decide +kernel
theorem dX10_acceptProtected_127 : decode cX10_acceptProtected 127 = .ok (.aload_n 0, 1) := by decide +kernel
theorem dX10_acceptProtected_128 : decode cX10_acceptProtected 128 = .ok (.aload_n 1, 1) := by decide +kernel
theorem dX10_acceptProtected_129 : decode cX10_acceptProtected 129 = .ok (.iconst 4, 1) := by decide +kernel
theorem dX10_acceptProtected_130 : decode cX10_acceptProtected 130 = .ok (.invokevirtual 310, 3) := by decide +kernel
theorem dX10_acceptProtected_133 : decode cX10_acceptProtected 133 = .ok (.return_, 1) := by decide +kernel
theorem dX10_issueTicket_0 : decode cX10_issueTicket 0 = .ok (.aload_n 0, 1) := by decide +kernel
theorem dX10_issueTicket_1 : decode cX10_issueTicket 1 = .ok (.getfield 10, 3) := by decide +kernel
theorem dX10_issueTicket_4 : decode cX10_issueTicket 4 = .ok (.getfield 186, 3) := by decide +kernel
theorem dX10_issueTicket_7 : decode cX10_issueTicket 7 = .ok (.getfield 190, 3) := by decide +kernel
theorem dX10_issueTicket_10 : decode cX10_issueTicket 10 = .ok (.bipush 16, 2) := by decide +kernel
theorem dX10_issueTicket_12 : decode cX10_issueTicket 12 = .ok (.if_icmp .ge 31, 3) := by decide +kernel
theorem dX10_issueTicket_15 : decode cX10_issueTicket 15 = .ok (.aload_n 0, 1) := by decide +kernel
theorem dX10_issueTicket_16 : decode cX10_issueTicket 16 = .ok (.getfield 10, 3) := by decide +kernel
theorem dX10_issueTicket_19 : decode cX10_issueTicket 19 = .ok (.getfield 186, 3) := by decide +kernel
theorem dX10_issueTicket_22 : decode cX10_issueTicket 22 = .ok (.aload_n 0, 1) := by decide +kernel
theorem dX10_issueTicket_23 : decode cX10_issueTicket 23 = .ok (.getfield 10, 3) := by decide +kernel
theorem dX10_issueTicket_26 : decode cX10_issueTicket 26 = .ok (.getfield 173, 3) := by decide +kernel
theorem dX10_issueTicket_29 : decode cX10_issueTicket 29 = .ok (.invokevirtual 443, 3) := by decide +kernel
theorem dX10_issueTicket_32 : decode cX10_issueTicket 32 = .ok (.istore_n 2, 1) := by decide +kernel
theorem dX10_issueTicket_33 : decode cX10_issueTicket 33 = .ok (.aload_n 0, 1) := by decide +kernel
theorem dX10_issueTicket_34 : decode cX10_issueTicket 34 = .ok (.aload_n 1, 1) := by decide +kernel
theorem dX10_issueTicket_35 : decode cX10_issueTicket 35 = .ok (.bipush 6, 2) := by decide +kernel
theorem dX10_issueTicket_37 : decode cX10_issueTicket 37 = .ok (.iload_n 2, 1) := by decide +kernel
theorem dX10_issueTicket_38 : decode cX10_issueTicket 38 = .ok (.iconst 0, 1) := by decide +kernel
theorem dX10_issueTicket_39 : decode cX10_issueTicket 39 = .ok (.invokevirtual 369, 3) := by decide +kernel
theorem dX10_issueTicket_42 : decode cX10_issueTicket 42 = .ok (.pop, 1) := by decide +kernel
theorem dX10_issueTicket_43 : decode cX10_issueTicket 43 = .ok (.return_, 1) := by decide +kernel
theorem dX11_init_0 : decode cX11_init 0 = .ok (.aload_n 0, 1) := by decide +kernel
theorem dX11_init_1 : decode cX11_init 1 = .ok (.invokespecial 1, 3) := by decide +kernel
theorem dX11_init_4 : decode cX11_init 4 = .ok (.aload_n 0, 1) := by decide +kernel
theorem dX11_init_5 : decode cX11_init 5 = .ok (.bipush 6, 2) := by decide +kernel
theorem dX11_init_7 : decode cX11_init 7 = .ok (.putfield 7, 3) := by decide +kernel
theorem dX11_init_10 : decode cX11_init 10 = .ok (.aload_n 0, 1) := by decide +kernel
theorem dX11_init_11 : decode cX11_init 11 = .ok (.iconst 3, 1) := by decide +kernel
theorem dX11_init_12 : decode cX11_init 12 = .ok (.putfield 13, 3) := by decide +kernel
theorem dX11_init_15 : decode cX11_init 15 = .ok (.aload_n 0, 1) := by decide +kernel
theorem dX11_init_16 : decode cX11_init 16 = .ok (.bipush 20, 2) := by decide +kernel
theorem dX11_init_18 : decode cX11_init 18 = .ok (.putfield 16, 3) := by decide +kernel
theorem dX11_init_21 : decode cX11_init 21 = .ok (.aload_n 0, 1) := by decide +kernel
theorem dX11_init_22 : decode cX11_init 22 = .ok (.iconst 2, 1) := by decide +kernel
theorem dX11_init_23 : decode cX11_init 23 = .ok (.newarray .int, 2) := by decide +kernel
theorem dX11_init_25 : decode cX11_init 25 = .ok (.putfield 19, 3) := by decide +kernel
theorem dX11_init_28 : decode cX11_init 28 = .ok (.aload_n 0, 1) := by decide +kernel
theorem dX11_init_29 : decode cX11_init 29 = .ok (.iconst 2, 1) := by decide +kernel
theorem dX11_init_30 : decode cX11_init 30 = .ok (.newarray .int, 2) := by decide +kernel
theorem dX11_init_32 : decode cX11_init 32 = .ok (.putfield 23, 3) := by decide +kernel
theorem dX11_init_35 : decode cX11_init 35 = .ok (.aload_n 0, 1) := by decide +kernel
theorem dX11_init_36 : decode cX11_init 36 = .ok (.iconst 2, 1) := by decide +kernel
theorem dX11_init_37 : decode cX11_init 37 = .ok (.newarray .int, 2) := by decide +kernel
theorem dX11_init_39 : decode cX11_init 39 = .ok (.putfield 26, 3) := by decide +kernel
theorem dX11_init_42 : decode cX11_init 42 = .ok (.aload_n 0, 1) := by decide +kernel
theorem dX11_init_43 : decode cX11_init 43 = .ok (.iconst 2, 1) := by decide +kernel
theorem dX11_init_44 : decode cX11_init 44 = .ok (.newarray .int, 2) := by decide +kernel
theorem dX11_init_46 : decode cX11_init 46 = .ok (.putfield 29, 3) := by decide +kernel
theorem dX11_init_49 : decode cX11_init 49 = .ok (.aload_n 0, 1) := by decide +kernel
theorem dX11_init_50 : decode cX11_init 50 = .ok (.iconst 2, 1) := by decide +kernel
theorem dX11_init_51 : decode cX11_init 51 = .ok (.newarray .int, 2) := by decide +kernel
theorem dX11_init_53 : decode cX11_init 53 = .ok (.putfield 32, 3) := by decide +kernel
theorem dX11_init_56 : decode cX11_init 56 = .ok (.aload_n 0, 1) := by decide +kernel
theorem dX11_init_57 : decode cX11_init 57 = .ok (.iconst 2, 1) := by decide +kernel
theorem dX11_init_58 : decode cX11_init 58 = .ok (.newarray .int, 2) := by decide +kernel
theorem dX11_init_60 : decode cX11_init 60 = .ok (.putfield 35, 3) := by decide +kernel
theorem dX11_init_63 : decode cX11_init 63 = .ok (.aload_n 0, 1) := by decide +kernel
theorem dX11_init_64 : decode cX11_init 64 = .ok (.iconst 2, 1) := by decide +kernel
theorem dX11_init_65 : decode cX11_init 65 = .ok (.newarray .int, 2) := by decide +kernel
theorem dX11_init_67 : decode cX11_init 67 = .ok (.putfield 38, 3) := by decide +kernel
theorem dX11_init_70 : decode cX11_init 70 = .ok (.aload_n 0, 1) := by decide +kernel
theorem dX11_init_71 : decode cX11_init 71 = .ok (.iconst 2, 1) := by decide +kernel
theorem dX11_init_72 : decode cX11_init 72 = .ok (.newarray .int, 2) := by decide +kernel
theorem dX11_init_74 : decode cX11_init 74 = .ok (.dup, 1) := by decide +kernel
theorem dX11_init_75 : decode cX11_init 75 = .ok (.iconst 0, 1) := by decide +kernel
theorem dX11_init_76 : decode cX11_init 76 = .ok (.iconst (-1), 1) := by decide +kernel
theorem dX11_init_77 : decode cX11_init 77 = .ok (.iastore, 1) := by decide +kernel
theorem dX11_init_78 : decode cX11_init 78 = .ok (.dup, 1) := by decide +kernel
theorem dX11_init_79 : decode cX11_init 79 = .ok (.iconst 1, 1) := by decide +kernel
theorem dX11_init_80 : decode cX11_init 80 = .ok (.iconst (-1), 1) := by decide +kernel
theorem dX11_init_81 : decode cX11_init 81 = .ok (.iastore, 1) := by decide +kernel
theorem dX11_init_82 : decode cX11_init 82 = .ok (.putfield 41, 3) := by decide +kernel
theorem dX11_init_85 : decode cX11_init 85 = .ok (.aload_n 0, 1) := by decide +kernel
theorem dX11_init_86 : decode cX11_init 86 = .ok (.iconst 2, 1) := by decide +kernel
theorem dX11_init_87 : decode cX11_init 87 = .ok (.newarray .int, 2) := by decide +kernel
theorem dX11_init_89 : decode cX11_init 89 = .ok (.putfield 44, 3) := by decide +kernel
theorem dX11_init_92 : decode cX11_init 92 = .ok (.aload_n 0, 1) := by decide +kernel
theorem dX11_init_93 : decode cX11_init 93 = .ok (.iconst 2, 1) := by decide +kernel
theorem dX11_init_94 : decode cX11_init 94 = .ok (.newarray .int, 2) := by decide +kernel
theorem dX11_init_96 : decode cX11_init 96 = .ok (.dup, 1) := by decide +kernel
theorem dX11_init_97 : decode cX11_init 97 = .ok (.iconst 0, 1) := by decide +kernel
theorem dX11_init_98 : decode cX11_init 98 = .ok (.iconst (-1), 1) := by decide +kernel
theorem dX11_init_99 : decode cX11_init 99 = .ok (.iastore, 1) := by decide +kernel
theorem dX11_init_100 : decode cX11_init 100 = .ok (.dup, 1) := by decide +kernel
theorem dX11_init_101 : decode cX11_init 101 = .ok (.iconst 1, 1) := by decide +kernel
theorem dX11_init_102 : decode cX11_init 102 = .ok (.iconst (-1), 1) := by decide +kernel
theorem dX11_init_103 : decode cX11_init 103 = .ok (.iastore, 1) := by decide +kernel
theorem dX11_init_104 : decode cX11_init 104 = .ok (.putfield 47, 3) := by decide +kernel
theorem dX11_init_107 : decode cX11_init 107 = .ok (.aload_n 0, 1) := by decide +kernel
theorem dX11_init_108 : decode cX11_init 108 = .ok (.iconst 2, 1) := by decide +kernel
theorem dX11_init_109 : decode cX11_init 109 = .ok (.newarray .int, 2) := by decide +kernel
theorem dX11_init_111 : decode cX11_init 111 = .ok (.putfield 50, 3) := by decide +kernel
theorem dX11_init_114 : decode cX11_init 114 = .ok (.aload_n 0, 1) := by decide +kernel
theorem dX11_init_115 : decode cX11_init 115 = .ok (.iconst 2, 1) := by decide +kernel
theorem dX11_init_116 : decode cX11_init 116 = .ok (.newarray .int, 2) := by decide +kernel
theorem dX11_init_118 : decode cX11_init 118 = .ok (.putfield 53, 3) := by decide +kernel
theorem dX11_init_121 : decode cX11_init 121 = .ok (.aload_n 0, 1) := by decide +kernel
theorem dX11_init_122 : decode cX11_init 122 = .ok (.iconst 2, 1) := by decide +kernel
theorem dX11_init_123 : decode cX11_init 123 = .ok (.newarray .int, 2) := by decide +kernel
theorem dX11_init_125 : decode cX11_init 125 = .ok (.putfield 56, 3) := by decide +kernel
theorem dX11_init_128 : decode cX11_init 128 = .ok (.aload_n 0, 1) := by decide +kernel
theorem dX11_init_129 : decode cX11_init 129 = .ok (.iconst 2, 1) := by decide +kernel
theorem dX11_init_130 : decode cX11_init 130 = .ok (.newarray .int, 2) := by decide +kernel
theorem dX11_init_132 : decode cX11_init 132 = .ok (.putfield 59, 3) := by decide +kernel
theorem dX11_init_135 : decode cX11_init 135 = .ok (.aload_n 0, 1) := by decide +kernel
theorem dX11_init_136 : decode cX11_init 136 = .ok (.iconst 2, 1) := by decide +kernel
theorem dX11_init_137 : decode cX11_init 137 = .ok (.newarray .int, 2) := by decide +kernel
theorem dX11_init_139 : decode cX11_init 139 = .ok (.dup, 1) := by decide +kernel
theorem dX11_init_140 : decode cX11_init 140 = .ok (.iconst 0, 1) := by decide +kernel
theorem dX11_init_141 : decode cX11_init 141 = .ok (.iconst (-1), 1) := by decide +kernel
theorem dX11_init_142 : decode cX11_init 142 = .ok (.iastore, 1) := by decide +kernel
theorem dX11_init_143 : decode cX11_init 143 = .ok (.dup, 1) := by decide +kernel
theorem dX11_init_144 : decode cX11_init 144 = .ok (.iconst 1, 1) := by decide +kernel
theorem dX11_init_145 : decode cX11_init 145 = .ok (.iconst (-1), 1) := by decide +kernel
theorem dX11_init_146 : decode cX11_init 146 = .ok (.iastore, 1) := by decide +kernel
theorem dX11_init_147 : decode cX11_init 147 = .ok (.putfield 62, 3) := by decide +kernel
theorem dX11_init_150 : decode cX11_init 150 = .ok (.aload_n 0, 1) := by decide +kernel
theorem dX11_init_151 : decode cX11_init 151 = .ok (.iconst 2, 1) := by decide +kernel
theorem dX11_init_152 : decode cX11_init 152 = .ok (.newarray .int, 2) := by decide +kernel
theorem dX11_init_154 : decode cX11_init 154 = .ok (.dup, 1) := by decide +kernel
theorem dX11_init_155 : decode cX11_init 155 = .ok (.iconst 0, 1) := by decide +kernel
theorem dX11_init_156 : decode cX11_init 156 = .ok (.iconst (-1), 1) := by decide +kernel
theorem dX11_init_157 : decode cX11_init 157 = .ok (.iastore, 1) := by decide +kernel
theorem dX11_init_158 : decode cX11_init 158 = .ok (.dup, 1) := by decide +kernel
theorem dX11_init_159 : decode cX11_init 159 = .ok (.iconst 1, 1) := by decide +kernel
theorem dX11_init_160 : decode cX11_init 160 = .ok (.iconst (-1), 1) := by decide +kernel
theorem dX11_init_161 : decode cX11_init 161 = .ok (.iastore, 1) := by decide +kernel
theorem dX11_init_162 : decode cX11_init 162 = .ok (.putfield 65, 3) := by decide +kernel
theorem dX11_init_165 : decode cX11_init 165 = .ok (.aload_n 0, 1) := by decide +kernel
theorem dX11_init_166 : decode cX11_init 166 = .ok (.iconst 2, 1) := by decide +kernel
theorem dX11_init_167 : decode cX11_init 167 = .ok (.newarray .int, 2) := by decide +kernel
theorem dX11_init_169 : decode cX11_init 169 = .ok (.putfield 68, 3) := by decide +kernel
theorem dX11_init_172 : decode cX11_init 172 = .ok (.aload_n 0, 1) := by decide +kernel
theorem dX11_init_173 : decode cX11_init 173 = .ok (.iconst 2, 1) := by decide +kernel
theorem dX11_init_174 : decode cX11_init 174 = .ok (.newarray .int, 2) := by decide +kernel
theorem dX11_init_176 : decode cX11_init 176 = .ok (.putfield 71, 3) := by decide +kernel
theorem dX11_init_179 : decode cX11_init 179 = .ok (.aload_n 0, 1) := by decide +kernel
theorem dX11_init_180 : decode cX11_init 180 = .ok (.sipush 2400, 3) := by decide +kernel
theorem dX11_init_183 : decode cX11_init 183 = .ok (.newarray .int, 2) := by decide +kernel
theorem dX11_init_185 : decode cX11_init 185 = .ok (.putfield 74, 3) := by decide +kernel
theorem dX11_init_188 : decode cX11_init 188 = .ok (.aload_n 0, 1) := by decide +kernel
theorem dX11_init_189 : decode cX11_init 189 = .ok (.bipush 32, 2) := by decide +kernel
theorem dX11_init_191 : decode cX11_init 191 = .ok (.newarray .int, 2) := by decide +kernel
theorem dX11_init_193 : decode cX11_init 193 = .ok (.putfield 77, 3) := by decide +kernel
theorem dX11_init_196 : decode cX11_init 196 = .ok (.aload_n 0, 1) := by decide +kernel
theorem dX11_init_197 : decode cX11_init 197 = .ok (.bipush 32, 2) := by decide +kernel
theorem dX11_init_199 : decode cX11_init 199 = .ok (.newarray .int, 2) := by decide +kernel
theorem dX11_init_201 : decode cX11_init 201 = .ok (.putfield 80, 3) := by decide +kernel
theorem dX11_init_204 : decode cX11_init 204 = .ok (.aload_n 0, 1) := by decide +kernel
theorem dX11_init_205 : decode cX11_init 205 = .ok (.bipush 32, 2) := by decide +kernel
theorem dX11_init_207 : decode cX11_init 207 = .ok (.newarray .int, 2) := by decide +kernel
theorem dX11_init_209 : decode cX11_init 209 = .ok (.putfield 83, 3) := by decide +kernel
theorem dX11_init_212 : decode cX11_init 212 = .ok (.aload_n 0, 1) := by decide +kernel
theorem dX11_init_213 : decode cX11_init 213 = .ok (.bipush 32, 2) := by decide +kernel
theorem dX11_init_215 : decode cX11_init 215 = .ok (.newarray .int, 2) := by decide +kernel
theorem dX11_init_217 : decode cX11_init 217 = .ok (.putfield 86, 3) := by decide +kernel
theorem dX11_init_220 : decode cX11_init 220 = .ok (.aload_n 0, 1) := by decide +kernel
theorem dX11_init_221 : decode cX11_init 221 = .ok (.bipush 8, 2) := by decide +kernel
theorem dX11_init_223 : decode cX11_init 223 = .ok (.newarray .int, 2) := by decide +kernel
theorem dX11_init_225 : decode cX11_init 225 = .ok (.putfield 89, 3) := by decide +kernel
theorem dX11_init_228 : decode cX11_init 228 = .ok (.aload_n 0, 1) := by decide +kernel
theorem dX11_init_229 : decode cX11_init 229 = .ok (.bipush 8, 2) := by decide +kernel
theorem dX11_init_231 : decode cX11_init 231 = .ok (.newarray .int, 2) := by decide +kernel
theorem dX11_init_233 : decode cX11_init 233 = .ok (.putfield 92, 3) := by decide +kernel
theorem dX11_init_236 : decode cX11_init 236 = .ok (.aload_n 0, 1) := by decide +kernel
theorem dX11_init_237 : decode cX11_init 237 = .ok (.bipush 8, 2) := by decide +kernel
theorem dX11_init_239 : decode cX11_init 239 = .ok (.newarray .int, 2) := by decide +kernel
theorem dX11_init_241 : decode cX11_init 241 = .ok (.putfield 95, 3) := by decide +kernel
theorem dX11_init_244 : decode cX11_init 244 = .ok (.aload_n 0, 1) := by decide +kernel
theorem dX11_init_245 : decode cX11_init 245 = .ok (.iconst (-1), 1) := by decide +kernel
theorem dX11_init_246 : decode cX11_init 246 = .ok (.putfield 98, 3) := by decide +kernel
theorem dX11_init_249 : decode cX11_init 249 = .ok (.aload_n 0, 1) := by decide +kernel
theorem dX11_init_250 : decode cX11_init 250 = .ok (.iconst (-1), 1) := by decide +kernel
theorem dX11_init_251 : decode cX11_init 251 = .ok (.putfield 101, 3) := by decide +kernel
theorem dX11_init_254 : decode cX11_init 254 = .ok (.aload_n 0, 1) := by decide +kernel
theorem dX11_init_255 : decode cX11_init 255 = .ok (.bipush 16, 2) := by decide +kernel
theorem dX11_init_257 : decode cX11_init 257 = .ok (.newarray .int, 2) := by decide +kernel
theorem dX11_init_259 : decode cX11_init 259 = .ok (.putfield 104, 3) := by decide +kernel
theorem dX11_init_262 : decode cX11_init 262 = .ok (.aload_n 0, 1) := by decide +kernel
theorem dX11_init_263 : decode cX11_init 263 = .ok (.bipush 16, 2) := by decide +kernel
theorem dX11_init_265 : decode cX11_init 265 = .ok (.newarray .int, 2) := by decide +kernel
theorem dX11_init_267 : decode cX11_init 267 = .ok (.putfield 107, 3) := by decide +kernel
theorem dX11_init_270 : decode cX11_init 270 = .ok (.aload_n 0, 1) := by decide +kernel
theorem dX11_init_271 : decode cX11_init 271 = .ok (.bipush 90, 2) := by decide +kernel
theorem dX11_init_273 : decode cX11_init 273 = .ok (.newarray .int, 2) := by decide +kernel
theorem dX11_init_275 : decode cX11_init 275 = .ok (.putfield 110, 3) := by decide +kernel
theorem dX11_init_278 : decode cX11_init 278 = .ok (.aload_n 0, 1) := by decide +kernel
theorem dX11_init_279 : decode cX11_init 279 = .ok (.sipush 216, 3) := by decide +kernel
theorem dX11_init_282 : decode cX11_init 282 = .ok (.newarray .int, 2) := by decide +kernel
theorem dX11_init_284 : decode cX11_init 284 = .ok (.putfield 113, 3) := by decide +kernel
theorem dX11_init_287 : decode cX11_init 287 = .ok (.aload_n 0, 1) := by decide +kernel
theorem dX11_init_288 : decode cX11_init 288 = .ok (.bipush 9, 2) := by decide +kernel
theorem dX11_init_290 : decode cX11_init 290 = .ok (.newarray .int, 2) := by decide +kernel
theorem dX11_init_292 : decode cX11_init 292 = .ok (.putfield 116, 3) := by decide +kernel
theorem dX11_init_295 : decode cX11_init 295 = .ok (.aload_n 0, 1) := by decide +kernel
theorem dX11_init_296 : decode cX11_init 296 = .ok (.bipush 18, 2) := by decide +kernel
theorem dX11_init_298 : decode cX11_init 298 = .ok (.newarray .int, 2) := by decide +kernel
theorem dX11_init_300 : decode cX11_init 300 = .ok (.putfield 119, 3) := by decide +kernel
theorem dX11_init_303 : decode cX11_init 303 = .ok (.aload_n 0, 1) := by decide +kernel
theorem dX11_init_304 : decode cX11_init 304 = .ok (.bipush 40, 2) := by decide +kernel
theorem dX11_init_306 : decode cX11_init 306 = .ok (.newarray .int, 2) := by decide +kernel
theorem dX11_init_308 : decode cX11_init 308 = .ok (.putfield 122, 3) := by decide +kernel
theorem dX11_init_311 : decode cX11_init 311 = .ok (.aload_n 0, 1) := by decide +kernel
theorem dX11_init_312 : decode cX11_init 312 = .ok (.bipush 20, 2) := by decide +kernel
theorem dX11_init_314 : decode cX11_init 314 = .ok (.newarray .int, 2) := by decide +kernel
theorem dX11_init_316 : decode cX11_init 316 = .ok (.putfield 125, 3) := by decide +kernel
theorem dX11_init_319 : decode cX11_init 319 = .ok (.aload_n 0, 1) := by decide +kernel
theorem dX11_init_320 : decode cX11_init 320 = .ok (.bipush 20, 2) := by decide +kernel
theorem dX11_init_322 : decode cX11_init 322 = .ok (.newarray .int, 2) := by decide +kernel
theorem dX11_init_324 : decode cX11_init 324 = .ok (.putfield 128, 3) := by decide +kernel
theorem dX11_init_327 : decode cX11_init 327 = .ok (.aload_n 0, 1) := by decide +kernel
theorem dX11_init_328 : decode cX11_init 328 = .ok (.bipush 20, 2) := by decide +kernel
theorem dX11_init_330 : decode cX11_init 330 = .ok (.newarray .int, 2) := by decide +kernel
theorem dX11_init_332 : decode cX11_init 332 = .ok (.putfield 131, 3) := by decide +kernel
theorem dX11_init_335 : decode cX11_init 335 = .ok (.aload_n 0, 1) := by decide +kernel
theorem dX11_init_336 : decode cX11_init 336 = .ok (.sipush 3400, 3) := by decide +kernel
theorem dX11_init_339 : decode cX11_init 339 = .ok (.newarray .int, 2) := by decide +kernel
theorem dX11_init_341 : decode cX11_init 341 = .ok (.putfield 134, 3) := by decide +kernel
theorem dX11_init_344 : decode cX11_init 344 = .ok (.return_, 1) := by decide +kernel
theorem dX11_isBetween_0 : decode cX11_isBetween 0 = .ok (.iload_n 0, 1) := by decide +kernel
theorem dX11_isBetween_1 : decode cX11_isBetween 1 = .ok (.iload_n 1, 1) := by decide +kernel
theorem dX11_isBetween_2 : decode cX11_isBetween 2 = .ok (.if_icmp .lt 12, 3) := by decide +kernel
theorem dX11_isBetween_5 : decode cX11_isBetween 5 = .ok (.iload_n 0, 1) := by decide +kernel
theorem dX11_isBetween_6 : decode cX11_isBetween 6 = .ok (.iload_n 2, 1) := by decide +kernel
theorem dX11_isBetween_7 : decode cX11_isBetween 7 = .ok (.if_icmp .gt 7, 3) := by decide +kernel
theorem dX11_isBetween_10 : decode cX11_isBetween 10 = .ok (.iconst 1, 1) := by decide +kernel
theorem dX11_isBetween_11 : decode cX11_isBetween 11 = .ok (.goto 4, 3) := by decide +kernel
theorem dX11_isBetween_14 : decode cX11_isBetween 14 = .ok (.iconst 0, 1) := by decide +kernel
theorem dX11_isBetween_15 : decode cX11_isBetween 15 = .ok (.ireturn, 1) := by decide +kernel
theorem dX11_mix_0 : decode cX11_mix 0 = .ok (.iload_n 0, 1) := by decide +kernel
theorem dX11_mix_1 : decode cX11_mix 1 = .ok (.bipush 31, 2) := by decide +kernel
theorem dX11_mix_3 : decode cX11_mix 3 = .ok (.imul, 1) := by decide +kernel
theorem dX11_mix_4 : decode cX11_mix 4 = .ok (.iload_n 1, 1) := by decide +kernel
theorem dX11_mix_5 : decode cX11_mix 5 = .ok (.iadd, 1) := by decide +kernel
theorem dX11_mix_6 : decode cX11_mix 6 = .ok (.istore_n 2, 1) := by decide +kernel
theorem dX11_mix_7 : decode cX11_mix 7 = .ok (.iload_n 2, 1) := by decide +kernel
theorem dX11_mix_8 : decode cX11_mix 8 = .ok (.iload_n 2, 1) := by decide +kernel
theorem dX11_mix_9 : decode cX11_mix 9 = .ok (.bipush 7, 2) := by decide +kernel
theorem dX11_mix_11 : decode cX11_mix 11 = .ok (.iushr, 1) := by decide +kernel
theorem dX11_mix_12 : decode cX11_mix 12 = .ok (.ixor, 1) := by decide +kernel
theorem dX11_mix_13 : decode cX11_mix 13 = .ok (.ireturn, 1) := by decide +kernel
theorem dX11_configure_0 : decode cX11_configure 0 = .ok (.iload_n 1, 1) := by decide +kernel
theorem dX11_configure_1 : decode cX11_configure 1 = .ok (.iconst 1, 1) := by decide +kernel
theorem dX11_configure_2 : decode cX11_configure 2 = .ok (.bipush 20, 2) := by decide +kernel
theorem dX11_configure_4 : decode cX11_configure 4 = .ok (.invokestatic 137, 3) := by decide +kernel
theorem dX11_configure_7 : decode cX11_configure 7 = .ok (.ifCond .eq 23, 3) := by decide +kernel
theorem dX11_configure_10 : decode cX11_configure 10 = .ok (.iload_n 2, 1) := by decide +kernel
theorem dX11_configure_11 : decode cX11_configure 11 = .ok (.iconst 1, 1) := by decide +kernel
theorem dX11_configure_12 : decode cX11_configure 12 = .ok (.bipush 9, 2) := by decide +kernel
theorem dX11_configure_14 : decode cX11_configure 14 = .ok (.invokestatic 137, 3) := by decide +kernel
theorem dX11_configure_17 : decode cX11_configure 17 = .ok (.ifCond .eq 13, 3) := by decide +kernel
theorem dX11_configure_20 : decode cX11_configure 20 = .ok (.iload_n 3, 1) := by decide +kernel
theorem dX11_configure_21 : decode cX11_configure 21 = .ok (.iconst 0, 1) := by decide +kernel
theorem dX11_configure_22 : decode cX11_configure 22 = .ok (.bipush 50, 2) := by decide +kernel
theorem dX11_configure_24 : decode cX11_configure 24 = .ok (.invokestatic 137, 3) := by decide +kernel
theorem dX11_configure_27 : decode cX11_configure 27 = .ok (.ifCond .ne 6, 3) := by decide +kernel
theorem dX11_configure_30 : decode cX11_configure 30 = .ok (.ldc 141, 2) := by decide +kernel
theorem dX11_configure_32 : decode cX11_configure 32 = .ok (.ireturn, 1) := by decide +kernel
theorem dX11_configure_33 : decode cX11_configure 33 = .ok (.sipush 1000, 3) := by decide +kernel
theorem dX11_configure_36 : decode cX11_configure 36 = .ok (.aload_n 0, 1) := by decide +kernel
theorem dX11_configure_37 : decode cX11_configure 37 = .ok (.getfield 7, 3) := by decide +kernel
theorem dX11_configure_40 : decode cX11_configure 40 = .ok (.imul, 1) := by decide +kernel
theorem dX11_configure_41 : decode cX11_configure 41 = .ok (.bipush 100, 2) := by decide +kernel
theorem dX11_configure_43 : decode cX11_configure 43 = .ok (.aload_n 0, 1) := by decide +kernel
theorem dX11_configure_44 : decode cX11_configure 44 = .ok (.getfield 13, 3) := by decide +kernel
theorem dX11_configure_47 : decode cX11_configure 47 = .ok (.imul, 1) := by decide +kernel
theorem dX11_configure_48 : decode cX11_configure 48 = .ok (.iadd, 1) := by decide +kernel
theorem dX11_configure_49 : decode cX11_configure 49 = .ok (.aload_n 0, 1) := by decide +kernel
theorem dX11_configure_50 : decode cX11_configure 50 = .ok (.getfield 16, 3) := by decide +kernel
theorem dX11_configure_53 : decode cX11_configure 53 = .ok (.iadd, 1) := by decide +kernel
theorem dX11_configure_54 : decode cX11_configure 54 = .ok (.istore 4, 2) := by decide +kernel
theorem dX11_configure_56 : decode cX11_configure 56 = .ok (.aload_n 0, 1) := by decide +kernel
theorem dX11_configure_57 : decode cX11_configure 57 = .ok (.iload_n 1, 1) := by decide +kernel
theorem dX11_configure_58 : decode cX11_configure 58 = .ok (.putfield 7, 3) := by decide +kernel
theorem dX11_configure_61 : decode cX11_configure 61 = .ok (.aload_n 0, 1) := by decide +kernel
theorem dX11_configure_62 : decode cX11_configure 62 = .ok (.iload_n 2, 1) := by decide +kernel
theorem dX11_configure_63 : decode cX11_configure 63 = .ok (.putfield 13, 3) := by decide +kernel
theorem dX11_configure_66 : decode cX11_configure 66 = .ok (.aload_n 0, 1) := by decide +kernel
theorem dX11_configure_67 : decode cX11_configure 67 = .ok (.iload_n 3, 1) := by decide +kernel
theorem dX11_configure_68 : decode cX11_configure 68 = .ok (.putfield 16, 3) := by decide +kernel
theorem dX11_configure_71 : decode cX11_configure 71 = .ok (.iload 4, 2) := by decide +kernel
theorem dX11_configure_73 : decode cX11_configure 73 = .ok (.ireturn, 1) := by decide +kernel
theorem dX11_isEndpoint_0 : decode cX11_isEndpoint 0 = .ok (.iload_n 0, 1) := by decide +kernel
theorem dX11_isEndpoint_1 : decode cX11_isEndpoint 1 = .ok (.ifCond .eq 8, 3) := by decide +kernel
theorem dX11_isEndpoint_4 : decode cX11_isEndpoint 4 = .ok (.iload_n 0, 1) := by decide +kernel
theorem dX11_isEndpoint_5 : decode cX11_isEndpoint 5 = .ok (.iconst 1, 1) := by decide +kernel
theorem dX11_isEndpoint_6 : decode cX11_isEndpoint 6 = .ok (.if_icmp .ne 7, 3) := by decide +kernel
theorem dX11_isEndpoint_9 : decode cX11_isEndpoint 9 = .ok (.iconst 1, 1) := by decide +kernel
theorem dX11_isEndpoint_10 : decode cX11_isEndpoint 10 = .ok (.goto 4, 3) := by decide +kernel
theorem dX11_isEndpoint_13 : decode cX11_isEndpoint 13 = .ok (.iconst 0, 1) := by decide +kernel
theorem dX11_isEndpoint_14 : decode cX11_isEndpoint 14 = .ok (.ireturn, 1) := by decide +kernel
theorem dX11_becomes_0 : decode cX11_becomes 0 = .ok (.aload_n 0, 1) := by decide +kernel
theorem dX11_becomes_1 : decode cX11_becomes 1 = .ok (.getfield 19, 3) := by decide +kernel
theorem dX11_becomes_4 : decode cX11_becomes 4 = .ok (.iload_n 1, 1) := by decide +kernel
theorem dX11_becomes_5 : decode cX11_becomes 5 = .ok (.iaload, 1) := by decide +kernel
theorem dX11_becomes_6 : decode cX11_becomes 6 = .ok (.iload_n 2, 1) := by decide +kernel
theorem dX11_becomes_7 : decode cX11_becomes 7 = .ok (.if_icmp .ne 4, 3) := by decide +kernel
theorem dX11_becomes_10 : decode cX11_becomes 10 = .ok (.return_, 1) := by decide +kernel
theorem dX11_becomes_11 : decode cX11_becomes 11 = .ok (.aload_n 0, 1) := by decide +kernel
theorem dX11_becomes_12 : decode cX11_becomes 12 = .ok (.getfield 19, 3) := by decide +kernel
theorem dX11_becomes_15 : decode cX11_becomes 15 = .ok (.iload_n 1, 1) := by decide +kernel
theorem dX11_becomes_16 : decode cX11_becomes 16 = .ok (.iload_n 2, 1) := by decide +kernel
theorem dX11_becomes_17 : decode cX11_becomes 17 = .ok (.iastore, 1) := by decide +kernel
theorem dX11_becomes_18 : decode cX11_becomes 18 = .ok (.aload_n 0, 1) := by decide +kernel
theorem dX11_becomes_19 : decode cX11_becomes 19 = .ok (.iconst 3, 1) := by decide +kernel
theorem dX11_becomes_20 : decode cX11_becomes 20 = .ok (.iload_n 1, 1) := by decide +kernel
theorem dX11_becomes_21 : decode cX11_becomes 21 = .ok (.iload_n 2, 1) := by decide +kernel
theorem dX11_becomes_22 : decode cX11_becomes 22 = .ok (.invokevirtual 142, 3) := by decide +kernel
theorem dX11_becomes_25 : decode cX11_becomes 25 = .ok (.return_, 1) := by decide +kernel
theorem dX11_clearsWaiting_0 : decode cX11_clearsWaiting 0 = .ok (.iconst 0, 1) := by decide +kernel
theorem dX11_clearsWaiting_1 : decode cX11_clearsWaiting 1 = .ok (.istore_n 2, 1) := by decide +kernel
theorem dX11_clearsWaiting_2 : decode cX11_clearsWaiting 2 = .ok (.iload_n 2, 1) := by decide +kernel
theorem dX11_clearsWaiting_3 : decode cX11_clearsWaiting 3 = .ok (.iconst 4, 1) := by decide +kernel
theorem dX11_clearsWaiting_4 : decode cX11_clearsWaiting 4 = .ok (.if_icmp .ge 20, 3) := by decide +kernel
theorem dX11_clearsWaiting_7 : decode cX11_clearsWaiting 7 = .ok (.aload_n 0, 1) := by decide +kernel
theorem dX11_clearsWaiting_8 : decode cX11_clearsWaiting 8 = .ok (.getfield 89, 3) := by decide +kernel
theorem dX11_clearsWaiting_11 : decode cX11_clearsWaiting 11 = .ok (.iconst 4, 1) := by decide +kernel
theorem dX11_clearsWaiting_12 : decode cX11_clearsWaiting 12 = .ok (.iload_n 1, 1) := by decide +kernel
theorem dX11_clearsWaiting_13 : decode cX11_clearsWaiting 13 = .ok (.imul, 1) := by decide +kernel
theorem dX11_clearsWaiting_14 : decode cX11_clearsWaiting 14 = .ok (.iload_n 2, 1) := by decide +kernel
theorem dX11_clearsWaiting_15 : decode cX11_clearsWaiting 15 = .ok (.iadd, 1) := by decide +kernel
theorem dX11_clearsWaiting_16 : decode cX11_clearsWaiting 16 = .ok (.iconst 0, 1) := by decide +kernel
theorem dX11_clearsWaiting_17 : decode cX11_clearsWaiting 17 = .ok (.iastore, 1) := by decide +kernel
theorem dX11_clearsWaiting_18 : decode cX11_clearsWaiting 18 = .ok (.iinc 2 1, 3) := by decide +kernel
theorem dX11_clearsWaiting_21 : decode cX11_clearsWaiting 21 = .ok (.goto (-19), 3) := by decide +kernel
theorem dX11_clearsWaiting_24 : decode cX11_clearsWaiting 24 = .ok (.return_, 1) := by decide +kernel
theorem dX11_beginsStream_0 : decode cX11_beginsStream 0 = .ok (.aload_n 0, 1) := by decide +kernel
theorem dX11_beginsStream_1 : decode cX11_beginsStream 1 = .ok (.getfield 71, 3) := by decide +kernel
theorem dX11_beginsStream_4 : decode cX11_beginsStream 4 = .ok (.iload_n 1, 1) := by decide +kernel
theorem dX11_beginsStream_5 : decode cX11_beginsStream 5 = .ok (.iconst 0, 1) := by decide +kernel
theorem dX11_beginsStream_6 : decode cX11_beginsStream 6 = .ok (.iastore, 1) := by decide +kernel
theorem dX11_beginsStream_7 : decode cX11_beginsStream 7 = .ok (.aload_n 0, 1) := by decide +kernel
theorem dX11_beginsStream_8 : decode cX11_beginsStream 8 = .ok (.getfield 56, 3) := by decide +kernel
theorem dX11_beginsStream_11 : decode cX11_beginsStream 11 = .ok (.iload_n 1, 1) := by decide +kernel
theorem dX11_beginsStream_12 : decode cX11_beginsStream 12 = .ok (.iconst 0, 1) := by decide +kernel
theorem dX11_beginsStream_13 : decode cX11_beginsStream 13 = .ok (.iastore, 1) := by decide +kernel
theorem dX11_beginsStream_14 : decode cX11_beginsStream 14 = .ok (.aload_n 0, 1) := by decide +kernel
theorem dX11_beginsStream_15 : decode cX11_beginsStream 15 = .ok (.getfield 68, 3) := by decide +kernel
theorem dX11_beginsStream_18 : decode cX11_beginsStream 18 = .ok (.iload_n 1, 1) := by decide +kernel
theorem dX11_beginsStream_19 : decode cX11_beginsStream 19 = .ok (.iconst 0, 1) := by decide +kernel
theorem dX11_beginsStream_20 : decode cX11_beginsStream 20 = .ok (.iastore, 1) := by decide +kernel
theorem dX11_beginsStream_21 : decode cX11_beginsStream 21 = .ok (.aload_n 0, 1) := by decide +kernel
theorem dX11_beginsStream_22 : decode cX11_beginsStream 22 = .ok (.getfield 59, 3) := by decide +kernel
theorem dX11_beginsStream_25 : decode cX11_beginsStream 25 = .ok (.iload_n 1, 1) := by decide +kernel
theorem dX11_beginsStream_26 : decode cX11_beginsStream 26 = .ok (.iconst 0, 1) := by decide +kernel
theorem dX11_beginsStream_27 : decode cX11_beginsStream 27 = .ok (.iastore, 1) := by decide +kernel
theorem dX11_beginsStream_28 : decode cX11_beginsStream 28 = .ok (.aload_n 0, 1) := by decide +kernel
theorem dX11_beginsStream_29 : decode cX11_beginsStream 29 = .ok (.getfield 62, 3) := by decide +kernel
theorem dX11_beginsStream_32 : decode cX11_beginsStream 32 = .ok (.iload_n 1, 1) := by decide +kernel
theorem dX11_beginsStream_33 : decode cX11_beginsStream 33 = .ok (.iconst (-1), 1) := by decide +kernel
theorem dX11_beginsStream_34 : decode cX11_beginsStream 34 = .ok (.iastore, 1) := by decide +kernel
theorem dX11_beginsStream_35 : decode cX11_beginsStream 35 = .ok (.aload_n 0, 1) := by decide +kernel
theorem dX11_beginsStream_36 : decode cX11_beginsStream 36 = .ok (.getfield 65, 3) := by decide +kernel
theorem dX11_beginsStream_39 : decode cX11_beginsStream 39 = .ok (.iload_n 1, 1) := by decide +kernel
theorem dX11_beginsStream_40 : decode cX11_beginsStream 40 = .ok (.iconst (-1), 1) := by decide +kernel
theorem dX11_beginsStream_41 : decode cX11_beginsStream 41 = .ok (.iastore, 1) := by decide +kernel
theorem dX11_beginsStream_42 : decode cX11_beginsStream 42 = .ok (.aload_n 0, 1) := by decide +kernel
theorem dX11_beginsStream_43 : decode cX11_beginsStream 43 = .ok (.iload_n 1, 1) := by decide +kernel
theorem dX11_beginsStream_44 : decode cX11_beginsStream 44 = .ok (.invokevirtual 146, 3) := by decide +kernel
theorem dX11_beginsStream_47 : decode cX11_beginsStream 47 = .ok (.return_, 1) := by decide +kernel
theorem dX11_beginsWindows_0 : decode cX11_beginsWindows 0 = .ok (.aload_n 0, 1) := by decide +kernel
theorem dX11_beginsWindows_1 : decode cX11_beginsWindows 1 = .ok (.getfield 32, 3) := by decide +kernel
theorem dX11_beginsWindows_4 : decode cX11_beginsWindows 4 = .ok (.iload_n 1, 1) := by decide +kernel
theorem dX11_beginsWindows_5 : decode cX11_beginsWindows 5 = .ok (.iconst 0, 1) := by decide +kernel
theorem dX11_beginsWindows_6 : decode cX11_beginsWindows 6 = .ok (.iastore, 1) := by decide +kernel
theorem dX11_beginsWindows_7 : decode cX11_beginsWindows 7 = .ok (.aload_n 0, 1) := by decide +kernel
theorem dX11_beginsWindows_8 : decode cX11_beginsWindows 8 = .ok (.getfield 35, 3) := by decide +kernel
theorem dX11_beginsWindows_11 : decode cX11_beginsWindows 11 = .ok (.iload_n 1, 1) := by decide +kernel
theorem dX11_beginsWindows_12 : decode cX11_beginsWindows 12 = .ok (.iconst 0, 1) := by decide +kernel
theorem dX11_beginsWindows_13 : decode cX11_beginsWindows 13 = .ok (.iastore, 1) := by decide +kernel
theorem dX11_beginsWindows_14 : decode cX11_beginsWindows 14 = .ok (.aload_n 0, 1) := by decide +kernel
theorem dX11_beginsWindows_15 : decode cX11_beginsWindows 15 = .ok (.getfield 38, 3) := by decide +kernel
theorem dX11_beginsWindows_18 : decode cX11_beginsWindows 18 = .ok (.iload_n 1, 1) := by decide +kernel
theorem dX11_beginsWindows_19 : decode cX11_beginsWindows 19 = .ok (.iconst 0, 1) := by decide +kernel
theorem dX11_beginsWindows_20 : decode cX11_beginsWindows 20 = .ok (.iastore, 1) := by decide +kernel
theorem dX11_beginsWindows_21 : decode cX11_beginsWindows 21 = .ok (.aload_n 0, 1) := by decide +kernel
theorem dX11_beginsWindows_22 : decode cX11_beginsWindows 22 = .ok (.getfield 41, 3) := by decide +kernel
theorem dX11_beginsWindows_25 : decode cX11_beginsWindows 25 = .ok (.iload_n 1, 1) := by decide +kernel
theorem dX11_beginsWindows_26 : decode cX11_beginsWindows 26 = .ok (.iconst (-1), 1) := by decide +kernel
theorem dX11_beginsWindows_27 : decode cX11_beginsWindows 27 = .ok (.iastore, 1) := by decide +kernel
theorem dX11_beginsWindows_28 : decode cX11_beginsWindows 28 = .ok (.aload_n 0, 1) := by decide +kernel
theorem dX11_beginsWindows_29 : decode cX11_beginsWindows 29 = .ok (.getfield 53, 3) := by decide +kernel
theorem dX11_beginsWindows_32 : decode cX11_beginsWindows 32 = .ok (.iload_n 1, 1) := by decide +kernel
theorem dX11_beginsWindows_33 : decode cX11_beginsWindows 33 = .ok (.iconst 0, 1) := by decide +kernel
theorem dX11_beginsWindows_34 : decode cX11_beginsWindows 34 = .ok (.iastore, 1) := by decide +kernel
theorem dX11_beginsWindows_35 : decode cX11_beginsWindows 35 = .ok (.iconst 0, 1) := by decide +kernel
theorem dX11_beginsWindows_36 : decode cX11_beginsWindows 36 = .ok (.istore_n 2, 1) := by decide +kernel
theorem dX11_beginsWindows_37 : decode cX11_beginsWindows 37 = .ok (.iload_n 2, 1) := by decide +kernel
theorem dX11_beginsWindows_38 : decode cX11_beginsWindows 38 = .ok (.aload_n 0, 1) := by decide +kernel
theorem dX11_beginsWindows_39 : decode cX11_beginsWindows 39 = .ok (.getfield 71, 3) := by decide +kernel
theorem dX11_beginsWindows_42 : decode cX11_beginsWindows 42 = .ok (.iload_n 1, 1) := by decide +kernel
theorem dX11_beginsWindows_43 : decode cX11_beginsWindows 43 = .ok (.iaload, 1) := by decide +kernel
theorem dX11_beginsWindows_44 : decode cX11_beginsWindows 44 = .ok (.if_icmp .ge 21, 3) := by decide +kernel
theorem dX11_beginsWindows_47 : decode cX11_beginsWindows 47 = .ok (.aload_n 0, 1) := by decide +kernel
theorem dX11_beginsWindows_48 : decode cX11_beginsWindows 48 = .ok (.getfield 86, 3) := by decide +kernel
theorem dX11_beginsWindows_51 : decode cX11_beginsWindows 51 = .ok (.bipush 16, 2) := by decide +kernel
theorem dX11_beginsWindows_53 : decode cX11_beginsWindows 53 = .ok (.iload_n 1, 1) := by decide +kernel
theorem dX11_beginsWindows_54 : decode cX11_beginsWindows 54 = .ok (.imul, 1) := by decide +kernel
theorem dX11_beginsWindows_55 : decode cX11_beginsWindows 55 = .ok (.iload_n 2, 1) := by decide +kernel
theorem dX11_beginsWindows_56 : decode cX11_beginsWindows 56 = .ok (.iadd, 1) := by decide +kernel
theorem dX11_beginsWindows_57 : decode cX11_beginsWindows 57 = .ok (.iconst (-1), 1) := by decide +kernel
theorem dX11_beginsWindows_58 : decode cX11_beginsWindows 58 = .ok (.iastore, 1) := by decide +kernel
theorem dX11_beginsWindows_59 : decode cX11_beginsWindows 59 = .ok (.iinc 2 1, 3) := by decide +kernel
theorem dX11_beginsWindows_62 : decode cX11_beginsWindows 62 = .ok (.goto (-25), 3) := by decide +kernel
theorem dX11_beginsWindows_65 : decode cX11_beginsWindows 65 = .ok (.return_, 1) := by decide +kernel
theorem dX11_logs_0 : decode cX11_logs 0 = .ok (.aload_n 0, 1) := by decide +kernel
theorem dX11_logs_1 : decode cX11_logs 1 = .ok (.getfield 150, 3) := by decide +kernel
theorem dX11_logs_4 : decode cX11_logs 4 = .ok (.bipush 30, 2) := by decide +kernel
theorem dX11_logs_6 : decode cX11_logs 6 = .ok (.if_icmp .ne 49, 3) := by decide +kernel
theorem dX11_logs_9 : decode cX11_logs 9 = .ok (.aload_n 0, 1) := by decide +kernel
theorem dX11_logs_10 : decode cX11_logs 10 = .ok (.dup, 1) := by decide +kernel
theorem dX11_logs_11 : decode cX11_logs 11 = .ok (.getfield 150, 3) := by decide +kernel
theorem dX11_logs_14 : decode cX11_logs 14 = .ok (.iconst 1, 1) := by decide +kernel
theorem dX11_logs_15 : decode cX11_logs 15 = .ok (.isub, 1) := by decide +kernel
theorem dX11_logs_16 : decode cX11_logs 16 = .ok (.putfield 150, 3) := by decide +kernel
theorem dX11_logs_19 : decode cX11_logs 19 = .ok (.iconst 0, 1) := by decide +kernel
theorem dX11_logs_20 : decode cX11_logs 20 = .ok (.istore 4, 2) := by decide +kernel
theorem dX11_logs_22 : decode cX11_logs 22 = .ok (.iload 4, 2) := by decide +kernel
theorem dX11_logs_24 : decode cX11_logs 24 = .ok (.iconst 3, 1) := by decide +kernel
theorem dX11_logs_25 : decode cX11_logs 25 = .ok (.aload_n 0, 1) := by decide +kernel
theorem dX11_logs_26 : decode cX11_logs 26 = .ok (.getfield 150, 3) := by decide +kernel
theorem dX11_logs_29 : decode cX11_logs 29 = .ok (.imul, 1) := by decide +kernel
theorem dX11_logs_30 : decode cX11_logs 30 = .ok (.if_icmp .ge 25, 3) := by decide +kernel
theorem dX11_logs_33 : decode cX11_logs 33 = .ok (.aload_n 0, 1) := by decide +kernel
theorem dX11_logs_34 : decode cX11_logs 34 = .ok (.getfield 110, 3) := by decide +kernel
theorem dX11_logs_37 : decode cX11_logs 37 = .ok (.iload 4, 2) := by decide +kernel
theorem dX11_logs_39 : decode cX11_logs 39 = .ok (.aload_n 0, 1) := by decide +kernel
theorem dX11_logs_40 : decode cX11_logs 40 = .ok (.getfield 110, 3) := by decide +kernel
theorem dX11_logs_43 : decode cX11_logs 43 = .ok (.iload 4, 2) := by decide +kernel
theorem dX11_logs_45 : decode cX11_logs 45 = .ok (.iconst 3, 1) := by decide +kernel
theorem dX11_logs_46 : decode cX11_logs 46 = .ok (.iadd, 1) := by decide +kernel
theorem dX11_logs_47 : decode cX11_logs 47 = .ok (.iaload, 1) := by decide +kernel
theorem dX11_logs_48 : decode cX11_logs 48 = .ok (.iastore, 1) := by decide +kernel
theorem dX11_logs_49 : decode cX11_logs 49 = .ok (.iinc 4 1, 3) := by decide +kernel
theorem dX11_logs_52 : decode cX11_logs 52 = .ok (.goto (-30), 3) := by decide +kernel
theorem dX11_logs_55 : decode cX11_logs 55 = .ok (.aload_n 0, 1) := by decide +kernel
theorem dX11_logs_56 : decode cX11_logs 56 = .ok (.getfield 110, 3) := by decide +kernel
theorem dX11_logs_59 : decode cX11_logs 59 = .ok (.iconst 3, 1) := by decide +kernel
theorem dX11_logs_60 : decode cX11_logs 60 = .ok (.aload_n 0, 1) := by decide +kernel
theorem dX11_logs_61 : decode cX11_logs 61 = .ok (.getfield 150, 3) := by decide +kernel
theorem dX11_logs_64 : decode cX11_logs 64 = .ok (.imul, 1) := by decide +kernel
theorem dX11_logs_65 : decode cX11_logs 65 = .ok (.iload_n 1, 1) := by decide +kernel
theorem dX11_logs_66 : decode cX11_logs 66 = .ok (.iastore, 1) := by decide +kernel
theorem dX11_logs_67 : decode cX11_logs 67 = .ok (.aload_n 0, 1) := by decide +kernel
theorem dX11_logs_68 : decode cX11_logs 68 = .ok (.getfield 110, 3) := by decide +kernel
theorem dX11_logs_71 : decode cX11_logs 71 = .ok (.iconst 3, 1) := by decide +kernel
theorem dX11_logs_72 : decode cX11_logs 72 = .ok (.aload_n 0, 1) := by decide +kernel
theorem dX11_logs_73 : decode cX11_logs 73 = .ok (.getfield 150, 3) := by decide +kernel
theorem dX11_logs_76 : decode cX11_logs 76 = .ok (.imul, 1) := by decide +kernel
theorem dX11_logs_77 : decode cX11_logs 77 = .ok (.iconst 1, 1) := by decide +kernel
theorem dX11_logs_78 : decode cX11_logs 78 = .ok (.iadd, 1) := by decide +kernel
theorem dX11_logs_79 : decode cX11_logs 79 = .ok (.iload_n 2, 1) := by decide +kernel
theorem dX11_logs_80 : decode cX11_logs 80 = .ok (.iastore, 1) := by decide +kernel
theorem dX11_logs_81 : decode cX11_logs 81 = .ok (.aload_n 0, 1) := by decide +kernel
theorem dX11_logs_82 : decode cX11_logs 82 = .ok (.getfield 110, 3) := by decide +kernel
theorem dX11_logs_85 : decode cX11_logs 85 = .ok (.iconst 3, 1) := by decide +kernel
theorem dX11_logs_86 : decode cX11_logs 86 = .ok (.aload_n 0, 1) := by decide +kernel
theorem dX11_logs_87 : decode cX11_logs 87 = .ok (.getfield 150, 3) := by decide +kernel
theorem dX11_logs_90 : decode cX11_logs 90 = .ok (.imul, 1) := by decide +kernel
theorem dX11_logs_91 : decode cX11_logs 91 = .ok (.iconst 2, 1) := by decide +kernel
theorem dX11_logs_92 : decode cX11_logs 92 = .ok (.iadd, 1) := by decide +kernel
theorem dX11_logs_93 : decode cX11_logs 93 = .ok (.iload_n 3, 1) := by decide +kernel
theorem dX11_logs_94 : decode cX11_logs 94 = .ok (.iastore, 1) := by decide +kernel
theorem dX11_logs_95 : decode cX11_logs 95 = .ok (.aload_n 0, 1) := by decide +kernel
theorem dX11_logs_96 : decode cX11_logs 96 = .ok (.dup, 1) := by decide +kernel
theorem dX11_logs_97 : decode cX11_logs 97 = .ok (.getfield 150, 3) := by decide +kernel
theorem dX11_logs_100 : decode cX11_logs 100 = .ok (.iconst 1, 1) := by decide +kernel
theorem dX11_logs_101 : decode cX11_logs 101 = .ok (.iadd, 1) := by decide +kernel
theorem dX11_logs_102 : decode cX11_logs 102 = .ok (.putfield 150, 3) := by decide +kernel
theorem dX11_logs_105 : decode cX11_logs 105 = .ok (.return_, 1) := by decide +kernel
theorem dX11_at_0 : decode cX11_at 0 = .ok (.aload_n 0, 1) := by decide +kernel
theorem dX11_at_1 : decode cX11_at 1 = .ok (.getfield 113, 3) := by decide +kernel
theorem dX11_at_4 : decode cX11_at 4 = .ok (.bipush 9, 2) := by decide +kernel
theorem dX11_at_6 : decode cX11_at 6 = .ok (.iload_n 1, 1) := by decide +kernel
theorem dX11_at_7 : decode cX11_at 7 = .ok (.imul, 1) := by decide +kernel
theorem dX11_at_8 : decode cX11_at 8 = .ok (.iload_n 2, 1) := by decide +kernel
theorem dX11_at_9 : decode cX11_at 9 = .ok (.iadd, 1) := by decide +kernel
theorem dX11_at_10 : decode cX11_at 10 = .ok (.iaload, 1) := by decide +kernel
theorem dX11_at_11 : decode cX11_at 11 = .ok (.ireturn, 1) := by decide +kernel
theorem dX11_isPacket_0 : decode cX11_isPacket 0 = .ok (.iload_n 1, 1) := by decide +kernel
theorem dX11_isPacket_1 : decode cX11_isPacket 1 = .ok (.ifCond .lt 15, 3) := by decide +kernel
theorem dX11_isPacket_4 : decode cX11_isPacket 4 = .ok (.iload_n 1, 1) := by decide +kernel
theorem dX11_isPacket_5 : decode cX11_isPacket 5 = .ok (.aload_n 0, 1) := by decide +kernel
theorem dX11_isPacket_6 : decode cX11_isPacket 6 = .ok (.getfield 153, 3) := by decide +kernel
theorem dX11_isPacket_9 : decode cX11_isPacket 9 = .ok (.if_icmp .ge 7, 3) := by decide +kernel
theorem dX11_isPacket_12 : decode cX11_isPacket 12 = .ok (.iconst 1, 1) := by decide +kernel
theorem dX11_isPacket_13 : decode cX11_isPacket 13 = .ok (.goto 4, 3) := by decide +kernel
theorem dX11_isPacket_16 : decode cX11_isPacket 16 = .ok (.iconst 0, 1) := by decide +kernel
theorem dX11_isPacket_17 : decode cX11_isPacket 17 = .ok (.ireturn, 1) := by decide +kernel
theorem dX11_hasRoom_0 : decode cX11_hasRoom 0 = .ok (.aload_n 0, 1) := by decide +kernel
theorem dX11_hasRoom_1 : decode cX11_hasRoom 1 = .ok (.getfield 153, 3) := by decide +kernel
theorem dX11_hasRoom_4 : decode cX11_hasRoom 4 = .ok (.bipush 24, 2) := by decide +kernel
theorem dX11_hasRoom_6 : decode cX11_hasRoom 6 = .ok (.if_icmp .ge 7, 3) := by decide +kernel
theorem dX11_hasRoom_9 : decode cX11_hasRoom 9 = .ok (.iconst 1, 1) := by decide +kernel
theorem dX11_hasRoom_10 : decode cX11_hasRoom 10 = .ok (.goto 4, 3) := by decide +kernel
theorem dX11_hasRoom_13 : decode cX11_hasRoom 13 = .ok (.iconst 0, 1) := by decide +kernel
theorem dX11_hasRoom_14 : decode cX11_hasRoom 14 = .ok (.ireturn, 1) := by decide +kernel
theorem dX11_appends_0 : decode cX11_appends 0 = .ok (.bipush 9, 2) := by decide +kernel
theorem dX11_appends_2 : decode cX11_appends 2 = .ok (.aload_n 0, 1) := by decide +kernel
theorem dX11_appends_3 : decode cX11_appends 3 = .ok (.getfield 153, 3) := by decide +kernel
theorem dX11_appends_6 : decode cX11_appends 6 = .ok (.imul, 1) := by decide +kernel
theorem dX11_appends_7 : decode cX11_appends 7 = .ok (.istore 10, 2) := by decide +kernel
theorem dX11_appends_9 : decode cX11_appends 9 = .ok (.aload_n 0, 1) := by decide +kernel
theorem dX11_appends_10 : decode cX11_appends 10 = .ok (.getfield 113, 3) := by decide +kernel
theorem dX11_appends_13 : decode cX11_appends 13 = .ok (.iload 10, 2) := by decide +kernel
theorem dX11_appends_15 : decode cX11_appends 15 = .ok (.iload_n 1, 1) := by decide +kernel
theorem dX11_appends_16 : decode cX11_appends 16 = .ok (.iastore, 1) := by decide +kernel
theorem dX11_appends_17 : decode cX11_appends 17 = .ok (.aload_n 0, 1) := by decide +kernel
theorem dX11_appends_18 : decode cX11_appends 18 = .ok (.getfield 113, 3) := by decide +kernel
theorem dX11_appends_21 : decode cX11_appends 21 = .ok (.iload 10, 2) := by decide +kernel
theorem dX11_appends_23 : decode cX11_appends 23 = .ok (.iconst 1, 1) := by decide +kernel
theorem dX11_appends_24 : decode cX11_appends 24 = .ok (.iadd, 1) := by decide +kernel
theorem dX11_appends_25 : decode cX11_appends 25 = .ok (.iload_n 2, 1) := by decide +kernel
theorem dX11_appends_26 : decode cX11_appends 26 = .ok (.iastore, 1) := by decide +kernel
theorem dX11_appends_27 : decode cX11_appends 27 = .ok (.aload_n 0, 1) := by decide +kernel
theorem dX11_appends_28 : decode cX11_appends 28 = .ok (.getfield 113, 3) := by decide +kernel
theorem dX11_appends_31 : decode cX11_appends 31 = .ok (.iload 10, 2) := by decide +kernel
theorem dX11_appends_33 : decode cX11_appends 33 = .ok (.iconst 2, 1) := by decide +kernel
theorem dX11_appends_34 : decode cX11_appends 34 = .ok (.iadd, 1) := by decide +kernel
theorem dX11_appends_35 : decode cX11_appends 35 = .ok (.iload_n 3, 1) := by decide +kernel
theorem dX11_appends_36 : decode cX11_appends 36 = .ok (.iastore, 1) := by decide +kernel
theorem dX11_appends_37 : decode cX11_appends 37 = .ok (.aload_n 0, 1) := by decide +kernel
theorem dX11_appends_38 : decode cX11_appends 38 = .ok (.getfield 113, 3) := by decide +kernel
theorem dX11_appends_41 : decode cX11_appends 41 = .ok (.iload 10, 2) := by decide +kernel
theorem dX11_appends_43 : decode cX11_appends 43 = .ok (.iconst 3, 1) := by decide +kernel
theorem dX11_appends_44 : decode cX11_appends 44 = .ok (.iadd, 1) := by decide +kernel
theorem dX11_appends_45 : decode cX11_appends 45 = .ok (.iload 4, 2) := by decide +kernel
theorem dX11_appends_47 : decode cX11_appends 47 = .ok (.iastore, 1) := by decide +kernel
theorem dX11_appends_48 : decode cX11_appends 48 = .ok (.aload_n 0, 1) := by decide +kernel
theorem dX11_appends_49 : decode cX11_appends 49 = .ok (.getfield 113, 3) := by decide +kernel
theorem dX11_appends_52 : decode cX11_appends 52 = .ok (.iload 10, 2) := by decide +kernel
theorem dX11_appends_54 : decode cX11_appends 54 = .ok (.iconst 4, 1) := by decide +kernel
theorem dX11_appends_55 : decode cX11_appends 55 = .ok (.iadd, 1) := by decide +kernel
theorem dX11_appends_56 : decode cX11_appends 56 = .ok (.iload 5, 2) := by decide +kernel
theorem dX11_appends_58 : decode cX11_appends 58 = .ok (.iastore, 1) := by decide +kernel
theorem dX11_appends_59 : decode cX11_appends 59 = .ok (.aload_n 0, 1) := by decide +kernel
theorem dX11_appends_60 : decode cX11_appends 60 = .ok (.getfield 113, 3) := by decide +kernel
theorem dX11_appends_63 : decode cX11_appends 63 = .ok (.iload 10, 2) := by decide +kernel
theorem dX11_appends_65 : decode cX11_appends 65 = .ok (.iconst 5, 1) := by decide +kernel
theorem dX11_appends_66 : decode cX11_appends 66 = .ok (.iadd, 1) := by decide +kernel
theorem dX11_appends_67 : decode cX11_appends 67 = .ok (.iload 6, 2) := by decide +kernel
theorem dX11_appends_69 : decode cX11_appends 69 = .ok (.iastore, 1) := by decide +kernel
theorem dX11_appends_70 : decode cX11_appends 70 = .ok (.aload_n 0, 1) := by decide +kernel
theorem dX11_appends_71 : decode cX11_appends 71 = .ok (.getfield 113, 3) := by decide +kernel
theorem dX11_appends_74 : decode cX11_appends 74 = .ok (.iload 10, 2) := by decide +kernel
theorem dX11_appends_76 : decode cX11_appends 76 = .ok (.bipush 6, 2) := by decide +kernel
theorem dX11_appends_78 : decode cX11_appends 78 = .ok (.iadd, 1) := by decide +kernel
theorem dX11_appends_79 : decode cX11_appends 79 = .ok (.iload 7, 2) := by decide +kernel
theorem dX11_appends_81 : decode cX11_appends 81 = .ok (.iastore, 1) := by decide +kernel
theorem dX11_appends_82 : decode cX11_appends 82 = .ok (.aload_n 0, 1) := by decide +kernel
theorem dX11_appends_83 : decode cX11_appends 83 = .ok (.getfield 113, 3) := by decide +kernel
theorem dX11_appends_86 : decode cX11_appends 86 = .ok (.iload 10, 2) := by decide +kernel
theorem dX11_appends_88 : decode cX11_appends 88 = .ok (.bipush 7, 2) := by decide +kernel
theorem dX11_appends_90 : decode cX11_appends 90 = .ok (.iadd, 1) := by decide +kernel
theorem dX11_appends_91 : decode cX11_appends 91 = .ok (.iload 8, 2) := by decide +kernel
theorem dX11_appends_93 : decode cX11_appends 93 = .ok (.iastore, 1) := by decide +kernel
theorem dX11_appends_94 : decode cX11_appends 94 = .ok (.aload_n 0, 1) := by decide +kernel
theorem dX11_appends_95 : decode cX11_appends 95 = .ok (.getfield 113, 3) := by decide +kernel
theorem dX11_appends_98 : decode cX11_appends 98 = .ok (.iload 10, 2) := by decide +kernel
theorem dX11_appends_100 : decode cX11_appends 100 = .ok (.bipush 8, 2) := by decide +kernel
theorem dX11_appends_102 : decode cX11_appends 102 = .ok (.iadd, 1) := by decide +kernel
theorem dX11_appends_103 : decode cX11_appends 103 = .ok (.iload 9, 2) := by decide +kernel
theorem dX11_appends_105 : decode cX11_appends 105 = .ok (.iastore, 1) := by decide +kernel
theorem dX11_appends_106 : decode cX11_appends 106 = .ok (.aload_n 0, 1) := by decide +kernel
theorem dX11_appends_107 : decode cX11_appends 107 = .ok (.dup, 1) := by decide +kernel
theorem dX11_appends_108 : decode cX11_appends 108 = .ok (.getfield 153, 3) := by decide +kernel
theorem dX11_appends_111 : decode cX11_appends 111 = .ok (.iconst 1, 1) := by decide +kernel
theorem dX11_appends_112 : decode cX11_appends 112 = .ok (.iadd, 1) := by decide +kernel
theorem dX11_appends_113 : decode cX11_appends 113 = .ok (.putfield 153, 3) := by decide +kernel
theorem dX11_appends_116 : decode cX11_appends 116 = .ok (.aload_n 0, 1) := by decide +kernel
theorem dX11_appends_117 : decode cX11_appends 117 = .ok (.dup, 1) := by decide +kernel
theorem dX11_appends_118 : decode cX11_appends 118 = .ok (.getfield 156, 3) := by decide +kernel
theorem dX11_appends_121 : decode cX11_appends 121 = .ok (.iconst 1, 1) := by decide +kernel
theorem dX11_appends_122 : decode cX11_appends 122 = .ok (.iadd, 1) := by decide +kernel
theorem dX11_appends_123 : decode cX11_appends 123 = .ok (.putfield 156, 3) := by decide +kernel
theorem dX11_appends_126 : decode cX11_appends 126 = .ok (.aload_n 0, 1) := by decide +kernel
theorem dX11_appends_127 : decode cX11_appends 127 = .ok (.iconst 0, 1) := by decide +kernel
theorem dX11_appends_128 : decode cX11_appends 128 = .ok (.iload_n 1, 1) := by decide +kernel
theorem dX11_appends_129 : decode cX11_appends 129 = .ok (.iload_n 2, 1) := by decide +kernel
theorem dX11_appends_130 : decode cX11_appends 130 = .ok (.invokevirtual 142, 3) := by decide +kernel
theorem dX11_appends_133 : decode cX11_appends 133 = .ok (.return_, 1) := by decide +kernel
theorem dX11_sendsPlain_0 : decode cX11_sendsPlain 0 = .ok (.aload_n 0, 1) := by decide +kernel
theorem dX11_sendsPlain_1 : decode cX11_sendsPlain 1 = .ok (.invokevirtual 159, 3) := by decide +kernel
theorem dX11_sendsPlain_4 : decode cX11_sendsPlain 4 = .ok (.ifCond .ne 5, 3) := by decide +kernel
theorem dX11_sendsPlain_7 : decode cX11_sendsPlain 7 = .ok (.iconst 0, 1) := by decide +kernel
theorem dX11_sendsPlain_8 : decode cX11_sendsPlain 8 = .ok (.ireturn, 1) := by decide +kernel
theorem dX11_sendsPlain_9 : decode cX11_sendsPlain 9 = .ok (.aload_n 0, 1) := by decide +kernel
theorem dX11_sendsPlain_10 : decode cX11_sendsPlain 10 = .ok (.iload_n 1, 1) := by decide +kernel
theorem dX11_sendsPlain_11 : decode cX11_sendsPlain 11 = .ok (.iload_n 2, 1) := by decide +kernel
theorem dX11_sendsPlain_12 : decode cX11_sendsPlain 12 = .ok (.iload_n 3, 1) := by decide +kernel
theorem dX11_sendsPlain_13 : decode cX11_sendsPlain 13 = .ok (.iconst 0, 1) := by decide +kernel
theorem dX11_sendsPlain_14 : decode cX11_sendsPlain 14 = .ok (.iconst 0, 1) := by decide +kernel
theorem dX11_sendsPlain_15 : decode cX11_sendsPlain 15 = .ok (.iload 4, 2) := by decide +kernel
theorem dX11_sendsPlain_17 : decode cX11_sendsPlain 17 = .ok (.iload 5, 2) := by decide +kernel
theorem dX11_sendsPlain_19 : decode cX11_sendsPlain 19 = .ok (.iconst 0, 1) := by decide +kernel
theorem dX11_sendsPlain_20 : decode cX11_sendsPlain 20 = .ok (.iconst 0, 1) := by decide +kernel
theorem dX11_sendsPlain_21 : decode cX11_sendsPlain 21 = .ok (.invokevirtual 163, 3) := by decide +kernel
theorem dX11_sendsPlain_24 : decode cX11_sendsPlain 24 = .ok (.iconst 1, 1) := by decide +kernel
theorem dX11_sendsPlain_25 : decode cX11_sendsPlain 25 = .ok (.ireturn, 1) := by decide +kernel
theorem dX11_tagOf_0 : decode cX11_tagOf 0 = .ok (.iload_n 0, 1) := by decide +kernel
theorem dX11_tagOf_1 : decode cX11_tagOf 1 = .ok (.iload_n 2, 1) := by decide +kernel
theorem dX11_tagOf_2 : decode cX11_tagOf 2 = .ok (.invokestatic 167, 3) := by decide +kernel
theorem dX11_tagOf_5 : decode cX11_tagOf 5 = .ok (.iload_n 1, 1) := by decide +kernel
theorem dX11_tagOf_6 : decode cX11_tagOf 6 = .ok (.invokestatic 167, 3) := by decide +kernel
theorem dX11_tagOf_9 : decode cX11_tagOf 9 = .ok (.istore 8, 2) := by decide +kernel
theorem dX11_tagOf_11 : decode cX11_tagOf 11 = .ok (.iload 8, 2) := by decide +kernel
theorem dX11_tagOf_13 : decode cX11_tagOf 13 = .ok (.iload_n 3, 1) := by decide +kernel
theorem dX11_tagOf_14 : decode cX11_tagOf 14 = .ok (.invokestatic 167, 3) := by decide +kernel
theorem dX11_tagOf_17 : decode cX11_tagOf 17 = .ok (.iload 4, 2) := by decide +kernel
theorem dX11_tagOf_19 : decode cX11_tagOf 19 = .ok (.iload 5, 2) := by decide +kernel
theorem dX11_tagOf_21 : decode cX11_tagOf 21 = .ok (.invokestatic 167, 3) := by decide +kernel
theorem dX11_tagOf_24 : decode cX11_tagOf 24 = .ok (.invokestatic 167, 3) := by decide +kernel
theorem dX11_tagOf_27 : decode cX11_tagOf 27 = .ok (.iload 6, 2) := by decide +kernel
theorem dX11_tagOf_29 : decode cX11_tagOf 29 = .ok (.invokestatic 167, 3) := by decide +kernel
theorem dX11_tagOf_32 : decode cX11_tagOf 32 = .ok (.iload 7, 2) := by decide +kernel
theorem dX11_tagOf_34 : decode cX11_tagOf 34 = .ok (.invokestatic 167, 3) := by decide +kernel
theorem dX11_tagOf_37 : decode cX11_tagOf 37 = .ok (.ireturn, 1) := by decide +kernel
theorem dX11_sendsProtected_0 : decode cX11_sendsProtected 0 = .ok (.aload_n 0, 1) := by decide +kernel
theorem dX11_sendsProtected_1 : decode cX11_sendsProtected 1 = .ok (.invokevirtual 159, 3) := by decide +kernel
theorem dX11_sendsProtected_4 : decode cX11_sendsProtected 4 = .ok (.ifCond .ne 5, 3) := by decide +kernel
theorem dX11_sendsProtected_7 : decode cX11_sendsProtected 7 = .ok (.iconst 0, 1) := by decide +kernel
theorem dX11_sendsProtected_8 : decode cX11_sendsProtected 8 = .ok (.ireturn, 1) := by decide +kernel
theorem dX11_sendsProtected_9 : decode cX11_sendsProtected 9 = .ok (.aload_n 0, 1) := by decide +kernel
theorem dX11_sendsProtected_10 : decode cX11_sendsProtected 10 = .ok (.getfield 35, 3) := by decide +kernel
theorem dX11_sendsProtected_13 : decode cX11_sendsProtected 13 = .ok (.iload_n 1, 1) := by decide +kernel
theorem dX11_sendsProtected_14 : decode cX11_sendsProtected 14 = .ok (.iaload, 1) := by decide +kernel
theorem dX11_sendsProtected_15 : decode cX11_sendsProtected 15 = .ok (.aload_n 0, 1) := by decide +kernel
theorem dX11_sendsProtected_16 : decode cX11_sendsProtected 16 = .ok (.getfield 7, 3) := by decide +kernel
theorem dX11_sendsProtected_19 : decode cX11_sendsProtected 19 = .ok (.if_icmp .lt 20, 3) := by decide +kernel
theorem dX11_sendsProtected_22 : decode cX11_sendsProtected 22 = .ok (.aload_n 0, 1) := by decide +kernel
theorem dX11_sendsProtected_23 : decode cX11_sendsProtected 23 = .ok (.getfield 32, 3) := by decide +kernel
theorem dX11_sendsProtected_26 : decode cX11_sendsProtected 26 = .ok (.iload_n 1, 1) := by decide +kernel
theorem dX11_sendsProtected_27 : decode cX11_sendsProtected 27 = .ok (.dup2, 1) := by decide +kernel
theorem dX11_sendsProtected_28 : decode cX11_sendsProtected 28 = .ok (.iaload, 1) := by decide +kernel
theorem dX11_sendsProtected_29 : decode cX11_sendsProtected 29 = .ok (.iconst 1, 1) := by decide +kernel
theorem dX11_sendsProtected_30 : decode cX11_sendsProtected 30 = .ok (.iadd, 1) := by decide +kernel
theorem dX11_sendsProtected_31 : decode cX11_sendsProtected 31 = .ok (.iastore, 1) := by decide +kernel
theorem dX11_sendsProtected_32 : decode cX11_sendsProtected 32 = .ok (.aload_n 0, 1) := by decide +kernel
theorem dX11_sendsProtected_33 : decode cX11_sendsProtected 33 = .ok (.getfield 35, 3) := by decide +kernel
theorem dX11_sendsProtected_36 : decode cX11_sendsProtected 36 = .ok (.iload_n 1, 1) := by decide +kernel
theorem dX11_sendsProtected_37 : decode cX11_sendsProtected 37 = .ok (.iconst 0, 1) := by decide +kernel
theorem dX11_sendsProtected_38 : decode cX11_sendsProtected 38 = .ok (.iastore, 1) := by decide +kernel
theorem dX11_sendsProtected_39 : decode cX11_sendsProtected 39 = .ok (.aload_n 0, 1) := by decide +kernel
theorem dX11_sendsProtected_40 : decode cX11_sendsProtected 40 = .ok (.iload_n 1, 1) := by decide +kernel
theorem dX11_sendsProtected_41 : decode cX11_sendsProtected 41 = .ok (.iload_n 2, 1) := by decide +kernel
theorem dX11_sendsProtected_42 : decode cX11_sendsProtected 42 = .ok (.aload_n 0, 1) := by decide +kernel
theorem dX11_sendsProtected_43 : decode cX11_sendsProtected 43 = .ok (.getfield 23, 3) := by decide +kernel
theorem dX11_sendsProtected_46 : decode cX11_sendsProtected 46 = .ok (.iload_n 1, 1) := by decide +kernel
theorem dX11_sendsProtected_47 : decode cX11_sendsProtected 47 = .ok (.iaload, 1) := by decide +kernel
theorem dX11_sendsProtected_48 : decode cX11_sendsProtected 48 = .ok (.aload_n 0, 1) := by decide +kernel
theorem dX11_sendsProtected_49 : decode cX11_sendsProtected 49 = .ok (.getfield 32, 3) := by decide +kernel
theorem dX11_sendsProtected_52 : decode cX11_sendsProtected 52 = .ok (.iload_n 1, 1) := by decide +kernel
theorem dX11_sendsProtected_53 : decode cX11_sendsProtected 53 = .ok (.iaload, 1) := by decide +kernel
theorem dX11_sendsProtected_54 : decode cX11_sendsProtected 54 = .ok (.aload_n 0, 1) := by decide +kernel
theorem dX11_sendsProtected_55 : decode cX11_sendsProtected 55 = .ok (.getfield 35, 3) := by decide +kernel
theorem dX11_sendsProtected_58 : decode cX11_sendsProtected 58 = .ok (.iload_n 1, 1) := by decide +kernel
theorem dX11_sendsProtected_59 : decode cX11_sendsProtected 59 = .ok (.iaload, 1) := by decide +kernel
theorem dX11_sendsProtected_60 : decode cX11_sendsProtected 60 = .ok (.iload_n 3, 1) := by decide +kernel
theorem dX11_sendsProtected_61 : decode cX11_sendsProtected 61 = .ok (.iload 4, 2) := by decide +kernel
theorem dX11_sendsProtected_63 : decode cX11_sendsProtected 63 = .ok (.aload_n 0, 1) := by decide +kernel
theorem dX11_sendsProtected_64 : decode cX11_sendsProtected 64 = .ok (.getfield 56, 3) := by decide +kernel
theorem dX11_sendsProtected_67 : decode cX11_sendsProtected 67 = .ok (.iload_n 1, 1) := by decide +kernel
theorem dX11_sendsProtected_68 : decode cX11_sendsProtected 68 = .ok (.iaload, 1) := by decide +kernel
theorem dX11_sendsProtected_69 : decode cX11_sendsProtected 69 = .ok (.aload_n 0, 1) := by decide +kernel
theorem dX11_sendsProtected_70 : decode cX11_sendsProtected 70 = .ok (.getfield 29, 3) := by decide +kernel
theorem dX11_sendsProtected_73 : decode cX11_sendsProtected 73 = .ok (.iload_n 1, 1) := by decide +kernel
theorem dX11_sendsProtected_74 : decode cX11_sendsProtected 74 = .ok (.iaload, 1) := by decide +kernel
theorem dX11_sendsProtected_75 : decode cX11_sendsProtected 75 = .ok (.iload_n 1, 1) := by decide +kernel
theorem dX11_sendsProtected_76 : decode cX11_sendsProtected 76 = .ok (.aload_n 0, 1) := by decide +kernel
theorem dX11_sendsProtected_77 : decode cX11_sendsProtected 77 = .ok (.getfield 32, 3) := by decide +kernel
theorem dX11_sendsProtected_80 : decode cX11_sendsProtected 80 = .ok (.iload_n 1, 1) := by decide +kernel
theorem dX11_sendsProtected_81 : decode cX11_sendsProtected 81 = .ok (.iaload, 1) := by decide +kernel
theorem dX11_sendsProtected_82 : decode cX11_sendsProtected 82 = .ok (.aload_n 0, 1) := by decide +kernel
theorem dX11_sendsProtected_83 : decode cX11_sendsProtected 83 = .ok (.getfield 35, 3) := by decide +kernel
theorem dX11_sendsProtected_86 : decode cX11_sendsProtected 86 = .ok (.iload_n 1, 1) := by decide +kernel
theorem dX11_sendsProtected_87 : decode cX11_sendsProtected 87 = .ok (.iaload, 1) := by decide +kernel
theorem dX11_sendsProtected_88 : decode cX11_sendsProtected 88 = .ok (.iload_n 2, 1) := by decide +kernel
theorem dX11_sendsProtected_89 : decode cX11_sendsProtected 89 = .ok (.iload_n 3, 1) := by decide +kernel
theorem dX11_sendsProtected_90 : decode cX11_sendsProtected 90 = .ok (.iload 4, 2) := by decide +kernel
theorem dX11_sendsProtected_92 : decode cX11_sendsProtected 92 = .ok (.aload_n 0, 1) := by decide +kernel
theorem dX11_sendsProtected_93 : decode cX11_sendsProtected 93 = .ok (.getfield 56, 3) := by decide +kernel
theorem dX11_sendsProtected_96 : decode cX11_sendsProtected 96 = .ok (.iload_n 1, 1) := by decide +kernel
theorem dX11_sendsProtected_97 : decode cX11_sendsProtected 97 = .ok (.iaload, 1) := by decide +kernel
theorem dX11_sendsProtected_98 : decode cX11_sendsProtected 98 = .ok (.invokestatic 171, 3) := by decide +kernel
theorem dX11_sendsProtected_101 : decode cX11_sendsProtected 101 = .ok (.invokevirtual 163, 3) := by decide +kernel
theorem dX11_sendsProtected_104 : decode cX11_sendsProtected 104 = .ok (.aload_n 0, 1) := by decide +kernel
theorem dX11_sendsProtected_105 : decode cX11_sendsProtected 105 = .ok (.getfield 35, 3) := by decide +kernel
theorem dX11_sendsProtected_108 : decode cX11_sendsProtected 108 = .ok (.iload_n 1, 1) := by decide +kernel
theorem dX11_sendsProtected_109 : decode cX11_sendsProtected 109 = .ok (.dup2, 1) := by decide +kernel
theorem dX11_sendsProtected_110 : decode cX11_sendsProtected 110 = .ok (.iaload, 1) := by decide +kernel
theorem dX11_sendsProtected_111 : decode cX11_sendsProtected 111 = .ok (.iconst 1, 1) := by decide +kernel
theorem dX11_sendsProtected_112 : decode cX11_sendsProtected 112 = .ok (.iadd, 1) := by decide +kernel
theorem dX11_sendsProtected_113 : decode cX11_sendsProtected 113 = .ok (.iastore, 1) := by decide +kernel
theorem dX11_sendsProtected_114 : decode cX11_sendsProtected 114 = .ok (.iconst 1, 1) := by decide +kernel
theorem dX11_sendsProtected_115 : decode cX11_sendsProtected 115 = .ok (.ireturn, 1) := by decide +kernel
theorem dX11_sendsDue_0 : decode cX11_sendsDue 0 = .ok (.aload_n 0, 1) := by decide +kernel
theorem dX11_sendsDue_1 : decode cX11_sendsDue 1 = .ok (.getfield 19, 3) := by decide +kernel
theorem dX11_sendsDue_4 : decode cX11_sendsDue 4 = .ok (.iload_n 1, 1) := by decide +kernel
theorem dX11_sendsDue_5 : decode cX11_sendsDue 5 = .ok (.iaload, 1) := by decide +kernel
theorem dX11_sendsDue_6 : decode cX11_sendsDue 6 = .ok (.iconst 3, 1) := by decide +kernel
theorem dX11_sendsDue_7 : decode cX11_sendsDue 7 = .ok (.if_icmp .eq 4, 3) := by decide +kernel
theorem dX11_sendsDue_10 : decode cX11_sendsDue 10 = .ok (.return_, 1) := by decide +kernel
theorem dX11_sendsDue_11 : decode cX11_sendsDue 11 = .ok (.iconst 0, 1) := by decide +kernel
theorem dX11_sendsDue_12 : decode cX11_sendsDue 12 = .ok (.istore_n 2, 1) := by decide +kernel
theorem dX11_sendsDue_13 : decode cX11_sendsDue 13 = .ok (.iload_n 2, 1) := by decide +kernel
theorem dX11_sendsDue_14 : decode cX11_sendsDue 14 = .ok (.aload_n 0, 1) := by decide +kernel
theorem dX11_sendsDue_15 : decode cX11_sendsDue 15 = .ok (.getfield 71, 3) := by decide +kernel
theorem dX11_sendsDue_18 : decode cX11_sendsDue 18 = .ok (.iload_n 1, 1) := by decide +kernel
theorem dX11_sendsDue_19 : decode cX11_sendsDue 19 = .ok (.iaload, 1) := by decide +kernel
theorem dX11_sendsDue_20 : decode cX11_sendsDue 20 = .ok (.if_icmp .ge 96, 3) := by decide +kernel
theorem dX11_sendsDue_23 : decode cX11_sendsDue 23 = .ok (.bipush 16, 2) := by decide +kernel
theorem dX11_sendsDue_25 : decode cX11_sendsDue 25 = .ok (.iload_n 1, 1) := by decide +kernel
theorem dX11_sendsDue_26 : decode cX11_sendsDue 26 = .ok (.imul, 1) := by decide +kernel
theorem dX11_sendsDue_27 : decode cX11_sendsDue 27 = .ok (.iload_n 2, 1) := by decide +kernel
theorem dX11_sendsDue_28 : decode cX11_sendsDue 28 = .ok (.iadd, 1) := by decide +kernel
theorem dX11_sendsDue_29 : decode cX11_sendsDue 29 = .ok (.istore_n 3, 1) := by decide +kernel
theorem dX11_sendsDue_30 : decode cX11_sendsDue 30 = .ok (.aload_n 0, 1) := by decide +kernel
theorem dX11_sendsDue_31 : decode cX11_sendsDue 31 = .ok (.getfield 77, 3) := by decide +kernel
theorem dX11_sendsDue_34 : decode cX11_sendsDue 34 = .ok (.iload_n 3, 1) := by decide +kernel
theorem dX11_sendsDue_35 : decode cX11_sendsDue 35 = .ok (.iaload, 1) := by decide +kernel
theorem dX11_sendsDue_36 : decode cX11_sendsDue 36 = .ok (.aload_n 0, 1) := by decide +kernel
theorem dX11_sendsDue_37 : decode cX11_sendsDue 37 = .ok (.getfield 77, 3) := by decide +kernel
theorem dX11_sendsDue_40 : decode cX11_sendsDue 40 = .ok (.bipush 16, 2) := by decide +kernel
theorem dX11_sendsDue_42 : decode cX11_sendsDue 42 = .ok (.iload_n 1, 1) := by decide +kernel
theorem dX11_sendsDue_43 : decode cX11_sendsDue 43 = .ok (.imul, 1) := by decide +kernel
theorem dX11_sendsDue_44 : decode cX11_sendsDue 44 = .ok (.iaload, 1) := by decide +kernel
theorem dX11_sendsDue_45 : decode cX11_sendsDue 45 = .ok (.iconst 3, 1) := by decide +kernel
theorem dX11_sendsDue_46 : decode cX11_sendsDue 46 = .ok (.iadd, 1) := by decide +kernel
theorem dX11_sendsDue_47 : decode cX11_sendsDue 47 = .ok (.if_icmp .lt 4, 3) := by decide +kernel
theorem dX11_sendsDue_50 : decode cX11_sendsDue 50 = .ok (.return_, 1) := by decide +kernel
theorem dX11_sendsDue_51 : decode cX11_sendsDue 51 = .ok (.aload_n 0, 1) := by decide +kernel
theorem dX11_sendsDue_52 : decode cX11_sendsDue 52 = .ok (.getfield 86, 3) := by decide +kernel
theorem dX11_sendsDue_55 : decode cX11_sendsDue 55 = .ok (.iload_n 3, 1) := by decide +kernel
theorem dX11_sendsDue_56 : decode cX11_sendsDue 56 = .ok (.iaload, 1) := by decide +kernel
theorem dX11_sendsDue_57 : decode cX11_sendsDue 57 = .ok (.ifCond .lt 6, 3) := by decide +kernel
theorem dX11_sendsDue_60 : decode cX11_sendsDue 60 = .ok (.goto 50, 3) := by decide +kernel
theorem dX11_sendsDue_63 : decode cX11_sendsDue 63 = .ok (.aload_n 0, 1) := by decide +kernel
theorem dX11_sendsDue_64 : decode cX11_sendsDue 64 = .ok (.iload_n 1, 1) := by decide +kernel
theorem dX11_sendsDue_65 : decode cX11_sendsDue 65 = .ok (.aload_n 0, 1) := by decide +kernel
theorem dX11_sendsDue_66 : decode cX11_sendsDue 66 = .ok (.getfield 83, 3) := by decide +kernel
theorem dX11_sendsDue_69 : decode cX11_sendsDue 69 = .ok (.iload_n 3, 1) := by decide +kernel
theorem dX11_sendsDue_70 : decode cX11_sendsDue 70 = .ok (.iaload, 1) := by decide +kernel
theorem dX11_sendsDue_71 : decode cX11_sendsDue 71 = .ok (.iconst 1, 1) := by decide +kernel
theorem dX11_sendsDue_72 : decode cX11_sendsDue 72 = .ok (.if_icmp .ne 8, 3) := by decide +kernel
theorem dX11_sendsDue_75 : decode cX11_sendsDue 75 = .ok (.bipush 7, 2) := by decide +kernel
theorem dX11_sendsDue_77 : decode cX11_sendsDue 77 = .ok (.goto 4, 3) := by decide +kernel
theorem dX11_sendsDue_80 : decode cX11_sendsDue 80 = .ok (.iconst 4, 1) := by decide +kernel
theorem dX11_sendsDue_81 : decode cX11_sendsDue 81 = .ok (.aload_n 0, 1) := by decide +kernel
theorem dX11_sendsDue_82 : decode cX11_sendsDue 82 = .ok (.getfield 77, 3) := by decide +kernel
theorem dX11_sendsDue_85 : decode cX11_sendsDue 85 = .ok (.iload_n 3, 1) := by decide +kernel
theorem dX11_sendsDue_86 : decode cX11_sendsDue 86 = .ok (.iaload, 1) := by decide +kernel
theorem dX11_sendsDue_87 : decode cX11_sendsDue 87 = .ok (.aload_n 0, 1) := by decide +kernel
theorem dX11_sendsDue_88 : decode cX11_sendsDue 88 = .ok (.getfield 80, 3) := by decide +kernel
theorem dX11_sendsDue_91 : decode cX11_sendsDue 91 = .ok (.iload_n 3, 1) := by decide +kernel
theorem dX11_sendsDue_92 : decode cX11_sendsDue 92 = .ok (.iaload, 1) := by decide +kernel
theorem dX11_sendsDue_93 : decode cX11_sendsDue 93 = .ok (.invokevirtual 175, 3) := by decide +kernel
theorem dX11_sendsDue_96 : decode cX11_sendsDue 96 = .ok (.ifCond .ne 4, 3) := by decide +kernel
theorem dX11_sendsDue_99 : decode cX11_sendsDue 99 = .ok (.return_, 1) := by decide +kernel
theorem dX11_sendsDue_100 : decode cX11_sendsDue 100 = .ok (.aload_n 0, 1) := by decide +kernel
theorem dX11_sendsDue_101 : decode cX11_sendsDue 101 = .ok (.getfield 86, 3) := by decide +kernel
theorem dX11_sendsDue_104 : decode cX11_sendsDue 104 = .ok (.iload_n 3, 1) := by decide +kernel
theorem dX11_sendsDue_105 : decode cX11_sendsDue 105 = .ok (.aload_n 0, 1) := by decide +kernel
theorem dX11_sendsDue_106 : decode cX11_sendsDue 106 = .ok (.getfield 179, 3) := by decide +kernel
theorem dX11_sendsDue_109 : decode cX11_sendsDue 109 = .ok (.iastore, 1) := by decide +kernel
theorem dX11_sendsDue_110 : decode cX11_sendsDue 110 = .ok (.iinc 2 1, 3) := by decide +kernel
theorem dX11_sendsDue_113 : decode cX11_sendsDue 113 = .ok (.goto (-100), 3) := by decide +kernel
theorem dX11_sendsDue_116 : decode cX11_sendsDue 116 = .ok (.return_, 1) := by decide +kernel
theorem dX11_greets_0 : decode cX11_greets 0 = .ok (.aload_n 0, 1) := by decide +kernel
theorem dX11_greets_1 : decode cX11_greets 1 = .ok (.dup, 1) := by decide +kernel
theorem dX11_greets_2 : decode cX11_greets 2 = .ok (.getfield 182, 3) := by decide +kernel
theorem dX11_greets_5 : decode cX11_greets 5 = .ok (.iconst 1, 1) := by decide +kernel
theorem dX11_greets_6 : decode cX11_greets 6 = .ok (.iadd, 1) := by decide +kernel
theorem dX11_greets_7 : decode cX11_greets 7 = .ok (.putfield 182, 3) := by decide +kernel
theorem dX11_greets_10 : decode cX11_greets 10 = .ok (.aload_n 0, 1) := by decide +kernel
theorem dX11_greets_11 : decode cX11_greets 11 = .ok (.getfield 23, 3) := by decide +kernel
theorem dX11_greets_14 : decode cX11_greets 14 = .ok (.iconst 0, 1) := by decide +kernel
theorem dX11_greets_15 : decode cX11_greets 15 = .ok (.aload_n 0, 1) := by decide +kernel
theorem dX11_greets_16 : decode cX11_greets 16 = .ok (.getfield 182, 3) := by decide +kernel
theorem dX11_greets_19 : decode cX11_greets 19 = .ok (.iastore, 1) := by decide +kernel
theorem dX11_greets_20 : decode cX11_greets 20 = .ok (.aload_n 0, 1) := by decide +kernel
theorem dX11_greets_21 : decode cX11_greets 21 = .ok (.getfield 26, 3) := by decide +kernel
theorem dX11_greets_24 : decode cX11_greets 24 = .ok (.iconst 0, 1) := by decide +kernel
theorem dX11_greets_25 : decode cX11_greets 25 = .ok (.iload_n 1, 1) := by decide +kernel
theorem dX11_greets_26 : decode cX11_greets 26 = .ok (.iastore, 1) := by decide +kernel
theorem dX11_greets_27 : decode cX11_greets 27 = .ok (.aload_n 0, 1) := by decide +kernel
theorem dX11_greets_28 : decode cX11_greets 28 = .ok (.iload_n 2, 1) := by decide +kernel
theorem dX11_greets_29 : decode cX11_greets 29 = .ok (.putfield 101, 3) := by decide +kernel
theorem dX11_greets_32 : decode cX11_greets 32 = .ok (.aload_n 0, 1) := by decide +kernel
theorem dX11_greets_33 : decode cX11_greets 33 = .ok (.iconst 0, 1) := by decide +kernel
theorem dX11_greets_34 : decode cX11_greets 34 = .ok (.iconst 1, 1) := by decide +kernel
theorem dX11_greets_35 : decode cX11_greets 35 = .ok (.invokevirtual 185, 3) := by decide +kernel
theorem dX11_greets_38 : decode cX11_greets 38 = .ok (.aload_n 0, 1) := by decide +kernel
theorem dX11_greets_39 : decode cX11_greets 39 = .ok (.iconst 0, 1) := by decide +kernel
theorem dX11_greets_40 : decode cX11_greets 40 = .ok (.iconst 0, 1) := by decide +kernel
theorem dX11_greets_41 : decode cX11_greets 41 = .ok (.aload_n 0, 1) := by decide +kernel
theorem dX11_greets_42 : decode cX11_greets 42 = .ok (.getfield 182, 3) := by decide +kernel
theorem dX11_greets_45 : decode cX11_greets 45 = .ok (.iload_n 1, 1) := by decide +kernel
theorem dX11_greets_46 : decode cX11_greets 46 = .ok (.iload_n 2, 1) := by decide +kernel
theorem dX11_greets_47 : decode cX11_greets 47 = .ok (.invokevirtual 189, 3) := by decide +kernel
theorem dX11_greets_50 : decode cX11_greets 50 = .ok (.pop, 1) := by decide +kernel
theorem dX11_greets_51 : decode cX11_greets 51 = .ok (.aload_n 0, 1) := by decide +kernel
theorem dX11_greets_52 : decode cX11_greets 52 = .ok (.aload_n 0, 1) := by decide +kernel
theorem dX11_greets_53 : decode cX11_greets 53 = .ok (.getfield 179, 3) := by decide +kernel
theorem dX11_greets_56 : decode cX11_greets 56 = .ok (.putfield 193, 3) := by decide +kernel
theorem dX11_greets_59 : decode cX11_greets 59 = .ok (.return_, 1) := by decide +kernel
theorem dX11_connect_0 : decode cX11_connect 0 = .ok (.iload_n 1, 1) := by decide +kernel
theorem dX11_connect_1 : decode cX11_connect 1 = .ok (.iconst 0, 1) := by decide +kernel
theorem dX11_connect_2 : decode cX11_connect 2 = .ok (.sipush 9999, 3) := by decide +kernel
theorem dX11_connect_5 : decode cX11_connect 5 = .ok (.invokestatic 137, 3) := by decide +kernel
theorem dX11_connect_8 : decode cX11_connect 8 = .ok (.ifCond .ne 6, 3) := by decide +kernel
theorem dX11_connect_11 : decode cX11_connect 11 = .ok (.ldc 141, 2) := by decide +kernel
theorem dX11_connect_13 : decode cX11_connect 13 = .ok (.ireturn, 1) := by decide +kernel
theorem dX11_connect_14 : decode cX11_connect 14 = .ok (.aload_n 0, 1) := by decide +kernel
theorem dX11_connect_15 : decode cX11_connect 15 = .ok (.getfield 19, 3) := by decide +kernel
theorem dX11_connect_18 : decode cX11_connect 18 = .ok (.iconst 0, 1) := by decide +kernel
theorem dX11_connect_19 : decode cX11_connect 19 = .ok (.iaload, 1) := by decide +kernel
theorem dX11_connect_20 : decode cX11_connect 20 = .ok (.ifCond .eq 16, 3) := by decide +kernel
theorem dX11_connect_23 : decode cX11_connect 23 = .ok (.aload_n 0, 1) := by decide +kernel
theorem dX11_connect_24 : decode cX11_connect 24 = .ok (.getfield 19, 3) := by decide +kernel
theorem dX11_connect_27 : decode cX11_connect 27 = .ok (.iconst 0, 1) := by decide +kernel
theorem dX11_connect_28 : decode cX11_connect 28 = .ok (.iaload, 1) := by decide +kernel
theorem dX11_connect_29 : decode cX11_connect 29 = .ok (.iconst 4, 1) := by decide +kernel
theorem dX11_connect_30 : decode cX11_connect 30 = .ok (.if_icmp .eq 6, 3) := by decide +kernel
theorem dX11_connect_33 : decode cX11_connect 33 = .ok (.ldc 196, 2) := by decide +kernel
theorem dX11_connect_35 : decode cX11_connect 35 = .ok (.ireturn, 1) := by decide +kernel
theorem dX11_connect_36 : decode cX11_connect 36 = .ok (.aload_n 0, 1) := by decide +kernel
theorem dX11_connect_37 : decode cX11_connect 37 = .ok (.invokevirtual 159, 3) := by decide +kernel
theorem dX11_connect_40 : decode cX11_connect 40 = .ok (.ifCond .ne 6, 3) := by decide +kernel
theorem dX11_connect_43 : decode cX11_connect 43 = .ok (.ldc 197, 2) := by decide +kernel
theorem dX11_connect_45 : decode cX11_connect 45 = .ok (.ireturn, 1) := by decide +kernel
theorem dX11_connect_46 : decode cX11_connect 46 = .ok (.aload_n 0, 1) := by decide +kernel
theorem dX11_connect_47 : decode cX11_connect 47 = .ok (.iconst 0, 1) := by decide +kernel
theorem dX11_connect_48 : decode cX11_connect 48 = .ok (.invokevirtual 198, 3) := by decide +kernel
theorem dX11_connect_51 : decode cX11_connect 51 = .ok (.aload_n 0, 1) := by decide +kernel
theorem dX11_connect_52 : decode cX11_connect 52 = .ok (.iload_n 1, 1) := by decide +kernel
theorem dX11_connect_53 : decode cX11_connect 53 = .ok (.iconst (-1), 1) := by decide +kernel
theorem dX11_connect_54 : decode cX11_connect 54 = .ok (.invokevirtual 201, 3) := by decide +kernel
theorem dX11_connect_57 : decode cX11_connect 57 = .ok (.aload_n 0, 1) := by decide +kernel
theorem dX11_connect_58 : decode cX11_connect 58 = .ok (.getfield 182, 3) := by decide +kernel
theorem dX11_connect_61 : decode cX11_connect 61 = .ok (.ireturn, 1) := by decide +kernel
theorem dX11_resume_0 : decode cX11_resume 0 = .ok (.iload_n 1, 1) := by decide +kernel
theorem dX11_resume_1 : decode cX11_resume 1 = .ok (.iconst 0, 1) := by decide +kernel
theorem dX11_resume_2 : decode cX11_resume 2 = .ok (.sipush 9999, 3) := by decide +kernel
theorem dX11_resume_5 : decode cX11_resume 5 = .ok (.invokestatic 137, 3) := by decide +kernel
theorem dX11_resume_8 : decode cX11_resume 8 = .ok (.ifCond .ne 6, 3) := by decide +kernel
theorem dX11_resume_11 : decode cX11_resume 11 = .ok (.ldc 141, 2) := by decide +kernel
theorem dX11_resume_13 : decode cX11_resume 13 = .ok (.ireturn, 1) := by decide +kernel
theorem dX11_resume_14 : decode cX11_resume 14 = .ok (.aload_n 0, 1) := by decide +kernel
theorem dX11_resume_15 : decode cX11_resume 15 = .ok (.getfield 19, 3) := by decide +kernel
theorem dX11_resume_18 : decode cX11_resume 18 = .ok (.iconst 0, 1) := by decide +kernel
theorem dX11_resume_19 : decode cX11_resume 19 = .ok (.iaload, 1) := by decide +kernel
theorem dX11_resume_20 : decode cX11_resume 20 = .ok (.ifCond .eq 6, 3) := by decide +kernel
theorem dX11_resume_23 : decode cX11_resume 23 = .ok (.ldc 196, 2) := by decide +kernel
theorem dX11_resume_25 : decode cX11_resume 25 = .ok (.ireturn, 1) := by decide +kernel
theorem dX11_resume_26 : decode cX11_resume 26 = .ok (.aload_n 0, 1) := by decide +kernel
theorem dX11_resume_27 : decode cX11_resume 27 = .ok (.getfield 98, 3) := by decide +kernel
theorem dX11_resume_30 : decode cX11_resume 30 = .ok (.ifCond .ge 6, 3) := by decide +kernel
theorem dX11_resume_33 : decode cX11_resume 33 = .ok (.ldc 204, 2) := by decide +kernel
theorem dX11_resume_35 : decode cX11_resume 35 = .ok (.ireturn, 1) := by decide +kernel
theorem dX11_resume_36 : decode cX11_resume 36 = .ok (.aload_n 0, 1) := by decide +kernel
theorem dX11_resume_37 : decode cX11_resume 37 = .ok (.invokevirtual 159, 3) := by decide +kernel
theorem dX11_resume_40 : decode cX11_resume 40 = .ok (.ifCond .ne 6, 3) := by decide +kernel
theorem dX11_resume_43 : decode cX11_resume 43 = .ok (.ldc 197, 2) := by decide +kernel
theorem dX11_resume_45 : decode cX11_resume 45 = .ok (.ireturn, 1) := by decide +kernel
theorem dX11_resume_46 : decode cX11_resume 46 = .ok (.aload_n 0, 1) := by decide +kernel
theorem dX11_resume_47 : decode cX11_resume 47 = .ok (.getfield 98, 3) := by decide +kernel
theorem dX11_resume_50 : decode cX11_resume 50 = .ok (.istore_n 2, 1) := by decide +kernel
theorem dX11_resume_51 : decode cX11_resume 51 = .ok (.aload_n 0, 1) := by decide +kernel
theorem dX11_resume_52 : decode cX11_resume 52 = .ok (.iconst (-1), 1) := by decide +kernel
theorem dX11_resume_53 : decode cX11_resume 53 = .ok (.putfield 98, 3) := by decide +kernel
theorem dX11_resume_56 : decode cX11_resume 56 = .ok (.aload_n 0, 1) := by decide +kernel
theorem dX11_resume_57 : decode cX11_resume 57 = .ok (.iload_n 1, 1) := by decide +kernel
theorem dX11_resume_58 : decode cX11_resume 58 = .ok (.iload_n 2, 1) := by decide +kernel
theorem dX11_resume_59 : decode cX11_resume 59 = .ok (.invokevirtual 201, 3) := by decide +kernel
theorem dX11_resume_62 : decode cX11_resume 62 = .ok (.aload_n 0, 1) := by decide +kernel
theorem dX11_resume_63 : decode cX11_resume 63 = .ok (.getfield 182, 3) := by decide +kernel
theorem dX11_resume_66 : decode cX11_resume 66 = .ok (.ireturn, 1) := by decide +kernel
theorem dX11_disconnect_0 : decode cX11_disconnect 0 = .ok (.aload_n 0, 1) := by decide +kernel
theorem dX11_disconnect_1 : decode cX11_disconnect 1 = .ok (.getfield 153, 3) := by decide +kernel
theorem dX11_disconnect_4 : decode cX11_disconnect 4 = .ok (.istore_n 1, 1) := by decide +kernel
theorem dX11_disconnect_5 : decode cX11_disconnect 5 = .ok (.aload_n 0, 1) := by decide +kernel
theorem dX11_disconnect_6 : decode cX11_disconnect 6 = .ok (.iconst 0, 1) := by decide +kernel
theorem dX11_disconnect_7 : decode cX11_disconnect 7 = .ok (.putfield 153, 3) := by decide +kernel
theorem dX11_disconnect_10 : decode cX11_disconnect 10 = .ok (.aload_n 0, 1) := by decide +kernel
theorem dX11_disconnect_11 : decode cX11_disconnect 11 = .ok (.dup, 1) := by decide +kernel
theorem dX11_disconnect_12 : decode cX11_disconnect 12 = .ok (.getfield 205, 3) := by decide +kernel
theorem dX11_disconnect_15 : decode cX11_disconnect 15 = .ok (.iload_n 1, 1) := by decide +kernel
theorem dX11_disconnect_16 : decode cX11_disconnect 16 = .ok (.iadd, 1) := by decide +kernel
theorem dX11_disconnect_17 : decode cX11_disconnect 17 = .ok (.putfield 205, 3) := by decide +kernel
theorem dX11_disconnect_20 : decode cX11_disconnect 20 = .ok (.iconst 0, 1) := by decide +kernel
theorem dX11_disconnect_21 : decode cX11_disconnect 21 = .ok (.istore_n 2, 1) := by decide +kernel
theorem dX11_disconnect_22 : decode cX11_disconnect 22 = .ok (.iload_n 2, 1) := by decide +kernel
theorem dX11_disconnect_23 : decode cX11_disconnect 23 = .ok (.iconst 2, 1) := by decide +kernel
theorem dX11_disconnect_24 : decode cX11_disconnect 24 = .ok (.if_icmp .ge 30, 3) := by decide +kernel
theorem dX11_disconnect_27 : decode cX11_disconnect 27 = .ok (.aload_n 0, 1) := by decide +kernel
theorem dX11_disconnect_28 : decode cX11_disconnect 28 = .ok (.getfield 19, 3) := by decide +kernel
theorem dX11_disconnect_31 : decode cX11_disconnect 31 = .ok (.iload_n 2, 1) := by decide +kernel
theorem dX11_disconnect_32 : decode cX11_disconnect 32 = .ok (.iaload, 1) := by decide +kernel
theorem dX11_disconnect_33 : decode cX11_disconnect 33 = .ok (.iconst 4, 1) := by decide +kernel
theorem dX11_disconnect_34 : decode cX11_disconnect 34 = .ok (.if_icmp .eq 9, 3) := by decide +kernel
theorem dX11_disconnect_37 : decode cX11_disconnect 37 = .ok (.aload_n 0, 1) := by decide +kernel
theorem dX11_disconnect_38 : decode cX11_disconnect 38 = .ok (.iload_n 2, 1) := by decide +kernel
theorem dX11_disconnect_39 : decode cX11_disconnect 39 = .ok (.iconst 0, 1) := by decide +kernel
theorem dX11_disconnect_40 : decode cX11_disconnect 40 = .ok (.invokevirtual 185, 3) := by decide +kernel
theorem dX11_disconnect_43 : decode cX11_disconnect 43 = .ok (.aload_n 0, 1) := by decide +kernel
theorem dX11_disconnect_44 : decode cX11_disconnect 44 = .ok (.iload_n 2, 1) := by decide +kernel
theorem dX11_disconnect_45 : decode cX11_disconnect 45 = .ok (.invokevirtual 146, 3) := by decide +kernel
theorem dX11_disconnect_48 : decode cX11_disconnect 48 = .ok (.iinc 2 1, 3) := by decide +kernel
theorem dX11_disconnect_51 : decode cX11_disconnect 51 = .ok (.goto (-29), 3) := by decide +kernel
theorem dX11_disconnect_54 : decode cX11_disconnect 54 = .ok (.iload_n 1, 1) := by decide +kernel
theorem dX11_disconnect_55 : decode cX11_disconnect 55 = .ok (.ireturn, 1) := by decide +kernel
theorem dX11_notSending_0 : decode cX11_notSending 0 = .ok (.aload_n 0, 1) := by decide +kernel
theorem dX11_notSending_1 : decode cX11_notSending 1 = .ok (.getfield 62, 3) := by decide +kernel
theorem dX11_notSending_4 : decode cX11_notSending 4 = .ok (.iload_n 1, 1) := by decide +kernel
theorem dX11_notSending_5 : decode cX11_notSending 5 = .ok (.iaload, 1) := by decide +kernel
theorem dX11_notSending_6 : decode cX11_notSending 6 = .ok (.ifCond .ge 13, 3) := by decide +kernel
theorem dX11_notSending_9 : decode cX11_notSending 9 = .ok (.aload_n 0, 1) := by decide +kernel
theorem dX11_notSending_10 : decode cX11_notSending 10 = .ok (.getfield 19, 3) := by decide +kernel
theorem dX11_notSending_13 : decode cX11_notSending 13 = .ok (.iload_n 1, 1) := by decide +kernel
theorem dX11_notSending_14 : decode cX11_notSending 14 = .ok (.iaload, 1) := by decide +kernel
theorem dX11_notSending_15 : decode cX11_notSending 15 = .ok (.iconst 4, 1) := by decide +kernel
theorem dX11_notSending_16 : decode cX11_notSending 16 = .ok (.if_icmp .ne 8, 3) := by decide +kernel
theorem dX11_notSending_19 : decode cX11_notSending 19 = .ok (.ldc 196, 2) := by decide +kernel
theorem dX11_notSending_21 : decode cX11_notSending 21 = .ok (.goto 20, 3) := by decide +kernel
theorem dX11_notSending_24 : decode cX11_notSending 24 = .ok (.aload_n 0, 1) := by decide +kernel
theorem dX11_notSending_25 : decode cX11_notSending 25 = .ok (.getfield 71, 3) := by decide +kernel
theorem dX11_notSending_28 : decode cX11_notSending 28 = .ok (.iload_n 1, 1) := by decide +kernel
theorem dX11_notSending_29 : decode cX11_notSending 29 = .ok (.iaload, 1) := by decide +kernel
theorem dX11_notSending_30 : decode cX11_notSending 30 = .ok (.bipush 16, 2) := by decide +kernel
theorem dX11_notSending_32 : decode cX11_notSending 32 = .ok (.if_icmp .ne 8, 3) := by decide +kernel
theorem dX11_notSending_35 : decode cX11_notSending 35 = .ok (.ldc 197, 2) := by decide +kernel
theorem dX11_notSending_37 : decode cX11_notSending 37 = .ok (.goto 4, 3) := by decide +kernel
theorem dX11_notSending_40 : decode cX11_notSending 40 = .ok (.iconst 0, 1) := by decide +kernel
theorem dX11_notSending_41 : decode cX11_notSending 41 = .ok (.ireturn, 1) := by decide +kernel
theorem dX11_comes_0 : decode cX11_comes 0 = .ok (.bipush 16, 2) := by decide +kernel
theorem dX11_comes_2 : decode cX11_comes 2 = .ok (.iload_n 1, 1) := by decide +kernel
theorem dX11_comes_3 : decode cX11_comes 3 = .ok (.imul, 1) := by decide +kernel
theorem dX11_comes_4 : decode cX11_comes 4 = .ok (.aload_n 0, 1) := by decide +kernel
theorem dX11_comes_5 : decode cX11_comes 5 = .ok (.getfield 71, 3) := by decide +kernel
theorem dX11_comes_8 : decode cX11_comes 8 = .ok (.iload_n 1, 1) := by decide +kernel
theorem dX11_comes_9 : decode cX11_comes 9 = .ok (.iaload, 1) := by decide +kernel
theorem dX11_comes_10 : decode cX11_comes 10 = .ok (.iadd, 1) := by decide +kernel
theorem dX11_comes_11 : decode cX11_comes 11 = .ok (.istore 4, 2) := by decide +kernel
theorem dX11_comes_13 : decode cX11_comes 13 = .ok (.aload_n 0, 1) := by decide +kernel
theorem dX11_comes_14 : decode cX11_comes 14 = .ok (.getfield 77, 3) := by decide +kernel
theorem dX11_comes_17 : decode cX11_comes 17 = .ok (.iload 4, 2) := by decide +kernel
theorem dX11_comes_19 : decode cX11_comes 19 = .ok (.aload_n 0, 1) := by decide +kernel
theorem dX11_comes_20 : decode cX11_comes 20 = .ok (.getfield 59, 3) := by decide +kernel
theorem dX11_comes_23 : decode cX11_comes 23 = .ok (.iload_n 1, 1) := by decide +kernel
theorem dX11_comes_24 : decode cX11_comes 24 = .ok (.iaload, 1) := by decide +kernel
theorem dX11_comes_25 : decode cX11_comes 25 = .ok (.iastore, 1) := by decide +kernel
theorem dX11_comes_26 : decode cX11_comes 26 = .ok (.aload_n 0, 1) := by decide +kernel
theorem dX11_comes_27 : decode cX11_comes 27 = .ok (.getfield 80, 3) := by decide +kernel
theorem dX11_comes_30 : decode cX11_comes 30 = .ok (.iload 4, 2) := by decide +kernel
theorem dX11_comes_32 : decode cX11_comes 32 = .ok (.iload_n 2, 1) := by decide +kernel
theorem dX11_comes_33 : decode cX11_comes 33 = .ok (.iastore, 1) := by decide +kernel
theorem dX11_comes_34 : decode cX11_comes 34 = .ok (.aload_n 0, 1) := by decide +kernel
theorem dX11_comes_35 : decode cX11_comes 35 = .ok (.getfield 83, 3) := by decide +kernel
theorem dX11_comes_38 : decode cX11_comes 38 = .ok (.iload 4, 2) := by decide +kernel
theorem dX11_comes_40 : decode cX11_comes 40 = .ok (.iload_n 3, 1) := by decide +kernel
theorem dX11_comes_41 : decode cX11_comes 41 = .ok (.ifCond .eq 7, 3) := by decide +kernel
theorem dX11_comes_44 : decode cX11_comes 44 = .ok (.iconst 1, 1) := by decide +kernel
theorem dX11_comes_45 : decode cX11_comes 45 = .ok (.goto 4, 3) := by decide +kernel
theorem dX11_comes_48 : decode cX11_comes 48 = .ok (.iconst 0, 1) := by decide +kernel
theorem dX11_comes_49 : decode cX11_comes 49 = .ok (.iastore, 1) := by decide +kernel
theorem dX11_comes_50 : decode cX11_comes 50 = .ok (.aload_n 0, 1) := by decide +kernel
theorem dX11_comes_51 : decode cX11_comes 51 = .ok (.getfield 86, 3) := by decide +kernel
theorem dX11_comes_54 : decode cX11_comes 54 = .ok (.iload 4, 2) := by decide +kernel
theorem dX11_comes_56 : decode cX11_comes 56 = .ok (.iconst (-1), 1) := by decide +kernel
theorem dX11_comes_57 : decode cX11_comes 57 = .ok (.iastore, 1) := by decide +kernel
theorem dX11_comes_58 : decode cX11_comes 58 = .ok (.aload_n 0, 1) := by decide +kernel
theorem dX11_comes_59 : decode cX11_comes 59 = .ok (.getfield 71, 3) := by decide +kernel
theorem dX11_comes_62 : decode cX11_comes 62 = .ok (.iload_n 1, 1) := by decide +kernel
theorem dX11_comes_63 : decode cX11_comes 63 = .ok (.dup2, 1) := by decide +kernel
theorem dX11_comes_64 : decode cX11_comes 64 = .ok (.iaload, 1) := by decide +kernel
theorem dX11_comes_65 : decode cX11_comes 65 = .ok (.iconst 1, 1) := by decide +kernel
theorem dX11_comes_66 : decode cX11_comes 66 = .ok (.iadd, 1) := by decide +kernel
theorem dX11_comes_67 : decode cX11_comes 67 = .ok (.iastore, 1) := by decide +kernel
theorem dX11_comes_68 : decode cX11_comes 68 = .ok (.aload_n 0, 1) := by decide +kernel
theorem dX11_comes_69 : decode cX11_comes 69 = .ok (.getfield 59, 3) := by decide +kernel
theorem dX11_comes_72 : decode cX11_comes 72 = .ok (.iload_n 1, 1) := by decide +kernel
theorem dX11_comes_73 : decode cX11_comes 73 = .ok (.dup2, 1) := by decide +kernel
theorem dX11_comes_74 : decode cX11_comes 74 = .ok (.iaload, 1) := by decide +kernel
theorem dX11_comes_75 : decode cX11_comes 75 = .ok (.iconst 1, 1) := by decide +kernel
theorem dX11_comes_76 : decode cX11_comes 76 = .ok (.iadd, 1) := by decide +kernel
theorem dX11_comes_77 : decode cX11_comes 77 = .ok (.iastore, 1) := by decide +kernel
theorem dX11_comes_78 : decode cX11_comes 78 = .ok (.iload_n 3, 1) := by decide +kernel
theorem dX11_comes_79 : decode cX11_comes 79 = .ok (.ifCond .eq 16, 3) := by decide +kernel
theorem dX11_comes_82 : decode cX11_comes 82 = .ok (.aload_n 0, 1) := by decide +kernel
theorem dX11_comes_83 : decode cX11_comes 83 = .ok (.getfield 62, 3) := by decide +kernel
theorem dX11_comes_86 : decode cX11_comes 86 = .ok (.iload_n 1, 1) := by decide +kernel
theorem dX11_comes_87 : decode cX11_comes 87 = .ok (.aload_n 0, 1) := by decide +kernel
theorem dX11_comes_88 : decode cX11_comes 88 = .ok (.getfield 77, 3) := by decide +kernel
theorem dX11_comes_91 : decode cX11_comes 91 = .ok (.iload 4, 2) := by decide +kernel
theorem dX11_comes_93 : decode cX11_comes 93 = .ok (.iaload, 1) := by decide +kernel
theorem dX11_comes_94 : decode cX11_comes 94 = .ok (.iastore, 1) := by decide +kernel
theorem dX11_comes_95 : decode cX11_comes 95 = .ok (.aload_n 0, 1) := by decide +kernel
theorem dX11_comes_96 : decode cX11_comes 96 = .ok (.getfield 77, 3) := by decide +kernel
theorem dX11_comes_99 : decode cX11_comes 99 = .ok (.iload 4, 2) := by decide +kernel
theorem dX11_comes_101 : decode cX11_comes 101 = .ok (.iaload, 1) := by decide +kernel
theorem dX11_comes_102 : decode cX11_comes 102 = .ok (.istore 5, 2) := by decide +kernel
theorem dX11_comes_104 : decode cX11_comes 104 = .ok (.aload_n 0, 1) := by decide +kernel
theorem dX11_comes_105 : decode cX11_comes 105 = .ok (.iload_n 1, 1) := by decide +kernel
theorem dX11_comes_106 : decode cX11_comes 106 = .ok (.invokevirtual 208, 3) := by decide +kernel
theorem dX11_comes_109 : decode cX11_comes 109 = .ok (.iload 5, 2) := by decide +kernel
theorem dX11_comes_111 : decode cX11_comes 111 = .ok (.ireturn, 1) := by decide +kernel
theorem dX11_send_0 : decode cX11_send 0 = .ok (.iload_n 1, 1) := by decide +kernel
theorem dX11_send_1 : decode cX11_send 1 = .ok (.invokestatic 211, 3) := by decide +kernel
theorem dX11_send_4 : decode cX11_send 4 = .ok (.ifCond .eq 16, 3) := by decide +kernel
theorem dX11_send_7 : decode cX11_send 7 = .ok (.iload_n 2, 1) := by decide +kernel
theorem dX11_send_8 : decode cX11_send 8 = .ok (.sipush (-999), 3) := by decide +kernel
theorem dX11_send_11 : decode cX11_send 11 = .ok (.sipush 999, 3) := by decide +kernel
theorem dX11_send_14 : decode cX11_send 14 = .ok (.invokestatic 137, 3) := by decide +kernel
theorem dX11_send_17 : decode cX11_send 17 = .ok (.ifCond .ne 6, 3) := by decide +kernel
theorem dX11_send_20 : decode cX11_send 20 = .ok (.ldc 141, 2) := by decide +kernel
theorem dX11_send_22 : decode cX11_send 22 = .ok (.ireturn, 1) := by decide +kernel
theorem dX11_send_23 : decode cX11_send 23 = .ok (.aload_n 0, 1) := by decide +kernel
theorem dX11_send_24 : decode cX11_send 24 = .ok (.iload_n 1, 1) := by decide +kernel
theorem dX11_send_25 : decode cX11_send 25 = .ok (.invokevirtual 215, 3) := by decide +kernel
theorem dX11_send_28 : decode cX11_send 28 = .ok (.istore_n 3, 1) := by decide +kernel
theorem dX11_send_29 : decode cX11_send 29 = .ok (.iload_n 3, 1) := by decide +kernel
theorem dX11_send_30 : decode cX11_send 30 = .ok (.ifCond .eq 7, 3) := by decide +kernel
theorem dX11_send_33 : decode cX11_send 33 = .ok (.iload_n 3, 1) := by decide +kernel
theorem dX11_send_34 : decode cX11_send 34 = .ok (.goto 10, 3) := by decide +kernel
theorem dX11_send_37 : decode cX11_send 37 = .ok (.aload_n 0, 1) := by decide +kernel
theorem dX11_send_38 : decode cX11_send 38 = .ok (.iload_n 1, 1) := by decide +kernel
theorem dX11_send_39 : decode cX11_send 39 = .ok (.iload_n 2, 1) := by decide +kernel
theorem dX11_send_40 : decode cX11_send 40 = .ok (.iconst 0, 1) := by decide +kernel
theorem dX11_send_41 : decode cX11_send 41 = .ok (.invokevirtual 219, 3) := by decide +kernel
theorem dX11_send_44 : decode cX11_send 44 = .ok (.ireturn, 1) := by decide +kernel
theorem dX11_close_0 : decode cX11_close 0 = .ok (.iload_n 1, 1) := by decide +kernel
theorem dX11_close_1 : decode cX11_close 1 = .ok (.invokestatic 211, 3) := by decide +kernel
theorem dX11_close_4 : decode cX11_close 4 = .ok (.ifCond .ne 6, 3) := by decide +kernel
theorem dX11_close_7 : decode cX11_close 7 = .ok (.ldc 141, 2) := by decide +kernel
theorem dX11_close_9 : decode cX11_close 9 = .ok (.ireturn, 1) := by decide +kernel
theorem dX11_close_10 : decode cX11_close 10 = .ok (.aload_n 0, 1) := by decide +kernel
theorem dX11_close_11 : decode cX11_close 11 = .ok (.iload_n 1, 1) := by decide +kernel
theorem dX11_close_12 : decode cX11_close 12 = .ok (.invokevirtual 215, 3) := by decide +kernel
theorem dX11_close_15 : decode cX11_close 15 = .ok (.istore_n 2, 1) := by decide +kernel
theorem dX11_close_16 : decode cX11_close 16 = .ok (.iload_n 2, 1) := by decide +kernel
theorem dX11_close_17 : decode cX11_close 17 = .ok (.ifCond .eq 7, 3) := by decide +kernel
theorem dX11_close_20 : decode cX11_close 20 = .ok (.iload_n 2, 1) := by decide +kernel
theorem dX11_close_21 : decode cX11_close 21 = .ok (.goto 10, 3) := by decide +kernel
theorem dX11_close_24 : decode cX11_close 24 = .ok (.aload_n 0, 1) := by decide +kernel
theorem dX11_close_25 : decode cX11_close 25 = .ok (.iload_n 1, 1) := by decide +kernel
theorem dX11_close_26 : decode cX11_close 26 = .ok (.iconst 0, 1) := by decide +kernel
theorem dX11_close_27 : decode cX11_close 27 = .ok (.iconst 1, 1) := by decide +kernel
theorem dX11_close_28 : decode cX11_close 28 = .ok (.invokevirtual 219, 3) := by decide +kernel
theorem dX11_close_31 : decode cX11_close 31 = .ok (.ireturn, 1) := by decide +kernel
theorem dX11_takesKind_0 : decode cX11_takesKind 0 = .ok (.iload_n 2, 1) := by decide +kernel
theorem dX11_takesKind_1 : decode cX11_takesKind 1 = .ok (.ifCond .ne 43, 3) := by decide +kernel
theorem dX11_takesKind_4 : decode cX11_takesKind 4 = .ok (.iload_n 1, 1) := by decide +kernel
theorem dX11_takesKind_5 : decode cX11_takesKind 5 = .ok (.iconst 1, 1) := by decide +kernel
theorem dX11_takesKind_6 : decode cX11_takesKind 6 = .ok (.if_icmp .ne 36, 3) := by decide +kernel
theorem dX11_takesKind_9 : decode cX11_takesKind 9 = .ok (.aload_n 0, 1) := by decide +kernel
theorem dX11_takesKind_10 : decode cX11_takesKind 10 = .ok (.getfield 19, 3) := by decide +kernel
theorem dX11_takesKind_13 : decode cX11_takesKind 13 = .ok (.iconst 1, 1) := by decide +kernel
theorem dX11_takesKind_14 : decode cX11_takesKind 14 = .ok (.iaload, 1) := by decide +kernel
theorem dX11_takesKind_15 : decode cX11_takesKind 15 = .ok (.ifCond .eq 23, 3) := by decide +kernel
theorem dX11_takesKind_18 : decode cX11_takesKind 18 = .ok (.aload_n 0, 1) := by decide +kernel
theorem dX11_takesKind_19 : decode cX11_takesKind 19 = .ok (.getfield 19, 3) := by decide +kernel
theorem dX11_takesKind_22 : decode cX11_takesKind 22 = .ok (.iconst 1, 1) := by decide +kernel
theorem dX11_takesKind_23 : decode cX11_takesKind 23 = .ok (.iaload, 1) := by decide +kernel
theorem dX11_takesKind_24 : decode cX11_takesKind 24 = .ok (.iconst 2, 1) := by decide +kernel
theorem dX11_takesKind_25 : decode cX11_takesKind 25 = .ok (.if_icmp .eq 13, 3) := by decide +kernel
theorem dX11_takesKind_28 : decode cX11_takesKind 28 = .ok (.aload_n 0, 1) := by decide +kernel
theorem dX11_takesKind_29 : decode cX11_takesKind 29 = .ok (.getfield 19, 3) := by decide +kernel
theorem dX11_takesKind_32 : decode cX11_takesKind 32 = .ok (.iconst 1, 1) := by decide +kernel
theorem dX11_takesKind_33 : decode cX11_takesKind 33 = .ok (.iaload, 1) := by decide +kernel
theorem dX11_takesKind_34 : decode cX11_takesKind 34 = .ok (.iconst 4, 1) := by decide +kernel
theorem dX11_takesKind_35 : decode cX11_takesKind 35 = .ok (.if_icmp .ne 7, 3) := by decide +kernel
theorem dX11_takesKind_38 : decode cX11_takesKind 38 = .ok (.iconst 1, 1) := by decide +kernel
theorem dX11_takesKind_39 : decode cX11_takesKind 39 = .ok (.goto 4, 3) := by decide +kernel
theorem dX11_takesKind_42 : decode cX11_takesKind 42 = .ok (.iconst 0, 1) := by decide +kernel
theorem dX11_takesKind_43 : decode cX11_takesKind 43 = .ok (.ireturn, 1) := by decide +kernel
theorem dX11_takesKind_44 : decode cX11_takesKind 44 = .ok (.iload_n 2, 1) := by decide +kernel
theorem dX11_takesKind_45 : decode cX11_takesKind 45 = .ok (.iconst 1, 1) := by decide +kernel
theorem dX11_takesKind_46 : decode cX11_takesKind 46 = .ok (.if_icmp .eq 8, 3) := by decide +kernel
theorem dX11_takesKind_49 : decode cX11_takesKind 49 = .ok (.iload_n 2, 1) := by decide +kernel
theorem dX11_takesKind_50 : decode cX11_takesKind 50 = .ok (.iconst 2, 1) := by decide +kernel
theorem dX11_takesKind_51 : decode cX11_takesKind 51 = .ok (.if_icmp .ne 23, 3) := by decide +kernel
theorem dX11_takesKind_54 : decode cX11_takesKind 54 = .ok (.iload_n 1, 1) := by decide +kernel
theorem dX11_takesKind_55 : decode cX11_takesKind 55 = .ok (.ifCond .ne 17, 3) := by decide +kernel
theorem dX11_takesKind_58 : decode cX11_takesKind 58 = .ok (.aload_n 0, 1) := by decide +kernel
theorem dX11_takesKind_59 : decode cX11_takesKind 59 = .ok (.getfield 19, 3) := by decide +kernel
theorem dX11_takesKind_62 : decode cX11_takesKind 62 = .ok (.iconst 0, 1) := by decide +kernel
theorem dX11_takesKind_63 : decode cX11_takesKind 63 = .ok (.iaload, 1) := by decide +kernel
theorem dX11_takesKind_64 : decode cX11_takesKind 64 = .ok (.iconst 1, 1) := by decide +kernel
theorem dX11_takesKind_65 : decode cX11_takesKind 65 = .ok (.if_icmp .ne 7, 3) := by decide +kernel
theorem dX11_takesKind_68 : decode cX11_takesKind 68 = .ok (.iconst 1, 1) := by decide +kernel
theorem dX11_takesKind_69 : decode cX11_takesKind 69 = .ok (.goto 4, 3) := by decide +kernel
theorem dX11_takesKind_72 : decode cX11_takesKind 72 = .ok (.iconst 0, 1) := by decide +kernel
theorem dX11_takesKind_73 : decode cX11_takesKind 73 = .ok (.ireturn, 1) := by decide +kernel
theorem dX11_takesKind_74 : decode cX11_takesKind 74 = .ok (.iload_n 2, 1) := by decide +kernel
theorem dX11_takesKind_75 : decode cX11_takesKind 75 = .ok (.bipush 6, 2) := by decide +kernel
theorem dX11_takesKind_77 : decode cX11_takesKind 77 = .ok (.if_icmp .ne 23, 3) := by decide +kernel
theorem dX11_takesKind_80 : decode cX11_takesKind 80 = .ok (.iload_n 1, 1) := by decide +kernel
theorem dX11_takesKind_81 : decode cX11_takesKind 81 = .ok (.ifCond .ne 17, 3) := by decide +kernel
theorem dX11_takesKind_84 : decode cX11_takesKind 84 = .ok (.aload_n 0, 1) := by decide +kernel
theorem dX11_takesKind_85 : decode cX11_takesKind 85 = .ok (.getfield 19, 3) := by decide +kernel
theorem dX11_takesKind_88 : decode cX11_takesKind 88 = .ok (.iconst 0, 1) := by decide +kernel
theorem dX11_takesKind_89 : decode cX11_takesKind 89 = .ok (.iaload, 1) := by decide +kernel
theorem dX11_takesKind_90 : decode cX11_takesKind 90 = .ok (.iconst 3, 1) := by decide +kernel
theorem dX11_takesKind_91 : decode cX11_takesKind 91 = .ok (.if_icmp .ne 7, 3) := by decide +kernel
theorem dX11_takesKind_94 : decode cX11_takesKind 94 = .ok (.iconst 1, 1) := by decide +kernel
theorem dX11_takesKind_95 : decode cX11_takesKind 95 = .ok (.goto 4, 3) := by decide +kernel
theorem dX11_takesKind_98 : decode cX11_takesKind 98 = .ok (.iconst 0, 1) := by decide +kernel
theorem dX11_takesKind_99 : decode cX11_takesKind 99 = .ok (.ireturn, 1) := by decide +kernel
theorem dX11_takesKind_100 : decode cX11_takesKind 100 = .ok (.aload_n 0, 1) := by decide +kernel
theorem dX11_takesKind_101 : decode cX11_takesKind 101 = .ok (.getfield 19, 3) := by decide +kernel
theorem dX11_takesKind_104 : decode cX11_takesKind 104 = .ok (.iload_n 1, 1) := by decide +kernel
theorem dX11_takesKind_105 : decode cX11_takesKind 105 = .ok (.iaload, 1) := by decide +kernel
theorem dX11_takesKind_106 : decode cX11_takesKind 106 = .ok (.iconst 3, 1) := by decide +kernel
theorem dX11_takesKind_107 : decode cX11_takesKind 107 = .ok (.if_icmp .eq 23, 3) := by decide +kernel
theorem dX11_takesKind_110 : decode cX11_takesKind 110 = .ok (.aload_n 0, 1) := by decide +kernel
theorem dX11_takesKind_111 : decode cX11_takesKind 111 = .ok (.getfield 19, 3) := by decide +kernel
theorem dX11_takesKind_114 : decode cX11_takesKind 114 = .ok (.iload_n 1, 1) := by decide +kernel
theorem dX11_takesKind_115 : decode cX11_takesKind 115 = .ok (.iaload, 1) := by decide +kernel
theorem dX11_takesKind_116 : decode cX11_takesKind 116 = .ok (.iconst 2, 1) := by decide +kernel
theorem dX11_takesKind_117 : decode cX11_takesKind 117 = .ok (.if_icmp .eq 13, 3) := by decide +kernel
theorem dX11_takesKind_120 : decode cX11_takesKind 120 = .ok (.aload_n 0, 1) := by decide +kernel
theorem dX11_takesKind_121 : decode cX11_takesKind 121 = .ok (.getfield 19, 3) := by decide +kernel
theorem dX11_takesKind_124 : decode cX11_takesKind 124 = .ok (.iload_n 1, 1) := by decide +kernel
theorem dX11_takesKind_125 : decode cX11_takesKind 125 = .ok (.iaload, 1) := by decide +kernel
theorem dX11_takesKind_126 : decode cX11_takesKind 126 = .ok (.iconst 4, 1) := by decide +kernel
theorem dX11_takesKind_127 : decode cX11_takesKind 127 = .ok (.if_icmp .ne 7, 3) := by decide +kernel
theorem dX11_takesKind_130 : decode cX11_takesKind 130 = .ok (.iconst 1, 1) := by decide +kernel
theorem dX11_takesKind_131 : decode cX11_takesKind 131 = .ok (.goto 4, 3) := by decide +kernel
theorem dX11_takesKind_134 : decode cX11_takesKind 134 = .ok (.iconst 0, 1) := by decide +kernel
theorem dX11_takesKind_135 : decode cX11_takesKind 135 = .ok (.ireturn, 1) := by decide +kernel
theorem dX11_isTicket_0 : decode cX11_isTicket 0 = .ok (.iload_n 1, 1) := by decide +kernel
theorem dX11_isTicket_1 : decode cX11_isTicket 1 = .ok (.iconst 0, 1) := by decide +kernel
theorem dX11_isTicket_2 : decode cX11_isTicket 2 = .ok (.aload_n 0, 1) := by decide +kernel
theorem dX11_isTicket_3 : decode cX11_isTicket 3 = .ok (.getfield 223, 3) := by decide +kernel
theorem dX11_isTicket_6 : decode cX11_isTicket 6 = .ok (.iconst 1, 1) := by decide +kernel
theorem dX11_isTicket_7 : decode cX11_isTicket 7 = .ok (.isub, 1) := by decide +kernel
theorem dX11_isTicket_8 : decode cX11_isTicket 8 = .ok (.invokestatic 137, 3) := by decide +kernel
theorem dX11_isTicket_11 : decode cX11_isTicket 11 = .ok (.ifCond .eq 34, 3) := by decide +kernel
theorem dX11_isTicket_14 : decode cX11_isTicket 14 = .ok (.aload_n 0, 1) := by decide +kernel
theorem dX11_isTicket_15 : decode cX11_isTicket 15 = .ok (.getfield 107, 3) := by decide +kernel
theorem dX11_isTicket_18 : decode cX11_isTicket 18 = .ok (.iload_n 1, 1) := by decide +kernel
theorem dX11_isTicket_19 : decode cX11_isTicket 19 = .ok (.iaload, 1) := by decide +kernel
theorem dX11_isTicket_20 : decode cX11_isTicket 20 = .ok (.ifCond .ne 25, 3) := by decide +kernel
theorem dX11_isTicket_23 : decode cX11_isTicket 23 = .ok (.aload_n 0, 1) := by decide +kernel
theorem dX11_isTicket_24 : decode cX11_isTicket 24 = .ok (.getfield 179, 3) := by decide +kernel
theorem dX11_isTicket_27 : decode cX11_isTicket 27 = .ok (.aload_n 0, 1) := by decide +kernel
theorem dX11_isTicket_28 : decode cX11_isTicket 28 = .ok (.getfield 104, 3) := by decide +kernel
theorem dX11_isTicket_31 : decode cX11_isTicket 31 = .ok (.iload_n 1, 1) := by decide +kernel
theorem dX11_isTicket_32 : decode cX11_isTicket 32 = .ok (.iaload, 1) := by decide +kernel
theorem dX11_isTicket_33 : decode cX11_isTicket 33 = .ok (.isub, 1) := by decide +kernel
theorem dX11_isTicket_34 : decode cX11_isTicket 34 = .ok (.aload_n 0, 1) := by decide +kernel
theorem dX11_isTicket_35 : decode cX11_isTicket 35 = .ok (.getfield 16, 3) := by decide +kernel
theorem dX11_isTicket_38 : decode cX11_isTicket 38 = .ok (.if_icmp .gt 7, 3) := by decide +kernel
theorem dX11_isTicket_41 : decode cX11_isTicket 41 = .ok (.iconst 1, 1) := by decide +kernel
theorem dX11_isTicket_42 : decode cX11_isTicket 42 = .ok (.goto 4, 3) := by decide +kernel
theorem dX11_isTicket_45 : decode cX11_isTicket 45 = .ok (.iconst 0, 1) := by decide +kernel
theorem dX11_isTicket_46 : decode cX11_isTicket 46 = .ok (.ireturn, 1) := by decide +kernel
theorem dX11_hasOld_0 : decode cX11_hasOld 0 = .ok (.aload_n 0, 1) := by decide +kernel
theorem dX11_hasOld_1 : decode cX11_hasOld 1 = .ok (.getfield 53, 3) := by decide +kernel
theorem dX11_hasOld_4 : decode cX11_hasOld 4 = .ok (.iload_n 1, 1) := by decide +kernel
theorem dX11_hasOld_5 : decode cX11_hasOld 5 = .ok (.iaload, 1) := by decide +kernel
theorem dX11_hasOld_6 : decode cX11_hasOld 6 = .ok (.ifCond .le 7, 3) := by decide +kernel
theorem dX11_hasOld_9 : decode cX11_hasOld 9 = .ok (.iconst 1, 1) := by decide +kernel
theorem dX11_hasOld_10 : decode cX11_hasOld 10 = .ok (.goto 4, 3) := by decide +kernel
theorem dX11_hasOld_13 : decode cX11_hasOld 13 = .ok (.iconst 0, 1) := by decide +kernel
theorem dX11_hasOld_14 : decode cX11_hasOld 14 = .ok (.ireturn, 1) := by decide +kernel
theorem dX11_isOwnEpoch_0 : decode cX11_isOwnEpoch 0 = .ok (.iload_n 2, 1) := by decide +kernel
theorem dX11_isOwnEpoch_1 : decode cX11_isOwnEpoch 1 = .ok (.aload_n 0, 1) := by decide +kernel
theorem dX11_isOwnEpoch_2 : decode cX11_isOwnEpoch 2 = .ok (.getfield 38, 3) := by decide +kernel
theorem dX11_isOwnEpoch_5 : decode cX11_isOwnEpoch 5 = .ok (.iload_n 1, 1) := by decide +kernel
theorem dX11_isOwnEpoch_6 : decode cX11_isOwnEpoch 6 = .ok (.iaload, 1) := by decide +kernel
theorem dX11_isOwnEpoch_7 : decode cX11_isOwnEpoch 7 = .ok (.aload_n 0, 1) := by decide +kernel
theorem dX11_isOwnEpoch_8 : decode cX11_isOwnEpoch 8 = .ok (.getfield 38, 3) := by decide +kernel
theorem dX11_isOwnEpoch_11 : decode cX11_isOwnEpoch 11 = .ok (.iload_n 1, 1) := by decide +kernel
theorem dX11_isOwnEpoch_12 : decode cX11_isOwnEpoch 12 = .ok (.iaload, 1) := by decide +kernel
theorem dX11_isOwnEpoch_13 : decode cX11_isOwnEpoch 13 = .ok (.iconst 2, 1) := by decide +kernel
theorem dX11_isOwnEpoch_14 : decode cX11_isOwnEpoch 14 = .ok (.iadd, 1) := by decide +kernel
theorem dX11_isOwnEpoch_15 : decode cX11_isOwnEpoch 15 = .ok (.invokestatic 137, 3) := by decide +kernel
theorem dX11_isOwnEpoch_18 : decode cX11_isOwnEpoch 18 = .ok (.ifCond .ne 23, 3) := by decide +kernel
theorem dX11_isOwnEpoch_21 : decode cX11_isOwnEpoch 21 = .ok (.aload_n 0, 1) := by decide +kernel
theorem dX11_isOwnEpoch_22 : decode cX11_isOwnEpoch 22 = .ok (.iload_n 1, 1) := by decide +kernel
theorem dX11_isOwnEpoch_23 : decode cX11_isOwnEpoch 23 = .ok (.invokevirtual 226, 3) := by decide +kernel
theorem dX11_isOwnEpoch_26 : decode cX11_isOwnEpoch 26 = .ok (.ifCond .eq 19, 3) := by decide +kernel
theorem dX11_isOwnEpoch_29 : decode cX11_isOwnEpoch 29 = .ok (.iload_n 2, 1) := by decide +kernel
theorem dX11_isOwnEpoch_30 : decode cX11_isOwnEpoch 30 = .ok (.aload_n 0, 1) := by decide +kernel
theorem dX11_isOwnEpoch_31 : decode cX11_isOwnEpoch 31 = .ok (.getfield 38, 3) := by decide +kernel
theorem dX11_isOwnEpoch_34 : decode cX11_isOwnEpoch 34 = .ok (.iload_n 1, 1) := by decide +kernel
theorem dX11_isOwnEpoch_35 : decode cX11_isOwnEpoch 35 = .ok (.iaload, 1) := by decide +kernel
theorem dX11_isOwnEpoch_36 : decode cX11_isOwnEpoch 36 = .ok (.iconst 1, 1) := by decide +kernel
theorem dX11_isOwnEpoch_37 : decode cX11_isOwnEpoch 37 = .ok (.isub, 1) := by decide +kernel
theorem dX11_isOwnEpoch_38 : decode cX11_isOwnEpoch 38 = .ok (.if_icmp .ne 7, 3) := by decide +kernel
theorem dX11_isOwnEpoch_41 : decode cX11_isOwnEpoch 41 = .ok (.iconst 1, 1) := by decide +kernel
theorem dX11_isOwnEpoch_42 : decode cX11_isOwnEpoch 42 = .ok (.goto 4, 3) := by decide +kernel
theorem dX11_isOwnEpoch_45 : decode cX11_isOwnEpoch 45 = .ok (.iconst 0, 1) := by decide +kernel
theorem dX11_isOwnEpoch_46 : decode cX11_isOwnEpoch 46 = .ok (.ireturn, 1) := by decide +kernel
theorem dX11_resultOf_0 : decode cX11_resultOf 0 = .ok (.iconst 1, 1) := by decide +kernel
theorem dX11_resultOf_1 : decode cX11_resultOf 1 = .ok (.aload_n 0, 1) := by decide +kernel
theorem dX11_resultOf_2 : decode cX11_resultOf 2 = .ok (.iload_n 1, 1) := by decide +kernel
theorem dX11_resultOf_3 : decode cX11_resultOf 3 = .ok (.iconst 0, 1) := by decide +kernel
theorem dX11_resultOf_4 : decode cX11_resultOf 4 = .ok (.invokevirtual 229, 3) := by decide +kernel
theorem dX11_resultOf_7 : decode cX11_resultOf 7 = .ok (.isub, 1) := by decide +kernel
theorem dX11_resultOf_8 : decode cX11_resultOf 8 = .ok (.istore_n 2, 1) := by decide +kernel
theorem dX11_resultOf_9 : decode cX11_resultOf 9 = .ok (.aload_n 0, 1) := by decide +kernel
theorem dX11_resultOf_10 : decode cX11_resultOf 10 = .ok (.iload_n 1, 1) := by decide +kernel
theorem dX11_resultOf_11 : decode cX11_resultOf 11 = .ok (.iconst 1, 1) := by decide +kernel
theorem dX11_resultOf_12 : decode cX11_resultOf 12 = .ok (.invokevirtual 229, 3) := by decide +kernel
theorem dX11_resultOf_15 : decode cX11_resultOf 15 = .ok (.istore_n 3, 1) := by decide +kernel
theorem dX11_resultOf_16 : decode cX11_resultOf 16 = .ok (.aload_n 0, 1) := by decide +kernel
theorem dX11_resultOf_17 : decode cX11_resultOf 17 = .ok (.iload_n 2, 1) := by decide +kernel
theorem dX11_resultOf_18 : decode cX11_resultOf 18 = .ok (.iload_n 3, 1) := by decide +kernel
theorem dX11_resultOf_19 : decode cX11_resultOf 19 = .ok (.invokevirtual 232, 3) := by decide +kernel
theorem dX11_resultOf_22 : decode cX11_resultOf 22 = .ok (.ifCond .ne 5, 3) := by decide +kernel
theorem dX11_resultOf_25 : decode cX11_resultOf 25 = .ok (.iconst 1, 1) := by decide +kernel
theorem dX11_resultOf_26 : decode cX11_resultOf 26 = .ok (.ireturn, 1) := by decide +kernel
theorem dX11_resultOf_27 : decode cX11_resultOf 27 = .ok (.iload_n 3, 1) := by decide +kernel
theorem dX11_resultOf_28 : decode cX11_resultOf 28 = .ok (.ifCond .eq 20, 3) := by decide +kernel
theorem dX11_resultOf_31 : decode cX11_resultOf 31 = .ok (.aload_n 0, 1) := by decide +kernel
theorem dX11_resultOf_32 : decode cX11_resultOf 32 = .ok (.iload_n 1, 1) := by decide +kernel
theorem dX11_resultOf_33 : decode cX11_resultOf 33 = .ok (.iconst 2, 1) := by decide +kernel
theorem dX11_resultOf_34 : decode cX11_resultOf 34 = .ok (.invokevirtual 229, 3) := by decide +kernel
theorem dX11_resultOf_37 : decode cX11_resultOf 37 = .ok (.aload_n 0, 1) := by decide +kernel
theorem dX11_resultOf_38 : decode cX11_resultOf 38 = .ok (.getfield 23, 3) := by decide +kernel
theorem dX11_resultOf_41 : decode cX11_resultOf 41 = .ok (.iload_n 2, 1) := by decide +kernel
theorem dX11_resultOf_42 : decode cX11_resultOf 42 = .ok (.iaload, 1) := by decide +kernel
theorem dX11_resultOf_43 : decode cX11_resultOf 43 = .ok (.if_icmp .eq 5, 3) := by decide +kernel
theorem dX11_resultOf_46 : decode cX11_resultOf 46 = .ok (.iconst 2, 1) := by decide +kernel
theorem dX11_resultOf_47 : decode cX11_resultOf 47 = .ok (.ireturn, 1) := by decide +kernel
theorem dX11_resultOf_48 : decode cX11_resultOf 48 = .ok (.iload_n 3, 1) := by decide +kernel
theorem dX11_resultOf_49 : decode cX11_resultOf 49 = .ok (.ifCond .ne 31, 3) := by decide +kernel
theorem dX11_resultOf_52 : decode cX11_resultOf 52 = .ok (.aload_n 0, 1) := by decide +kernel
theorem dX11_resultOf_53 : decode cX11_resultOf 53 = .ok (.iload_n 1, 1) := by decide +kernel
theorem dX11_resultOf_54 : decode cX11_resultOf 54 = .ok (.bipush 6, 2) := by decide +kernel
theorem dX11_resultOf_56 : decode cX11_resultOf 56 = .ok (.invokevirtual 229, 3) := by decide +kernel
theorem dX11_resultOf_59 : decode cX11_resultOf 59 = .ok (.iconst (-1), 1) := by decide +kernel
theorem dX11_resultOf_60 : decode cX11_resultOf 60 = .ok (.if_icmp .eq 20, 3) := by decide +kernel
theorem dX11_resultOf_63 : decode cX11_resultOf 63 = .ok (.aload_n 0, 1) := by decide +kernel
theorem dX11_resultOf_64 : decode cX11_resultOf 64 = .ok (.aload_n 0, 1) := by decide +kernel
theorem dX11_resultOf_65 : decode cX11_resultOf 65 = .ok (.iload_n 1, 1) := by decide +kernel
theorem dX11_resultOf_66 : decode cX11_resultOf 66 = .ok (.bipush 6, 2) := by decide +kernel
theorem dX11_resultOf_68 : decode cX11_resultOf 68 = .ok (.invokevirtual 229, 3) := by decide +kernel
theorem dX11_resultOf_71 : decode cX11_resultOf 71 = .ok (.invokevirtual 236, 3) := by decide +kernel
theorem dX11_resultOf_74 : decode cX11_resultOf 74 = .ok (.ifCond .ne 6, 3) := by decide +kernel
theorem dX11_resultOf_77 : decode cX11_resultOf 77 = .ok (.bipush 8, 2) := by decide +kernel
theorem dX11_resultOf_79 : decode cX11_resultOf 79 = .ok (.ireturn, 1) := by decide +kernel
theorem dX11_resultOf_80 : decode cX11_resultOf 80 = .ok (.iload_n 3, 1) := by decide +kernel
theorem dX11_resultOf_81 : decode cX11_resultOf 81 = .ok (.iconst 3, 1) := by decide +kernel
theorem dX11_resultOf_82 : decode cX11_resultOf 82 = .ok (.if_icmp .ge 7, 3) := by decide +kernel
theorem dX11_resultOf_85 : decode cX11_resultOf 85 = .ok (.iconst 0, 1) := by decide +kernel
theorem dX11_resultOf_86 : decode cX11_resultOf 86 = .ok (.goto 10, 3) := by decide +kernel
theorem dX11_resultOf_89 : decode cX11_resultOf 89 = .ok (.aload_n 0, 1) := by decide +kernel
theorem dX11_resultOf_90 : decode cX11_resultOf 90 = .ok (.iload_n 1, 1) := by decide +kernel
theorem dX11_resultOf_91 : decode cX11_resultOf 91 = .ok (.iload_n 2, 1) := by decide +kernel
theorem dX11_resultOf_92 : decode cX11_resultOf 92 = .ok (.iload_n 3, 1) := by decide +kernel
theorem dX11_resultOf_93 : decode cX11_resultOf 93 = .ok (.invokevirtual 239, 3) := by decide +kernel
theorem dX11_resultOf_96 : decode cX11_resultOf 96 = .ok (.ireturn, 1) := by decide +kernel
theorem dX11_protectedResult_0 : decode cX11_protectedResult 0 = .ok (.aload_n 0, 1) := by decide +kernel
theorem dX11_protectedResult_1 : decode cX11_protectedResult 1 = .ok (.iload_n 1, 1) := by decide +kernel
theorem dX11_protectedResult_2 : decode cX11_protectedResult 2 = .ok (.iconst 3, 1) := by decide +kernel
theorem dX11_protectedResult_3 : decode cX11_protectedResult 3 = .ok (.invokevirtual 229, 3) := by decide +kernel
theorem dX11_protectedResult_6 : decode cX11_protectedResult 6 = .ok (.istore 4, 2) := by decide +kernel
theorem dX11_protectedResult_8 : decode cX11_protectedResult 8 = .ok (.aload_n 0, 1) := by decide +kernel
theorem dX11_protectedResult_9 : decode cX11_protectedResult 9 = .ok (.iload_n 1, 1) := by decide +kernel
theorem dX11_protectedResult_10 : decode cX11_protectedResult 10 = .ok (.iconst 4, 1) := by decide +kernel
theorem dX11_protectedResult_11 : decode cX11_protectedResult 11 = .ok (.invokevirtual 229, 3) := by decide +kernel
theorem dX11_protectedResult_14 : decode cX11_protectedResult 14 = .ok (.istore 5, 2) := by decide +kernel
theorem dX11_protectedResult_16 : decode cX11_protectedResult 16 = .ok (.aload_n 0, 1) := by decide +kernel
theorem dX11_protectedResult_17 : decode cX11_protectedResult 17 = .ok (.iload_n 2, 1) := by decide +kernel
theorem dX11_protectedResult_18 : decode cX11_protectedResult 18 = .ok (.iload 4, 2) := by decide +kernel
theorem dX11_protectedResult_20 : decode cX11_protectedResult 20 = .ok (.invokevirtual 243, 3) := by decide +kernel
theorem dX11_protectedResult_23 : decode cX11_protectedResult 23 = .ok (.ifCond .ne 5, 3) := by decide +kernel
theorem dX11_protectedResult_26 : decode cX11_protectedResult 26 = .ok (.iconst 3, 1) := by decide +kernel
theorem dX11_protectedResult_27 : decode cX11_protectedResult 27 = .ok (.ireturn, 1) := by decide +kernel
theorem dX11_protectedResult_28 : decode cX11_protectedResult 28 = .ok (.aload_n 0, 1) := by decide +kernel
theorem dX11_protectedResult_29 : decode cX11_protectedResult 29 = .ok (.getfield 29, 3) := by decide +kernel
theorem dX11_protectedResult_32 : decode cX11_protectedResult 32 = .ok (.iload_n 2, 1) := by decide +kernel
theorem dX11_protectedResult_33 : decode cX11_protectedResult 33 = .ok (.iaload, 1) := by decide +kernel
theorem dX11_protectedResult_34 : decode cX11_protectedResult 34 = .ok (.iconst 1, 1) := by decide +kernel
theorem dX11_protectedResult_35 : decode cX11_protectedResult 35 = .ok (.iload_n 2, 1) := by decide +kernel
theorem dX11_protectedResult_36 : decode cX11_protectedResult 36 = .ok (.isub, 1) := by decide +kernel
theorem dX11_protectedResult_37 : decode cX11_protectedResult 37 = .ok (.iload 4, 2) := by decide +kernel
theorem dX11_protectedResult_39 : decode cX11_protectedResult 39 = .ok (.iload 5, 2) := by decide +kernel
theorem dX11_protectedResult_41 : decode cX11_protectedResult 41 = .ok (.iload_n 3, 1) := by decide +kernel
theorem dX11_protectedResult_42 : decode cX11_protectedResult 42 = .ok (.aload_n 0, 1) := by decide +kernel
theorem dX11_protectedResult_43 : decode cX11_protectedResult 43 = .ok (.iload_n 1, 1) := by decide +kernel
theorem dX11_protectedResult_44 : decode cX11_protectedResult 44 = .ok (.iconst 5, 1) := by decide +kernel
theorem dX11_protectedResult_45 : decode cX11_protectedResult 45 = .ok (.invokevirtual 229, 3) := by decide +kernel
theorem dX11_protectedResult_48 : decode cX11_protectedResult 48 = .ok (.aload_n 0, 1) := by decide +kernel
theorem dX11_protectedResult_49 : decode cX11_protectedResult 49 = .ok (.iload_n 1, 1) := by decide +kernel
theorem dX11_protectedResult_50 : decode cX11_protectedResult 50 = .ok (.bipush 6, 2) := by decide +kernel
theorem dX11_protectedResult_52 : decode cX11_protectedResult 52 = .ok (.invokevirtual 229, 3) := by decide +kernel
theorem dX11_protectedResult_55 : decode cX11_protectedResult 55 = .ok (.aload_n 0, 1) := by decide +kernel
theorem dX11_protectedResult_56 : decode cX11_protectedResult 56 = .ok (.iload_n 1, 1) := by decide +kernel
theorem dX11_protectedResult_57 : decode cX11_protectedResult 57 = .ok (.bipush 7, 2) := by decide +kernel
theorem dX11_protectedResult_59 : decode cX11_protectedResult 59 = .ok (.invokevirtual 229, 3) := by decide +kernel
theorem dX11_protectedResult_62 : decode cX11_protectedResult 62 = .ok (.invokestatic 171, 3) := by decide +kernel
theorem dX11_protectedResult_65 : decode cX11_protectedResult 65 = .ok (.aload_n 0, 1) := by decide +kernel
theorem dX11_protectedResult_66 : decode cX11_protectedResult 66 = .ok (.iload_n 1, 1) := by decide +kernel
theorem dX11_protectedResult_67 : decode cX11_protectedResult 67 = .ok (.bipush 8, 2) := by decide +kernel
theorem dX11_protectedResult_69 : decode cX11_protectedResult 69 = .ok (.invokevirtual 229, 3) := by decide +kernel
theorem dX11_protectedResult_72 : decode cX11_protectedResult 72 = .ok (.if_icmp .eq 5, 3) := by decide +kernel
theorem dX11_protectedResult_75 : decode cX11_protectedResult 75 = .ok (.iconst 4, 1) := by decide +kernel
theorem dX11_protectedResult_76 : decode cX11_protectedResult 76 = .ok (.ireturn, 1) := by decide +kernel
theorem dX11_protectedResult_77 : decode cX11_protectedResult 77 = .ok (.iload 4, 2) := by decide +kernel
theorem dX11_protectedResult_79 : decode cX11_protectedResult 79 = .ok (.aload_n 0, 1) := by decide +kernel
theorem dX11_protectedResult_80 : decode cX11_protectedResult 80 = .ok (.getfield 38, 3) := by decide +kernel
theorem dX11_protectedResult_83 : decode cX11_protectedResult 83 = .ok (.iload_n 2, 1) := by decide +kernel
theorem dX11_protectedResult_84 : decode cX11_protectedResult 84 = .ok (.iaload, 1) := by decide +kernel
theorem dX11_protectedResult_85 : decode cX11_protectedResult 85 = .ok (.if_icmp .ne 12, 3) := by decide +kernel
theorem dX11_protectedResult_88 : decode cX11_protectedResult 88 = .ok (.aload_n 0, 1) := by decide +kernel
theorem dX11_protectedResult_89 : decode cX11_protectedResult 89 = .ok (.getfield 41, 3) := by decide +kernel
theorem dX11_protectedResult_92 : decode cX11_protectedResult 92 = .ok (.iload_n 2, 1) := by decide +kernel
theorem dX11_protectedResult_93 : decode cX11_protectedResult 93 = .ok (.iaload, 1) := by decide +kernel
theorem dX11_protectedResult_94 : decode cX11_protectedResult 94 = .ok (.goto 24, 3) := by decide +kernel
theorem dX11_protectedResult_97 : decode cX11_protectedResult 97 = .ok (.iload 4, 2) := by decide +kernel
theorem dX11_protectedResult_99 : decode cX11_protectedResult 99 = .ok (.aload_n 0, 1) := by decide +kernel
theorem dX11_protectedResult_100 : decode cX11_protectedResult 100 = .ok (.getfield 38, 3) := by decide +kernel
theorem dX11_protectedResult_103 : decode cX11_protectedResult 103 = .ok (.iload_n 2, 1) := by decide +kernel
theorem dX11_protectedResult_104 : decode cX11_protectedResult 104 = .ok (.iaload, 1) := by decide +kernel
theorem dX11_protectedResult_105 : decode cX11_protectedResult 105 = .ok (.if_icmp .ge 12, 3) := by decide +kernel
theorem dX11_protectedResult_108 : decode cX11_protectedResult 108 = .ok (.aload_n 0, 1) := by decide +kernel
theorem dX11_protectedResult_109 : decode cX11_protectedResult 109 = .ok (.getfield 47, 3) := by decide +kernel
theorem dX11_protectedResult_112 : decode cX11_protectedResult 112 = .ok (.iload_n 2, 1) := by decide +kernel
theorem dX11_protectedResult_113 : decode cX11_protectedResult 113 = .ok (.iaload, 1) := by decide +kernel
theorem dX11_protectedResult_114 : decode cX11_protectedResult 114 = .ok (.goto 4, 3) := by decide +kernel
theorem dX11_protectedResult_117 : decode cX11_protectedResult 117 = .ok (.iconst (-1), 1) := by decide +kernel
theorem dX11_protectedResult_118 : decode cX11_protectedResult 118 = .ok (.istore 6, 2) := by decide +kernel
theorem dX11_protectedResult_120 : decode cX11_protectedResult 120 = .ok (.iload 4, 2) := by decide +kernel
theorem dX11_protectedResult_122 : decode cX11_protectedResult 122 = .ok (.aload_n 0, 1) := by decide +kernel
theorem dX11_protectedResult_123 : decode cX11_protectedResult 123 = .ok (.getfield 38, 3) := by decide +kernel
theorem dX11_protectedResult_126 : decode cX11_protectedResult 126 = .ok (.iload_n 2, 1) := by decide +kernel
theorem dX11_protectedResult_127 : decode cX11_protectedResult 127 = .ok (.iaload, 1) := by decide +kernel
theorem dX11_protectedResult_128 : decode cX11_protectedResult 128 = .ok (.if_icmp .ne 12, 3) := by decide +kernel
theorem dX11_protectedResult_131 : decode cX11_protectedResult 131 = .ok (.aload_n 0, 1) := by decide +kernel
theorem dX11_protectedResult_132 : decode cX11_protectedResult 132 = .ok (.getfield 44, 3) := by decide +kernel
theorem dX11_protectedResult_135 : decode cX11_protectedResult 135 = .ok (.iload_n 2, 1) := by decide +kernel
theorem dX11_protectedResult_136 : decode cX11_protectedResult 136 = .ok (.iaload, 1) := by decide +kernel
theorem dX11_protectedResult_137 : decode cX11_protectedResult 137 = .ok (.goto 9, 3) := by decide +kernel
theorem dX11_protectedResult_140 : decode cX11_protectedResult 140 = .ok (.aload_n 0, 1) := by decide +kernel
theorem dX11_protectedResult_141 : decode cX11_protectedResult 141 = .ok (.getfield 50, 3) := by decide +kernel
theorem dX11_protectedResult_144 : decode cX11_protectedResult 144 = .ok (.iload_n 2, 1) := by decide +kernel
theorem dX11_protectedResult_145 : decode cX11_protectedResult 145 = .ok (.iaload, 1) := by decide +kernel
theorem dX11_protectedResult_146 : decode cX11_protectedResult 146 = .ok (.istore 7, 2) := by decide +kernel
theorem dX11_protectedResult_148 : decode cX11_protectedResult 148 = .ok (.iload 6, 2) := by decide +kernel
theorem dX11_protectedResult_150 : decode cX11_protectedResult 150 = .ok (.ifCond .lt 15, 3) := by decide +kernel
theorem dX11_protectedResult_153 : decode cX11_protectedResult 153 = .ok (.iload 5, 2) := by decide +kernel
theorem dX11_protectedResult_155 : decode cX11_protectedResult 155 = .ok (.iload 6, 2) := by decide +kernel
theorem dX11_protectedResult_157 : decode cX11_protectedResult 157 = .ok (.bipush 7, 2) := by decide +kernel
theorem dX11_protectedResult_159 : decode cX11_protectedResult 159 = .ok (.isub, 1) := by decide +kernel
theorem dX11_protectedResult_160 : decode cX11_protectedResult 160 = .ok (.if_icmp .ge 5, 3) := by decide +kernel
theorem dX11_protectedResult_163 : decode cX11_protectedResult 163 = .ok (.iconst 5, 1) := by decide +kernel
theorem dX11_protectedResult_164 : decode cX11_protectedResult 164 = .ok (.ireturn, 1) := by decide +kernel
theorem dX11_protectedResult_165 : decode cX11_protectedResult 165 = .ok (.iload 6, 2) := by decide +kernel
theorem dX11_protectedResult_167 : decode cX11_protectedResult 167 = .ok (.ifCond .lt 27, 3) := by decide +kernel
theorem dX11_protectedResult_170 : decode cX11_protectedResult 170 = .ok (.iload 5, 2) := by decide +kernel
theorem dX11_protectedResult_172 : decode cX11_protectedResult 172 = .ok (.iload 6, 2) := by decide +kernel
theorem dX11_protectedResult_174 : decode cX11_protectedResult 174 = .ok (.if_icmp .gt 20, 3) := by decide +kernel
theorem dX11_protectedResult_177 : decode cX11_protectedResult 177 = .ok (.iload 7, 2) := by decide +kernel
theorem dX11_protectedResult_179 : decode cX11_protectedResult 179 = .ok (.iload 6, 2) := by decide +kernel
theorem dX11_protectedResult_181 : decode cX11_protectedResult 181 = .ok (.iload 5, 2) := by decide +kernel
theorem dX11_protectedResult_183 : decode cX11_protectedResult 183 = .ok (.isub, 1) := by decide +kernel
theorem dX11_protectedResult_184 : decode cX11_protectedResult 184 = .ok (.ishr, 1) := by decide +kernel
theorem dX11_protectedResult_185 : decode cX11_protectedResult 185 = .ok (.iconst 1, 1) := by decide +kernel
theorem dX11_protectedResult_186 : decode cX11_protectedResult 186 = .ok (.iand, 1) := by decide +kernel
theorem dX11_protectedResult_187 : decode cX11_protectedResult 187 = .ok (.iconst 1, 1) := by decide +kernel
theorem dX11_protectedResult_188 : decode cX11_protectedResult 188 = .ok (.if_icmp .ne 6, 3) := by decide +kernel
theorem dX11_protectedResult_191 : decode cX11_protectedResult 191 = .ok (.bipush 6, 2) := by decide +kernel
theorem dX11_protectedResult_193 : decode cX11_protectedResult 193 = .ok (.ireturn, 1) := by decide +kernel
theorem dX11_protectedResult_194 : decode cX11_protectedResult 194 = .ok (.iload_n 3, 1) := by decide +kernel
theorem dX11_protectedResult_195 : decode cX11_protectedResult 195 = .ok (.iconst 4, 1) := by decide +kernel
theorem dX11_protectedResult_196 : decode cX11_protectedResult 196 = .ok (.if_icmp .eq 9, 3) := by decide +kernel
theorem dX11_protectedResult_199 : decode cX11_protectedResult 199 = .ok (.iload_n 3, 1) := by decide +kernel
theorem dX11_protectedResult_200 : decode cX11_protectedResult 200 = .ok (.bipush 7, 2) := by decide +kernel
theorem dX11_protectedResult_202 : decode cX11_protectedResult 202 = .ok (.if_icmp .ne 32, 3) := by decide +kernel
theorem dX11_protectedResult_205 : decode cX11_protectedResult 205 = .ok (.aload_n 0, 1) := by decide +kernel
theorem dX11_protectedResult_206 : decode cX11_protectedResult 206 = .ok (.getfield 65, 3) := by decide +kernel
theorem dX11_protectedResult_209 : decode cX11_protectedResult 209 = .ok (.iload_n 2, 1) := by decide +kernel
theorem dX11_protectedResult_210 : decode cX11_protectedResult 210 = .ok (.iaload, 1) := by decide +kernel
theorem dX11_protectedResult_211 : decode cX11_protectedResult 211 = .ok (.ifCond .lt 23, 3) := by decide +kernel
theorem dX11_protectedResult_214 : decode cX11_protectedResult 214 = .ok (.aload_n 0, 1) := by decide +kernel
theorem dX11_protectedResult_215 : decode cX11_protectedResult 215 = .ok (.iload_n 1, 1) := by decide +kernel
theorem dX11_protectedResult_216 : decode cX11_protectedResult 216 = .ok (.iconst 5, 1) := by decide +kernel
theorem dX11_protectedResult_217 : decode cX11_protectedResult 217 = .ok (.invokevirtual 229, 3) := by decide +kernel
theorem dX11_protectedResult_220 : decode cX11_protectedResult 220 = .ok (.aload_n 0, 1) := by decide +kernel
theorem dX11_protectedResult_221 : decode cX11_protectedResult 221 = .ok (.getfield 65, 3) := by decide +kernel
theorem dX11_protectedResult_224 : decode cX11_protectedResult 224 = .ok (.iload_n 2, 1) := by decide +kernel
theorem dX11_protectedResult_225 : decode cX11_protectedResult 225 = .ok (.iaload, 1) := by decide +kernel
theorem dX11_protectedResult_226 : decode cX11_protectedResult 226 = .ok (.if_icmp .le 8, 3) := by decide +kernel
theorem dX11_protectedResult_229 : decode cX11_protectedResult 229 = .ok (.bipush 7, 2) := by decide +kernel
theorem dX11_protectedResult_231 : decode cX11_protectedResult 231 = .ok (.goto 4, 3) := by decide +kernel
theorem dX11_protectedResult_234 : decode cX11_protectedResult 234 = .ok (.iconst 0, 1) := by decide +kernel
theorem dX11_protectedResult_235 : decode cX11_protectedResult 235 = .ok (.ireturn, 1) := by decide +kernel
theorem dX11_setWith_0 : decode cX11_setWith 0 = .ok (.iload_n 0, 1) := by decide +kernel
theorem dX11_setWith_1 : decode cX11_setWith 1 = .ok (.ifCond .ge 5, 3) := by decide +kernel
theorem dX11_setWith_4 : decode cX11_setWith 4 = .ok (.iconst 1, 1) := by decide +kernel
theorem dX11_setWith_5 : decode cX11_setWith 5 = .ok (.ireturn, 1) := by decide +kernel
theorem dX11_setWith_6 : decode cX11_setWith 6 = .ok (.iload_n 2, 1) := by decide +kernel
theorem dX11_setWith_7 : decode cX11_setWith 7 = .ok (.iload_n 0, 1) := by decide +kernel
theorem dX11_setWith_8 : decode cX11_setWith 8 = .ok (.if_icmp .gt 11, 3) := by decide +kernel
theorem dX11_setWith_11 : decode cX11_setWith 11 = .ok (.iload_n 1, 1) := by decide +kernel
theorem dX11_setWith_12 : decode cX11_setWith 12 = .ok (.iconst 1, 1) := by decide +kernel
theorem dX11_setWith_13 : decode cX11_setWith 13 = .ok (.iload_n 0, 1) := by decide +kernel
theorem dX11_setWith_14 : decode cX11_setWith 14 = .ok (.iload_n 2, 1) := by decide +kernel
theorem dX11_setWith_15 : decode cX11_setWith 15 = .ok (.isub, 1) := by decide +kernel
theorem dX11_setWith_16 : decode cX11_setWith 16 = .ok (.ishl, 1) := by decide +kernel
theorem dX11_setWith_17 : decode cX11_setWith 17 = .ok (.ior, 1) := by decide +kernel
theorem dX11_setWith_18 : decode cX11_setWith 18 = .ok (.ireturn, 1) := by decide +kernel
theorem dX11_setWith_19 : decode cX11_setWith 19 = .ok (.iload_n 2, 1) := by decide +kernel
theorem dX11_setWith_20 : decode cX11_setWith 20 = .ok (.iload_n 0, 1) := by decide +kernel
theorem dX11_setWith_21 : decode cX11_setWith 21 = .ok (.isub, 1) := by decide +kernel
theorem dX11_setWith_22 : decode cX11_setWith 22 = .ok (.bipush 7, 2) := by decide +kernel
theorem dX11_setWith_24 : decode cX11_setWith 24 = .ok (.if_icmp .le 7, 3) := by decide +kernel
theorem dX11_setWith_27 : decode cX11_setWith 27 = .ok (.iconst 1, 1) := by decide +kernel
theorem dX11_setWith_28 : decode cX11_setWith 28 = .ok (.goto 14, 3) := by decide +kernel
theorem dX11_setWith_31 : decode cX11_setWith 31 = .ok (.iload_n 1, 1) := by decide +kernel
theorem dX11_setWith_32 : decode cX11_setWith 32 = .ok (.iload_n 2, 1) := by decide +kernel
theorem dX11_setWith_33 : decode cX11_setWith 33 = .ok (.iload_n 0, 1) := by decide +kernel
theorem dX11_setWith_34 : decode cX11_setWith 34 = .ok (.isub, 1) := by decide +kernel
theorem dX11_setWith_35 : decode cX11_setWith 35 = .ok (.ishl, 1) := by decide +kernel
theorem dX11_setWith_36 : decode cX11_setWith 36 = .ok (.iconst 1, 1) := by decide +kernel
theorem dX11_setWith_37 : decode cX11_setWith 37 = .ok (.ior, 1) := by decide +kernel
theorem dX11_setWith_38 : decode cX11_setWith 38 = .ok (.sipush 255, 3) := by decide +kernel
theorem dX11_setWith_41 : decode cX11_setWith 41 = .ok (.iand, 1) := by decide +kernel
theorem dX11_setWith_42 : decode cX11_setWith 42 = .ok (.ireturn, 1) := by decide +kernel
theorem dX11_enters_0 : decode cX11_enters 0 = .ok (.iload_n 2, 1) := by decide +kernel
theorem dX11_enters_1 : decode cX11_enters 1 = .ok (.aload_n 0, 1) := by decide +kernel
theorem dX11_enters_2 : decode cX11_enters 2 = .ok (.getfield 38, 3) := by decide +kernel
theorem dX11_enters_5 : decode cX11_enters 5 = .ok (.iload_n 1, 1) := by decide +kernel
theorem dX11_enters_6 : decode cX11_enters 6 = .ok (.iaload, 1) := by decide +kernel
theorem dX11_enters_7 : decode cX11_enters 7 = .ok (.if_icmp .ge 52, 3) := by decide +kernel
theorem dX11_enters_10 : decode cX11_enters 10 = .ok (.aload_n 0, 1) := by decide +kernel
theorem dX11_enters_11 : decode cX11_enters 11 = .ok (.getfield 50, 3) := by decide +kernel
theorem dX11_enters_14 : decode cX11_enters 14 = .ok (.iload_n 1, 1) := by decide +kernel
theorem dX11_enters_15 : decode cX11_enters 15 = .ok (.aload_n 0, 1) := by decide +kernel
theorem dX11_enters_16 : decode cX11_enters 16 = .ok (.getfield 47, 3) := by decide +kernel
theorem dX11_enters_19 : decode cX11_enters 19 = .ok (.iload_n 1, 1) := by decide +kernel
theorem dX11_enters_20 : decode cX11_enters 20 = .ok (.iaload, 1) := by decide +kernel
theorem dX11_enters_21 : decode cX11_enters 21 = .ok (.aload_n 0, 1) := by decide +kernel
theorem dX11_enters_22 : decode cX11_enters 22 = .ok (.getfield 50, 3) := by decide +kernel
theorem dX11_enters_25 : decode cX11_enters 25 = .ok (.iload_n 1, 1) := by decide +kernel
theorem dX11_enters_26 : decode cX11_enters 26 = .ok (.iaload, 1) := by decide +kernel
theorem dX11_enters_27 : decode cX11_enters 27 = .ok (.iload_n 3, 1) := by decide +kernel
theorem dX11_enters_28 : decode cX11_enters 28 = .ok (.invokestatic 246, 3) := by decide +kernel
theorem dX11_enters_31 : decode cX11_enters 31 = .ok (.iastore, 1) := by decide +kernel
theorem dX11_enters_32 : decode cX11_enters 32 = .ok (.aload_n 0, 1) := by decide +kernel
theorem dX11_enters_33 : decode cX11_enters 33 = .ok (.getfield 47, 3) := by decide +kernel
theorem dX11_enters_36 : decode cX11_enters 36 = .ok (.iload_n 1, 1) := by decide +kernel
theorem dX11_enters_37 : decode cX11_enters 37 = .ok (.iload_n 3, 1) := by decide +kernel
theorem dX11_enters_38 : decode cX11_enters 38 = .ok (.aload_n 0, 1) := by decide +kernel
theorem dX11_enters_39 : decode cX11_enters 39 = .ok (.getfield 47, 3) := by decide +kernel
theorem dX11_enters_42 : decode cX11_enters 42 = .ok (.iload_n 1, 1) := by decide +kernel
theorem dX11_enters_43 : decode cX11_enters 43 = .ok (.iaload, 1) := by decide +kernel
theorem dX11_enters_44 : decode cX11_enters 44 = .ok (.if_icmp .le 7, 3) := by decide +kernel
theorem dX11_enters_47 : decode cX11_enters 47 = .ok (.iload_n 3, 1) := by decide +kernel
theorem dX11_enters_48 : decode cX11_enters 48 = .ok (.goto 9, 3) := by decide +kernel
theorem dX11_enters_51 : decode cX11_enters 51 = .ok (.aload_n 0, 1) := by decide +kernel
theorem dX11_enters_52 : decode cX11_enters 52 = .ok (.getfield 47, 3) := by decide +kernel
theorem dX11_enters_55 : decode cX11_enters 55 = .ok (.iload_n 1, 1) := by decide +kernel
theorem dX11_enters_56 : decode cX11_enters 56 = .ok (.iaload, 1) := by decide +kernel
theorem dX11_enters_57 : decode cX11_enters 57 = .ok (.iastore, 1) := by decide +kernel
theorem dX11_enters_58 : decode cX11_enters 58 = .ok (.return_, 1) := by decide +kernel
theorem dX11_enters_59 : decode cX11_enters 59 = .ok (.iload_n 2, 1) := by decide +kernel
theorem dX11_enters_60 : decode cX11_enters 60 = .ok (.aload_n 0, 1) := by decide +kernel
theorem dX11_enters_61 : decode cX11_enters 61 = .ok (.getfield 38, 3) := by decide +kernel
theorem dX11_enters_64 : decode cX11_enters 64 = .ok (.iload_n 1, 1) := by decide +kernel
theorem dX11_enters_65 : decode cX11_enters 65 = .ok (.iaload, 1) := by decide +kernel
theorem dX11_enters_66 : decode cX11_enters 66 = .ok (.if_icmp .le 67, 3) := by decide +kernel
theorem dX11_enters_69 : decode cX11_enters 69 = .ok (.aload_n 0, 1) := by decide +kernel
theorem dX11_enters_70 : decode cX11_enters 70 = .ok (.getfield 53, 3) := by decide +kernel
theorem dX11_enters_73 : decode cX11_enters 73 = .ok (.iload_n 1, 1) := by decide +kernel
theorem dX11_enters_74 : decode cX11_enters 74 = .ok (.iload_n 2, 1) := by decide +kernel
theorem dX11_enters_75 : decode cX11_enters 75 = .ok (.aload_n 0, 1) := by decide +kernel
theorem dX11_enters_76 : decode cX11_enters 76 = .ok (.getfield 38, 3) := by decide +kernel
theorem dX11_enters_79 : decode cX11_enters 79 = .ok (.iload_n 1, 1) := by decide +kernel
theorem dX11_enters_80 : decode cX11_enters 80 = .ok (.iaload, 1) := by decide +kernel
theorem dX11_enters_81 : decode cX11_enters 81 = .ok (.iconst 1, 1) := by decide +kernel
theorem dX11_enters_82 : decode cX11_enters 82 = .ok (.iadd, 1) := by decide +kernel
theorem dX11_enters_83 : decode cX11_enters 83 = .ok (.if_icmp .ne 7, 3) := by decide +kernel
theorem dX11_enters_86 : decode cX11_enters 86 = .ok (.iconst 4, 1) := by decide +kernel
theorem dX11_enters_87 : decode cX11_enters 87 = .ok (.goto 4, 3) := by decide +kernel
theorem dX11_enters_90 : decode cX11_enters 90 = .ok (.iconst 0, 1) := by decide +kernel
theorem dX11_enters_91 : decode cX11_enters 91 = .ok (.iastore, 1) := by decide +kernel
theorem dX11_enters_92 : decode cX11_enters 92 = .ok (.aload_n 0, 1) := by decide +kernel
theorem dX11_enters_93 : decode cX11_enters 93 = .ok (.getfield 47, 3) := by decide +kernel
theorem dX11_enters_96 : decode cX11_enters 96 = .ok (.iload_n 1, 1) := by decide +kernel
theorem dX11_enters_97 : decode cX11_enters 97 = .ok (.aload_n 0, 1) := by decide +kernel
theorem dX11_enters_98 : decode cX11_enters 98 = .ok (.getfield 41, 3) := by decide +kernel
theorem dX11_enters_101 : decode cX11_enters 101 = .ok (.iload_n 1, 1) := by decide +kernel
theorem dX11_enters_102 : decode cX11_enters 102 = .ok (.iaload, 1) := by decide +kernel
theorem dX11_enters_103 : decode cX11_enters 103 = .ok (.iastore, 1) := by decide +kernel
theorem dX11_enters_104 : decode cX11_enters 104 = .ok (.aload_n 0, 1) := by decide +kernel
theorem dX11_enters_105 : decode cX11_enters 105 = .ok (.getfield 50, 3) := by decide +kernel
theorem dX11_enters_108 : decode cX11_enters 108 = .ok (.iload_n 1, 1) := by decide +kernel
theorem dX11_enters_109 : decode cX11_enters 109 = .ok (.aload_n 0, 1) := by decide +kernel
theorem dX11_enters_110 : decode cX11_enters 110 = .ok (.getfield 44, 3) := by decide +kernel
theorem dX11_enters_113 : decode cX11_enters 113 = .ok (.iload_n 1, 1) := by decide +kernel
theorem dX11_enters_114 : decode cX11_enters 114 = .ok (.iaload, 1) := by decide +kernel
theorem dX11_enters_115 : decode cX11_enters 115 = .ok (.iastore, 1) := by decide +kernel
theorem dX11_enters_116 : decode cX11_enters 116 = .ok (.aload_n 0, 1) := by decide +kernel
theorem dX11_enters_117 : decode cX11_enters 117 = .ok (.getfield 38, 3) := by decide +kernel
theorem dX11_enters_120 : decode cX11_enters 120 = .ok (.iload_n 1, 1) := by decide +kernel
theorem dX11_enters_121 : decode cX11_enters 121 = .ok (.iload_n 2, 1) := by decide +kernel
theorem dX11_enters_122 : decode cX11_enters 122 = .ok (.iastore, 1) := by decide +kernel
theorem dX11_enters_123 : decode cX11_enters 123 = .ok (.aload_n 0, 1) := by decide +kernel
theorem dX11_enters_124 : decode cX11_enters 124 = .ok (.getfield 41, 3) := by decide +kernel
theorem dX11_enters_127 : decode cX11_enters 127 = .ok (.iload_n 1, 1) := by decide +kernel
theorem dX11_enters_128 : decode cX11_enters 128 = .ok (.iconst (-1), 1) := by decide +kernel
theorem dX11_enters_129 : decode cX11_enters 129 = .ok (.iastore, 1) := by decide +kernel
theorem dX11_enters_130 : decode cX11_enters 130 = .ok (.goto 22, 3) := by decide +kernel
theorem dX11_enters_133 : decode cX11_enters 133 = .ok (.aload_n 0, 1) := by decide +kernel
theorem dX11_enters_134 : decode cX11_enters 134 = .ok (.getfield 53, 3) := by decide +kernel
theorem dX11_enters_137 : decode cX11_enters 137 = .ok (.iload_n 1, 1) := by decide +kernel
theorem dX11_enters_138 : decode cX11_enters 138 = .ok (.iaload, 1) := by decide +kernel
theorem dX11_enters_139 : decode cX11_enters 139 = .ok (.ifCond .le 13, 3) := by decide +kernel
theorem dX11_enters_142 : decode cX11_enters 142 = .ok (.aload_n 0, 1) := by decide +kernel
theorem dX11_enters_143 : decode cX11_enters 143 = .ok (.getfield 53, 3) := by decide +kernel
theorem dX11_enters_146 : decode cX11_enters 146 = .ok (.iload_n 1, 1) := by decide +kernel
theorem dX11_enters_147 : decode cX11_enters 147 = .ok (.dup2, 1) := by decide +kernel
theorem dX11_enters_148 : decode cX11_enters 148 = .ok (.iaload, 1) := by decide +kernel
theorem dX11_enters_149 : decode cX11_enters 149 = .ok (.iconst 1, 1) := by decide +kernel
theorem dX11_enters_150 : decode cX11_enters 150 = .ok (.isub, 1) := by decide +kernel
theorem dX11_enters_151 : decode cX11_enters 151 = .ok (.iastore, 1) := by decide +kernel
theorem dX11_enters_152 : decode cX11_enters 152 = .ok (.aload_n 0, 1) := by decide +kernel
theorem dX11_enters_153 : decode cX11_enters 153 = .ok (.getfield 44, 3) := by decide +kernel
theorem dX11_enters_156 : decode cX11_enters 156 = .ok (.iload_n 1, 1) := by decide +kernel
theorem dX11_enters_157 : decode cX11_enters 157 = .ok (.aload_n 0, 1) := by decide +kernel
theorem dX11_enters_158 : decode cX11_enters 158 = .ok (.getfield 41, 3) := by decide +kernel
theorem dX11_enters_161 : decode cX11_enters 161 = .ok (.iload_n 1, 1) := by decide +kernel
theorem dX11_enters_162 : decode cX11_enters 162 = .ok (.iaload, 1) := by decide +kernel
theorem dX11_enters_163 : decode cX11_enters 163 = .ok (.aload_n 0, 1) := by decide +kernel
theorem dX11_enters_164 : decode cX11_enters 164 = .ok (.getfield 44, 3) := by decide +kernel
theorem dX11_enters_167 : decode cX11_enters 167 = .ok (.iload_n 1, 1) := by decide +kernel
theorem dX11_enters_168 : decode cX11_enters 168 = .ok (.iaload, 1) := by decide +kernel
theorem dX11_enters_169 : decode cX11_enters 169 = .ok (.iload_n 3, 1) := by decide +kernel
theorem dX11_enters_170 : decode cX11_enters 170 = .ok (.invokestatic 246, 3) := by decide +kernel
theorem dX11_enters_173 : decode cX11_enters 173 = .ok (.iastore, 1) := by decide +kernel
theorem dX11_enters_174 : decode cX11_enters 174 = .ok (.aload_n 0, 1) := by decide +kernel
theorem dX11_enters_175 : decode cX11_enters 175 = .ok (.getfield 41, 3) := by decide +kernel
theorem dX11_enters_178 : decode cX11_enters 178 = .ok (.iload_n 1, 1) := by decide +kernel
theorem dX11_enters_179 : decode cX11_enters 179 = .ok (.iload_n 3, 1) := by decide +kernel
theorem dX11_enters_180 : decode cX11_enters 180 = .ok (.aload_n 0, 1) := by decide +kernel
theorem dX11_enters_181 : decode cX11_enters 181 = .ok (.getfield 41, 3) := by decide +kernel
theorem dX11_enters_184 : decode cX11_enters 184 = .ok (.iload_n 1, 1) := by decide +kernel
theorem dX11_enters_185 : decode cX11_enters 185 = .ok (.iaload, 1) := by decide +kernel
theorem dX11_enters_186 : decode cX11_enters 186 = .ok (.if_icmp .le 7, 3) := by decide +kernel
theorem dX11_enters_189 : decode cX11_enters 189 = .ok (.iload_n 3, 1) := by decide +kernel
theorem dX11_enters_190 : decode cX11_enters 190 = .ok (.goto 9, 3) := by decide +kernel
theorem dX11_enters_193 : decode cX11_enters 193 = .ok (.aload_n 0, 1) := by decide +kernel
theorem dX11_enters_194 : decode cX11_enters 194 = .ok (.getfield 41, 3) := by decide +kernel
theorem dX11_enters_197 : decode cX11_enters 197 = .ok (.iload_n 1, 1) := by decide +kernel
theorem dX11_enters_198 : decode cX11_enters 198 = .ok (.iaload, 1) := by decide +kernel
theorem dX11_enters_199 : decode cX11_enters 199 = .ok (.iastore, 1) := by decide +kernel
theorem dX11_enters_200 : decode cX11_enters 200 = .ok (.return_, 1) := by decide +kernel
theorem dX11_acknowledges_0 : decode cX11_acknowledges 0 = .ok (.iconst 0, 1) := by decide +kernel
theorem dX11_acknowledges_1 : decode cX11_acknowledges 1 = .ok (.istore_n 3, 1) := by decide +kernel
theorem dX11_acknowledges_2 : decode cX11_acknowledges 2 = .ok (.iload_n 3, 1) := by decide +kernel
theorem dX11_acknowledges_3 : decode cX11_acknowledges 3 = .ok (.aload_n 0, 1) := by decide +kernel
theorem dX11_acknowledges_4 : decode cX11_acknowledges 4 = .ok (.getfield 71, 3) := by decide +kernel
theorem dX11_acknowledges_7 : decode cX11_acknowledges 7 = .ok (.iload_n 1, 1) := by decide +kernel
theorem dX11_acknowledges_8 : decode cX11_acknowledges 8 = .ok (.iaload, 1) := by decide +kernel
theorem dX11_acknowledges_9 : decode cX11_acknowledges 9 = .ok (.if_icmp .ge 24, 3) := by decide +kernel
theorem dX11_acknowledges_12 : decode cX11_acknowledges 12 = .ok (.aload_n 0, 1) := by decide +kernel
theorem dX11_acknowledges_13 : decode cX11_acknowledges 13 = .ok (.getfield 77, 3) := by decide +kernel
theorem dX11_acknowledges_16 : decode cX11_acknowledges 16 = .ok (.bipush 16, 2) := by decide +kernel
theorem dX11_acknowledges_18 : decode cX11_acknowledges 18 = .ok (.iload_n 1, 1) := by decide +kernel
theorem dX11_acknowledges_19 : decode cX11_acknowledges 19 = .ok (.imul, 1) := by decide +kernel
theorem dX11_acknowledges_20 : decode cX11_acknowledges 20 = .ok (.iload_n 3, 1) := by decide +kernel
theorem dX11_acknowledges_21 : decode cX11_acknowledges 21 = .ok (.iadd, 1) := by decide +kernel
theorem dX11_acknowledges_22 : decode cX11_acknowledges 22 = .ok (.iaload, 1) := by decide +kernel
theorem dX11_acknowledges_23 : decode cX11_acknowledges 23 = .ok (.iload_n 2, 1) := by decide +kernel
theorem dX11_acknowledges_24 : decode cX11_acknowledges 24 = .ok (.if_icmp .ge 9, 3) := by decide +kernel
theorem dX11_acknowledges_27 : decode cX11_acknowledges 27 = .ok (.iinc 3 1, 3) := by decide +kernel
theorem dX11_acknowledges_30 : decode cX11_acknowledges 30 = .ok (.goto (-28), 3) := by decide +kernel
theorem dX11_acknowledges_33 : decode cX11_acknowledges 33 = .ok (.aload_n 0, 1) := by decide +kernel
theorem dX11_acknowledges_34 : decode cX11_acknowledges 34 = .ok (.getfield 71, 3) := by decide +kernel
theorem dX11_acknowledges_37 : decode cX11_acknowledges 37 = .ok (.iload_n 1, 1) := by decide +kernel
theorem dX11_acknowledges_38 : decode cX11_acknowledges 38 = .ok (.dup2, 1) := by decide +kernel
theorem dX11_acknowledges_39 : decode cX11_acknowledges 39 = .ok (.iaload, 1) := by decide +kernel
theorem dX11_acknowledges_40 : decode cX11_acknowledges 40 = .ok (.iload_n 3, 1) := by decide +kernel
