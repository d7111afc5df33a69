theorem dX10_same_43 : decode cX10_same 43 = .ok (.iload_n 1, 1) := by decide +kernel
theorem dX10_same_44 : decode cX10_same 44 = .ok (.iload_n 2, 1) := by decide +kernel
theorem dX10_same_45 : decode cX10_same 45 = .ok (.invokevirtual 132, 3) := by decide +kernel
theorem dX10_same_48 : decode cX10_same 48 = .ok (.ireturn, 1) := by decide +kernel
theorem dX10_reach_0 : decode cX10_reach 0 = .ok (.iload_n 1, 1) := by decide +kernel
theorem dX10_reach_1 : decode cX10_reach 1 = .ok (.iconst 0, 1) := by decide +kernel
theorem dX10_reach_2 : decode cX10_reach 2 = .ok (.bipush 56, 2) := by decide +kernel
theorem dX10_reach_4 : decode cX10_reach 4 = .ok (.invokestatic 77, 3) := by decide +kernel
theorem dX10_reach_7 : decode cX10_reach 7 = .ok (.ifCond .eq 14, 3) := by decide +kernel
theorem dX10_reach_10 : decode cX10_reach 10 = .ok (.iload_n 2, 1) := by decide +kernel
theorem dX10_reach_11 : decode cX10_reach 11 = .ok (.bipush (-56), 2) := by decide +kernel
theorem dX10_reach_13 : decode cX10_reach 13 = .ok (.bipush 56, 2) := by decide +kernel
theorem dX10_reach_15 : decode cX10_reach 15 = .ok (.invokestatic 77, 3) := by decide +kernel
theorem dX10_reach_18 : decode cX10_reach 18 = .ok (.ifCond .ne 6, 3) := by decide +kernel
theorem dX10_reach_21 : decode cX10_reach 21 = .ok (.ldc 81, 2) := by decide +kernel
theorem dX10_reach_23 : decode cX10_reach 23 = .ok (.ireturn, 1) := by decide +kernel
theorem dX10_reach_24 : decode cX10_reach 24 = .ok (.aload_n 0, 1) := by decide +kernel
theorem dX10_reach_25 : decode cX10_reach 25 = .ok (.getfield 35, 3) := by decide +kernel
theorem dX10_reach_28 : decode cX10_reach 28 = .ok (.aload_n 0, 1) := by decide +kernel
theorem dX10_reach_29 : decode cX10_reach 29 = .ok (.getfield 12, 3) := by decide +kernel
theorem dX10_reach_32 : decode cX10_reach 32 = .ok (.invokevirtual 136, 3) := by decide +kernel
theorem dX10_reach_35 : decode cX10_reach 35 = .ok (.iload_n 1, 1) := by decide +kernel
theorem dX10_reach_36 : decode cX10_reach 36 = .ok (.aload_n 0, 1) := by decide +kernel
theorem dX10_reach_37 : decode cX10_reach 37 = .ok (.getfield 35, 3) := by decide +kernel
theorem dX10_reach_40 : decode cX10_reach 40 = .ok (.getfield 139, 3) := by decide +kernel
theorem dX10_reach_43 : decode cX10_reach 43 = .ok (.if_icmp .le 6, 3) := by decide +kernel
theorem dX10_reach_46 : decode cX10_reach 46 = .ok (.ldc 142, 2) := by decide +kernel
theorem dX10_reach_48 : decode cX10_reach 48 = .ok (.ireturn, 1) := by decide +kernel
theorem dX10_reach_49 : decode cX10_reach 49 = .ok (.aload_n 0, 1) := by decide +kernel
theorem dX10_reach_50 : decode cX10_reach 50 = .ok (.getfield 35, 3) := by decide +kernel
theorem dX10_reach_53 : decode cX10_reach 53 = .ok (.iload_n 1, 1) := by decide +kernel
theorem dX10_reach_54 : decode cX10_reach 54 = .ok (.iload_n 2, 1) := by decide +kernel
theorem dX10_reach_55 : decode cX10_reach 55 = .ok (.invokevirtual 143, 3) := by decide +kernel
theorem dX10_reach_58 : decode cX10_reach 58 = .ok (.invokestatic 126, 3) := by decide +kernel
theorem dX10_reach_61 : decode cX10_reach 61 = .ok (.ireturn, 1) := by decide +kernel
theorem dX10_distance_0 : decode cX10_distance 0 = .ok (.aload_n 0, 1) := by decide +kernel
theorem dX10_distance_1 : decode cX10_distance 1 = .ok (.getfield 35, 3) := by decide +kernel
theorem dX10_distance_4 : decode cX10_distance 4 = .ok (.aload_n 0, 1) := by decide +kernel
theorem dX10_distance_5 : decode cX10_distance 5 = .ok (.getfield 12, 3) := by decide +kernel
theorem dX10_distance_8 : decode cX10_distance 8 = .ok (.invokevirtual 136, 3) := by decide +kernel
theorem dX10_distance_11 : decode cX10_distance 11 = .ok (.aload_n 0, 1) := by decide +kernel
theorem dX10_distance_12 : decode cX10_distance 12 = .ok (.invokevirtual 145, 3) := by decide +kernel
theorem dX10_distance_15 : decode cX10_distance 15 = .ok (.ifCond .eq 8, 3) := by decide +kernel
theorem dX10_distance_18 : decode cX10_distance 18 = .ok (.ldc 90, 2) := by decide +kernel
theorem dX10_distance_20 : decode cX10_distance 20 = .ok (.goto 10, 3) := by decide +kernel
theorem dX10_distance_23 : decode cX10_distance 23 = .ok (.aload_n 0, 1) := by decide +kernel
theorem dX10_distance_24 : decode cX10_distance 24 = .ok (.getfield 35, 3) := by decide +kernel
theorem dX10_distance_27 : decode cX10_distance 27 = .ok (.getfield 139, 3) := by decide +kernel
theorem dX10_distance_30 : decode cX10_distance 30 = .ok (.ireturn, 1) := by decide +kernel
theorem dX10_stepOf_0 : decode cX10_stepOf 0 = .ok (.iload_n 1, 1) := by decide +kernel
theorem dX10_stepOf_1 : decode cX10_stepOf 1 = .ok (.ifCond .lt 12, 3) := by decide +kernel
theorem dX10_stepOf_4 : decode cX10_stepOf 4 = .ok (.iload_n 2, 1) := by decide +kernel
theorem dX10_stepOf_5 : decode cX10_stepOf 5 = .ok (.iconst 0, 1) := by decide +kernel
theorem dX10_stepOf_6 : decode cX10_stepOf 6 = .ok (.iconst 3, 1) := by decide +kernel
theorem dX10_stepOf_7 : decode cX10_stepOf 7 = .ok (.invokestatic 77, 3) := by decide +kernel
theorem dX10_stepOf_10 : decode cX10_stepOf 10 = .ok (.ifCond .ne 6, 3) := by decide +kernel
theorem dX10_stepOf_13 : decode cX10_stepOf 13 = .ok (.ldc 81, 2) := by decide +kernel
theorem dX10_stepOf_15 : decode cX10_stepOf 15 = .ok (.ireturn, 1) := by decide +kernel
theorem dX10_stepOf_16 : decode cX10_stepOf 16 = .ok (.aload_n 0, 1) := by decide +kernel
theorem dX10_stepOf_17 : decode cX10_stepOf 17 = .ok (.invokevirtual 149, 3) := by decide +kernel
theorem dX10_stepOf_20 : decode cX10_stepOf 20 = .ok (.ifCond .ne 6, 3) := by decide +kernel
theorem dX10_stepOf_23 : decode cX10_stepOf 23 = .ok (.ldc 90, 2) := by decide +kernel
theorem dX10_stepOf_25 : decode cX10_stepOf 25 = .ok (.ireturn, 1) := by decide +kernel
theorem dX10_stepOf_26 : decode cX10_stepOf 26 = .ok (.iload_n 1, 1) := by decide +kernel
theorem dX10_stepOf_27 : decode cX10_stepOf 27 = .ok (.aload_n 0, 1) := by decide +kernel
theorem dX10_stepOf_28 : decode cX10_stepOf 28 = .ok (.getfield 42, 3) := by decide +kernel
theorem dX10_stepOf_31 : decode cX10_stepOf 31 = .ok (.getfield 152, 3) := by decide +kernel
theorem dX10_stepOf_34 : decode cX10_stepOf 34 = .ok (.if_icmp .lt 6, 3) := by decide +kernel
theorem dX10_stepOf_37 : decode cX10_stepOf 37 = .ok (.ldc 142, 2) := by decide +kernel
theorem dX10_stepOf_39 : decode cX10_stepOf 39 = .ok (.ireturn, 1) := by decide +kernel
theorem dX10_stepOf_40 : decode cX10_stepOf 40 = .ok (.iload_n 2, 1) := by decide +kernel
theorem dX10_stepOf_41 : decode cX10_stepOf 41 = .ok (.tableswitch 54 0 2 #[27, 36, 45], 27) := by decide +kernel
theorem dX10_stepOf_68 : decode cX10_stepOf 68 = .ok (.aload_n 0, 1) := by decide +kernel
theorem dX10_stepOf_69 : decode cX10_stepOf 69 = .ok (.getfield 42, 3) := by decide +kernel
theorem dX10_stepOf_72 : decode cX10_stepOf 72 = .ok (.iload_n 1, 1) := by decide +kernel
theorem dX10_stepOf_73 : decode cX10_stepOf 73 = .ok (.invokevirtual 153, 3) := by decide +kernel
theorem dX10_stepOf_76 : decode cX10_stepOf 76 = .ok (.ireturn, 1) := by decide +kernel
theorem dX10_stepOf_77 : decode cX10_stepOf 77 = .ok (.aload_n 0, 1) := by decide +kernel
theorem dX10_stepOf_78 : decode cX10_stepOf 78 = .ok (.getfield 42, 3) := by decide +kernel
theorem dX10_stepOf_81 : decode cX10_stepOf 81 = .ok (.iload_n 1, 1) := by decide +kernel
theorem dX10_stepOf_82 : decode cX10_stepOf 82 = .ok (.invokevirtual 156, 3) := by decide +kernel
theorem dX10_stepOf_85 : decode cX10_stepOf 85 = .ok (.ireturn, 1) := by decide +kernel
theorem dX10_stepOf_86 : decode cX10_stepOf 86 = .ok (.aload_n 0, 1) := by decide +kernel
theorem dX10_stepOf_87 : decode cX10_stepOf 87 = .ok (.getfield 42, 3) := by decide +kernel
theorem dX10_stepOf_90 : decode cX10_stepOf 90 = .ok (.iload_n 1, 1) := by decide +kernel
theorem dX10_stepOf_91 : decode cX10_stepOf 91 = .ok (.invokevirtual 159, 3) := by decide +kernel
theorem dX10_stepOf_94 : decode cX10_stepOf 94 = .ok (.ireturn, 1) := by decide +kernel
theorem dX10_stepOf_95 : decode cX10_stepOf 95 = .ok (.aload_n 0, 1) := by decide +kernel
theorem dX10_stepOf_96 : decode cX10_stepOf 96 = .ok (.getfield 42, 3) := by decide +kernel
theorem dX10_stepOf_99 : decode cX10_stepOf 99 = .ok (.iload_n 1, 1) := by decide +kernel
theorem dX10_stepOf_100 : decode cX10_stepOf 100 = .ok (.invokevirtual 162, 3) := by decide +kernel
theorem dX10_stepOf_103 : decode cX10_stepOf 103 = .ok (.ireturn, 1) := by decide +kernel
theorem dX10_textAt_0 : decode cX10_textAt 0 = .ok (.iload_n 1, 1) := by decide +kernel
theorem dX10_textAt_1 : decode cX10_textAt 1 = .ok (.ifCond .ge 6, 3) := by decide +kernel
theorem dX10_textAt_4 : decode cX10_textAt 4 = .ok (.ldc 81, 2) := by decide +kernel
theorem dX10_textAt_6 : decode cX10_textAt 6 = .ok (.ireturn, 1) := by decide +kernel
theorem dX10_textAt_7 : decode cX10_textAt 7 = .ok (.aload_n 0, 1) := by decide +kernel
theorem dX10_textAt_8 : decode cX10_textAt 8 = .ok (.invokevirtual 149, 3) := by decide +kernel
theorem dX10_textAt_11 : decode cX10_textAt 11 = .ok (.ifCond .ne 6, 3) := by decide +kernel
theorem dX10_textAt_14 : decode cX10_textAt 14 = .ok (.ldc 90, 2) := by decide +kernel
theorem dX10_textAt_16 : decode cX10_textAt 16 = .ok (.ireturn, 1) := by decide +kernel
theorem dX10_textAt_17 : decode cX10_textAt 17 = .ok (.aload_n 0, 1) := by decide +kernel
theorem dX10_textAt_18 : decode cX10_textAt 18 = .ok (.getfield 42, 3) := by decide +kernel
theorem dX10_textAt_21 : decode cX10_textAt 21 = .ok (.aload_n 0, 1) := by decide +kernel
theorem dX10_textAt_22 : decode cX10_textAt 22 = .ok (.getfield 46, 3) := by decide +kernel
theorem dX10_textAt_25 : decode cX10_textAt 25 = .ok (.invokevirtual 165, 3) := by decide +kernel
theorem dX10_textAt_28 : decode cX10_textAt 28 = .ok (.aload_n 0, 1) := by decide +kernel
theorem dX10_textAt_29 : decode cX10_textAt 29 = .ok (.getfield 46, 3) := by decide +kernel
theorem dX10_textAt_32 : decode cX10_textAt 32 = .ok (.iload_n 1, 1) := by decide +kernel
theorem dX10_textAt_33 : decode cX10_textAt 33 = .ok (.invokevirtual 103, 3) := by decide +kernel
theorem dX10_textAt_36 : decode cX10_textAt 36 = .ok (.invokestatic 126, 3) := by decide +kernel
theorem dX10_textAt_39 : decode cX10_textAt 39 = .ok (.ireturn, 1) := by decide +kernel
theorem dX10_scripts_0 : decode cX10_scripts 0 = .ok (.aload_n 0, 1) := by decide +kernel
theorem dX10_scripts_1 : decode cX10_scripts 1 = .ok (.getfield 66, 3) := by decide +kernel
theorem dX10_scripts_4 : decode cX10_scripts 4 = .ok (.aload_n 0, 1) := by decide +kernel
theorem dX10_scripts_5 : decode cX10_scripts 5 = .ok (.getfield 12, 3) := by decide +kernel
theorem dX10_scripts_8 : decode cX10_scripts 8 = .ok (.invokevirtual 169, 3) := by decide +kernel
theorem dX10_scripts_11 : decode cX10_scripts 11 = .ok (.lreturn, 1) := by decide +kernel
theorem dX10_hunkOf_0 : decode cX10_hunkOf 0 = .ok (.iload_n 1, 1) := by decide +kernel
theorem dX10_hunkOf_1 : decode cX10_hunkOf 1 = .ok (.ifCond .lt 12, 3) := by decide +kernel
theorem dX10_hunkOf_4 : decode cX10_hunkOf 4 = .ok (.iload_n 2, 1) := by decide +kernel
theorem dX10_hunkOf_5 : decode cX10_hunkOf 5 = .ok (.iconst 0, 1) := by decide +kernel
theorem dX10_hunkOf_6 : decode cX10_hunkOf 6 = .ok (.iconst 4, 1) := by decide +kernel
theorem dX10_hunkOf_7 : decode cX10_hunkOf 7 = .ok (.invokestatic 77, 3) := by decide +kernel
theorem dX10_hunkOf_10 : decode cX10_hunkOf 10 = .ok (.ifCond .ne 6, 3) := by decide +kernel
theorem dX10_hunkOf_13 : decode cX10_hunkOf 13 = .ok (.ldc 81, 2) := by decide +kernel
theorem dX10_hunkOf_15 : decode cX10_hunkOf 15 = .ok (.ireturn, 1) := by decide +kernel
theorem dX10_hunkOf_16 : decode cX10_hunkOf 16 = .ok (.aload_n 0, 1) := by decide +kernel
theorem dX10_hunkOf_17 : decode cX10_hunkOf 17 = .ok (.invokevirtual 149, 3) := by decide +kernel
theorem dX10_hunkOf_20 : decode cX10_hunkOf 20 = .ok (.ifCond .ne 6, 3) := by decide +kernel
theorem dX10_hunkOf_23 : decode cX10_hunkOf 23 = .ok (.ldc 90, 2) := by decide +kernel
theorem dX10_hunkOf_25 : decode cX10_hunkOf 25 = .ok (.ireturn, 1) := by decide +kernel
theorem dX10_hunkOf_26 : decode cX10_hunkOf 26 = .ok (.aload_n 0, 1) := by decide +kernel
theorem dX10_hunkOf_27 : decode cX10_hunkOf 27 = .ok (.getfield 52, 3) := by decide +kernel
theorem dX10_hunkOf_30 : decode cX10_hunkOf 30 = .ok (.aload_n 0, 1) := by decide +kernel
theorem dX10_hunkOf_31 : decode cX10_hunkOf 31 = .ok (.getfield 42, 3) := by decide +kernel
theorem dX10_hunkOf_34 : decode cX10_hunkOf 34 = .ok (.aload_n 0, 1) := by decide +kernel
theorem dX10_hunkOf_35 : decode cX10_hunkOf 35 = .ok (.getfield 12, 3) := by decide +kernel
theorem dX10_hunkOf_38 : decode cX10_hunkOf 38 = .ok (.getfield 123, 3) := by decide +kernel
theorem dX10_hunkOf_41 : decode cX10_hunkOf 41 = .ok (.iconst 1, 1) := by decide +kernel
theorem dX10_hunkOf_42 : decode cX10_hunkOf 42 = .ok (.iaload, 1) := by decide +kernel
theorem dX10_hunkOf_43 : decode cX10_hunkOf 43 = .ok (.invokevirtual 173, 3) := by decide +kernel
theorem dX10_hunkOf_46 : decode cX10_hunkOf 46 = .ok (.iload_n 1, 1) := by decide +kernel
theorem dX10_hunkOf_47 : decode cX10_hunkOf 47 = .ok (.aload_n 0, 1) := by decide +kernel
theorem dX10_hunkOf_48 : decode cX10_hunkOf 48 = .ok (.getfield 52, 3) := by decide +kernel
theorem dX10_hunkOf_51 : decode cX10_hunkOf 51 = .ok (.getfield 176, 3) := by decide +kernel
theorem dX10_hunkOf_54 : decode cX10_hunkOf 54 = .ok (.if_icmp .lt 6, 3) := by decide +kernel
theorem dX10_hunkOf_57 : decode cX10_hunkOf 57 = .ok (.ldc 142, 2) := by decide +kernel
theorem dX10_hunkOf_59 : decode cX10_hunkOf 59 = .ok (.ireturn, 1) := by decide +kernel
theorem dX10_hunkOf_60 : decode cX10_hunkOf 60 = .ok (.aload_n 0, 1) := by decide +kernel
theorem dX10_hunkOf_61 : decode cX10_hunkOf 61 = .ok (.getfield 52, 3) := by decide +kernel
theorem dX10_hunkOf_64 : decode cX10_hunkOf 64 = .ok (.iload_n 1, 1) := by decide +kernel
theorem dX10_hunkOf_65 : decode cX10_hunkOf 65 = .ok (.invokevirtual 179, 3) := by decide +kernel
theorem dX10_hunkOf_68 : decode cX10_hunkOf 68 = .ok (.istore_n 3, 1) := by decide +kernel
theorem dX10_hunkOf_69 : decode cX10_hunkOf 69 = .ok (.aload_n 0, 1) := by decide +kernel
theorem dX10_hunkOf_70 : decode cX10_hunkOf 70 = .ok (.getfield 52, 3) := by decide +kernel
theorem dX10_hunkOf_73 : decode cX10_hunkOf 73 = .ok (.iload_n 1, 1) := by decide +kernel
theorem dX10_hunkOf_74 : decode cX10_hunkOf 74 = .ok (.invokevirtual 182, 3) := by decide +kernel
theorem dX10_hunkOf_77 : decode cX10_hunkOf 77 = .ok (.istore 4, 2) := by decide +kernel
theorem dX10_hunkOf_79 : decode cX10_hunkOf 79 = .ok (.iload_n 2, 1) := by decide +kernel
theorem dX10_hunkOf_80 : decode cX10_hunkOf 80 = .ok (.tableswitch 88 0 3 #[32, 41, 60, 69], 32) := by decide +kernel
theorem dX10_hunkOf_112 : decode cX10_hunkOf 112 = .ok (.aload_n 0, 1) := by decide +kernel
theorem dX10_hunkOf_113 : decode cX10_hunkOf 113 = .ok (.getfield 42, 3) := by decide +kernel
theorem dX10_hunkOf_116 : decode cX10_hunkOf 116 = .ok (.iload_n 3, 1) := by decide +kernel
theorem dX10_hunkOf_117 : decode cX10_hunkOf 117 = .ok (.invokevirtual 159, 3) := by decide +kernel
theorem dX10_hunkOf_120 : decode cX10_hunkOf 120 = .ok (.ireturn, 1) := by decide +kernel
theorem dX10_hunkOf_121 : decode cX10_hunkOf 121 = .ok (.aload_n 0, 1) := by decide +kernel
theorem dX10_hunkOf_122 : decode cX10_hunkOf 122 = .ok (.getfield 42, 3) := by decide +kernel
theorem dX10_hunkOf_125 : decode cX10_hunkOf 125 = .ok (.iload 4, 2) := by decide +kernel
theorem dX10_hunkOf_127 : decode cX10_hunkOf 127 = .ok (.invokevirtual 159, 3) := by decide +kernel
theorem dX10_hunkOf_130 : decode cX10_hunkOf 130 = .ok (.aload_n 0, 1) := by decide +kernel
theorem dX10_hunkOf_131 : decode cX10_hunkOf 131 = .ok (.getfield 42, 3) := by decide +kernel
theorem dX10_hunkOf_134 : decode cX10_hunkOf 134 = .ok (.iload_n 3, 1) := by decide +kernel
theorem dX10_hunkOf_135 : decode cX10_hunkOf 135 = .ok (.invokevirtual 159, 3) := by decide +kernel
theorem dX10_hunkOf_138 : decode cX10_hunkOf 138 = .ok (.isub, 1) := by decide +kernel
theorem dX10_hunkOf_139 : decode cX10_hunkOf 139 = .ok (.ireturn, 1) := by decide +kernel
theorem dX10_hunkOf_140 : decode cX10_hunkOf 140 = .ok (.aload_n 0, 1) := by decide +kernel
theorem dX10_hunkOf_141 : decode cX10_hunkOf 141 = .ok (.getfield 42, 3) := by decide +kernel
theorem dX10_hunkOf_144 : decode cX10_hunkOf 144 = .ok (.iload_n 3, 1) := by decide +kernel
theorem dX10_hunkOf_145 : decode cX10_hunkOf 145 = .ok (.invokevirtual 162, 3) := by decide +kernel
theorem dX10_hunkOf_148 : decode cX10_hunkOf 148 = .ok (.ireturn, 1) := by decide +kernel
theorem dX10_hunkOf_149 : decode cX10_hunkOf 149 = .ok (.aload_n 0, 1) := by decide +kernel
theorem dX10_hunkOf_150 : decode cX10_hunkOf 150 = .ok (.getfield 42, 3) := by decide +kernel
theorem dX10_hunkOf_153 : decode cX10_hunkOf 153 = .ok (.iload 4, 2) := by decide +kernel
theorem dX10_hunkOf_155 : decode cX10_hunkOf 155 = .ok (.invokevirtual 162, 3) := by decide +kernel
theorem dX10_hunkOf_158 : decode cX10_hunkOf 158 = .ok (.aload_n 0, 1) := by decide +kernel
theorem dX10_hunkOf_159 : decode cX10_hunkOf 159 = .ok (.getfield 42, 3) := by decide +kernel
theorem dX10_hunkOf_162 : decode cX10_hunkOf 162 = .ok (.iload_n 3, 1) := by decide +kernel
theorem dX10_hunkOf_163 : decode cX10_hunkOf 163 = .ok (.invokevirtual 162, 3) := by decide +kernel
theorem dX10_hunkOf_166 : decode cX10_hunkOf 166 = .ok (.isub, 1) := by decide +kernel
theorem dX10_hunkOf_167 : decode cX10_hunkOf 167 = .ok (.ireturn, 1) := by decide +kernel
theorem dX10_hunkOf_168 : decode cX10_hunkOf 168 = .ok (.aload_n 0, 1) := by decide +kernel
theorem dX10_hunkOf_169 : decode cX10_hunkOf 169 = .ok (.getfield 52, 3) := by decide +kernel
theorem dX10_hunkOf_172 : decode cX10_hunkOf 172 = .ok (.iload_n 1, 1) := by decide +kernel
theorem dX10_hunkOf_173 : decode cX10_hunkOf 173 = .ok (.invokevirtual 185, 3) := by decide +kernel
theorem dX10_hunkOf_176 : decode cX10_hunkOf 176 = .ok (.ireturn, 1) := by decide +kernel
theorem dX10_movedOf_0 : decode cX10_movedOf 0 = .ok (.iload_n 1, 1) := by decide +kernel
theorem dX10_movedOf_1 : decode cX10_movedOf 1 = .ok (.ifCond .lt 12, 3) := by decide +kernel
theorem dX10_movedOf_4 : decode cX10_movedOf 4 = .ok (.iload_n 2, 1) := by decide +kernel
theorem dX10_movedOf_5 : decode cX10_movedOf 5 = .ok (.iconst 0, 1) := by decide +kernel
theorem dX10_movedOf_6 : decode cX10_movedOf 6 = .ok (.iconst 2, 1) := by decide +kernel
theorem dX10_movedOf_7 : decode cX10_movedOf 7 = .ok (.invokestatic 77, 3) := by decide +kernel
theorem dX10_movedOf_10 : decode cX10_movedOf 10 = .ok (.ifCond .ne 6, 3) := by decide +kernel
theorem dX10_movedOf_13 : decode cX10_movedOf 13 = .ok (.ldc 81, 2) := by decide +kernel
theorem dX10_movedOf_15 : decode cX10_movedOf 15 = .ok (.ireturn, 1) := by decide +kernel
theorem dX10_movedOf_16 : decode cX10_movedOf 16 = .ok (.aload_n 0, 1) := by decide +kernel
theorem dX10_movedOf_17 : decode cX10_movedOf 17 = .ok (.invokevirtual 149, 3) := by decide +kernel
theorem dX10_movedOf_20 : decode cX10_movedOf 20 = .ok (.ifCond .ne 6, 3) := by decide +kernel
theorem dX10_movedOf_23 : decode cX10_movedOf 23 = .ok (.ldc 90, 2) := by decide +kernel
theorem dX10_movedOf_25 : decode cX10_movedOf 25 = .ok (.ireturn, 1) := by decide +kernel
theorem dX10_movedOf_26 : decode cX10_movedOf 26 = .ok (.aload_n 0, 1) := by decide +kernel
theorem dX10_movedOf_27 : decode cX10_movedOf 27 = .ok (.getfield 59, 3) := by decide +kernel
theorem dX10_movedOf_30 : decode cX10_movedOf 30 = .ok (.aload_n 0, 1) := by decide +kernel
theorem dX10_movedOf_31 : decode cX10_movedOf 31 = .ok (.getfield 42, 3) := by decide +kernel
theorem dX10_movedOf_34 : decode cX10_movedOf 34 = .ok (.aload_n 0, 1) := by decide +kernel
theorem dX10_movedOf_35 : decode cX10_movedOf 35 = .ok (.getfield 12, 3) := by decide +kernel
theorem dX10_movedOf_38 : decode cX10_movedOf 38 = .ok (.getfield 123, 3) := by decide +kernel
theorem dX10_movedOf_41 : decode cX10_movedOf 41 = .ok (.iconst 2, 1) := by decide +kernel
theorem dX10_movedOf_42 : decode cX10_movedOf 42 = .ok (.iaload, 1) := by decide +kernel
theorem dX10_movedOf_43 : decode cX10_movedOf 43 = .ok (.invokevirtual 188, 3) := by decide +kernel
theorem dX10_movedOf_46 : decode cX10_movedOf 46 = .ok (.aload_n 0, 1) := by decide +kernel
theorem dX10_movedOf_47 : decode cX10_movedOf 47 = .ok (.getfield 59, 3) := by decide +kernel
theorem dX10_movedOf_50 : decode cX10_movedOf 50 = .ok (.iload_n 1, 1) := by decide +kernel
theorem dX10_movedOf_51 : decode cX10_movedOf 51 = .ok (.invokevirtual 189, 3) := by decide +kernel
theorem dX10_movedOf_54 : decode cX10_movedOf 54 = .ok (.istore_n 3, 1) := by decide +kernel
theorem dX10_movedOf_55 : decode cX10_movedOf 55 = .ok (.iload_n 3, 1) := by decide +kernel
theorem dX10_movedOf_56 : decode cX10_movedOf 56 = .ok (.iconst (-1), 1) := by decide +kernel
theorem dX10_movedOf_57 : decode cX10_movedOf 57 = .ok (.if_icmp .ne 6, 3) := by decide +kernel
theorem dX10_movedOf_60 : decode cX10_movedOf 60 = .ok (.ldc 142, 2) := by decide +kernel
theorem dX10_movedOf_62 : decode cX10_movedOf 62 = .ok (.ireturn, 1) := by decide +kernel
theorem dX10_movedOf_63 : decode cX10_movedOf 63 = .ok (.iload_n 2, 1) := by decide +kernel
theorem dX10_movedOf_64 : decode cX10_movedOf 64 = .ok (.lookupswitch 53 #[(0, 28), (1, 37)], 28) := by decide +kernel
theorem dX10_movedOf_92 : decode cX10_movedOf 92 = .ok (.aload_n 0, 1) := by decide +kernel
theorem dX10_movedOf_93 : decode cX10_movedOf 93 = .ok (.getfield 59, 3) := by decide +kernel
theorem dX10_movedOf_96 : decode cX10_movedOf 96 = .ok (.iload_n 3, 1) := by decide +kernel
theorem dX10_movedOf_97 : decode cX10_movedOf 97 = .ok (.invokevirtual 192, 3) := by decide +kernel
theorem dX10_movedOf_100 : decode cX10_movedOf 100 = .ok (.ireturn, 1) := by decide +kernel
theorem dX10_movedOf_101 : decode cX10_movedOf 101 = .ok (.aload_n 0, 1) := by decide +kernel
theorem dX10_movedOf_102 : decode cX10_movedOf 102 = .ok (.getfield 42, 3) := by decide +kernel
theorem dX10_movedOf_105 : decode cX10_movedOf 105 = .ok (.aload_n 0, 1) := by decide +kernel
theorem dX10_movedOf_106 : decode cX10_movedOf 106 = .ok (.getfield 59, 3) := by decide +kernel
theorem dX10_movedOf_109 : decode cX10_movedOf 109 = .ok (.iload_n 3, 1) := by decide +kernel
theorem dX10_movedOf_110 : decode cX10_movedOf 110 = .ok (.invokevirtual 195, 3) := by decide +kernel
theorem dX10_movedOf_113 : decode cX10_movedOf 113 = .ok (.invokevirtual 159, 3) := by decide +kernel
theorem dX10_movedOf_116 : decode cX10_movedOf 116 = .ok (.ireturn, 1) := by decide +kernel
theorem dX10_movedOf_117 : decode cX10_movedOf 117 = .ok (.aload_n 0, 1) := by decide +kernel
theorem dX10_movedOf_118 : decode cX10_movedOf 118 = .ok (.getfield 42, 3) := by decide +kernel
theorem dX10_movedOf_121 : decode cX10_movedOf 121 = .ok (.aload_n 0, 1) := by decide +kernel
theorem dX10_movedOf_122 : decode cX10_movedOf 122 = .ok (.getfield 59, 3) := by decide +kernel
theorem dX10_movedOf_125 : decode cX10_movedOf 125 = .ok (.iload_n 3, 1) := by decide +kernel
theorem dX10_movedOf_126 : decode cX10_movedOf 126 = .ok (.invokevirtual 198, 3) := by decide +kernel
theorem dX10_movedOf_129 : decode cX10_movedOf 129 = .ok (.invokevirtual 162, 3) := by decide +kernel
theorem dX10_movedOf_132 : decode cX10_movedOf 132 = .ok (.ireturn, 1) := by decide +kernel
theorem dX10_bestChange_0 : decode cX10_bestChange 0 = .ok (.iload_n 1, 1) := by decide +kernel
theorem dX10_bestChange_1 : decode cX10_bestChange 1 = .ok (.iconst 0, 1) := by decide +kernel
theorem dX10_bestChange_2 : decode cX10_bestChange 2 = .ok (.iconst 2, 1) := by decide +kernel
theorem dX10_bestChange_3 : decode cX10_bestChange 3 = .ok (.invokestatic 77, 3) := by decide +kernel
theorem dX10_bestChange_6 : decode cX10_bestChange 6 = .ok (.ifCond .ne 6, 3) := by decide +kernel
theorem dX10_bestChange_9 : decode cX10_bestChange 9 = .ok (.ldc 81, 2) := by decide +kernel
theorem dX10_bestChange_11 : decode cX10_bestChange 11 = .ok (.ireturn, 1) := by decide +kernel
theorem dX10_bestChange_12 : decode cX10_bestChange 12 = .ok (.aload_n 0, 1) := by decide +kernel
theorem dX10_bestChange_13 : decode cX10_bestChange 13 = .ok (.getfield 66, 3) := by decide +kernel
theorem dX10_bestChange_16 : decode cX10_bestChange 16 = .ok (.aload_n 0, 1) := by decide +kernel
theorem dX10_bestChange_17 : decode cX10_bestChange 17 = .ok (.getfield 12, 3) := by decide +kernel
theorem dX10_bestChange_20 : decode cX10_bestChange 20 = .ok (.invokevirtual 201, 3) := by decide +kernel
theorem dX10_bestChange_23 : decode cX10_bestChange 23 = .ok (.aload_n 0, 1) := by decide +kernel
theorem dX10_bestChange_24 : decode cX10_bestChange 24 = .ok (.getfield 66, 3) := by decide +kernel
theorem dX10_bestChange_27 : decode cX10_bestChange 27 = .ok (.getfield 204, 3) := by decide +kernel
theorem dX10_bestChange_30 : decode cX10_bestChange 30 = .ok (.iconst (-1), 1) := by decide +kernel
theorem dX10_bestChange_31 : decode cX10_bestChange 31 = .ok (.if_icmp .ne 6, 3) := by decide +kernel
theorem dX10_bestChange_34 : decode cX10_bestChange 34 = .ok (.ldc 142, 2) := by decide +kernel
theorem dX10_bestChange_36 : decode cX10_bestChange 36 = .ok (.ireturn, 1) := by decide +kernel
theorem dX10_bestChange_37 : decode cX10_bestChange 37 = .ok (.iload_n 1, 1) := by decide +kernel
theorem dX10_bestChange_38 : decode cX10_bestChange 38 = .ok (.lookupswitch 42 #[(0, 26), (1, 34)], 26) := by decide +kernel
theorem dX10_bestChange_64 : decode cX10_bestChange 64 = .ok (.aload_n 0, 1) := by decide +kernel
theorem dX10_bestChange_65 : decode cX10_bestChange 65 = .ok (.getfield 66, 3) := by decide +kernel
theorem dX10_bestChange_68 : decode cX10_bestChange 68 = .ok (.getfield 204, 3) := by decide +kernel
theorem dX10_bestChange_71 : decode cX10_bestChange 71 = .ok (.ireturn, 1) := by decide +kernel
theorem dX10_bestChange_72 : decode cX10_bestChange 72 = .ok (.aload_n 0, 1) := by decide +kernel
theorem dX10_bestChange_73 : decode cX10_bestChange 73 = .ok (.getfield 66, 3) := by decide +kernel
theorem dX10_bestChange_76 : decode cX10_bestChange 76 = .ok (.getfield 207, 3) := by decide +kernel
theorem dX10_bestChange_79 : decode cX10_bestChange 79 = .ok (.ireturn, 1) := by decide +kernel
theorem dX10_bestChange_80 : decode cX10_bestChange 80 = .ok (.aload_n 0, 1) := by decide +kernel
theorem dX10_bestChange_81 : decode cX10_bestChange 81 = .ok (.getfield 12, 3) := by decide +kernel
theorem dX10_bestChange_84 : decode cX10_bestChange 84 = .ok (.getfield 113, 3) := by decide +kernel
theorem dX10_bestChange_87 : decode cX10_bestChange 87 = .ok (.getfield 86, 3) := by decide +kernel
theorem dX10_bestChange_90 : decode cX10_bestChange 90 = .ok (.aload_n 0, 1) := by decide +kernel
theorem dX10_bestChange_91 : decode cX10_bestChange 91 = .ok (.getfield 12, 3) := by decide +kernel
theorem dX10_bestChange_94 : decode cX10_bestChange 94 = .ok (.getfield 129, 3) := by decide +kernel
theorem dX10_bestChange_97 : decode cX10_bestChange 97 = .ok (.getfield 86, 3) := by decide +kernel
theorem dX10_bestChange_100 : decode cX10_bestChange 100 = .ok (.iadd, 1) := by decide +kernel
theorem dX10_bestChange_101 : decode cX10_bestChange 101 = .ok (.iconst 2, 1) := by decide +kernel
theorem dX10_bestChange_102 : decode cX10_bestChange 102 = .ok (.aload_n 0, 1) := by decide +kernel
theorem dX10_bestChange_103 : decode cX10_bestChange 103 = .ok (.getfield 66, 3) := by decide +kernel
theorem dX10_bestChange_106 : decode cX10_bestChange 106 = .ok (.getfield 210, 3) := by decide +kernel
theorem dX10_bestChange_109 : decode cX10_bestChange 109 = .ok (.imul, 1) := by decide +kernel
theorem dX10_bestChange_110 : decode cX10_bestChange 110 = .ok (.isub, 1) := by decide +kernel
theorem dX10_bestChange_111 : decode cX10_bestChange 111 = .ok (.ireturn, 1) := by decide +kernel
theorem dX10_count_0 : decode cX10_count 0 = .ok (.iload_n 1, 1) := by decide +kernel
theorem dX10_count_1 : decode cX10_count 1 = .ok (.bipush 20, 2) := by decide +kernel
theorem dX10_count_3 : decode cX10_count 3 = .ok (.bipush 22, 2) := by decide +kernel
theorem dX10_count_5 : decode cX10_count 5 = .ok (.invokestatic 77, 3) := by decide +kernel
theorem dX10_count_8 : decode cX10_count 8 = .ok (.ifCond .eq 16, 3) := by decide +kernel
theorem dX10_count_11 : decode cX10_count 11 = .ok (.aload_n 0, 1) := by decide +kernel
theorem dX10_count_12 : decode cX10_count 12 = .ok (.getfield 12, 3) := by decide +kernel
theorem dX10_count_15 : decode cX10_count 15 = .ok (.getfield 123, 3) := by decide +kernel
theorem dX10_count_18 : decode cX10_count 18 = .ok (.iload_n 1, 1) := by decide +kernel
theorem dX10_count_19 : decode cX10_count 19 = .ok (.bipush 20, 2) := by decide +kernel
theorem dX10_count_21 : decode cX10_count 21 = .ok (.isub, 1) := by decide +kernel
theorem dX10_count_22 : decode cX10_count 22 = .ok (.iaload, 1) := by decide +kernel
theorem dX10_count_23 : decode cX10_count 23 = .ok (.ireturn, 1) := by decide +kernel
theorem dX10_count_24 : decode cX10_count 24 = .ok (.iload_n 1, 1) := by decide +kernel
theorem dX10_count_25 : decode cX10_count 25 = .ok (.tableswitch 103 0 8 #[51, 62, 73, 73, 73, 73, 79, 87, 95], 51) := by decide +kernel
theorem dX10_count_76 : decode cX10_count 76 = .ok (.aload_n 0, 1) := by decide +kernel
theorem dX10_count_77 : decode cX10_count 77 = .ok (.getfield 12, 3) := by decide +kernel
theorem dX10_count_80 : decode cX10_count 80 = .ok (.getfield 113, 3) := by decide +kernel
theorem dX10_count_83 : decode cX10_count 83 = .ok (.getfield 86, 3) := by decide +kernel
theorem dX10_count_86 : decode cX10_count 86 = .ok (.ireturn, 1) := by decide +kernel
theorem dX10_count_87 : decode cX10_count 87 = .ok (.aload_n 0, 1) := by decide +kernel
theorem dX10_count_88 : decode cX10_count 88 = .ok (.getfield 12, 3) := by decide +kernel
theorem dX10_count_91 : decode cX10_count 91 = .ok (.getfield 129, 3) := by decide +kernel
theorem dX10_count_94 : decode cX10_count 94 = .ok (.getfield 86, 3) := by decide +kernel
theorem dX10_count_97 : decode cX10_count 97 = .ok (.ireturn, 1) := by decide +kernel
theorem dX10_count_98 : decode cX10_count 98 = .ok (.aload_n 0, 1) := by decide +kernel
theorem dX10_count_99 : decode cX10_count 99 = .ok (.iload_n 1, 1) := by decide +kernel
theorem dX10_count_100 : decode cX10_count 100 = .ok (.invokevirtual 213, 3) := by decide +kernel
theorem dX10_count_103 : decode cX10_count 103 = .ok (.ireturn, 1) := by decide +kernel
theorem dX10_count_104 : decode cX10_count 104 = .ok (.aload_n 0, 1) := by decide +kernel
theorem dX10_count_105 : decode cX10_count 105 = .ok (.getfield 12, 3) := by decide +kernel
theorem dX10_count_108 : decode cX10_count 108 = .ok (.invokevirtual 216, 3) := by decide +kernel
theorem dX10_count_111 : decode cX10_count 111 = .ok (.ireturn, 1) := by decide +kernel
theorem dX10_count_112 : decode cX10_count 112 = .ok (.aload_n 0, 1) := by decide +kernel
theorem dX10_count_113 : decode cX10_count 113 = .ok (.getfield 19, 3) := by decide +kernel
theorem dX10_count_116 : decode cX10_count 116 = .ok (.getfield 220, 3) := by decide +kernel
theorem dX10_count_119 : decode cX10_count 119 = .ok (.ireturn, 1) := by decide +kernel
theorem dX10_count_120 : decode cX10_count 120 = .ok (.aload_n 0, 1) := by decide +kernel
theorem dX10_count_121 : decode cX10_count 121 = .ok (.getfield 28, 3) := by decide +kernel
theorem dX10_count_124 : decode cX10_count 124 = .ok (.getfield 86, 3) := by decide +kernel
theorem dX10_count_127 : decode cX10_count 127 = .ok (.ireturn, 1) := by decide +kernel
theorem dX10_count_128 : decode cX10_count 128 = .ok (.ldc 81, 2) := by decide +kernel
theorem dX10_count_130 : decode cX10_count 130 = .ok (.ireturn, 1) := by decide +kernel
theorem dX10_undo_0 : decode cX10_undo 0 = .ok (.aload_n 0, 1) := by decide +kernel
theorem dX10_undo_1 : decode cX10_undo 1 = .ok (.getfield 19, 3) := by decide +kernel
theorem dX10_undo_4 : decode cX10_undo 4 = .ok (.getfield 220, 3) := by decide +kernel
theorem dX10_undo_7 : decode cX10_undo 7 = .ok (.ifCond .ne 6, 3) := by decide +kernel
theorem dX10_undo_10 : decode cX10_undo 10 = .ok (.ldc 98, 2) := by decide +kernel
theorem dX10_undo_12 : decode cX10_undo 12 = .ok (.ireturn, 1) := by decide +kernel
theorem dX10_undo_13 : decode cX10_undo 13 = .ok (.aload_n 0, 1) := by decide +kernel
theorem dX10_undo_14 : decode cX10_undo 14 = .ok (.getfield 19, 3) := by decide +kernel
theorem dX10_undo_17 : decode cX10_undo 17 = .ok (.aload_n 0, 1) := by decide +kernel
theorem dX10_undo_18 : decode cX10_undo 18 = .ok (.getfield 12, 3) := by decide +kernel
theorem dX10_undo_21 : decode cX10_undo 21 = .ok (.invokevirtual 221, 3) := by decide +kernel
theorem dX10_undo_24 : decode cX10_undo 24 = .ok (.aload_n 0, 1) := by decide +kernel
theorem dX10_undo_25 : decode cX10_undo 25 = .ok (.getfield 19, 3) := by decide +kernel
theorem dX10_undo_28 : decode cX10_undo 28 = .ok (.getfield 220, 3) := by decide +kernel
theorem dX10_undo_31 : decode cX10_undo 31 = .ok (.ireturn, 1) := by decide +kernel
theorem dX10_type_0 : decode cX10_type 0 = .ok (.iload_n 1, 1) := by decide +kernel
theorem dX10_type_1 : decode cX10_type 1 = .ok (.bipush 32, 2) := by decide +kernel
theorem dX10_type_3 : decode cX10_type 3 = .ok (.bipush 126, 2) := by decide +kernel
theorem dX10_type_5 : decode cX10_type 5 = .ok (.invokestatic 77, 3) := by decide +kernel
theorem dX10_type_8 : decode cX10_type 8 = .ok (.ifCond .ne 6, 3) := by decide +kernel
theorem dX10_type_11 : decode cX10_type 11 = .ok (.ldc 81, 2) := by decide +kernel
theorem dX10_type_13 : decode cX10_type 13 = .ok (.ireturn, 1) := by decide +kernel
theorem dX10_type_14 : decode cX10_type 14 = .ok (.aload_n 0, 1) := by decide +kernel
theorem dX10_type_15 : decode cX10_type 15 = .ok (.getfield 28, 3) := by decide +kernel
theorem dX10_type_18 : decode cX10_type 18 = .ok (.getfield 86, 3) := by decide +kernel
theorem dX10_type_21 : decode cX10_type 21 = .ok (.bipush 60, 2) := by decide +kernel
theorem dX10_type_23 : decode cX10_type 23 = .ok (.if_icmp .lt 6, 3) := by decide +kernel
theorem dX10_type_26 : decode cX10_type 26 = .ok (.ldc 90, 2) := by decide +kernel
theorem dX10_type_28 : decode cX10_type 28 = .ok (.ireturn, 1) := by decide +kernel
theorem dX10_type_29 : decode cX10_type 29 = .ok (.aload_n 0, 1) := by decide +kernel
theorem dX10_type_30 : decode cX10_type 30 = .ok (.getfield 28, 3) := by decide +kernel
theorem dX10_type_33 : decode cX10_type 33 = .ok (.iload_n 1, 1) := by decide +kernel
theorem dX10_type_34 : decode cX10_type 34 = .ok (.invokevirtual 95, 3) := by decide +kernel
theorem dX10_type_37 : decode cX10_type 37 = .ok (.aload_n 0, 1) := by decide +kernel
theorem dX10_type_38 : decode cX10_type 38 = .ok (.getfield 28, 3) := by decide +kernel
theorem dX10_type_41 : decode cX10_type 41 = .ok (.getfield 86, 3) := by decide +kernel
theorem dX10_type_44 : decode cX10_type 44 = .ok (.ireturn, 1) := by decide +kernel
theorem dX10_clearText_0 : decode cX10_clearText 0 = .ok (.aload_n 0, 1) := by decide +kernel
theorem dX10_clearText_1 : decode cX10_clearText 1 = .ok (.getfield 28, 3) := by decide +kernel
theorem dX10_clearText_4 : decode cX10_clearText 4 = .ok (.getfield 86, 3) := by decide +kernel
theorem dX10_clearText_7 : decode cX10_clearText 7 = .ok (.istore_n 1, 1) := by decide +kernel
theorem dX10_clearText_8 : decode cX10_clearText 8 = .ok (.aload_n 0, 1) := by decide +kernel
theorem dX10_clearText_9 : decode cX10_clearText 9 = .ok (.getfield 28, 3) := by decide +kernel
theorem dX10_clearText_12 : decode cX10_clearText 12 = .ok (.invokevirtual 224, 3) := by decide +kernel
theorem dX10_clearText_15 : decode cX10_clearText 15 = .ok (.iload_n 1, 1) := by decide +kernel
theorem dX10_clearText_16 : decode cX10_clearText 16 = .ok (.ireturn, 1) := by decide +kernel
theorem dX10_fault_0 : decode cX10_fault 0 = .ok (.iload_n 1, 1) := by decide +kernel
theorem dX10_fault_1 : decode cX10_fault 1 = .ok (.iconst 0, 1) := by decide +kernel
theorem dX10_fault_2 : decode cX10_fault 2 = .ok (.iconst 2, 1) := by decide +kernel
theorem dX10_fault_3 : decode cX10_fault 3 = .ok (.invokestatic 77, 3) := by decide +kernel
theorem dX10_fault_6 : decode cX10_fault 6 = .ok (.ifCond .ne 6, 3) := by decide +kernel
theorem dX10_fault_9 : decode cX10_fault 9 = .ok (.ldc 81, 2) := by decide +kernel
theorem dX10_fault_11 : decode cX10_fault 11 = .ok (.ireturn, 1) := by decide +kernel
theorem dX10_fault_12 : decode cX10_fault 12 = .ok (.aload_n 0, 1) := by decide +kernel
theorem dX10_fault_13 : decode cX10_fault 13 = .ok (.getfield 73, 3) := by decide +kernel
theorem dX10_fault_16 : decode cX10_fault 16 = .ok (.aload_n 0, 1) := by decide +kernel
theorem dX10_fault_17 : decode cX10_fault 17 = .ok (.getfield 28, 3) := by decide +kernel
theorem dX10_fault_20 : decode cX10_fault 20 = .ok (.aload_n 0, 1) := by decide +kernel
theorem dX10_fault_21 : decode cX10_fault 21 = .ok (.getfield 12, 3) := by decide +kernel
theorem dX10_fault_24 : decode cX10_fault 24 = .ok (.getfield 113, 3) := by decide +kernel
theorem dX10_fault_27 : decode cX10_fault 27 = .ok (.invokevirtual 227, 3) := by decide +kernel
theorem dX10_fault_30 : decode cX10_fault 30 = .ok (.aload_n 0, 1) := by decide +kernel
theorem dX10_fault_31 : decode cX10_fault 31 = .ok (.getfield 73, 3) := by decide +kernel
theorem dX10_fault_34 : decode cX10_fault 34 = .ok (.getfield 231, 3) := by decide +kernel
theorem dX10_fault_37 : decode cX10_fault 37 = .ok (.ifCond .ne 6, 3) := by decide +kernel
theorem dX10_fault_40 : decode cX10_fault 40 = .ok (.ldc 142, 2) := by decide +kernel
theorem dX10_fault_42 : decode cX10_fault 42 = .ok (.ireturn, 1) := by decide +kernel
theorem dX10_fault_43 : decode cX10_fault 43 = .ok (.iload_n 1, 1) := by decide +kernel
theorem dX10_fault_44 : decode cX10_fault 44 = .ok (.lookupswitch 44 #[(0, 28), (1, 36)], 28) := by decide +kernel
theorem dX10_fault_72 : decode cX10_fault 72 = .ok (.aload_n 0, 1) := by decide +kernel
theorem dX10_fault_73 : decode cX10_fault 73 = .ok (.getfield 73, 3) := by decide +kernel
theorem dX10_fault_76 : decode cX10_fault 76 = .ok (.getfield 234, 3) := by decide +kernel
theorem dX10_fault_79 : decode cX10_fault 79 = .ok (.ireturn, 1) := by decide +kernel
theorem dX10_fault_80 : decode cX10_fault 80 = .ok (.aload_n 0, 1) := by decide +kernel
theorem dX10_fault_81 : decode cX10_fault 81 = .ok (.getfield 73, 3) := by decide +kernel
theorem dX10_fault_84 : decode cX10_fault 84 = .ok (.getfield 231, 3) := by decide +kernel
theorem dX10_fault_87 : decode cX10_fault 87 = .ok (.ireturn, 1) := by decide +kernel
theorem dX10_fault_88 : decode cX10_fault 88 = .ok (.aload_n 0, 1) := by decide +kernel
theorem dX10_fault_89 : decode cX10_fault 89 = .ok (.getfield 73, 3) := by decide +kernel
theorem dX10_fault_92 : decode cX10_fault 92 = .ok (.getfield 237, 3) := by decide +kernel
theorem dX10_fault_95 : decode cX10_fault 95 = .ok (.invokestatic 126, 3) := by decide +kernel
theorem dX10_fault_98 : decode cX10_fault 98 = .ok (.ireturn, 1) := by decide +kernel
theorem dX10_apply_0 : decode cX10_apply 0 = .ok (.aload_n 0, 1) := by decide +kernel
theorem dX10_apply_1 : decode cX10_apply 1 = .ok (.getfield 73, 3) := by decide +kernel
theorem dX10_apply_4 : decode cX10_apply 4 = .ok (.aload_n 0, 1) := by decide +kernel
theorem dX10_apply_5 : decode cX10_apply 5 = .ok (.getfield 28, 3) := by decide +kernel
theorem dX10_apply_8 : decode cX10_apply 8 = .ok (.aload_n 0, 1) := by decide +kernel
theorem dX10_apply_9 : decode cX10_apply 9 = .ok (.getfield 12, 3) := by decide +kernel
theorem dX10_apply_12 : decode cX10_apply 12 = .ok (.getfield 113, 3) := by decide +kernel
theorem dX10_apply_15 : decode cX10_apply 15 = .ok (.invokevirtual 227, 3) := by decide +kernel
theorem dX10_apply_18 : decode cX10_apply 18 = .ok (.aload_n 0, 1) := by decide +kernel
theorem dX10_apply_19 : decode cX10_apply 19 = .ok (.getfield 73, 3) := by decide +kernel
theorem dX10_apply_22 : decode cX10_apply 22 = .ok (.getfield 231, 3) := by decide +kernel
theorem dX10_apply_25 : decode cX10_apply 25 = .ok (.ifCond .eq 6, 3) := by decide +kernel
theorem dX10_apply_28 : decode cX10_apply 28 = .ok (.ldc 98, 2) := by decide +kernel
theorem dX10_apply_30 : decode cX10_apply 30 = .ok (.ireturn, 1) := by decide +kernel
theorem dX10_apply_31 : decode cX10_apply 31 = .ok (.aload_n 0, 1) := by decide +kernel
theorem dX10_apply_32 : decode cX10_apply 32 = .ok (.getfield 19, 3) := by decide +kernel
theorem dX10_apply_35 : decode cX10_apply 35 = .ok (.aload_n 0, 1) := by decide +kernel
theorem dX10_apply_36 : decode cX10_apply 36 = .ok (.getfield 12, 3) := by decide +kernel
theorem dX10_apply_39 : decode cX10_apply 39 = .ok (.invokevirtual 91, 3) := by decide +kernel
theorem dX10_apply_42 : decode cX10_apply 42 = .ok (.aload_n 0, 1) := by decide +kernel
theorem dX10_apply_43 : decode cX10_apply 43 = .ok (.getfield 12, 3) := by decide +kernel
theorem dX10_apply_46 : decode cX10_apply 46 = .ok (.getfield 129, 3) := by decide +kernel
theorem dX10_apply_49 : decode cX10_apply 49 = .ok (.aload_n 0, 1) := by decide +kernel
theorem dX10_apply_50 : decode cX10_apply 50 = .ok (.getfield 73, 3) := by decide +kernel
theorem dX10_apply_53 : decode cX10_apply 53 = .ok (.getfield 240, 3) := by decide +kernel
theorem dX10_apply_56 : decode cX10_apply 56 = .ok (.invokevirtual 243, 3) := by decide +kernel
theorem dX10_apply_59 : decode cX10_apply 59 = .ok (.aload_n 0, 1) := by decide +kernel
theorem dX10_apply_60 : decode cX10_apply 60 = .ok (.getfield 12, 3) := by decide +kernel
theorem dX10_apply_63 : decode cX10_apply 63 = .ok (.getfield 129, 3) := by decide +kernel
theorem dX10_apply_66 : decode cX10_apply 66 = .ok (.getfield 86, 3) := by decide +kernel
theorem dX10_apply_69 : decode cX10_apply 69 = .ok (.ireturn, 1) := by decide +kernel
theorem dX10_isIn_0 : decode cX10_isIn 0 = .ok (.iload_n 0, 1) := by decide +kernel
theorem dX10_isIn_1 : decode cX10_isIn 1 = .ok (.iload_n 1, 1) := by decide +kernel
theorem dX10_isIn_2 : decode cX10_isIn 2 = .ok (.if_icmp .lt 12, 3) := by decide +kernel
theorem dX10_isIn_5 : decode cX10_isIn 5 = .ok (.iload_n 0, 1) := by decide +kernel
theorem dX10_isIn_6 : decode cX10_isIn 6 = .ok (.iload_n 2, 1) := by decide +kernel
theorem dX10_isIn_7 : decode cX10_isIn 7 = .ok (.if_icmp .gt 7, 3) := by decide +kernel
theorem dX10_isIn_10 : decode cX10_isIn 10 = .ok (.iconst 1, 1) := by decide +kernel
theorem dX10_isIn_11 : decode cX10_isIn 11 = .ok (.goto 4, 3) := by decide +kernel
theorem dX10_isIn_14 : decode cX10_isIn 14 = .ok (.iconst 0, 1) := by decide +kernel
theorem dX10_isIn_15 : decode cX10_isIn 15 = .ok (.ireturn, 1) := by decide +kernel
theorem dX10_orNotFound_0 : decode cX10_orNotFound 0 = .ok (.iload_n 0, 1) := by decide +kernel
theorem dX10_orNotFound_1 : decode cX10_orNotFound 1 = .ok (.iconst (-1), 1) := by decide +kernel
theorem dX10_orNotFound_2 : decode cX10_orNotFound 2 = .ok (.if_icmp .ne 8, 3) := by decide +kernel
theorem dX10_orNotFound_5 : decode cX10_orNotFound 5 = .ok (.ldc 142, 2) := by decide +kernel
theorem dX10_orNotFound_7 : decode cX10_orNotFound 7 = .ok (.goto 4, 3) := by decide +kernel
theorem dX10_orNotFound_10 : decode cX10_orNotFound 10 = .ok (.iload_n 0, 1) := by decide +kernel
theorem dX10_orNotFound_11 : decode cX10_orNotFound 11 = .ok (.ireturn, 1) := by decide +kernel
theorem dX10_isAboveLimit_0 : decode cX10_isAboveLimit 0 = .ok (.aload_n 0, 1) := by decide +kernel
theorem dX10_isAboveLimit_1 : decode cX10_isAboveLimit 1 = .ok (.getfield 35, 3) := by decide +kernel
theorem dX10_isAboveLimit_4 : decode cX10_isAboveLimit 4 = .ok (.getfield 139, 3) := by decide +kernel
theorem dX10_isAboveLimit_7 : decode cX10_isAboveLimit 7 = .ok (.aload_n 0, 1) := by decide +kernel
theorem dX10_isAboveLimit_8 : decode cX10_isAboveLimit 8 = .ok (.getfield 12, 3) := by decide +kernel
theorem dX10_isAboveLimit_11 : decode cX10_isAboveLimit 11 = .ok (.getfield 123, 3) := by decide +kernel
theorem dX10_isAboveLimit_14 : decode cX10_isAboveLimit 14 = .ok (.iconst 0, 1) := by decide +kernel
theorem dX10_isAboveLimit_15 : decode cX10_isAboveLimit 15 = .ok (.iaload, 1) := by decide +kernel
theorem dX10_isAboveLimit_16 : decode cX10_isAboveLimit 16 = .ok (.if_icmp .le 7, 3) := by decide +kernel
theorem dX10_isAboveLimit_19 : decode cX10_isAboveLimit 19 = .ok (.iconst 1, 1) := by decide +kernel
theorem dX10_isAboveLimit_20 : decode cX10_isAboveLimit 20 = .ok (.goto 4, 3) := by decide +kernel
theorem dX10_isAboveLimit_23 : decode cX10_isAboveLimit 23 = .ok (.iconst 0, 1) := by decide +kernel
theorem dX10_isAboveLimit_24 : decode cX10_isAboveLimit 24 = .ok (.ireturn, 1) := by decide +kernel
theorem dX10_findScript_0 : decode cX10_findScript 0 = .ok (.aload_n 0, 1) := by decide +kernel
theorem dX10_findScript_1 : decode cX10_findScript 1 = .ok (.getfield 35, 3) := by decide +kernel
theorem dX10_findScript_4 : decode cX10_findScript 4 = .ok (.aload_n 0, 1) := by decide +kernel
theorem dX10_findScript_5 : decode cX10_findScript 5 = .ok (.getfield 12, 3) := by decide +kernel
theorem dX10_findScript_8 : decode cX10_findScript 8 = .ok (.invokevirtual 136, 3) := by decide +kernel
theorem dX10_findScript_11 : decode cX10_findScript 11 = .ok (.aload_n 0, 1) := by decide +kernel
theorem dX10_findScript_12 : decode cX10_findScript 12 = .ok (.invokevirtual 145, 3) := by decide +kernel
theorem dX10_findScript_15 : decode cX10_findScript 15 = .ok (.ifCond .eq 5, 3) := by decide +kernel
theorem dX10_findScript_18 : decode cX10_findScript 18 = .ok (.iconst 0, 1) := by decide +kernel
theorem dX10_findScript_19 : decode cX10_findScript 19 = .ok (.ireturn, 1) := by decide +kernel
theorem dX10_findScript_20 : decode cX10_findScript 20 = .ok (.aload_n 0, 1) := by decide +kernel
theorem dX10_findScript_21 : decode cX10_findScript 21 = .ok (.getfield 42, 3) := by decide +kernel
theorem dX10_findScript_24 : decode cX10_findScript 24 = .ok (.aload_n 0, 1) := by decide +kernel
theorem dX10_findScript_25 : decode cX10_findScript 25 = .ok (.getfield 12, 3) := by decide +kernel
theorem dX10_findScript_28 : decode cX10_findScript 28 = .ok (.aload_n 0, 1) := by decide +kernel
theorem dX10_findScript_29 : decode cX10_findScript 29 = .ok (.getfield 35, 3) := by decide +kernel
theorem dX10_findScript_32 : decode cX10_findScript 32 = .ok (.invokevirtual 246, 3) := by decide +kernel
theorem dX10_findScript_35 : decode cX10_findScript 35 = .ok (.iconst 1, 1) := by decide +kernel
theorem dX10_findScript_36 : decode cX10_findScript 36 = .ok (.ireturn, 1) := by decide +kernel
theorem dX10_countOfScript_0 : decode cX10_countOfScript 0 = .ok (.aload_n 0, 1) := by decide +kernel
theorem dX10_countOfScript_1 : decode cX10_countOfScript 1 = .ok (.invokevirtual 149, 3) := by decide +kernel
theorem dX10_countOfScript_4 : decode cX10_countOfScript 4 = .ok (.ifCond .ne 6, 3) := by decide +kernel
theorem dX10_countOfScript_7 : decode cX10_countOfScript 7 = .ok (.ldc 90, 2) := by decide +kernel
theorem dX10_countOfScript_9 : decode cX10_countOfScript 9 = .ok (.ireturn, 1) := by decide +kernel
theorem dX10_countOfScript_10 : decode cX10_countOfScript 10 = .ok (.iload_n 1, 1) := by decide +kernel
theorem dX10_countOfScript_11 : decode cX10_countOfScript 11 = .ok (.tableswitch 77 2 4 #[25, 33, 49], 25) := by decide +kernel
theorem dX10_countOfScript_36 : decode cX10_countOfScript 36 = .ok (.aload_n 0, 1) := by decide +kernel
theorem dX10_countOfScript_37 : decode cX10_countOfScript 37 = .ok (.getfield 42, 3) := by decide +kernel
theorem dX10_countOfScript_40 : decode cX10_countOfScript 40 = .ok (.getfield 152, 3) := by decide +kernel
theorem dX10_countOfScript_43 : decode cX10_countOfScript 43 = .ok (.ireturn, 1) := by decide +kernel
theorem dX10_countOfScript_44 : decode cX10_countOfScript 44 = .ok (.aload_n 0, 1) := by decide +kernel
theorem dX10_countOfScript_45 : decode cX10_countOfScript 45 = .ok (.getfield 42, 3) := by decide +kernel
theorem dX10_countOfScript_48 : decode cX10_countOfScript 48 = .ok (.getfield 152, 3) := by decide +kernel
theorem dX10_countOfScript_51 : decode cX10_countOfScript 51 = .ok (.aload_n 0, 1) := by decide +kernel
theorem dX10_countOfScript_52 : decode cX10_countOfScript 52 = .ok (.getfield 35, 3) := by decide +kernel
theorem dX10_countOfScript_55 : decode cX10_countOfScript 55 = .ok (.getfield 139, 3) := by decide +kernel
theorem dX10_countOfScript_58 : decode cX10_countOfScript 58 = .ok (.isub, 1) := by decide +kernel
theorem dX10_countOfScript_59 : decode cX10_countOfScript 59 = .ok (.ireturn, 1) := by decide +kernel
theorem dX10_countOfScript_60 : decode cX10_countOfScript 60 = .ok (.aload_n 0, 1) := by decide +kernel
theorem dX10_countOfScript_61 : decode cX10_countOfScript 61 = .ok (.getfield 52, 3) := by decide +kernel
theorem dX10_countOfScript_64 : decode cX10_countOfScript 64 = .ok (.aload_n 0, 1) := by decide +kernel
theorem dX10_countOfScript_65 : decode cX10_countOfScript 65 = .ok (.getfield 42, 3) := by decide +kernel
theorem dX10_countOfScript_68 : decode cX10_countOfScript 68 = .ok (.aload_n 0, 1) := by decide +kernel
theorem dX10_countOfScript_69 : decode cX10_countOfScript 69 = .ok (.getfield 12, 3) := by decide +kernel
theorem dX10_countOfScript_72 : decode cX10_countOfScript 72 = .ok (.getfield 123, 3) := by decide +kernel
theorem dX10_countOfScript_75 : decode cX10_countOfScript 75 = .ok (.iconst 1, 1) := by decide +kernel
theorem dX10_countOfScript_76 : decode cX10_countOfScript 76 = .ok (.iaload, 1) := by decide +kernel
theorem dX10_countOfScript_77 : decode cX10_countOfScript 77 = .ok (.invokevirtual 173, 3) := by decide +kernel
theorem dX10_countOfScript_80 : decode cX10_countOfScript 80 = .ok (.aload_n 0, 1) := by decide +kernel
theorem dX10_countOfScript_81 : decode cX10_countOfScript 81 = .ok (.getfield 52, 3) := by decide +kernel
theorem dX10_countOfScript_84 : decode cX10_countOfScript 84 = .ok (.getfield 176, 3) := by decide +kernel
theorem dX10_countOfScript_87 : decode cX10_countOfScript 87 = .ok (.ireturn, 1) := by decide +kernel
theorem dX10_countOfScript_88 : decode cX10_countOfScript 88 = .ok (.aload_n 0, 1) := by decide +kernel
theorem dX10_countOfScript_89 : decode cX10_countOfScript 89 = .ok (.getfield 59, 3) := by decide +kernel
theorem dX10_countOfScript_92 : decode cX10_countOfScript 92 = .ok (.aload_n 0, 1) := by decide +kernel
theorem dX10_countOfScript_93 : decode cX10_countOfScript 93 = .ok (.getfield 42, 3) := by decide +kernel
theorem dX10_countOfScript_96 : decode cX10_countOfScript 96 = .ok (.aload_n 0, 1) := by decide +kernel
theorem dX10_countOfScript_97 : decode cX10_countOfScript 97 = .ok (.getfield 12, 3) := by decide +kernel
theorem dX10_countOfScript_100 : decode cX10_countOfScript 100 = .ok (.getfield 123, 3) := by decide +kernel
theorem dX10_countOfScript_103 : decode cX10_countOfScript 103 = .ok (.iconst 2, 1) := by decide +kernel
theorem dX10_countOfScript_104 : decode cX10_countOfScript 104 = .ok (.iaload, 1) := by decide +kernel
theorem dX10_countOfScript_105 : decode cX10_countOfScript 105 = .ok (.invokevirtual 188, 3) := by decide +kernel
theorem dX10_countOfScript_108 : decode cX10_countOfScript 108 = .ok (.aload_n 0, 1) := by decide +kernel
theorem dX10_countOfScript_109 : decode cX10_countOfScript 109 = .ok (.getfield 59, 3) := by decide +kernel
theorem dX10_countOfScript_112 : decode cX10_countOfScript 112 = .ok (.getfield 250, 3) := by decide +kernel
theorem dX10_countOfScript_115 : decode cX10_countOfScript 115 = .ok (.ireturn, 1) := by decide +kernel
theorem dX11_init_0 : decode cX11_init 0 = .ok (.aload_n 0, 1) := by decide +kernel
theorem dX11_init_1 : decode cX11_init 1 = .ok (.invokespecial 1, 3) := by decide +kernel
theorem dX11_init_4 : decode cX11_init 4 = .ok (.aload_n 0, 1) := by decide +kernel
theorem dX11_init_5 : decode cX11_init 5 = .ok (.bipush 61, 2) := by decide +kernel
theorem dX11_init_7 : decode cX11_init 7 = .ok (.newarray .int, 2) := by decide +kernel
theorem dX11_init_9 : decode cX11_init 9 = .ok (.putfield 7, 3) := by decide +kernel
theorem dX11_init_12 : decode cX11_init 12 = .ok (.aload_n 0, 1) := by decide +kernel
theorem dX11_init_13 : decode cX11_init 13 = .ok (.sipush 244, 3) := by decide +kernel
theorem dX11_init_16 : decode cX11_init 16 = .ok (.newarray .int, 2) := by decide +kernel
theorem dX11_init_18 : decode cX11_init 18 = .ok (.putfield 13, 3) := by decide +kernel
theorem dX11_init_21 : decode cX11_init 21 = .ok (.aload_n 0, 1) := by decide +kernel
theorem dX11_init_22 : decode cX11_init 22 = .ok (.bipush 61, 2) := by decide +kernel
theorem dX11_init_24 : decode cX11_init 24 = .ok (.newarray .int, 2) := by decide +kernel
theorem dX11_init_26 : decode cX11_init 26 = .ok (.putfield 16, 3) := by decide +kernel
theorem dX11_init_29 : decode cX11_init 29 = .ok (.aload_n 0, 1) := by decide +kernel
theorem dX11_init_30 : decode cX11_init 30 = .ok (.bipush 60, 2) := by decide +kernel
theorem dX11_init_32 : decode cX11_init 32 = .ok (.newarray .char, 2) := by decide +kernel
theorem dX11_init_34 : decode cX11_init 34 = .ok (.putfield 19, 3) := by decide +kernel
theorem dX11_init_37 : decode cX11_init 37 = .ok (.aload_n 0, 1) := by decide +kernel
theorem dX11_init_38 : decode cX11_init 38 = .ok (.sipush 6441, 3) := by decide +kernel
theorem dX11_init_41 : decode cX11_init 41 = .ok (.newarray .int, 2) := by decide +kernel
theorem dX11_init_43 : decode cX11_init 43 = .ok (.putfield 23, 3) := by decide +kernel
theorem dX11_init_46 : decode cX11_init 46 = .ok (.aload_n 0, 1) := by decide +kernel
theorem dX11_init_47 : decode cX11_init 47 = .ok (.sipush 168, 3) := by decide +kernel
theorem dX11_init_50 : decode cX11_init 50 = .ok (.newarray .int, 2) := by decide +kernel
theorem dX11_init_52 : decode cX11_init 52 = .ok (.putfield 26, 3) := by decide +kernel
theorem dX11_init_55 : decode cX11_init 55 = .ok (.aload_n 0, 1) := by decide +kernel
theorem dX11_init_56 : decode cX11_init 56 = .ok (.sipush 841, 3) := by decide +kernel
theorem dX11_init_59 : decode cX11_init 59 = .ok (.newarray .int, 2) := by decide +kernel
theorem dX11_init_61 : decode cX11_init 61 = .ok (.putfield 29, 3) := by decide +kernel
theorem dX11_init_64 : decode cX11_init 64 = .ok (.aload_n 0, 1) := by decide +kernel
theorem dX11_init_65 : decode cX11_init 65 = .ok (.sipush 841, 3) := by decide +kernel
theorem dX11_init_68 : decode cX11_init 68 = .ok (.newarray .long, 2) := by decide +kernel
theorem dX11_init_70 : decode cX11_init 70 = .ok (.putfield 32, 3) := by decide +kernel
theorem dX11_init_73 : decode cX11_init 73 = .ok (.aload_n 0, 1) := by decide +kernel
theorem dX11_init_74 : decode cX11_init 74 = .ok (.sipush 400, 3) := by decide +kernel
theorem dX11_init_77 : decode cX11_init 77 = .ok (.newarray .char, 2) := by decide +kernel
theorem dX11_init_79 : decode cX11_init 79 = .ok (.putfield 36, 3) := by decide +kernel
theorem dX11_init_82 : decode cX11_init 82 = .ok (.aload_n 0, 1) := by decide +kernel
theorem dX11_init_83 : decode cX11_init 83 = .ok (.bipush 29, 2) := by decide +kernel
theorem dX11_init_85 : decode cX11_init 85 = .ok (.newarray .int, 2) := by decide +kernel
theorem dX11_init_87 : decode cX11_init 87 = .ok (.putfield 39, 3) := by decide +kernel
theorem dX11_init_90 : decode cX11_init 90 = .ok (.aload_n 0, 1) := by decide +kernel
theorem dX11_init_91 : decode cX11_init 91 = .ok (.bipush 29, 2) := by decide +kernel
theorem dX11_init_93 : decode cX11_init 93 = .ok (.newarray .int, 2) := by decide +kernel
theorem dX11_init_95 : decode cX11_init 95 = .ok (.putfield 42, 3) := by decide +kernel
theorem dX11_init_98 : decode cX11_init 98 = .ok (.aload_n 0, 1) := by decide +kernel
theorem dX11_init_99 : decode cX11_init 99 = .ok (.bipush 28, 2) := by decide +kernel
theorem dX11_init_101 : decode cX11_init 101 = .ok (.newarray .int, 2) := by decide +kernel
theorem dX11_init_103 : decode cX11_init 103 = .ok (.putfield 45, 3) := by decide +kernel
theorem dX11_init_106 : decode cX11_init 106 = .ok (.aload_n 0, 1) := by decide +kernel
theorem dX11_init_107 : decode cX11_init 107 = .ok (.getfield 7, 3) := by decide +kernel
theorem dX11_init_110 : decode cX11_init 110 = .ok (.iconst 2, 1) := by decide +kernel
theorem dX11_init_111 : decode cX11_init 111 = .ok (.bipush 56, 2) := by decide +kernel
theorem dX11_init_113 : decode cX11_init 113 = .ok (.iastore, 1) := by decide +kernel
theorem dX11_init_114 : decode cX11_init 114 = .ok (.aload_n 0, 1) := by decide +kernel
theorem dX11_init_115 : decode cX11_init 115 = .ok (.getfield 7, 3) := by decide +kernel
theorem dX11_init_118 : decode cX11_init 118 = .ok (.iconst 3, 1) := by decide +kernel
theorem dX11_init_119 : decode cX11_init 119 = .ok (.iconst 1, 1) := by decide +kernel
theorem dX11_init_120 : decode cX11_init 120 = .ok (.iastore, 1) := by decide +kernel
theorem dX11_init_121 : decode cX11_init 121 = .ok (.aload_n 0, 1) := by decide +kernel
theorem dX11_init_122 : decode cX11_init 122 = .ok (.getfield 7, 3) := by decide +kernel
theorem dX11_init_125 : decode cX11_init 125 = .ok (.iconst 4, 1) := by decide +kernel
theorem dX11_init_126 : decode cX11_init 126 = .ok (.iconst 2, 1) := by decide +kernel
theorem dX11_init_127 : decode cX11_init 127 = .ok (.iastore, 1) := by decide +kernel
theorem dX11_init_128 : decode cX11_init 128 = .ok (.return_, 1) := by decide +kernel
theorem dX11_in_0 : decode cX11_in 0 = .ok (.iload_n 0, 1) := by decide +kernel
theorem dX11_in_1 : decode cX11_in 1 = .ok (.iload_n 1, 1) := by decide +kernel
theorem dX11_in_2 : decode cX11_in 2 = .ok (.if_icmp .lt 12, 3) := by decide +kernel
theorem dX11_in_5 : decode cX11_in 5 = .ok (.iload_n 0, 1) := by decide +kernel
theorem dX11_in_6 : decode cX11_in 6 = .ok (.iload_n 2, 1) := by decide +kernel
theorem dX11_in_7 : decode cX11_in 7 = .ok (.if_icmp .gt 7, 3) := by decide +kernel
theorem dX11_in_10 : decode cX11_in 10 = .ok (.iconst 1, 1) := by decide +kernel
theorem dX11_in_11 : decode cX11_in 11 = .ok (.goto 4, 3) := by decide +kernel
theorem dX11_in_14 : decode cX11_in 14 = .ok (.iconst 0, 1) := by decide +kernel
theorem dX11_in_15 : decode cX11_in 15 = .ok (.ireturn, 1) := by decide +kernel
theorem dX11_letter_0 : decode cX11_letter 0 = .ok (.aload_n 0, 1) := by decide +kernel
theorem dX11_letter_1 : decode cX11_letter 1 = .ok (.getfield 7, 3) := by decide +kernel
theorem dX11_letter_4 : decode cX11_letter 4 = .ok (.iconst 5, 1) := by decide +kernel
theorem dX11_letter_5 : decode cX11_letter 5 = .ok (.bipush 28, 2) := by decide +kernel
theorem dX11_letter_7 : decode cX11_letter 7 = .ok (.iload_n 1, 1) := by decide +kernel
theorem dX11_letter_8 : decode cX11_letter 8 = .ok (.imul, 1) := by decide +kernel
theorem dX11_letter_9 : decode cX11_letter 9 = .ok (.iadd, 1) := by decide +kernel
theorem dX11_letter_10 : decode cX11_letter 10 = .ok (.iload_n 2, 1) := by decide +kernel
theorem dX11_letter_11 : decode cX11_letter 11 = .ok (.iadd, 1) := by decide +kernel
theorem dX11_letter_12 : decode cX11_letter 12 = .ok (.iaload, 1) := by decide +kernel
theorem dX11_letter_13 : decode cX11_letter 13 = .ok (.ireturn, 1) := by decide +kernel
theorem dX11_alike_0 : decode cX11_alike 0 = .ok (.iload_n 1, 1) := by decide +kernel
theorem dX11_alike_1 : decode cX11_alike 1 = .ok (.iconst 0, 1) := by decide +kernel
theorem dX11_alike_2 : decode cX11_alike 2 = .ok (.aload_n 0, 1) := by decide +kernel
theorem dX11_alike_3 : decode cX11_alike 3 = .ok (.getfield 7, 3) := by decide +kernel
theorem dX11_alike_6 : decode cX11_alike 6 = .ok (.iconst 0, 1) := by decide +kernel
theorem dX11_alike_7 : decode cX11_alike 7 = .ok (.iaload, 1) := by decide +kernel
theorem dX11_alike_8 : decode cX11_alike 8 = .ok (.iconst 1, 1) := by decide +kernel
theorem dX11_alike_9 : decode cX11_alike 9 = .ok (.isub, 1) := by decide +kernel
theorem dX11_alike_10 : decode cX11_alike 10 = .ok (.invokestatic 48, 3) := by decide +kernel
theorem dX11_alike_13 : decode cX11_alike 13 = .ok (.ifCond .eq 38, 3) := by decide +kernel
theorem dX11_alike_16 : decode cX11_alike 16 = .ok (.iload_n 2, 1) := by decide +kernel
theorem dX11_alike_17 : decode cX11_alike 17 = .ok (.iconst 0, 1) := by decide +kernel
theorem dX11_alike_18 : decode cX11_alike 18 = .ok (.aload_n 0, 1) := by decide +kernel
theorem dX11_alike_19 : decode cX11_alike 19 = .ok (.getfield 7, 3) := by decide +kernel
theorem dX11_alike_22 : decode cX11_alike 22 = .ok (.iconst 1, 1) := by decide +kernel
theorem dX11_alike_23 : decode cX11_alike 23 = .ok (.iaload, 1) := by decide +kernel
theorem dX11_alike_24 : decode cX11_alike 24 = .ok (.iconst 1, 1) := by decide +kernel
theorem dX11_alike_25 : decode cX11_alike 25 = .ok (.isub, 1) := by decide +kernel
theorem dX11_alike_26 : decode cX11_alike 26 = .ok (.invokestatic 48, 3) := by decide +kernel
theorem dX11_alike_29 : decode cX11_alike 29 = .ok (.ifCond .eq 22, 3) := by decide +kernel
theorem dX11_alike_32 : decode cX11_alike 32 = .ok (.aload_n 0, 1) := by decide +kernel
theorem dX11_alike_33 : decode cX11_alike 33 = .ok (.iconst 0, 1) := by decide +kernel
theorem dX11_alike_34 : decode cX11_alike 34 = .ok (.iload_n 1, 1) := by decide +kernel
theorem dX11_alike_35 : decode cX11_alike 35 = .ok (.invokevirtual 52, 3) := by decide +kernel
theorem dX11_alike_38 : decode cX11_alike 38 = .ok (.aload_n 0, 1) := by decide +kernel
theorem dX11_alike_39 : decode cX11_alike 39 = .ok (.iconst 1, 1) := by decide +kernel
theorem dX11_alike_40 : decode cX11_alike 40 = .ok (.iload_n 2, 1) := by decide +kernel
theorem dX11_alike_41 : decode cX11_alike 41 = .ok (.invokevirtual 52, 3) := by decide +kernel
theorem dX11_alike_44 : decode cX11_alike 44 = .ok (.if_icmp .ne 7, 3) := by decide +kernel
theorem dX11_alike_47 : decode cX11_alike 47 = .ok (.iconst 1, 1) := by decide +kernel
theorem dX11_alike_48 : decode cX11_alike 48 = .ok (.goto 4, 3) := by decide +kernel
theorem dX11_alike_51 : decode cX11_alike 51 = .ok (.iconst 0, 1) := by decide +kernel
theorem dX11_alike_52 : decode cX11_alike 52 = .ok (.ireturn, 1) := by decide +kernel
theorem dX11_keeps_0 : decode cX11_keeps 0 = .ok (.iconst 0, 1) := by decide +kernel
theorem dX11_keeps_1 : decode cX11_keeps 1 = .ok (.istore_n 1, 1) := by decide +kernel
theorem dX11_keeps_2 : decode cX11_keeps 2 = .ok (.iload_n 1, 1) := by decide +kernel
theorem dX11_keeps_3 : decode cX11_keeps 3 = .ok (.bipush 61, 2) := by decide +kernel
theorem dX11_keeps_5 : decode cX11_keeps 5 = .ok (.if_icmp .ge 21, 3) := by decide +kernel
theorem dX11_keeps_8 : decode cX11_keeps 8 = .ok (.aload_n 0, 1) := by decide +kernel
theorem dX11_keeps_9 : decode cX11_keeps 9 = .ok (.getfield 16, 3) := by decide +kernel
theorem dX11_keeps_12 : decode cX11_keeps 12 = .ok (.iload_n 1, 1) := by decide +kernel
theorem dX11_keeps_13 : decode cX11_keeps 13 = .ok (.aload_n 0, 1) := by decide +kernel
theorem dX11_keeps_14 : decode cX11_keeps 14 = .ok (.getfield 7, 3) := by decide +kernel
theorem dX11_keeps_17 : decode cX11_keeps 17 = .ok (.iload_n 1, 1) := by decide +kernel
theorem dX11_keeps_18 : decode cX11_keeps 18 = .ok (.iaload, 1) := by decide +kernel
theorem dX11_keeps_19 : decode cX11_keeps 19 = .ok (.iastore, 1) := by decide +kernel
theorem dX11_keeps_20 : decode cX11_keeps 20 = .ok (.iinc 1 1, 3) := by decide +kernel
theorem dX11_keeps_23 : decode cX11_keeps 23 = .ok (.goto (-21), 3) := by decide +kernel
theorem dX11_keeps_26 : decode cX11_keeps 26 = .ok (.return_, 1) := by decide +kernel
theorem dX11_acted_0 : decode cX11_acted 0 = .ok (.iload_n 1, 1) := by decide +kernel
theorem dX11_acted_1 : decode cX11_acted 1 = .ok (.ldc 56, 2) := by decide +kernel
theorem dX11_acted_3 : decode cX11_acted 3 = .ok (.if_icmp .le 95, 3) := by decide +kernel
theorem dX11_acted_6 : decode cX11_acted 6 = .ok (.aload_n 0, 1) := by decide +kernel
theorem dX11_acted_7 : decode cX11_acted 7 = .ok (.getfield 57, 3) := by decide +kernel
theorem dX11_acted_10 : decode cX11_acted 10 = .ok (.iconst 4, 1) := by decide +kernel
theorem dX11_acted_11 : decode cX11_acted 11 = .ok (.if_icmp .ne 43, 3) := by decide +kernel
theorem dX11_acted_14 : decode cX11_acted 14 = .ok (.iconst 0, 1) := by decide +kernel
theorem dX11_acted_15 : decode cX11_acted 15 = .ok (.istore_n 2, 1) := by decide +kernel
theorem dX11_acted_16 : decode cX11_acted 16 = .ok (.iload_n 2, 1) := by decide +kernel
theorem dX11_acted_17 : decode cX11_acted 17 = .ok (.sipush 183, 3) := by decide +kernel
theorem dX11_acted_20 : decode cX11_acted 20 = .ok (.if_icmp .ge 24, 3) := by decide +kernel
theorem dX11_acted_23 : decode cX11_acted 23 = .ok (.aload_n 0, 1) := by decide +kernel
theorem dX11_acted_24 : decode cX11_acted 24 = .ok (.getfield 13, 3) := by decide +kernel
theorem dX11_acted_27 : decode cX11_acted 27 = .ok (.iload_n 2, 1) := by decide +kernel
theorem dX11_acted_28 : decode cX11_acted 28 = .ok (.aload_n 0, 1) := by decide +kernel
theorem dX11_acted_29 : decode cX11_acted 29 = .ok (.getfield 13, 3) := by decide +kernel
theorem dX11_acted_32 : decode cX11_acted 32 = .ok (.iload_n 2, 1) := by decide +kernel
theorem dX11_acted_33 : decode cX11_acted 33 = .ok (.bipush 61, 2) := by decide +kernel
theorem dX11_acted_35 : decode cX11_acted 35 = .ok (.iadd, 1) := by decide +kernel
theorem dX11_acted_36 : decode cX11_acted 36 = .ok (.iaload, 1) := by decide +kernel
theorem dX11_acted_37 : decode cX11_acted 37 = .ok (.iastore, 1) := by decide +kernel
theorem dX11_acted_38 : decode cX11_acted 38 = .ok (.iinc 2 1, 3) := by decide +kernel
theorem dX11_acted_41 : decode cX11_acted 41 = .ok (.goto (-25), 3) := by decide +kernel
theorem dX11_acted_44 : decode cX11_acted 44 = .ok (.aload_n 0, 1) := by decide +kernel
theorem dX11_acted_45 : decode cX11_acted 45 = .ok (.dup, 1) := by decide +kernel
theorem dX11_acted_46 : decode cX11_acted 46 = .ok (.getfield 57, 3) := by decide +kernel
theorem dX11_acted_49 : decode cX11_acted 49 = .ok (.iconst 1, 1) := by decide +kernel
theorem dX11_acted_50 : decode cX11_acted 50 = .ok (.isub, 1) := by decide +kernel
theorem dX11_acted_51 : decode cX11_acted 51 = .ok (.putfield 57, 3) := by decide +kernel
theorem dX11_acted_54 : decode cX11_acted 54 = .ok (.iconst 0, 1) := by decide +kernel
theorem dX11_acted_55 : decode cX11_acted 55 = .ok (.istore_n 2, 1) := by decide +kernel
theorem dX11_acted_56 : decode cX11_acted 56 = .ok (.iload_n 2, 1) := by decide +kernel
theorem dX11_acted_57 : decode cX11_acted 57 = .ok (.bipush 61, 2) := by decide +kernel
theorem dX11_acted_59 : decode cX11_acted 59 = .ok (.if_icmp .ge 29, 3) := by decide +kernel
theorem dX11_acted_62 : decode cX11_acted 62 = .ok (.aload_n 0, 1) := by decide +kernel
theorem dX11_acted_63 : decode cX11_acted 63 = .ok (.getfield 13, 3) := by decide +kernel
theorem dX11_acted_66 : decode cX11_acted 66 = .ok (.bipush 61, 2) := by decide +kernel
theorem dX11_acted_68 : decode cX11_acted 68 = .ok (.aload_n 0, 1) := by decide +kernel
theorem dX11_acted_69 : decode cX11_acted 69 = .ok (.getfield 57, 3) := by decide +kernel
theorem dX11_acted_72 : decode cX11_acted 72 = .ok (.imul, 1) := by decide +kernel
theorem dX11_acted_73 : decode cX11_acted 73 = .ok (.iload_n 2, 1) := by decide +kernel
theorem dX11_acted_74 : decode cX11_acted 74 = .ok (.iadd, 1) := by decide +kernel
theorem dX11_acted_75 : decode cX11_acted 75 = .ok (.aload_n 0, 1) := by decide +kernel
theorem dX11_acted_76 : decode cX11_acted 76 = .ok (.getfield 16, 3) := by decide +kernel
theorem dX11_acted_79 : decode cX11_acted 79 = .ok (.iload_n 2, 1) := by decide +kernel
theorem dX11_acted_80 : decode cX11_acted 80 = .ok (.iaload, 1) := by decide +kernel
theorem dX11_acted_81 : decode cX11_acted 81 = .ok (.iastore, 1) := by decide +kernel
theorem dX11_acted_82 : decode cX11_acted 82 = .ok (.iinc 2 1, 3) := by decide +kernel
theorem dX11_acted_85 : decode cX11_acted 85 = .ok (.goto (-29), 3) := by decide +kernel
theorem dX11_acted_88 : decode cX11_acted 88 = .ok (.aload_n 0, 1) := by decide +kernel
theorem dX11_acted_89 : decode cX11_acted 89 = .ok (.dup, 1) := by decide +kernel
theorem dX11_acted_90 : decode cX11_acted 90 = .ok (.getfield 57, 3) := by decide +kernel
theorem dX11_acted_93 : decode cX11_acted 93 = .ok (.iconst 1, 1) := by decide +kernel
theorem dX11_acted_94 : decode cX11_acted 94 = .ok (.iadd, 1) := by decide +kernel
theorem dX11_acted_95 : decode cX11_acted 95 = .ok (.putfield 57, 3) := by decide +kernel
theorem dX11_acted_98 : decode cX11_acted 98 = .ok (.iload_n 1, 1) := by decide +kernel
theorem dX11_acted_99 : decode cX11_acted 99 = .ok (.ireturn, 1) := by decide +kernel
theorem dX11_append_0 : decode cX11_append 0 = .ok (.iload_n 1, 1) := by decide +kernel
theorem dX11_append_1 : decode cX11_append 1 = .ok (.iconst 0, 1) := by decide +kernel
theorem dX11_append_2 : decode cX11_append 2 = .ok (.iconst 1, 1) := by decide +kernel
theorem dX11_append_3 : decode cX11_append 3 = .ok (.invokestatic 48, 3) := by decide +kernel
theorem dX11_append_6 : decode cX11_append 6 = .ok (.ifCond .eq 13, 3) := by decide +kernel
theorem dX11_append_9 : decode cX11_append 9 = .ok (.iload_n 2, 1) := by decide +kernel
theorem dX11_append_10 : decode cX11_append 10 = .ok (.iconst 0, 1) := by decide +kernel
theorem dX11_append_11 : decode cX11_append 11 = .ok (.bipush 7, 2) := by decide +kernel
theorem dX11_append_13 : decode cX11_append 13 = .ok (.invokestatic 48, 3) := by decide +kernel
theorem dX11_append_16 : decode cX11_append 16 = .ok (.ifCond .ne 6, 3) := by decide +kernel
theorem dX11_append_19 : decode cX11_append 19 = .ok (.ldc 56, 2) := by decide +kernel
theorem dX11_append_21 : decode cX11_append 21 = .ok (.ireturn, 1) := by decide +kernel
theorem dX11_append_22 : decode cX11_append 22 = .ok (.aload_n 0, 1) := by decide +kernel
theorem dX11_append_23 : decode cX11_append 23 = .ok (.getfield 7, 3) := by decide +kernel
theorem dX11_append_26 : decode cX11_append 26 = .ok (.iload_n 1, 1) := by decide +kernel
theorem dX11_append_27 : decode cX11_append 27 = .ok (.iaload, 1) := by decide +kernel
theorem dX11_append_28 : decode cX11_append 28 = .ok (.bipush 28, 2) := by decide +kernel
theorem dX11_append_30 : decode cX11_append 30 = .ok (.if_icmp .ne 6, 3) := by decide +kernel
theorem dX11_append_33 : decode cX11_append 33 = .ok (.ldc 61, 2) := by decide +kernel
theorem dX11_append_35 : decode cX11_append 35 = .ok (.ireturn, 1) := by decide +kernel
theorem dX11_append_36 : decode cX11_append 36 = .ok (.aload_n 0, 1) := by decide +kernel
theorem dX11_append_37 : decode cX11_append 37 = .ok (.invokevirtual 62, 3) := by decide +kernel
theorem dX11_append_40 : decode cX11_append 40 = .ok (.aload_n 0, 1) := by decide +kernel
theorem dX11_append_41 : decode cX11_append 41 = .ok (.getfield 7, 3) := by decide +kernel
theorem dX11_append_44 : decode cX11_append 44 = .ok (.iconst 5, 1) := by decide +kernel
theorem dX11_append_45 : decode cX11_append 45 = .ok (.bipush 28, 2) := by decide +kernel
theorem dX11_append_47 : decode cX11_append 47 = .ok (.iload_n 1, 1) := by decide +kernel
theorem dX11_append_48 : decode cX11_append 48 = .ok (.imul, 1) := by decide +kernel
theorem dX11_append_49 : decode cX11_append 49 = .ok (.iadd, 1) := by decide +kernel
theorem dX11_append_50 : decode cX11_append 50 = .ok (.aload_n 0, 1) := by decide +kernel
theorem dX11_append_51 : decode cX11_append 51 = .ok (.getfield 7, 3) := by decide +kernel
theorem dX11_append_54 : decode cX11_append 54 = .ok (.iload_n 1, 1) := by decide +kernel
theorem dX11_append_55 : decode cX11_append 55 = .ok (.iaload, 1) := by decide +kernel
theorem dX11_append_56 : decode cX11_append 56 = .ok (.iadd, 1) := by decide +kernel
theorem dX11_append_57 : decode cX11_append 57 = .ok (.iload_n 2, 1) := by decide +kernel
theorem dX11_append_58 : decode cX11_append 58 = .ok (.iastore, 1) := by decide +kernel
theorem dX11_append_59 : decode cX11_append 59 = .ok (.aload_n 0, 1) := by decide +kernel
theorem dX11_append_60 : decode cX11_append 60 = .ok (.getfield 7, 3) := by decide +kernel
theorem dX11_append_63 : decode cX11_append 63 = .ok (.iload_n 1, 1) := by decide +kernel
theorem dX11_append_64 : decode cX11_append 64 = .ok (.dup2, 1) := by decide +kernel
theorem dX11_append_65 : decode cX11_append 65 = .ok (.iaload, 1) := by decide +kernel
theorem dX11_append_66 : decode cX11_append 66 = .ok (.iconst 1, 1) := by decide +kernel
theorem dX11_append_67 : decode cX11_append 67 = .ok (.iadd, 1) := by decide +kernel
theorem dX11_append_68 : decode cX11_append 68 = .ok (.iastore, 1) := by decide +kernel
theorem dX11_append_69 : decode cX11_append 69 = .ok (.aload_n 0, 1) := by decide +kernel
theorem dX11_append_70 : decode cX11_append 70 = .ok (.aload_n 0, 1) := by decide +kernel
theorem dX11_append_71 : decode cX11_append 71 = .ok (.getfield 7, 3) := by decide +kernel
theorem dX11_append_74 : decode cX11_append 74 = .ok (.iload_n 1, 1) := by decide +kernel
theorem dX11_append_75 : decode cX11_append 75 = .ok (.iaload, 1) := by decide +kernel
theorem dX11_append_76 : decode cX11_append 76 = .ok (.invokevirtual 65, 3) := by decide +kernel
theorem dX11_append_79 : decode cX11_append 79 = .ok (.ireturn, 1) := by decide +kernel
theorem dX11_cut_0 : decode cX11_cut 0 = .ok (.iload_n 1, 1) := by decide +kernel
theorem dX11_cut_1 : decode cX11_cut 1 = .ok (.iconst 0, 1) := by decide +kernel
theorem dX11_cut_2 : decode cX11_cut 2 = .ok (.iconst 1, 1) := by decide +kernel
theorem dX11_cut_3 : decode cX11_cut 3 = .ok (.invokestatic 48, 3) := by decide +kernel
theorem dX11_cut_6 : decode cX11_cut 6 = .ok (.ifCond .eq 17, 3) := by decide +kernel
theorem dX11_cut_9 : decode cX11_cut 9 = .ok (.iload_n 2, 1) := by decide +kernel
theorem dX11_cut_10 : decode cX11_cut 10 = .ok (.ifCond .lt 13, 3) := by decide +kernel
theorem dX11_cut_13 : decode cX11_cut 13 = .ok (.iload_n 3, 1) := by decide +kernel
theorem dX11_cut_14 : decode cX11_cut 14 = .ok (.iconst 1, 1) := by decide +kernel
theorem dX11_cut_15 : decode cX11_cut 15 = .ok (.bipush 28, 2) := by decide +kernel
theorem dX11_cut_17 : decode cX11_cut 17 = .ok (.invokestatic 48, 3) := by decide +kernel
theorem dX11_cut_20 : decode cX11_cut 20 = .ok (.ifCond .ne 6, 3) := by decide +kernel
theorem dX11_cut_23 : decode cX11_cut 23 = .ok (.ldc 56, 2) := by decide +kernel
theorem dX11_cut_25 : decode cX11_cut 25 = .ok (.ireturn, 1) := by decide +kernel
theorem dX11_cut_26 : decode cX11_cut 26 = .ok (.iload_n 2, 1) := by decide +kernel
theorem dX11_cut_27 : decode cX11_cut 27 = .ok (.aload_n 0, 1) := by decide +kernel
theorem dX11_cut_28 : decode cX11_cut 28 = .ok (.getfield 7, 3) := by decide +kernel
theorem dX11_cut_31 : decode cX11_cut 31 = .ok (.iload_n 1, 1) := by decide +kernel
theorem dX11_cut_32 : decode cX11_cut 32 = .ok (.iaload, 1) := by decide +kernel
theorem dX11_cut_33 : decode cX11_cut 33 = .ok (.iload_n 3, 1) := by decide +kernel
theorem dX11_cut_34 : decode cX11_cut 34 = .ok (.isub, 1) := by decide +kernel
theorem dX11_cut_35 : decode cX11_cut 35 = .ok (.if_icmp .le 6, 3) := by decide +kernel
theorem dX11_cut_38 : decode cX11_cut 38 = .ok (.ldc 69, 2) := by decide +kernel
theorem dX11_cut_40 : decode cX11_cut 40 = .ok (.ireturn, 1) := by decide +kernel
theorem dX11_cut_41 : decode cX11_cut 41 = .ok (.aload_n 0, 1) := by decide +kernel
theorem dX11_cut_42 : decode cX11_cut 42 = .ok (.invokevirtual 62, 3) := by decide +kernel
theorem dX11_cut_45 : decode cX11_cut 45 = .ok (.aload_n 0, 1) := by decide +kernel
theorem dX11_cut_46 : decode cX11_cut 46 = .ok (.getfield 7, 3) := by decide +kernel
theorem dX11_cut_49 : decode cX11_cut 49 = .ok (.iload_n 1, 1) := by decide +kernel
theorem dX11_cut_50 : decode cX11_cut 50 = .ok (.dup2, 1) := by decide +kernel
theorem dX11_cut_51 : decode cX11_cut 51 = .ok (.iaload, 1) := by decide +kernel
theorem dX11_cut_52 : decode cX11_cut 52 = .ok (.iload_n 3, 1) := by decide +kernel
theorem dX11_cut_53 : decode cX11_cut 53 = .ok (.isub, 1) := by decide +kernel
theorem dX11_cut_54 : decode cX11_cut 54 = .ok (.iastore, 1) := by decide +kernel
theorem dX11_cut_55 : decode cX11_cut 55 = .ok (.iload_n 2, 1) := by decide +kernel
theorem dX11_cut_56 : decode cX11_cut 56 = .ok (.istore 4, 2) := by decide +kernel
theorem dX11_cut_58 : decode cX11_cut 58 = .ok (.iload 4, 2) := by decide +kernel
theorem dX11_cut_60 : decode cX11_cut 60 = .ok (.aload_n 0, 1) := by decide +kernel
theorem dX11_cut_61 : decode cX11_cut 61 = .ok (.getfield 7, 3) := by decide +kernel
theorem dX11_cut_64 : decode cX11_cut 64 = .ok (.iload_n 1, 1) := by decide +kernel
theorem dX11_cut_65 : decode cX11_cut 65 = .ok (.iaload, 1) := by decide +kernel
theorem dX11_cut_66 : decode cX11_cut 66 = .ok (.if_icmp .ge 32, 3) := by decide +kernel
theorem dX11_cut_69 : decode cX11_cut 69 = .ok (.aload_n 0, 1) := by decide +kernel
theorem dX11_cut_70 : decode cX11_cut 70 = .ok (.getfield 7, 3) := by decide +kernel
theorem dX11_cut_73 : decode cX11_cut 73 = .ok (.iconst 5, 1) := by decide +kernel
theorem dX11_cut_74 : decode cX11_cut 74 = .ok (.bipush 28, 2) := by decide +kernel
theorem dX11_cut_76 : decode cX11_cut 76 = .ok (.iload_n 1, 1) := by decide +kernel
theorem dX11_cut_77 : decode cX11_cut 77 = .ok (.imul, 1) := by decide +kernel
theorem dX11_cut_78 : decode cX11_cut 78 = .ok (.iadd, 1) := by decide +kernel
theorem dX11_cut_79 : decode cX11_cut 79 = .ok (.iload 4, 2) := by decide +kernel
theorem dX11_cut_81 : decode cX11_cut 81 = .ok (.iadd, 1) := by decide +kernel
theorem dX11_cut_82 : decode cX11_cut 82 = .ok (.aload_n 0, 1) := by decide +kernel
theorem dX11_cut_83 : decode cX11_cut 83 = .ok (.iload_n 1, 1) := by decide +kernel
theorem dX11_cut_84 : decode cX11_cut 84 = .ok (.iload 4, 2) := by decide +kernel
theorem dX11_cut_86 : decode cX11_cut 86 = .ok (.iload_n 3, 1) := by decide +kernel
theorem dX11_cut_87 : decode cX11_cut 87 = .ok (.iadd, 1) := by decide +kernel
theorem dX11_cut_88 : decode cX11_cut 88 = .ok (.invokevirtual 52, 3) := by decide +kernel
theorem dX11_cut_91 : decode cX11_cut 91 = .ok (.iastore, 1) := by decide +kernel
theorem dX11_cut_92 : decode cX11_cut 92 = .ok (.iinc 4 1, 3) := by decide +kernel
theorem dX11_cut_95 : decode cX11_cut 95 = .ok (.goto (-37), 3) := by decide +kernel
theorem dX11_cut_98 : decode cX11_cut 98 = .ok (.aload_n 0, 1) := by decide +kernel
theorem dX11_cut_99 : decode cX11_cut 99 = .ok (.aload_n 0, 1) := by decide +kernel
theorem dX11_cut_100 : decode cX11_cut 100 = .ok (.getfield 7, 3) := by decide +kernel
theorem dX11_cut_103 : decode cX11_cut 103 = .ok (.iload_n 1, 1) := by decide +kernel
theorem dX11_cut_104 : decode cX11_cut 104 = .ok (.iaload, 1) := by decide +kernel
theorem dX11_cut_105 : decode cX11_cut 105 = .ok (.invokevirtual 65, 3) := by decide +kernel
theorem dX11_cut_108 : decode cX11_cut 108 = .ok (.ireturn, 1) := by decide +kernel
theorem dX11_change_0 : decode cX11_change 0 = .ok (.iload_n 1, 1) := by decide +kernel
theorem dX11_change_1 : decode cX11_change 1 = .ok (.iconst 0, 1) := by decide +kernel
theorem dX11_change_2 : decode cX11_change 2 = .ok (.iconst 1, 1) := by decide +kernel
theorem dX11_change_3 : decode cX11_change 3 = .ok (.invokestatic 48, 3) := by decide +kernel
theorem dX11_change_6 : decode cX11_change 6 = .ok (.ifCond .eq 29, 3) := by decide +kernel
theorem dX11_change_9 : decode cX11_change 9 = .ok (.iload_n 3, 1) := by decide +kernel
theorem dX11_change_10 : decode cX11_change 10 = .ok (.iconst 0, 1) := by decide +kernel
theorem dX11_change_11 : decode cX11_change 11 = .ok (.bipush 7, 2) := by decide +kernel
theorem dX11_change_13 : decode cX11_change 13 = .ok (.invokestatic 48, 3) := by decide +kernel
theorem dX11_change_16 : decode cX11_change 16 = .ok (.ifCond .eq 19, 3) := by decide +kernel
theorem dX11_change_19 : decode cX11_change 19 = .ok (.iload_n 2, 1) := by decide +kernel
theorem dX11_change_20 : decode cX11_change 20 = .ok (.iconst 0, 1) := by decide +kernel
theorem dX11_change_21 : decode cX11_change 21 = .ok (.aload_n 0, 1) := by decide +kernel
theorem dX11_change_22 : decode cX11_change 22 = .ok (.getfield 7, 3) := by decide +kernel
theorem dX11_change_25 : decode cX11_change 25 = .ok (.iload_n 1, 1) := by decide +kernel
theorem dX11_change_26 : decode cX11_change 26 = .ok (.iaload, 1) := by decide +kernel
theorem dX11_change_27 : decode cX11_change 27 = .ok (.iconst 1, 1) := by decide +kernel
theorem dX11_change_28 : decode cX11_change 28 = .ok (.isub, 1) := by decide +kernel
theorem dX11_change_29 : decode cX11_change 29 = .ok (.invokestatic 48, 3) := by decide +kernel
theorem dX11_change_32 : decode cX11_change 32 = .ok (.ifCond .ne 6, 3) := by decide +kernel
theorem dX11_change_35 : decode cX11_change 35 = .ok (.ldc 56, 2) := by decide +kernel
theorem dX11_change_37 : decode cX11_change 37 = .ok (.ireturn, 1) := by decide +kernel
theorem dX11_change_38 : decode cX11_change 38 = .ok (.aload_n 0, 1) := by decide +kernel
theorem dX11_change_39 : decode cX11_change 39 = .ok (.invokevirtual 62, 3) := by decide +kernel
theorem dX11_change_42 : decode cX11_change 42 = .ok (.aload_n 0, 1) := by decide +kernel
theorem dX11_change_43 : decode cX11_change 43 = .ok (.iload_n 1, 1) := by decide +kernel
theorem dX11_change_44 : decode cX11_change 44 = .ok (.iload_n 2, 1) := by decide +kernel
theorem dX11_change_45 : decode cX11_change 45 = .ok (.invokevirtual 52, 3) := by decide +kernel
theorem dX11_change_48 : decode cX11_change 48 = .ok (.istore 4, 2) := by decide +kernel
theorem dX11_change_50 : decode cX11_change 50 = .ok (.aload_n 0, 1) := by decide +kernel
theorem dX11_change_51 : decode cX11_change 51 = .ok (.getfield 7, 3) := by decide +kernel
theorem dX11_change_54 : decode cX11_change 54 = .ok (.iconst 5, 1) := by decide +kernel
theorem dX11_change_55 : decode cX11_change 55 = .ok (.bipush 28, 2) := by decide +kernel
theorem dX11_change_57 : decode cX11_change 57 = .ok (.iload_n 1, 1) := by decide +kernel
theorem dX11_change_58 : decode cX11_change 58 = .ok (.imul, 1) := by decide +kernel
theorem dX11_change_59 : decode cX11_change 59 = .ok (.iadd, 1) := by decide +kernel
theorem dX11_change_60 : decode cX11_change 60 = .ok (.iload_n 2, 1) := by decide +kernel
theorem dX11_change_61 : decode cX11_change 61 = .ok (.iadd, 1) := by decide +kernel
theorem dX11_change_62 : decode cX11_change 62 = .ok (.iload_n 3, 1) := by decide +kernel
theorem dX11_change_63 : decode cX11_change 63 = .ok (.iastore, 1) := by decide +kernel
theorem dX11_change_64 : decode cX11_change 64 = .ok (.aload_n 0, 1) := by decide +kernel
theorem dX11_change_65 : decode cX11_change 65 = .ok (.iload 4, 2) := by decide +kernel
theorem dX11_change_67 : decode cX11_change 67 = .ok (.invokevirtual 65, 3) := by decide +kernel
theorem dX11_change_70 : decode cX11_change 70 = .ok (.ireturn, 1) := by decide +kernel
theorem dX11_exchange_0 : decode cX11_exchange 0 = .ok (.aload_n 0, 1) := by decide +kernel
theorem dX11_exchange_1 : decode cX11_exchange 1 = .ok (.invokevirtual 62, 3) := by decide +kernel
theorem dX11_exchange_4 : decode cX11_exchange 4 = .ok (.aload_n 0, 1) := by decide +kernel
theorem dX11_exchange_5 : decode cX11_exchange 5 = .ok (.getfield 7, 3) := by decide +kernel
theorem dX11_exchange_8 : decode cX11_exchange 8 = .ok (.iconst 0, 1) := by decide +kernel
theorem dX11_exchange_9 : decode cX11_exchange 9 = .ok (.aload_n 0, 1) := by decide +kernel
theorem dX11_exchange_10 : decode cX11_exchange 10 = .ok (.getfield 16, 3) := by decide +kernel
theorem dX11_exchange_13 : decode cX11_exchange 13 = .ok (.iconst 1, 1) := by decide +kernel
theorem dX11_exchange_14 : decode cX11_exchange 14 = .ok (.iaload, 1) := by decide +kernel
theorem dX11_exchange_15 : decode cX11_exchange 15 = .ok (.iastore, 1) := by decide +kernel
theorem dX11_exchange_16 : decode cX11_exchange 16 = .ok (.aload_n 0, 1) := by decide +kernel
theorem dX11_exchange_17 : decode cX11_exchange 17 = .ok (.getfield 7, 3) := by decide +kernel
theorem dX11_exchange_20 : decode cX11_exchange 20 = .ok (.iconst 1, 1) := by decide +kernel
theorem dX11_exchange_21 : decode cX11_exchange 21 = .ok (.aload_n 0, 1) := by decide +kernel
theorem dX11_exchange_22 : decode cX11_exchange 22 = .ok (.getfield 16, 3) := by decide +kernel
theorem dX11_exchange_25 : decode cX11_exchange 25 = .ok (.iconst 0, 1) := by decide +kernel
theorem dX11_exchange_26 : decode cX11_exchange 26 = .ok (.iaload, 1) := by decide +kernel
theorem dX11_exchange_27 : decode cX11_exchange 27 = .ok (.iastore, 1) := by decide +kernel
theorem dX11_exchange_28 : decode cX11_exchange 28 = .ok (.iconst 0, 1) := by decide +kernel
theorem dX11_exchange_29 : decode cX11_exchange 29 = .ok (.istore_n 1, 1) := by decide +kernel
theorem dX11_exchange_30 : decode cX11_exchange 30 = .ok (.iload_n 1, 1) := by decide +kernel
theorem dX11_exchange_31 : decode cX11_exchange 31 = .ok (.bipush 28, 2) := by decide +kernel
theorem dX11_exchange_33 : decode cX11_exchange 33 = .ok (.if_icmp .ge 43, 3) := by decide +kernel
theorem dX11_exchange_36 : decode cX11_exchange 36 = .ok (.aload_n 0, 1) := by decide +kernel
theorem dX11_exchange_37 : decode cX11_exchange 37 = .ok (.getfield 7, 3) := by decide +kernel
theorem dX11_exchange_40 : decode cX11_exchange 40 = .ok (.iconst 5, 1) := by decide +kernel
theorem dX11_exchange_41 : decode cX11_exchange 41 = .ok (.iload_n 1, 1) := by decide +kernel
theorem dX11_exchange_42 : decode cX11_exchange 42 = .ok (.iadd, 1) := by decide +kernel
theorem dX11_exchange_43 : decode cX11_exchange 43 = .ok (.aload_n 0, 1) := by decide +kernel
theorem dX11_exchange_44 : decode cX11_exchange 44 = .ok (.getfield 16, 3) := by decide +kernel
theorem dX11_exchange_47 : decode cX11_exchange 47 = .ok (.bipush 33, 2) := by decide +kernel
theorem dX11_exchange_49 : decode cX11_exchange 49 = .ok (.iload_n 1, 1) := by decide +kernel
theorem dX11_exchange_50 : decode cX11_exchange 50 = .ok (.iadd, 1) := by decide +kernel
theorem dX11_exchange_51 : decode cX11_exchange 51 = .ok (.iaload, 1) := by decide +kernel
theorem dX11_exchange_52 : decode cX11_exchange 52 = .ok (.iastore, 1) := by decide +kernel
theorem dX11_exchange_53 : decode cX11_exchange 53 = .ok (.aload_n 0, 1) := by decide +kernel
theorem dX11_exchange_54 : decode cX11_exchange 54 = .ok (.getfield 7, 3) := by decide +kernel
theorem dX11_exchange_57 : decode cX11_exchange 57 = .ok (.bipush 33, 2) := by decide +kernel
theorem dX11_exchange_59 : decode cX11_exchange 59 = .ok (.iload_n 1, 1) := by decide +kernel
theorem dX11_exchange_60 : decode cX11_exchange 60 = .ok (.iadd, 1) := by decide +kernel
theorem dX11_exchange_61 : decode cX11_exchange 61 = .ok (.aload_n 0, 1) := by decide +kernel
theorem dX11_exchange_62 : decode cX11_exchange 62 = .ok (.getfield 16, 3) := by decide +kernel
theorem dX11_exchange_65 : decode cX11_exchange 65 = .ok (.iconst 5, 1) := by decide +kernel
theorem dX11_exchange_66 : decode cX11_exchange 66 = .ok (.iload_n 1, 1) := by decide +kernel
theorem dX11_exchange_67 : decode cX11_exchange 67 = .ok (.iadd, 1) := by decide +kernel
theorem dX11_exchange_68 : decode cX11_exchange 68 = .ok (.iaload, 1) := by decide +kernel
theorem dX11_exchange_69 : decode cX11_exchange 69 = .ok (.iastore, 1) := by decide +kernel
theorem dX11_exchange_70 : decode cX11_exchange 70 = .ok (.iinc 1 1, 3) := by decide +kernel
theorem dX11_exchange_73 : decode cX11_exchange 73 = .ok (.goto (-43), 3) := by decide +kernel
theorem dX11_exchange_76 : decode cX11_exchange 76 = .ok (.aload_n 0, 1) := by decide +kernel
theorem dX11_exchange_77 : decode cX11_exchange 77 = .ok (.aload_n 0, 1) := by decide +kernel
theorem dX11_exchange_78 : decode cX11_exchange 78 = .ok (.getfield 7, 3) := by decide +kernel
theorem dX11_exchange_81 : decode cX11_exchange 81 = .ok (.iconst 0, 1) := by decide +kernel
theorem dX11_exchange_82 : decode cX11_exchange 82 = .ok (.iaload, 1) := by decide +kernel
theorem dX11_exchange_83 : decode cX11_exchange 83 = .ok (.invokevirtual 65, 3) := by decide +kernel
theorem dX11_exchange_86 : decode cX11_exchange 86 = .ok (.ireturn, 1) := by decide +kernel
theorem dX11_set_0 : decode cX11_set 0 = .ok (.iload_n 1, 1) := by decide +kernel
theorem dX11_set_1 : decode cX11_set 1 = .ok (.iconst 0, 1) := by decide +kernel
theorem dX11_set_2 : decode cX11_set 2 = .ok (.iconst 2, 1) := by decide +kernel
theorem dX11_set_3 : decode cX11_set 3 = .ok (.invokestatic 48, 3) := by decide +kernel
theorem dX11_set_6 : decode cX11_set 6 = .ok (.ifCond .eq 40, 3) := by decide +kernel
theorem dX11_set_9 : decode cX11_set 9 = .ok (.iload_n 2, 1) := by decide +kernel
theorem dX11_set_10 : decode cX11_set 10 = .ok (.iload_n 1, 1) := by decide +kernel
theorem dX11_set_11 : decode cX11_set 11 = .ok (.iconst 2, 1) := by decide +kernel
theorem dX11_set_12 : decode cX11_set 12 = .ok (.if_icmp .ne 7, 3) := by decide +kernel
theorem dX11_set_15 : decode cX11_set 15 = .ok (.iconst 1, 1) := by decide +kernel
theorem dX11_set_16 : decode cX11_set 16 = .ok (.goto 4, 3) := by decide +kernel
theorem dX11_set_19 : decode cX11_set 19 = .ok (.iconst 0, 1) := by decide +kernel
theorem dX11_set_20 : decode cX11_set 20 = .ok (.iload_n 1, 1) := by decide +kernel
theorem dX11_set_21 : decode cX11_set 21 = .ok (.ifCond .ne 8, 3) := by decide +kernel
theorem dX11_set_24 : decode cX11_set 24 = .ok (.bipush 56, 2) := by decide +kernel
theorem dX11_set_26 : decode cX11_set 26 = .ok (.goto 14, 3) := by decide +kernel
theorem dX11_set_29 : decode cX11_set 29 = .ok (.iload_n 1, 1) := by decide +kernel
theorem dX11_set_30 : decode cX11_set 30 = .ok (.iconst 1, 1) := by decide +kernel
theorem dX11_set_31 : decode cX11_set 31 = .ok (.if_icmp .ne 7, 3) := by decide +kernel
theorem dX11_set_34 : decode cX11_set 34 = .ok (.iconst 5, 1) := by decide +kernel
theorem dX11_set_35 : decode cX11_set 35 = .ok (.goto 5, 3) := by decide +kernel
theorem dX11_set_38 : decode cX11_set 38 = .ok (.bipush 9, 2) := by decide +kernel
theorem dX11_set_40 : decode cX11_set 40 = .ok (.invokestatic 48, 3) := by decide +kernel
theorem dX11_set_43 : decode cX11_set 43 = .ok (.ifCond .ne 6, 3) := by decide +kernel
theorem dX11_set_46 : decode cX11_set 46 = .ok (.ldc 56, 2) := by decide +kernel
theorem dX11_set_48 : decode cX11_set 48 = .ok (.ireturn, 1) := by decide +kernel
theorem dX11_set_49 : decode cX11_set 49 = .ok (.aload_n 0, 1) := by decide +kernel
theorem dX11_set_50 : decode cX11_set 50 = .ok (.invokevirtual 62, 3) := by decide +kernel
theorem dX11_set_53 : decode cX11_set 53 = .ok (.aload_n 0, 1) := by decide +kernel
theorem dX11_set_54 : decode cX11_set 54 = .ok (.getfield 7, 3) := by decide +kernel
theorem dX11_set_57 : decode cX11_set 57 = .ok (.iconst 2, 1) := by decide +kernel
theorem dX11_set_58 : decode cX11_set 58 = .ok (.iload_n 1, 1) := by decide +kernel
theorem dX11_set_59 : decode cX11_set 59 = .ok (.iadd, 1) := by decide +kernel
theorem dX11_set_60 : decode cX11_set 60 = .ok (.iaload, 1) := by decide +kernel
theorem dX11_set_61 : decode cX11_set 61 = .ok (.istore_n 3, 1) := by decide +kernel
theorem dX11_set_62 : decode cX11_set 62 = .ok (.aload_n 0, 1) := by decide +kernel
theorem dX11_set_63 : decode cX11_set 63 = .ok (.getfield 7, 3) := by decide +kernel
theorem dX11_set_66 : decode cX11_set 66 = .ok (.iconst 2, 1) := by decide +kernel
theorem dX11_set_67 : decode cX11_set 67 = .ok (.iload_n 1, 1) := by decide +kernel
theorem dX11_set_68 : decode cX11_set 68 = .ok (.iadd, 1) := by decide +kernel
theorem dX11_set_69 : decode cX11_set 69 = .ok (.iload_n 2, 1) := by decide +kernel
theorem dX11_set_70 : decode cX11_set 70 = .ok (.iastore, 1) := by decide +kernel
theorem dX11_set_71 : decode cX11_set 71 = .ok (.aload_n 0, 1) := by decide +kernel
theorem dX11_set_72 : decode cX11_set 72 = .ok (.iload_n 3, 1) := by decide +kernel
theorem dX11_set_73 : decode cX11_set 73 = .ok (.invokevirtual 65, 3) := by decide +kernel
theorem dX11_set_76 : decode cX11_set 76 = .ok (.ireturn, 1) := by decide +kernel
theorem dX11_letterAt_0 : decode cX11_letterAt 0 = .ok (.iload_n 1, 1) := by decide +kernel
theorem dX11_letterAt_1 : decode cX11_letterAt 1 = .ok (.iconst 0, 1) := by decide +kernel
theorem dX11_letterAt_2 : decode cX11_letterAt 2 = .ok (.iconst 1, 1) := by decide +kernel
theorem dX11_letterAt_3 : decode cX11_letterAt 3 = .ok (.invokestatic 48, 3) := by decide +kernel
theorem dX11_letterAt_6 : decode cX11_letterAt 6 = .ok (.ifCond .eq 7, 3) := by decide +kernel
theorem dX11_letterAt_9 : decode cX11_letterAt 9 = .ok (.iload_n 2, 1) := by decide +kernel
theorem dX11_letterAt_10 : decode cX11_letterAt 10 = .ok (.ifCond .ge 6, 3) := by decide +kernel
theorem dX11_letterAt_13 : decode cX11_letterAt 13 = .ok (.ldc 56, 2) := by decide +kernel
theorem dX11_letterAt_15 : decode cX11_letterAt 15 = .ok (.ireturn, 1) := by decide +kernel
theorem dX11_letterAt_16 : decode cX11_letterAt 16 = .ok (.iload_n 2, 1) := by decide +kernel
theorem dX11_letterAt_17 : decode cX11_letterAt 17 = .ok (.aload_n 0, 1) := by decide +kernel
theorem dX11_letterAt_18 : decode cX11_letterAt 18 = .ok (.getfield 7, 3) := by decide +kernel
theorem dX11_letterAt_21 : decode cX11_letterAt 21 = .ok (.iload_n 1, 1) := by decide +kernel
theorem dX11_letterAt_22 : decode cX11_letterAt 22 = .ok (.iaload, 1) := by decide +kernel
theorem dX11_letterAt_23 : decode cX11_letterAt 23 = .ok (.if_icmp .ge 12, 3) := by decide +kernel
theorem dX11_letterAt_26 : decode cX11_letterAt 26 = .ok (.aload_n 0, 1) := by decide +kernel
theorem dX11_letterAt_27 : decode cX11_letterAt 27 = .ok (.iload_n 1, 1) := by decide +kernel
theorem dX11_letterAt_28 : decode cX11_letterAt 28 = .ok (.iload_n 2, 1) := by decide +kernel
theorem dX11_letterAt_29 : decode cX11_letterAt 29 = .ok (.invokevirtual 52, 3) := by decide +kernel
theorem dX11_letterAt_32 : decode cX11_letterAt 32 = .ok (.goto 5, 3) := by decide +kernel
theorem dX11_letterAt_35 : decode cX11_letterAt 35 = .ok (.ldc 70, 2) := by decide +kernel
theorem dX11_letterAt_37 : decode cX11_letterAt 37 = .ok (.ireturn, 1) := by decide +kernel
theorem dX11_alikeFrom_0 : decode cX11_alikeFrom 0 = .ok (.iconst 0, 1) := by decide +kernel
theorem dX11_alikeFrom_1 : decode cX11_alikeFrom 1 = .ok (.istore_n 3, 1) := by decide +kernel
theorem dX11_alikeFrom_2 : decode cX11_alikeFrom 2 = .ok (.aload_n 0, 1) := by decide +kernel
theorem dX11_alikeFrom_3 : decode cX11_alikeFrom 3 = .ok (.iload_n 1, 1) := by decide +kernel
theorem dX11_alikeFrom_4 : decode cX11_alikeFrom 4 = .ok (.iload_n 3, 1) := by decide +kernel
theorem dX11_alikeFrom_5 : decode cX11_alikeFrom 5 = .ok (.iadd, 1) := by decide +kernel
theorem dX11_alikeFrom_6 : decode cX11_alikeFrom 6 = .ok (.iload_n 2, 1) := by decide +kernel
theorem dX11_alikeFrom_7 : decode cX11_alikeFrom 7 = .ok (.iload_n 3, 1) := by decide +kernel
theorem dX11_alikeFrom_8 : decode cX11_alikeFrom 8 = .ok (.iadd, 1) := by decide +kernel
theorem dX11_alikeFrom_9 : decode cX11_alikeFrom 9 = .ok (.invokevirtual 71, 3) := by decide +kernel
theorem dX11_alikeFrom_12 : decode cX11_alikeFrom 12 = .ok (.ifCond .eq 9, 3) := by decide +kernel
theorem dX11_alikeFrom_15 : decode cX11_alikeFrom 15 = .ok (.iinc 3 1, 3) := by decide +kernel
theorem dX11_alikeFrom_18 : decode cX11_alikeFrom 18 = .ok (.goto (-16), 3) := by decide +kernel
theorem dX11_alikeFrom_21 : decode cX11_alikeFrom 21 = .ok (.iload_n 3, 1) := by decide +kernel
theorem dX11_alikeFrom_22 : decode cX11_alikeFrom 22 = .ok (.ireturn, 1) := by decide +kernel
theorem dX11_same_0 : decode cX11_same 0 = .ok (.iload_n 1, 1) := by decide +kernel
theorem dX11_same_1 : decode cX11_same 1 = .ok (.iconst 0, 1) := by decide +kernel
theorem dX11_same_2 : decode cX11_same 2 = .ok (.aload_n 0, 1) := by decide +kernel
theorem dX11_same_3 : decode cX11_same 3 = .ok (.getfield 7, 3) := by decide +kernel
theorem dX11_same_6 : decode cX11_same 6 = .ok (.iconst 0, 1) := by decide +kernel
theorem dX11_same_7 : decode cX11_same 7 = .ok (.iaload, 1) := by decide +kernel
theorem dX11_same_8 : decode cX11_same 8 = .ok (.invokestatic 48, 3) := by decide +kernel
theorem dX11_same_11 : decode cX11_same 11 = .ok (.ifCond .eq 26, 3) := by decide +kernel
theorem dX11_same_14 : decode cX11_same 14 = .ok (.iload_n 2, 1) := by decide +kernel
theorem dX11_same_15 : decode cX11_same 15 = .ok (.iconst 0, 1) := by decide +kernel
theorem dX11_same_16 : decode cX11_same 16 = .ok (.aload_n 0, 1) := by decide +kernel
theorem dX11_same_17 : decode cX11_same 17 = .ok (.getfield 7, 3) := by decide +kernel
theorem dX11_same_20 : decode cX11_same 20 = .ok (.iconst 1, 1) := by decide +kernel
theorem dX11_same_21 : decode cX11_same 21 = .ok (.iaload, 1) := by decide +kernel
theorem dX11_same_22 : decode cX11_same 22 = .ok (.invokestatic 48, 3) := by decide +kernel
theorem dX11_same_25 : decode cX11_same 25 = .ok (.ifCond .eq 12, 3) := by decide +kernel
theorem dX11_same_28 : decode cX11_same 28 = .ok (.aload_n 0, 1) := by decide +kernel
theorem dX11_same_29 : decode cX11_same 29 = .ok (.iload_n 1, 1) := by decide +kernel
theorem dX11_same_30 : decode cX11_same 30 = .ok (.iload_n 2, 1) := by decide +kernel
theorem dX11_same_31 : decode cX11_same 31 = .ok (.invokevirtual 75, 3) := by decide +kernel
theorem dX11_same_34 : decode cX11_same 34 = .ok (.goto 5, 3) := by decide +kernel
theorem dX11_same_37 : decode cX11_same 37 = .ok (.ldc 56, 2) := by decide +kernel
theorem dX11_same_39 : decode cX11_same 39 = .ok (.ireturn, 1) := by decide +kernel
theorem dX11_reached_0 : decode cX11_reached 0 = .ok (.aload_n 0, 1) := by decide +kernel
theorem dX11_reached_1 : decode cX11_reached 1 = .ok (.getfield 23, 3) := by decide +kernel
theorem dX11_reached_4 : decode cX11_reached 4 = .ok (.bipush 113, 2) := by decide +kernel
theorem dX11_reached_6 : decode cX11_reached 6 = .ok (.iload_n 1, 1) := by decide +kernel
theorem dX11_reached_7 : decode cX11_reached 7 = .ok (.imul, 1) := by decide +kernel
theorem dX11_reached_8 : decode cX11_reached 8 = .ok (.iload_n 2, 1) := by decide +kernel
theorem dX11_reached_9 : decode cX11_reached 9 = .ok (.iadd, 1) := by decide +kernel
theorem dX11_reached_10 : decode cX11_reached 10 = .ok (.bipush 56, 2) := by decide +kernel
theorem dX11_reached_12 : decode cX11_reached 12 = .ok (.iadd, 1) := by decide +kernel
theorem dX11_reached_13 : decode cX11_reached 13 = .ok (.iaload, 1) := by decide +kernel
theorem dX11_reached_14 : decode cX11_reached 14 = .ok (.ireturn, 1) := by decide +kernel
theorem dX11_putsIn_0 : decode cX11_putsIn 0 = .ok (.iload_n 2, 1) := by decide +kernel
theorem dX11_putsIn_1 : decode cX11_putsIn 1 = .ok (.iload_n 1, 1) := by decide +kernel
theorem dX11_putsIn_2 : decode cX11_putsIn 2 = .ok (.ineg, 1) := by decide +kernel
theorem dX11_putsIn_3 : decode cX11_putsIn 3 = .ok (.if_icmp .eq 31, 3) := by decide +kernel
theorem dX11_putsIn_6 : decode cX11_putsIn 6 = .ok (.iload_n 2, 1) := by decide +kernel
theorem dX11_putsIn_7 : decode cX11_putsIn 7 = .ok (.iload_n 1, 1) := by decide +kernel
theorem dX11_putsIn_8 : decode cX11_putsIn 8 = .ok (.if_icmp .eq 30, 3) := by decide +kernel
theorem dX11_putsIn_11 : decode cX11_putsIn 11 = .ok (.aload_n 0, 1) := by decide +kernel
theorem dX11_putsIn_12 : decode cX11_putsIn 12 = .ok (.iload_n 1, 1) := by decide +kernel
theorem dX11_putsIn_13 : decode cX11_putsIn 13 = .ok (.iconst 1, 1) := by decide +kernel
theorem dX11_putsIn_14 : decode cX11_putsIn 14 = .ok (.isub, 1) := by decide +kernel
theorem dX11_putsIn_15 : decode cX11_putsIn 15 = .ok (.iload_n 2, 1) := by decide +kernel
theorem dX11_putsIn_16 : decode cX11_putsIn 16 = .ok (.iconst 1, 1) := by decide +kernel
theorem dX11_putsIn_17 : decode cX11_putsIn 17 = .ok (.isub, 1) := by decide +kernel
theorem dX11_putsIn_18 : decode cX11_putsIn 18 = .ok (.invokevirtual 78, 3) := by decide +kernel
theorem dX11_putsIn_21 : decode cX11_putsIn 21 = .ok (.aload_n 0, 1) := by decide +kernel
theorem dX11_putsIn_22 : decode cX11_putsIn 22 = .ok (.iload_n 1, 1) := by decide +kernel
theorem dX11_putsIn_23 : decode cX11_putsIn 23 = .ok (.iconst 1, 1) := by decide +kernel
theorem dX11_putsIn_24 : decode cX11_putsIn 24 = .ok (.isub, 1) := by decide +kernel
theorem dX11_putsIn_25 : decode cX11_putsIn 25 = .ok (.iload_n 2, 1) := by decide +kernel
theorem dX11_putsIn_26 : decode cX11_putsIn 26 = .ok (.iconst 1, 1) := by decide +kernel
theorem dX11_putsIn_27 : decode cX11_putsIn 27 = .ok (.iadd, 1) := by decide +kernel
theorem dX11_putsIn_28 : decode cX11_putsIn 28 = .ok (.invokevirtual 78, 3) := by decide +kernel
theorem dX11_putsIn_31 : decode cX11_putsIn 31 = .ok (.if_icmp .ge 7, 3) := by decide +kernel
theorem dX11_putsIn_34 : decode cX11_putsIn 34 = .ok (.iconst 1, 1) := by decide +kernel
theorem dX11_putsIn_35 : decode cX11_putsIn 35 = .ok (.goto 4, 3) := by decide +kernel
theorem dX11_putsIn_38 : decode cX11_putsIn 38 = .ok (.iconst 0, 1) := by decide +kernel
theorem dX11_putsIn_39 : decode cX11_putsIn 39 = .ok (.ireturn, 1) := by decide +kernel
theorem dX11_lays_0 : decode cX11_lays 0 = .ok (.iload_n 1, 1) := by decide +kernel
theorem dX11_lays_1 : decode cX11_lays 1 = .ok (.ifCond .ne 7, 3) := by decide +kernel
theorem dX11_lays_4 : decode cX11_lays 4 = .ok (.iconst 0, 1) := by decide +kernel
theorem dX11_lays_5 : decode cX11_lays 5 = .ok (.goto 37, 3) := by decide +kernel
theorem dX11_lays_8 : decode cX11_lays 8 = .ok (.aload_n 0, 1) := by decide +kernel
theorem dX11_lays_9 : decode cX11_lays 9 = .ok (.iload_n 1, 1) := by decide +kernel
theorem dX11_lays_10 : decode cX11_lays 10 = .ok (.iload_n 2, 1) := by decide +kernel
theorem dX11_lays_11 : decode cX11_lays 11 = .ok (.invokevirtual 81, 3) := by decide +kernel
theorem dX11_lays_14 : decode cX11_lays 14 = .ok (.ifCond .eq 16, 3) := by decide +kernel
theorem dX11_lays_17 : decode cX11_lays 17 = .ok (.aload_n 0, 1) := by decide +kernel
theorem dX11_lays_18 : decode cX11_lays 18 = .ok (.iload_n 1, 1) := by decide +kernel
theorem dX11_lays_19 : decode cX11_lays 19 = .ok (.iconst 1, 1) := by decide +kernel
theorem dX11_lays_20 : decode cX11_lays 20 = .ok (.isub, 1) := by decide +kernel
theorem dX11_lays_21 : decode cX11_lays 21 = .ok (.iload_n 2, 1) := by decide +kernel
theorem dX11_lays_22 : decode cX11_lays 22 = .ok (.iconst 1, 1) := by decide +kernel
theorem dX11_lays_23 : decode cX11_lays 23 = .ok (.iadd, 1) := by decide +kernel
theorem dX11_lays_24 : decode cX11_lays 24 = .ok (.invokevirtual 78, 3) := by decide +kernel
theorem dX11_lays_27 : decode cX11_lays 27 = .ok (.goto 15, 3) := by decide +kernel
theorem dX11_lays_30 : decode cX11_lays 30 = .ok (.aload_n 0, 1) := by decide +kernel
theorem dX11_lays_31 : decode cX11_lays 31 = .ok (.iload_n 1, 1) := by decide +kernel
theorem dX11_lays_32 : decode cX11_lays 32 = .ok (.iconst 1, 1) := by decide +kernel
theorem dX11_lays_33 : decode cX11_lays 33 = .ok (.isub, 1) := by decide +kernel
theorem dX11_lays_34 : decode cX11_lays 34 = .ok (.iload_n 2, 1) := by decide +kernel
theorem dX11_lays_35 : decode cX11_lays 35 = .ok (.iconst 1, 1) := by decide +kernel
theorem dX11_lays_36 : decode cX11_lays 36 = .ok (.isub, 1) := by decide +kernel
theorem dX11_lays_37 : decode cX11_lays 37 = .ok (.invokevirtual 78, 3) := by decide +kernel
theorem dX11_lays_40 : decode cX11_lays 40 = .ok (.iconst 1, 1) := by decide +kernel
theorem dX11_lays_41 : decode cX11_lays 41 = .ok (.iadd, 1) := by decide +kernel
theorem dX11_lays_42 : decode cX11_lays 42 = .ok (.istore_n 3, 1) := by decide +kernel
theorem dX11_lays_43 : decode cX11_lays 43 = .ok (.aload_n 0, 1) := by decide +kernel
theorem dX11_lays_44 : decode cX11_lays 44 = .ok (.getfield 23, 3) := by decide +kernel
theorem dX11_lays_47 : decode cX11_lays 47 = .ok (.bipush 113, 2) := by decide +kernel
theorem dX11_lays_49 : decode cX11_lays 49 = .ok (.iload_n 1, 1) := by decide +kernel
theorem dX11_lays_50 : decode cX11_lays 50 = .ok (.imul, 1) := by decide +kernel
theorem dX11_lays_51 : decode cX11_lays 51 = .ok (.iload_n 2, 1) := by decide +kernel
theorem dX11_lays_52 : decode cX11_lays 52 = .ok (.iadd, 1) := by decide +kernel
theorem dX11_lays_53 : decode cX11_lays 53 = .ok (.bipush 56, 2) := by decide +kernel
theorem dX11_lays_55 : decode cX11_lays 55 = .ok (.iadd, 1) := by decide +kernel
theorem dX11_lays_56 : decode cX11_lays 56 = .ok (.iload_n 3, 1) := by decide +kernel
theorem dX11_lays_57 : decode cX11_lays 57 = .ok (.aload_n 0, 1) := by decide +kernel
theorem dX11_lays_58 : decode cX11_lays 58 = .ok (.iload_n 3, 1) := by decide +kernel
theorem dX11_lays_59 : decode cX11_lays 59 = .ok (.iload_n 3, 1) := by decide +kernel
theorem dX11_lays_60 : decode cX11_lays 60 = .ok (.iload_n 2, 1) := by decide +kernel
