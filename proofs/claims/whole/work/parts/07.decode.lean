theorem dX11_bestChange_11 : decode cX11_bestChange 11 = .ok (.ireturn, 1) := by decide +kernel
theorem dX11_bestChange_12 : decode cX11_bestChange 12 = .ok (.aload_n 0, 1) := by decide +kernel
theorem dX11_bestChange_13 : decode cX11_bestChange 13 = .ok (.invokevirtual 122, 3) := by decide +kernel
theorem dX11_bestChange_16 : decode cX11_bestChange 16 = .ok (.istore_n 2, 1) := by decide +kernel
theorem dX11_bestChange_17 : decode cX11_bestChange 17 = .ok (.ldc 70, 2) := by decide +kernel
theorem dX11_bestChange_19 : decode cX11_bestChange 19 = .ok (.istore_n 3, 1) := by decide +kernel
theorem dX11_bestChange_20 : decode cX11_bestChange 20 = .ok (.iconst 0, 1) := by decide +kernel
theorem dX11_bestChange_21 : decode cX11_bestChange 21 = .ok (.istore 4, 2) := by decide +kernel
theorem dX11_bestChange_23 : decode cX11_bestChange 23 = .ok (.iload 4, 2) := by decide +kernel
theorem dX11_bestChange_25 : decode cX11_bestChange 25 = .ok (.aload_n 0, 1) := by decide +kernel
theorem dX11_bestChange_26 : decode cX11_bestChange 26 = .ok (.getfield 7, 3) := by decide +kernel
theorem dX11_bestChange_29 : decode cX11_bestChange 29 = .ok (.iconst 0, 1) := by decide +kernel
theorem dX11_bestChange_30 : decode cX11_bestChange 30 = .ok (.iaload, 1) := by decide +kernel
theorem dX11_bestChange_31 : decode cX11_bestChange 31 = .ok (.if_icmp .ge 94, 3) := by decide +kernel
theorem dX11_bestChange_34 : decode cX11_bestChange 34 = .ok (.aload_n 0, 1) := by decide +kernel
theorem dX11_bestChange_35 : decode cX11_bestChange 35 = .ok (.iconst 0, 1) := by decide +kernel
theorem dX11_bestChange_36 : decode cX11_bestChange 36 = .ok (.iload 4, 2) := by decide +kernel
theorem dX11_bestChange_38 : decode cX11_bestChange 38 = .ok (.invokevirtual 52, 3) := by decide +kernel
theorem dX11_bestChange_41 : decode cX11_bestChange 41 = .ok (.istore 5, 2) := by decide +kernel
theorem dX11_bestChange_43 : decode cX11_bestChange 43 = .ok (.iconst 0, 1) := by decide +kernel
theorem dX11_bestChange_44 : decode cX11_bestChange 44 = .ok (.istore 6, 2) := by decide +kernel
theorem dX11_bestChange_46 : decode cX11_bestChange 46 = .ok (.iload 6, 2) := by decide +kernel
theorem dX11_bestChange_48 : decode cX11_bestChange 48 = .ok (.bipush 8, 2) := by decide +kernel
theorem dX11_bestChange_50 : decode cX11_bestChange 50 = .ok (.if_icmp .ge 58, 3) := by decide +kernel
theorem dX11_bestChange_53 : decode cX11_bestChange 53 = .ok (.aload_n 0, 1) := by decide +kernel
theorem dX11_bestChange_54 : decode cX11_bestChange 54 = .ok (.getfield 7, 3) := by decide +kernel
theorem dX11_bestChange_57 : decode cX11_bestChange 57 = .ok (.iconst 5, 1) := by decide +kernel
theorem dX11_bestChange_58 : decode cX11_bestChange 58 = .ok (.iload 4, 2) := by decide +kernel
theorem dX11_bestChange_60 : decode cX11_bestChange 60 = .ok (.iadd, 1) := by decide +kernel
theorem dX11_bestChange_61 : decode cX11_bestChange 61 = .ok (.iload 6, 2) := by decide +kernel
theorem dX11_bestChange_63 : decode cX11_bestChange 63 = .ok (.iastore, 1) := by decide +kernel
theorem dX11_bestChange_64 : decode cX11_bestChange 64 = .ok (.aload_n 0, 1) := by decide +kernel
theorem dX11_bestChange_65 : decode cX11_bestChange 65 = .ok (.invokevirtual 122, 3) := by decide +kernel
theorem dX11_bestChange_68 : decode cX11_bestChange 68 = .ok (.istore 7, 2) := by decide +kernel
theorem dX11_bestChange_70 : decode cX11_bestChange 70 = .ok (.iload 7, 2) := by decide +kernel
theorem dX11_bestChange_72 : decode cX11_bestChange 72 = .ok (.iload_n 2, 1) := by decide +kernel
theorem dX11_bestChange_73 : decode cX11_bestChange 73 = .ok (.if_icmp .ge 14, 3) := by decide +kernel
theorem dX11_bestChange_76 : decode cX11_bestChange 76 = .ok (.bipush 8, 2) := by decide +kernel
theorem dX11_bestChange_78 : decode cX11_bestChange 78 = .ok (.iload 4, 2) := by decide +kernel
theorem dX11_bestChange_80 : decode cX11_bestChange 80 = .ok (.imul, 1) := by decide +kernel
theorem dX11_bestChange_81 : decode cX11_bestChange 81 = .ok (.iload 6, 2) := by decide +kernel
theorem dX11_bestChange_83 : decode cX11_bestChange 83 = .ok (.iadd, 1) := by decide +kernel
theorem dX11_bestChange_84 : decode cX11_bestChange 84 = .ok (.goto 4, 3) := by decide +kernel
theorem dX11_bestChange_87 : decode cX11_bestChange 87 = .ok (.iload_n 3, 1) := by decide +kernel
theorem dX11_bestChange_88 : decode cX11_bestChange 88 = .ok (.istore_n 3, 1) := by decide +kernel
theorem dX11_bestChange_89 : decode cX11_bestChange 89 = .ok (.iload 7, 2) := by decide +kernel
theorem dX11_bestChange_91 : decode cX11_bestChange 91 = .ok (.iload_n 2, 1) := by decide +kernel
theorem dX11_bestChange_92 : decode cX11_bestChange 92 = .ok (.if_icmp .ge 8, 3) := by decide +kernel
theorem dX11_bestChange_95 : decode cX11_bestChange 95 = .ok (.iload 7, 2) := by decide +kernel
theorem dX11_bestChange_97 : decode cX11_bestChange 97 = .ok (.goto 4, 3) := by decide +kernel
theorem dX11_bestChange_100 : decode cX11_bestChange 100 = .ok (.iload_n 2, 1) := by decide +kernel
theorem dX11_bestChange_101 : decode cX11_bestChange 101 = .ok (.istore_n 2, 1) := by decide +kernel
theorem dX11_bestChange_102 : decode cX11_bestChange 102 = .ok (.iinc 6 1, 3) := by decide +kernel
theorem dX11_bestChange_105 : decode cX11_bestChange 105 = .ok (.goto (-59), 3) := by decide +kernel
theorem dX11_bestChange_108 : decode cX11_bestChange 108 = .ok (.aload_n 0, 1) := by decide +kernel
theorem dX11_bestChange_109 : decode cX11_bestChange 109 = .ok (.getfield 7, 3) := by decide +kernel
theorem dX11_bestChange_112 : decode cX11_bestChange 112 = .ok (.iconst 5, 1) := by decide +kernel
theorem dX11_bestChange_113 : decode cX11_bestChange 113 = .ok (.iload 4, 2) := by decide +kernel
theorem dX11_bestChange_115 : decode cX11_bestChange 115 = .ok (.iadd, 1) := by decide +kernel
theorem dX11_bestChange_116 : decode cX11_bestChange 116 = .ok (.iload 5, 2) := by decide +kernel
theorem dX11_bestChange_118 : decode cX11_bestChange 118 = .ok (.iastore, 1) := by decide +kernel
theorem dX11_bestChange_119 : decode cX11_bestChange 119 = .ok (.iinc 4 1, 3) := by decide +kernel
theorem dX11_bestChange_122 : decode cX11_bestChange 122 = .ok (.goto (-99), 3) := by decide +kernel
theorem dX11_bestChange_125 : decode cX11_bestChange 125 = .ok (.iload_n 3, 1) := by decide +kernel
theorem dX11_bestChange_126 : decode cX11_bestChange 126 = .ok (.ifCond .ge 8, 3) := by decide +kernel
theorem dX11_bestChange_129 : decode cX11_bestChange 129 = .ok (.ldc 70, 2) := by decide +kernel
theorem dX11_bestChange_131 : decode cX11_bestChange 131 = .ok (.goto 27, 3) := by decide +kernel
theorem dX11_bestChange_134 : decode cX11_bestChange 134 = .ok (.iload_n 1, 1) := by decide +kernel
theorem dX11_bestChange_135 : decode cX11_bestChange 135 = .ok (.ifCond .ne 10, 3) := by decide +kernel
theorem dX11_bestChange_138 : decode cX11_bestChange 138 = .ok (.iload_n 3, 1) := by decide +kernel
theorem dX11_bestChange_139 : decode cX11_bestChange 139 = .ok (.bipush 8, 2) := by decide +kernel
theorem dX11_bestChange_141 : decode cX11_bestChange 141 = .ok (.idiv, 1) := by decide +kernel
theorem dX11_bestChange_142 : decode cX11_bestChange 142 = .ok (.goto 16, 3) := by decide +kernel
theorem dX11_bestChange_145 : decode cX11_bestChange 145 = .ok (.iload_n 1, 1) := by decide +kernel
theorem dX11_bestChange_146 : decode cX11_bestChange 146 = .ok (.iconst 1, 1) := by decide +kernel
theorem dX11_bestChange_147 : decode cX11_bestChange 147 = .ok (.if_icmp .ne 10, 3) := by decide +kernel
theorem dX11_bestChange_150 : decode cX11_bestChange 150 = .ok (.iload_n 3, 1) := by decide +kernel
theorem dX11_bestChange_151 : decode cX11_bestChange 151 = .ok (.bipush 8, 2) := by decide +kernel
theorem dX11_bestChange_153 : decode cX11_bestChange 153 = .ok (.irem, 1) := by decide +kernel
theorem dX11_bestChange_154 : decode cX11_bestChange 154 = .ok (.goto 4, 3) := by decide +kernel
theorem dX11_bestChange_157 : decode cX11_bestChange 157 = .ok (.iload_n 2, 1) := by decide +kernel
theorem dX11_bestChange_158 : decode cX11_bestChange 158 = .ok (.ireturn, 1) := by decide +kernel
theorem dX11_longest_0 : decode cX11_longest 0 = .ok (.iconst 0, 1) := by decide +kernel
theorem dX11_longest_1 : decode cX11_longest 1 = .ok (.istore_n 1, 1) := by decide +kernel
theorem dX11_longest_2 : decode cX11_longest 2 = .ok (.iconst 0, 1) := by decide +kernel
theorem dX11_longest_3 : decode cX11_longest 3 = .ok (.istore_n 2, 1) := by decide +kernel
theorem dX11_longest_4 : decode cX11_longest 4 = .ok (.iload_n 2, 1) := by decide +kernel
theorem dX11_longest_5 : decode cX11_longest 5 = .ok (.aload_n 0, 1) := by decide +kernel
theorem dX11_longest_6 : decode cX11_longest 6 = .ok (.getfield 7, 3) := by decide +kernel
theorem dX11_longest_9 : decode cX11_longest 9 = .ok (.iconst 0, 1) := by decide +kernel
theorem dX11_longest_10 : decode cX11_longest 10 = .ok (.iaload, 1) := by decide +kernel
theorem dX11_longest_11 : decode cX11_longest 11 = .ok (.if_icmp .ge 48, 3) := by decide +kernel
theorem dX11_longest_14 : decode cX11_longest 14 = .ok (.iconst 0, 1) := by decide +kernel
theorem dX11_longest_15 : decode cX11_longest 15 = .ok (.istore_n 3, 1) := by decide +kernel
theorem dX11_longest_16 : decode cX11_longest 16 = .ok (.iload_n 3, 1) := by decide +kernel
theorem dX11_longest_17 : decode cX11_longest 17 = .ok (.aload_n 0, 1) := by decide +kernel
theorem dX11_longest_18 : decode cX11_longest 18 = .ok (.getfield 7, 3) := by decide +kernel
theorem dX11_longest_21 : decode cX11_longest 21 = .ok (.iconst 1, 1) := by decide +kernel
theorem dX11_longest_22 : decode cX11_longest 22 = .ok (.iaload, 1) := by decide +kernel
theorem dX11_longest_23 : decode cX11_longest 23 = .ok (.if_icmp .ge 30, 3) := by decide +kernel
theorem dX11_longest_26 : decode cX11_longest 26 = .ok (.aload_n 0, 1) := by decide +kernel
theorem dX11_longest_27 : decode cX11_longest 27 = .ok (.iload_n 2, 1) := by decide +kernel
theorem dX11_longest_28 : decode cX11_longest 28 = .ok (.iload_n 3, 1) := by decide +kernel
theorem dX11_longest_29 : decode cX11_longest 29 = .ok (.invokevirtual 75, 3) := by decide +kernel
theorem dX11_longest_32 : decode cX11_longest 32 = .ok (.istore 4, 2) := by decide +kernel
theorem dX11_longest_34 : decode cX11_longest 34 = .ok (.iload 4, 2) := by decide +kernel
theorem dX11_longest_36 : decode cX11_longest 36 = .ok (.iload_n 1, 1) := by decide +kernel
theorem dX11_longest_37 : decode cX11_longest 37 = .ok (.if_icmp .le 8, 3) := by decide +kernel
theorem dX11_longest_40 : decode cX11_longest 40 = .ok (.iload 4, 2) := by decide +kernel
theorem dX11_longest_42 : decode cX11_longest 42 = .ok (.goto 4, 3) := by decide +kernel
theorem dX11_longest_45 : decode cX11_longest 45 = .ok (.iload_n 1, 1) := by decide +kernel
theorem dX11_longest_46 : decode cX11_longest 46 = .ok (.istore_n 1, 1) := by decide +kernel
theorem dX11_longest_47 : decode cX11_longest 47 = .ok (.iinc 3 1, 3) := by decide +kernel
theorem dX11_longest_50 : decode cX11_longest 50 = .ok (.goto (-34), 3) := by decide +kernel
theorem dX11_longest_53 : decode cX11_longest 53 = .ok (.iinc 2 1, 3) := by decide +kernel
theorem dX11_longest_56 : decode cX11_longest 56 = .ok (.goto (-52), 3) := by decide +kernel
theorem dX11_longest_59 : decode cX11_longest 59 = .ok (.iload_n 1, 1) := by decide +kernel
theorem dX11_longest_60 : decode cX11_longest 60 = .ok (.ireturn, 1) := by decide +kernel
theorem dX11_count_0 : decode cX11_count 0 = .ok (.iload_n 1, 1) := by decide +kernel
theorem dX11_count_1 : decode cX11_count 1 = .ok (.iconst 2, 1) := by decide +kernel
theorem dX11_count_2 : decode cX11_count 2 = .ok (.iconst 5, 1) := by decide +kernel
theorem dX11_count_3 : decode cX11_count 3 = .ok (.invokestatic 48, 3) := by decide +kernel
theorem dX11_count_6 : decode cX11_count 6 = .ok (.ifCond .eq 13, 3) := by decide +kernel
theorem dX11_count_9 : decode cX11_count 9 = .ok (.aload_n 0, 1) := by decide +kernel
theorem dX11_count_10 : decode cX11_count 10 = .ok (.invokevirtual 102, 3) := by decide +kernel
theorem dX11_count_13 : decode cX11_count 13 = .ok (.ifCond .ne 6, 3) := by decide +kernel
theorem dX11_count_16 : decode cX11_count 16 = .ok (.ldc 61, 2) := by decide +kernel
theorem dX11_count_18 : decode cX11_count 18 = .ok (.ireturn, 1) := by decide +kernel
theorem dX11_count_19 : decode cX11_count 19 = .ok (.iload_n 1, 1) := by decide +kernel
theorem dX11_count_20 : decode cX11_count 20 = .ok (.tableswitch 100 0 8 #[52, 52, 59, 64, 74, 79, 85, 90, 95], 52) := by decide +kernel
theorem dX11_count_72 : decode cX11_count 72 = .ok (.aload_n 0, 1) := by decide +kernel
theorem dX11_count_73 : decode cX11_count 73 = .ok (.getfield 7, 3) := by decide +kernel
theorem dX11_count_76 : decode cX11_count 76 = .ok (.iload_n 1, 1) := by decide +kernel
theorem dX11_count_77 : decode cX11_count 77 = .ok (.iaload, 1) := by decide +kernel
theorem dX11_count_78 : decode cX11_count 78 = .ok (.ireturn, 1) := by decide +kernel
theorem dX11_count_79 : decode cX11_count 79 = .ok (.aload_n 0, 1) := by decide +kernel
theorem dX11_count_80 : decode cX11_count 80 = .ok (.getfield 95, 3) := by decide +kernel
theorem dX11_count_83 : decode cX11_count 83 = .ok (.ireturn, 1) := by decide +kernel
theorem dX11_count_84 : decode cX11_count 84 = .ok (.aload_n 0, 1) := by decide +kernel
theorem dX11_count_85 : decode cX11_count 85 = .ok (.getfield 95, 3) := by decide +kernel
theorem dX11_count_88 : decode cX11_count 88 = .ok (.aload_n 0, 1) := by decide +kernel
theorem dX11_count_89 : decode cX11_count 89 = .ok (.getfield 84, 3) := by decide +kernel
theorem dX11_count_92 : decode cX11_count 92 = .ok (.isub, 1) := by decide +kernel
theorem dX11_count_93 : decode cX11_count 93 = .ok (.ireturn, 1) := by decide +kernel
theorem dX11_count_94 : decode cX11_count 94 = .ok (.aload_n 0, 1) := by decide +kernel
theorem dX11_count_95 : decode cX11_count 95 = .ok (.invokevirtual 152, 3) := by decide +kernel
theorem dX11_count_98 : decode cX11_count 98 = .ok (.ireturn, 1) := by decide +kernel
theorem dX11_count_99 : decode cX11_count 99 = .ok (.aload_n 0, 1) := by decide +kernel
theorem dX11_count_100 : decode cX11_count 100 = .ok (.iconst (-1), 1) := by decide +kernel
theorem dX11_count_101 : decode cX11_count 101 = .ok (.invokevirtual 149, 3) := by decide +kernel
theorem dX11_count_104 : decode cX11_count 104 = .ok (.ireturn, 1) := by decide +kernel
theorem dX11_count_105 : decode cX11_count 105 = .ok (.aload_n 0, 1) := by decide +kernel
theorem dX11_count_106 : decode cX11_count 106 = .ok (.invokevirtual 155, 3) := by decide +kernel
theorem dX11_count_109 : decode cX11_count 109 = .ok (.ireturn, 1) := by decide +kernel
theorem dX11_count_110 : decode cX11_count 110 = .ok (.aload_n 0, 1) := by decide +kernel
theorem dX11_count_111 : decode cX11_count 111 = .ok (.getfield 57, 3) := by decide +kernel
theorem dX11_count_114 : decode cX11_count 114 = .ok (.ireturn, 1) := by decide +kernel
theorem dX11_count_115 : decode cX11_count 115 = .ok (.aload_n 0, 1) := by decide +kernel
theorem dX11_count_116 : decode cX11_count 116 = .ok (.getfield 158, 3) := by decide +kernel
theorem dX11_count_119 : decode cX11_count 119 = .ok (.ireturn, 1) := by decide +kernel
theorem dX11_count_120 : decode cX11_count 120 = .ok (.iload_n 1, 1) := by decide +kernel
theorem dX11_count_121 : decode cX11_count 121 = .ok (.bipush 20, 2) := by decide +kernel
theorem dX11_count_123 : decode cX11_count 123 = .ok (.bipush 22, 2) := by decide +kernel
theorem dX11_count_125 : decode cX11_count 125 = .ok (.invokestatic 48, 3) := by decide +kernel
theorem dX11_count_128 : decode cX11_count 128 = .ok (.ifCond .eq 17, 3) := by decide +kernel
theorem dX11_count_131 : decode cX11_count 131 = .ok (.aload_n 0, 1) := by decide +kernel
theorem dX11_count_132 : decode cX11_count 132 = .ok (.getfield 7, 3) := by decide +kernel
theorem dX11_count_135 : decode cX11_count 135 = .ok (.iconst 2, 1) := by decide +kernel
theorem dX11_count_136 : decode cX11_count 136 = .ok (.iload_n 1, 1) := by decide +kernel
theorem dX11_count_137 : decode cX11_count 137 = .ok (.iadd, 1) := by decide +kernel
theorem dX11_count_138 : decode cX11_count 138 = .ok (.bipush 20, 2) := by decide +kernel
theorem dX11_count_140 : decode cX11_count 140 = .ok (.isub, 1) := by decide +kernel
theorem dX11_count_141 : decode cX11_count 141 = .ok (.iaload, 1) := by decide +kernel
theorem dX11_count_142 : decode cX11_count 142 = .ok (.goto 5, 3) := by decide +kernel
theorem dX11_count_145 : decode cX11_count 145 = .ok (.ldc 56, 2) := by decide +kernel
theorem dX11_count_147 : decode cX11_count 147 = .ok (.ireturn, 1) := by decide +kernel
theorem dX11_undo_0 : decode cX11_undo 0 = .ok (.aload_n 0, 1) := by decide +kernel
theorem dX11_undo_1 : decode cX11_undo 1 = .ok (.getfield 57, 3) := by decide +kernel
theorem dX11_undo_4 : decode cX11_undo 4 = .ok (.ifCond .ne 6, 3) := by decide +kernel
theorem dX11_undo_7 : decode cX11_undo 7 = .ok (.ldc 69, 2) := by decide +kernel
theorem dX11_undo_9 : decode cX11_undo 9 = .ok (.ireturn, 1) := by decide +kernel
theorem dX11_undo_10 : decode cX11_undo 10 = .ok (.aload_n 0, 1) := by decide +kernel
theorem dX11_undo_11 : decode cX11_undo 11 = .ok (.dup, 1) := by decide +kernel
theorem dX11_undo_12 : decode cX11_undo 12 = .ok (.getfield 57, 3) := by decide +kernel
theorem dX11_undo_15 : decode cX11_undo 15 = .ok (.iconst 1, 1) := by decide +kernel
theorem dX11_undo_16 : decode cX11_undo 16 = .ok (.isub, 1) := by decide +kernel
theorem dX11_undo_17 : decode cX11_undo 17 = .ok (.putfield 57, 3) := by decide +kernel
theorem dX11_undo_20 : decode cX11_undo 20 = .ok (.iconst 0, 1) := by decide +kernel
theorem dX11_undo_21 : decode cX11_undo 21 = .ok (.istore_n 1, 1) := by decide +kernel
theorem dX11_undo_22 : decode cX11_undo 22 = .ok (.iload_n 1, 1) := by decide +kernel
theorem dX11_undo_23 : decode cX11_undo 23 = .ok (.bipush 61, 2) := by decide +kernel
theorem dX11_undo_25 : decode cX11_undo 25 = .ok (.if_icmp .ge 29, 3) := by decide +kernel
theorem dX11_undo_28 : decode cX11_undo 28 = .ok (.aload_n 0, 1) := by decide +kernel
theorem dX11_undo_29 : decode cX11_undo 29 = .ok (.getfield 7, 3) := by decide +kernel
theorem dX11_undo_32 : decode cX11_undo 32 = .ok (.iload_n 1, 1) := by decide +kernel
theorem dX11_undo_33 : decode cX11_undo 33 = .ok (.aload_n 0, 1) := by decide +kernel
theorem dX11_undo_34 : decode cX11_undo 34 = .ok (.getfield 13, 3) := by decide +kernel
theorem dX11_undo_37 : decode cX11_undo 37 = .ok (.bipush 61, 2) := by decide +kernel
theorem dX11_undo_39 : decode cX11_undo 39 = .ok (.aload_n 0, 1) := by decide +kernel
theorem dX11_undo_40 : decode cX11_undo 40 = .ok (.getfield 57, 3) := by decide +kernel
theorem dX11_undo_43 : decode cX11_undo 43 = .ok (.imul, 1) := by decide +kernel
theorem dX11_undo_44 : decode cX11_undo 44 = .ok (.iload_n 1, 1) := by decide +kernel
theorem dX11_undo_45 : decode cX11_undo 45 = .ok (.iadd, 1) := by decide +kernel
theorem dX11_undo_46 : decode cX11_undo 46 = .ok (.iaload, 1) := by decide +kernel
theorem dX11_undo_47 : decode cX11_undo 47 = .ok (.iastore, 1) := by decide +kernel
theorem dX11_undo_48 : decode cX11_undo 48 = .ok (.iinc 1 1, 3) := by decide +kernel
theorem dX11_undo_51 : decode cX11_undo 51 = .ok (.goto (-29), 3) := by decide +kernel
theorem dX11_undo_54 : decode cX11_undo 54 = .ok (.aload_n 0, 1) := by decide +kernel
theorem dX11_undo_55 : decode cX11_undo 55 = .ok (.getfield 57, 3) := by decide +kernel
theorem dX11_undo_58 : decode cX11_undo 58 = .ok (.ireturn, 1) := by decide +kernel
theorem dX11_type_0 : decode cX11_type 0 = .ok (.iload_n 1, 1) := by decide +kernel
theorem dX11_type_1 : decode cX11_type 1 = .ok (.bipush 32, 2) := by decide +kernel
theorem dX11_type_3 : decode cX11_type 3 = .ok (.bipush 126, 2) := by decide +kernel
theorem dX11_type_5 : decode cX11_type 5 = .ok (.invokestatic 48, 3) := by decide +kernel
theorem dX11_type_8 : decode cX11_type 8 = .ok (.ifCond .ne 6, 3) := by decide +kernel
theorem dX11_type_11 : decode cX11_type 11 = .ok (.ldc 56, 2) := by decide +kernel
theorem dX11_type_13 : decode cX11_type 13 = .ok (.ireturn, 1) := by decide +kernel
theorem dX11_type_14 : decode cX11_type 14 = .ok (.aload_n 0, 1) := by decide +kernel
theorem dX11_type_15 : decode cX11_type 15 = .ok (.getfield 158, 3) := by decide +kernel
theorem dX11_type_18 : decode cX11_type 18 = .ok (.bipush 60, 2) := by decide +kernel
theorem dX11_type_20 : decode cX11_type 20 = .ok (.if_icmp .ne 6, 3) := by decide +kernel
theorem dX11_type_23 : decode cX11_type 23 = .ok (.ldc 61, 2) := by decide +kernel
theorem dX11_type_25 : decode cX11_type 25 = .ok (.ireturn, 1) := by decide +kernel
theorem dX11_type_26 : decode cX11_type 26 = .ok (.aload_n 0, 1) := by decide +kernel
theorem dX11_type_27 : decode cX11_type 27 = .ok (.getfield 19, 3) := by decide +kernel
theorem dX11_type_30 : decode cX11_type 30 = .ok (.aload_n 0, 1) := by decide +kernel
theorem dX11_type_31 : decode cX11_type 31 = .ok (.getfield 158, 3) := by decide +kernel
theorem dX11_type_34 : decode cX11_type 34 = .ok (.iload_n 1, 1) := by decide +kernel
theorem dX11_type_35 : decode cX11_type 35 = .ok (.i2c, 1) := by decide +kernel
theorem dX11_type_36 : decode cX11_type 36 = .ok (.castore, 1) := by decide +kernel
theorem dX11_type_37 : decode cX11_type 37 = .ok (.aload_n 0, 1) := by decide +kernel
theorem dX11_type_38 : decode cX11_type 38 = .ok (.dup, 1) := by decide +kernel
theorem dX11_type_39 : decode cX11_type 39 = .ok (.getfield 158, 3) := by decide +kernel
theorem dX11_type_42 : decode cX11_type 42 = .ok (.iconst 1, 1) := by decide +kernel
theorem dX11_type_43 : decode cX11_type 43 = .ok (.iadd, 1) := by decide +kernel
theorem dX11_type_44 : decode cX11_type 44 = .ok (.putfield 158, 3) := by decide +kernel
theorem dX11_type_47 : decode cX11_type 47 = .ok (.aload_n 0, 1) := by decide +kernel
theorem dX11_type_48 : decode cX11_type 48 = .ok (.getfield 158, 3) := by decide +kernel
theorem dX11_type_51 : decode cX11_type 51 = .ok (.ireturn, 1) := by decide +kernel
theorem dX11_clearText_0 : decode cX11_clearText 0 = .ok (.aload_n 0, 1) := by decide +kernel
theorem dX11_clearText_1 : decode cX11_clearText 1 = .ok (.getfield 158, 3) := by decide +kernel
theorem dX11_clearText_4 : decode cX11_clearText 4 = .ok (.istore_n 1, 1) := by decide +kernel
theorem dX11_clearText_5 : decode cX11_clearText 5 = .ok (.aload_n 0, 1) := by decide +kernel
theorem dX11_clearText_6 : decode cX11_clearText 6 = .ok (.iconst 0, 1) := by decide +kernel
theorem dX11_clearText_7 : decode cX11_clearText 7 = .ok (.putfield 158, 3) := by decide +kernel
theorem dX11_clearText_10 : decode cX11_clearText 10 = .ok (.iload_n 1, 1) := by decide +kernel
theorem dX11_clearText_11 : decode cX11_clearText 11 = .ok (.ireturn, 1) := by decide +kernel
theorem dX11_sign_0 : decode cX11_sign 0 = .ok (.aload_n 0, 1) := by decide +kernel
theorem dX11_sign_1 : decode cX11_sign 1 = .ok (.getfield 161, 3) := by decide +kernel
theorem dX11_sign_4 : decode cX11_sign 4 = .ok (.aload_n 0, 1) := by decide +kernel
theorem dX11_sign_5 : decode cX11_sign 5 = .ok (.getfield 158, 3) := by decide +kernel
theorem dX11_sign_8 : decode cX11_sign 8 = .ok (.if_icmp .ge 15, 3) := by decide +kernel
theorem dX11_sign_11 : decode cX11_sign 11 = .ok (.aload_n 0, 1) := by decide +kernel
theorem dX11_sign_12 : decode cX11_sign 12 = .ok (.getfield 19, 3) := by decide +kernel
theorem dX11_sign_15 : decode cX11_sign 15 = .ok (.aload_n 0, 1) := by decide +kernel
theorem dX11_sign_16 : decode cX11_sign 16 = .ok (.getfield 161, 3) := by decide +kernel
theorem dX11_sign_19 : decode cX11_sign 19 = .ok (.caload, 1) := by decide +kernel
theorem dX11_sign_20 : decode cX11_sign 20 = .ok (.goto 4, 3) := by decide +kernel
theorem dX11_sign_23 : decode cX11_sign 23 = .ok (.iconst (-1), 1) := by decide +kernel
theorem dX11_sign_24 : decode cX11_sign 24 = .ok (.ireturn, 1) := by decide +kernel
theorem dX11_readsNumber_0 : decode cX11_readsNumber 0 = .ok (.aload_n 0, 1) := by decide +kernel
theorem dX11_readsNumber_1 : decode cX11_readsNumber 1 = .ok (.iconst 0, 1) := by decide +kernel
theorem dX11_readsNumber_2 : decode cX11_readsNumber 2 = .ok (.putfield 164, 3) := by decide +kernel
theorem dX11_readsNumber_5 : decode cX11_readsNumber 5 = .ok (.aload_n 0, 1) := by decide +kernel
theorem dX11_readsNumber_6 : decode cX11_readsNumber 6 = .ok (.getfield 161, 3) := by decide +kernel
theorem dX11_readsNumber_9 : decode cX11_readsNumber 9 = .ok (.istore_n 1, 1) := by decide +kernel
theorem dX11_readsNumber_10 : decode cX11_readsNumber 10 = .ok (.aload_n 0, 1) := by decide +kernel
theorem dX11_readsNumber_11 : decode cX11_readsNumber 11 = .ok (.invokevirtual 166, 3) := by decide +kernel
theorem dX11_readsNumber_14 : decode cX11_readsNumber 14 = .ok (.aload_n 0, 1) := by decide +kernel
theorem dX11_readsNumber_15 : decode cX11_readsNumber 15 = .ok (.getfield 161, 3) := by decide +kernel
theorem dX11_readsNumber_18 : decode cX11_readsNumber 18 = .ok (.iload_n 1, 1) := by decide +kernel
theorem dX11_readsNumber_19 : decode cX11_readsNumber 19 = .ok (.if_icmp .ne 8, 3) := by decide +kernel
theorem dX11_readsNumber_22 : decode cX11_readsNumber 22 = .ok (.bipush 49, 2) := by decide +kernel
theorem dX11_readsNumber_24 : decode cX11_readsNumber 24 = .ok (.goto 5, 3) := by decide +kernel
theorem dX11_readsNumber_27 : decode cX11_readsNumber 27 = .ok (.bipush 48, 2) := by decide +kernel
theorem dX11_readsNumber_29 : decode cX11_readsNumber 29 = .ok (.bipush 57, 2) := by decide +kernel
theorem dX11_readsNumber_31 : decode cX11_readsNumber 31 = .ok (.invokestatic 48, 3) := by decide +kernel
theorem dX11_readsNumber_34 : decode cX11_readsNumber 34 = .ok (.ifCond .eq 45, 3) := by decide +kernel
theorem dX11_readsNumber_37 : decode cX11_readsNumber 37 = .ok (.aload_n 0, 1) := by decide +kernel
theorem dX11_readsNumber_38 : decode cX11_readsNumber 38 = .ok (.getfield 161, 3) := by decide +kernel
theorem dX11_readsNumber_41 : decode cX11_readsNumber 41 = .ok (.iload_n 1, 1) := by decide +kernel
theorem dX11_readsNumber_42 : decode cX11_readsNumber 42 = .ok (.iconst 2, 1) := by decide +kernel
theorem dX11_readsNumber_43 : decode cX11_readsNumber 43 = .ok (.iadd, 1) := by decide +kernel
theorem dX11_readsNumber_44 : decode cX11_readsNumber 44 = .ok (.if_icmp .ge 35, 3) := by decide +kernel
theorem dX11_readsNumber_47 : decode cX11_readsNumber 47 = .ok (.aload_n 0, 1) := by decide +kernel
theorem dX11_readsNumber_48 : decode cX11_readsNumber 48 = .ok (.bipush 10, 2) := by decide +kernel
theorem dX11_readsNumber_50 : decode cX11_readsNumber 50 = .ok (.aload_n 0, 1) := by decide +kernel
theorem dX11_readsNumber_51 : decode cX11_readsNumber 51 = .ok (.getfield 164, 3) := by decide +kernel
theorem dX11_readsNumber_54 : decode cX11_readsNumber 54 = .ok (.imul, 1) := by decide +kernel
theorem dX11_readsNumber_55 : decode cX11_readsNumber 55 = .ok (.aload_n 0, 1) := by decide +kernel
theorem dX11_readsNumber_56 : decode cX11_readsNumber 56 = .ok (.invokevirtual 166, 3) := by decide +kernel
theorem dX11_readsNumber_59 : decode cX11_readsNumber 59 = .ok (.iadd, 1) := by decide +kernel
theorem dX11_readsNumber_60 : decode cX11_readsNumber 60 = .ok (.bipush 48, 2) := by decide +kernel
theorem dX11_readsNumber_62 : decode cX11_readsNumber 62 = .ok (.isub, 1) := by decide +kernel
theorem dX11_readsNumber_63 : decode cX11_readsNumber 63 = .ok (.putfield 164, 3) := by decide +kernel
theorem dX11_readsNumber_66 : decode cX11_readsNumber 66 = .ok (.aload_n 0, 1) := by decide +kernel
theorem dX11_readsNumber_67 : decode cX11_readsNumber 67 = .ok (.dup, 1) := by decide +kernel
theorem dX11_readsNumber_68 : decode cX11_readsNumber 68 = .ok (.getfield 161, 3) := by decide +kernel
theorem dX11_readsNumber_71 : decode cX11_readsNumber 71 = .ok (.iconst 1, 1) := by decide +kernel
theorem dX11_readsNumber_72 : decode cX11_readsNumber 72 = .ok (.iadd, 1) := by decide +kernel
theorem dX11_readsNumber_73 : decode cX11_readsNumber 73 = .ok (.putfield 161, 3) := by decide +kernel
theorem dX11_readsNumber_76 : decode cX11_readsNumber 76 = .ok (.goto (-66), 3) := by decide +kernel
theorem dX11_readsNumber_79 : decode cX11_readsNumber 79 = .ok (.aload_n 0, 1) := by decide +kernel
theorem dX11_readsNumber_80 : decode cX11_readsNumber 80 = .ok (.getfield 161, 3) := by decide +kernel
theorem dX11_readsNumber_83 : decode cX11_readsNumber 83 = .ok (.iload_n 1, 1) := by decide +kernel
theorem dX11_readsNumber_84 : decode cX11_readsNumber 84 = .ok (.if_icmp .le 7, 3) := by decide +kernel
theorem dX11_readsNumber_87 : decode cX11_readsNumber 87 = .ok (.iconst 1, 1) := by decide +kernel
theorem dX11_readsNumber_88 : decode cX11_readsNumber 88 = .ok (.goto 4, 3) := by decide +kernel
theorem dX11_readsNumber_91 : decode cX11_readsNumber 91 = .ok (.iconst 0, 1) := by decide +kernel
theorem dX11_readsNumber_92 : decode cX11_readsNumber 92 = .ok (.ireturn, 1) := by decide +kernel
theorem dX11_readsLetters_0 : decode cX11_readsLetters 0 = .ok (.aload_n 0, 1) := by decide +kernel
theorem dX11_readsLetters_1 : decode cX11_readsLetters 1 = .ok (.getfield 161, 3) := by decide +kernel
theorem dX11_readsLetters_4 : decode cX11_readsLetters 4 = .ok (.istore_n 1, 1) := by decide +kernel
theorem dX11_readsLetters_5 : decode cX11_readsLetters 5 = .ok (.aload_n 0, 1) := by decide +kernel
theorem dX11_readsLetters_6 : decode cX11_readsLetters 6 = .ok (.invokevirtual 166, 3) := by decide +kernel
theorem dX11_readsLetters_9 : decode cX11_readsLetters 9 = .ok (.bipush 97, 2) := by decide +kernel
theorem dX11_readsLetters_11 : decode cX11_readsLetters 11 = .ok (.bipush 104, 2) := by decide +kernel
theorem dX11_readsLetters_13 : decode cX11_readsLetters 13 = .ok (.invokestatic 48, 3) := by decide +kernel
theorem dX11_readsLetters_16 : decode cX11_readsLetters 16 = .ok (.ifCond .eq 16, 3) := by decide +kernel
theorem dX11_readsLetters_19 : decode cX11_readsLetters 19 = .ok (.aload_n 0, 1) := by decide +kernel
theorem dX11_readsLetters_20 : decode cX11_readsLetters 20 = .ok (.dup, 1) := by decide +kernel
theorem dX11_readsLetters_21 : decode cX11_readsLetters 21 = .ok (.getfield 161, 3) := by decide +kernel
theorem dX11_readsLetters_24 : decode cX11_readsLetters 24 = .ok (.iconst 1, 1) := by decide +kernel
theorem dX11_readsLetters_25 : decode cX11_readsLetters 25 = .ok (.iadd, 1) := by decide +kernel
theorem dX11_readsLetters_26 : decode cX11_readsLetters 26 = .ok (.putfield 161, 3) := by decide +kernel
theorem dX11_readsLetters_29 : decode cX11_readsLetters 29 = .ok (.goto (-24), 3) := by decide +kernel
theorem dX11_readsLetters_32 : decode cX11_readsLetters 32 = .ok (.aload_n 0, 1) := by decide +kernel
theorem dX11_readsLetters_33 : decode cX11_readsLetters 33 = .ok (.aload_n 0, 1) := by decide +kernel
theorem dX11_readsLetters_34 : decode cX11_readsLetters 34 = .ok (.getfield 161, 3) := by decide +kernel
theorem dX11_readsLetters_37 : decode cX11_readsLetters 37 = .ok (.iload_n 1, 1) := by decide +kernel
theorem dX11_readsLetters_38 : decode cX11_readsLetters 38 = .ok (.isub, 1) := by decide +kernel
theorem dX11_readsLetters_39 : decode cX11_readsLetters 39 = .ok (.putfield 164, 3) := by decide +kernel
theorem dX11_readsLetters_42 : decode cX11_readsLetters 42 = .ok (.aload_n 0, 1) := by decide +kernel
theorem dX11_readsLetters_43 : decode cX11_readsLetters 43 = .ok (.getfield 164, 3) := by decide +kernel
theorem dX11_readsLetters_46 : decode cX11_readsLetters 46 = .ok (.ifCond .le 7, 3) := by decide +kernel
theorem dX11_readsLetters_49 : decode cX11_readsLetters 49 = .ok (.iconst 1, 1) := by decide +kernel
theorem dX11_readsLetters_50 : decode cX11_readsLetters 50 = .ok (.goto 4, 3) := by decide +kernel
theorem dX11_readsLetters_53 : decode cX11_readsLetters 53 = .ok (.iconst 0, 1) := by decide +kernel
theorem dX11_readsLetters_54 : decode cX11_readsLetters 54 = .ok (.ireturn, 1) := by decide +kernel
theorem dX11_doesNext_0 : decode cX11_doesNext 0 = .ok (.aload_n 0, 1) := by decide +kernel
theorem dX11_doesNext_1 : decode cX11_doesNext 1 = .ok (.getfield 161, 3) := by decide +kernel
theorem dX11_doesNext_4 : decode cX11_doesNext 4 = .ok (.istore_n 1, 1) := by decide +kernel
theorem dX11_doesNext_5 : decode cX11_doesNext 5 = .ok (.aload_n 0, 1) := by decide +kernel
theorem dX11_doesNext_6 : decode cX11_doesNext 6 = .ok (.invokevirtual 166, 3) := by decide +kernel
theorem dX11_doesNext_9 : decode cX11_doesNext 9 = .ok (.istore_n 2, 1) := by decide +kernel
theorem dX11_doesNext_10 : decode cX11_doesNext 10 = .ok (.iload_n 2, 1) := by decide +kernel
theorem dX11_doesNext_11 : decode cX11_doesNext 11 = .ok (.bipush 61, 2) := by decide +kernel
theorem dX11_doesNext_13 : decode cX11_doesNext 13 = .ok (.if_icmp .eq 15, 3) := by decide +kernel
theorem dX11_doesNext_16 : decode cX11_doesNext 16 = .ok (.iload_n 2, 1) := by decide +kernel
theorem dX11_doesNext_17 : decode cX11_doesNext 17 = .ok (.bipush 45, 2) := by decide +kernel
theorem dX11_doesNext_19 : decode cX11_doesNext 19 = .ok (.if_icmp .eq 9, 3) := by decide +kernel
theorem dX11_doesNext_22 : decode cX11_doesNext 22 = .ok (.iload_n 2, 1) := by decide +kernel
theorem dX11_doesNext_23 : decode cX11_doesNext 23 = .ok (.bipush 43, 2) := by decide +kernel
theorem dX11_doesNext_25 : decode cX11_doesNext 25 = .ok (.if_icmp .ne 7, 3) := by decide +kernel
theorem dX11_doesNext_28 : decode cX11_doesNext 28 = .ok (.iconst 1, 1) := by decide +kernel
theorem dX11_doesNext_29 : decode cX11_doesNext 29 = .ok (.goto 4, 3) := by decide +kernel
theorem dX11_doesNext_32 : decode cX11_doesNext 32 = .ok (.iconst 0, 1) := by decide +kernel
theorem dX11_doesNext_33 : decode cX11_doesNext 33 = .ok (.istore_n 3, 1) := by decide +kernel
theorem dX11_doesNext_34 : decode cX11_doesNext 34 = .ok (.aload_n 0, 1) := by decide +kernel
theorem dX11_doesNext_35 : decode cX11_doesNext 35 = .ok (.dup, 1) := by decide +kernel
theorem dX11_doesNext_36 : decode cX11_doesNext 36 = .ok (.getfield 161, 3) := by decide +kernel
theorem dX11_doesNext_39 : decode cX11_doesNext 39 = .ok (.iload_n 3, 1) := by decide +kernel
theorem dX11_doesNext_40 : decode cX11_doesNext 40 = .ok (.ifCond .eq 7, 3) := by decide +kernel
theorem dX11_doesNext_43 : decode cX11_doesNext 43 = .ok (.iconst 1, 1) := by decide +kernel
theorem dX11_doesNext_44 : decode cX11_doesNext 44 = .ok (.goto 4, 3) := by decide +kernel
theorem dX11_doesNext_47 : decode cX11_doesNext 47 = .ok (.iconst 0, 1) := by decide +kernel
theorem dX11_doesNext_48 : decode cX11_doesNext 48 = .ok (.iadd, 1) := by decide +kernel
theorem dX11_doesNext_49 : decode cX11_doesNext 49 = .ok (.putfield 161, 3) := by decide +kernel
theorem dX11_doesNext_52 : decode cX11_doesNext 52 = .ok (.aload_n 0, 1) := by decide +kernel
theorem dX11_doesNext_53 : decode cX11_doesNext 53 = .ok (.getfield 161, 3) := by decide +kernel
theorem dX11_doesNext_56 : decode cX11_doesNext 56 = .ok (.istore 4, 2) := by decide +kernel
theorem dX11_doesNext_58 : decode cX11_doesNext 58 = .ok (.iload_n 3, 1) := by decide +kernel
theorem dX11_doesNext_59 : decode cX11_doesNext 59 = .ok (.ifCond .eq 30, 3) := by decide +kernel
theorem dX11_doesNext_62 : decode cX11_doesNext 62 = .ok (.iload_n 2, 1) := by decide +kernel
theorem dX11_doesNext_63 : decode cX11_doesNext 63 = .ok (.bipush 43, 2) := by decide +kernel
theorem dX11_doesNext_65 : decode cX11_doesNext 65 = .ok (.if_icmp .ne 13, 3) := by decide +kernel
theorem dX11_doesNext_68 : decode cX11_doesNext 68 = .ok (.aload_n 0, 1) := by decide +kernel
theorem dX11_doesNext_69 : decode cX11_doesNext 69 = .ok (.invokevirtual 169, 3) := by decide +kernel
theorem dX11_doesNext_72 : decode cX11_doesNext 72 = .ok (.ifCond .eq 17, 3) := by decide +kernel
theorem dX11_doesNext_75 : decode cX11_doesNext 75 = .ok (.goto 10, 3) := by decide +kernel
theorem dX11_doesNext_78 : decode cX11_doesNext 78 = .ok (.aload_n 0, 1) := by decide +kernel
theorem dX11_doesNext_79 : decode cX11_doesNext 79 = .ok (.invokevirtual 172, 3) := by decide +kernel
theorem dX11_doesNext_82 : decode cX11_doesNext 82 = .ok (.ifCond .eq 7, 3) := by decide +kernel
theorem dX11_doesNext_85 : decode cX11_doesNext 85 = .ok (.iconst 1, 1) := by decide +kernel
theorem dX11_doesNext_86 : decode cX11_doesNext 86 = .ok (.goto 4, 3) := by decide +kernel
theorem dX11_doesNext_89 : decode cX11_doesNext 89 = .ok (.iconst 0, 1) := by decide +kernel
theorem dX11_doesNext_90 : decode cX11_doesNext 90 = .ok (.istore_n 3, 1) := by decide +kernel
theorem dX11_doesNext_91 : decode cX11_doesNext 91 = .ok (.iload_n 3, 1) := by decide +kernel
theorem dX11_doesNext_92 : decode cX11_doesNext 92 = .ok (.ifCond .eq 12, 3) := by decide +kernel
theorem dX11_doesNext_95 : decode cX11_doesNext 95 = .ok (.aload_n 0, 1) := by decide +kernel
theorem dX11_doesNext_96 : decode cX11_doesNext 96 = .ok (.invokevirtual 166, 3) := by decide +kernel
theorem dX11_doesNext_99 : decode cX11_doesNext 99 = .ok (.bipush 59, 2) := by decide +kernel
theorem dX11_doesNext_101 : decode cX11_doesNext 101 = .ok (.if_icmp .eq 15, 3) := by decide +kernel
theorem dX11_doesNext_104 : decode cX11_doesNext 104 = .ok (.aload_n 0, 1) := by decide +kernel
theorem dX11_doesNext_105 : decode cX11_doesNext 105 = .ok (.aload_n 0, 1) := by decide +kernel
theorem dX11_doesNext_106 : decode cX11_doesNext 106 = .ok (.getfield 161, 3) := by decide +kernel
theorem dX11_doesNext_109 : decode cX11_doesNext 109 = .ok (.iload_n 1, 1) := by decide +kernel
theorem dX11_doesNext_110 : decode cX11_doesNext 110 = .ok (.isub, 1) := by decide +kernel
theorem dX11_doesNext_111 : decode cX11_doesNext 111 = .ok (.putfield 175, 3) := by decide +kernel
theorem dX11_doesNext_114 : decode cX11_doesNext 114 = .ok (.iconst 1, 1) := by decide +kernel
theorem dX11_doesNext_115 : decode cX11_doesNext 115 = .ok (.ireturn, 1) := by decide +kernel
theorem dX11_doesNext_116 : decode cX11_doesNext 116 = .ok (.aload_n 0, 1) := by decide +kernel
theorem dX11_doesNext_117 : decode cX11_doesNext 117 = .ok (.dup, 1) := by decide +kernel
theorem dX11_doesNext_118 : decode cX11_doesNext 118 = .ok (.getfield 161, 3) := by decide +kernel
theorem dX11_doesNext_121 : decode cX11_doesNext 121 = .ok (.iconst 1, 1) := by decide +kernel
theorem dX11_doesNext_122 : decode cX11_doesNext 122 = .ok (.iadd, 1) := by decide +kernel
theorem dX11_doesNext_123 : decode cX11_doesNext 123 = .ok (.putfield 161, 3) := by decide +kernel
theorem dX11_doesNext_126 : decode cX11_doesNext 126 = .ok (.aload_n 0, 1) := by decide +kernel
theorem dX11_doesNext_127 : decode cX11_doesNext 127 = .ok (.ldc 70, 2) := by decide +kernel
theorem dX11_doesNext_129 : decode cX11_doesNext 129 = .ok (.putfield 175, 3) := by decide +kernel
theorem dX11_doesNext_132 : decode cX11_doesNext 132 = .ok (.iload_n 2, 1) := by decide +kernel
theorem dX11_doesNext_133 : decode cX11_doesNext 133 = .ok (.bipush 43, 2) := by decide +kernel
theorem dX11_doesNext_135 : decode cX11_doesNext 135 = .ok (.if_icmp .eq 23, 3) := by decide +kernel
theorem dX11_doesNext_138 : decode cX11_doesNext 138 = .ok (.aload_n 0, 1) := by decide +kernel
theorem dX11_doesNext_139 : decode cX11_doesNext 139 = .ok (.getfield 164, 3) := by decide +kernel
theorem dX11_doesNext_142 : decode cX11_doesNext 142 = .ok (.aload_n 0, 1) := by decide +kernel
theorem dX11_doesNext_143 : decode cX11_doesNext 143 = .ok (.getfield 7, 3) := by decide +kernel
theorem dX11_doesNext_146 : decode cX11_doesNext 146 = .ok (.iconst 0, 1) := by decide +kernel
theorem dX11_doesNext_147 : decode cX11_doesNext 147 = .ok (.iaload, 1) := by decide +kernel
theorem dX11_doesNext_148 : decode cX11_doesNext 148 = .ok (.aload_n 0, 1) := by decide +kernel
theorem dX11_doesNext_149 : decode cX11_doesNext 149 = .ok (.getfield 178, 3) := by decide +kernel
theorem dX11_doesNext_152 : decode cX11_doesNext 152 = .ok (.isub, 1) := by decide +kernel
theorem dX11_doesNext_153 : decode cX11_doesNext 153 = .ok (.if_icmp .le 5, 3) := by decide +kernel
theorem dX11_doesNext_156 : decode cX11_doesNext 156 = .ok (.iconst 2, 1) := by decide +kernel
theorem dX11_doesNext_157 : decode cX11_doesNext 157 = .ok (.ireturn, 1) := by decide +kernel
theorem dX11_doesNext_158 : decode cX11_doesNext 158 = .ok (.iload_n 2, 1) := by decide +kernel
theorem dX11_doesNext_159 : decode cX11_doesNext 159 = .ok (.bipush 45, 2) := by decide +kernel
theorem dX11_doesNext_161 : decode cX11_doesNext 161 = .ok (.if_icmp .eq 19, 3) := by decide +kernel
theorem dX11_doesNext_164 : decode cX11_doesNext 164 = .ok (.aload_n 0, 1) := by decide +kernel
theorem dX11_doesNext_165 : decode cX11_doesNext 165 = .ok (.getfield 181, 3) := by decide +kernel
theorem dX11_doesNext_168 : decode cX11_doesNext 168 = .ok (.aload_n 0, 1) := by decide +kernel
theorem dX11_doesNext_169 : decode cX11_doesNext 169 = .ok (.getfield 164, 3) := by decide +kernel
theorem dX11_doesNext_172 : decode cX11_doesNext 172 = .ok (.iadd, 1) := by decide +kernel
theorem dX11_doesNext_173 : decode cX11_doesNext 173 = .ok (.bipush 28, 2) := by decide +kernel
theorem dX11_doesNext_175 : decode cX11_doesNext 175 = .ok (.if_icmp .le 5, 3) := by decide +kernel
theorem dX11_doesNext_178 : decode cX11_doesNext 178 = .ok (.iconst 3, 1) := by decide +kernel
theorem dX11_doesNext_179 : decode cX11_doesNext 179 = .ok (.ireturn, 1) := by decide +kernel
theorem dX11_doesNext_180 : decode cX11_doesNext 180 = .ok (.iconst 0, 1) := by decide +kernel
theorem dX11_doesNext_181 : decode cX11_doesNext 181 = .ok (.istore 5, 2) := by decide +kernel
theorem dX11_doesNext_183 : decode cX11_doesNext 183 = .ok (.iload 5, 2) := by decide +kernel
theorem dX11_doesNext_185 : decode cX11_doesNext 185 = .ok (.aload_n 0, 1) := by decide +kernel
theorem dX11_doesNext_186 : decode cX11_doesNext 186 = .ok (.getfield 164, 3) := by decide +kernel
theorem dX11_doesNext_189 : decode cX11_doesNext 189 = .ok (.if_icmp .ge 68, 3) := by decide +kernel
theorem dX11_doesNext_192 : decode cX11_doesNext 192 = .ok (.iload_n 2, 1) := by decide +kernel
theorem dX11_doesNext_193 : decode cX11_doesNext 193 = .ok (.bipush 45, 2) := by decide +kernel
theorem dX11_doesNext_195 : decode cX11_doesNext 195 = .ok (.if_icmp .eq 62, 3) := by decide +kernel
theorem dX11_doesNext_198 : decode cX11_doesNext 198 = .ok (.aload_n 0, 1) := by decide +kernel
theorem dX11_doesNext_199 : decode cX11_doesNext 199 = .ok (.getfield 45, 3) := by decide +kernel
theorem dX11_doesNext_202 : decode cX11_doesNext 202 = .ok (.aload_n 0, 1) := by decide +kernel
theorem dX11_doesNext_203 : decode cX11_doesNext 203 = .ok (.getfield 181, 3) := by decide +kernel
theorem dX11_doesNext_206 : decode cX11_doesNext 206 = .ok (.iload_n 2, 1) := by decide +kernel
theorem dX11_doesNext_207 : decode cX11_doesNext 207 = .ok (.bipush 43, 2) := by decide +kernel
theorem dX11_doesNext_209 : decode cX11_doesNext 209 = .ok (.if_icmp .ne 19, 3) := by decide +kernel
theorem dX11_doesNext_212 : decode cX11_doesNext 212 = .ok (.aload_n 0, 1) := by decide +kernel
theorem dX11_doesNext_213 : decode cX11_doesNext 213 = .ok (.getfield 19, 3) := by decide +kernel
theorem dX11_doesNext_216 : decode cX11_doesNext 216 = .ok (.iload 4, 2) := by decide +kernel
theorem dX11_doesNext_218 : decode cX11_doesNext 218 = .ok (.iload 5, 2) := by decide +kernel
theorem dX11_doesNext_220 : decode cX11_doesNext 220 = .ok (.iadd, 1) := by decide +kernel
theorem dX11_doesNext_221 : decode cX11_doesNext 221 = .ok (.caload, 1) := by decide +kernel
theorem dX11_doesNext_222 : decode cX11_doesNext 222 = .ok (.bipush 97, 2) := by decide +kernel
theorem dX11_doesNext_224 : decode cX11_doesNext 224 = .ok (.isub, 1) := by decide +kernel
theorem dX11_doesNext_225 : decode cX11_doesNext 225 = .ok (.goto 15, 3) := by decide +kernel
theorem dX11_doesNext_228 : decode cX11_doesNext 228 = .ok (.aload_n 0, 1) := by decide +kernel
theorem dX11_doesNext_229 : decode cX11_doesNext 229 = .ok (.iconst 0, 1) := by decide +kernel
theorem dX11_doesNext_230 : decode cX11_doesNext 230 = .ok (.aload_n 0, 1) := by decide +kernel
theorem dX11_doesNext_231 : decode cX11_doesNext 231 = .ok (.getfield 178, 3) := by decide +kernel
theorem dX11_doesNext_234 : decode cX11_doesNext 234 = .ok (.iload 5, 2) := by decide +kernel
theorem dX11_doesNext_236 : decode cX11_doesNext 236 = .ok (.iadd, 1) := by decide +kernel
theorem dX11_doesNext_237 : decode cX11_doesNext 237 = .ok (.invokevirtual 52, 3) := by decide +kernel
theorem dX11_doesNext_240 : decode cX11_doesNext 240 = .ok (.iastore, 1) := by decide +kernel
theorem dX11_doesNext_241 : decode cX11_doesNext 241 = .ok (.aload_n 0, 1) := by decide +kernel
theorem dX11_doesNext_242 : decode cX11_doesNext 242 = .ok (.dup, 1) := by decide +kernel
theorem dX11_doesNext_243 : decode cX11_doesNext 243 = .ok (.getfield 181, 3) := by decide +kernel
theorem dX11_doesNext_246 : decode cX11_doesNext 246 = .ok (.iconst 1, 1) := by decide +kernel
theorem dX11_doesNext_247 : decode cX11_doesNext 247 = .ok (.iadd, 1) := by decide +kernel
theorem dX11_doesNext_248 : decode cX11_doesNext 248 = .ok (.putfield 181, 3) := by decide +kernel
theorem dX11_doesNext_251 : decode cX11_doesNext 251 = .ok (.iinc 5 1, 3) := by decide +kernel
theorem dX11_doesNext_254 : decode cX11_doesNext 254 = .ok (.goto (-71), 3) := by decide +kernel
theorem dX11_doesNext_257 : decode cX11_doesNext 257 = .ok (.aload_n 0, 1) := by decide +kernel
theorem dX11_doesNext_258 : decode cX11_doesNext 258 = .ok (.dup, 1) := by decide +kernel
theorem dX11_doesNext_259 : decode cX11_doesNext 259 = .ok (.getfield 178, 3) := by decide +kernel
theorem dX11_doesNext_262 : decode cX11_doesNext 262 = .ok (.iload_n 2, 1) := by decide +kernel
theorem dX11_doesNext_263 : decode cX11_doesNext 263 = .ok (.bipush 43, 2) := by decide +kernel
theorem dX11_doesNext_265 : decode cX11_doesNext 265 = .ok (.if_icmp .ne 7, 3) := by decide +kernel
theorem dX11_doesNext_268 : decode cX11_doesNext 268 = .ok (.iconst 0, 1) := by decide +kernel
theorem dX11_doesNext_269 : decode cX11_doesNext 269 = .ok (.goto 7, 3) := by decide +kernel
theorem dX11_doesNext_272 : decode cX11_doesNext 272 = .ok (.aload_n 0, 1) := by decide +kernel
theorem dX11_doesNext_273 : decode cX11_doesNext 273 = .ok (.getfield 164, 3) := by decide +kernel
theorem dX11_doesNext_276 : decode cX11_doesNext 276 = .ok (.iadd, 1) := by decide +kernel
theorem dX11_doesNext_277 : decode cX11_doesNext 277 = .ok (.putfield 178, 3) := by decide +kernel
theorem dX11_doesNext_280 : decode cX11_doesNext 280 = .ok (.iconst 0, 1) := by decide +kernel
theorem dX11_doesNext_281 : decode cX11_doesNext 281 = .ok (.ireturn, 1) := by decide +kernel
theorem dX11_faulty_0 : decode cX11_faulty 0 = .ok (.aload_n 0, 1) := by decide +kernel
theorem dX11_faulty_1 : decode cX11_faulty 1 = .ok (.iconst 0, 1) := by decide +kernel
theorem dX11_faulty_2 : decode cX11_faulty 2 = .ok (.putfield 161, 3) := by decide +kernel
theorem dX11_faulty_5 : decode cX11_faulty 5 = .ok (.aload_n 0, 1) := by decide +kernel
theorem dX11_faulty_6 : decode cX11_faulty 6 = .ok (.iconst 0, 1) := by decide +kernel
theorem dX11_faulty_7 : decode cX11_faulty 7 = .ok (.putfield 181, 3) := by decide +kernel
theorem dX11_faulty_10 : decode cX11_faulty 10 = .ok (.aload_n 0, 1) := by decide +kernel
theorem dX11_faulty_11 : decode cX11_faulty 11 = .ok (.iconst 0, 1) := by decide +kernel
theorem dX11_faulty_12 : decode cX11_faulty 12 = .ok (.putfield 178, 3) := by decide +kernel
theorem dX11_faulty_15 : decode cX11_faulty 15 = .ok (.aload_n 0, 1) := by decide +kernel
theorem dX11_faulty_16 : decode cX11_faulty 16 = .ok (.getfield 161, 3) := by decide +kernel
theorem dX11_faulty_19 : decode cX11_faulty 19 = .ok (.aload_n 0, 1) := by decide +kernel
theorem dX11_faulty_20 : decode cX11_faulty 20 = .ok (.getfield 158, 3) := by decide +kernel
theorem dX11_faulty_23 : decode cX11_faulty 23 = .ok (.if_icmp .ge 28, 3) := by decide +kernel
theorem dX11_faulty_26 : decode cX11_faulty 26 = .ok (.aload_n 0, 1) := by decide +kernel
theorem dX11_faulty_27 : decode cX11_faulty 27 = .ok (.getfield 161, 3) := by decide +kernel
theorem dX11_faulty_30 : decode cX11_faulty 30 = .ok (.istore_n 1, 1) := by decide +kernel
theorem dX11_faulty_31 : decode cX11_faulty 31 = .ok (.aload_n 0, 1) := by decide +kernel
theorem dX11_faulty_32 : decode cX11_faulty 32 = .ok (.aload_n 0, 1) := by decide +kernel
theorem dX11_faulty_33 : decode cX11_faulty 33 = .ok (.invokevirtual 184, 3) := by decide +kernel
theorem dX11_faulty_36 : decode cX11_faulty 36 = .ok (.putfield 187, 3) := by decide +kernel
theorem dX11_faulty_39 : decode cX11_faulty 39 = .ok (.aload_n 0, 1) := by decide +kernel
theorem dX11_faulty_40 : decode cX11_faulty 40 = .ok (.getfield 187, 3) := by decide +kernel
theorem dX11_faulty_43 : decode cX11_faulty 43 = .ok (.ifCond .le 5, 3) := by decide +kernel
theorem dX11_faulty_46 : decode cX11_faulty 46 = .ok (.iload_n 1, 1) := by decide +kernel
theorem dX11_faulty_47 : decode cX11_faulty 47 = .ok (.ireturn, 1) := by decide +kernel
theorem dX11_faulty_48 : decode cX11_faulty 48 = .ok (.goto (-33), 3) := by decide +kernel
theorem dX11_faulty_51 : decode cX11_faulty 51 = .ok (.aload_n 0, 1) := by decide +kernel
theorem dX11_faulty_52 : decode cX11_faulty 52 = .ok (.getfield 178, 3) := by decide +kernel
theorem dX11_faulty_55 : decode cX11_faulty 55 = .ok (.aload_n 0, 1) := by decide +kernel
theorem dX11_faulty_56 : decode cX11_faulty 56 = .ok (.getfield 7, 3) := by decide +kernel
theorem dX11_faulty_59 : decode cX11_faulty 59 = .ok (.iconst 0, 1) := by decide +kernel
theorem dX11_faulty_60 : decode cX11_faulty 60 = .ok (.iaload, 1) := by decide +kernel
theorem dX11_faulty_61 : decode cX11_faulty 61 = .ok (.if_icmp .ge 28, 3) := by decide +kernel
theorem dX11_faulty_64 : decode cX11_faulty 64 = .ok (.aload_n 0, 1) := by decide +kernel
theorem dX11_faulty_65 : decode cX11_faulty 65 = .ok (.iconst 4, 1) := by decide +kernel
theorem dX11_faulty_66 : decode cX11_faulty 66 = .ok (.putfield 187, 3) := by decide +kernel
theorem dX11_faulty_69 : decode cX11_faulty 69 = .ok (.aload_n 0, 1) := by decide +kernel
theorem dX11_faulty_70 : decode cX11_faulty 70 = .ok (.aload_n 0, 1) := by decide +kernel
theorem dX11_faulty_71 : decode cX11_faulty 71 = .ok (.getfield 7, 3) := by decide +kernel
theorem dX11_faulty_74 : decode cX11_faulty 74 = .ok (.iconst 0, 1) := by decide +kernel
theorem dX11_faulty_75 : decode cX11_faulty 75 = .ok (.iaload, 1) := by decide +kernel
theorem dX11_faulty_76 : decode cX11_faulty 76 = .ok (.aload_n 0, 1) := by decide +kernel
theorem dX11_faulty_77 : decode cX11_faulty 77 = .ok (.getfield 178, 3) := by decide +kernel
theorem dX11_faulty_80 : decode cX11_faulty 80 = .ok (.isub, 1) := by decide +kernel
theorem dX11_faulty_81 : decode cX11_faulty 81 = .ok (.putfield 175, 3) := by decide +kernel
theorem dX11_faulty_84 : decode cX11_faulty 84 = .ok (.aload_n 0, 1) := by decide +kernel
theorem dX11_faulty_85 : decode cX11_faulty 85 = .ok (.getfield 158, 3) := by decide +kernel
theorem dX11_faulty_88 : decode cX11_faulty 88 = .ok (.ireturn, 1) := by decide +kernel
theorem dX11_faulty_89 : decode cX11_faulty 89 = .ok (.ldc 70, 2) := by decide +kernel
theorem dX11_faulty_91 : decode cX11_faulty 91 = .ok (.ireturn, 1) := by decide +kernel
theorem dX11_fault_0 : decode cX11_fault 0 = .ok (.iload_n 1, 1) := by decide +kernel
theorem dX11_fault_1 : decode cX11_fault 1 = .ok (.iconst 0, 1) := by decide +kernel
theorem dX11_fault_2 : decode cX11_fault 2 = .ok (.iconst 2, 1) := by decide +kernel
theorem dX11_fault_3 : decode cX11_fault 3 = .ok (.invokestatic 48, 3) := by decide +kernel
theorem dX11_fault_6 : decode cX11_fault 6 = .ok (.ifCond .ne 6, 3) := by decide +kernel
theorem dX11_fault_9 : decode cX11_fault 9 = .ok (.ldc 56, 2) := by decide +kernel
theorem dX11_fault_11 : decode cX11_fault 11 = .ok (.ireturn, 1) := by decide +kernel
theorem dX11_fault_12 : decode cX11_fault 12 = .ok (.aload_n 0, 1) := by decide +kernel
theorem dX11_fault_13 : decode cX11_fault 13 = .ok (.invokevirtual 190, 3) := by decide +kernel
theorem dX11_fault_16 : decode cX11_fault 16 = .ok (.istore_n 2, 1) := by decide +kernel
theorem dX11_fault_17 : decode cX11_fault 17 = .ok (.iload_n 2, 1) := by decide +kernel
theorem dX11_fault_18 : decode cX11_fault 18 = .ok (.ldc 70, 2) := by decide +kernel
theorem dX11_fault_20 : decode cX11_fault 20 = .ok (.if_icmp .eq 7, 3) := by decide +kernel
theorem dX11_fault_23 : decode cX11_fault 23 = .ok (.iload_n 1, 1) := by decide +kernel
theorem dX11_fault_24 : decode cX11_fault 24 = .ok (.ifCond .ne 7, 3) := by decide +kernel
theorem dX11_fault_27 : decode cX11_fault 27 = .ok (.iload_n 2, 1) := by decide +kernel
theorem dX11_fault_28 : decode cX11_fault 28 = .ok (.goto 19, 3) := by decide +kernel
theorem dX11_fault_31 : decode cX11_fault 31 = .ok (.iload_n 1, 1) := by decide +kernel
theorem dX11_fault_32 : decode cX11_fault 32 = .ok (.iconst 1, 1) := by decide +kernel
theorem dX11_fault_33 : decode cX11_fault 33 = .ok (.if_icmp .ne 10, 3) := by decide +kernel
theorem dX11_fault_36 : decode cX11_fault 36 = .ok (.aload_n 0, 1) := by decide +kernel
theorem dX11_fault_37 : decode cX11_fault 37 = .ok (.getfield 187, 3) := by decide +kernel
theorem dX11_fault_40 : decode cX11_fault 40 = .ok (.goto 7, 3) := by decide +kernel
theorem dX11_fault_43 : decode cX11_fault 43 = .ok (.aload_n 0, 1) := by decide +kernel
theorem dX11_fault_44 : decode cX11_fault 44 = .ok (.getfield 175, 3) := by decide +kernel
theorem dX11_fault_47 : decode cX11_fault 47 = .ok (.ireturn, 1) := by decide +kernel
theorem dX11_apply_0 : decode cX11_apply 0 = .ok (.aload_n 0, 1) := by decide +kernel
theorem dX11_apply_1 : decode cX11_apply 1 = .ok (.invokevirtual 190, 3) := by decide +kernel
theorem dX11_apply_4 : decode cX11_apply 4 = .ok (.ldc 70, 2) := by decide +kernel
theorem dX11_apply_6 : decode cX11_apply 6 = .ok (.if_icmp .eq 6, 3) := by decide +kernel
theorem dX11_apply_9 : decode cX11_apply 9 = .ok (.ldc 69, 2) := by decide +kernel
theorem dX11_apply_11 : decode cX11_apply 11 = .ok (.ireturn, 1) := by decide +kernel
theorem dX11_apply_12 : decode cX11_apply 12 = .ok (.aload_n 0, 1) := by decide +kernel
theorem dX11_apply_13 : decode cX11_apply 13 = .ok (.invokevirtual 62, 3) := by decide +kernel
theorem dX11_apply_16 : decode cX11_apply 16 = .ok (.iconst 0, 1) := by decide +kernel
theorem dX11_apply_17 : decode cX11_apply 17 = .ok (.istore_n 1, 1) := by decide +kernel
theorem dX11_apply_18 : decode cX11_apply 18 = .ok (.iload_n 1, 1) := by decide +kernel
theorem dX11_apply_19 : decode cX11_apply 19 = .ok (.aload_n 0, 1) := by decide +kernel
theorem dX11_apply_20 : decode cX11_apply 20 = .ok (.getfield 181, 3) := by decide +kernel
theorem dX11_apply_23 : decode cX11_apply 23 = .ok (.if_icmp .ge 24, 3) := by decide +kernel
theorem dX11_apply_26 : decode cX11_apply 26 = .ok (.aload_n 0, 1) := by decide +kernel
theorem dX11_apply_27 : decode cX11_apply 27 = .ok (.getfield 7, 3) := by decide +kernel
theorem dX11_apply_30 : decode cX11_apply 30 = .ok (.bipush 33, 2) := by decide +kernel
theorem dX11_apply_32 : decode cX11_apply 32 = .ok (.iload_n 1, 1) := by decide +kernel
theorem dX11_apply_33 : decode cX11_apply 33 = .ok (.iadd, 1) := by decide +kernel
theorem dX11_apply_34 : decode cX11_apply 34 = .ok (.aload_n 0, 1) := by decide +kernel
theorem dX11_apply_35 : decode cX11_apply 35 = .ok (.getfield 45, 3) := by decide +kernel
theorem dX11_apply_38 : decode cX11_apply 38 = .ok (.iload_n 1, 1) := by decide +kernel
theorem dX11_apply_39 : decode cX11_apply 39 = .ok (.iaload, 1) := by decide +kernel
theorem dX11_apply_40 : decode cX11_apply 40 = .ok (.iastore, 1) := by decide +kernel
theorem dX11_apply_41 : decode cX11_apply 41 = .ok (.iinc 1 1, 3) := by decide +kernel
theorem dX11_apply_44 : decode cX11_apply 44 = .ok (.goto (-26), 3) := by decide +kernel
theorem dX11_apply_47 : decode cX11_apply 47 = .ok (.aload_n 0, 1) := by decide +kernel
theorem dX11_apply_48 : decode cX11_apply 48 = .ok (.getfield 7, 3) := by decide +kernel
theorem dX11_apply_51 : decode cX11_apply 51 = .ok (.iconst 1, 1) := by decide +kernel
theorem dX11_apply_52 : decode cX11_apply 52 = .ok (.aload_n 0, 1) := by decide +kernel
theorem dX11_apply_53 : decode cX11_apply 53 = .ok (.getfield 181, 3) := by decide +kernel
theorem dX11_apply_56 : decode cX11_apply 56 = .ok (.iastore, 1) := by decide +kernel
theorem dX11_apply_57 : decode cX11_apply 57 = .ok (.aload_n 0, 1) := by decide +kernel
theorem dX11_apply_58 : decode cX11_apply 58 = .ok (.aload_n 0, 1) := by decide +kernel
theorem dX11_apply_59 : decode cX11_apply 59 = .ok (.getfield 181, 3) := by decide +kernel
theorem dX11_apply_62 : decode cX11_apply 62 = .ok (.invokevirtual 65, 3) := by decide +kernel
theorem dX11_apply_65 : decode cX11_apply 65 = .ok (.ireturn, 1) := by decide +kernel
theorem dL_law_0 : decode cL_law 0 = .ok (.new 7, 3) := by decide +kernel
theorem dL_law_3 : decode cL_law 3 = .ok (.dup, 1) := by decide +kernel
theorem dL_law_4 : decode cL_law 4 = .ok (.invokespecial 9, 3) := by decide +kernel
theorem dL_law_7 : decode cL_law 7 = .ok (.astore_n 1, 1) := by decide +kernel
theorem dL_law_8 : decode cL_law 8 = .ok (.new 10, 3) := by decide +kernel
theorem dL_law_11 : decode cL_law 11 = .ok (.dup, 1) := by decide +kernel
theorem dL_law_12 : decode cL_law 12 = .ok (.invokespecial 12, 3) := by decide +kernel
theorem dL_law_15 : decode cL_law 15 = .ok (.astore_n 2, 1) := by decide +kernel
theorem dL_law_16 : decode cL_law 16 = .ok (.iconst 0, 1) := by decide +kernel
theorem dL_law_17 : decode cL_law 17 = .ok (.istore_n 3, 1) := by decide +kernel
theorem dL_law_18 : decode cL_law 18 = .ok (.iload_n 3, 1) := by decide +kernel
theorem dL_law_19 : decode cL_law 19 = .ok (.aload_n 0, 1) := by decide +kernel
theorem dL_law_20 : decode cL_law 20 = .ok (.arraylength, 1) := by decide +kernel
theorem dL_law_21 : decode cL_law 21 = .ok (.iconst 4, 1) := by decide +kernel
theorem dL_law_22 : decode cL_law 22 = .ok (.isub, 1) := by decide +kernel
theorem dL_law_23 : decode cL_law 23 = .ok (.if_icmp .gt 659, 3) := by decide +kernel
theorem dL_law_26 : decode cL_law 26 = .ok (.aload_n 0, 1) := by decide +kernel
theorem dL_law_27 : decode cL_law 27 = .ok (.iload_n 3, 1) := by decide +kernel
theorem dL_law_28 : decode cL_law 28 = .ok (.iaload, 1) := by decide +kernel
theorem dL_law_29 : decode cL_law 29 = .ok (.bipush 31, 2) := by decide +kernel
theorem dL_law_31 : decode cL_law 31 = .ok (.iand, 1) := by decide +kernel
theorem dL_law_32 : decode cL_law 32 = .ok (.tableswitch 644 0 20 #[100, 133, 176, 219, 232, 265, 298, 331, 364, 377, 410, 433, 447, 480, 513, 536, 559, 572, 595, 608, 631], 100) := by decide +kernel
theorem dL_law_132 : decode cL_law 132 = .ok (.aload_n 1, 1) := by decide +kernel
theorem dL_law_133 : decode cL_law 133 = .ok (.aload_n 0, 1) := by decide +kernel
theorem dL_law_134 : decode cL_law 134 = .ok (.iload_n 3, 1) := by decide +kernel
theorem dL_law_135 : decode cL_law 135 = .ok (.iconst 1, 1) := by decide +kernel
theorem dL_law_136 : decode cL_law 136 = .ok (.iadd, 1) := by decide +kernel
theorem dL_law_137 : decode cL_law 137 = .ok (.iaload, 1) := by decide +kernel
theorem dL_law_138 : decode cL_law 138 = .ok (.aload_n 0, 1) := by decide +kernel
theorem dL_law_139 : decode cL_law 139 = .ok (.iload_n 3, 1) := by decide +kernel
theorem dL_law_140 : decode cL_law 140 = .ok (.iconst 2, 1) := by decide +kernel
theorem dL_law_141 : decode cL_law 141 = .ok (.iadd, 1) := by decide +kernel
theorem dL_law_142 : decode cL_law 142 = .ok (.iaload, 1) := by decide +kernel
theorem dL_law_143 : decode cL_law 143 = .ok (.invokevirtual 13, 3) := by decide +kernel
theorem dL_law_146 : decode cL_law 146 = .ok (.aload_n 2, 1) := by decide +kernel
theorem dL_law_147 : decode cL_law 147 = .ok (.aload_n 0, 1) := by decide +kernel
theorem dL_law_148 : decode cL_law 148 = .ok (.iload_n 3, 1) := by decide +kernel
theorem dL_law_149 : decode cL_law 149 = .ok (.iconst 1, 1) := by decide +kernel
theorem dL_law_150 : decode cL_law 150 = .ok (.iadd, 1) := by decide +kernel
theorem dL_law_151 : decode cL_law 151 = .ok (.iaload, 1) := by decide +kernel
theorem dL_law_152 : decode cL_law 152 = .ok (.aload_n 0, 1) := by decide +kernel
theorem dL_law_153 : decode cL_law 153 = .ok (.iload_n 3, 1) := by decide +kernel
theorem dL_law_154 : decode cL_law 154 = .ok (.iconst 2, 1) := by decide +kernel
theorem dL_law_155 : decode cL_law 155 = .ok (.iadd, 1) := by decide +kernel
theorem dL_law_156 : decode cL_law 156 = .ok (.iaload, 1) := by decide +kernel
theorem dL_law_157 : decode cL_law 157 = .ok (.invokevirtual 17, 3) := by decide +kernel
theorem dL_law_160 : decode cL_law 160 = .ok (.if_icmp .eq 516, 3) := by decide +kernel
theorem dL_law_163 : decode cL_law 163 = .ok (.iconst 0, 1) := by decide +kernel
theorem dL_law_164 : decode cL_law 164 = .ok (.ireturn, 1) := by decide +kernel
theorem dL_law_165 : decode cL_law 165 = .ok (.aload_n 1, 1) := by decide +kernel
theorem dL_law_166 : decode cL_law 166 = .ok (.aload_n 0, 1) := by decide +kernel
theorem dL_law_167 : decode cL_law 167 = .ok (.iload_n 3, 1) := by decide +kernel
theorem dL_law_168 : decode cL_law 168 = .ok (.iconst 1, 1) := by decide +kernel
theorem dL_law_169 : decode cL_law 169 = .ok (.iadd, 1) := by decide +kernel
theorem dL_law_170 : decode cL_law 170 = .ok (.iaload, 1) := by decide +kernel
theorem dL_law_171 : decode cL_law 171 = .ok (.aload_n 0, 1) := by decide +kernel
theorem dL_law_172 : decode cL_law 172 = .ok (.iload_n 3, 1) := by decide +kernel
theorem dL_law_173 : decode cL_law 173 = .ok (.iconst 2, 1) := by decide +kernel
theorem dL_law_174 : decode cL_law 174 = .ok (.iadd, 1) := by decide +kernel
theorem dL_law_175 : decode cL_law 175 = .ok (.iaload, 1) := by decide +kernel
theorem dL_law_176 : decode cL_law 176 = .ok (.aload_n 0, 1) := by decide +kernel
theorem dL_law_177 : decode cL_law 177 = .ok (.iload_n 3, 1) := by decide +kernel
theorem dL_law_178 : decode cL_law 178 = .ok (.iconst 3, 1) := by decide +kernel
theorem dL_law_179 : decode cL_law 179 = .ok (.iadd, 1) := by decide +kernel
theorem dL_law_180 : decode cL_law 180 = .ok (.iaload, 1) := by decide +kernel
theorem dL_law_181 : decode cL_law 181 = .ok (.invokevirtual 18, 3) := by decide +kernel
theorem dL_law_184 : decode cL_law 184 = .ok (.aload_n 2, 1) := by decide +kernel
theorem dL_law_185 : decode cL_law 185 = .ok (.aload_n 0, 1) := by decide +kernel
theorem dL_law_186 : decode cL_law 186 = .ok (.iload_n 3, 1) := by decide +kernel
theorem dL_law_187 : decode cL_law 187 = .ok (.iconst 1, 1) := by decide +kernel
theorem dL_law_188 : decode cL_law 188 = .ok (.iadd, 1) := by decide +kernel
theorem dL_law_189 : decode cL_law 189 = .ok (.iaload, 1) := by decide +kernel
theorem dL_law_190 : decode cL_law 190 = .ok (.aload_n 0, 1) := by decide +kernel
theorem dL_law_191 : decode cL_law 191 = .ok (.iload_n 3, 1) := by decide +kernel
theorem dL_law_192 : decode cL_law 192 = .ok (.iconst 2, 1) := by decide +kernel
theorem dL_law_193 : decode cL_law 193 = .ok (.iadd, 1) := by decide +kernel
theorem dL_law_194 : decode cL_law 194 = .ok (.iaload, 1) := by decide +kernel
theorem dL_law_195 : decode cL_law 195 = .ok (.aload_n 0, 1) := by decide +kernel
theorem dL_law_196 : decode cL_law 196 = .ok (.iload_n 3, 1) := by decide +kernel
theorem dL_law_197 : decode cL_law 197 = .ok (.iconst 3, 1) := by decide +kernel
theorem dL_law_198 : decode cL_law 198 = .ok (.iadd, 1) := by decide +kernel
theorem dL_law_199 : decode cL_law 199 = .ok (.iaload, 1) := by decide +kernel
theorem dL_law_200 : decode cL_law 200 = .ok (.invokevirtual 22, 3) := by decide +kernel
theorem dL_law_203 : decode cL_law 203 = .ok (.if_icmp .eq 473, 3) := by decide +kernel
theorem dL_law_206 : decode cL_law 206 = .ok (.iconst 0, 1) := by decide +kernel
theorem dL_law_207 : decode cL_law 207 = .ok (.ireturn, 1) := by decide +kernel
theorem dL_law_208 : decode cL_law 208 = .ok (.aload_n 1, 1) := by decide +kernel
theorem dL_law_209 : decode cL_law 209 = .ok (.aload_n 0, 1) := by decide +kernel
theorem dL_law_210 : decode cL_law 210 = .ok (.iload_n 3, 1) := by decide +kernel
theorem dL_law_211 : decode cL_law 211 = .ok (.iconst 1, 1) := by decide +kernel
theorem dL_law_212 : decode cL_law 212 = .ok (.iadd, 1) := by decide +kernel
theorem dL_law_213 : decode cL_law 213 = .ok (.iaload, 1) := by decide +kernel
theorem dL_law_214 : decode cL_law 214 = .ok (.aload_n 0, 1) := by decide +kernel
theorem dL_law_215 : decode cL_law 215 = .ok (.iload_n 3, 1) := by decide +kernel
theorem dL_law_216 : decode cL_law 216 = .ok (.iconst 2, 1) := by decide +kernel
theorem dL_law_217 : decode cL_law 217 = .ok (.iadd, 1) := by decide +kernel
theorem dL_law_218 : decode cL_law 218 = .ok (.iaload, 1) := by decide +kernel
theorem dL_law_219 : decode cL_law 219 = .ok (.aload_n 0, 1) := by decide +kernel
theorem dL_law_220 : decode cL_law 220 = .ok (.iload_n 3, 1) := by decide +kernel
theorem dL_law_221 : decode cL_law 221 = .ok (.iconst 3, 1) := by decide +kernel
theorem dL_law_222 : decode cL_law 222 = .ok (.iadd, 1) := by decide +kernel
theorem dL_law_223 : decode cL_law 223 = .ok (.iaload, 1) := by decide +kernel
theorem dL_law_224 : decode cL_law 224 = .ok (.invokevirtual 23, 3) := by decide +kernel
theorem dL_law_227 : decode cL_law 227 = .ok (.aload_n 2, 1) := by decide +kernel
theorem dL_law_228 : decode cL_law 228 = .ok (.aload_n 0, 1) := by decide +kernel
theorem dL_law_229 : decode cL_law 229 = .ok (.iload_n 3, 1) := by decide +kernel
theorem dL_law_230 : decode cL_law 230 = .ok (.iconst 1, 1) := by decide +kernel
theorem dL_law_231 : decode cL_law 231 = .ok (.iadd, 1) := by decide +kernel
theorem dL_law_232 : decode cL_law 232 = .ok (.iaload, 1) := by decide +kernel
theorem dL_law_233 : decode cL_law 233 = .ok (.aload_n 0, 1) := by decide +kernel
theorem dL_law_234 : decode cL_law 234 = .ok (.iload_n 3, 1) := by decide +kernel
theorem dL_law_235 : decode cL_law 235 = .ok (.iconst 2, 1) := by decide +kernel
theorem dL_law_236 : decode cL_law 236 = .ok (.iadd, 1) := by decide +kernel
theorem dL_law_237 : decode cL_law 237 = .ok (.iaload, 1) := by decide +kernel
theorem dL_law_238 : decode cL_law 238 = .ok (.aload_n 0, 1) := by decide +kernel
theorem dL_law_239 : decode cL_law 239 = .ok (.iload_n 3, 1) := by decide +kernel
theorem dL_law_240 : decode cL_law 240 = .ok (.iconst 3, 1) := by decide +kernel
theorem dL_law_241 : decode cL_law 241 = .ok (.iadd, 1) := by decide +kernel
theorem dL_law_242 : decode cL_law 242 = .ok (.iaload, 1) := by decide +kernel
theorem dL_law_243 : decode cL_law 243 = .ok (.invokevirtual 26, 3) := by decide +kernel
theorem dL_law_246 : decode cL_law 246 = .ok (.if_icmp .eq 430, 3) := by decide +kernel
theorem dL_law_249 : decode cL_law 249 = .ok (.iconst 0, 1) := by decide +kernel
theorem dL_law_250 : decode cL_law 250 = .ok (.ireturn, 1) := by decide +kernel
theorem dL_law_251 : decode cL_law 251 = .ok (.aload_n 1, 1) := by decide +kernel
theorem dL_law_252 : decode cL_law 252 = .ok (.invokevirtual 27, 3) := by decide +kernel
theorem dL_law_255 : decode cL_law 255 = .ok (.aload_n 2, 1) := by decide +kernel
theorem dL_law_256 : decode cL_law 256 = .ok (.invokevirtual 31, 3) := by decide +kernel
theorem dL_law_259 : decode cL_law 259 = .ok (.if_icmp .eq 417, 3) := by decide +kernel
theorem dL_law_262 : decode cL_law 262 = .ok (.iconst 0, 1) := by decide +kernel
theorem dL_law_263 : decode cL_law 263 = .ok (.ireturn, 1) := by decide +kernel
theorem dL_law_264 : decode cL_law 264 = .ok (.aload_n 1, 1) := by decide +kernel
theorem dL_law_265 : decode cL_law 265 = .ok (.aload_n 0, 1) := by decide +kernel
theorem dL_law_266 : decode cL_law 266 = .ok (.iload_n 3, 1) := by decide +kernel
theorem dL_law_267 : decode cL_law 267 = .ok (.iconst 1, 1) := by decide +kernel
theorem dL_law_268 : decode cL_law 268 = .ok (.iadd, 1) := by decide +kernel
theorem dL_law_269 : decode cL_law 269 = .ok (.iaload, 1) := by decide +kernel
theorem dL_law_270 : decode cL_law 270 = .ok (.aload_n 0, 1) := by decide +kernel
theorem dL_law_271 : decode cL_law 271 = .ok (.iload_n 3, 1) := by decide +kernel
theorem dL_law_272 : decode cL_law 272 = .ok (.iconst 2, 1) := by decide +kernel
theorem dL_law_273 : decode cL_law 273 = .ok (.iadd, 1) := by decide +kernel
theorem dL_law_274 : decode cL_law 274 = .ok (.iaload, 1) := by decide +kernel
theorem dL_law_275 : decode cL_law 275 = .ok (.invokevirtual 32, 3) := by decide +kernel
theorem dL_law_278 : decode cL_law 278 = .ok (.aload_n 2, 1) := by decide +kernel
theorem dL_law_279 : decode cL_law 279 = .ok (.aload_n 0, 1) := by decide +kernel
theorem dL_law_280 : decode cL_law 280 = .ok (.iload_n 3, 1) := by decide +kernel
theorem dL_law_281 : decode cL_law 281 = .ok (.iconst 1, 1) := by decide +kernel
theorem dL_law_282 : decode cL_law 282 = .ok (.iadd, 1) := by decide +kernel
theorem dL_law_283 : decode cL_law 283 = .ok (.iaload, 1) := by decide +kernel
theorem dL_law_284 : decode cL_law 284 = .ok (.aload_n 0, 1) := by decide +kernel
theorem dL_law_285 : decode cL_law 285 = .ok (.iload_n 3, 1) := by decide +kernel
theorem dL_law_286 : decode cL_law 286 = .ok (.iconst 2, 1) := by decide +kernel
theorem dL_law_287 : decode cL_law 287 = .ok (.iadd, 1) := by decide +kernel
theorem dL_law_288 : decode cL_law 288 = .ok (.iaload, 1) := by decide +kernel
theorem dL_law_289 : decode cL_law 289 = .ok (.invokevirtual 35, 3) := by decide +kernel
theorem dL_law_292 : decode cL_law 292 = .ok (.if_icmp .eq 384, 3) := by decide +kernel
theorem dL_law_295 : decode cL_law 295 = .ok (.iconst 0, 1) := by decide +kernel
theorem dL_law_296 : decode cL_law 296 = .ok (.ireturn, 1) := by decide +kernel
theorem dL_law_297 : decode cL_law 297 = .ok (.aload_n 1, 1) := by decide +kernel
theorem dL_law_298 : decode cL_law 298 = .ok (.aload_n 0, 1) := by decide +kernel
theorem dL_law_299 : decode cL_law 299 = .ok (.iload_n 3, 1) := by decide +kernel
theorem dL_law_300 : decode cL_law 300 = .ok (.iconst 1, 1) := by decide +kernel
theorem dL_law_301 : decode cL_law 301 = .ok (.iadd, 1) := by decide +kernel
theorem dL_law_302 : decode cL_law 302 = .ok (.iaload, 1) := by decide +kernel
theorem dL_law_303 : decode cL_law 303 = .ok (.aload_n 0, 1) := by decide +kernel
theorem dL_law_304 : decode cL_law 304 = .ok (.iload_n 3, 1) := by decide +kernel
theorem dL_law_305 : decode cL_law 305 = .ok (.iconst 2, 1) := by decide +kernel
theorem dL_law_306 : decode cL_law 306 = .ok (.iadd, 1) := by decide +kernel
theorem dL_law_307 : decode cL_law 307 = .ok (.iaload, 1) := by decide +kernel
theorem dL_law_308 : decode cL_law 308 = .ok (.invokevirtual 36, 3) := by decide +kernel
theorem dL_law_311 : decode cL_law 311 = .ok (.aload_n 2, 1) := by decide +kernel
theorem dL_law_312 : decode cL_law 312 = .ok (.aload_n 0, 1) := by decide +kernel
theorem dL_law_313 : decode cL_law 313 = .ok (.iload_n 3, 1) := by decide +kernel
theorem dL_law_314 : decode cL_law 314 = .ok (.iconst 1, 1) := by decide +kernel
theorem dL_law_315 : decode cL_law 315 = .ok (.iadd, 1) := by decide +kernel
theorem dL_law_316 : decode cL_law 316 = .ok (.iaload, 1) := by decide +kernel
theorem dL_law_317 : decode cL_law 317 = .ok (.aload_n 0, 1) := by decide +kernel
theorem dL_law_318 : decode cL_law 318 = .ok (.iload_n 3, 1) := by decide +kernel
theorem dL_law_319 : decode cL_law 319 = .ok (.iconst 2, 1) := by decide +kernel
theorem dL_law_320 : decode cL_law 320 = .ok (.iadd, 1) := by decide +kernel
theorem dL_law_321 : decode cL_law 321 = .ok (.iaload, 1) := by decide +kernel
theorem dL_law_322 : decode cL_law 322 = .ok (.invokevirtual 39, 3) := by decide +kernel
theorem dL_law_325 : decode cL_law 325 = .ok (.if_icmp .eq 351, 3) := by decide +kernel
theorem dL_law_328 : decode cL_law 328 = .ok (.iconst 0, 1) := by decide +kernel
theorem dL_law_329 : decode cL_law 329 = .ok (.ireturn, 1) := by decide +kernel
theorem dL_law_330 : decode cL_law 330 = .ok (.aload_n 1, 1) := by decide +kernel
theorem dL_law_331 : decode cL_law 331 = .ok (.aload_n 0, 1) := by decide +kernel
theorem dL_law_332 : decode cL_law 332 = .ok (.iload_n 3, 1) := by decide +kernel
theorem dL_law_333 : decode cL_law 333 = .ok (.iconst 1, 1) := by decide +kernel
theorem dL_law_334 : decode cL_law 334 = .ok (.iadd, 1) := by decide +kernel
theorem dL_law_335 : decode cL_law 335 = .ok (.iaload, 1) := by decide +kernel
theorem dL_law_336 : decode cL_law 336 = .ok (.aload_n 0, 1) := by decide +kernel
theorem dL_law_337 : decode cL_law 337 = .ok (.iload_n 3, 1) := by decide +kernel
theorem dL_law_338 : decode cL_law 338 = .ok (.iconst 2, 1) := by decide +kernel
theorem dL_law_339 : decode cL_law 339 = .ok (.iadd, 1) := by decide +kernel
theorem dL_law_340 : decode cL_law 340 = .ok (.iaload, 1) := by decide +kernel
theorem dL_law_341 : decode cL_law 341 = .ok (.invokevirtual 40, 3) := by decide +kernel
theorem dL_law_344 : decode cL_law 344 = .ok (.aload_n 2, 1) := by decide +kernel
theorem dL_law_345 : decode cL_law 345 = .ok (.aload_n 0, 1) := by decide +kernel
theorem dL_law_346 : decode cL_law 346 = .ok (.iload_n 3, 1) := by decide +kernel
theorem dL_law_347 : decode cL_law 347 = .ok (.iconst 1, 1) := by decide +kernel
theorem dL_law_348 : decode cL_law 348 = .ok (.iadd, 1) := by decide +kernel
theorem dL_law_349 : decode cL_law 349 = .ok (.iaload, 1) := by decide +kernel
theorem dL_law_350 : decode cL_law 350 = .ok (.aload_n 0, 1) := by decide +kernel
theorem dL_law_351 : decode cL_law 351 = .ok (.iload_n 3, 1) := by decide +kernel
theorem dL_law_352 : decode cL_law 352 = .ok (.iconst 2, 1) := by decide +kernel
theorem dL_law_353 : decode cL_law 353 = .ok (.iadd, 1) := by decide +kernel
theorem dL_law_354 : decode cL_law 354 = .ok (.iaload, 1) := by decide +kernel
theorem dL_law_355 : decode cL_law 355 = .ok (.invokevirtual 43, 3) := by decide +kernel
theorem dL_law_358 : decode cL_law 358 = .ok (.if_icmp .eq 318, 3) := by decide +kernel
theorem dL_law_361 : decode cL_law 361 = .ok (.iconst 0, 1) := by decide +kernel
theorem dL_law_362 : decode cL_law 362 = .ok (.ireturn, 1) := by decide +kernel
theorem dL_law_363 : decode cL_law 363 = .ok (.aload_n 1, 1) := by decide +kernel
theorem dL_law_364 : decode cL_law 364 = .ok (.aload_n 0, 1) := by decide +kernel
theorem dL_law_365 : decode cL_law 365 = .ok (.iload_n 3, 1) := by decide +kernel
theorem dL_law_366 : decode cL_law 366 = .ok (.iconst 1, 1) := by decide +kernel
theorem dL_law_367 : decode cL_law 367 = .ok (.iadd, 1) := by decide +kernel
theorem dL_law_368 : decode cL_law 368 = .ok (.iaload, 1) := by decide +kernel
theorem dL_law_369 : decode cL_law 369 = .ok (.aload_n 0, 1) := by decide +kernel
theorem dL_law_370 : decode cL_law 370 = .ok (.iload_n 3, 1) := by decide +kernel
theorem dL_law_371 : decode cL_law 371 = .ok (.iconst 2, 1) := by decide +kernel
theorem dL_law_372 : decode cL_law 372 = .ok (.iadd, 1) := by decide +kernel
theorem dL_law_373 : decode cL_law 373 = .ok (.iaload, 1) := by decide +kernel
theorem dL_law_374 : decode cL_law 374 = .ok (.invokevirtual 44, 3) := by decide +kernel
theorem dL_law_377 : decode cL_law 377 = .ok (.aload_n 2, 1) := by decide +kernel
theorem dL_law_378 : decode cL_law 378 = .ok (.aload_n 0, 1) := by decide +kernel
theorem dL_law_379 : decode cL_law 379 = .ok (.iload_n 3, 1) := by decide +kernel
theorem dL_law_380 : decode cL_law 380 = .ok (.iconst 1, 1) := by decide +kernel
theorem dL_law_381 : decode cL_law 381 = .ok (.iadd, 1) := by decide +kernel
theorem dL_law_382 : decode cL_law 382 = .ok (.iaload, 1) := by decide +kernel
theorem dL_law_383 : decode cL_law 383 = .ok (.aload_n 0, 1) := by decide +kernel
theorem dL_law_384 : decode cL_law 384 = .ok (.iload_n 3, 1) := by decide +kernel
theorem dL_law_385 : decode cL_law 385 = .ok (.iconst 2, 1) := by decide +kernel
theorem dL_law_386 : decode cL_law 386 = .ok (.iadd, 1) := by decide +kernel
theorem dL_law_387 : decode cL_law 387 = .ok (.iaload, 1) := by decide +kernel
theorem dL_law_388 : decode cL_law 388 = .ok (.invokevirtual 47, 3) := by decide +kernel
theorem dL_law_391 : decode cL_law 391 = .ok (.if_icmp .eq 285, 3) := by decide +kernel
theorem dL_law_394 : decode cL_law 394 = .ok (.iconst 0, 1) := by decide +kernel
theorem dL_law_395 : decode cL_law 395 = .ok (.ireturn, 1) := by decide +kernel
theorem dL_law_396 : decode cL_law 396 = .ok (.aload_n 1, 1) := by decide +kernel
theorem dL_law_397 : decode cL_law 397 = .ok (.invokevirtual 48, 3) := by decide +kernel
theorem dL_law_400 : decode cL_law 400 = .ok (.aload_n 2, 1) := by decide +kernel
theorem dL_law_401 : decode cL_law 401 = .ok (.invokevirtual 51, 3) := by decide +kernel
theorem dL_law_404 : decode cL_law 404 = .ok (.if_icmp .eq 272, 3) := by decide +kernel
theorem dL_law_407 : decode cL_law 407 = .ok (.iconst 0, 1) := by decide +kernel
theorem dL_law_408 : decode cL_law 408 = .ok (.ireturn, 1) := by decide +kernel
theorem dL_law_409 : decode cL_law 409 = .ok (.aload_n 1, 1) := by decide +kernel
theorem dL_law_410 : decode cL_law 410 = .ok (.aload_n 0, 1) := by decide +kernel
theorem dL_law_411 : decode cL_law 411 = .ok (.iload_n 3, 1) := by decide +kernel
theorem dL_law_412 : decode cL_law 412 = .ok (.iconst 1, 1) := by decide +kernel
theorem dL_law_413 : decode cL_law 413 = .ok (.iadd, 1) := by decide +kernel
theorem dL_law_414 : decode cL_law 414 = .ok (.iaload, 1) := by decide +kernel
theorem dL_law_415 : decode cL_law 415 = .ok (.aload_n 0, 1) := by decide +kernel
theorem dL_law_416 : decode cL_law 416 = .ok (.iload_n 3, 1) := by decide +kernel
theorem dL_law_417 : decode cL_law 417 = .ok (.iconst 2, 1) := by decide +kernel
theorem dL_law_418 : decode cL_law 418 = .ok (.iadd, 1) := by decide +kernel
theorem dL_law_419 : decode cL_law 419 = .ok (.iaload, 1) := by decide +kernel
theorem dL_law_420 : decode cL_law 420 = .ok (.invokevirtual 52, 3) := by decide +kernel
theorem dL_law_423 : decode cL_law 423 = .ok (.aload_n 2, 1) := by decide +kernel
theorem dL_law_424 : decode cL_law 424 = .ok (.aload_n 0, 1) := by decide +kernel
theorem dL_law_425 : decode cL_law 425 = .ok (.iload_n 3, 1) := by decide +kernel
theorem dL_law_426 : decode cL_law 426 = .ok (.iconst 1, 1) := by decide +kernel
theorem dL_law_427 : decode cL_law 427 = .ok (.iadd, 1) := by decide +kernel
theorem dL_law_428 : decode cL_law 428 = .ok (.iaload, 1) := by decide +kernel
theorem dL_law_429 : decode cL_law 429 = .ok (.aload_n 0, 1) := by decide +kernel
theorem dL_law_430 : decode cL_law 430 = .ok (.iload_n 3, 1) := by decide +kernel
theorem dL_law_431 : decode cL_law 431 = .ok (.iconst 2, 1) := by decide +kernel
theorem dL_law_432 : decode cL_law 432 = .ok (.iadd, 1) := by decide +kernel
theorem dL_law_433 : decode cL_law 433 = .ok (.iaload, 1) := by decide +kernel
theorem dL_law_434 : decode cL_law 434 = .ok (.invokevirtual 55, 3) := by decide +kernel
theorem dL_law_437 : decode cL_law 437 = .ok (.if_icmp .eq 239, 3) := by decide +kernel
theorem dL_law_440 : decode cL_law 440 = .ok (.iconst 0, 1) := by decide +kernel
theorem dL_law_441 : decode cL_law 441 = .ok (.ireturn, 1) := by decide +kernel
theorem dL_law_442 : decode cL_law 442 = .ok (.aload_n 1, 1) := by decide +kernel
theorem dL_law_443 : decode cL_law 443 = .ok (.aload_n 0, 1) := by decide +kernel
theorem dL_law_444 : decode cL_law 444 = .ok (.iload_n 3, 1) := by decide +kernel
theorem dL_law_445 : decode cL_law 445 = .ok (.iconst 1, 1) := by decide +kernel
theorem dL_law_446 : decode cL_law 446 = .ok (.iadd, 1) := by decide +kernel
theorem dL_law_447 : decode cL_law 447 = .ok (.iaload, 1) := by decide +kernel
theorem dL_law_448 : decode cL_law 448 = .ok (.invokevirtual 56, 3) := by decide +kernel
theorem dL_law_451 : decode cL_law 451 = .ok (.aload_n 2, 1) := by decide +kernel
theorem dL_law_452 : decode cL_law 452 = .ok (.aload_n 0, 1) := by decide +kernel
theorem dL_law_453 : decode cL_law 453 = .ok (.iload_n 3, 1) := by decide +kernel
theorem dL_law_454 : decode cL_law 454 = .ok (.iconst 1, 1) := by decide +kernel
theorem dL_law_455 : decode cL_law 455 = .ok (.iadd, 1) := by decide +kernel
theorem dL_law_456 : decode cL_law 456 = .ok (.iaload, 1) := by decide +kernel
theorem dL_law_457 : decode cL_law 457 = .ok (.invokevirtual 60, 3) := by decide +kernel
theorem dL_law_460 : decode cL_law 460 = .ok (.if_icmp .eq 216, 3) := by decide +kernel
theorem dL_law_463 : decode cL_law 463 = .ok (.iconst 0, 1) := by decide +kernel
theorem dL_law_464 : decode cL_law 464 = .ok (.ireturn, 1) := by decide +kernel
theorem dL_law_465 : decode cL_law 465 = .ok (.aload_n 1, 1) := by decide +kernel
theorem dL_law_466 : decode cL_law 466 = .ok (.invokevirtual 61, 3) := by decide +kernel
theorem dL_law_469 : decode cL_law 469 = .ok (.aload_n 2, 1) := by decide +kernel
theorem dL_law_470 : decode cL_law 470 = .ok (.invokevirtual 65, 3) := by decide +kernel
theorem dL_law_473 : decode cL_law 473 = .ok (.lcmp, 1) := by decide +kernel
theorem dL_law_474 : decode cL_law 474 = .ok (.ifCond .eq 202, 3) := by decide +kernel
theorem dL_law_477 : decode cL_law 477 = .ok (.iconst 0, 1) := by decide +kernel
theorem dL_law_478 : decode cL_law 478 = .ok (.ireturn, 1) := by decide +kernel
theorem dL_law_479 : decode cL_law 479 = .ok (.aload_n 1, 1) := by decide +kernel
theorem dL_law_480 : decode cL_law 480 = .ok (.aload_n 0, 1) := by decide +kernel
theorem dL_law_481 : decode cL_law 481 = .ok (.iload_n 3, 1) := by decide +kernel
theorem dL_law_482 : decode cL_law 482 = .ok (.iconst 1, 1) := by decide +kernel
theorem dL_law_483 : decode cL_law 483 = .ok (.iadd, 1) := by decide +kernel
theorem dL_law_484 : decode cL_law 484 = .ok (.iaload, 1) := by decide +kernel
theorem dL_law_485 : decode cL_law 485 = .ok (.aload_n 0, 1) := by decide +kernel
theorem dL_law_486 : decode cL_law 486 = .ok (.iload_n 3, 1) := by decide +kernel
theorem dL_law_487 : decode cL_law 487 = .ok (.iconst 2, 1) := by decide +kernel
theorem dL_law_488 : decode cL_law 488 = .ok (.iadd, 1) := by decide +kernel
theorem dL_law_489 : decode cL_law 489 = .ok (.iaload, 1) := by decide +kernel
theorem dL_law_490 : decode cL_law 490 = .ok (.invokevirtual 66, 3) := by decide +kernel
theorem dL_law_493 : decode cL_law 493 = .ok (.aload_n 2, 1) := by decide +kernel
theorem dL_law_494 : decode cL_law 494 = .ok (.aload_n 0, 1) := by decide +kernel
theorem dL_law_495 : decode cL_law 495 = .ok (.iload_n 3, 1) := by decide +kernel
theorem dL_law_496 : decode cL_law 496 = .ok (.iconst 1, 1) := by decide +kernel
theorem dL_law_497 : decode cL_law 497 = .ok (.iadd, 1) := by decide +kernel
theorem dL_law_498 : decode cL_law 498 = .ok (.iaload, 1) := by decide +kernel
theorem dL_law_499 : decode cL_law 499 = .ok (.aload_n 0, 1) := by decide +kernel
theorem dL_law_500 : decode cL_law 500 = .ok (.iload_n 3, 1) := by decide +kernel
theorem dL_law_501 : decode cL_law 501 = .ok (.iconst 2, 1) := by decide +kernel
theorem dL_law_502 : decode cL_law 502 = .ok (.iadd, 1) := by decide +kernel
theorem dL_law_503 : decode cL_law 503 = .ok (.iaload, 1) := by decide +kernel
theorem dL_law_504 : decode cL_law 504 = .ok (.invokevirtual 69, 3) := by decide +kernel
theorem dL_law_507 : decode cL_law 507 = .ok (.if_icmp .eq 169, 3) := by decide +kernel
theorem dL_law_510 : decode cL_law 510 = .ok (.iconst 0, 1) := by decide +kernel
theorem dL_law_511 : decode cL_law 511 = .ok (.ireturn, 1) := by decide +kernel
theorem dL_law_512 : decode cL_law 512 = .ok (.aload_n 1, 1) := by decide +kernel
theorem dL_law_513 : decode cL_law 513 = .ok (.aload_n 0, 1) := by decide +kernel
theorem dL_law_514 : decode cL_law 514 = .ok (.iload_n 3, 1) := by decide +kernel
theorem dL_law_515 : decode cL_law 515 = .ok (.iconst 1, 1) := by decide +kernel
theorem dL_law_516 : decode cL_law 516 = .ok (.iadd, 1) := by decide +kernel
theorem dL_law_517 : decode cL_law 517 = .ok (.iaload, 1) := by decide +kernel
theorem dL_law_518 : decode cL_law 518 = .ok (.aload_n 0, 1) := by decide +kernel
theorem dL_law_519 : decode cL_law 519 = .ok (.iload_n 3, 1) := by decide +kernel
theorem dL_law_520 : decode cL_law 520 = .ok (.iconst 2, 1) := by decide +kernel
theorem dL_law_521 : decode cL_law 521 = .ok (.iadd, 1) := by decide +kernel
theorem dL_law_522 : decode cL_law 522 = .ok (.iaload, 1) := by decide +kernel
theorem dL_law_523 : decode cL_law 523 = .ok (.invokevirtual 70, 3) := by decide +kernel
theorem dL_law_526 : decode cL_law 526 = .ok (.aload_n 2, 1) := by decide +kernel
theorem dL_law_527 : decode cL_law 527 = .ok (.aload_n 0, 1) := by decide +kernel
theorem dL_law_528 : decode cL_law 528 = .ok (.iload_n 3, 1) := by decide +kernel
theorem dL_law_529 : decode cL_law 529 = .ok (.iconst 1, 1) := by decide +kernel
theorem dL_law_530 : decode cL_law 530 = .ok (.iadd, 1) := by decide +kernel
theorem dL_law_531 : decode cL_law 531 = .ok (.iaload, 1) := by decide +kernel
theorem dL_law_532 : decode cL_law 532 = .ok (.aload_n 0, 1) := by decide +kernel
theorem dL_law_533 : decode cL_law 533 = .ok (.iload_n 3, 1) := by decide +kernel
theorem dL_law_534 : decode cL_law 534 = .ok (.iconst 2, 1) := by decide +kernel
theorem dL_law_535 : decode cL_law 535 = .ok (.iadd, 1) := by decide +kernel
theorem dL_law_536 : decode cL_law 536 = .ok (.iaload, 1) := by decide +kernel
theorem dL_law_537 : decode cL_law 537 = .ok (.invokevirtual 73, 3) := by decide +kernel
theorem dL_law_540 : decode cL_law 540 = .ok (.if_icmp .eq 136, 3) := by decide +kernel
theorem dL_law_543 : decode cL_law 543 = .ok (.iconst 0, 1) := by decide +kernel
theorem dL_law_544 : decode cL_law 544 = .ok (.ireturn, 1) := by decide +kernel
theorem dL_law_545 : decode cL_law 545 = .ok (.aload_n 1, 1) := by decide +kernel
theorem dL_law_546 : decode cL_law 546 = .ok (.aload_n 0, 1) := by decide +kernel
theorem dL_law_547 : decode cL_law 547 = .ok (.iload_n 3, 1) := by decide +kernel
theorem dL_law_548 : decode cL_law 548 = .ok (.iconst 1, 1) := by decide +kernel
theorem dL_law_549 : decode cL_law 549 = .ok (.iadd, 1) := by decide +kernel
theorem dL_law_550 : decode cL_law 550 = .ok (.iaload, 1) := by decide +kernel
theorem dL_law_551 : decode cL_law 551 = .ok (.invokevirtual 74, 3) := by decide +kernel
theorem dL_law_554 : decode cL_law 554 = .ok (.aload_n 2, 1) := by decide +kernel
theorem dL_law_555 : decode cL_law 555 = .ok (.aload_n 0, 1) := by decide +kernel
theorem dL_law_556 : decode cL_law 556 = .ok (.iload_n 3, 1) := by decide +kernel
theorem dL_law_557 : decode cL_law 557 = .ok (.iconst 1, 1) := by decide +kernel
theorem dL_law_558 : decode cL_law 558 = .ok (.iadd, 1) := by decide +kernel
theorem dL_law_559 : decode cL_law 559 = .ok (.iaload, 1) := by decide +kernel
theorem dL_law_560 : decode cL_law 560 = .ok (.invokevirtual 77, 3) := by decide +kernel
theorem dL_law_563 : decode cL_law 563 = .ok (.if_icmp .eq 113, 3) := by decide +kernel
theorem dL_law_566 : decode cL_law 566 = .ok (.iconst 0, 1) := by decide +kernel
theorem dL_law_567 : decode cL_law 567 = .ok (.ireturn, 1) := by decide +kernel
theorem dL_law_568 : decode cL_law 568 = .ok (.aload_n 1, 1) := by decide +kernel
theorem dL_law_569 : decode cL_law 569 = .ok (.aload_n 0, 1) := by decide +kernel
theorem dL_law_570 : decode cL_law 570 = .ok (.iload_n 3, 1) := by decide +kernel
theorem dL_law_571 : decode cL_law 571 = .ok (.iconst 1, 1) := by decide +kernel
theorem dL_law_572 : decode cL_law 572 = .ok (.iadd, 1) := by decide +kernel
theorem dL_law_573 : decode cL_law 573 = .ok (.iaload, 1) := by decide +kernel
theorem dL_law_574 : decode cL_law 574 = .ok (.invokevirtual 78, 3) := by decide +kernel
theorem dL_law_577 : decode cL_law 577 = .ok (.aload_n 2, 1) := by decide +kernel
theorem dL_law_578 : decode cL_law 578 = .ok (.aload_n 0, 1) := by decide +kernel
theorem dL_law_579 : decode cL_law 579 = .ok (.iload_n 3, 1) := by decide +kernel
theorem dL_law_580 : decode cL_law 580 = .ok (.iconst 1, 1) := by decide +kernel
theorem dL_law_581 : decode cL_law 581 = .ok (.iadd, 1) := by decide +kernel
theorem dL_law_582 : decode cL_law 582 = .ok (.iaload, 1) := by decide +kernel
theorem dL_law_583 : decode cL_law 583 = .ok (.invokevirtual 81, 3) := by decide +kernel
theorem dL_law_586 : decode cL_law 586 = .ok (.if_icmp .eq 90, 3) := by decide +kernel
theorem dL_law_589 : decode cL_law 589 = .ok (.iconst 0, 1) := by decide +kernel
theorem dL_law_590 : decode cL_law 590 = .ok (.ireturn, 1) := by decide +kernel
theorem dL_law_591 : decode cL_law 591 = .ok (.aload_n 1, 1) := by decide +kernel
theorem dL_law_592 : decode cL_law 592 = .ok (.invokevirtual 82, 3) := by decide +kernel
theorem dL_law_595 : decode cL_law 595 = .ok (.aload_n 2, 1) := by decide +kernel
theorem dL_law_596 : decode cL_law 596 = .ok (.invokevirtual 85, 3) := by decide +kernel
theorem dL_law_599 : decode cL_law 599 = .ok (.if_icmp .eq 77, 3) := by decide +kernel
theorem dL_law_602 : decode cL_law 602 = .ok (.iconst 0, 1) := by decide +kernel
theorem dL_law_603 : decode cL_law 603 = .ok (.ireturn, 1) := by decide +kernel
theorem dL_law_604 : decode cL_law 604 = .ok (.aload_n 1, 1) := by decide +kernel
theorem dL_law_605 : decode cL_law 605 = .ok (.aload_n 0, 1) := by decide +kernel
theorem dL_law_606 : decode cL_law 606 = .ok (.iload_n 3, 1) := by decide +kernel
theorem dL_law_607 : decode cL_law 607 = .ok (.iconst 1, 1) := by decide +kernel
theorem dL_law_608 : decode cL_law 608 = .ok (.iadd, 1) := by decide +kernel
theorem dL_law_609 : decode cL_law 609 = .ok (.iaload, 1) := by decide +kernel
theorem dL_law_610 : decode cL_law 610 = .ok (.invokevirtual 86, 3) := by decide +kernel
theorem dL_law_613 : decode cL_law 613 = .ok (.aload_n 2, 1) := by decide +kernel
theorem dL_law_614 : decode cL_law 614 = .ok (.aload_n 0, 1) := by decide +kernel
theorem dL_law_615 : decode cL_law 615 = .ok (.iload_n 3, 1) := by decide +kernel
theorem dL_law_616 : decode cL_law 616 = .ok (.iconst 1, 1) := by decide +kernel
theorem dL_law_617 : decode cL_law 617 = .ok (.iadd, 1) := by decide +kernel
theorem dL_law_618 : decode cL_law 618 = .ok (.iaload, 1) := by decide +kernel
theorem dL_law_619 : decode cL_law 619 = .ok (.invokevirtual 89, 3) := by decide +kernel
theorem dL_law_622 : decode cL_law 622 = .ok (.if_icmp .eq 54, 3) := by decide +kernel
theorem dL_law_625 : decode cL_law 625 = .ok (.iconst 0, 1) := by decide +kernel
theorem dL_law_626 : decode cL_law 626 = .ok (.ireturn, 1) := by decide +kernel
theorem dL_law_627 : decode cL_law 627 = .ok (.aload_n 1, 1) := by decide +kernel
theorem dL_law_628 : decode cL_law 628 = .ok (.invokevirtual 90, 3) := by decide +kernel
theorem dL_law_631 : decode cL_law 631 = .ok (.aload_n 2, 1) := by decide +kernel
theorem dL_law_632 : decode cL_law 632 = .ok (.invokevirtual 93, 3) := by decide +kernel
theorem dL_law_635 : decode cL_law 635 = .ok (.if_icmp .eq 41, 3) := by decide +kernel
theorem dL_law_638 : decode cL_law 638 = .ok (.iconst 0, 1) := by decide +kernel
theorem dL_law_639 : decode cL_law 639 = .ok (.ireturn, 1) := by decide +kernel
theorem dL_law_640 : decode cL_law 640 = .ok (.aload_n 1, 1) := by decide +kernel
theorem dL_law_641 : decode cL_law 641 = .ok (.aload_n 0, 1) := by decide +kernel
theorem dL_law_642 : decode cL_law 642 = .ok (.iload_n 3, 1) := by decide +kernel
theorem dL_law_643 : decode cL_law 643 = .ok (.iconst 1, 1) := by decide +kernel
theorem dL_law_644 : decode cL_law 644 = .ok (.iadd, 1) := by decide +kernel
theorem dL_law_645 : decode cL_law 645 = .ok (.iaload, 1) := by decide +kernel
theorem dL_law_646 : decode cL_law 646 = .ok (.invokevirtual 94, 3) := by decide +kernel
theorem dL_law_649 : decode cL_law 649 = .ok (.aload_n 2, 1) := by decide +kernel
theorem dL_law_650 : decode cL_law 650 = .ok (.aload_n 0, 1) := by decide +kernel
theorem dL_law_651 : decode cL_law 651 = .ok (.iload_n 3, 1) := by decide +kernel
theorem dL_law_652 : decode cL_law 652 = .ok (.iconst 1, 1) := by decide +kernel
theorem dL_law_653 : decode cL_law 653 = .ok (.iadd, 1) := by decide +kernel
theorem dL_law_654 : decode cL_law 654 = .ok (.iaload, 1) := by decide +kernel
theorem dL_law_655 : decode cL_law 655 = .ok (.invokevirtual 97, 3) := by decide +kernel
theorem dL_law_658 : decode cL_law 658 = .ok (.if_icmp .eq 18, 3) := by decide +kernel
theorem dL_law_661 : decode cL_law 661 = .ok (.iconst 0, 1) := by decide +kernel
theorem dL_law_662 : decode cL_law 662 = .ok (.ireturn, 1) := by decide +kernel
theorem dL_law_663 : decode cL_law 663 = .ok (.aload_n 1, 1) := by decide +kernel
theorem dL_law_664 : decode cL_law 664 = .ok (.invokevirtual 98, 3) := by decide +kernel
theorem dL_law_667 : decode cL_law 667 = .ok (.aload_n 2, 1) := by decide +kernel
theorem dL_law_668 : decode cL_law 668 = .ok (.invokevirtual 101, 3) := by decide +kernel
theorem dL_law_671 : decode cL_law 671 = .ok (.if_icmp .eq 5, 3) := by decide +kernel
theorem dL_law_674 : decode cL_law 674 = .ok (.iconst 0, 1) := by decide +kernel
theorem dL_law_675 : decode cL_law 675 = .ok (.ireturn, 1) := by decide +kernel
theorem dL_law_676 : decode cL_law 676 = .ok (.iinc 3 4, 3) := by decide +kernel
theorem dL_law_679 : decode cL_law 679 = .ok (.goto (-661), 3) := by decide +kernel
theorem dL_law_682 : decode cL_law 682 = .ok (.iconst 1, 1) := by decide +kernel
theorem dL_law_683 : decode cL_law 683 = .ok (.ireturn, 1) := by decide +kernel
