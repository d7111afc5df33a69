theorem dX6_readPart_23 : decode cX6_readPart 23 = .ok (.iload_n 3, 1) := by decide +kernel
theorem dX6_readPart_24 : decode cX6_readPart 24 = .ok (.invokevirtual 48, 3) := by decide +kernel
theorem dX6_readPart_27 : decode cX6_readPart 27 = .ok (.istore 5, 2) := by decide +kernel
theorem dX6_readPart_29 : decode cX6_readPart 29 = .ok (.iload 5, 2) := by decide +kernel
theorem dX6_readPart_31 : decode cX6_readPart 31 = .ok (.bipush 43, 2) := by decide +kernel
theorem dX6_readPart_33 : decode cX6_readPart 33 = .ok (.if_icmp .ne 15, 3) := by decide +kernel
theorem dX6_readPart_36 : decode cX6_readPart 36 = .ok (.aload_n 1, 1) := by decide +kernel
theorem dX6_readPart_37 : decode cX6_readPart 37 = .ok (.iload_n 3, 1) := by decide +kernel
theorem dX6_readPart_38 : decode cX6_readPart 38 = .ok (.invokestatic 37, 3) := by decide +kernel
theorem dX6_readPart_41 : decode cX6_readPart 41 = .ok (.iload_n 3, 1) := by decide +kernel
theorem dX6_readPart_42 : decode cX6_readPart 42 = .ok (.isub, 1) := by decide +kernel
theorem dX6_readPart_43 : decode cX6_readPart 43 = .ok (.iconst 2, 1) := by decide +kernel
theorem dX6_readPart_44 : decode cX6_readPart 44 = .ok (.isub, 1) := by decide +kernel
theorem dX6_readPart_45 : decode cX6_readPart 45 = .ok (.goto 10, 3) := by decide +kernel
theorem dX6_readPart_48 : decode cX6_readPart 48 = .ok (.aload_n 1, 1) := by decide +kernel
theorem dX6_readPart_49 : decode cX6_readPart 49 = .ok (.iload_n 3, 1) := by decide +kernel
theorem dX6_readPart_50 : decode cX6_readPart 50 = .ok (.iconst 1, 1) := by decide +kernel
theorem dX6_readPart_51 : decode cX6_readPart 51 = .ok (.iadd, 1) := by decide +kernel
theorem dX6_readPart_52 : decode cX6_readPart 52 = .ok (.invokestatic 52, 3) := by decide +kernel
theorem dX6_readPart_55 : decode cX6_readPart 55 = .ok (.istore 6, 2) := by decide +kernel
theorem dX6_readPart_57 : decode cX6_readPart 57 = .ok (.iload 5, 2) := by decide +kernel
theorem dX6_readPart_59 : decode cX6_readPart 59 = .ok (.bipush 43, 2) := by decide +kernel
theorem dX6_readPart_61 : decode cX6_readPart 61 = .ok (.if_icmp .eq 27, 3) := by decide +kernel
theorem dX6_readPart_64 : decode cX6_readPart 64 = .ok (.iload 6, 2) := by decide +kernel
theorem dX6_readPart_66 : decode cX6_readPart 66 = .ok (.aload_n 2, 1) := by decide +kernel
theorem dX6_readPart_67 : decode cX6_readPart 67 = .ok (.getfield 30, 3) := by decide +kernel
theorem dX6_readPart_70 : decode cX6_readPart 70 = .ok (.aload_n 0, 1) := by decide +kernel
theorem dX6_readPart_71 : decode cX6_readPart 71 = .ok (.getfield 23, 3) := by decide +kernel
theorem dX6_readPart_74 : decode cX6_readPart 74 = .ok (.isub, 1) := by decide +kernel
theorem dX6_readPart_75 : decode cX6_readPart 75 = .ok (.if_icmp .le 13, 3) := by decide +kernel
theorem dX6_readPart_78 : decode cX6_readPart 78 = .ok (.aload_n 0, 1) := by decide +kernel
theorem dX6_readPart_79 : decode cX6_readPart 79 = .ok (.iload_n 3, 1) := by decide +kernel
theorem dX6_readPart_80 : decode cX6_readPart 80 = .ok (.iconst 2, 1) := by decide +kernel
theorem dX6_readPart_81 : decode cX6_readPart 81 = .ok (.iconst (-1), 1) := by decide +kernel
theorem dX6_readPart_82 : decode cX6_readPart 82 = .ok (.invokevirtual 41, 3) := by decide +kernel
theorem dX6_readPart_85 : decode cX6_readPart 85 = .ok (.goto 74, 3) := by decide +kernel
theorem dX6_readPart_88 : decode cX6_readPart 88 = .ok (.iload 5, 2) := by decide +kernel
theorem dX6_readPart_90 : decode cX6_readPart 90 = .ok (.bipush 45, 2) := by decide +kernel
theorem dX6_readPart_92 : decode cX6_readPart 92 = .ok (.if_icmp .eq 28, 3) := by decide +kernel
theorem dX6_readPart_95 : decode cX6_readPart 95 = .ok (.aload_n 0, 1) := by decide +kernel
theorem dX6_readPart_96 : decode cX6_readPart 96 = .ok (.getfield 14, 3) := by decide +kernel
theorem dX6_readPart_99 : decode cX6_readPart 99 = .ok (.getfield 30, 3) := by decide +kernel
theorem dX6_readPart_102 : decode cX6_readPart 102 = .ok (.iload 6, 2) := by decide +kernel
theorem dX6_readPart_104 : decode cX6_readPart 104 = .ok (.iadd, 1) := by decide +kernel
theorem dX6_readPart_105 : decode cX6_readPart 105 = .ok (.bipush 28, 2) := by decide +kernel
theorem dX6_readPart_107 : decode cX6_readPart 107 = .ok (.if_icmp .le 13, 3) := by decide +kernel
theorem dX6_readPart_110 : decode cX6_readPart 110 = .ok (.aload_n 0, 1) := by decide +kernel
theorem dX6_readPart_111 : decode cX6_readPart 111 = .ok (.iload_n 3, 1) := by decide +kernel
theorem dX6_readPart_112 : decode cX6_readPart 112 = .ok (.iconst 3, 1) := by decide +kernel
theorem dX6_readPart_113 : decode cX6_readPart 113 = .ok (.iconst (-1), 1) := by decide +kernel
theorem dX6_readPart_114 : decode cX6_readPart 114 = .ok (.invokevirtual 41, 3) := by decide +kernel
theorem dX6_readPart_117 : decode cX6_readPart 117 = .ok (.goto 42, 3) := by decide +kernel
theorem dX6_readPart_120 : decode cX6_readPart 120 = .ok (.iload 5, 2) := by decide +kernel
theorem dX6_readPart_122 : decode cX6_readPart 122 = .ok (.bipush 43, 2) := by decide +kernel
theorem dX6_readPart_124 : decode cX6_readPart 124 = .ok (.if_icmp .ne 16, 3) := by decide +kernel
theorem dX6_readPart_127 : decode cX6_readPart 127 = .ok (.aload_n 0, 1) := by decide +kernel
theorem dX6_readPart_128 : decode cX6_readPart 128 = .ok (.aload_n 1, 1) := by decide +kernel
theorem dX6_readPart_129 : decode cX6_readPart 129 = .ok (.iload_n 3, 1) := by decide +kernel
theorem dX6_readPart_130 : decode cX6_readPart 130 = .ok (.iconst 1, 1) := by decide +kernel
theorem dX6_readPart_131 : decode cX6_readPart 131 = .ok (.iadd, 1) := by decide +kernel
theorem dX6_readPart_132 : decode cX6_readPart 132 = .ok (.iload 6, 2) := by decide +kernel
theorem dX6_readPart_134 : decode cX6_readPart 134 = .ok (.invokevirtual 55, 3) := by decide +kernel
theorem dX6_readPart_137 : decode cX6_readPart 137 = .ok (.goto 22, 3) := by decide +kernel
theorem dX6_readPart_140 : decode cX6_readPart 140 = .ok (.aload_n 0, 1) := by decide +kernel
theorem dX6_readPart_141 : decode cX6_readPart 141 = .ok (.aload_n 2, 1) := by decide +kernel
theorem dX6_readPart_142 : decode cX6_readPart 142 = .ok (.iload 6, 2) := by decide +kernel
theorem dX6_readPart_144 : decode cX6_readPart 144 = .ok (.iload 5, 2) := by decide +kernel
theorem dX6_readPart_146 : decode cX6_readPart 146 = .ok (.bipush 61, 2) := by decide +kernel
theorem dX6_readPart_148 : decode cX6_readPart 148 = .ok (.if_icmp .ne 7, 3) := by decide +kernel
theorem dX6_readPart_151 : decode cX6_readPart 151 = .ok (.iconst 1, 1) := by decide +kernel
theorem dX6_readPart_152 : decode cX6_readPart 152 = .ok (.goto 4, 3) := by decide +kernel
theorem dX6_readPart_155 : decode cX6_readPart 155 = .ok (.iconst 0, 1) := by decide +kernel
theorem dX6_readPart_156 : decode cX6_readPart 156 = .ok (.invokevirtual 59, 3) := by decide +kernel
theorem dX6_readPart_159 : decode cX6_readPart 159 = .ok (.return_, 1) := by decide +kernel
theorem dX6_tell_0 : decode cX6_tell 0 = .ok (.aload_n 0, 1) := by decide +kernel
theorem dX6_tell_1 : decode cX6_tell 1 = .ok (.iload_n 1, 1) := by decide +kernel
theorem dX6_tell_2 : decode cX6_tell 2 = .ok (.putfield 63, 3) := by decide +kernel
theorem dX6_tell_5 : decode cX6_tell 5 = .ok (.aload_n 0, 1) := by decide +kernel
theorem dX6_tell_6 : decode cX6_tell 6 = .ok (.iload_n 2, 1) := by decide +kernel
theorem dX6_tell_7 : decode cX6_tell 7 = .ok (.putfield 27, 3) := by decide +kernel
theorem dX6_tell_10 : decode cX6_tell 10 = .ok (.aload_n 0, 1) := by decide +kernel
theorem dX6_tell_11 : decode cX6_tell 11 = .ok (.iload_n 3, 1) := by decide +kernel
theorem dX6_tell_12 : decode cX6_tell 12 = .ok (.putfield 66, 3) := by decide +kernel
theorem dX6_tell_15 : decode cX6_tell 15 = .ok (.return_, 1) := by decide +kernel
theorem dX6_putIn_0 : decode cX6_putIn 0 = .ok (.iload_n 2, 1) := by decide +kernel
theorem dX6_putIn_1 : decode cX6_putIn 1 = .ok (.istore 4, 2) := by decide +kernel
theorem dX6_putIn_3 : decode cX6_putIn 3 = .ok (.iload 4, 2) := by decide +kernel
theorem dX6_putIn_5 : decode cX6_putIn 5 = .ok (.iload_n 2, 1) := by decide +kernel
theorem dX6_putIn_6 : decode cX6_putIn 6 = .ok (.iload_n 3, 1) := by decide +kernel
theorem dX6_putIn_7 : decode cX6_putIn 7 = .ok (.iadd, 1) := by decide +kernel
theorem dX6_putIn_8 : decode cX6_putIn 8 = .ok (.if_icmp .ge 25, 3) := by decide +kernel
theorem dX6_putIn_11 : decode cX6_putIn 11 = .ok (.aload_n 0, 1) := by decide +kernel
theorem dX6_putIn_12 : decode cX6_putIn 12 = .ok (.getfield 14, 3) := by decide +kernel
theorem dX6_putIn_15 : decode cX6_putIn 15 = .ok (.aload_n 1, 1) := by decide +kernel
theorem dX6_putIn_16 : decode cX6_putIn 16 = .ok (.iload 4, 2) := by decide +kernel
theorem dX6_putIn_18 : decode cX6_putIn 18 = .ok (.invokevirtual 48, 3) := by decide +kernel
theorem dX6_putIn_21 : decode cX6_putIn 21 = .ok (.bipush 97, 2) := by decide +kernel
theorem dX6_putIn_23 : decode cX6_putIn 23 = .ok (.isub, 1) := by decide +kernel
theorem dX6_putIn_24 : decode cX6_putIn 24 = .ok (.invokevirtual 69, 3) := by decide +kernel
theorem dX6_putIn_27 : decode cX6_putIn 27 = .ok (.iinc 4 1, 3) := by decide +kernel
theorem dX6_putIn_30 : decode cX6_putIn 30 = .ok (.goto (-27), 3) := by decide +kernel
theorem dX6_putIn_33 : decode cX6_putIn 33 = .ok (.return_, 1) := by decide +kernel
theorem dX6_takeOrKeep_0 : decode cX6_takeOrKeep 0 = .ok (.iconst 0, 1) := by decide +kernel
theorem dX6_takeOrKeep_1 : decode cX6_takeOrKeep 1 = .ok (.istore 4, 2) := by decide +kernel
theorem dX6_takeOrKeep_3 : decode cX6_takeOrKeep 3 = .ok (.iload 4, 2) := by decide +kernel
theorem dX6_takeOrKeep_5 : decode cX6_takeOrKeep 5 = .ok (.iload_n 2, 1) := by decide +kernel
theorem dX6_takeOrKeep_6 : decode cX6_takeOrKeep 6 = .ok (.if_icmp .ge 38, 3) := by decide +kernel
theorem dX6_takeOrKeep_9 : decode cX6_takeOrKeep 9 = .ok (.iload_n 3, 1) := by decide +kernel
theorem dX6_takeOrKeep_10 : decode cX6_takeOrKeep 10 = .ok (.ifCond .eq 18, 3) := by decide +kernel
theorem dX6_takeOrKeep_13 : decode cX6_takeOrKeep 13 = .ok (.aload_n 0, 1) := by decide +kernel
theorem dX6_takeOrKeep_14 : decode cX6_takeOrKeep 14 = .ok (.getfield 14, 3) := by decide +kernel
theorem dX6_takeOrKeep_17 : decode cX6_takeOrKeep 17 = .ok (.aload_n 1, 1) := by decide +kernel
theorem dX6_takeOrKeep_18 : decode cX6_takeOrKeep 18 = .ok (.aload_n 0, 1) := by decide +kernel
theorem dX6_takeOrKeep_19 : decode cX6_takeOrKeep 19 = .ok (.getfield 23, 3) := by decide +kernel
theorem dX6_takeOrKeep_22 : decode cX6_takeOrKeep 22 = .ok (.invokevirtual 48, 3) := by decide +kernel
theorem dX6_takeOrKeep_25 : decode cX6_takeOrKeep 25 = .ok (.invokevirtual 69, 3) := by decide +kernel
theorem dX6_takeOrKeep_28 : decode cX6_takeOrKeep 28 = .ok (.aload_n 0, 1) := by decide +kernel
theorem dX6_takeOrKeep_29 : decode cX6_takeOrKeep 29 = .ok (.dup, 1) := by decide +kernel
theorem dX6_takeOrKeep_30 : decode cX6_takeOrKeep 30 = .ok (.getfield 23, 3) := by decide +kernel
theorem dX6_takeOrKeep_33 : decode cX6_takeOrKeep 33 = .ok (.iconst 1, 1) := by decide +kernel
theorem dX6_takeOrKeep_34 : decode cX6_takeOrKeep 34 = .ok (.iadd, 1) := by decide +kernel
theorem dX6_takeOrKeep_35 : decode cX6_takeOrKeep 35 = .ok (.putfield 23, 3) := by decide +kernel
theorem dX6_takeOrKeep_38 : decode cX6_takeOrKeep 38 = .ok (.iinc 4 1, 3) := by decide +kernel
theorem dX6_takeOrKeep_41 : decode cX6_takeOrKeep 41 = .ok (.goto (-38), 3) := by decide +kernel
theorem dX6_takeOrKeep_44 : decode cX6_takeOrKeep 44 = .ok (.return_, 1) := by decide +kernel
theorem dX6_endOf_0 : decode cX6_endOf 0 = .ok (.iload_n 1, 1) := by decide +kernel
theorem dX6_endOf_1 : decode cX6_endOf 1 = .ok (.istore_n 2, 1) := by decide +kernel
theorem dX6_endOf_2 : decode cX6_endOf 2 = .ok (.iload_n 2, 1) := by decide +kernel
theorem dX6_endOf_3 : decode cX6_endOf 3 = .ok (.aload_n 0, 1) := by decide +kernel
theorem dX6_endOf_4 : decode cX6_endOf 4 = .ok (.getfield 30, 3) := by decide +kernel
theorem dX6_endOf_7 : decode cX6_endOf 7 = .ok (.if_icmp .ge 23, 3) := by decide +kernel
theorem dX6_endOf_10 : decode cX6_endOf 10 = .ok (.aload_n 0, 1) := by decide +kernel
theorem dX6_endOf_11 : decode cX6_endOf 11 = .ok (.iload_n 2, 1) := by decide +kernel
theorem dX6_endOf_12 : decode cX6_endOf 12 = .ok (.invokevirtual 48, 3) := by decide +kernel
theorem dX6_endOf_15 : decode cX6_endOf 15 = .ok (.bipush 59, 2) := by decide +kernel
theorem dX6_endOf_17 : decode cX6_endOf 17 = .ok (.if_icmp .ne 7, 3) := by decide +kernel
theorem dX6_endOf_20 : decode cX6_endOf 20 = .ok (.iload_n 2, 1) := by decide +kernel
theorem dX6_endOf_21 : decode cX6_endOf 21 = .ok (.iconst 1, 1) := by decide +kernel
theorem dX6_endOf_22 : decode cX6_endOf 22 = .ok (.iadd, 1) := by decide +kernel
theorem dX6_endOf_23 : decode cX6_endOf 23 = .ok (.ireturn, 1) := by decide +kernel
theorem dX6_endOf_24 : decode cX6_endOf 24 = .ok (.iinc 2 1, 3) := by decide +kernel
theorem dX6_endOf_27 : decode cX6_endOf 27 = .ok (.goto (-25), 3) := by decide +kernel
theorem dX6_endOf_30 : decode cX6_endOf 30 = .ok (.aload_n 0, 1) := by decide +kernel
theorem dX6_endOf_31 : decode cX6_endOf 31 = .ok (.getfield 30, 3) := by decide +kernel
theorem dX6_endOf_34 : decode cX6_endOf 34 = .ok (.ireturn, 1) := by decide +kernel
theorem dX6_breakOf_0 : decode cX6_breakOf 0 = .ok (.aload_n 0, 1) := by decide +kernel
theorem dX6_breakOf_1 : decode cX6_breakOf 1 = .ok (.iload_n 1, 1) := by decide +kernel
theorem dX6_breakOf_2 : decode cX6_breakOf 2 = .ok (.invokevirtual 48, 3) := by decide +kernel
theorem dX6_breakOf_5 : decode cX6_breakOf 5 = .ok (.istore_n 2, 1) := by decide +kernel
theorem dX6_breakOf_6 : decode cX6_breakOf 6 = .ok (.iload_n 2, 1) := by decide +kernel
theorem dX6_breakOf_7 : decode cX6_breakOf 7 = .ok (.bipush 43, 2) := by decide +kernel
theorem dX6_breakOf_9 : decode cX6_breakOf 9 = .ok (.if_icmp .ne 9, 3) := by decide +kernel
theorem dX6_breakOf_12 : decode cX6_breakOf 12 = .ok (.aload_n 0, 1) := by decide +kernel
theorem dX6_breakOf_13 : decode cX6_breakOf 13 = .ok (.iload_n 1, 1) := by decide +kernel
theorem dX6_breakOf_14 : decode cX6_breakOf 14 = .ok (.invokestatic 72, 3) := by decide +kernel
theorem dX6_breakOf_17 : decode cX6_breakOf 17 = .ok (.ireturn, 1) := by decide +kernel
theorem dX6_breakOf_18 : decode cX6_breakOf 18 = .ok (.iload_n 2, 1) := by decide +kernel
theorem dX6_breakOf_19 : decode cX6_breakOf 19 = .ok (.bipush 61, 2) := by decide +kernel
theorem dX6_breakOf_21 : decode cX6_breakOf 21 = .ok (.if_icmp .eq 9, 3) := by decide +kernel
theorem dX6_breakOf_24 : decode cX6_breakOf 24 = .ok (.iload_n 2, 1) := by decide +kernel
theorem dX6_breakOf_25 : decode cX6_breakOf 25 = .ok (.bipush 45, 2) := by decide +kernel
theorem dX6_breakOf_27 : decode cX6_breakOf 27 = .ok (.if_icmp .ne 11, 3) := by decide +kernel
theorem dX6_breakOf_30 : decode cX6_breakOf 30 = .ok (.aload_n 0, 1) := by decide +kernel
theorem dX6_breakOf_31 : decode cX6_breakOf 31 = .ok (.iload_n 1, 1) := by decide +kernel
theorem dX6_breakOf_32 : decode cX6_breakOf 32 = .ok (.invokestatic 75, 3) := by decide +kernel
theorem dX6_breakOf_35 : decode cX6_breakOf 35 = .ok (.goto 4, 3) := by decide +kernel
theorem dX6_breakOf_38 : decode cX6_breakOf 38 = .ok (.iconst 0, 1) := by decide +kernel
theorem dX6_breakOf_39 : decode cX6_breakOf 39 = .ok (.ireturn, 1) := by decide +kernel
theorem dX6_breakOfLetters_0 : decode cX6_breakOfLetters 0 = .ok (.iconst 0, 1) := by decide +kernel
theorem dX6_breakOfLetters_1 : decode cX6_breakOfLetters 1 = .ok (.istore_n 2, 1) := by decide +kernel
theorem dX6_breakOfLetters_2 : decode cX6_breakOfLetters 2 = .ok (.iload_n 2, 1) := by decide +kernel
theorem dX6_breakOfLetters_3 : decode cX6_breakOfLetters 3 = .ok (.bipush 60, 2) := by decide +kernel
theorem dX6_breakOfLetters_5 : decode cX6_breakOfLetters 5 = .ok (.if_icmp .ge 28, 3) := by decide +kernel
theorem dX6_breakOfLetters_8 : decode cX6_breakOfLetters 8 = .ok (.aload_n 0, 1) := by decide +kernel
theorem dX6_breakOfLetters_9 : decode cX6_breakOfLetters 9 = .ok (.iload_n 1, 1) := by decide +kernel
theorem dX6_breakOfLetters_10 : decode cX6_breakOfLetters 10 = .ok (.iconst 1, 1) := by decide +kernel
theorem dX6_breakOfLetters_11 : decode cX6_breakOfLetters 11 = .ok (.iadd, 1) := by decide +kernel
theorem dX6_breakOfLetters_12 : decode cX6_breakOfLetters 12 = .ok (.iload_n 2, 1) := by decide +kernel
theorem dX6_breakOfLetters_13 : decode cX6_breakOfLetters 13 = .ok (.iadd, 1) := by decide +kernel
theorem dX6_breakOfLetters_14 : decode cX6_breakOfLetters 14 = .ok (.invokevirtual 48, 3) := by decide +kernel
theorem dX6_breakOfLetters_17 : decode cX6_breakOfLetters 17 = .ok (.bipush 97, 2) := by decide +kernel
theorem dX6_breakOfLetters_19 : decode cX6_breakOfLetters 19 = .ok (.bipush 104, 2) := by decide +kernel
theorem dX6_breakOfLetters_21 : decode cX6_breakOfLetters 21 = .ok (.invokestatic 78, 3) := by decide +kernel
theorem dX6_breakOfLetters_24 : decode cX6_breakOfLetters 24 = .ok (.ifCond .eq 9, 3) := by decide +kernel
theorem dX6_breakOfLetters_27 : decode cX6_breakOfLetters 27 = .ok (.iinc 2 1, 3) := by decide +kernel
theorem dX6_breakOfLetters_30 : decode cX6_breakOfLetters 30 = .ok (.goto (-28), 3) := by decide +kernel
theorem dX6_breakOfLetters_33 : decode cX6_breakOfLetters 33 = .ok (.iload_n 2, 1) := by decide +kernel
theorem dX6_breakOfLetters_34 : decode cX6_breakOfLetters 34 = .ok (.ifCond .le 21, 3) := by decide +kernel
theorem dX6_breakOfLetters_37 : decode cX6_breakOfLetters 37 = .ok (.aload_n 0, 1) := by decide +kernel
theorem dX6_breakOfLetters_38 : decode cX6_breakOfLetters 38 = .ok (.iload_n 1, 1) := by decide +kernel
theorem dX6_breakOfLetters_39 : decode cX6_breakOfLetters 39 = .ok (.iconst 1, 1) := by decide +kernel
theorem dX6_breakOfLetters_40 : decode cX6_breakOfLetters 40 = .ok (.iadd, 1) := by decide +kernel
theorem dX6_breakOfLetters_41 : decode cX6_breakOfLetters 41 = .ok (.iload_n 2, 1) := by decide +kernel
theorem dX6_breakOfLetters_42 : decode cX6_breakOfLetters 42 = .ok (.iadd, 1) := by decide +kernel
theorem dX6_breakOfLetters_43 : decode cX6_breakOfLetters 43 = .ok (.invokevirtual 48, 3) := by decide +kernel
theorem dX6_breakOfLetters_46 : decode cX6_breakOfLetters 46 = .ok (.bipush 59, 2) := by decide +kernel
theorem dX6_breakOfLetters_48 : decode cX6_breakOfLetters 48 = .ok (.if_icmp .ne 7, 3) := by decide +kernel
theorem dX6_breakOfLetters_51 : decode cX6_breakOfLetters 51 = .ok (.iconst (-1), 1) := by decide +kernel
theorem dX6_breakOfLetters_52 : decode cX6_breakOfLetters 52 = .ok (.goto 6, 3) := by decide +kernel
theorem dX6_breakOfLetters_55 : decode cX6_breakOfLetters 55 = .ok (.iload_n 2, 1) := by decide +kernel
theorem dX6_breakOfLetters_56 : decode cX6_breakOfLetters 56 = .ok (.iconst 1, 1) := by decide +kernel
theorem dX6_breakOfLetters_57 : decode cX6_breakOfLetters 57 = .ok (.iadd, 1) := by decide +kernel
theorem dX6_breakOfLetters_58 : decode cX6_breakOfLetters 58 = .ok (.ireturn, 1) := by decide +kernel
theorem dX6_breakOfNumber_0 : decode cX6_breakOfNumber 0 = .ok (.aload_n 0, 1) := by decide +kernel
theorem dX6_breakOfNumber_1 : decode cX6_breakOfNumber 1 = .ok (.iload_n 1, 1) := by decide +kernel
theorem dX6_breakOfNumber_2 : decode cX6_breakOfNumber 2 = .ok (.iconst 1, 1) := by decide +kernel
theorem dX6_breakOfNumber_3 : decode cX6_breakOfNumber 3 = .ok (.iadd, 1) := by decide +kernel
theorem dX6_breakOfNumber_4 : decode cX6_breakOfNumber 4 = .ok (.invokevirtual 48, 3) := by decide +kernel
theorem dX6_breakOfNumber_7 : decode cX6_breakOfNumber 7 = .ok (.bipush 49, 2) := by decide +kernel
theorem dX6_breakOfNumber_9 : decode cX6_breakOfNumber 9 = .ok (.bipush 57, 2) := by decide +kernel
theorem dX6_breakOfNumber_11 : decode cX6_breakOfNumber 11 = .ok (.invokestatic 78, 3) := by decide +kernel
theorem dX6_breakOfNumber_14 : decode cX6_breakOfNumber 14 = .ok (.ifCond .ne 5, 3) := by decide +kernel
theorem dX6_breakOfNumber_17 : decode cX6_breakOfNumber 17 = .ok (.iconst 1, 1) := by decide +kernel
theorem dX6_breakOfNumber_18 : decode cX6_breakOfNumber 18 = .ok (.ireturn, 1) := by decide +kernel
theorem dX6_breakOfNumber_19 : decode cX6_breakOfNumber 19 = .ok (.aload_n 0, 1) := by decide +kernel
theorem dX6_breakOfNumber_20 : decode cX6_breakOfNumber 20 = .ok (.iload_n 1, 1) := by decide +kernel
theorem dX6_breakOfNumber_21 : decode cX6_breakOfNumber 21 = .ok (.iconst 2, 1) := by decide +kernel
theorem dX6_breakOfNumber_22 : decode cX6_breakOfNumber 22 = .ok (.iadd, 1) := by decide +kernel
theorem dX6_breakOfNumber_23 : decode cX6_breakOfNumber 23 = .ok (.invokevirtual 48, 3) := by decide +kernel
theorem dX6_breakOfNumber_26 : decode cX6_breakOfNumber 26 = .ok (.bipush 48, 2) := by decide +kernel
theorem dX6_breakOfNumber_28 : decode cX6_breakOfNumber 28 = .ok (.bipush 57, 2) := by decide +kernel
theorem dX6_breakOfNumber_30 : decode cX6_breakOfNumber 30 = .ok (.invokestatic 78, 3) := by decide +kernel
theorem dX6_breakOfNumber_33 : decode cX6_breakOfNumber 33 = .ok (.ifCond .eq 7, 3) := by decide +kernel
theorem dX6_breakOfNumber_36 : decode cX6_breakOfNumber 36 = .ok (.iconst 2, 1) := by decide +kernel
theorem dX6_breakOfNumber_37 : decode cX6_breakOfNumber 37 = .ok (.goto 4, 3) := by decide +kernel
theorem dX6_breakOfNumber_40 : decode cX6_breakOfNumber 40 = .ok (.iconst 1, 1) := by decide +kernel
theorem dX6_breakOfNumber_41 : decode cX6_breakOfNumber 41 = .ok (.istore_n 2, 1) := by decide +kernel
theorem dX6_breakOfNumber_42 : decode cX6_breakOfNumber 42 = .ok (.aload_n 0, 1) := by decide +kernel
theorem dX6_breakOfNumber_43 : decode cX6_breakOfNumber 43 = .ok (.iload_n 1, 1) := by decide +kernel
theorem dX6_breakOfNumber_44 : decode cX6_breakOfNumber 44 = .ok (.iconst 1, 1) := by decide +kernel
theorem dX6_breakOfNumber_45 : decode cX6_breakOfNumber 45 = .ok (.iadd, 1) := by decide +kernel
theorem dX6_breakOfNumber_46 : decode cX6_breakOfNumber 46 = .ok (.iload_n 2, 1) := by decide +kernel
theorem dX6_breakOfNumber_47 : decode cX6_breakOfNumber 47 = .ok (.iadd, 1) := by decide +kernel
theorem dX6_breakOfNumber_48 : decode cX6_breakOfNumber 48 = .ok (.invokevirtual 48, 3) := by decide +kernel
theorem dX6_breakOfNumber_51 : decode cX6_breakOfNumber 51 = .ok (.bipush 59, 2) := by decide +kernel
theorem dX6_breakOfNumber_53 : decode cX6_breakOfNumber 53 = .ok (.if_icmp .ne 7, 3) := by decide +kernel
theorem dX6_breakOfNumber_56 : decode cX6_breakOfNumber 56 = .ok (.iconst (-1), 1) := by decide +kernel
theorem dX6_breakOfNumber_57 : decode cX6_breakOfNumber 57 = .ok (.goto 6, 3) := by decide +kernel
theorem dX6_breakOfNumber_60 : decode cX6_breakOfNumber 60 = .ok (.iload_n 2, 1) := by decide +kernel
theorem dX6_breakOfNumber_61 : decode cX6_breakOfNumber 61 = .ok (.iconst 1, 1) := by decide +kernel
theorem dX6_breakOfNumber_62 : decode cX6_breakOfNumber 62 = .ok (.iadd, 1) := by decide +kernel
theorem dX6_breakOfNumber_63 : decode cX6_breakOfNumber 63 = .ok (.ireturn, 1) := by decide +kernel
theorem dX6_numberAt_0 : decode cX6_numberAt 0 = .ok (.aload_n 0, 1) := by decide +kernel
theorem dX6_numberAt_1 : decode cX6_numberAt 1 = .ok (.iload_n 1, 1) := by decide +kernel
theorem dX6_numberAt_2 : decode cX6_numberAt 2 = .ok (.invokevirtual 48, 3) := by decide +kernel
theorem dX6_numberAt_5 : decode cX6_numberAt 5 = .ok (.bipush 48, 2) := by decide +kernel
theorem dX6_numberAt_7 : decode cX6_numberAt 7 = .ok (.isub, 1) := by decide +kernel
theorem dX6_numberAt_8 : decode cX6_numberAt 8 = .ok (.istore_n 2, 1) := by decide +kernel
theorem dX6_numberAt_9 : decode cX6_numberAt 9 = .ok (.aload_n 0, 1) := by decide +kernel
theorem dX6_numberAt_10 : decode cX6_numberAt 10 = .ok (.iload_n 1, 1) := by decide +kernel
theorem dX6_numberAt_11 : decode cX6_numberAt 11 = .ok (.iconst 1, 1) := by decide +kernel
theorem dX6_numberAt_12 : decode cX6_numberAt 12 = .ok (.iadd, 1) := by decide +kernel
theorem dX6_numberAt_13 : decode cX6_numberAt 13 = .ok (.invokevirtual 48, 3) := by decide +kernel
theorem dX6_numberAt_16 : decode cX6_numberAt 16 = .ok (.istore_n 3, 1) := by decide +kernel
theorem dX6_numberAt_17 : decode cX6_numberAt 17 = .ok (.iload_n 3, 1) := by decide +kernel
theorem dX6_numberAt_18 : decode cX6_numberAt 18 = .ok (.bipush 59, 2) := by decide +kernel
theorem dX6_numberAt_20 : decode cX6_numberAt 20 = .ok (.if_icmp .ne 7, 3) := by decide +kernel
theorem dX6_numberAt_23 : decode cX6_numberAt 23 = .ok (.iload_n 2, 1) := by decide +kernel
theorem dX6_numberAt_24 : decode cX6_numberAt 24 = .ok (.goto 12, 3) := by decide +kernel
theorem dX6_numberAt_27 : decode cX6_numberAt 27 = .ok (.iload_n 2, 1) := by decide +kernel
theorem dX6_numberAt_28 : decode cX6_numberAt 28 = .ok (.bipush 10, 2) := by decide +kernel
theorem dX6_numberAt_30 : decode cX6_numberAt 30 = .ok (.imul, 1) := by decide +kernel
theorem dX6_numberAt_31 : decode cX6_numberAt 31 = .ok (.iload_n 3, 1) := by decide +kernel
theorem dX6_numberAt_32 : decode cX6_numberAt 32 = .ok (.iadd, 1) := by decide +kernel
theorem dX6_numberAt_33 : decode cX6_numberAt 33 = .ok (.bipush 48, 2) := by decide +kernel
theorem dX6_numberAt_35 : decode cX6_numberAt 35 = .ok (.isub, 1) := by decide +kernel
theorem dX6_numberAt_36 : decode cX6_numberAt 36 = .ok (.ireturn, 1) := by decide +kernel
theorem dX7_init_0 : decode cX7_init 0 = .ok (.aload_n 0, 1) := by decide +kernel
theorem dX7_init_1 : decode cX7_init 1 = .ok (.invokespecial 3, 3) := by decide +kernel
theorem dX7_init_4 : decode cX7_init 4 = .ok (.aload_n 0, 1) := by decide +kernel
theorem dX7_init_5 : decode cX7_init 5 = .ok (.iload_n 1, 1) := by decide +kernel
theorem dX7_init_6 : decode cX7_init 6 = .ok (.iconst 0, 1) := by decide +kernel
theorem dX7_init_7 : decode cX7_init 7 = .ok (.invokestatic 9, 3) := by decide +kernel
theorem dX7_init_10 : decode cX7_init 10 = .ok (.newarray .int, 2) := by decide +kernel
theorem dX7_init_12 : decode cX7_init 12 = .ok (.putfield 15, 3) := by decide +kernel
theorem dX7_init_15 : decode cX7_init 15 = .ok (.return_, 1) := by decide +kernel
theorem dX7_at_0 : decode cX7_at 0 = .ok (.iload_n 1, 1) := by decide +kernel
theorem dX7_at_1 : decode cX7_at 1 = .ok (.ifCond .lt 20, 3) := by decide +kernel
theorem dX7_at_4 : decode cX7_at 4 = .ok (.iload_n 1, 1) := by decide +kernel
theorem dX7_at_5 : decode cX7_at 5 = .ok (.aload_n 0, 1) := by decide +kernel
theorem dX7_at_6 : decode cX7_at 6 = .ok (.getfield 21, 3) := by decide +kernel
theorem dX7_at_9 : decode cX7_at 9 = .ok (.if_icmp .ge 12, 3) := by decide +kernel
theorem dX7_at_12 : decode cX7_at 12 = .ok (.iload_n 1, 1) := by decide +kernel
theorem dX7_at_13 : decode cX7_at 13 = .ok (.aload_n 0, 1) := by decide +kernel
theorem dX7_at_14 : decode cX7_at 14 = .ok (.getfield 15, 3) := by decide +kernel
theorem dX7_at_17 : decode cX7_at 17 = .ok (.arraylength, 1) := by decide +kernel
theorem dX7_at_18 : decode cX7_at 18 = .ok (.if_icmp .lt 5, 3) := by decide +kernel
theorem dX7_at_21 : decode cX7_at 21 = .ok (.iconst (-1), 1) := by decide +kernel
theorem dX7_at_22 : decode cX7_at 22 = .ok (.ireturn, 1) := by decide +kernel
theorem dX7_at_23 : decode cX7_at 23 = .ok (.aload_n 0, 1) := by decide +kernel
theorem dX7_at_24 : decode cX7_at 24 = .ok (.getfield 15, 3) := by decide +kernel
theorem dX7_at_27 : decode cX7_at 27 = .ok (.iload_n 1, 1) := by decide +kernel
theorem dX7_at_28 : decode cX7_at 28 = .ok (.iaload, 1) := by decide +kernel
theorem dX7_at_29 : decode cX7_at 29 = .ok (.ireturn, 1) := by decide +kernel
theorem dX7_put_0 : decode cX7_put 0 = .ok (.iload_n 1, 1) := by decide +kernel
theorem dX7_put_1 : decode cX7_put 1 = .ok (.ifCond .lt 27, 3) := by decide +kernel
theorem dX7_put_4 : decode cX7_put 4 = .ok (.iload_n 1, 1) := by decide +kernel
theorem dX7_put_5 : decode cX7_put 5 = .ok (.aload_n 0, 1) := by decide +kernel
theorem dX7_put_6 : decode cX7_put 6 = .ok (.getfield 21, 3) := by decide +kernel
theorem dX7_put_9 : decode cX7_put 9 = .ok (.if_icmp .ge 19, 3) := by decide +kernel
theorem dX7_put_12 : decode cX7_put 12 = .ok (.iload_n 1, 1) := by decide +kernel
theorem dX7_put_13 : decode cX7_put 13 = .ok (.aload_n 0, 1) := by decide +kernel
theorem dX7_put_14 : decode cX7_put 14 = .ok (.getfield 15, 3) := by decide +kernel
theorem dX7_put_17 : decode cX7_put 17 = .ok (.arraylength, 1) := by decide +kernel
theorem dX7_put_18 : decode cX7_put 18 = .ok (.if_icmp .ge 10, 3) := by decide +kernel
theorem dX7_put_21 : decode cX7_put 21 = .ok (.aload_n 0, 1) := by decide +kernel
theorem dX7_put_22 : decode cX7_put 22 = .ok (.getfield 15, 3) := by decide +kernel
theorem dX7_put_25 : decode cX7_put 25 = .ok (.iload_n 1, 1) := by decide +kernel
theorem dX7_put_26 : decode cX7_put 26 = .ok (.iload_n 2, 1) := by decide +kernel
theorem dX7_put_27 : decode cX7_put 27 = .ok (.iastore, 1) := by decide +kernel
theorem dX7_put_28 : decode cX7_put 28 = .ok (.return_, 1) := by decide +kernel
theorem dX7_add_0 : decode cX7_add 0 = .ok (.aload_n 0, 1) := by decide +kernel
theorem dX7_add_1 : decode cX7_add 1 = .ok (.getfield 21, 3) := by decide +kernel
theorem dX7_add_4 : decode cX7_add 4 = .ok (.ifCond .lt 35, 3) := by decide +kernel
theorem dX7_add_7 : decode cX7_add 7 = .ok (.aload_n 0, 1) := by decide +kernel
theorem dX7_add_8 : decode cX7_add 8 = .ok (.getfield 21, 3) := by decide +kernel
theorem dX7_add_11 : decode cX7_add 11 = .ok (.aload_n 0, 1) := by decide +kernel
theorem dX7_add_12 : decode cX7_add 12 = .ok (.getfield 15, 3) := by decide +kernel
theorem dX7_add_15 : decode cX7_add 15 = .ok (.arraylength, 1) := by decide +kernel
theorem dX7_add_16 : decode cX7_add 16 = .ok (.if_icmp .ge 23, 3) := by decide +kernel
theorem dX7_add_19 : decode cX7_add 19 = .ok (.aload_n 0, 1) := by decide +kernel
theorem dX7_add_20 : decode cX7_add 20 = .ok (.getfield 15, 3) := by decide +kernel
theorem dX7_add_23 : decode cX7_add 23 = .ok (.aload_n 0, 1) := by decide +kernel
theorem dX7_add_24 : decode cX7_add 24 = .ok (.getfield 21, 3) := by decide +kernel
theorem dX7_add_27 : decode cX7_add 27 = .ok (.iload_n 1, 1) := by decide +kernel
theorem dX7_add_28 : decode cX7_add 28 = .ok (.iastore, 1) := by decide +kernel
theorem dX7_add_29 : decode cX7_add 29 = .ok (.aload_n 0, 1) := by decide +kernel
theorem dX7_add_30 : decode cX7_add 30 = .ok (.dup, 1) := by decide +kernel
theorem dX7_add_31 : decode cX7_add 31 = .ok (.getfield 21, 3) := by decide +kernel
theorem dX7_add_34 : decode cX7_add 34 = .ok (.iconst 1, 1) := by decide +kernel
theorem dX7_add_35 : decode cX7_add 35 = .ok (.iadd, 1) := by decide +kernel
theorem dX7_add_36 : decode cX7_add 36 = .ok (.putfield 21, 3) := by decide +kernel
theorem dX7_add_39 : decode cX7_add 39 = .ok (.return_, 1) := by decide +kernel
theorem dX7_empty_0 : decode cX7_empty 0 = .ok (.aload_n 0, 1) := by decide +kernel
theorem dX7_empty_1 : decode cX7_empty 1 = .ok (.iconst 0, 1) := by decide +kernel
theorem dX7_empty_2 : decode cX7_empty 2 = .ok (.putfield 21, 3) := by decide +kernel
theorem dX7_empty_5 : decode cX7_empty 5 = .ok (.return_, 1) := by decide +kernel
theorem dX7_remove_0 : decode cX7_remove 0 = .ok (.iload_n 1, 1) := by decide +kernel
theorem dX7_remove_1 : decode cX7_remove 1 = .ok (.iload_n 2, 1) := by decide +kernel
theorem dX7_remove_2 : decode cX7_remove 2 = .ok (.iadd, 1) := by decide +kernel
theorem dX7_remove_3 : decode cX7_remove 3 = .ok (.istore_n 3, 1) := by decide +kernel
theorem dX7_remove_4 : decode cX7_remove 4 = .ok (.iload_n 3, 1) := by decide +kernel
theorem dX7_remove_5 : decode cX7_remove 5 = .ok (.aload_n 0, 1) := by decide +kernel
theorem dX7_remove_6 : decode cX7_remove 6 = .ok (.getfield 21, 3) := by decide +kernel
theorem dX7_remove_9 : decode cX7_remove 9 = .ok (.if_icmp .ge 21, 3) := by decide +kernel
theorem dX7_remove_12 : decode cX7_remove 12 = .ok (.aload_n 0, 1) := by decide +kernel
theorem dX7_remove_13 : decode cX7_remove 13 = .ok (.iload_n 3, 1) := by decide +kernel
theorem dX7_remove_14 : decode cX7_remove 14 = .ok (.iload_n 2, 1) := by decide +kernel
theorem dX7_remove_15 : decode cX7_remove 15 = .ok (.isub, 1) := by decide +kernel
theorem dX7_remove_16 : decode cX7_remove 16 = .ok (.aload_n 0, 1) := by decide +kernel
theorem dX7_remove_17 : decode cX7_remove 17 = .ok (.iload_n 3, 1) := by decide +kernel
theorem dX7_remove_18 : decode cX7_remove 18 = .ok (.invokevirtual 25, 3) := by decide +kernel
theorem dX7_remove_21 : decode cX7_remove 21 = .ok (.invokevirtual 29, 3) := by decide +kernel
theorem dX7_remove_24 : decode cX7_remove 24 = .ok (.iinc 3 1, 3) := by decide +kernel
theorem dX7_remove_27 : decode cX7_remove 27 = .ok (.goto (-23), 3) := by decide +kernel
theorem dX7_remove_30 : decode cX7_remove 30 = .ok (.aload_n 0, 1) := by decide +kernel
theorem dX7_remove_31 : decode cX7_remove 31 = .ok (.aload_n 0, 1) := by decide +kernel
theorem dX7_remove_32 : decode cX7_remove 32 = .ok (.getfield 21, 3) := by decide +kernel
theorem dX7_remove_35 : decode cX7_remove 35 = .ok (.iload_n 2, 1) := by decide +kernel
theorem dX7_remove_36 : decode cX7_remove 36 = .ok (.isub, 1) := by decide +kernel
theorem dX7_remove_37 : decode cX7_remove 37 = .ok (.iconst 0, 1) := by decide +kernel
theorem dX7_remove_38 : decode cX7_remove 38 = .ok (.invokestatic 9, 3) := by decide +kernel
theorem dX7_remove_41 : decode cX7_remove 41 = .ok (.putfield 21, 3) := by decide +kernel
theorem dX7_remove_44 : decode cX7_remove 44 = .ok (.return_, 1) := by decide +kernel
theorem dX7_copyFrom_0 : decode cX7_copyFrom 0 = .ok (.aload_n 0, 1) := by decide +kernel
theorem dX7_copyFrom_1 : decode cX7_copyFrom 1 = .ok (.invokevirtual 33, 3) := by decide +kernel
theorem dX7_copyFrom_4 : decode cX7_copyFrom 4 = .ok (.iconst 0, 1) := by decide +kernel
theorem dX7_copyFrom_5 : decode cX7_copyFrom 5 = .ok (.istore_n 2, 1) := by decide +kernel
theorem dX7_copyFrom_6 : decode cX7_copyFrom 6 = .ok (.iload_n 2, 1) := by decide +kernel
theorem dX7_copyFrom_7 : decode cX7_copyFrom 7 = .ok (.aload_n 1, 1) := by decide +kernel
theorem dX7_copyFrom_8 : decode cX7_copyFrom 8 = .ok (.getfield 21, 3) := by decide +kernel
theorem dX7_copyFrom_11 : decode cX7_copyFrom 11 = .ok (.if_icmp .ge 18, 3) := by decide +kernel
theorem dX7_copyFrom_14 : decode cX7_copyFrom 14 = .ok (.aload_n 0, 1) := by decide +kernel
theorem dX7_copyFrom_15 : decode cX7_copyFrom 15 = .ok (.aload_n 1, 1) := by decide +kernel
theorem dX7_copyFrom_16 : decode cX7_copyFrom 16 = .ok (.iload_n 2, 1) := by decide +kernel
theorem dX7_copyFrom_17 : decode cX7_copyFrom 17 = .ok (.invokevirtual 25, 3) := by decide +kernel
theorem dX7_copyFrom_20 : decode cX7_copyFrom 20 = .ok (.invokevirtual 36, 3) := by decide +kernel
theorem dX7_copyFrom_23 : decode cX7_copyFrom 23 = .ok (.iinc 2 1, 3) := by decide +kernel
theorem dX7_copyFrom_26 : decode cX7_copyFrom 26 = .ok (.goto (-20), 3) := by decide +kernel
theorem dX7_copyFrom_29 : decode cX7_copyFrom 29 = .ok (.return_, 1) := by decide +kernel
theorem dX8_init_0 : decode cX8_init 0 = .ok (.aload_n 0, 1) := by decide +kernel
theorem dX8_init_1 : decode cX8_init 1 = .ok (.invokespecial 3, 3) := by decide +kernel
theorem dX8_init_4 : decode cX8_init 4 = .ok (.aload_n 0, 1) := by decide +kernel
theorem dX8_init_5 : decode cX8_init 5 = .ok (.bipush 57, 2) := by decide +kernel
theorem dX8_init_7 : decode cX8_init 7 = .ok (.newarray .int, 2) := by decide +kernel
theorem dX8_init_9 : decode cX8_init 9 = .ok (.putfield 9, 3) := by decide +kernel
theorem dX8_init_12 : decode cX8_init 12 = .ok (.aload_n 0, 1) := by decide +kernel
theorem dX8_init_13 : decode cX8_init 13 = .ok (.bipush 57, 2) := by decide +kernel
theorem dX8_init_15 : decode cX8_init 15 = .ok (.newarray .int, 2) := by decide +kernel
theorem dX8_init_17 : decode cX8_init 17 = .ok (.putfield 15, 3) := by decide +kernel
theorem dX8_init_20 : decode cX8_init 20 = .ok (.aload_n 0, 1) := by decide +kernel
theorem dX8_init_21 : decode cX8_init 21 = .ok (.bipush 57, 2) := by decide +kernel
theorem dX8_init_23 : decode cX8_init 23 = .ok (.newarray .int, 2) := by decide +kernel
theorem dX8_init_25 : decode cX8_init 25 = .ok (.putfield 18, 3) := by decide +kernel
theorem dX8_init_28 : decode cX8_init 28 = .ok (.aload_n 0, 1) := by decide +kernel
theorem dX8_init_29 : decode cX8_init 29 = .ok (.bipush 57, 2) := by decide +kernel
theorem dX8_init_31 : decode cX8_init 31 = .ok (.newarray .int, 2) := by decide +kernel
theorem dX8_init_33 : decode cX8_init 33 = .ok (.putfield 21, 3) := by decide +kernel
theorem dX8_init_36 : decode cX8_init 36 = .ok (.return_, 1) := by decide +kernel
theorem dX8_rebuild_0 : decode cX8_rebuild 0 = .ok (.aload_n 1, 1) := by decide +kernel
theorem dX8_rebuild_1 : decode cX8_rebuild 1 = .ok (.getfield 24, 3) := by decide +kernel
theorem dX8_rebuild_4 : decode cX8_rebuild 4 = .ok (.getfield 30, 3) := by decide +kernel
theorem dX8_rebuild_7 : decode cX8_rebuild 7 = .ok (.istore_n 3, 1) := by decide +kernel
theorem dX8_rebuild_8 : decode cX8_rebuild 8 = .ok (.aload_n 1, 1) := by decide +kernel
theorem dX8_rebuild_9 : decode cX8_rebuild 9 = .ok (.getfield 36, 3) := by decide +kernel
theorem dX8_rebuild_12 : decode cX8_rebuild 12 = .ok (.getfield 30, 3) := by decide +kernel
theorem dX8_rebuild_15 : decode cX8_rebuild 15 = .ok (.istore 4, 2) := by decide +kernel
theorem dX8_rebuild_17 : decode cX8_rebuild 17 = .ok (.aload_n 0, 1) := by decide +kernel
theorem dX8_rebuild_18 : decode cX8_rebuild 18 = .ok (.iload_n 3, 1) := by decide +kernel
theorem dX8_rebuild_19 : decode cX8_rebuild 19 = .ok (.iload 4, 2) := by decide +kernel
theorem dX8_rebuild_21 : decode cX8_rebuild 21 = .ok (.iadd, 1) := by decide +kernel
theorem dX8_rebuild_22 : decode cX8_rebuild 22 = .ok (.aload_n 2, 1) := by decide +kernel
theorem dX8_rebuild_23 : decode cX8_rebuild 23 = .ok (.getfield 39, 3) := by decide +kernel
theorem dX8_rebuild_26 : decode cX8_rebuild 26 = .ok (.iadd, 1) := by decide +kernel
theorem dX8_rebuild_27 : decode cX8_rebuild 27 = .ok (.iconst 2, 1) := by decide +kernel
theorem dX8_rebuild_28 : decode cX8_rebuild 28 = .ok (.idiv, 1) := by decide +kernel
theorem dX8_rebuild_29 : decode cX8_rebuild 29 = .ok (.putfield 44, 3) := by decide +kernel
theorem dX8_rebuild_32 : decode cX8_rebuild 32 = .ok (.aload_n 0, 1) := by decide +kernel
theorem dX8_rebuild_33 : decode cX8_rebuild 33 = .ok (.getfield 44, 3) := by decide +kernel
theorem dX8_rebuild_36 : decode cX8_rebuild 36 = .ok (.istore 5, 2) := by decide +kernel
theorem dX8_rebuild_38 : decode cX8_rebuild 38 = .ok (.aload_n 0, 1) := by decide +kernel
theorem dX8_rebuild_39 : decode cX8_rebuild 39 = .ok (.iload 5, 2) := by decide +kernel
theorem dX8_rebuild_41 : decode cX8_rebuild 41 = .ok (.iconst (-1), 1) := by decide +kernel
theorem dX8_rebuild_42 : decode cX8_rebuild 42 = .ok (.iconst (-1), 1) := by decide +kernel
theorem dX8_rebuild_43 : decode cX8_rebuild 43 = .ok (.iload_n 3, 1) := by decide +kernel
theorem dX8_rebuild_44 : decode cX8_rebuild 44 = .ok (.iload 4, 2) := by decide +kernel
theorem dX8_rebuild_46 : decode cX8_rebuild 46 = .ok (.invokevirtual 45, 3) := by decide +kernel
theorem dX8_rebuild_49 : decode cX8_rebuild 49 = .ok (.aload_n 2, 1) := by decide +kernel
theorem dX8_rebuild_50 : decode cX8_rebuild 50 = .ok (.getfield 39, 3) := by decide +kernel
theorem dX8_rebuild_53 : decode cX8_rebuild 53 = .ok (.istore 6, 2) := by decide +kernel
theorem dX8_rebuild_55 : decode cX8_rebuild 55 = .ok (.iload 6, 2) := by decide +kernel
theorem dX8_rebuild_57 : decode cX8_rebuild 57 = .ok (.ifCond .lt 149, 3) := by decide +kernel
theorem dX8_rebuild_60 : decode cX8_rebuild 60 = .ok (.aload_n 2, 1) := by decide +kernel
theorem dX8_rebuild_61 : decode cX8_rebuild 61 = .ok (.iload 6, 2) := by decide +kernel
theorem dX8_rebuild_63 : decode cX8_rebuild 63 = .ok (.iload_n 3, 1) := by decide +kernel
theorem dX8_rebuild_64 : decode cX8_rebuild 64 = .ok (.iload 4, 2) := by decide +kernel
theorem dX8_rebuild_66 : decode cX8_rebuild 66 = .ok (.isub, 1) := by decide +kernel
theorem dX8_rebuild_67 : decode cX8_rebuild 67 = .ok (.invokevirtual 49, 3) := by decide +kernel
theorem dX8_rebuild_70 : decode cX8_rebuild 70 = .ok (.istore 7, 2) := by decide +kernel
theorem dX8_rebuild_72 : decode cX8_rebuild 72 = .ok (.iload_n 3, 1) := by decide +kernel
theorem dX8_rebuild_73 : decode cX8_rebuild 73 = .ok (.iload 7, 2) := by decide +kernel
theorem dX8_rebuild_75 : decode cX8_rebuild 75 = .ok (.if_icmp .le 33, 3) := by decide +kernel
theorem dX8_rebuild_78 : decode cX8_rebuild 78 = .ok (.iinc 3 (-1), 3) := by decide +kernel
theorem dX8_rebuild_81 : decode cX8_rebuild 81 = .ok (.iinc 4 (-1), 3) := by decide +kernel
theorem dX8_rebuild_84 : decode cX8_rebuild 84 = .ok (.iinc 5 (-1), 3) := by decide +kernel
theorem dX8_rebuild_87 : decode cX8_rebuild 87 = .ok (.aload_n 0, 1) := by decide +kernel
theorem dX8_rebuild_88 : decode cX8_rebuild 88 = .ok (.iload 5, 2) := by decide +kernel
theorem dX8_rebuild_90 : decode cX8_rebuild 90 = .ok (.iconst 0, 1) := by decide +kernel
theorem dX8_rebuild_91 : decode cX8_rebuild 91 = .ok (.aload_n 1, 1) := by decide +kernel
theorem dX8_rebuild_92 : decode cX8_rebuild 92 = .ok (.getfield 24, 3) := by decide +kernel
theorem dX8_rebuild_95 : decode cX8_rebuild 95 = .ok (.iload_n 3, 1) := by decide +kernel
theorem dX8_rebuild_96 : decode cX8_rebuild 96 = .ok (.invokevirtual 53, 3) := by decide +kernel
theorem dX8_rebuild_99 : decode cX8_rebuild 99 = .ok (.iload_n 3, 1) := by decide +kernel
theorem dX8_rebuild_100 : decode cX8_rebuild 100 = .ok (.iload 4, 2) := by decide +kernel
theorem dX8_rebuild_102 : decode cX8_rebuild 102 = .ok (.invokevirtual 45, 3) := by decide +kernel
theorem dX8_rebuild_105 : decode cX8_rebuild 105 = .ok (.goto (-33), 3) := by decide +kernel
theorem dX8_rebuild_108 : decode cX8_rebuild 108 = .ok (.iload 6, 2) := by decide +kernel
theorem dX8_rebuild_110 : decode cX8_rebuild 110 = .ok (.ifCond .le 90, 3) := by decide +kernel
theorem dX8_rebuild_113 : decode cX8_rebuild 113 = .ok (.aload_n 2, 1) := by decide +kernel
theorem dX8_rebuild_114 : decode cX8_rebuild 114 = .ok (.iload 6, 2) := by decide +kernel
theorem dX8_rebuild_116 : decode cX8_rebuild 116 = .ok (.iload_n 3, 1) := by decide +kernel
theorem dX8_rebuild_117 : decode cX8_rebuild 117 = .ok (.iload 4, 2) := by decide +kernel
theorem dX8_rebuild_119 : decode cX8_rebuild 119 = .ok (.isub, 1) := by decide +kernel
theorem dX8_rebuild_120 : decode cX8_rebuild 120 = .ok (.invokevirtual 57, 3) := by decide +kernel
theorem dX8_rebuild_123 : decode cX8_rebuild 123 = .ok (.istore 8, 2) := by decide +kernel
theorem dX8_rebuild_125 : decode cX8_rebuild 125 = .ok (.iload_n 3, 1) := by decide +kernel
theorem dX8_rebuild_126 : decode cX8_rebuild 126 = .ok (.iload 8, 2) := by decide +kernel
theorem dX8_rebuild_128 : decode cX8_rebuild 128 = .ok (.ifCond .eq 7, 3) := by decide +kernel
theorem dX8_rebuild_131 : decode cX8_rebuild 131 = .ok (.iconst 0, 1) := by decide +kernel
theorem dX8_rebuild_132 : decode cX8_rebuild 132 = .ok (.goto 4, 3) := by decide +kernel
theorem dX8_rebuild_135 : decode cX8_rebuild 135 = .ok (.iconst 1, 1) := by decide +kernel
theorem dX8_rebuild_136 : decode cX8_rebuild 136 = .ok (.isub, 1) := by decide +kernel
theorem dX8_rebuild_137 : decode cX8_rebuild 137 = .ok (.istore_n 3, 1) := by decide +kernel
theorem dX8_rebuild_138 : decode cX8_rebuild 138 = .ok (.iload 4, 2) := by decide +kernel
theorem dX8_rebuild_140 : decode cX8_rebuild 140 = .ok (.iload 8, 2) := by decide +kernel
theorem dX8_rebuild_142 : decode cX8_rebuild 142 = .ok (.ifCond .eq 7, 3) := by decide +kernel
theorem dX8_rebuild_145 : decode cX8_rebuild 145 = .ok (.iconst 1, 1) := by decide +kernel
theorem dX8_rebuild_146 : decode cX8_rebuild 146 = .ok (.goto 4, 3) := by decide +kernel
theorem dX8_rebuild_149 : decode cX8_rebuild 149 = .ok (.iconst 0, 1) := by decide +kernel
theorem dX8_rebuild_150 : decode cX8_rebuild 150 = .ok (.isub, 1) := by decide +kernel
theorem dX8_rebuild_151 : decode cX8_rebuild 151 = .ok (.istore 4, 2) := by decide +kernel
theorem dX8_rebuild_153 : decode cX8_rebuild 153 = .ok (.iinc 5 (-1), 3) := by decide +kernel
theorem dX8_rebuild_156 : decode cX8_rebuild 156 = .ok (.aload_n 0, 1) := by decide +kernel
theorem dX8_rebuild_157 : decode cX8_rebuild 157 = .ok (.iload 5, 2) := by decide +kernel
theorem dX8_rebuild_159 : decode cX8_rebuild 159 = .ok (.iload 8, 2) := by decide +kernel
theorem dX8_rebuild_161 : decode cX8_rebuild 161 = .ok (.ifCond .eq 7, 3) := by decide +kernel
theorem dX8_rebuild_164 : decode cX8_rebuild 164 = .ok (.iconst 2, 1) := by decide +kernel
theorem dX8_rebuild_165 : decode cX8_rebuild 165 = .ok (.goto 4, 3) := by decide +kernel
theorem dX8_rebuild_168 : decode cX8_rebuild 168 = .ok (.iconst 1, 1) := by decide +kernel
theorem dX8_rebuild_169 : decode cX8_rebuild 169 = .ok (.iload 8, 2) := by decide +kernel
theorem dX8_rebuild_171 : decode cX8_rebuild 171 = .ok (.ifCond .eq 15, 3) := by decide +kernel
theorem dX8_rebuild_174 : decode cX8_rebuild 174 = .ok (.aload_n 1, 1) := by decide +kernel
theorem dX8_rebuild_175 : decode cX8_rebuild 175 = .ok (.getfield 36, 3) := by decide +kernel
theorem dX8_rebuild_178 : decode cX8_rebuild 178 = .ok (.iload 4, 2) := by decide +kernel
theorem dX8_rebuild_180 : decode cX8_rebuild 180 = .ok (.invokevirtual 53, 3) := by decide +kernel
theorem dX8_rebuild_183 : decode cX8_rebuild 183 = .ok (.goto 11, 3) := by decide +kernel
theorem dX8_rebuild_186 : decode cX8_rebuild 186 = .ok (.aload_n 1, 1) := by decide +kernel
theorem dX8_rebuild_187 : decode cX8_rebuild 187 = .ok (.getfield 24, 3) := by decide +kernel
theorem dX8_rebuild_190 : decode cX8_rebuild 190 = .ok (.iload_n 3, 1) := by decide +kernel
theorem dX8_rebuild_191 : decode cX8_rebuild 191 = .ok (.invokevirtual 53, 3) := by decide +kernel
theorem dX8_rebuild_194 : decode cX8_rebuild 194 = .ok (.iload_n 3, 1) := by decide +kernel
theorem dX8_rebuild_195 : decode cX8_rebuild 195 = .ok (.iload 4, 2) := by decide +kernel
theorem dX8_rebuild_197 : decode cX8_rebuild 197 = .ok (.invokevirtual 45, 3) := by decide +kernel
theorem dX8_rebuild_200 : decode cX8_rebuild 200 = .ok (.iinc 6 (-1), 3) := by decide +kernel
theorem dX8_rebuild_203 : decode cX8_rebuild 203 = .ok (.goto (-148), 3) := by decide +kernel
theorem dX8_rebuild_206 : decode cX8_rebuild 206 = .ok (.return_, 1) := by decide +kernel
theorem dX8_kindAt_0 : decode cX8_kindAt 0 = .ok (.iload_n 1, 1) := by decide +kernel
theorem dX8_kindAt_1 : decode cX8_kindAt 1 = .ok (.ifCond .lt 29, 3) := by decide +kernel
theorem dX8_kindAt_4 : decode cX8_kindAt 4 = .ok (.iload_n 1, 1) := by decide +kernel
theorem dX8_kindAt_5 : decode cX8_kindAt 5 = .ok (.aload_n 0, 1) := by decide +kernel
theorem dX8_kindAt_6 : decode cX8_kindAt 6 = .ok (.getfield 44, 3) := by decide +kernel
theorem dX8_kindAt_9 : decode cX8_kindAt 9 = .ok (.if_icmp .ge 21, 3) := by decide +kernel
theorem dX8_kindAt_12 : decode cX8_kindAt 12 = .ok (.iload_n 1, 1) := by decide +kernel
theorem dX8_kindAt_13 : decode cX8_kindAt 13 = .ok (.aload_n 0, 1) := by decide +kernel
theorem dX8_kindAt_14 : decode cX8_kindAt 14 = .ok (.getfield 9, 3) := by decide +kernel
theorem dX8_kindAt_17 : decode cX8_kindAt 17 = .ok (.arraylength, 1) := by decide +kernel
theorem dX8_kindAt_18 : decode cX8_kindAt 18 = .ok (.if_icmp .ge 12, 3) := by decide +kernel
theorem dX8_kindAt_21 : decode cX8_kindAt 21 = .ok (.aload_n 0, 1) := by decide +kernel
theorem dX8_kindAt_22 : decode cX8_kindAt 22 = .ok (.getfield 9, 3) := by decide +kernel
theorem dX8_kindAt_25 : decode cX8_kindAt 25 = .ok (.iload_n 1, 1) := by decide +kernel
theorem dX8_kindAt_26 : decode cX8_kindAt 26 = .ok (.iaload, 1) := by decide +kernel
theorem dX8_kindAt_27 : decode cX8_kindAt 27 = .ok (.goto 4, 3) := by decide +kernel
theorem dX8_kindAt_30 : decode cX8_kindAt 30 = .ok (.iconst (-1), 1) := by decide +kernel
theorem dX8_kindAt_31 : decode cX8_kindAt 31 = .ok (.ireturn, 1) := by decide +kernel
theorem dX8_letterOf_0 : decode cX8_letterOf 0 = .ok (.iload_n 1, 1) := by decide +kernel
theorem dX8_letterOf_1 : decode cX8_letterOf 1 = .ok (.ifCond .lt 29, 3) := by decide +kernel
theorem dX8_letterOf_4 : decode cX8_letterOf 4 = .ok (.iload_n 1, 1) := by decide +kernel
theorem dX8_letterOf_5 : decode cX8_letterOf 5 = .ok (.aload_n 0, 1) := by decide +kernel
theorem dX8_letterOf_6 : decode cX8_letterOf 6 = .ok (.getfield 44, 3) := by decide +kernel
theorem dX8_letterOf_9 : decode cX8_letterOf 9 = .ok (.if_icmp .ge 21, 3) := by decide +kernel
theorem dX8_letterOf_12 : decode cX8_letterOf 12 = .ok (.iload_n 1, 1) := by decide +kernel
theorem dX8_letterOf_13 : decode cX8_letterOf 13 = .ok (.aload_n 0, 1) := by decide +kernel
theorem dX8_letterOf_14 : decode cX8_letterOf 14 = .ok (.getfield 15, 3) := by decide +kernel
theorem dX8_letterOf_17 : decode cX8_letterOf 17 = .ok (.arraylength, 1) := by decide +kernel
theorem dX8_letterOf_18 : decode cX8_letterOf 18 = .ok (.if_icmp .ge 12, 3) := by decide +kernel
theorem dX8_letterOf_21 : decode cX8_letterOf 21 = .ok (.aload_n 0, 1) := by decide +kernel
theorem dX8_letterOf_22 : decode cX8_letterOf 22 = .ok (.getfield 15, 3) := by decide +kernel
theorem dX8_letterOf_25 : decode cX8_letterOf 25 = .ok (.iload_n 1, 1) := by decide +kernel
theorem dX8_letterOf_26 : decode cX8_letterOf 26 = .ok (.iaload, 1) := by decide +kernel
theorem dX8_letterOf_27 : decode cX8_letterOf 27 = .ok (.goto 4, 3) := by decide +kernel
theorem dX8_letterOf_30 : decode cX8_letterOf 30 = .ok (.iconst (-1), 1) := by decide +kernel
theorem dX8_letterOf_31 : decode cX8_letterOf 31 = .ok (.ireturn, 1) := by decide +kernel
theorem dX8_firstDoneAt_0 : decode cX8_firstDoneAt 0 = .ok (.iload_n 1, 1) := by decide +kernel
theorem dX8_firstDoneAt_1 : decode cX8_firstDoneAt 1 = .ok (.ifCond .lt 29, 3) := by decide +kernel
theorem dX8_firstDoneAt_4 : decode cX8_firstDoneAt 4 = .ok (.iload_n 1, 1) := by decide +kernel
theorem dX8_firstDoneAt_5 : decode cX8_firstDoneAt 5 = .ok (.aload_n 0, 1) := by decide +kernel
theorem dX8_firstDoneAt_6 : decode cX8_firstDoneAt 6 = .ok (.getfield 44, 3) := by decide +kernel
theorem dX8_firstDoneAt_9 : decode cX8_firstDoneAt 9 = .ok (.if_icmp .gt 21, 3) := by decide +kernel
theorem dX8_firstDoneAt_12 : decode cX8_firstDoneAt 12 = .ok (.iload_n 1, 1) := by decide +kernel
theorem dX8_firstDoneAt_13 : decode cX8_firstDoneAt 13 = .ok (.aload_n 0, 1) := by decide +kernel
theorem dX8_firstDoneAt_14 : decode cX8_firstDoneAt 14 = .ok (.getfield 18, 3) := by decide +kernel
theorem dX8_firstDoneAt_17 : decode cX8_firstDoneAt 17 = .ok (.arraylength, 1) := by decide +kernel
theorem dX8_firstDoneAt_18 : decode cX8_firstDoneAt 18 = .ok (.if_icmp .ge 12, 3) := by decide +kernel
theorem dX8_firstDoneAt_21 : decode cX8_firstDoneAt 21 = .ok (.aload_n 0, 1) := by decide +kernel
theorem dX8_firstDoneAt_22 : decode cX8_firstDoneAt 22 = .ok (.getfield 18, 3) := by decide +kernel
theorem dX8_firstDoneAt_25 : decode cX8_firstDoneAt 25 = .ok (.iload_n 1, 1) := by decide +kernel
theorem dX8_firstDoneAt_26 : decode cX8_firstDoneAt 26 = .ok (.iaload, 1) := by decide +kernel
theorem dX8_firstDoneAt_27 : decode cX8_firstDoneAt 27 = .ok (.goto 4, 3) := by decide +kernel
theorem dX8_firstDoneAt_30 : decode cX8_firstDoneAt 30 = .ok (.iconst (-1), 1) := by decide +kernel
theorem dX8_firstDoneAt_31 : decode cX8_firstDoneAt 31 = .ok (.ireturn, 1) := by decide +kernel
theorem dX8_secondDoneAt_0 : decode cX8_secondDoneAt 0 = .ok (.iload_n 1, 1) := by decide +kernel
theorem dX8_secondDoneAt_1 : decode cX8_secondDoneAt 1 = .ok (.ifCond .lt 29, 3) := by decide +kernel
theorem dX8_secondDoneAt_4 : decode cX8_secondDoneAt 4 = .ok (.iload_n 1, 1) := by decide +kernel
theorem dX8_secondDoneAt_5 : decode cX8_secondDoneAt 5 = .ok (.aload_n 0, 1) := by decide +kernel
theorem dX8_secondDoneAt_6 : decode cX8_secondDoneAt 6 = .ok (.getfield 44, 3) := by decide +kernel
theorem dX8_secondDoneAt_9 : decode cX8_secondDoneAt 9 = .ok (.if_icmp .gt 21, 3) := by decide +kernel
theorem dX8_secondDoneAt_12 : decode cX8_secondDoneAt 12 = .ok (.iload_n 1, 1) := by decide +kernel
theorem dX8_secondDoneAt_13 : decode cX8_secondDoneAt 13 = .ok (.aload_n 0, 1) := by decide +kernel
theorem dX8_secondDoneAt_14 : decode cX8_secondDoneAt 14 = .ok (.getfield 21, 3) := by decide +kernel
theorem dX8_secondDoneAt_17 : decode cX8_secondDoneAt 17 = .ok (.arraylength, 1) := by decide +kernel
theorem dX8_secondDoneAt_18 : decode cX8_secondDoneAt 18 = .ok (.if_icmp .ge 12, 3) := by decide +kernel
theorem dX8_secondDoneAt_21 : decode cX8_secondDoneAt 21 = .ok (.aload_n 0, 1) := by decide +kernel
theorem dX8_secondDoneAt_22 : decode cX8_secondDoneAt 22 = .ok (.getfield 21, 3) := by decide +kernel
theorem dX8_secondDoneAt_25 : decode cX8_secondDoneAt 25 = .ok (.iload_n 1, 1) := by decide +kernel
theorem dX8_secondDoneAt_26 : decode cX8_secondDoneAt 26 = .ok (.iaload, 1) := by decide +kernel
theorem dX8_secondDoneAt_27 : decode cX8_secondDoneAt 27 = .ok (.goto 4, 3) := by decide +kernel
theorem dX8_secondDoneAt_30 : decode cX8_secondDoneAt 30 = .ok (.iconst (-1), 1) := by decide +kernel
theorem dX8_secondDoneAt_31 : decode cX8_secondDoneAt 31 = .ok (.ireturn, 1) := by decide +kernel
theorem dX8_isEdit_0 : decode cX8_isEdit 0 = .ok (.aload_n 0, 1) := by decide +kernel
theorem dX8_isEdit_1 : decode cX8_isEdit 1 = .ok (.iload_n 1, 1) := by decide +kernel
theorem dX8_isEdit_2 : decode cX8_isEdit 2 = .ok (.invokevirtual 61, 3) := by decide +kernel
theorem dX8_isEdit_5 : decode cX8_isEdit 5 = .ok (.istore_n 2, 1) := by decide +kernel
theorem dX8_isEdit_6 : decode cX8_isEdit 6 = .ok (.iload_n 2, 1) := by decide +kernel
theorem dX8_isEdit_7 : decode cX8_isEdit 7 = .ok (.iconst 1, 1) := by decide +kernel
theorem dX8_isEdit_8 : decode cX8_isEdit 8 = .ok (.if_icmp .eq 8, 3) := by decide +kernel
theorem dX8_isEdit_11 : decode cX8_isEdit 11 = .ok (.iload_n 2, 1) := by decide +kernel
theorem dX8_isEdit_12 : decode cX8_isEdit 12 = .ok (.iconst 2, 1) := by decide +kernel
theorem dX8_isEdit_13 : decode cX8_isEdit 13 = .ok (.if_icmp .ne 7, 3) := by decide +kernel
theorem dX8_isEdit_16 : decode cX8_isEdit 16 = .ok (.iconst 1, 1) := by decide +kernel
theorem dX8_isEdit_17 : decode cX8_isEdit 17 = .ok (.goto 4, 3) := by decide +kernel
theorem dX8_isEdit_20 : decode cX8_isEdit 20 = .ok (.iconst 0, 1) := by decide +kernel
theorem dX8_isEdit_21 : decode cX8_isEdit 21 = .ok (.ireturn, 1) := by decide +kernel
theorem dX8_isMoved_0 : decode cX8_isMoved 0 = .ok (.aload_n 0, 1) := by decide +kernel
theorem dX8_isMoved_1 : decode cX8_isMoved 1 = .ok (.iload_n 1, 1) := by decide +kernel
theorem dX8_isMoved_2 : decode cX8_isMoved 2 = .ok (.invokevirtual 61, 3) := by decide +kernel
theorem dX8_isMoved_5 : decode cX8_isMoved 5 = .ok (.iconst 1, 1) := by decide +kernel
theorem dX8_isMoved_6 : decode cX8_isMoved 6 = .ok (.if_icmp .ne 29, 3) := by decide +kernel
theorem dX8_isMoved_9 : decode cX8_isMoved 9 = .ok (.aload_n 0, 1) := by decide +kernel
theorem dX8_isMoved_10 : decode cX8_isMoved 10 = .ok (.iload_n 2, 1) := by decide +kernel
theorem dX8_isMoved_11 : decode cX8_isMoved 11 = .ok (.invokevirtual 61, 3) := by decide +kernel
theorem dX8_isMoved_14 : decode cX8_isMoved 14 = .ok (.iconst 2, 1) := by decide +kernel
theorem dX8_isMoved_15 : decode cX8_isMoved 15 = .ok (.if_icmp .ne 20, 3) := by decide +kernel
theorem dX8_isMoved_18 : decode cX8_isMoved 18 = .ok (.aload_n 0, 1) := by decide +kernel
theorem dX8_isMoved_19 : decode cX8_isMoved 19 = .ok (.iload_n 1, 1) := by decide +kernel
theorem dX8_isMoved_20 : decode cX8_isMoved 20 = .ok (.invokevirtual 64, 3) := by decide +kernel
theorem dX8_isMoved_23 : decode cX8_isMoved 23 = .ok (.aload_n 0, 1) := by decide +kernel
theorem dX8_isMoved_24 : decode cX8_isMoved 24 = .ok (.iload_n 2, 1) := by decide +kernel
theorem dX8_isMoved_25 : decode cX8_isMoved 25 = .ok (.invokevirtual 64, 3) := by decide +kernel
theorem dX8_isMoved_28 : decode cX8_isMoved 28 = .ok (.if_icmp .ne 7, 3) := by decide +kernel
theorem dX8_isMoved_31 : decode cX8_isMoved 31 = .ok (.iconst 1, 1) := by decide +kernel
theorem dX8_isMoved_32 : decode cX8_isMoved 32 = .ok (.goto 4, 3) := by decide +kernel
theorem dX8_isMoved_35 : decode cX8_isMoved 35 = .ok (.iconst 0, 1) := by decide +kernel
theorem dX8_isMoved_36 : decode cX8_isMoved 36 = .ok (.ireturn, 1) := by decide +kernel
theorem dX8_writeTo_0 : decode cX8_writeTo 0 = .ok (.aload_n 1, 1) := by decide +kernel
theorem dX8_writeTo_1 : decode cX8_writeTo 1 = .ok (.invokevirtual 67, 3) := by decide +kernel
theorem dX8_writeTo_4 : decode cX8_writeTo 4 = .ok (.iconst 0, 1) := by decide +kernel
theorem dX8_writeTo_5 : decode cX8_writeTo 5 = .ok (.istore_n 2, 1) := by decide +kernel
theorem dX8_writeTo_6 : decode cX8_writeTo 6 = .ok (.iconst 0, 1) := by decide +kernel
theorem dX8_writeTo_7 : decode cX8_writeTo 7 = .ok (.istore_n 3, 1) := by decide +kernel
theorem dX8_writeTo_8 : decode cX8_writeTo 8 = .ok (.iload_n 3, 1) := by decide +kernel
theorem dX8_writeTo_9 : decode cX8_writeTo 9 = .ok (.aload_n 0, 1) := by decide +kernel
theorem dX8_writeTo_10 : decode cX8_writeTo 10 = .ok (.getfield 44, 3) := by decide +kernel
theorem dX8_writeTo_13 : decode cX8_writeTo 13 = .ok (.if_icmp .ge 37, 3) := by decide +kernel
theorem dX8_writeTo_16 : decode cX8_writeTo 16 = .ok (.aload_n 0, 1) := by decide +kernel
theorem dX8_writeTo_17 : decode cX8_writeTo 17 = .ok (.iload_n 3, 1) := by decide +kernel
theorem dX8_writeTo_18 : decode cX8_writeTo 18 = .ok (.iconst 1, 1) := by decide +kernel
theorem dX8_writeTo_19 : decode cX8_writeTo 19 = .ok (.iadd, 1) := by decide +kernel
theorem dX8_writeTo_20 : decode cX8_writeTo 20 = .ok (.invokevirtual 61, 3) := by decide +kernel
theorem dX8_writeTo_23 : decode cX8_writeTo 23 = .ok (.aload_n 0, 1) := by decide +kernel
theorem dX8_writeTo_24 : decode cX8_writeTo 24 = .ok (.iload_n 3, 1) := by decide +kernel
theorem dX8_writeTo_25 : decode cX8_writeTo 25 = .ok (.invokevirtual 61, 3) := by decide +kernel
theorem dX8_writeTo_28 : decode cX8_writeTo 28 = .ok (.if_icmp .eq 16, 3) := by decide +kernel
theorem dX8_writeTo_31 : decode cX8_writeTo 31 = .ok (.aload_n 0, 1) := by decide +kernel
theorem dX8_writeTo_32 : decode cX8_writeTo 32 = .ok (.aload_n 1, 1) := by decide +kernel
theorem dX8_writeTo_33 : decode cX8_writeTo 33 = .ok (.iload_n 2, 1) := by decide +kernel
theorem dX8_writeTo_34 : decode cX8_writeTo 34 = .ok (.iload_n 3, 1) := by decide +kernel
theorem dX8_writeTo_35 : decode cX8_writeTo 35 = .ok (.iconst 1, 1) := by decide +kernel
theorem dX8_writeTo_36 : decode cX8_writeTo 36 = .ok (.iadd, 1) := by decide +kernel
theorem dX8_writeTo_37 : decode cX8_writeTo 37 = .ok (.invokevirtual 70, 3) := by decide +kernel
theorem dX8_writeTo_40 : decode cX8_writeTo 40 = .ok (.iload_n 3, 1) := by decide +kernel
theorem dX8_writeTo_41 : decode cX8_writeTo 41 = .ok (.iconst 1, 1) := by decide +kernel
theorem dX8_writeTo_42 : decode cX8_writeTo 42 = .ok (.iadd, 1) := by decide +kernel
theorem dX8_writeTo_43 : decode cX8_writeTo 43 = .ok (.istore_n 2, 1) := by decide +kernel
theorem dX8_writeTo_44 : decode cX8_writeTo 44 = .ok (.iinc 3 1, 3) := by decide +kernel
theorem dX8_writeTo_47 : decode cX8_writeTo 47 = .ok (.goto (-39), 3) := by decide +kernel
theorem dX8_writeTo_50 : decode cX8_writeTo 50 = .ok (.return_, 1) := by decide +kernel
theorem dX8_writePart_0 : decode cX8_writePart 0 = .ok (.aload_n 0, 1) := by decide +kernel
theorem dX8_writePart_1 : decode cX8_writePart 1 = .ok (.iload_n 2, 1) := by decide +kernel
theorem dX8_writePart_2 : decode cX8_writePart 2 = .ok (.invokevirtual 61, 3) := by decide +kernel
theorem dX8_writePart_5 : decode cX8_writePart 5 = .ok (.istore 4, 2) := by decide +kernel
theorem dX8_writePart_7 : decode cX8_writePart 7 = .ok (.iload 4, 2) := by decide +kernel
theorem dX8_writePart_9 : decode cX8_writePart 9 = .ok (.iconst 2, 1) := by decide +kernel
theorem dX8_writePart_10 : decode cX8_writePart 10 = .ok (.if_icmp .ne 40, 3) := by decide +kernel
theorem dX8_writePart_13 : decode cX8_writePart 13 = .ok (.aload_n 1, 1) := by decide +kernel
theorem dX8_writePart_14 : decode cX8_writePart 14 = .ok (.bipush 43, 2) := by decide +kernel
theorem dX8_writePart_16 : decode cX8_writePart 16 = .ok (.invokevirtual 74, 3) := by decide +kernel
theorem dX8_writePart_19 : decode cX8_writePart 19 = .ok (.iload_n 2, 1) := by decide +kernel
theorem dX8_writePart_20 : decode cX8_writePart 20 = .ok (.istore 5, 2) := by decide +kernel
theorem dX8_writePart_22 : decode cX8_writePart 22 = .ok (.iload 5, 2) := by decide +kernel
theorem dX8_writePart_24 : decode cX8_writePart 24 = .ok (.iload_n 3, 1) := by decide +kernel
theorem dX8_writePart_25 : decode cX8_writePart 25 = .ok (.if_icmp .ge 22, 3) := by decide +kernel
theorem dX8_writePart_28 : decode cX8_writePart 28 = .ok (.aload_n 1, 1) := by decide +kernel
theorem dX8_writePart_29 : decode cX8_writePart 29 = .ok (.bipush 97, 2) := by decide +kernel
theorem dX8_writePart_31 : decode cX8_writePart 31 = .ok (.aload_n 0, 1) := by decide +kernel
theorem dX8_writePart_32 : decode cX8_writePart 32 = .ok (.iload 5, 2) := by decide +kernel
theorem dX8_writePart_34 : decode cX8_writePart 34 = .ok (.invokevirtual 64, 3) := by decide +kernel
theorem dX8_writePart_37 : decode cX8_writePart 37 = .ok (.iadd, 1) := by decide +kernel
theorem dX8_writePart_38 : decode cX8_writePart 38 = .ok (.invokevirtual 74, 3) := by decide +kernel
theorem dX8_writePart_41 : decode cX8_writePart 41 = .ok (.iinc 5 1, 3) := by decide +kernel
theorem dX8_writePart_44 : decode cX8_writePart 44 = .ok (.goto (-22), 3) := by decide +kernel
theorem dX8_writePart_47 : decode cX8_writePart 47 = .ok (.goto 26, 3) := by decide +kernel
theorem dX8_writePart_50 : decode cX8_writePart 50 = .ok (.aload_n 1, 1) := by decide +kernel
theorem dX8_writePart_51 : decode cX8_writePart 51 = .ok (.iload 4, 2) := by decide +kernel
theorem dX8_writePart_53 : decode cX8_writePart 53 = .ok (.ifCond .ne 8, 3) := by decide +kernel
theorem dX8_writePart_56 : decode cX8_writePart 56 = .ok (.bipush 61, 2) := by decide +kernel
theorem dX8_writePart_58 : decode cX8_writePart 58 = .ok (.goto 5, 3) := by decide +kernel
theorem dX8_writePart_61 : decode cX8_writePart 61 = .ok (.bipush 45, 2) := by decide +kernel
theorem dX8_writePart_63 : decode cX8_writePart 63 = .ok (.invokevirtual 74, 3) := by decide +kernel
theorem dX8_writePart_66 : decode cX8_writePart 66 = .ok (.aload_n 1, 1) := by decide +kernel
theorem dX8_writePart_67 : decode cX8_writePart 67 = .ok (.iload_n 3, 1) := by decide +kernel
theorem dX8_writePart_68 : decode cX8_writePart 68 = .ok (.iload_n 2, 1) := by decide +kernel
theorem dX8_writePart_69 : decode cX8_writePart 69 = .ok (.isub, 1) := by decide +kernel
theorem dX8_writePart_70 : decode cX8_writePart 70 = .ok (.invokestatic 78, 3) := by decide +kernel
theorem dX8_writePart_73 : decode cX8_writePart 73 = .ok (.aload_n 1, 1) := by decide +kernel
theorem dX8_writePart_74 : decode cX8_writePart 74 = .ok (.bipush 59, 2) := by decide +kernel
theorem dX8_writePart_76 : decode cX8_writePart 76 = .ok (.invokevirtual 74, 3) := by decide +kernel
theorem dX8_writePart_79 : decode cX8_writePart 79 = .ok (.return_, 1) := by decide +kernel
theorem dX8_writeNumber_0 : decode cX8_writeNumber 0 = .ok (.iload_n 1, 1) := by decide +kernel
theorem dX8_writeNumber_1 : decode cX8_writeNumber 1 = .ok (.bipush 10, 2) := by decide +kernel
theorem dX8_writeNumber_3 : decode cX8_writeNumber 3 = .ok (.if_icmp .lt 14, 3) := by decide +kernel
theorem dX8_writeNumber_6 : decode cX8_writeNumber 6 = .ok (.aload_n 0, 1) := by decide +kernel
theorem dX8_writeNumber_7 : decode cX8_writeNumber 7 = .ok (.bipush 48, 2) := by decide +kernel
theorem dX8_writeNumber_9 : decode cX8_writeNumber 9 = .ok (.iload_n 1, 1) := by decide +kernel
theorem dX8_writeNumber_10 : decode cX8_writeNumber 10 = .ok (.bipush 10, 2) := by decide +kernel
theorem dX8_writeNumber_12 : decode cX8_writeNumber 12 = .ok (.idiv, 1) := by decide +kernel
theorem dX8_writeNumber_13 : decode cX8_writeNumber 13 = .ok (.iadd, 1) := by decide +kernel
theorem dX8_writeNumber_14 : decode cX8_writeNumber 14 = .ok (.invokevirtual 74, 3) := by decide +kernel
theorem dX8_writeNumber_17 : decode cX8_writeNumber 17 = .ok (.aload_n 0, 1) := by decide +kernel
theorem dX8_writeNumber_18 : decode cX8_writeNumber 18 = .ok (.bipush 48, 2) := by decide +kernel
theorem dX8_writeNumber_20 : decode cX8_writeNumber 20 = .ok (.iload_n 1, 1) := by decide +kernel
theorem dX8_writeNumber_21 : decode cX8_writeNumber 21 = .ok (.bipush 10, 2) := by decide +kernel
theorem dX8_writeNumber_23 : decode cX8_writeNumber 23 = .ok (.irem, 1) := by decide +kernel
theorem dX8_writeNumber_24 : decode cX8_writeNumber 24 = .ok (.iadd, 1) := by decide +kernel
theorem dX8_writeNumber_25 : decode cX8_writeNumber 25 = .ok (.invokevirtual 74, 3) := by decide +kernel
theorem dX8_writeNumber_28 : decode cX8_writeNumber 28 = .ok (.return_, 1) := by decide +kernel
theorem dX8_put_0 : decode cX8_put 0 = .ok (.iload_n 1, 1) := by decide +kernel
theorem dX8_put_1 : decode cX8_put 1 = .ok (.ifCond .lt 69, 3) := by decide +kernel
theorem dX8_put_4 : decode cX8_put 4 = .ok (.iload_n 1, 1) := by decide +kernel
theorem dX8_put_5 : decode cX8_put 5 = .ok (.aload_n 0, 1) := by decide +kernel
theorem dX8_put_6 : decode cX8_put 6 = .ok (.getfield 9, 3) := by decide +kernel
theorem dX8_put_9 : decode cX8_put 9 = .ok (.arraylength, 1) := by decide +kernel
theorem dX8_put_10 : decode cX8_put 10 = .ok (.if_icmp .ge 60, 3) := by decide +kernel
theorem dX8_put_13 : decode cX8_put 13 = .ok (.iload_n 1, 1) := by decide +kernel
theorem dX8_put_14 : decode cX8_put 14 = .ok (.aload_n 0, 1) := by decide +kernel
theorem dX8_put_15 : decode cX8_put 15 = .ok (.getfield 15, 3) := by decide +kernel
theorem dX8_put_18 : decode cX8_put 18 = .ok (.arraylength, 1) := by decide +kernel
theorem dX8_put_19 : decode cX8_put 19 = .ok (.if_icmp .ge 51, 3) := by decide +kernel
theorem dX8_put_22 : decode cX8_put 22 = .ok (.iload_n 1, 1) := by decide +kernel
theorem dX8_put_23 : decode cX8_put 23 = .ok (.aload_n 0, 1) := by decide +kernel
theorem dX8_put_24 : decode cX8_put 24 = .ok (.getfield 18, 3) := by decide +kernel
theorem dX8_put_27 : decode cX8_put 27 = .ok (.arraylength, 1) := by decide +kernel
theorem dX8_put_28 : decode cX8_put 28 = .ok (.if_icmp .ge 42, 3) := by decide +kernel
theorem dX8_put_31 : decode cX8_put 31 = .ok (.iload_n 1, 1) := by decide +kernel
theorem dX8_put_32 : decode cX8_put 32 = .ok (.aload_n 0, 1) := by decide +kernel
theorem dX8_put_33 : decode cX8_put 33 = .ok (.getfield 21, 3) := by decide +kernel
theorem dX8_put_36 : decode cX8_put 36 = .ok (.arraylength, 1) := by decide +kernel
theorem dX8_put_37 : decode cX8_put 37 = .ok (.if_icmp .ge 33, 3) := by decide +kernel
theorem dX8_put_40 : decode cX8_put 40 = .ok (.aload_n 0, 1) := by decide +kernel
theorem dX8_put_41 : decode cX8_put 41 = .ok (.getfield 9, 3) := by decide +kernel
theorem dX8_put_44 : decode cX8_put 44 = .ok (.iload_n 1, 1) := by decide +kernel
theorem dX8_put_45 : decode cX8_put 45 = .ok (.iload_n 2, 1) := by decide +kernel
theorem dX8_put_46 : decode cX8_put 46 = .ok (.iastore, 1) := by decide +kernel
theorem dX8_put_47 : decode cX8_put 47 = .ok (.aload_n 0, 1) := by decide +kernel
theorem dX8_put_48 : decode cX8_put 48 = .ok (.getfield 15, 3) := by decide +kernel
theorem dX8_put_51 : decode cX8_put 51 = .ok (.iload_n 1, 1) := by decide +kernel
theorem dX8_put_52 : decode cX8_put 52 = .ok (.iload_n 3, 1) := by decide +kernel
theorem dX8_put_53 : decode cX8_put 53 = .ok (.iastore, 1) := by decide +kernel
theorem dX8_put_54 : decode cX8_put 54 = .ok (.aload_n 0, 1) := by decide +kernel
theorem dX8_put_55 : decode cX8_put 55 = .ok (.getfield 18, 3) := by decide +kernel
theorem dX8_put_58 : decode cX8_put 58 = .ok (.iload_n 1, 1) := by decide +kernel
theorem dX8_put_59 : decode cX8_put 59 = .ok (.iload 4, 2) := by decide +kernel
theorem dX8_put_61 : decode cX8_put 61 = .ok (.iastore, 1) := by decide +kernel
theorem dX8_put_62 : decode cX8_put 62 = .ok (.aload_n 0, 1) := by decide +kernel
theorem dX8_put_63 : decode cX8_put 63 = .ok (.getfield 21, 3) := by decide +kernel
theorem dX8_put_66 : decode cX8_put 66 = .ok (.iload_n 1, 1) := by decide +kernel
theorem dX8_put_67 : decode cX8_put 67 = .ok (.iload 5, 2) := by decide +kernel
theorem dX8_put_69 : decode cX8_put 69 = .ok (.iastore, 1) := by decide +kernel
theorem dX8_put_70 : decode cX8_put 70 = .ok (.return_, 1) := by decide +kernel
theorem dX9_init_0 : decode cX9_init 0 = .ok (.aload_n 0, 1) := by decide +kernel
theorem dX9_init_1 : decode cX9_init 1 = .ok (.invokespecial 3, 3) := by decide +kernel
theorem dX9_init_4 : decode cX9_init 4 = .ok (.aload_n 0, 1) := by decide +kernel
theorem dX9_init_5 : decode cX9_init 5 = .ok (.new 9, 3) := by decide +kernel
theorem dX9_init_8 : decode cX9_init 8 = .ok (.dup, 1) := by decide +kernel
theorem dX9_init_9 : decode cX9_init 9 = .ok (.bipush 28, 2) := by decide +kernel
theorem dX9_init_11 : decode cX9_init 11 = .ok (.invokespecial 11, 3) := by decide +kernel
theorem dX9_init_14 : decode cX9_init 14 = .ok (.putfield 14, 3) := by decide +kernel
theorem dX9_init_17 : decode cX9_init 17 = .ok (.aload_n 0, 1) := by decide +kernel
theorem dX9_init_18 : decode cX9_init 18 = .ok (.new 9, 3) := by decide +kernel
theorem dX9_init_21 : decode cX9_init 21 = .ok (.dup, 1) := by decide +kernel
theorem dX9_init_22 : decode cX9_init 22 = .ok (.bipush 28, 2) := by decide +kernel
theorem dX9_init_24 : decode cX9_init 24 = .ok (.invokespecial 11, 3) := by decide +kernel
theorem dX9_init_27 : decode cX9_init 27 = .ok (.putfield 20, 3) := by decide +kernel
theorem dX9_init_30 : decode cX9_init 30 = .ok (.aload_n 0, 1) := by decide +kernel
theorem dX9_init_31 : decode cX9_init 31 = .ok (.iconst 3, 1) := by decide +kernel
theorem dX9_init_32 : decode cX9_init 32 = .ok (.newarray .int, 2) := by decide +kernel
theorem dX9_init_34 : decode cX9_init 34 = .ok (.putfield 23, 3) := by decide +kernel
theorem dX9_init_37 : decode cX9_init 37 = .ok (.iconst 0, 1) := by decide +kernel
theorem dX9_init_38 : decode cX9_init 38 = .ok (.istore_n 1, 1) := by decide +kernel
theorem dX9_init_39 : decode cX9_init 39 = .ok (.iload_n 1, 1) := by decide +kernel
theorem dX9_init_40 : decode cX9_init 40 = .ok (.iconst 3, 1) := by decide +kernel
theorem dX9_init_41 : decode cX9_init 41 = .ok (.if_icmp .ge 20, 3) := by decide +kernel
theorem dX9_init_44 : decode cX9_init 44 = .ok (.aload_n 0, 1) := by decide +kernel
theorem dX9_init_45 : decode cX9_init 45 = .ok (.getfield 23, 3) := by decide +kernel
theorem dX9_init_48 : decode cX9_init 48 = .ok (.iload_n 1, 1) := by decide +kernel
theorem dX9_init_49 : decode cX9_init 49 = .ok (.getstatic 27, 3) := by decide +kernel
theorem dX9_init_52 : decode cX9_init 52 = .ok (.iload_n 1, 1) := by decide +kernel
theorem dX9_init_53 : decode cX9_init 53 = .ok (.iaload, 1) := by decide +kernel
theorem dX9_init_54 : decode cX9_init 54 = .ok (.iastore, 1) := by decide +kernel
theorem dX9_init_55 : decode cX9_init 55 = .ok (.iinc 1 1, 3) := by decide +kernel
theorem dX9_init_58 : decode cX9_init 58 = .ok (.goto (-19), 3) := by decide +kernel
theorem dX9_init_61 : decode cX9_init 61 = .ok (.return_, 1) := by decide +kernel
theorem dX9_rowOf_0 : decode cX9_rowOf 0 = .ok (.iload_n 1, 1) := by decide +kernel
theorem dX9_rowOf_1 : decode cX9_rowOf 1 = .ok (.ifCond .ne 10, 3) := by decide +kernel
theorem dX9_rowOf_4 : decode cX9_rowOf 4 = .ok (.aload_n 0, 1) := by decide +kernel
theorem dX9_rowOf_5 : decode cX9_rowOf 5 = .ok (.getfield 14, 3) := by decide +kernel
theorem dX9_rowOf_8 : decode cX9_rowOf 8 = .ok (.goto 7, 3) := by decide +kernel
theorem dX9_rowOf_11 : decode cX9_rowOf 11 = .ok (.aload_n 0, 1) := by decide +kernel
theorem dX9_rowOf_12 : decode cX9_rowOf 12 = .ok (.getfield 20, 3) := by decide +kernel
theorem dX9_rowOf_15 : decode cX9_rowOf 15 = .ok (.areturn, 1) := by decide +kernel
theorem dX9_swapRows_0 : decode cX9_swapRows 0 = .ok (.aload_n 0, 1) := by decide +kernel
theorem dX9_swapRows_1 : decode cX9_swapRows 1 = .ok (.getfield 14, 3) := by decide +kernel
theorem dX9_swapRows_4 : decode cX9_swapRows 4 = .ok (.astore_n 1, 1) := by decide +kernel
theorem dX9_swapRows_5 : decode cX9_swapRows 5 = .ok (.aload_n 0, 1) := by decide +kernel
theorem dX9_swapRows_6 : decode cX9_swapRows 6 = .ok (.aload_n 0, 1) := by decide +kernel
theorem dX9_swapRows_7 : decode cX9_swapRows 7 = .ok (.getfield 20, 3) := by decide +kernel
theorem dX9_swapRows_10 : decode cX9_swapRows 10 = .ok (.putfield 14, 3) := by decide +kernel
theorem dX9_swapRows_13 : decode cX9_swapRows 13 = .ok (.aload_n 0, 1) := by decide +kernel
theorem dX9_swapRows_14 : decode cX9_swapRows 14 = .ok (.aload_n 1, 1) := by decide +kernel
theorem dX9_swapRows_15 : decode cX9_swapRows 15 = .ok (.putfield 20, 3) := by decide +kernel
theorem dX9_swapRows_18 : decode cX9_swapRows 18 = .ok (.return_, 1) := by decide +kernel
theorem dX9_copyFrom_0 : decode cX9_copyFrom 0 = .ok (.aload_n 0, 1) := by decide +kernel
theorem dX9_copyFrom_1 : decode cX9_copyFrom 1 = .ok (.getfield 14, 3) := by decide +kernel
theorem dX9_copyFrom_4 : decode cX9_copyFrom 4 = .ok (.aload_n 1, 1) := by decide +kernel
theorem dX9_copyFrom_5 : decode cX9_copyFrom 5 = .ok (.getfield 14, 3) := by decide +kernel
theorem dX9_copyFrom_8 : decode cX9_copyFrom 8 = .ok (.invokevirtual 30, 3) := by decide +kernel
theorem dX9_copyFrom_11 : decode cX9_copyFrom 11 = .ok (.aload_n 0, 1) := by decide +kernel
theorem dX9_copyFrom_12 : decode cX9_copyFrom 12 = .ok (.getfield 20, 3) := by decide +kernel
theorem dX9_copyFrom_15 : decode cX9_copyFrom 15 = .ok (.aload_n 1, 1) := by decide +kernel
theorem dX9_copyFrom_16 : decode cX9_copyFrom 16 = .ok (.getfield 20, 3) := by decide +kernel
theorem dX9_copyFrom_19 : decode cX9_copyFrom 19 = .ok (.invokevirtual 30, 3) := by decide +kernel
theorem dX9_copyFrom_22 : decode cX9_copyFrom 22 = .ok (.iconst 0, 1) := by decide +kernel
theorem dX9_copyFrom_23 : decode cX9_copyFrom 23 = .ok (.istore_n 2, 1) := by decide +kernel
theorem dX9_copyFrom_24 : decode cX9_copyFrom 24 = .ok (.iload_n 2, 1) := by decide +kernel
theorem dX9_copyFrom_25 : decode cX9_copyFrom 25 = .ok (.iconst 3, 1) := by decide +kernel
theorem dX9_copyFrom_26 : decode cX9_copyFrom 26 = .ok (.if_icmp .ge 21, 3) := by decide +kernel
theorem dX9_copyFrom_29 : decode cX9_copyFrom 29 = .ok (.aload_n 0, 1) := by decide +kernel
theorem dX9_copyFrom_30 : decode cX9_copyFrom 30 = .ok (.getfield 23, 3) := by decide +kernel
theorem dX9_copyFrom_33 : decode cX9_copyFrom 33 = .ok (.iload_n 2, 1) := by decide +kernel
theorem dX9_copyFrom_34 : decode cX9_copyFrom 34 = .ok (.aload_n 1, 1) := by decide +kernel
theorem dX9_copyFrom_35 : decode cX9_copyFrom 35 = .ok (.getfield 23, 3) := by decide +kernel
theorem dX9_copyFrom_38 : decode cX9_copyFrom 38 = .ok (.iload_n 2, 1) := by decide +kernel
theorem dX9_copyFrom_39 : decode cX9_copyFrom 39 = .ok (.iaload, 1) := by decide +kernel
theorem dX9_copyFrom_40 : decode cX9_copyFrom 40 = .ok (.iastore, 1) := by decide +kernel
theorem dX9_copyFrom_41 : decode cX9_copyFrom 41 = .ok (.iinc 2 1, 3) := by decide +kernel
theorem dX9_copyFrom_44 : decode cX9_copyFrom 44 = .ok (.goto (-20), 3) := by decide +kernel
theorem dX9_copyFrom_47 : decode cX9_copyFrom 47 = .ok (.return_, 1) := by decide +kernel
theorem dX9_isAlike_0 : decode cX9_isAlike 0 = .ok (.aload_n 0, 1) := by decide +kernel
theorem dX9_isAlike_1 : decode cX9_isAlike 1 = .ok (.getfield 14, 3) := by decide +kernel
theorem dX9_isAlike_4 : decode cX9_isAlike 4 = .ok (.iload_n 1, 1) := by decide +kernel
theorem dX9_isAlike_5 : decode cX9_isAlike 5 = .ok (.invokevirtual 34, 3) := by decide +kernel
theorem dX9_isAlike_8 : decode cX9_isAlike 8 = .ok (.istore_n 3, 1) := by decide +kernel
theorem dX9_isAlike_9 : decode cX9_isAlike 9 = .ok (.iload_n 3, 1) := by decide +kernel
theorem dX9_isAlike_10 : decode cX9_isAlike 10 = .ok (.iconst (-1), 1) := by decide +kernel
theorem dX9_isAlike_11 : decode cX9_isAlike 11 = .ok (.if_icmp .eq 19, 3) := by decide +kernel
theorem dX9_isAlike_14 : decode cX9_isAlike 14 = .ok (.iload_n 3, 1) := by decide +kernel
theorem dX9_isAlike_15 : decode cX9_isAlike 15 = .ok (.aload_n 0, 1) := by decide +kernel
theorem dX9_isAlike_16 : decode cX9_isAlike 16 = .ok (.getfield 20, 3) := by decide +kernel
theorem dX9_isAlike_19 : decode cX9_isAlike 19 = .ok (.iload_n 2, 1) := by decide +kernel
theorem dX9_isAlike_20 : decode cX9_isAlike 20 = .ok (.invokevirtual 34, 3) := by decide +kernel
theorem dX9_isAlike_23 : decode cX9_isAlike 23 = .ok (.if_icmp .ne 7, 3) := by decide +kernel
theorem dX9_isAlike_26 : decode cX9_isAlike 26 = .ok (.iconst 1, 1) := by decide +kernel
theorem dX9_isAlike_27 : decode cX9_isAlike 27 = .ok (.goto 4, 3) := by decide +kernel
theorem dX9_isAlike_30 : decode cX9_isAlike 30 = .ok (.iconst 0, 1) := by decide +kernel
theorem dX9_isAlike_31 : decode cX9_isAlike 31 = .ok (.ireturn, 1) := by decide +kernel
theorem dX9_alikeFrom_0 : decode cX9_alikeFrom 0 = .ok (.iconst 0, 1) := by decide +kernel
theorem dX9_alikeFrom_1 : decode cX9_alikeFrom 1 = .ok (.istore_n 3, 1) := by decide +kernel
theorem dX9_alikeFrom_2 : decode cX9_alikeFrom 2 = .ok (.iload_n 3, 1) := by decide +kernel
theorem dX9_alikeFrom_3 : decode cX9_alikeFrom 3 = .ok (.bipush 28, 2) := by decide +kernel
theorem dX9_alikeFrom_5 : decode cX9_alikeFrom 5 = .ok (.if_icmp .ge 22, 3) := by decide +kernel
theorem dX9_alikeFrom_8 : decode cX9_alikeFrom 8 = .ok (.aload_n 0, 1) := by decide +kernel
theorem dX9_alikeFrom_9 : decode cX9_alikeFrom 9 = .ok (.iload_n 1, 1) := by decide +kernel
theorem dX9_alikeFrom_10 : decode cX9_alikeFrom 10 = .ok (.iload_n 3, 1) := by decide +kernel
theorem dX9_alikeFrom_11 : decode cX9_alikeFrom 11 = .ok (.iadd, 1) := by decide +kernel
theorem dX9_alikeFrom_12 : decode cX9_alikeFrom 12 = .ok (.iload_n 2, 1) := by decide +kernel
theorem dX9_alikeFrom_13 : decode cX9_alikeFrom 13 = .ok (.iload_n 3, 1) := by decide +kernel
theorem dX9_alikeFrom_14 : decode cX9_alikeFrom 14 = .ok (.iadd, 1) := by decide +kernel
theorem dX9_alikeFrom_15 : decode cX9_alikeFrom 15 = .ok (.invokevirtual 38, 3) := by decide +kernel
theorem dX9_alikeFrom_18 : decode cX9_alikeFrom 18 = .ok (.ifCond .eq 9, 3) := by decide +kernel
theorem dX9_alikeFrom_21 : decode cX9_alikeFrom 21 = .ok (.iinc 3 1, 3) := by decide +kernel
theorem dX9_alikeFrom_24 : decode cX9_alikeFrom 24 = .ok (.goto (-22), 3) := by decide +kernel
theorem dX9_alikeFrom_27 : decode cX9_alikeFrom 27 = .ok (.iload_n 3, 1) := by decide +kernel
theorem dX9_alikeFrom_28 : decode cX9_alikeFrom 28 = .ok (.ireturn, 1) := by decide +kernel
theorem dX9_longestAlike_0 : decode cX9_longestAlike 0 = .ok (.iconst 0, 1) := by decide +kernel
theorem dX9_longestAlike_1 : decode cX9_longestAlike 1 = .ok (.istore_n 1, 1) := by decide +kernel
theorem dX9_longestAlike_2 : decode cX9_longestAlike 2 = .ok (.iconst 0, 1) := by decide +kernel
theorem dX9_longestAlike_3 : decode cX9_longestAlike 3 = .ok (.istore_n 2, 1) := by decide +kernel
theorem dX9_longestAlike_4 : decode cX9_longestAlike 4 = .ok (.iload_n 2, 1) := by decide +kernel
theorem dX9_longestAlike_5 : decode cX9_longestAlike 5 = .ok (.aload_n 0, 1) := by decide +kernel
theorem dX9_longestAlike_6 : decode cX9_longestAlike 6 = .ok (.getfield 14, 3) := by decide +kernel
theorem dX9_longestAlike_9 : decode cX9_longestAlike 9 = .ok (.getfield 42, 3) := by decide +kernel
theorem dX9_longestAlike_12 : decode cX9_longestAlike 12 = .ok (.if_icmp .ge 52, 3) := by decide +kernel
theorem dX9_longestAlike_15 : decode cX9_longestAlike 15 = .ok (.iconst 0, 1) := by decide +kernel
theorem dX9_longestAlike_16 : decode cX9_longestAlike 16 = .ok (.istore_n 3, 1) := by decide +kernel
theorem dX9_longestAlike_17 : decode cX9_longestAlike 17 = .ok (.iload_n 3, 1) := by decide +kernel
theorem dX9_longestAlike_18 : decode cX9_longestAlike 18 = .ok (.aload_n 0, 1) := by decide +kernel
theorem dX9_longestAlike_19 : decode cX9_longestAlike 19 = .ok (.getfield 20, 3) := by decide +kernel
theorem dX9_longestAlike_22 : decode cX9_longestAlike 22 = .ok (.getfield 42, 3) := by decide +kernel
theorem dX9_longestAlike_25 : decode cX9_longestAlike 25 = .ok (.if_icmp .ge 33, 3) := by decide +kernel
theorem dX9_longestAlike_28 : decode cX9_longestAlike 28 = .ok (.aload_n 0, 1) := by decide +kernel
theorem dX9_longestAlike_29 : decode cX9_longestAlike 29 = .ok (.iload_n 2, 1) := by decide +kernel
theorem dX9_longestAlike_30 : decode cX9_longestAlike 30 = .ok (.iconst 1, 1) := by decide +kernel
theorem dX9_longestAlike_31 : decode cX9_longestAlike 31 = .ok (.isub, 1) := by decide +kernel
theorem dX9_longestAlike_32 : decode cX9_longestAlike 32 = .ok (.iload_n 3, 1) := by decide +kernel
theorem dX9_longestAlike_33 : decode cX9_longestAlike 33 = .ok (.iconst 1, 1) := by decide +kernel
theorem dX9_longestAlike_34 : decode cX9_longestAlike 34 = .ok (.isub, 1) := by decide +kernel
theorem dX9_longestAlike_35 : decode cX9_longestAlike 35 = .ok (.invokevirtual 38, 3) := by decide +kernel
theorem dX9_longestAlike_38 : decode cX9_longestAlike 38 = .ok (.ifCond .ne 14, 3) := by decide +kernel
theorem dX9_longestAlike_41 : decode cX9_longestAlike 41 = .ok (.iload_n 1, 1) := by decide +kernel
theorem dX9_longestAlike_42 : decode cX9_longestAlike 42 = .ok (.aload_n 0, 1) := by decide +kernel
theorem dX9_longestAlike_43 : decode cX9_longestAlike 43 = .ok (.iload_n 2, 1) := by decide +kernel
theorem dX9_longestAlike_44 : decode cX9_longestAlike 44 = .ok (.iload_n 3, 1) := by decide +kernel
theorem dX9_longestAlike_45 : decode cX9_longestAlike 45 = .ok (.invokevirtual 46, 3) := by decide +kernel
theorem dX9_longestAlike_48 : decode cX9_longestAlike 48 = .ok (.invokestatic 50, 3) := by decide +kernel
theorem dX9_longestAlike_51 : decode cX9_longestAlike 51 = .ok (.istore_n 1, 1) := by decide +kernel
theorem dX9_longestAlike_52 : decode cX9_longestAlike 52 = .ok (.iinc 3 1, 3) := by decide +kernel
theorem dX9_longestAlike_55 : decode cX9_longestAlike 55 = .ok (.goto (-38), 3) := by decide +kernel
theorem dX9_longestAlike_58 : decode cX9_longestAlike 58 = .ok (.iinc 2 1, 3) := by decide +kernel
theorem dX9_longestAlike_61 : decode cX9_longestAlike 61 = .ok (.goto (-57), 3) := by decide +kernel
theorem dX9_longestAlike_64 : decode cX9_longestAlike 64 = .ok (.iload_n 1, 1) := by decide +kernel
theorem dX9_longestAlike_65 : decode cX9_longestAlike 65 = .ok (.ireturn, 1) := by decide +kernel
theorem dX10_init_0 : decode cX10_init 0 = .ok (.aload_n 0, 1) := by decide +kernel
theorem dX10_init_1 : decode cX10_init 1 = .ok (.invokespecial 3, 3) := by decide +kernel
theorem dX10_init_4 : decode cX10_init 4 = .ok (.aload_n 0, 1) := by decide +kernel
theorem dX10_init_5 : decode cX10_init 5 = .ok (.new 9, 3) := by decide +kernel
theorem dX10_init_8 : decode cX10_init 8 = .ok (.dup, 1) := by decide +kernel
theorem dX10_init_9 : decode cX10_init 9 = .ok (.invokespecial 11, 3) := by decide +kernel
theorem dX10_init_12 : decode cX10_init 12 = .ok (.putfield 12, 3) := by decide +kernel
theorem dX10_init_15 : decode cX10_init 15 = .ok (.aload_n 0, 1) := by decide +kernel
theorem dX10_init_16 : decode cX10_init 16 = .ok (.new 16, 3) := by decide +kernel
theorem dX10_init_19 : decode cX10_init 19 = .ok (.dup, 1) := by decide +kernel
theorem dX10_init_20 : decode cX10_init 20 = .ok (.invokespecial 18, 3) := by decide +kernel
theorem dX10_init_23 : decode cX10_init 23 = .ok (.putfield 19, 3) := by decide +kernel
theorem dX10_init_26 : decode cX10_init 26 = .ok (.aload_n 0, 1) := by decide +kernel
theorem dX10_init_27 : decode cX10_init 27 = .ok (.new 23, 3) := by decide +kernel
theorem dX10_init_30 : decode cX10_init 30 = .ok (.dup, 1) := by decide +kernel
theorem dX10_init_31 : decode cX10_init 31 = .ok (.bipush 60, 2) := by decide +kernel
theorem dX10_init_33 : decode cX10_init 33 = .ok (.invokespecial 25, 3) := by decide +kernel
theorem dX10_init_36 : decode cX10_init 36 = .ok (.putfield 28, 3) := by decide +kernel
theorem dX10_init_39 : decode cX10_init 39 = .ok (.aload_n 0, 1) := by decide +kernel
theorem dX10_init_40 : decode cX10_init 40 = .ok (.new 32, 3) := by decide +kernel
theorem dX10_init_43 : decode cX10_init 43 = .ok (.dup, 1) := by decide +kernel
theorem dX10_init_44 : decode cX10_init 44 = .ok (.invokespecial 34, 3) := by decide +kernel
theorem dX10_init_47 : decode cX10_init 47 = .ok (.putfield 35, 3) := by decide +kernel
theorem dX10_init_50 : decode cX10_init 50 = .ok (.aload_n 0, 1) := by decide +kernel
theorem dX10_init_51 : decode cX10_init 51 = .ok (.new 39, 3) := by decide +kernel
theorem dX10_init_54 : decode cX10_init 54 = .ok (.dup, 1) := by decide +kernel
theorem dX10_init_55 : decode cX10_init 55 = .ok (.invokespecial 41, 3) := by decide +kernel
theorem dX10_init_58 : decode cX10_init 58 = .ok (.putfield 42, 3) := by decide +kernel
theorem dX10_init_61 : decode cX10_init 61 = .ok (.aload_n 0, 1) := by decide +kernel
theorem dX10_init_62 : decode cX10_init 62 = .ok (.new 23, 3) := by decide +kernel
theorem dX10_init_65 : decode cX10_init 65 = .ok (.dup, 1) := by decide +kernel
theorem dX10_init_66 : decode cX10_init 66 = .ok (.sipush 168, 3) := by decide +kernel
theorem dX10_init_69 : decode cX10_init 69 = .ok (.invokespecial 25, 3) := by decide +kernel
theorem dX10_init_72 : decode cX10_init 72 = .ok (.putfield 46, 3) := by decide +kernel
theorem dX10_init_75 : decode cX10_init 75 = .ok (.aload_n 0, 1) := by decide +kernel
theorem dX10_init_76 : decode cX10_init 76 = .ok (.new 49, 3) := by decide +kernel
theorem dX10_init_79 : decode cX10_init 79 = .ok (.dup, 1) := by decide +kernel
theorem dX10_init_80 : decode cX10_init 80 = .ok (.invokespecial 51, 3) := by decide +kernel
theorem dX10_init_83 : decode cX10_init 83 = .ok (.putfield 52, 3) := by decide +kernel
theorem dX10_init_86 : decode cX10_init 86 = .ok (.aload_n 0, 1) := by decide +kernel
theorem dX10_init_87 : decode cX10_init 87 = .ok (.new 56, 3) := by decide +kernel
theorem dX10_init_90 : decode cX10_init 90 = .ok (.dup, 1) := by decide +kernel
theorem dX10_init_91 : decode cX10_init 91 = .ok (.invokespecial 58, 3) := by decide +kernel
theorem dX10_init_94 : decode cX10_init 94 = .ok (.putfield 59, 3) := by decide +kernel
theorem dX10_init_97 : decode cX10_init 97 = .ok (.aload_n 0, 1) := by decide +kernel
theorem dX10_init_98 : decode cX10_init 98 = .ok (.new 63, 3) := by decide +kernel
theorem dX10_init_101 : decode cX10_init 101 = .ok (.dup, 1) := by decide +kernel
theorem dX10_init_102 : decode cX10_init 102 = .ok (.invokespecial 65, 3) := by decide +kernel
theorem dX10_init_105 : decode cX10_init 105 = .ok (.putfield 66, 3) := by decide +kernel
theorem dX10_init_108 : decode cX10_init 108 = .ok (.aload_n 0, 1) := by decide +kernel
theorem dX10_init_109 : decode cX10_init 109 = .ok (.new 70, 3) := by decide +kernel
theorem dX10_init_112 : decode cX10_init 112 = .ok (.dup, 1) := by decide +kernel
theorem dX10_init_113 : decode cX10_init 113 = .ok (.invokespecial 72, 3) := by decide +kernel
theorem dX10_init_116 : decode cX10_init 116 = .ok (.putfield 73, 3) := by decide +kernel
theorem dX10_init_119 : decode cX10_init 119 = .ok (.return_, 1) := by decide +kernel
theorem dX10_append_0 : decode cX10_append 0 = .ok (.iload_n 1, 1) := by decide +kernel
theorem dX10_append_1 : decode cX10_append 1 = .ok (.iconst 0, 1) := by decide +kernel
theorem dX10_append_2 : decode cX10_append 2 = .ok (.iconst 1, 1) := by decide +kernel
theorem dX10_append_3 : decode cX10_append 3 = .ok (.invokestatic 77, 3) := by decide +kernel
theorem dX10_append_6 : decode cX10_append 6 = .ok (.ifCond .eq 13, 3) := by decide +kernel
theorem dX10_append_9 : decode cX10_append 9 = .ok (.iload_n 2, 1) := by decide +kernel
theorem dX10_append_10 : decode cX10_append 10 = .ok (.iconst 0, 1) := by decide +kernel
theorem dX10_append_11 : decode cX10_append 11 = .ok (.bipush 7, 2) := by decide +kernel
theorem dX10_append_13 : decode cX10_append 13 = .ok (.invokestatic 77, 3) := by decide +kernel
theorem dX10_append_16 : decode cX10_append 16 = .ok (.ifCond .ne 6, 3) := by decide +kernel
theorem dX10_append_19 : decode cX10_append 19 = .ok (.ldc 81, 2) := by decide +kernel
theorem dX10_append_21 : decode cX10_append 21 = .ok (.ireturn, 1) := by decide +kernel
theorem dX10_append_22 : decode cX10_append 22 = .ok (.aload_n 0, 1) := by decide +kernel
theorem dX10_append_23 : decode cX10_append 23 = .ok (.getfield 12, 3) := by decide +kernel
theorem dX10_append_26 : decode cX10_append 26 = .ok (.iload_n 1, 1) := by decide +kernel
theorem dX10_append_27 : decode cX10_append 27 = .ok (.invokevirtual 82, 3) := by decide +kernel
theorem dX10_append_30 : decode cX10_append 30 = .ok (.astore_n 3, 1) := by decide +kernel
theorem dX10_append_31 : decode cX10_append 31 = .ok (.aload_n 3, 1) := by decide +kernel
theorem dX10_append_32 : decode cX10_append 32 = .ok (.getfield 86, 3) := by decide +kernel
theorem dX10_append_35 : decode cX10_append 35 = .ok (.bipush 28, 2) := by decide +kernel
theorem dX10_append_37 : decode cX10_append 37 = .ok (.if_icmp .lt 6, 3) := by decide +kernel
theorem dX10_append_40 : decode cX10_append 40 = .ok (.ldc 90, 2) := by decide +kernel
theorem dX10_append_42 : decode cX10_append 42 = .ok (.ireturn, 1) := by decide +kernel
theorem dX10_append_43 : decode cX10_append 43 = .ok (.aload_n 0, 1) := by decide +kernel
theorem dX10_append_44 : decode cX10_append 44 = .ok (.getfield 19, 3) := by decide +kernel
theorem dX10_append_47 : decode cX10_append 47 = .ok (.aload_n 0, 1) := by decide +kernel
theorem dX10_append_48 : decode cX10_append 48 = .ok (.getfield 12, 3) := by decide +kernel
theorem dX10_append_51 : decode cX10_append 51 = .ok (.invokevirtual 91, 3) := by decide +kernel
theorem dX10_append_54 : decode cX10_append 54 = .ok (.aload_n 3, 1) := by decide +kernel
theorem dX10_append_55 : decode cX10_append 55 = .ok (.iload_n 2, 1) := by decide +kernel
theorem dX10_append_56 : decode cX10_append 56 = .ok (.invokevirtual 95, 3) := by decide +kernel
theorem dX10_append_59 : decode cX10_append 59 = .ok (.aload_n 3, 1) := by decide +kernel
theorem dX10_append_60 : decode cX10_append 60 = .ok (.getfield 86, 3) := by decide +kernel
theorem dX10_append_63 : decode cX10_append 63 = .ok (.ireturn, 1) := by decide +kernel
theorem dX10_cut_0 : decode cX10_cut 0 = .ok (.iload_n 1, 1) := by decide +kernel
theorem dX10_cut_1 : decode cX10_cut 1 = .ok (.iconst 0, 1) := by decide +kernel
theorem dX10_cut_2 : decode cX10_cut 2 = .ok (.iconst 1, 1) := by decide +kernel
theorem dX10_cut_3 : decode cX10_cut 3 = .ok (.invokestatic 77, 3) := by decide +kernel
theorem dX10_cut_6 : decode cX10_cut 6 = .ok (.ifCond .eq 17, 3) := by decide +kernel
theorem dX10_cut_9 : decode cX10_cut 9 = .ok (.iload_n 2, 1) := by decide +kernel
theorem dX10_cut_10 : decode cX10_cut 10 = .ok (.ifCond .lt 13, 3) := by decide +kernel
theorem dX10_cut_13 : decode cX10_cut 13 = .ok (.iload_n 3, 1) := by decide +kernel
theorem dX10_cut_14 : decode cX10_cut 14 = .ok (.iconst 1, 1) := by decide +kernel
theorem dX10_cut_15 : decode cX10_cut 15 = .ok (.bipush 28, 2) := by decide +kernel
theorem dX10_cut_17 : decode cX10_cut 17 = .ok (.invokestatic 77, 3) := by decide +kernel
theorem dX10_cut_20 : decode cX10_cut 20 = .ok (.ifCond .ne 6, 3) := by decide +kernel
theorem dX10_cut_23 : decode cX10_cut 23 = .ok (.ldc 81, 2) := by decide +kernel
theorem dX10_cut_25 : decode cX10_cut 25 = .ok (.ireturn, 1) := by decide +kernel
theorem dX10_cut_26 : decode cX10_cut 26 = .ok (.aload_n 0, 1) := by decide +kernel
theorem dX10_cut_27 : decode cX10_cut 27 = .ok (.getfield 12, 3) := by decide +kernel
theorem dX10_cut_30 : decode cX10_cut 30 = .ok (.iload_n 1, 1) := by decide +kernel
theorem dX10_cut_31 : decode cX10_cut 31 = .ok (.invokevirtual 82, 3) := by decide +kernel
theorem dX10_cut_34 : decode cX10_cut 34 = .ok (.astore 4, 2) := by decide +kernel
theorem dX10_cut_36 : decode cX10_cut 36 = .ok (.iload_n 2, 1) := by decide +kernel
theorem dX10_cut_37 : decode cX10_cut 37 = .ok (.aload 4, 2) := by decide +kernel
theorem dX10_cut_39 : decode cX10_cut 39 = .ok (.getfield 86, 3) := by decide +kernel
theorem dX10_cut_42 : decode cX10_cut 42 = .ok (.iload_n 3, 1) := by decide +kernel
theorem dX10_cut_43 : decode cX10_cut 43 = .ok (.isub, 1) := by decide +kernel
theorem dX10_cut_44 : decode cX10_cut 44 = .ok (.if_icmp .le 6, 3) := by decide +kernel
theorem dX10_cut_47 : decode cX10_cut 47 = .ok (.ldc 98, 2) := by decide +kernel
theorem dX10_cut_49 : decode cX10_cut 49 = .ok (.ireturn, 1) := by decide +kernel
theorem dX10_cut_50 : decode cX10_cut 50 = .ok (.aload_n 0, 1) := by decide +kernel
theorem dX10_cut_51 : decode cX10_cut 51 = .ok (.getfield 19, 3) := by decide +kernel
theorem dX10_cut_54 : decode cX10_cut 54 = .ok (.aload_n 0, 1) := by decide +kernel
theorem dX10_cut_55 : decode cX10_cut 55 = .ok (.getfield 12, 3) := by decide +kernel
theorem dX10_cut_58 : decode cX10_cut 58 = .ok (.invokevirtual 91, 3) := by decide +kernel
theorem dX10_cut_61 : decode cX10_cut 61 = .ok (.aload 4, 2) := by decide +kernel
theorem dX10_cut_63 : decode cX10_cut 63 = .ok (.iload_n 2, 1) := by decide +kernel
theorem dX10_cut_64 : decode cX10_cut 64 = .ok (.iload_n 3, 1) := by decide +kernel
theorem dX10_cut_65 : decode cX10_cut 65 = .ok (.invokevirtual 99, 3) := by decide +kernel
theorem dX10_cut_68 : decode cX10_cut 68 = .ok (.aload 4, 2) := by decide +kernel
theorem dX10_cut_70 : decode cX10_cut 70 = .ok (.getfield 86, 3) := by decide +kernel
theorem dX10_cut_73 : decode cX10_cut 73 = .ok (.ireturn, 1) := by decide +kernel
theorem dX10_change_0 : decode cX10_change 0 = .ok (.iload_n 1, 1) := by decide +kernel
theorem dX10_change_1 : decode cX10_change 1 = .ok (.iconst 0, 1) := by decide +kernel
theorem dX10_change_2 : decode cX10_change 2 = .ok (.iconst 1, 1) := by decide +kernel
theorem dX10_change_3 : decode cX10_change 3 = .ok (.invokestatic 77, 3) := by decide +kernel
theorem dX10_change_6 : decode cX10_change 6 = .ok (.ifCond .eq 13, 3) := by decide +kernel
theorem dX10_change_9 : decode cX10_change 9 = .ok (.iload_n 3, 1) := by decide +kernel
theorem dX10_change_10 : decode cX10_change 10 = .ok (.iconst 0, 1) := by decide +kernel
theorem dX10_change_11 : decode cX10_change 11 = .ok (.bipush 7, 2) := by decide +kernel
theorem dX10_change_13 : decode cX10_change 13 = .ok (.invokestatic 77, 3) := by decide +kernel
theorem dX10_change_16 : decode cX10_change 16 = .ok (.ifCond .ne 6, 3) := by decide +kernel
theorem dX10_change_19 : decode cX10_change 19 = .ok (.ldc 81, 2) := by decide +kernel
theorem dX10_change_21 : decode cX10_change 21 = .ok (.ireturn, 1) := by decide +kernel
theorem dX10_change_22 : decode cX10_change 22 = .ok (.aload_n 0, 1) := by decide +kernel
theorem dX10_change_23 : decode cX10_change 23 = .ok (.getfield 12, 3) := by decide +kernel
theorem dX10_change_26 : decode cX10_change 26 = .ok (.iload_n 1, 1) := by decide +kernel
theorem dX10_change_27 : decode cX10_change 27 = .ok (.invokevirtual 82, 3) := by decide +kernel
theorem dX10_change_30 : decode cX10_change 30 = .ok (.astore 4, 2) := by decide +kernel
theorem dX10_change_32 : decode cX10_change 32 = .ok (.aload 4, 2) := by decide +kernel
theorem dX10_change_34 : decode cX10_change 34 = .ok (.iload_n 2, 1) := by decide +kernel
theorem dX10_change_35 : decode cX10_change 35 = .ok (.invokevirtual 103, 3) := by decide +kernel
theorem dX10_change_38 : decode cX10_change 38 = .ok (.istore 5, 2) := by decide +kernel
theorem dX10_change_40 : decode cX10_change 40 = .ok (.iload 5, 2) := by decide +kernel
theorem dX10_change_42 : decode cX10_change 42 = .ok (.iconst (-1), 1) := by decide +kernel
theorem dX10_change_43 : decode cX10_change 43 = .ok (.if_icmp .ne 6, 3) := by decide +kernel
theorem dX10_change_46 : decode cX10_change 46 = .ok (.ldc 81, 2) := by decide +kernel
theorem dX10_change_48 : decode cX10_change 48 = .ok (.ireturn, 1) := by decide +kernel
theorem dX10_change_49 : decode cX10_change 49 = .ok (.aload_n 0, 1) := by decide +kernel
theorem dX10_change_50 : decode cX10_change 50 = .ok (.getfield 19, 3) := by decide +kernel
theorem dX10_change_53 : decode cX10_change 53 = .ok (.aload_n 0, 1) := by decide +kernel
theorem dX10_change_54 : decode cX10_change 54 = .ok (.getfield 12, 3) := by decide +kernel
theorem dX10_change_57 : decode cX10_change 57 = .ok (.invokevirtual 91, 3) := by decide +kernel
theorem dX10_change_60 : decode cX10_change 60 = .ok (.aload 4, 2) := by decide +kernel
theorem dX10_change_62 : decode cX10_change 62 = .ok (.iload_n 2, 1) := by decide +kernel
theorem dX10_change_63 : decode cX10_change 63 = .ok (.iload_n 3, 1) := by decide +kernel
theorem dX10_change_64 : decode cX10_change 64 = .ok (.invokevirtual 107, 3) := by decide +kernel
theorem dX10_change_67 : decode cX10_change 67 = .ok (.iload 5, 2) := by decide +kernel
theorem dX10_change_69 : decode cX10_change 69 = .ok (.ireturn, 1) := by decide +kernel
theorem dX10_exchange_0 : decode cX10_exchange 0 = .ok (.aload_n 0, 1) := by decide +kernel
theorem dX10_exchange_1 : decode cX10_exchange 1 = .ok (.getfield 19, 3) := by decide +kernel
theorem dX10_exchange_4 : decode cX10_exchange 4 = .ok (.aload_n 0, 1) := by decide +kernel
theorem dX10_exchange_5 : decode cX10_exchange 5 = .ok (.getfield 12, 3) := by decide +kernel
theorem dX10_exchange_8 : decode cX10_exchange 8 = .ok (.invokevirtual 91, 3) := by decide +kernel
theorem dX10_exchange_11 : decode cX10_exchange 11 = .ok (.aload_n 0, 1) := by decide +kernel
theorem dX10_exchange_12 : decode cX10_exchange 12 = .ok (.getfield 12, 3) := by decide +kernel
theorem dX10_exchange_15 : decode cX10_exchange 15 = .ok (.invokevirtual 110, 3) := by decide +kernel
theorem dX10_exchange_18 : decode cX10_exchange 18 = .ok (.aload_n 0, 1) := by decide +kernel
theorem dX10_exchange_19 : decode cX10_exchange 19 = .ok (.getfield 12, 3) := by decide +kernel
theorem dX10_exchange_22 : decode cX10_exchange 22 = .ok (.getfield 113, 3) := by decide +kernel
theorem dX10_exchange_25 : decode cX10_exchange 25 = .ok (.getfield 86, 3) := by decide +kernel
theorem dX10_exchange_28 : decode cX10_exchange 28 = .ok (.ireturn, 1) := by decide +kernel
theorem dX10_set_0 : decode cX10_set 0 = .ok (.iload_n 1, 1) := by decide +kernel
theorem dX10_set_1 : decode cX10_set 1 = .ok (.iconst 0, 1) := by decide +kernel
theorem dX10_set_2 : decode cX10_set 2 = .ok (.iconst 2, 1) := by decide +kernel
theorem dX10_set_3 : decode cX10_set 3 = .ok (.invokestatic 77, 3) := by decide +kernel
theorem dX10_set_6 : decode cX10_set 6 = .ok (.ifCond .eq 20, 3) := by decide +kernel
theorem dX10_set_9 : decode cX10_set 9 = .ok (.iload_n 2, 1) := by decide +kernel
theorem dX10_set_10 : decode cX10_set 10 = .ok (.getstatic 116, 3) := by decide +kernel
theorem dX10_set_13 : decode cX10_set 13 = .ok (.iload_n 1, 1) := by decide +kernel
theorem dX10_set_14 : decode cX10_set 14 = .ok (.iaload, 1) := by decide +kernel
theorem dX10_set_15 : decode cX10_set 15 = .ok (.getstatic 120, 3) := by decide +kernel
theorem dX10_set_18 : decode cX10_set 18 = .ok (.iload_n 1, 1) := by decide +kernel
theorem dX10_set_19 : decode cX10_set 19 = .ok (.iaload, 1) := by decide +kernel
theorem dX10_set_20 : decode cX10_set 20 = .ok (.invokestatic 77, 3) := by decide +kernel
theorem dX10_set_23 : decode cX10_set 23 = .ok (.ifCond .ne 6, 3) := by decide +kernel
theorem dX10_set_26 : decode cX10_set 26 = .ok (.ldc 81, 2) := by decide +kernel
theorem dX10_set_28 : decode cX10_set 28 = .ok (.ireturn, 1) := by decide +kernel
theorem dX10_set_29 : decode cX10_set 29 = .ok (.aload_n 0, 1) := by decide +kernel
theorem dX10_set_30 : decode cX10_set 30 = .ok (.getfield 19, 3) := by decide +kernel
theorem dX10_set_33 : decode cX10_set 33 = .ok (.aload_n 0, 1) := by decide +kernel
theorem dX10_set_34 : decode cX10_set 34 = .ok (.getfield 12, 3) := by decide +kernel
theorem dX10_set_37 : decode cX10_set 37 = .ok (.invokevirtual 91, 3) := by decide +kernel
theorem dX10_set_40 : decode cX10_set 40 = .ok (.aload_n 0, 1) := by decide +kernel
theorem dX10_set_41 : decode cX10_set 41 = .ok (.getfield 12, 3) := by decide +kernel
theorem dX10_set_44 : decode cX10_set 44 = .ok (.getfield 123, 3) := by decide +kernel
theorem dX10_set_47 : decode cX10_set 47 = .ok (.iload_n 1, 1) := by decide +kernel
theorem dX10_set_48 : decode cX10_set 48 = .ok (.iaload, 1) := by decide +kernel
theorem dX10_set_49 : decode cX10_set 49 = .ok (.istore_n 3, 1) := by decide +kernel
theorem dX10_set_50 : decode cX10_set 50 = .ok (.aload_n 0, 1) := by decide +kernel
theorem dX10_set_51 : decode cX10_set 51 = .ok (.getfield 12, 3) := by decide +kernel
theorem dX10_set_54 : decode cX10_set 54 = .ok (.getfield 123, 3) := by decide +kernel
theorem dX10_set_57 : decode cX10_set 57 = .ok (.iload_n 1, 1) := by decide +kernel
theorem dX10_set_58 : decode cX10_set 58 = .ok (.iload_n 2, 1) := by decide +kernel
theorem dX10_set_59 : decode cX10_set 59 = .ok (.iastore, 1) := by decide +kernel
theorem dX10_set_60 : decode cX10_set 60 = .ok (.iload_n 3, 1) := by decide +kernel
theorem dX10_set_61 : decode cX10_set 61 = .ok (.ireturn, 1) := by decide +kernel
theorem dX10_letterAt_0 : decode cX10_letterAt 0 = .ok (.iload_n 1, 1) := by decide +kernel
theorem dX10_letterAt_1 : decode cX10_letterAt 1 = .ok (.iconst 0, 1) := by decide +kernel
theorem dX10_letterAt_2 : decode cX10_letterAt 2 = .ok (.iconst 1, 1) := by decide +kernel
theorem dX10_letterAt_3 : decode cX10_letterAt 3 = .ok (.invokestatic 77, 3) := by decide +kernel
theorem dX10_letterAt_6 : decode cX10_letterAt 6 = .ok (.ifCond .eq 7, 3) := by decide +kernel
theorem dX10_letterAt_9 : decode cX10_letterAt 9 = .ok (.iload_n 2, 1) := by decide +kernel
theorem dX10_letterAt_10 : decode cX10_letterAt 10 = .ok (.ifCond .ge 6, 3) := by decide +kernel
theorem dX10_letterAt_13 : decode cX10_letterAt 13 = .ok (.ldc 81, 2) := by decide +kernel
theorem dX10_letterAt_15 : decode cX10_letterAt 15 = .ok (.ireturn, 1) := by decide +kernel
theorem dX10_letterAt_16 : decode cX10_letterAt 16 = .ok (.aload_n 0, 1) := by decide +kernel
theorem dX10_letterAt_17 : decode cX10_letterAt 17 = .ok (.getfield 12, 3) := by decide +kernel
theorem dX10_letterAt_20 : decode cX10_letterAt 20 = .ok (.iload_n 1, 1) := by decide +kernel
theorem dX10_letterAt_21 : decode cX10_letterAt 21 = .ok (.invokevirtual 82, 3) := by decide +kernel
theorem dX10_letterAt_24 : decode cX10_letterAt 24 = .ok (.iload_n 2, 1) := by decide +kernel
theorem dX10_letterAt_25 : decode cX10_letterAt 25 = .ok (.invokevirtual 103, 3) := by decide +kernel
theorem dX10_letterAt_28 : decode cX10_letterAt 28 = .ok (.invokestatic 126, 3) := by decide +kernel
theorem dX10_letterAt_31 : decode cX10_letterAt 31 = .ok (.ireturn, 1) := by decide +kernel
theorem dX10_same_0 : decode cX10_same 0 = .ok (.iload_n 1, 1) := by decide +kernel
theorem dX10_same_1 : decode cX10_same 1 = .ok (.iconst 0, 1) := by decide +kernel
theorem dX10_same_2 : decode cX10_same 2 = .ok (.aload_n 0, 1) := by decide +kernel
theorem dX10_same_3 : decode cX10_same 3 = .ok (.getfield 12, 3) := by decide +kernel
theorem dX10_same_6 : decode cX10_same 6 = .ok (.getfield 113, 3) := by decide +kernel
theorem dX10_same_9 : decode cX10_same 9 = .ok (.getfield 86, 3) := by decide +kernel
theorem dX10_same_12 : decode cX10_same 12 = .ok (.invokestatic 77, 3) := by decide +kernel
theorem dX10_same_15 : decode cX10_same 15 = .ok (.ifCond .eq 21, 3) := by decide +kernel
theorem dX10_same_18 : decode cX10_same 18 = .ok (.iload_n 2, 1) := by decide +kernel
theorem dX10_same_19 : decode cX10_same 19 = .ok (.iconst 0, 1) := by decide +kernel
theorem dX10_same_20 : decode cX10_same 20 = .ok (.aload_n 0, 1) := by decide +kernel
theorem dX10_same_21 : decode cX10_same 21 = .ok (.getfield 12, 3) := by decide +kernel
theorem dX10_same_24 : decode cX10_same 24 = .ok (.getfield 129, 3) := by decide +kernel
theorem dX10_same_27 : decode cX10_same 27 = .ok (.getfield 86, 3) := by decide +kernel
theorem dX10_same_30 : decode cX10_same 30 = .ok (.invokestatic 77, 3) := by decide +kernel
theorem dX10_same_33 : decode cX10_same 33 = .ok (.ifCond .ne 6, 3) := by decide +kernel
theorem dX10_same_36 : decode cX10_same 36 = .ok (.ldc 81, 2) := by decide +kernel
theorem dX10_same_38 : decode cX10_same 38 = .ok (.ireturn, 1) := by decide +kernel
theorem dX10_same_39 : decode cX10_same 39 = .ok (.aload_n 0, 1) := by decide +kernel
theorem dX10_same_40 : decode cX10_same 40 = .ok (.getfield 12, 3) := by decide +kernel
