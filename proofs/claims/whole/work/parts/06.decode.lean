theorem dX11_lays_61 : decode cX11_lays 61 = .ok (.isub, 1) := by decide +kernel
theorem dX11_lays_62 : decode cX11_lays 62 = .ok (.invokevirtual 75, 3) := by decide +kernel
theorem dX11_lays_65 : decode cX11_lays 65 = .ok (.iadd, 1) := by decide +kernel
theorem dX11_lays_66 : decode cX11_lays 66 = .ok (.iastore, 1) := by decide +kernel
theorem dX11_lays_67 : decode cX11_lays 67 = .ok (.return_, 1) := by decide +kernel
theorem dX11_finds_0 : decode cX11_finds 0 = .ok (.aload_n 0, 1) := by decide +kernel
theorem dX11_finds_1 : decode cX11_finds 1 = .ok (.getfield 7, 3) := by decide +kernel
theorem dX11_finds_4 : decode cX11_finds 4 = .ok (.iconst 0, 1) := by decide +kernel
theorem dX11_finds_5 : decode cX11_finds 5 = .ok (.iaload, 1) := by decide +kernel
theorem dX11_finds_6 : decode cX11_finds 6 = .ok (.aload_n 0, 1) := by decide +kernel
theorem dX11_finds_7 : decode cX11_finds 7 = .ok (.getfield 7, 3) := by decide +kernel
theorem dX11_finds_10 : decode cX11_finds 10 = .ok (.iconst 1, 1) := by decide +kernel
theorem dX11_finds_11 : decode cX11_finds 11 = .ok (.iaload, 1) := by decide +kernel
theorem dX11_finds_12 : decode cX11_finds 12 = .ok (.isub, 1) := by decide +kernel
theorem dX11_finds_13 : decode cX11_finds 13 = .ok (.istore_n 1, 1) := by decide +kernel
theorem dX11_finds_14 : decode cX11_finds 14 = .ok (.aload_n 0, 1) := by decide +kernel
theorem dX11_finds_15 : decode cX11_finds 15 = .ok (.iconst (-1), 1) := by decide +kernel
theorem dX11_finds_16 : decode cX11_finds 16 = .ok (.putfield 84, 3) := by decide +kernel
theorem dX11_finds_19 : decode cX11_finds 19 = .ok (.iconst 0, 1) := by decide +kernel
theorem dX11_finds_20 : decode cX11_finds 20 = .ok (.istore_n 2, 1) := by decide +kernel
theorem dX11_finds_21 : decode cX11_finds 21 = .ok (.iload_n 2, 1) := by decide +kernel
theorem dX11_finds_22 : decode cX11_finds 22 = .ok (.ifCond .ne 96, 3) := by decide +kernel
theorem dX11_finds_25 : decode cX11_finds 25 = .ok (.aload_n 0, 1) := by decide +kernel
theorem dX11_finds_26 : decode cX11_finds 26 = .ok (.dup, 1) := by decide +kernel
theorem dX11_finds_27 : decode cX11_finds 27 = .ok (.getfield 84, 3) := by decide +kernel
theorem dX11_finds_30 : decode cX11_finds 30 = .ok (.iconst 1, 1) := by decide +kernel
theorem dX11_finds_31 : decode cX11_finds 31 = .ok (.iadd, 1) := by decide +kernel
theorem dX11_finds_32 : decode cX11_finds 32 = .ok (.putfield 84, 3) := by decide +kernel
theorem dX11_finds_35 : decode cX11_finds 35 = .ok (.aload_n 0, 1) := by decide +kernel
theorem dX11_finds_36 : decode cX11_finds 36 = .ok (.getfield 84, 3) := by decide +kernel
theorem dX11_finds_39 : decode cX11_finds 39 = .ok (.ineg, 1) := by decide +kernel
theorem dX11_finds_40 : decode cX11_finds 40 = .ok (.istore_n 3, 1) := by decide +kernel
theorem dX11_finds_41 : decode cX11_finds 41 = .ok (.iload_n 3, 1) := by decide +kernel
theorem dX11_finds_42 : decode cX11_finds 42 = .ok (.aload_n 0, 1) := by decide +kernel
theorem dX11_finds_43 : decode cX11_finds 43 = .ok (.getfield 84, 3) := by decide +kernel
theorem dX11_finds_46 : decode cX11_finds 46 = .ok (.if_icmp .gt 18, 3) := by decide +kernel
theorem dX11_finds_49 : decode cX11_finds 49 = .ok (.aload_n 0, 1) := by decide +kernel
theorem dX11_finds_50 : decode cX11_finds 50 = .ok (.aload_n 0, 1) := by decide +kernel
theorem dX11_finds_51 : decode cX11_finds 51 = .ok (.getfield 84, 3) := by decide +kernel
theorem dX11_finds_54 : decode cX11_finds 54 = .ok (.iload_n 3, 1) := by decide +kernel
theorem dX11_finds_55 : decode cX11_finds 55 = .ok (.invokevirtual 87, 3) := by decide +kernel
theorem dX11_finds_58 : decode cX11_finds 58 = .ok (.iinc 3 2, 3) := by decide +kernel
theorem dX11_finds_61 : decode cX11_finds 61 = .ok (.goto (-20), 3) := by decide +kernel
theorem dX11_finds_64 : decode cX11_finds 64 = .ok (.iload_n 1, 1) := by decide +kernel
theorem dX11_finds_65 : decode cX11_finds 65 = .ok (.aload_n 0, 1) := by decide +kernel
theorem dX11_finds_66 : decode cX11_finds 66 = .ok (.getfield 84, 3) := by decide +kernel
theorem dX11_finds_69 : decode cX11_finds 69 = .ok (.ineg, 1) := by decide +kernel
theorem dX11_finds_70 : decode cX11_finds 70 = .ok (.aload_n 0, 1) := by decide +kernel
theorem dX11_finds_71 : decode cX11_finds 71 = .ok (.getfield 84, 3) := by decide +kernel
theorem dX11_finds_74 : decode cX11_finds 74 = .ok (.invokestatic 48, 3) := by decide +kernel
theorem dX11_finds_77 : decode cX11_finds 77 = .ok (.ifCond .eq 36, 3) := by decide +kernel
theorem dX11_finds_80 : decode cX11_finds 80 = .ok (.iload_n 1, 1) := by decide +kernel
theorem dX11_finds_81 : decode cX11_finds 81 = .ok (.aload_n 0, 1) := by decide +kernel
theorem dX11_finds_82 : decode cX11_finds 82 = .ok (.getfield 84, 3) := by decide +kernel
theorem dX11_finds_85 : decode cX11_finds 85 = .ok (.iadd, 1) := by decide +kernel
theorem dX11_finds_86 : decode cX11_finds 86 = .ok (.iconst 2, 1) := by decide +kernel
theorem dX11_finds_87 : decode cX11_finds 87 = .ok (.irem, 1) := by decide +kernel
theorem dX11_finds_88 : decode cX11_finds 88 = .ok (.ifCond .ne 25, 3) := by decide +kernel
theorem dX11_finds_91 : decode cX11_finds 91 = .ok (.aload_n 0, 1) := by decide +kernel
theorem dX11_finds_92 : decode cX11_finds 92 = .ok (.aload_n 0, 1) := by decide +kernel
theorem dX11_finds_93 : decode cX11_finds 93 = .ok (.getfield 84, 3) := by decide +kernel
theorem dX11_finds_96 : decode cX11_finds 96 = .ok (.iload_n 1, 1) := by decide +kernel
theorem dX11_finds_97 : decode cX11_finds 97 = .ok (.invokevirtual 78, 3) := by decide +kernel
theorem dX11_finds_100 : decode cX11_finds 100 = .ok (.aload_n 0, 1) := by decide +kernel
theorem dX11_finds_101 : decode cX11_finds 101 = .ok (.getfield 7, 3) := by decide +kernel
theorem dX11_finds_104 : decode cX11_finds 104 = .ok (.iconst 0, 1) := by decide +kernel
theorem dX11_finds_105 : decode cX11_finds 105 = .ok (.iaload, 1) := by decide +kernel
theorem dX11_finds_106 : decode cX11_finds 106 = .ok (.if_icmp .lt 7, 3) := by decide +kernel
theorem dX11_finds_109 : decode cX11_finds 109 = .ok (.iconst 1, 1) := by decide +kernel
theorem dX11_finds_110 : decode cX11_finds 110 = .ok (.goto 4, 3) := by decide +kernel
theorem dX11_finds_113 : decode cX11_finds 113 = .ok (.iconst 0, 1) := by decide +kernel
theorem dX11_finds_114 : decode cX11_finds 114 = .ok (.istore_n 2, 1) := by decide +kernel
theorem dX11_finds_115 : decode cX11_finds 115 = .ok (.goto (-94), 3) := by decide +kernel
theorem dX11_finds_118 : decode cX11_finds 118 = .ok (.aload_n 0, 1) := by decide +kernel
theorem dX11_finds_119 : decode cX11_finds 119 = .ok (.getfield 84, 3) := by decide +kernel
theorem dX11_finds_122 : decode cX11_finds 122 = .ok (.ireturn, 1) := by decide +kernel
theorem dX11_reach_0 : decode cX11_reach 0 = .ok (.iload_n 1, 1) := by decide +kernel
theorem dX11_reach_1 : decode cX11_reach 1 = .ok (.iconst 0, 1) := by decide +kernel
theorem dX11_reach_2 : decode cX11_reach 2 = .ok (.bipush 56, 2) := by decide +kernel
theorem dX11_reach_4 : decode cX11_reach 4 = .ok (.invokestatic 48, 3) := by decide +kernel
theorem dX11_reach_7 : decode cX11_reach 7 = .ok (.ifCond .eq 14, 3) := by decide +kernel
theorem dX11_reach_10 : decode cX11_reach 10 = .ok (.iload_n 2, 1) := by decide +kernel
theorem dX11_reach_11 : decode cX11_reach 11 = .ok (.bipush (-56), 2) := by decide +kernel
theorem dX11_reach_13 : decode cX11_reach 13 = .ok (.bipush 56, 2) := by decide +kernel
theorem dX11_reach_15 : decode cX11_reach 15 = .ok (.invokestatic 48, 3) := by decide +kernel
theorem dX11_reach_18 : decode cX11_reach 18 = .ok (.ifCond .ne 6, 3) := by decide +kernel
theorem dX11_reach_21 : decode cX11_reach 21 = .ok (.ldc 56, 2) := by decide +kernel
theorem dX11_reach_23 : decode cX11_reach 23 = .ok (.ireturn, 1) := by decide +kernel
theorem dX11_reach_24 : decode cX11_reach 24 = .ok (.iload_n 2, 1) := by decide +kernel
theorem dX11_reach_25 : decode cX11_reach 25 = .ok (.iload_n 1, 1) := by decide +kernel
theorem dX11_reach_26 : decode cX11_reach 26 = .ok (.ineg, 1) := by decide +kernel
theorem dX11_reach_27 : decode cX11_reach 27 = .ok (.iload_n 1, 1) := by decide +kernel
theorem dX11_reach_28 : decode cX11_reach 28 = .ok (.invokestatic 48, 3) := by decide +kernel
theorem dX11_reach_31 : decode cX11_reach 31 = .ok (.ifCond .eq 19, 3) := by decide +kernel
theorem dX11_reach_34 : decode cX11_reach 34 = .ok (.iload_n 2, 1) := by decide +kernel
theorem dX11_reach_35 : decode cX11_reach 35 = .ok (.iload_n 1, 1) := by decide +kernel
theorem dX11_reach_36 : decode cX11_reach 36 = .ok (.iadd, 1) := by decide +kernel
theorem dX11_reach_37 : decode cX11_reach 37 = .ok (.iconst 2, 1) := by decide +kernel
theorem dX11_reach_38 : decode cX11_reach 38 = .ok (.irem, 1) := by decide +kernel
theorem dX11_reach_39 : decode cX11_reach 39 = .ok (.ifCond .ne 11, 3) := by decide +kernel
theorem dX11_reach_42 : decode cX11_reach 42 = .ok (.iload_n 1, 1) := by decide +kernel
theorem dX11_reach_43 : decode cX11_reach 43 = .ok (.aload_n 0, 1) := by decide +kernel
theorem dX11_reach_44 : decode cX11_reach 44 = .ok (.invokevirtual 91, 3) := by decide +kernel
theorem dX11_reach_47 : decode cX11_reach 47 = .ok (.if_icmp .le 6, 3) := by decide +kernel
theorem dX11_reach_50 : decode cX11_reach 50 = .ok (.ldc 70, 2) := by decide +kernel
theorem dX11_reach_52 : decode cX11_reach 52 = .ok (.ireturn, 1) := by decide +kernel
theorem dX11_reach_53 : decode cX11_reach 53 = .ok (.aload_n 0, 1) := by decide +kernel
theorem dX11_reach_54 : decode cX11_reach 54 = .ok (.iload_n 1, 1) := by decide +kernel
theorem dX11_reach_55 : decode cX11_reach 55 = .ok (.iload_n 2, 1) := by decide +kernel
theorem dX11_reach_56 : decode cX11_reach 56 = .ok (.invokevirtual 78, 3) := by decide +kernel
theorem dX11_reach_59 : decode cX11_reach 59 = .ok (.ireturn, 1) := by decide +kernel
theorem dX11_distance_0 : decode cX11_distance 0 = .ok (.aload_n 0, 1) := by decide +kernel
theorem dX11_distance_1 : decode cX11_distance 1 = .ok (.invokevirtual 91, 3) := by decide +kernel
theorem dX11_distance_4 : decode cX11_distance 4 = .ok (.istore_n 1, 1) := by decide +kernel
theorem dX11_distance_5 : decode cX11_distance 5 = .ok (.iload_n 1, 1) := by decide +kernel
theorem dX11_distance_6 : decode cX11_distance 6 = .ok (.aload_n 0, 1) := by decide +kernel
theorem dX11_distance_7 : decode cX11_distance 7 = .ok (.getfield 7, 3) := by decide +kernel
theorem dX11_distance_10 : decode cX11_distance 10 = .ok (.iconst 2, 1) := by decide +kernel
theorem dX11_distance_11 : decode cX11_distance 11 = .ok (.iaload, 1) := by decide +kernel
theorem dX11_distance_12 : decode cX11_distance 12 = .ok (.if_icmp .le 8, 3) := by decide +kernel
theorem dX11_distance_15 : decode cX11_distance 15 = .ok (.ldc 61, 2) := by decide +kernel
theorem dX11_distance_17 : decode cX11_distance 17 = .ok (.goto 4, 3) := by decide +kernel
theorem dX11_distance_20 : decode cX11_distance 20 = .ok (.iload_n 1, 1) := by decide +kernel
theorem dX11_distance_21 : decode cX11_distance 21 = .ok (.ireturn, 1) := by decide +kernel
theorem dX11_puts_0 : decode cX11_puts 0 = .ok (.aload_n 0, 1) := by decide +kernel
theorem dX11_puts_1 : decode cX11_puts 1 = .ok (.dup, 1) := by decide +kernel
theorem dX11_puts_2 : decode cX11_puts 2 = .ok (.getfield 95, 3) := by decide +kernel
theorem dX11_puts_5 : decode cX11_puts 5 = .ok (.iconst 1, 1) := by decide +kernel
theorem dX11_puts_6 : decode cX11_puts 6 = .ok (.isub, 1) := by decide +kernel
theorem dX11_puts_7 : decode cX11_puts 7 = .ok (.putfield 95, 3) := by decide +kernel
theorem dX11_puts_10 : decode cX11_puts 10 = .ok (.aload_n 0, 1) := by decide +kernel
theorem dX11_puts_11 : decode cX11_puts 11 = .ok (.getfield 26, 3) := by decide +kernel
theorem dX11_puts_14 : decode cX11_puts 14 = .ok (.iconst 3, 1) := by decide +kernel
theorem dX11_puts_15 : decode cX11_puts 15 = .ok (.aload_n 0, 1) := by decide +kernel
theorem dX11_puts_16 : decode cX11_puts 16 = .ok (.getfield 95, 3) := by decide +kernel
theorem dX11_puts_19 : decode cX11_puts 19 = .ok (.imul, 1) := by decide +kernel
theorem dX11_puts_20 : decode cX11_puts 20 = .ok (.iload_n 1, 1) := by decide +kernel
theorem dX11_puts_21 : decode cX11_puts 21 = .ok (.iastore, 1) := by decide +kernel
theorem dX11_puts_22 : decode cX11_puts 22 = .ok (.aload_n 0, 1) := by decide +kernel
theorem dX11_puts_23 : decode cX11_puts 23 = .ok (.getfield 26, 3) := by decide +kernel
theorem dX11_puts_26 : decode cX11_puts 26 = .ok (.iconst 3, 1) := by decide +kernel
theorem dX11_puts_27 : decode cX11_puts 27 = .ok (.aload_n 0, 1) := by decide +kernel
theorem dX11_puts_28 : decode cX11_puts 28 = .ok (.getfield 95, 3) := by decide +kernel
theorem dX11_puts_31 : decode cX11_puts 31 = .ok (.imul, 1) := by decide +kernel
theorem dX11_puts_32 : decode cX11_puts 32 = .ok (.iconst 1, 1) := by decide +kernel
theorem dX11_puts_33 : decode cX11_puts 33 = .ok (.iadd, 1) := by decide +kernel
theorem dX11_puts_34 : decode cX11_puts 34 = .ok (.iload_n 2, 1) := by decide +kernel
theorem dX11_puts_35 : decode cX11_puts 35 = .ok (.iastore, 1) := by decide +kernel
theorem dX11_puts_36 : decode cX11_puts 36 = .ok (.aload_n 0, 1) := by decide +kernel
theorem dX11_puts_37 : decode cX11_puts 37 = .ok (.getfield 26, 3) := by decide +kernel
theorem dX11_puts_40 : decode cX11_puts 40 = .ok (.iconst 3, 1) := by decide +kernel
theorem dX11_puts_41 : decode cX11_puts 41 = .ok (.aload_n 0, 1) := by decide +kernel
theorem dX11_puts_42 : decode cX11_puts 42 = .ok (.getfield 95, 3) := by decide +kernel
theorem dX11_puts_45 : decode cX11_puts 45 = .ok (.imul, 1) := by decide +kernel
theorem dX11_puts_46 : decode cX11_puts 46 = .ok (.iconst 2, 1) := by decide +kernel
theorem dX11_puts_47 : decode cX11_puts 47 = .ok (.iadd, 1) := by decide +kernel
theorem dX11_puts_48 : decode cX11_puts 48 = .ok (.iload_n 3, 1) := by decide +kernel
theorem dX11_puts_49 : decode cX11_puts 49 = .ok (.iastore, 1) := by decide +kernel
theorem dX11_puts_50 : decode cX11_puts 50 = .ok (.return_, 1) := by decide +kernel
theorem dX11_traces_0 : decode cX11_traces 0 = .ok (.aload_n 0, 1) := by decide +kernel
theorem dX11_traces_1 : decode cX11_traces 1 = .ok (.invokevirtual 91, 3) := by decide +kernel
theorem dX11_traces_4 : decode cX11_traces 4 = .ok (.istore_n 1, 1) := by decide +kernel
theorem dX11_traces_5 : decode cX11_traces 5 = .ok (.aload_n 0, 1) := by decide +kernel
theorem dX11_traces_6 : decode cX11_traces 6 = .ok (.getfield 7, 3) := by decide +kernel
theorem dX11_traces_9 : decode cX11_traces 9 = .ok (.iconst 0, 1) := by decide +kernel
theorem dX11_traces_10 : decode cX11_traces 10 = .ok (.iaload, 1) := by decide +kernel
theorem dX11_traces_11 : decode cX11_traces 11 = .ok (.aload_n 0, 1) := by decide +kernel
theorem dX11_traces_12 : decode cX11_traces 12 = .ok (.getfield 7, 3) := by decide +kernel
theorem dX11_traces_15 : decode cX11_traces 15 = .ok (.iconst 1, 1) := by decide +kernel
theorem dX11_traces_16 : decode cX11_traces 16 = .ok (.iaload, 1) := by decide +kernel
theorem dX11_traces_17 : decode cX11_traces 17 = .ok (.iadd, 1) := by decide +kernel
theorem dX11_traces_18 : decode cX11_traces 18 = .ok (.iload_n 1, 1) := by decide +kernel
theorem dX11_traces_19 : decode cX11_traces 19 = .ok (.iadd, 1) := by decide +kernel
theorem dX11_traces_20 : decode cX11_traces 20 = .ok (.iconst 2, 1) := by decide +kernel
theorem dX11_traces_21 : decode cX11_traces 21 = .ok (.idiv, 1) := by decide +kernel
theorem dX11_traces_22 : decode cX11_traces 22 = .ok (.istore_n 2, 1) := by decide +kernel
theorem dX11_traces_23 : decode cX11_traces 23 = .ok (.aload_n 0, 1) := by decide +kernel
theorem dX11_traces_24 : decode cX11_traces 24 = .ok (.getfield 7, 3) := by decide +kernel
theorem dX11_traces_27 : decode cX11_traces 27 = .ok (.iconst 0, 1) := by decide +kernel
theorem dX11_traces_28 : decode cX11_traces 28 = .ok (.iaload, 1) := by decide +kernel
theorem dX11_traces_29 : decode cX11_traces 29 = .ok (.aload_n 0, 1) := by decide +kernel
theorem dX11_traces_30 : decode cX11_traces 30 = .ok (.getfield 7, 3) := by decide +kernel
theorem dX11_traces_33 : decode cX11_traces 33 = .ok (.iconst 1, 1) := by decide +kernel
theorem dX11_traces_34 : decode cX11_traces 34 = .ok (.iaload, 1) := by decide +kernel
theorem dX11_traces_35 : decode cX11_traces 35 = .ok (.isub, 1) := by decide +kernel
theorem dX11_traces_36 : decode cX11_traces 36 = .ok (.istore_n 3, 1) := by decide +kernel
theorem dX11_traces_37 : decode cX11_traces 37 = .ok (.aload_n 0, 1) := by decide +kernel
theorem dX11_traces_38 : decode cX11_traces 38 = .ok (.getfield 7, 3) := by decide +kernel
theorem dX11_traces_41 : decode cX11_traces 41 = .ok (.iconst 0, 1) := by decide +kernel
theorem dX11_traces_42 : decode cX11_traces 42 = .ok (.iaload, 1) := by decide +kernel
theorem dX11_traces_43 : decode cX11_traces 43 = .ok (.istore 4, 2) := by decide +kernel
theorem dX11_traces_45 : decode cX11_traces 45 = .ok (.aload_n 0, 1) := by decide +kernel
theorem dX11_traces_46 : decode cX11_traces 46 = .ok (.iload_n 2, 1) := by decide +kernel
theorem dX11_traces_47 : decode cX11_traces 47 = .ok (.putfield 95, 3) := by decide +kernel
theorem dX11_traces_50 : decode cX11_traces 50 = .ok (.iload_n 1, 1) := by decide +kernel
theorem dX11_traces_51 : decode cX11_traces 51 = .ok (.ifCond .lt 152, 3) := by decide +kernel
theorem dX11_traces_54 : decode cX11_traces 54 = .ok (.iload_n 1, 1) := by decide +kernel
theorem dX11_traces_55 : decode cX11_traces 55 = .ok (.ifCond .le 16, 3) := by decide +kernel
theorem dX11_traces_58 : decode cX11_traces 58 = .ok (.aload_n 0, 1) := by decide +kernel
theorem dX11_traces_59 : decode cX11_traces 59 = .ok (.iload_n 1, 1) := by decide +kernel
theorem dX11_traces_60 : decode cX11_traces 60 = .ok (.iload_n 3, 1) := by decide +kernel
theorem dX11_traces_61 : decode cX11_traces 61 = .ok (.invokevirtual 81, 3) := by decide +kernel
theorem dX11_traces_64 : decode cX11_traces 64 = .ok (.ifCond .eq 7, 3) := by decide +kernel
theorem dX11_traces_67 : decode cX11_traces 67 = .ok (.iconst 1, 1) := by decide +kernel
theorem dX11_traces_68 : decode cX11_traces 68 = .ok (.goto 4, 3) := by decide +kernel
theorem dX11_traces_71 : decode cX11_traces 71 = .ok (.iconst 0, 1) := by decide +kernel
theorem dX11_traces_72 : decode cX11_traces 72 = .ok (.istore 5, 2) := by decide +kernel
theorem dX11_traces_74 : decode cX11_traces 74 = .ok (.iload_n 1, 1) := by decide +kernel
theorem dX11_traces_75 : decode cX11_traces 75 = .ok (.ifCond .ne 7, 3) := by decide +kernel
theorem dX11_traces_78 : decode cX11_traces 78 = .ok (.iconst 0, 1) := by decide +kernel
theorem dX11_traces_79 : decode cX11_traces 79 = .ok (.goto 31, 3) := by decide +kernel
theorem dX11_traces_82 : decode cX11_traces 82 = .ok (.iload 5, 2) := by decide +kernel
theorem dX11_traces_84 : decode cX11_traces 84 = .ok (.ifCond .eq 16, 3) := by decide +kernel
theorem dX11_traces_87 : decode cX11_traces 87 = .ok (.aload_n 0, 1) := by decide +kernel
theorem dX11_traces_88 : decode cX11_traces 88 = .ok (.iload_n 1, 1) := by decide +kernel
theorem dX11_traces_89 : decode cX11_traces 89 = .ok (.iconst 1, 1) := by decide +kernel
theorem dX11_traces_90 : decode cX11_traces 90 = .ok (.isub, 1) := by decide +kernel
theorem dX11_traces_91 : decode cX11_traces 91 = .ok (.iload_n 3, 1) := by decide +kernel
theorem dX11_traces_92 : decode cX11_traces 92 = .ok (.iconst 1, 1) := by decide +kernel
theorem dX11_traces_93 : decode cX11_traces 93 = .ok (.iadd, 1) := by decide +kernel
theorem dX11_traces_94 : decode cX11_traces 94 = .ok (.invokevirtual 78, 3) := by decide +kernel
theorem dX11_traces_97 : decode cX11_traces 97 = .ok (.goto 13, 3) := by decide +kernel
theorem dX11_traces_100 : decode cX11_traces 100 = .ok (.aload_n 0, 1) := by decide +kernel
theorem dX11_traces_101 : decode cX11_traces 101 = .ok (.iload_n 1, 1) := by decide +kernel
theorem dX11_traces_102 : decode cX11_traces 102 = .ok (.iconst 1, 1) := by decide +kernel
theorem dX11_traces_103 : decode cX11_traces 103 = .ok (.isub, 1) := by decide +kernel
theorem dX11_traces_104 : decode cX11_traces 104 = .ok (.iload_n 3, 1) := by decide +kernel
theorem dX11_traces_105 : decode cX11_traces 105 = .ok (.iconst 1, 1) := by decide +kernel
theorem dX11_traces_106 : decode cX11_traces 106 = .ok (.isub, 1) := by decide +kernel
theorem dX11_traces_107 : decode cX11_traces 107 = .ok (.invokevirtual 78, 3) := by decide +kernel
theorem dX11_traces_110 : decode cX11_traces 110 = .ok (.istore 6, 2) := by decide +kernel
theorem dX11_traces_112 : decode cX11_traces 112 = .ok (.iload_n 1, 1) := by decide +kernel
theorem dX11_traces_113 : decode cX11_traces 113 = .ok (.ifCond .le 15, 3) := by decide +kernel
theorem dX11_traces_116 : decode cX11_traces 116 = .ok (.iload 5, 2) := by decide +kernel
theorem dX11_traces_118 : decode cX11_traces 118 = .ok (.ifCond .ne 10, 3) := by decide +kernel
theorem dX11_traces_121 : decode cX11_traces 121 = .ok (.iload 6, 2) := by decide +kernel
theorem dX11_traces_123 : decode cX11_traces 123 = .ok (.iconst 1, 1) := by decide +kernel
theorem dX11_traces_124 : decode cX11_traces 124 = .ok (.iadd, 1) := by decide +kernel
theorem dX11_traces_125 : decode cX11_traces 125 = .ok (.goto 5, 3) := by decide +kernel
theorem dX11_traces_128 : decode cX11_traces 128 = .ok (.iload 6, 2) := by decide +kernel
theorem dX11_traces_130 : decode cX11_traces 130 = .ok (.istore 7, 2) := by decide +kernel
theorem dX11_traces_132 : decode cX11_traces 132 = .ok (.iload 4, 2) := by decide +kernel
theorem dX11_traces_134 : decode cX11_traces 134 = .ok (.iload 7, 2) := by decide +kernel
theorem dX11_traces_136 : decode cX11_traces 136 = .ok (.if_icmp .le 20, 3) := by decide +kernel
theorem dX11_traces_139 : decode cX11_traces 139 = .ok (.iinc 4 (-1), 3) := by decide +kernel
theorem dX11_traces_142 : decode cX11_traces 142 = .ok (.aload_n 0, 1) := by decide +kernel
theorem dX11_traces_143 : decode cX11_traces 143 = .ok (.iconst 0, 1) := by decide +kernel
theorem dX11_traces_144 : decode cX11_traces 144 = .ok (.iload 4, 2) := by decide +kernel
theorem dX11_traces_146 : decode cX11_traces 146 = .ok (.iload 4, 2) := by decide +kernel
theorem dX11_traces_148 : decode cX11_traces 148 = .ok (.iload_n 3, 1) := by decide +kernel
theorem dX11_traces_149 : decode cX11_traces 149 = .ok (.isub, 1) := by decide +kernel
theorem dX11_traces_150 : decode cX11_traces 150 = .ok (.invokevirtual 98, 3) := by decide +kernel
theorem dX11_traces_153 : decode cX11_traces 153 = .ok (.goto (-21), 3) := by decide +kernel
theorem dX11_traces_156 : decode cX11_traces 156 = .ok (.iload_n 1, 1) := by decide +kernel
theorem dX11_traces_157 : decode cX11_traces 157 = .ok (.ifCond .le 40, 3) := by decide +kernel
theorem dX11_traces_160 : decode cX11_traces 160 = .ok (.iload_n 3, 1) := by decide +kernel
theorem dX11_traces_161 : decode cX11_traces 161 = .ok (.iload 5, 2) := by decide +kernel
theorem dX11_traces_163 : decode cX11_traces 163 = .ok (.ifCond .eq 7, 3) := by decide +kernel
theorem dX11_traces_166 : decode cX11_traces 166 = .ok (.iconst 1, 1) := by decide +kernel
theorem dX11_traces_167 : decode cX11_traces 167 = .ok (.goto 4, 3) := by decide +kernel
theorem dX11_traces_170 : decode cX11_traces 170 = .ok (.iconst (-1), 1) := by decide +kernel
theorem dX11_traces_171 : decode cX11_traces 171 = .ok (.iadd, 1) := by decide +kernel
theorem dX11_traces_172 : decode cX11_traces 172 = .ok (.istore_n 3, 1) := by decide +kernel
theorem dX11_traces_173 : decode cX11_traces 173 = .ok (.iload 6, 2) := by decide +kernel
theorem dX11_traces_175 : decode cX11_traces 175 = .ok (.istore 4, 2) := by decide +kernel
theorem dX11_traces_177 : decode cX11_traces 177 = .ok (.aload_n 0, 1) := by decide +kernel
theorem dX11_traces_178 : decode cX11_traces 178 = .ok (.iload 5, 2) := by decide +kernel
theorem dX11_traces_180 : decode cX11_traces 180 = .ok (.ifCond .eq 7, 3) := by decide +kernel
theorem dX11_traces_183 : decode cX11_traces 183 = .ok (.iconst 2, 1) := by decide +kernel
theorem dX11_traces_184 : decode cX11_traces 184 = .ok (.goto 4, 3) := by decide +kernel
theorem dX11_traces_187 : decode cX11_traces 187 = .ok (.iconst 1, 1) := by decide +kernel
theorem dX11_traces_188 : decode cX11_traces 188 = .ok (.iload 4, 2) := by decide +kernel
theorem dX11_traces_190 : decode cX11_traces 190 = .ok (.iload 4, 2) := by decide +kernel
theorem dX11_traces_192 : decode cX11_traces 192 = .ok (.iload_n 3, 1) := by decide +kernel
theorem dX11_traces_193 : decode cX11_traces 193 = .ok (.isub, 1) := by decide +kernel
theorem dX11_traces_194 : decode cX11_traces 194 = .ok (.invokevirtual 98, 3) := by decide +kernel
theorem dX11_traces_197 : decode cX11_traces 197 = .ok (.iinc 1 (-1), 3) := by decide +kernel
theorem dX11_traces_200 : decode cX11_traces 200 = .ok (.goto (-150), 3) := by decide +kernel
theorem dX11_traces_203 : decode cX11_traces 203 = .ok (.aload_n 0, 1) := by decide +kernel
theorem dX11_traces_204 : decode cX11_traces 204 = .ok (.iload_n 2, 1) := by decide +kernel
theorem dX11_traces_205 : decode cX11_traces 205 = .ok (.putfield 95, 3) := by decide +kernel
theorem dX11_traces_208 : decode cX11_traces 208 = .ok (.aload_n 0, 1) := by decide +kernel
theorem dX11_traces_209 : decode cX11_traces 209 = .ok (.getfield 84, 3) := by decide +kernel
theorem dX11_traces_212 : decode cX11_traces 212 = .ok (.aload_n 0, 1) := by decide +kernel
theorem dX11_traces_213 : decode cX11_traces 213 = .ok (.getfield 7, 3) := by decide +kernel
theorem dX11_traces_216 : decode cX11_traces 216 = .ok (.iconst 2, 1) := by decide +kernel
theorem dX11_traces_217 : decode cX11_traces 217 = .ok (.iaload, 1) := by decide +kernel
theorem dX11_traces_218 : decode cX11_traces 218 = .ok (.if_icmp .gt 7, 3) := by decide +kernel
theorem dX11_traces_221 : decode cX11_traces 221 = .ok (.iconst 1, 1) := by decide +kernel
theorem dX11_traces_222 : decode cX11_traces 222 = .ok (.goto 4, 3) := by decide +kernel
theorem dX11_traces_225 : decode cX11_traces 225 = .ok (.iconst 0, 1) := by decide +kernel
theorem dX11_traces_226 : decode cX11_traces 226 = .ok (.ireturn, 1) := by decide +kernel
theorem dX11_kind_0 : decode cX11_kind 0 = .ok (.aload_n 0, 1) := by decide +kernel
theorem dX11_kind_1 : decode cX11_kind 1 = .ok (.getfield 26, 3) := by decide +kernel
theorem dX11_kind_4 : decode cX11_kind 4 = .ok (.iconst 3, 1) := by decide +kernel
theorem dX11_kind_5 : decode cX11_kind 5 = .ok (.iload_n 1, 1) := by decide +kernel
theorem dX11_kind_6 : decode cX11_kind 6 = .ok (.imul, 1) := by decide +kernel
theorem dX11_kind_7 : decode cX11_kind 7 = .ok (.iaload, 1) := by decide +kernel
theorem dX11_kind_8 : decode cX11_kind 8 = .ok (.ireturn, 1) := by decide +kernel
theorem dX11_stepOf_0 : decode cX11_stepOf 0 = .ok (.iload_n 1, 1) := by decide +kernel
theorem dX11_stepOf_1 : decode cX11_stepOf 1 = .ok (.ifCond .lt 12, 3) := by decide +kernel
theorem dX11_stepOf_4 : decode cX11_stepOf 4 = .ok (.iload_n 2, 1) := by decide +kernel
theorem dX11_stepOf_5 : decode cX11_stepOf 5 = .ok (.iconst 0, 1) := by decide +kernel
theorem dX11_stepOf_6 : decode cX11_stepOf 6 = .ok (.iconst 3, 1) := by decide +kernel
theorem dX11_stepOf_7 : decode cX11_stepOf 7 = .ok (.invokestatic 48, 3) := by decide +kernel
theorem dX11_stepOf_10 : decode cX11_stepOf 10 = .ok (.ifCond .ne 6, 3) := by decide +kernel
theorem dX11_stepOf_13 : decode cX11_stepOf 13 = .ok (.ldc 56, 2) := by decide +kernel
theorem dX11_stepOf_15 : decode cX11_stepOf 15 = .ok (.ireturn, 1) := by decide +kernel
theorem dX11_stepOf_16 : decode cX11_stepOf 16 = .ok (.aload_n 0, 1) := by decide +kernel
theorem dX11_stepOf_17 : decode cX11_stepOf 17 = .ok (.invokevirtual 102, 3) := by decide +kernel
theorem dX11_stepOf_20 : decode cX11_stepOf 20 = .ok (.ifCond .ne 6, 3) := by decide +kernel
theorem dX11_stepOf_23 : decode cX11_stepOf 23 = .ok (.ldc 61, 2) := by decide +kernel
theorem dX11_stepOf_25 : decode cX11_stepOf 25 = .ok (.ireturn, 1) := by decide +kernel
theorem dX11_stepOf_26 : decode cX11_stepOf 26 = .ok (.iload_n 1, 1) := by decide +kernel
theorem dX11_stepOf_27 : decode cX11_stepOf 27 = .ok (.aload_n 0, 1) := by decide +kernel
theorem dX11_stepOf_28 : decode cX11_stepOf 28 = .ok (.getfield 95, 3) := by decide +kernel
theorem dX11_stepOf_31 : decode cX11_stepOf 31 = .ok (.if_icmp .lt 6, 3) := by decide +kernel
theorem dX11_stepOf_34 : decode cX11_stepOf 34 = .ok (.ldc 70, 2) := by decide +kernel
theorem dX11_stepOf_36 : decode cX11_stepOf 36 = .ok (.ireturn, 1) := by decide +kernel
theorem dX11_stepOf_37 : decode cX11_stepOf 37 = .ok (.aload_n 0, 1) := by decide +kernel
theorem dX11_stepOf_38 : decode cX11_stepOf 38 = .ok (.getfield 26, 3) := by decide +kernel
theorem dX11_stepOf_41 : decode cX11_stepOf 41 = .ok (.iconst 3, 1) := by decide +kernel
theorem dX11_stepOf_42 : decode cX11_stepOf 42 = .ok (.iload_n 1, 1) := by decide +kernel
theorem dX11_stepOf_43 : decode cX11_stepOf 43 = .ok (.imul, 1) := by decide +kernel
theorem dX11_stepOf_44 : decode cX11_stepOf 44 = .ok (.iconst 1, 1) := by decide +kernel
theorem dX11_stepOf_45 : decode cX11_stepOf 45 = .ok (.iadd, 1) := by decide +kernel
theorem dX11_stepOf_46 : decode cX11_stepOf 46 = .ok (.iaload, 1) := by decide +kernel
theorem dX11_stepOf_47 : decode cX11_stepOf 47 = .ok (.istore_n 3, 1) := by decide +kernel
theorem dX11_stepOf_48 : decode cX11_stepOf 48 = .ok (.aload_n 0, 1) := by decide +kernel
theorem dX11_stepOf_49 : decode cX11_stepOf 49 = .ok (.getfield 26, 3) := by decide +kernel
theorem dX11_stepOf_52 : decode cX11_stepOf 52 = .ok (.iconst 3, 1) := by decide +kernel
theorem dX11_stepOf_53 : decode cX11_stepOf 53 = .ok (.iload_n 1, 1) := by decide +kernel
theorem dX11_stepOf_54 : decode cX11_stepOf 54 = .ok (.imul, 1) := by decide +kernel
theorem dX11_stepOf_55 : decode cX11_stepOf 55 = .ok (.iconst 2, 1) := by decide +kernel
theorem dX11_stepOf_56 : decode cX11_stepOf 56 = .ok (.iadd, 1) := by decide +kernel
theorem dX11_stepOf_57 : decode cX11_stepOf 57 = .ok (.iaload, 1) := by decide +kernel
theorem dX11_stepOf_58 : decode cX11_stepOf 58 = .ok (.istore 4, 2) := by decide +kernel
theorem dX11_stepOf_60 : decode cX11_stepOf 60 = .ok (.iload_n 2, 1) := by decide +kernel
theorem dX11_stepOf_61 : decode cX11_stepOf 61 = .ok (.ifCond .ne 11, 3) := by decide +kernel
theorem dX11_stepOf_64 : decode cX11_stepOf 64 = .ok (.aload_n 0, 1) := by decide +kernel
theorem dX11_stepOf_65 : decode cX11_stepOf 65 = .ok (.iload_n 1, 1) := by decide +kernel
theorem dX11_stepOf_66 : decode cX11_stepOf 66 = .ok (.invokevirtual 106, 3) := by decide +kernel
theorem dX11_stepOf_69 : decode cX11_stepOf 69 = .ok (.goto 47, 3) := by decide +kernel
theorem dX11_stepOf_72 : decode cX11_stepOf 72 = .ok (.iload_n 2, 1) := by decide +kernel
theorem dX11_stepOf_73 : decode cX11_stepOf 73 = .ok (.iconst 2, 1) := by decide +kernel
theorem dX11_stepOf_74 : decode cX11_stepOf 74 = .ok (.if_icmp .ne 7, 3) := by decide +kernel
theorem dX11_stepOf_77 : decode cX11_stepOf 77 = .ok (.iload_n 3, 1) := by decide +kernel
theorem dX11_stepOf_78 : decode cX11_stepOf 78 = .ok (.goto 38, 3) := by decide +kernel
theorem dX11_stepOf_81 : decode cX11_stepOf 81 = .ok (.iload_n 2, 1) := by decide +kernel
theorem dX11_stepOf_82 : decode cX11_stepOf 82 = .ok (.iconst 3, 1) := by decide +kernel
theorem dX11_stepOf_83 : decode cX11_stepOf 83 = .ok (.if_icmp .ne 8, 3) := by decide +kernel
theorem dX11_stepOf_86 : decode cX11_stepOf 86 = .ok (.iload 4, 2) := by decide +kernel
theorem dX11_stepOf_88 : decode cX11_stepOf 88 = .ok (.goto 28, 3) := by decide +kernel
theorem dX11_stepOf_91 : decode cX11_stepOf 91 = .ok (.aload_n 0, 1) := by decide +kernel
theorem dX11_stepOf_92 : decode cX11_stepOf 92 = .ok (.iload_n 1, 1) := by decide +kernel
theorem dX11_stepOf_93 : decode cX11_stepOf 93 = .ok (.invokevirtual 106, 3) := by decide +kernel
theorem dX11_stepOf_96 : decode cX11_stepOf 96 = .ok (.iconst 2, 1) := by decide +kernel
theorem dX11_stepOf_97 : decode cX11_stepOf 97 = .ok (.if_icmp .ne 13, 3) := by decide +kernel
theorem dX11_stepOf_100 : decode cX11_stepOf 100 = .ok (.aload_n 0, 1) := by decide +kernel
theorem dX11_stepOf_101 : decode cX11_stepOf 101 = .ok (.iconst 1, 1) := by decide +kernel
theorem dX11_stepOf_102 : decode cX11_stepOf 102 = .ok (.iload 4, 2) := by decide +kernel
theorem dX11_stepOf_104 : decode cX11_stepOf 104 = .ok (.invokevirtual 52, 3) := by decide +kernel
theorem dX11_stepOf_107 : decode cX11_stepOf 107 = .ok (.goto 9, 3) := by decide +kernel
theorem dX11_stepOf_110 : decode cX11_stepOf 110 = .ok (.aload_n 0, 1) := by decide +kernel
theorem dX11_stepOf_111 : decode cX11_stepOf 111 = .ok (.iconst 0, 1) := by decide +kernel
theorem dX11_stepOf_112 : decode cX11_stepOf 112 = .ok (.iload_n 3, 1) := by decide +kernel
theorem dX11_stepOf_113 : decode cX11_stepOf 113 = .ok (.invokevirtual 52, 3) := by decide +kernel
theorem dX11_stepOf_116 : decode cX11_stepOf 116 = .ok (.ireturn, 1) := by decide +kernel
theorem dX11_writes_0 : decode cX11_writes 0 = .ok (.aload_n 0, 1) := by decide +kernel
theorem dX11_writes_1 : decode cX11_writes 1 = .ok (.getfield 36, 3) := by decide +kernel
theorem dX11_writes_4 : decode cX11_writes 4 = .ok (.aload_n 0, 1) := by decide +kernel
theorem dX11_writes_5 : decode cX11_writes 5 = .ok (.getfield 109, 3) := by decide +kernel
theorem dX11_writes_8 : decode cX11_writes 8 = .ok (.iload_n 1, 1) := by decide +kernel
theorem dX11_writes_9 : decode cX11_writes 9 = .ok (.i2c, 1) := by decide +kernel
theorem dX11_writes_10 : decode cX11_writes 10 = .ok (.castore, 1) := by decide +kernel
theorem dX11_writes_11 : decode cX11_writes 11 = .ok (.aload_n 0, 1) := by decide +kernel
theorem dX11_writes_12 : decode cX11_writes 12 = .ok (.dup, 1) := by decide +kernel
theorem dX11_writes_13 : decode cX11_writes 13 = .ok (.getfield 109, 3) := by decide +kernel
theorem dX11_writes_16 : decode cX11_writes 16 = .ok (.iconst 1, 1) := by decide +kernel
theorem dX11_writes_17 : decode cX11_writes 17 = .ok (.iadd, 1) := by decide +kernel
theorem dX11_writes_18 : decode cX11_writes 18 = .ok (.putfield 109, 3) := by decide +kernel
theorem dX11_writes_21 : decode cX11_writes 21 = .ok (.return_, 1) := by decide +kernel
theorem dX11_number_0 : decode cX11_number 0 = .ok (.iload_n 1, 1) := by decide +kernel
theorem dX11_number_1 : decode cX11_number 1 = .ok (.bipush 9, 2) := by decide +kernel
theorem dX11_number_3 : decode cX11_number 3 = .ok (.if_icmp .le 14, 3) := by decide +kernel
theorem dX11_number_6 : decode cX11_number 6 = .ok (.aload_n 0, 1) := by decide +kernel
theorem dX11_number_7 : decode cX11_number 7 = .ok (.bipush 48, 2) := by decide +kernel
theorem dX11_number_9 : decode cX11_number 9 = .ok (.iload_n 1, 1) := by decide +kernel
theorem dX11_number_10 : decode cX11_number 10 = .ok (.bipush 10, 2) := by decide +kernel
theorem dX11_number_12 : decode cX11_number 12 = .ok (.idiv, 1) := by decide +kernel
theorem dX11_number_13 : decode cX11_number 13 = .ok (.iadd, 1) := by decide +kernel
theorem dX11_number_14 : decode cX11_number 14 = .ok (.invokevirtual 112, 3) := by decide +kernel
theorem dX11_number_17 : decode cX11_number 17 = .ok (.aload_n 0, 1) := by decide +kernel
theorem dX11_number_18 : decode cX11_number 18 = .ok (.bipush 48, 2) := by decide +kernel
theorem dX11_number_20 : decode cX11_number 20 = .ok (.iload_n 1, 1) := by decide +kernel
theorem dX11_number_21 : decode cX11_number 21 = .ok (.bipush 10, 2) := by decide +kernel
theorem dX11_number_23 : decode cX11_number 23 = .ok (.irem, 1) := by decide +kernel
theorem dX11_number_24 : decode cX11_number 24 = .ok (.iadd, 1) := by decide +kernel
theorem dX11_number_25 : decode cX11_number 25 = .ok (.invokevirtual 112, 3) := by decide +kernel
theorem dX11_number_28 : decode cX11_number 28 = .ok (.return_, 1) := by decide +kernel
theorem dX11_tells_0 : decode cX11_tells 0 = .ok (.aload_n 0, 1) := by decide +kernel
theorem dX11_tells_1 : decode cX11_tells 1 = .ok (.iconst 0, 1) := by decide +kernel
theorem dX11_tells_2 : decode cX11_tells 2 = .ok (.putfield 109, 3) := by decide +kernel
theorem dX11_tells_5 : decode cX11_tells 5 = .ok (.iconst 0, 1) := by decide +kernel
theorem dX11_tells_6 : decode cX11_tells 6 = .ok (.istore_n 1, 1) := by decide +kernel
theorem dX11_tells_7 : decode cX11_tells 7 = .ok (.iload_n 1, 1) := by decide +kernel
theorem dX11_tells_8 : decode cX11_tells 8 = .ok (.aload_n 0, 1) := by decide +kernel
theorem dX11_tells_9 : decode cX11_tells 9 = .ok (.getfield 95, 3) := by decide +kernel
theorem dX11_tells_12 : decode cX11_tells 12 = .ok (.if_icmp .ge 107, 3) := by decide +kernel
theorem dX11_tells_15 : decode cX11_tells 15 = .ok (.aload_n 0, 1) := by decide +kernel
theorem dX11_tells_16 : decode cX11_tells 16 = .ok (.iload_n 1, 1) := by decide +kernel
theorem dX11_tells_17 : decode cX11_tells 17 = .ok (.invokevirtual 106, 3) := by decide +kernel
theorem dX11_tells_20 : decode cX11_tells 20 = .ok (.istore_n 2, 1) := by decide +kernel
theorem dX11_tells_21 : decode cX11_tells 21 = .ok (.iload_n 1, 1) := by decide +kernel
theorem dX11_tells_22 : decode cX11_tells 22 = .ok (.istore_n 3, 1) := by decide +kernel
theorem dX11_tells_23 : decode cX11_tells 23 = .ok (.aload_n 0, 1) := by decide +kernel
theorem dX11_tells_24 : decode cX11_tells 24 = .ok (.iload_n 2, 1) := by decide +kernel
theorem dX11_tells_25 : decode cX11_tells 25 = .ok (.ifCond .ne 8, 3) := by decide +kernel
theorem dX11_tells_28 : decode cX11_tells 28 = .ok (.bipush 61, 2) := by decide +kernel
theorem dX11_tells_30 : decode cX11_tells 30 = .ok (.goto 15, 3) := by decide +kernel
theorem dX11_tells_33 : decode cX11_tells 33 = .ok (.iload_n 2, 1) := by decide +kernel
theorem dX11_tells_34 : decode cX11_tells 34 = .ok (.iconst 1, 1) := by decide +kernel
theorem dX11_tells_35 : decode cX11_tells 35 = .ok (.if_icmp .ne 8, 3) := by decide +kernel
theorem dX11_tells_38 : decode cX11_tells 38 = .ok (.bipush 45, 2) := by decide +kernel
theorem dX11_tells_40 : decode cX11_tells 40 = .ok (.goto 5, 3) := by decide +kernel
theorem dX11_tells_43 : decode cX11_tells 43 = .ok (.bipush 43, 2) := by decide +kernel
theorem dX11_tells_45 : decode cX11_tells 45 = .ok (.invokevirtual 112, 3) := by decide +kernel
theorem dX11_tells_48 : decode cX11_tells 48 = .ok (.iload_n 1, 1) := by decide +kernel
theorem dX11_tells_49 : decode cX11_tells 49 = .ok (.aload_n 0, 1) := by decide +kernel
theorem dX11_tells_50 : decode cX11_tells 50 = .ok (.getfield 95, 3) := by decide +kernel
theorem dX11_tells_53 : decode cX11_tells 53 = .ok (.if_icmp .ge 45, 3) := by decide +kernel
theorem dX11_tells_56 : decode cX11_tells 56 = .ok (.aload_n 0, 1) := by decide +kernel
theorem dX11_tells_57 : decode cX11_tells 57 = .ok (.iload_n 1, 1) := by decide +kernel
theorem dX11_tells_58 : decode cX11_tells 58 = .ok (.invokevirtual 106, 3) := by decide +kernel
theorem dX11_tells_61 : decode cX11_tells 61 = .ok (.iload_n 2, 1) := by decide +kernel
theorem dX11_tells_62 : decode cX11_tells 62 = .ok (.if_icmp .ne 36, 3) := by decide +kernel
theorem dX11_tells_65 : decode cX11_tells 65 = .ok (.iload_n 2, 1) := by decide +kernel
theorem dX11_tells_66 : decode cX11_tells 66 = .ok (.iconst 2, 1) := by decide +kernel
theorem dX11_tells_67 : decode cX11_tells 67 = .ok (.if_icmp .ne 25, 3) := by decide +kernel
theorem dX11_tells_70 : decode cX11_tells 70 = .ok (.aload_n 0, 1) := by decide +kernel
theorem dX11_tells_71 : decode cX11_tells 71 = .ok (.bipush 97, 2) := by decide +kernel
theorem dX11_tells_73 : decode cX11_tells 73 = .ok (.aload_n 0, 1) := by decide +kernel
theorem dX11_tells_74 : decode cX11_tells 74 = .ok (.iconst 1, 1) := by decide +kernel
theorem dX11_tells_75 : decode cX11_tells 75 = .ok (.aload_n 0, 1) := by decide +kernel
theorem dX11_tells_76 : decode cX11_tells 76 = .ok (.getfield 26, 3) := by decide +kernel
theorem dX11_tells_79 : decode cX11_tells 79 = .ok (.iconst 3, 1) := by decide +kernel
theorem dX11_tells_80 : decode cX11_tells 80 = .ok (.iload_n 1, 1) := by decide +kernel
theorem dX11_tells_81 : decode cX11_tells 81 = .ok (.imul, 1) := by decide +kernel
theorem dX11_tells_82 : decode cX11_tells 82 = .ok (.iconst 2, 1) := by decide +kernel
theorem dX11_tells_83 : decode cX11_tells 83 = .ok (.iadd, 1) := by decide +kernel
theorem dX11_tells_84 : decode cX11_tells 84 = .ok (.iaload, 1) := by decide +kernel
theorem dX11_tells_85 : decode cX11_tells 85 = .ok (.invokevirtual 52, 3) := by decide +kernel
theorem dX11_tells_88 : decode cX11_tells 88 = .ok (.iadd, 1) := by decide +kernel
theorem dX11_tells_89 : decode cX11_tells 89 = .ok (.invokevirtual 112, 3) := by decide +kernel
theorem dX11_tells_92 : decode cX11_tells 92 = .ok (.iinc 1 1, 3) := by decide +kernel
theorem dX11_tells_95 : decode cX11_tells 95 = .ok (.goto (-47), 3) := by decide +kernel
theorem dX11_tells_98 : decode cX11_tells 98 = .ok (.iload_n 2, 1) := by decide +kernel
theorem dX11_tells_99 : decode cX11_tells 99 = .ok (.iconst 2, 1) := by decide +kernel
theorem dX11_tells_100 : decode cX11_tells 100 = .ok (.if_icmp .eq 10, 3) := by decide +kernel
theorem dX11_tells_103 : decode cX11_tells 103 = .ok (.aload_n 0, 1) := by decide +kernel
theorem dX11_tells_104 : decode cX11_tells 104 = .ok (.iload_n 1, 1) := by decide +kernel
theorem dX11_tells_105 : decode cX11_tells 105 = .ok (.iload_n 3, 1) := by decide +kernel
theorem dX11_tells_106 : decode cX11_tells 106 = .ok (.isub, 1) := by decide +kernel
theorem dX11_tells_107 : decode cX11_tells 107 = .ok (.invokevirtual 116, 3) := by decide +kernel
theorem dX11_tells_110 : decode cX11_tells 110 = .ok (.aload_n 0, 1) := by decide +kernel
theorem dX11_tells_111 : decode cX11_tells 111 = .ok (.bipush 59, 2) := by decide +kernel
theorem dX11_tells_113 : decode cX11_tells 113 = .ok (.invokevirtual 112, 3) := by decide +kernel
theorem dX11_tells_116 : decode cX11_tells 116 = .ok (.goto (-109), 3) := by decide +kernel
theorem dX11_tells_119 : decode cX11_tells 119 = .ok (.return_, 1) := by decide +kernel
theorem dX11_textAt_0 : decode cX11_textAt 0 = .ok (.iload_n 1, 1) := by decide +kernel
theorem dX11_textAt_1 : decode cX11_textAt 1 = .ok (.ifCond .ge 6, 3) := by decide +kernel
theorem dX11_textAt_4 : decode cX11_textAt 4 = .ok (.ldc 56, 2) := by decide +kernel
theorem dX11_textAt_6 : decode cX11_textAt 6 = .ok (.ireturn, 1) := by decide +kernel
theorem dX11_textAt_7 : decode cX11_textAt 7 = .ok (.aload_n 0, 1) := by decide +kernel
theorem dX11_textAt_8 : decode cX11_textAt 8 = .ok (.invokevirtual 102, 3) := by decide +kernel
theorem dX11_textAt_11 : decode cX11_textAt 11 = .ok (.ifCond .ne 6, 3) := by decide +kernel
theorem dX11_textAt_14 : decode cX11_textAt 14 = .ok (.ldc 61, 2) := by decide +kernel
theorem dX11_textAt_16 : decode cX11_textAt 16 = .ok (.ireturn, 1) := by decide +kernel
theorem dX11_textAt_17 : decode cX11_textAt 17 = .ok (.aload_n 0, 1) := by decide +kernel
theorem dX11_textAt_18 : decode cX11_textAt 18 = .ok (.invokevirtual 119, 3) := by decide +kernel
theorem dX11_textAt_21 : decode cX11_textAt 21 = .ok (.iload_n 1, 1) := by decide +kernel
theorem dX11_textAt_22 : decode cX11_textAt 22 = .ok (.aload_n 0, 1) := by decide +kernel
theorem dX11_textAt_23 : decode cX11_textAt 23 = .ok (.getfield 109, 3) := by decide +kernel
theorem dX11_textAt_26 : decode cX11_textAt 26 = .ok (.if_icmp .ge 12, 3) := by decide +kernel
theorem dX11_textAt_29 : decode cX11_textAt 29 = .ok (.aload_n 0, 1) := by decide +kernel
theorem dX11_textAt_30 : decode cX11_textAt 30 = .ok (.getfield 36, 3) := by decide +kernel
theorem dX11_textAt_33 : decode cX11_textAt 33 = .ok (.iload_n 1, 1) := by decide +kernel
theorem dX11_textAt_34 : decode cX11_textAt 34 = .ok (.caload, 1) := by decide +kernel
theorem dX11_textAt_35 : decode cX11_textAt 35 = .ok (.goto 5, 3) := by decide +kernel
theorem dX11_textAt_38 : decode cX11_textAt 38 = .ok (.ldc 70, 2) := by decide +kernel
theorem dX11_textAt_40 : decode cX11_textAt 40 = .ok (.ireturn, 1) := by decide +kernel
theorem dX11_counts_0 : decode cX11_counts 0 = .ok (.iconst 0, 1) := by decide +kernel
theorem dX11_counts_1 : decode cX11_counts 1 = .ok (.istore_n 1, 1) := by decide +kernel
theorem dX11_counts_2 : decode cX11_counts 2 = .ok (.iload_n 1, 1) := by decide +kernel
theorem dX11_counts_3 : decode cX11_counts 3 = .ok (.aload_n 0, 1) := by decide +kernel
theorem dX11_counts_4 : decode cX11_counts 4 = .ok (.getfield 7, 3) := by decide +kernel
theorem dX11_counts_7 : decode cX11_counts 7 = .ok (.iconst 0, 1) := by decide +kernel
theorem dX11_counts_8 : decode cX11_counts 8 = .ok (.iaload, 1) := by decide +kernel
theorem dX11_counts_9 : decode cX11_counts 9 = .ok (.if_icmp .gt 246, 3) := by decide +kernel
theorem dX11_counts_12 : decode cX11_counts 12 = .ok (.iconst 0, 1) := by decide +kernel
theorem dX11_counts_13 : decode cX11_counts 13 = .ok (.istore_n 2, 1) := by decide +kernel
theorem dX11_counts_14 : decode cX11_counts 14 = .ok (.iload_n 2, 1) := by decide +kernel
theorem dX11_counts_15 : decode cX11_counts 15 = .ok (.aload_n 0, 1) := by decide +kernel
theorem dX11_counts_16 : decode cX11_counts 16 = .ok (.getfield 7, 3) := by decide +kernel
theorem dX11_counts_19 : decode cX11_counts 19 = .ok (.iconst 1, 1) := by decide +kernel
theorem dX11_counts_20 : decode cX11_counts 20 = .ok (.iaload, 1) := by decide +kernel
theorem dX11_counts_21 : decode cX11_counts 21 = .ok (.if_icmp .gt 228, 3) := by decide +kernel
theorem dX11_counts_24 : decode cX11_counts 24 = .ok (.bipush 29, 2) := by decide +kernel
theorem dX11_counts_26 : decode cX11_counts 26 = .ok (.iload_n 1, 1) := by decide +kernel
theorem dX11_counts_27 : decode cX11_counts 27 = .ok (.imul, 1) := by decide +kernel
theorem dX11_counts_28 : decode cX11_counts 28 = .ok (.iload_n 2, 1) := by decide +kernel
theorem dX11_counts_29 : decode cX11_counts 29 = .ok (.iadd, 1) := by decide +kernel
theorem dX11_counts_30 : decode cX11_counts 30 = .ok (.istore_n 3, 1) := by decide +kernel
theorem dX11_counts_31 : decode cX11_counts 31 = .ok (.iload_n 1, 1) := by decide +kernel
theorem dX11_counts_32 : decode cX11_counts 32 = .ok (.iload_n 2, 1) := by decide +kernel
theorem dX11_counts_33 : decode cX11_counts 33 = .ok (.iadd, 1) := by decide +kernel
theorem dX11_counts_34 : decode cX11_counts 34 = .ok (.istore 4, 2) := by decide +kernel
theorem dX11_counts_36 : decode cX11_counts 36 = .ok (.iload_n 1, 1) := by decide +kernel
theorem dX11_counts_37 : decode cX11_counts 37 = .ok (.iload_n 2, 1) := by decide +kernel
theorem dX11_counts_38 : decode cX11_counts 38 = .ok (.iadd, 1) := by decide +kernel
theorem dX11_counts_39 : decode cX11_counts 39 = .ok (.ifCond .eq 11, 3) := by decide +kernel
theorem dX11_counts_42 : decode cX11_counts 42 = .ok (.iload_n 1, 1) := by decide +kernel
theorem dX11_counts_43 : decode cX11_counts 43 = .ok (.ifCond .eq 7, 3) := by decide +kernel
theorem dX11_counts_46 : decode cX11_counts 46 = .ok (.iload_n 2, 1) := by decide +kernel
theorem dX11_counts_47 : decode cX11_counts 47 = .ok (.ifCond .ne 7, 3) := by decide +kernel
theorem dX11_counts_50 : decode cX11_counts 50 = .ok (.lconst 1, 1) := by decide +kernel
theorem dX11_counts_51 : decode cX11_counts 51 = .ok (.goto 4, 3) := by decide +kernel
theorem dX11_counts_54 : decode cX11_counts 54 = .ok (.lconst 0, 1) := by decide +kernel
theorem dX11_counts_55 : decode cX11_counts 55 = .ok (.lstore 5, 2) := by decide +kernel
theorem dX11_counts_57 : decode cX11_counts 57 = .ok (.iload_n 1, 1) := by decide +kernel
theorem dX11_counts_58 : decode cX11_counts 58 = .ok (.ifCond .le 169, 3) := by decide +kernel
theorem dX11_counts_61 : decode cX11_counts 61 = .ok (.iload_n 2, 1) := by decide +kernel
theorem dX11_counts_62 : decode cX11_counts 62 = .ok (.ifCond .le 165, 3) := by decide +kernel
theorem dX11_counts_65 : decode cX11_counts 65 = .ok (.aload_n 0, 1) := by decide +kernel
theorem dX11_counts_66 : decode cX11_counts 66 = .ok (.getfield 29, 3) := by decide +kernel
theorem dX11_counts_69 : decode cX11_counts 69 = .ok (.iload_n 3, 1) := by decide +kernel
theorem dX11_counts_70 : decode cX11_counts 70 = .ok (.bipush 29, 2) := by decide +kernel
theorem dX11_counts_72 : decode cX11_counts 72 = .ok (.isub, 1) := by decide +kernel
theorem dX11_counts_73 : decode cX11_counts 73 = .ok (.iaload, 1) := by decide +kernel
theorem dX11_counts_74 : decode cX11_counts 74 = .ok (.iconst 1, 1) := by decide +kernel
theorem dX11_counts_75 : decode cX11_counts 75 = .ok (.iadd, 1) := by decide +kernel
theorem dX11_counts_76 : decode cX11_counts 76 = .ok (.istore 7, 2) := by decide +kernel
theorem dX11_counts_78 : decode cX11_counts 78 = .ok (.aload_n 0, 1) := by decide +kernel
theorem dX11_counts_79 : decode cX11_counts 79 = .ok (.getfield 29, 3) := by decide +kernel
theorem dX11_counts_82 : decode cX11_counts 82 = .ok (.iload_n 3, 1) := by decide +kernel
theorem dX11_counts_83 : decode cX11_counts 83 = .ok (.iconst 1, 1) := by decide +kernel
theorem dX11_counts_84 : decode cX11_counts 84 = .ok (.isub, 1) := by decide +kernel
theorem dX11_counts_85 : decode cX11_counts 85 = .ok (.iaload, 1) := by decide +kernel
theorem dX11_counts_86 : decode cX11_counts 86 = .ok (.iconst 1, 1) := by decide +kernel
theorem dX11_counts_87 : decode cX11_counts 87 = .ok (.iadd, 1) := by decide +kernel
theorem dX11_counts_88 : decode cX11_counts 88 = .ok (.istore 8, 2) := by decide +kernel
theorem dX11_counts_90 : decode cX11_counts 90 = .ok (.aload_n 0, 1) := by decide +kernel
theorem dX11_counts_91 : decode cX11_counts 91 = .ok (.iload_n 1, 1) := by decide +kernel
theorem dX11_counts_92 : decode cX11_counts 92 = .ok (.iconst 1, 1) := by decide +kernel
theorem dX11_counts_93 : decode cX11_counts 93 = .ok (.isub, 1) := by decide +kernel
theorem dX11_counts_94 : decode cX11_counts 94 = .ok (.iload_n 2, 1) := by decide +kernel
theorem dX11_counts_95 : decode cX11_counts 95 = .ok (.iconst 1, 1) := by decide +kernel
theorem dX11_counts_96 : decode cX11_counts 96 = .ok (.isub, 1) := by decide +kernel
theorem dX11_counts_97 : decode cX11_counts 97 = .ok (.invokevirtual 71, 3) := by decide +kernel
theorem dX11_counts_100 : decode cX11_counts 100 = .ok (.ifCond .eq 15, 3) := by decide +kernel
theorem dX11_counts_103 : decode cX11_counts 103 = .ok (.aload_n 0, 1) := by decide +kernel
theorem dX11_counts_104 : decode cX11_counts 104 = .ok (.getfield 29, 3) := by decide +kernel
theorem dX11_counts_107 : decode cX11_counts 107 = .ok (.iload_n 3, 1) := by decide +kernel
theorem dX11_counts_108 : decode cX11_counts 108 = .ok (.bipush 30, 2) := by decide +kernel
theorem dX11_counts_110 : decode cX11_counts 110 = .ok (.isub, 1) := by decide +kernel
theorem dX11_counts_111 : decode cX11_counts 111 = .ok (.iaload, 1) := by decide +kernel
theorem dX11_counts_112 : decode cX11_counts 112 = .ok (.goto 5, 3) := by decide +kernel
theorem dX11_counts_115 : decode cX11_counts 115 = .ok (.iload 4, 2) := by decide +kernel
theorem dX11_counts_117 : decode cX11_counts 117 = .ok (.istore 9, 2) := by decide +kernel
theorem dX11_counts_119 : decode cX11_counts 119 = .ok (.iload 7, 2) := by decide +kernel
theorem dX11_counts_121 : decode cX11_counts 121 = .ok (.iload 8, 2) := by decide +kernel
theorem dX11_counts_123 : decode cX11_counts 123 = .ok (.if_icmp .ge 8, 3) := by decide +kernel
theorem dX11_counts_126 : decode cX11_counts 126 = .ok (.iload 7, 2) := by decide +kernel
theorem dX11_counts_128 : decode cX11_counts 128 = .ok (.goto 5, 3) := by decide +kernel
theorem dX11_counts_131 : decode cX11_counts 131 = .ok (.iload 8, 2) := by decide +kernel
theorem dX11_counts_133 : decode cX11_counts 133 = .ok (.istore 4, 2) := by decide +kernel
theorem dX11_counts_135 : decode cX11_counts 135 = .ok (.iload 9, 2) := by decide +kernel
theorem dX11_counts_137 : decode cX11_counts 137 = .ok (.iload 4, 2) := by decide +kernel
theorem dX11_counts_139 : decode cX11_counts 139 = .ok (.if_icmp .ge 8, 3) := by decide +kernel
theorem dX11_counts_142 : decode cX11_counts 142 = .ok (.iload 9, 2) := by decide +kernel
theorem dX11_counts_144 : decode cX11_counts 144 = .ok (.goto 5, 3) := by decide +kernel
theorem dX11_counts_147 : decode cX11_counts 147 = .ok (.iload 4, 2) := by decide +kernel
theorem dX11_counts_149 : decode cX11_counts 149 = .ok (.istore 4, 2) := by decide +kernel
theorem dX11_counts_151 : decode cX11_counts 151 = .ok (.iload 7, 2) := by decide +kernel
theorem dX11_counts_153 : decode cX11_counts 153 = .ok (.iload 4, 2) := by decide +kernel
theorem dX11_counts_155 : decode cX11_counts 155 = .ok (.if_icmp .ne 15, 3) := by decide +kernel
theorem dX11_counts_158 : decode cX11_counts 158 = .ok (.aload_n 0, 1) := by decide +kernel
theorem dX11_counts_159 : decode cX11_counts 159 = .ok (.getfield 32, 3) := by decide +kernel
theorem dX11_counts_162 : decode cX11_counts 162 = .ok (.iload_n 3, 1) := by decide +kernel
theorem dX11_counts_163 : decode cX11_counts 163 = .ok (.bipush 29, 2) := by decide +kernel
theorem dX11_counts_165 : decode cX11_counts 165 = .ok (.isub, 1) := by decide +kernel
theorem dX11_counts_166 : decode cX11_counts 166 = .ok (.laload, 1) := by decide +kernel
theorem dX11_counts_167 : decode cX11_counts 167 = .ok (.goto 4, 3) := by decide +kernel
theorem dX11_counts_170 : decode cX11_counts 170 = .ok (.lconst 0, 1) := by decide +kernel
theorem dX11_counts_171 : decode cX11_counts 171 = .ok (.iload 8, 2) := by decide +kernel
theorem dX11_counts_173 : decode cX11_counts 173 = .ok (.iload 4, 2) := by decide +kernel
theorem dX11_counts_175 : decode cX11_counts 175 = .ok (.if_icmp .ne 14, 3) := by decide +kernel
theorem dX11_counts_178 : decode cX11_counts 178 = .ok (.aload_n 0, 1) := by decide +kernel
theorem dX11_counts_179 : decode cX11_counts 179 = .ok (.getfield 32, 3) := by decide +kernel
theorem dX11_counts_182 : decode cX11_counts 182 = .ok (.iload_n 3, 1) := by decide +kernel
theorem dX11_counts_183 : decode cX11_counts 183 = .ok (.iconst 1, 1) := by decide +kernel
theorem dX11_counts_184 : decode cX11_counts 184 = .ok (.isub, 1) := by decide +kernel
theorem dX11_counts_185 : decode cX11_counts 185 = .ok (.laload, 1) := by decide +kernel
theorem dX11_counts_186 : decode cX11_counts 186 = .ok (.goto 4, 3) := by decide +kernel
theorem dX11_counts_189 : decode cX11_counts 189 = .ok (.lconst 0, 1) := by decide +kernel
theorem dX11_counts_190 : decode cX11_counts 190 = .ok (.ladd, 1) := by decide +kernel
theorem dX11_counts_191 : decode cX11_counts 191 = .ok (.aload_n 0, 1) := by decide +kernel
theorem dX11_counts_192 : decode cX11_counts 192 = .ok (.iload_n 1, 1) := by decide +kernel
theorem dX11_counts_193 : decode cX11_counts 193 = .ok (.iconst 1, 1) := by decide +kernel
theorem dX11_counts_194 : decode cX11_counts 194 = .ok (.isub, 1) := by decide +kernel
theorem dX11_counts_195 : decode cX11_counts 195 = .ok (.iload_n 2, 1) := by decide +kernel
theorem dX11_counts_196 : decode cX11_counts 196 = .ok (.iconst 1, 1) := by decide +kernel
theorem dX11_counts_197 : decode cX11_counts 197 = .ok (.isub, 1) := by decide +kernel
theorem dX11_counts_198 : decode cX11_counts 198 = .ok (.invokevirtual 71, 3) := by decide +kernel
theorem dX11_counts_201 : decode cX11_counts 201 = .ok (.ifCond .eq 22, 3) := by decide +kernel
theorem dX11_counts_204 : decode cX11_counts 204 = .ok (.iload 9, 2) := by decide +kernel
theorem dX11_counts_206 : decode cX11_counts 206 = .ok (.iload 4, 2) := by decide +kernel
theorem dX11_counts_208 : decode cX11_counts 208 = .ok (.if_icmp .ne 15, 3) := by decide +kernel
theorem dX11_counts_211 : decode cX11_counts 211 = .ok (.aload_n 0, 1) := by decide +kernel
theorem dX11_counts_212 : decode cX11_counts 212 = .ok (.getfield 32, 3) := by decide +kernel
theorem dX11_counts_215 : decode cX11_counts 215 = .ok (.iload_n 3, 1) := by decide +kernel
theorem dX11_counts_216 : decode cX11_counts 216 = .ok (.bipush 30, 2) := by decide +kernel
theorem dX11_counts_218 : decode cX11_counts 218 = .ok (.isub, 1) := by decide +kernel
theorem dX11_counts_219 : decode cX11_counts 219 = .ok (.laload, 1) := by decide +kernel
theorem dX11_counts_220 : decode cX11_counts 220 = .ok (.goto 4, 3) := by decide +kernel
theorem dX11_counts_223 : decode cX11_counts 223 = .ok (.lconst 0, 1) := by decide +kernel
theorem dX11_counts_224 : decode cX11_counts 224 = .ok (.ladd, 1) := by decide +kernel
theorem dX11_counts_225 : decode cX11_counts 225 = .ok (.lstore 5, 2) := by decide +kernel
theorem dX11_counts_227 : decode cX11_counts 227 = .ok (.aload_n 0, 1) := by decide +kernel
theorem dX11_counts_228 : decode cX11_counts 228 = .ok (.getfield 29, 3) := by decide +kernel
theorem dX11_counts_231 : decode cX11_counts 231 = .ok (.iload_n 3, 1) := by decide +kernel
theorem dX11_counts_232 : decode cX11_counts 232 = .ok (.iload 4, 2) := by decide +kernel
theorem dX11_counts_234 : decode cX11_counts 234 = .ok (.iastore, 1) := by decide +kernel
theorem dX11_counts_235 : decode cX11_counts 235 = .ok (.aload_n 0, 1) := by decide +kernel
theorem dX11_counts_236 : decode cX11_counts 236 = .ok (.getfield 32, 3) := by decide +kernel
theorem dX11_counts_239 : decode cX11_counts 239 = .ok (.iload_n 3, 1) := by decide +kernel
theorem dX11_counts_240 : decode cX11_counts 240 = .ok (.lload 5, 2) := by decide +kernel
theorem dX11_counts_242 : decode cX11_counts 242 = .ok (.lastore, 1) := by decide +kernel
theorem dX11_counts_243 : decode cX11_counts 243 = .ok (.iinc 2 1, 3) := by decide +kernel
theorem dX11_counts_246 : decode cX11_counts 246 = .ok (.goto (-232), 3) := by decide +kernel
theorem dX11_counts_249 : decode cX11_counts 249 = .ok (.iinc 1 1, 3) := by decide +kernel
theorem dX11_counts_252 : decode cX11_counts 252 = .ok (.goto (-250), 3) := by decide +kernel
theorem dX11_counts_255 : decode cX11_counts 255 = .ok (.aload_n 0, 1) := by decide +kernel
theorem dX11_counts_256 : decode cX11_counts 256 = .ok (.getfield 29, 3) := by decide +kernel
theorem dX11_counts_259 : decode cX11_counts 259 = .ok (.bipush 29, 2) := by decide +kernel
theorem dX11_counts_261 : decode cX11_counts 261 = .ok (.aload_n 0, 1) := by decide +kernel
theorem dX11_counts_262 : decode cX11_counts 262 = .ok (.getfield 7, 3) := by decide +kernel
theorem dX11_counts_265 : decode cX11_counts 265 = .ok (.iconst 0, 1) := by decide +kernel
theorem dX11_counts_266 : decode cX11_counts 266 = .ok (.iaload, 1) := by decide +kernel
theorem dX11_counts_267 : decode cX11_counts 267 = .ok (.imul, 1) := by decide +kernel
theorem dX11_counts_268 : decode cX11_counts 268 = .ok (.aload_n 0, 1) := by decide +kernel
theorem dX11_counts_269 : decode cX11_counts 269 = .ok (.getfield 7, 3) := by decide +kernel
theorem dX11_counts_272 : decode cX11_counts 272 = .ok (.iconst 1, 1) := by decide +kernel
theorem dX11_counts_273 : decode cX11_counts 273 = .ok (.iaload, 1) := by decide +kernel
theorem dX11_counts_274 : decode cX11_counts 274 = .ok (.iadd, 1) := by decide +kernel
theorem dX11_counts_275 : decode cX11_counts 275 = .ok (.iaload, 1) := by decide +kernel
theorem dX11_counts_276 : decode cX11_counts 276 = .ok (.ireturn, 1) := by decide +kernel
theorem dX11_scripts_0 : decode cX11_scripts 0 = .ok (.aload_n 0, 1) := by decide +kernel
theorem dX11_scripts_1 : decode cX11_scripts 1 = .ok (.invokevirtual 122, 3) := by decide +kernel
theorem dX11_scripts_4 : decode cX11_scripts 4 = .ok (.pop, 1) := by decide +kernel
theorem dX11_scripts_5 : decode cX11_scripts 5 = .ok (.aload_n 0, 1) := by decide +kernel
theorem dX11_scripts_6 : decode cX11_scripts 6 = .ok (.getfield 32, 3) := by decide +kernel
theorem dX11_scripts_9 : decode cX11_scripts 9 = .ok (.bipush 29, 2) := by decide +kernel
theorem dX11_scripts_11 : decode cX11_scripts 11 = .ok (.aload_n 0, 1) := by decide +kernel
theorem dX11_scripts_12 : decode cX11_scripts 12 = .ok (.getfield 7, 3) := by decide +kernel
theorem dX11_scripts_15 : decode cX11_scripts 15 = .ok (.iconst 0, 1) := by decide +kernel
theorem dX11_scripts_16 : decode cX11_scripts 16 = .ok (.iaload, 1) := by decide +kernel
theorem dX11_scripts_17 : decode cX11_scripts 17 = .ok (.imul, 1) := by decide +kernel
theorem dX11_scripts_18 : decode cX11_scripts 18 = .ok (.aload_n 0, 1) := by decide +kernel
theorem dX11_scripts_19 : decode cX11_scripts 19 = .ok (.getfield 7, 3) := by decide +kernel
theorem dX11_scripts_22 : decode cX11_scripts 22 = .ok (.iconst 1, 1) := by decide +kernel
theorem dX11_scripts_23 : decode cX11_scripts 23 = .ok (.iaload, 1) := by decide +kernel
theorem dX11_scripts_24 : decode cX11_scripts 24 = .ok (.iadd, 1) := by decide +kernel
theorem dX11_scripts_25 : decode cX11_scripts 25 = .ok (.laload, 1) := by decide +kernel
theorem dX11_scripts_26 : decode cX11_scripts 26 = .ok (.lreturn, 1) := by decide +kernel
theorem dX11_hunkFrom_0 : decode cX11_hunkFrom 0 = .ok (.iload_n 1, 1) := by decide +kernel
theorem dX11_hunkFrom_1 : decode cX11_hunkFrom 1 = .ok (.istore_n 2, 1) := by decide +kernel
theorem dX11_hunkFrom_2 : decode cX11_hunkFrom 2 = .ok (.iload_n 2, 1) := by decide +kernel
theorem dX11_hunkFrom_3 : decode cX11_hunkFrom 3 = .ok (.aload_n 0, 1) := by decide +kernel
theorem dX11_hunkFrom_4 : decode cX11_hunkFrom 4 = .ok (.getfield 95, 3) := by decide +kernel
theorem dX11_hunkFrom_7 : decode cX11_hunkFrom 7 = .ok (.if_icmp .ge 17, 3) := by decide +kernel
theorem dX11_hunkFrom_10 : decode cX11_hunkFrom 10 = .ok (.aload_n 0, 1) := by decide +kernel
theorem dX11_hunkFrom_11 : decode cX11_hunkFrom 11 = .ok (.iload_n 2, 1) := by decide +kernel
theorem dX11_hunkFrom_12 : decode cX11_hunkFrom 12 = .ok (.invokevirtual 106, 3) := by decide +kernel
theorem dX11_hunkFrom_15 : decode cX11_hunkFrom 15 = .ok (.ifCond .ne 9, 3) := by decide +kernel
theorem dX11_hunkFrom_18 : decode cX11_hunkFrom 18 = .ok (.iinc 2 1, 3) := by decide +kernel
theorem dX11_hunkFrom_21 : decode cX11_hunkFrom 21 = .ok (.goto (-19), 3) := by decide +kernel
theorem dX11_hunkFrom_24 : decode cX11_hunkFrom 24 = .ok (.iload_n 2, 1) := by decide +kernel
theorem dX11_hunkFrom_25 : decode cX11_hunkFrom 25 = .ok (.aload_n 0, 1) := by decide +kernel
theorem dX11_hunkFrom_26 : decode cX11_hunkFrom 26 = .ok (.getfield 95, 3) := by decide +kernel
theorem dX11_hunkFrom_29 : decode cX11_hunkFrom 29 = .ok (.if_icmp .lt 5, 3) := by decide +kernel
theorem dX11_hunkFrom_32 : decode cX11_hunkFrom 32 = .ok (.iconst 0, 1) := by decide +kernel
theorem dX11_hunkFrom_33 : decode cX11_hunkFrom 33 = .ok (.ireturn, 1) := by decide +kernel
theorem dX11_hunkFrom_34 : decode cX11_hunkFrom 34 = .ok (.aload_n 0, 1) := by decide +kernel
theorem dX11_hunkFrom_35 : decode cX11_hunkFrom 35 = .ok (.iload_n 2, 1) := by decide +kernel
theorem dX11_hunkFrom_36 : decode cX11_hunkFrom 36 = .ok (.iload_n 1, 1) := by decide +kernel
theorem dX11_hunkFrom_37 : decode cX11_hunkFrom 37 = .ok (.isub, 1) := by decide +kernel
theorem dX11_hunkFrom_38 : decode cX11_hunkFrom 38 = .ok (.aload_n 0, 1) := by decide +kernel
theorem dX11_hunkFrom_39 : decode cX11_hunkFrom 39 = .ok (.getfield 7, 3) := by decide +kernel
theorem dX11_hunkFrom_42 : decode cX11_hunkFrom 42 = .ok (.iconst 3, 1) := by decide +kernel
theorem dX11_hunkFrom_43 : decode cX11_hunkFrom 43 = .ok (.iaload, 1) := by decide +kernel
theorem dX11_hunkFrom_44 : decode cX11_hunkFrom 44 = .ok (.if_icmp .ge 7, 3) := by decide +kernel
theorem dX11_hunkFrom_47 : decode cX11_hunkFrom 47 = .ok (.iload_n 1, 1) := by decide +kernel
theorem dX11_hunkFrom_48 : decode cX11_hunkFrom 48 = .ok (.goto 11, 3) := by decide +kernel
theorem dX11_hunkFrom_51 : decode cX11_hunkFrom 51 = .ok (.iload_n 2, 1) := by decide +kernel
theorem dX11_hunkFrom_52 : decode cX11_hunkFrom 52 = .ok (.aload_n 0, 1) := by decide +kernel
theorem dX11_hunkFrom_53 : decode cX11_hunkFrom 53 = .ok (.getfield 7, 3) := by decide +kernel
theorem dX11_hunkFrom_56 : decode cX11_hunkFrom 56 = .ok (.iconst 3, 1) := by decide +kernel
theorem dX11_hunkFrom_57 : decode cX11_hunkFrom 57 = .ok (.iaload, 1) := by decide +kernel
theorem dX11_hunkFrom_58 : decode cX11_hunkFrom 58 = .ok (.isub, 1) := by decide +kernel
theorem dX11_hunkFrom_59 : decode cX11_hunkFrom 59 = .ok (.putfield 125, 3) := by decide +kernel
theorem dX11_hunkFrom_62 : decode cX11_hunkFrom 62 = .ok (.iload_n 2, 1) := by decide +kernel
theorem dX11_hunkFrom_63 : decode cX11_hunkFrom 63 = .ok (.istore_n 3, 1) := by decide +kernel
theorem dX11_hunkFrom_64 : decode cX11_hunkFrom 64 = .ok (.iload_n 2, 1) := by decide +kernel
theorem dX11_hunkFrom_65 : decode cX11_hunkFrom 65 = .ok (.aload_n 0, 1) := by decide +kernel
theorem dX11_hunkFrom_66 : decode cX11_hunkFrom 66 = .ok (.getfield 95, 3) := by decide +kernel
theorem dX11_hunkFrom_69 : decode cX11_hunkFrom 69 = .ok (.if_icmp .ge 39, 3) := by decide +kernel
theorem dX11_hunkFrom_72 : decode cX11_hunkFrom 72 = .ok (.iload_n 2, 1) := by decide +kernel
theorem dX11_hunkFrom_73 : decode cX11_hunkFrom 73 = .ok (.iload_n 3, 1) := by decide +kernel
theorem dX11_hunkFrom_74 : decode cX11_hunkFrom 74 = .ok (.isub, 1) := by decide +kernel
theorem dX11_hunkFrom_75 : decode cX11_hunkFrom 75 = .ok (.iconst 2, 1) := by decide +kernel
theorem dX11_hunkFrom_76 : decode cX11_hunkFrom 76 = .ok (.aload_n 0, 1) := by decide +kernel
theorem dX11_hunkFrom_77 : decode cX11_hunkFrom 77 = .ok (.getfield 7, 3) := by decide +kernel
theorem dX11_hunkFrom_80 : decode cX11_hunkFrom 80 = .ok (.iconst 3, 1) := by decide +kernel
theorem dX11_hunkFrom_81 : decode cX11_hunkFrom 81 = .ok (.iaload, 1) := by decide +kernel
theorem dX11_hunkFrom_82 : decode cX11_hunkFrom 82 = .ok (.imul, 1) := by decide +kernel
theorem dX11_hunkFrom_83 : decode cX11_hunkFrom 83 = .ok (.iconst 1, 1) := by decide +kernel
theorem dX11_hunkFrom_84 : decode cX11_hunkFrom 84 = .ok (.iadd, 1) := by decide +kernel
theorem dX11_hunkFrom_85 : decode cX11_hunkFrom 85 = .ok (.if_icmp .gt 23, 3) := by decide +kernel
theorem dX11_hunkFrom_88 : decode cX11_hunkFrom 88 = .ok (.aload_n 0, 1) := by decide +kernel
theorem dX11_hunkFrom_89 : decode cX11_hunkFrom 89 = .ok (.iload_n 2, 1) := by decide +kernel
theorem dX11_hunkFrom_90 : decode cX11_hunkFrom 90 = .ok (.invokevirtual 106, 3) := by decide +kernel
theorem dX11_hunkFrom_93 : decode cX11_hunkFrom 93 = .ok (.ifCond .ne 7, 3) := by decide +kernel
theorem dX11_hunkFrom_96 : decode cX11_hunkFrom 96 = .ok (.iload_n 3, 1) := by decide +kernel
theorem dX11_hunkFrom_97 : decode cX11_hunkFrom 97 = .ok (.goto 4, 3) := by decide +kernel
theorem dX11_hunkFrom_100 : decode cX11_hunkFrom 100 = .ok (.iload_n 2, 1) := by decide +kernel
theorem dX11_hunkFrom_101 : decode cX11_hunkFrom 101 = .ok (.istore_n 3, 1) := by decide +kernel
theorem dX11_hunkFrom_102 : decode cX11_hunkFrom 102 = .ok (.iinc 2 1, 3) := by decide +kernel
theorem dX11_hunkFrom_105 : decode cX11_hunkFrom 105 = .ok (.goto (-41), 3) := by decide +kernel
theorem dX11_hunkFrom_108 : decode cX11_hunkFrom 108 = .ok (.iload_n 3, 1) := by decide +kernel
theorem dX11_hunkFrom_109 : decode cX11_hunkFrom 109 = .ok (.iconst 1, 1) := by decide +kernel
theorem dX11_hunkFrom_110 : decode cX11_hunkFrom 110 = .ok (.iadd, 1) := by decide +kernel
theorem dX11_hunkFrom_111 : decode cX11_hunkFrom 111 = .ok (.aload_n 0, 1) := by decide +kernel
theorem dX11_hunkFrom_112 : decode cX11_hunkFrom 112 = .ok (.getfield 7, 3) := by decide +kernel
theorem dX11_hunkFrom_115 : decode cX11_hunkFrom 115 = .ok (.iconst 3, 1) := by decide +kernel
theorem dX11_hunkFrom_116 : decode cX11_hunkFrom 116 = .ok (.iaload, 1) := by decide +kernel
theorem dX11_hunkFrom_117 : decode cX11_hunkFrom 117 = .ok (.iadd, 1) := by decide +kernel
theorem dX11_hunkFrom_118 : decode cX11_hunkFrom 118 = .ok (.istore 4, 2) := by decide +kernel
theorem dX11_hunkFrom_120 : decode cX11_hunkFrom 120 = .ok (.aload_n 0, 1) := by decide +kernel
theorem dX11_hunkFrom_121 : decode cX11_hunkFrom 121 = .ok (.iload 4, 2) := by decide +kernel
theorem dX11_hunkFrom_123 : decode cX11_hunkFrom 123 = .ok (.aload_n 0, 1) := by decide +kernel
theorem dX11_hunkFrom_124 : decode cX11_hunkFrom 124 = .ok (.getfield 95, 3) := by decide +kernel
theorem dX11_hunkFrom_127 : decode cX11_hunkFrom 127 = .ok (.if_icmp .ge 8, 3) := by decide +kernel
theorem dX11_hunkFrom_130 : decode cX11_hunkFrom 130 = .ok (.iload 4, 2) := by decide +kernel
theorem dX11_hunkFrom_132 : decode cX11_hunkFrom 132 = .ok (.goto 7, 3) := by decide +kernel
theorem dX11_hunkFrom_135 : decode cX11_hunkFrom 135 = .ok (.aload_n 0, 1) := by decide +kernel
theorem dX11_hunkFrom_136 : decode cX11_hunkFrom 136 = .ok (.getfield 95, 3) := by decide +kernel
theorem dX11_hunkFrom_139 : decode cX11_hunkFrom 139 = .ok (.putfield 128, 3) := by decide +kernel
theorem dX11_hunkFrom_142 : decode cX11_hunkFrom 142 = .ok (.iconst 1, 1) := by decide +kernel
theorem dX11_hunkFrom_143 : decode cX11_hunkFrom 143 = .ok (.ireturn, 1) := by decide +kernel
theorem dX11_hunks_0 : decode cX11_hunks 0 = .ok (.iconst 0, 1) := by decide +kernel
theorem dX11_hunks_1 : decode cX11_hunks 1 = .ok (.istore_n 1, 1) := by decide +kernel
theorem dX11_hunks_2 : decode cX11_hunks 2 = .ok (.iconst 0, 1) := by decide +kernel
theorem dX11_hunks_3 : decode cX11_hunks 3 = .ok (.istore_n 2, 1) := by decide +kernel
theorem dX11_hunks_4 : decode cX11_hunks 4 = .ok (.aload_n 0, 1) := by decide +kernel
theorem dX11_hunks_5 : decode cX11_hunks 5 = .ok (.iload_n 2, 1) := by decide +kernel
theorem dX11_hunks_6 : decode cX11_hunks 6 = .ok (.invokevirtual 131, 3) := by decide +kernel
theorem dX11_hunks_9 : decode cX11_hunks 9 = .ok (.ifCond .eq 14, 3) := by decide +kernel
theorem dX11_hunks_12 : decode cX11_hunks 12 = .ok (.aload_n 0, 1) := by decide +kernel
theorem dX11_hunks_13 : decode cX11_hunks 13 = .ok (.getfield 128, 3) := by decide +kernel
theorem dX11_hunks_16 : decode cX11_hunks 16 = .ok (.istore_n 2, 1) := by decide +kernel
theorem dX11_hunks_17 : decode cX11_hunks 17 = .ok (.iinc 1 1, 3) := by decide +kernel
theorem dX11_hunks_20 : decode cX11_hunks 20 = .ok (.goto (-16), 3) := by decide +kernel
theorem dX11_hunks_23 : decode cX11_hunks 23 = .ok (.iload_n 1, 1) := by decide +kernel
theorem dX11_hunks_24 : decode cX11_hunks 24 = .ok (.ireturn, 1) := by decide +kernel
theorem dX11_without_0 : decode cX11_without 0 = .ok (.iconst 0, 1) := by decide +kernel
theorem dX11_without_1 : decode cX11_without 1 = .ok (.istore_n 2, 1) := by decide +kernel
theorem dX11_without_2 : decode cX11_without 2 = .ok (.aload_n 0, 1) := by decide +kernel
theorem dX11_without_3 : decode cX11_without 3 = .ok (.getfield 125, 3) := by decide +kernel
theorem dX11_without_6 : decode cX11_without 6 = .ok (.istore_n 3, 1) := by decide +kernel
theorem dX11_without_7 : decode cX11_without 7 = .ok (.iload_n 3, 1) := by decide +kernel
theorem dX11_without_8 : decode cX11_without 8 = .ok (.aload_n 0, 1) := by decide +kernel
theorem dX11_without_9 : decode cX11_without 9 = .ok (.getfield 128, 3) := by decide +kernel
theorem dX11_without_12 : decode cX11_without 12 = .ok (.if_icmp .ge 26, 3) := by decide +kernel
theorem dX11_without_15 : decode cX11_without 15 = .ok (.iload_n 2, 1) := by decide +kernel
theorem dX11_without_16 : decode cX11_without 16 = .ok (.aload_n 0, 1) := by decide +kernel
theorem dX11_without_17 : decode cX11_without 17 = .ok (.iload_n 3, 1) := by decide +kernel
theorem dX11_without_18 : decode cX11_without 18 = .ok (.invokevirtual 106, 3) := by decide +kernel
theorem dX11_without_21 : decode cX11_without 21 = .ok (.iload_n 1, 1) := by decide +kernel
theorem dX11_without_22 : decode cX11_without 22 = .ok (.if_icmp .eq 7, 3) := by decide +kernel
theorem dX11_without_25 : decode cX11_without 25 = .ok (.iconst 1, 1) := by decide +kernel
theorem dX11_without_26 : decode cX11_without 26 = .ok (.goto 4, 3) := by decide +kernel
theorem dX11_without_29 : decode cX11_without 29 = .ok (.iconst 0, 1) := by decide +kernel
theorem dX11_without_30 : decode cX11_without 30 = .ok (.iadd, 1) := by decide +kernel
theorem dX11_without_31 : decode cX11_without 31 = .ok (.istore_n 2, 1) := by decide +kernel
theorem dX11_without_32 : decode cX11_without 32 = .ok (.iinc 3 1, 3) := by decide +kernel
theorem dX11_without_35 : decode cX11_without 35 = .ok (.goto (-28), 3) := by decide +kernel
theorem dX11_without_38 : decode cX11_without 38 = .ok (.iload_n 2, 1) := by decide +kernel
theorem dX11_without_39 : decode cX11_without 39 = .ok (.ireturn, 1) := by decide +kernel
theorem dX11_hunkOf_0 : decode cX11_hunkOf 0 = .ok (.iload_n 1, 1) := by decide +kernel
theorem dX11_hunkOf_1 : decode cX11_hunkOf 1 = .ok (.ifCond .lt 12, 3) := by decide +kernel
theorem dX11_hunkOf_4 : decode cX11_hunkOf 4 = .ok (.iload_n 2, 1) := by decide +kernel
theorem dX11_hunkOf_5 : decode cX11_hunkOf 5 = .ok (.iconst 0, 1) := by decide +kernel
theorem dX11_hunkOf_6 : decode cX11_hunkOf 6 = .ok (.iconst 4, 1) := by decide +kernel
theorem dX11_hunkOf_7 : decode cX11_hunkOf 7 = .ok (.invokestatic 48, 3) := by decide +kernel
theorem dX11_hunkOf_10 : decode cX11_hunkOf 10 = .ok (.ifCond .ne 6, 3) := by decide +kernel
theorem dX11_hunkOf_13 : decode cX11_hunkOf 13 = .ok (.ldc 56, 2) := by decide +kernel
theorem dX11_hunkOf_15 : decode cX11_hunkOf 15 = .ok (.ireturn, 1) := by decide +kernel
theorem dX11_hunkOf_16 : decode cX11_hunkOf 16 = .ok (.aload_n 0, 1) := by decide +kernel
theorem dX11_hunkOf_17 : decode cX11_hunkOf 17 = .ok (.invokevirtual 102, 3) := by decide +kernel
theorem dX11_hunkOf_20 : decode cX11_hunkOf 20 = .ok (.ifCond .ne 6, 3) := by decide +kernel
theorem dX11_hunkOf_23 : decode cX11_hunkOf 23 = .ok (.ldc 61, 2) := by decide +kernel
theorem dX11_hunkOf_25 : decode cX11_hunkOf 25 = .ok (.ireturn, 1) := by decide +kernel
theorem dX11_hunkOf_26 : decode cX11_hunkOf 26 = .ok (.iconst 0, 1) := by decide +kernel
theorem dX11_hunkOf_27 : decode cX11_hunkOf 27 = .ok (.istore_n 3, 1) := by decide +kernel
theorem dX11_hunkOf_28 : decode cX11_hunkOf 28 = .ok (.iconst 0, 1) := by decide +kernel
theorem dX11_hunkOf_29 : decode cX11_hunkOf 29 = .ok (.istore 4, 2) := by decide +kernel
theorem dX11_hunkOf_31 : decode cX11_hunkOf 31 = .ok (.iload 4, 2) := by decide +kernel
theorem dX11_hunkOf_33 : decode cX11_hunkOf 33 = .ok (.iload_n 1, 1) := by decide +kernel
theorem dX11_hunkOf_34 : decode cX11_hunkOf 34 = .ok (.if_icmp .gt 25, 3) := by decide +kernel
theorem dX11_hunkOf_37 : decode cX11_hunkOf 37 = .ok (.aload_n 0, 1) := by decide +kernel
theorem dX11_hunkOf_38 : decode cX11_hunkOf 38 = .ok (.iload_n 3, 1) := by decide +kernel
theorem dX11_hunkOf_39 : decode cX11_hunkOf 39 = .ok (.invokevirtual 131, 3) := by decide +kernel
theorem dX11_hunkOf_42 : decode cX11_hunkOf 42 = .ok (.ifCond .ne 6, 3) := by decide +kernel
theorem dX11_hunkOf_45 : decode cX11_hunkOf 45 = .ok (.ldc 70, 2) := by decide +kernel
theorem dX11_hunkOf_47 : decode cX11_hunkOf 47 = .ok (.ireturn, 1) := by decide +kernel
theorem dX11_hunkOf_48 : decode cX11_hunkOf 48 = .ok (.aload_n 0, 1) := by decide +kernel
theorem dX11_hunkOf_49 : decode cX11_hunkOf 49 = .ok (.getfield 128, 3) := by decide +kernel
theorem dX11_hunkOf_52 : decode cX11_hunkOf 52 = .ok (.istore_n 3, 1) := by decide +kernel
theorem dX11_hunkOf_53 : decode cX11_hunkOf 53 = .ok (.iinc 4 1, 3) := by decide +kernel
theorem dX11_hunkOf_56 : decode cX11_hunkOf 56 = .ok (.goto (-25), 3) := by decide +kernel
theorem dX11_hunkOf_59 : decode cX11_hunkOf 59 = .ok (.iload_n 2, 1) := by decide +kernel
theorem dX11_hunkOf_60 : decode cX11_hunkOf 60 = .ok (.tableswitch 66 0 3 #[32, 54, 32, 60], 32) := by decide +kernel
theorem dX11_hunkOf_92 : decode cX11_hunkOf 92 = .ok (.aload_n 0, 1) := by decide +kernel
theorem dX11_hunkOf_93 : decode cX11_hunkOf 93 = .ok (.getfield 26, 3) := by decide +kernel
theorem dX11_hunkOf_96 : decode cX11_hunkOf 96 = .ok (.iconst 3, 1) := by decide +kernel
theorem dX11_hunkOf_97 : decode cX11_hunkOf 97 = .ok (.aload_n 0, 1) := by decide +kernel
theorem dX11_hunkOf_98 : decode cX11_hunkOf 98 = .ok (.getfield 125, 3) := by decide +kernel
theorem dX11_hunkOf_101 : decode cX11_hunkOf 101 = .ok (.imul, 1) := by decide +kernel
theorem dX11_hunkOf_102 : decode cX11_hunkOf 102 = .ok (.iload_n 2, 1) := by decide +kernel
theorem dX11_hunkOf_103 : decode cX11_hunkOf 103 = .ok (.ifCond .ne 7, 3) := by decide +kernel
theorem dX11_hunkOf_106 : decode cX11_hunkOf 106 = .ok (.iconst 1, 1) := by decide +kernel
theorem dX11_hunkOf_107 : decode cX11_hunkOf 107 = .ok (.goto 4, 3) := by decide +kernel
theorem dX11_hunkOf_110 : decode cX11_hunkOf 110 = .ok (.iconst 2, 1) := by decide +kernel
theorem dX11_hunkOf_111 : decode cX11_hunkOf 111 = .ok (.iadd, 1) := by decide +kernel
theorem dX11_hunkOf_112 : decode cX11_hunkOf 112 = .ok (.iaload, 1) := by decide +kernel
theorem dX11_hunkOf_113 : decode cX11_hunkOf 113 = .ok (.ireturn, 1) := by decide +kernel
theorem dX11_hunkOf_114 : decode cX11_hunkOf 114 = .ok (.aload_n 0, 1) := by decide +kernel
theorem dX11_hunkOf_115 : decode cX11_hunkOf 115 = .ok (.iconst 2, 1) := by decide +kernel
theorem dX11_hunkOf_116 : decode cX11_hunkOf 116 = .ok (.invokevirtual 134, 3) := by decide +kernel
theorem dX11_hunkOf_119 : decode cX11_hunkOf 119 = .ok (.ireturn, 1) := by decide +kernel
theorem dX11_hunkOf_120 : decode cX11_hunkOf 120 = .ok (.aload_n 0, 1) := by decide +kernel
theorem dX11_hunkOf_121 : decode cX11_hunkOf 121 = .ok (.iconst 1, 1) := by decide +kernel
theorem dX11_hunkOf_122 : decode cX11_hunkOf 122 = .ok (.invokevirtual 134, 3) := by decide +kernel
theorem dX11_hunkOf_125 : decode cX11_hunkOf 125 = .ok (.ireturn, 1) := by decide +kernel
theorem dX11_hunkOf_126 : decode cX11_hunkOf 126 = .ok (.aload_n 0, 1) := by decide +kernel
theorem dX11_hunkOf_127 : decode cX11_hunkOf 127 = .ok (.iconst 0, 1) := by decide +kernel
theorem dX11_hunkOf_128 : decode cX11_hunkOf 128 = .ok (.invokevirtual 134, 3) := by decide +kernel
theorem dX11_hunkOf_131 : decode cX11_hunkOf 131 = .ok (.ireturn, 1) := by decide +kernel
theorem dX11_marks_0 : decode cX11_marks 0 = .ok (.iconst 0, 1) := by decide +kernel
theorem dX11_marks_1 : decode cX11_marks 1 = .ok (.istore_n 1, 1) := by decide +kernel
theorem dX11_marks_2 : decode cX11_marks 2 = .ok (.iload_n 1, 1) := by decide +kernel
theorem dX11_marks_3 : decode cX11_marks 3 = .ok (.bipush 29, 2) := by decide +kernel
theorem dX11_marks_5 : decode cX11_marks 5 = .ok (.if_icmp .ge 23, 3) := by decide +kernel
theorem dX11_marks_8 : decode cX11_marks 8 = .ok (.aload_n 0, 1) := by decide +kernel
theorem dX11_marks_9 : decode cX11_marks 9 = .ok (.getfield 39, 3) := by decide +kernel
theorem dX11_marks_12 : decode cX11_marks 12 = .ok (.iload_n 1, 1) := by decide +kernel
theorem dX11_marks_13 : decode cX11_marks 13 = .ok (.iconst (-1), 1) := by decide +kernel
theorem dX11_marks_14 : decode cX11_marks 14 = .ok (.iastore, 1) := by decide +kernel
theorem dX11_marks_15 : decode cX11_marks 15 = .ok (.aload_n 0, 1) := by decide +kernel
theorem dX11_marks_16 : decode cX11_marks 16 = .ok (.getfield 42, 3) := by decide +kernel
theorem dX11_marks_19 : decode cX11_marks 19 = .ok (.iload_n 1, 1) := by decide +kernel
theorem dX11_marks_20 : decode cX11_marks 20 = .ok (.iconst (-1), 1) := by decide +kernel
theorem dX11_marks_21 : decode cX11_marks 21 = .ok (.iastore, 1) := by decide +kernel
theorem dX11_marks_22 : decode cX11_marks 22 = .ok (.iinc 1 1, 3) := by decide +kernel
theorem dX11_marks_25 : decode cX11_marks 25 = .ok (.goto (-23), 3) := by decide +kernel
theorem dX11_marks_28 : decode cX11_marks 28 = .ok (.iconst 0, 1) := by decide +kernel
theorem dX11_marks_29 : decode cX11_marks 29 = .ok (.istore_n 1, 1) := by decide +kernel
theorem dX11_marks_30 : decode cX11_marks 30 = .ok (.iload_n 1, 1) := by decide +kernel
theorem dX11_marks_31 : decode cX11_marks 31 = .ok (.aload_n 0, 1) := by decide +kernel
theorem dX11_marks_32 : decode cX11_marks 32 = .ok (.getfield 95, 3) := by decide +kernel
theorem dX11_marks_35 : decode cX11_marks 35 = .ok (.if_icmp .ge 59, 3) := by decide +kernel
theorem dX11_marks_38 : decode cX11_marks 38 = .ok (.aload_n 0, 1) := by decide +kernel
theorem dX11_marks_39 : decode cX11_marks 39 = .ok (.iload_n 1, 1) := by decide +kernel
theorem dX11_marks_40 : decode cX11_marks 40 = .ok (.invokevirtual 106, 3) := by decide +kernel
theorem dX11_marks_43 : decode cX11_marks 43 = .ok (.iconst 1, 1) := by decide +kernel
theorem dX11_marks_44 : decode cX11_marks 44 = .ok (.if_icmp .ne 19, 3) := by decide +kernel
theorem dX11_marks_47 : decode cX11_marks 47 = .ok (.aload_n 0, 1) := by decide +kernel
theorem dX11_marks_48 : decode cX11_marks 48 = .ok (.getfield 39, 3) := by decide +kernel
theorem dX11_marks_51 : decode cX11_marks 51 = .ok (.aload_n 0, 1) := by decide +kernel
theorem dX11_marks_52 : decode cX11_marks 52 = .ok (.getfield 26, 3) := by decide +kernel
theorem dX11_marks_55 : decode cX11_marks 55 = .ok (.iconst 3, 1) := by decide +kernel
theorem dX11_marks_56 : decode cX11_marks 56 = .ok (.iload_n 1, 1) := by decide +kernel
theorem dX11_marks_57 : decode cX11_marks 57 = .ok (.imul, 1) := by decide +kernel
theorem dX11_marks_58 : decode cX11_marks 58 = .ok (.iconst 1, 1) := by decide +kernel
theorem dX11_marks_59 : decode cX11_marks 59 = .ok (.iadd, 1) := by decide +kernel
theorem dX11_marks_60 : decode cX11_marks 60 = .ok (.iaload, 1) := by decide +kernel
theorem dX11_marks_61 : decode cX11_marks 61 = .ok (.iload_n 1, 1) := by decide +kernel
theorem dX11_marks_62 : decode cX11_marks 62 = .ok (.iastore, 1) := by decide +kernel
theorem dX11_marks_63 : decode cX11_marks 63 = .ok (.aload_n 0, 1) := by decide +kernel
theorem dX11_marks_64 : decode cX11_marks 64 = .ok (.iload_n 1, 1) := by decide +kernel
theorem dX11_marks_65 : decode cX11_marks 65 = .ok (.invokevirtual 106, 3) := by decide +kernel
theorem dX11_marks_68 : decode cX11_marks 68 = .ok (.iconst 2, 1) := by decide +kernel
theorem dX11_marks_69 : decode cX11_marks 69 = .ok (.if_icmp .ne 19, 3) := by decide +kernel
theorem dX11_marks_72 : decode cX11_marks 72 = .ok (.aload_n 0, 1) := by decide +kernel
theorem dX11_marks_73 : decode cX11_marks 73 = .ok (.getfield 42, 3) := by decide +kernel
theorem dX11_marks_76 : decode cX11_marks 76 = .ok (.aload_n 0, 1) := by decide +kernel
theorem dX11_marks_77 : decode cX11_marks 77 = .ok (.getfield 26, 3) := by decide +kernel
theorem dX11_marks_80 : decode cX11_marks 80 = .ok (.iconst 3, 1) := by decide +kernel
theorem dX11_marks_81 : decode cX11_marks 81 = .ok (.iload_n 1, 1) := by decide +kernel
theorem dX11_marks_82 : decode cX11_marks 82 = .ok (.imul, 1) := by decide +kernel
theorem dX11_marks_83 : decode cX11_marks 83 = .ok (.iconst 2, 1) := by decide +kernel
theorem dX11_marks_84 : decode cX11_marks 84 = .ok (.iadd, 1) := by decide +kernel
theorem dX11_marks_85 : decode cX11_marks 85 = .ok (.iaload, 1) := by decide +kernel
theorem dX11_marks_86 : decode cX11_marks 86 = .ok (.iload_n 1, 1) := by decide +kernel
theorem dX11_marks_87 : decode cX11_marks 87 = .ok (.iastore, 1) := by decide +kernel
theorem dX11_marks_88 : decode cX11_marks 88 = .ok (.iinc 1 1, 3) := by decide +kernel
theorem dX11_marks_91 : decode cX11_marks 91 = .ok (.goto (-61), 3) := by decide +kernel
theorem dX11_marks_94 : decode cX11_marks 94 = .ok (.return_, 1) := by decide +kernel
theorem dX11_moves_0 : decode cX11_moves 0 = .ok (.iload_n 1, 1) := by decide +kernel
theorem dX11_moves_1 : decode cX11_moves 1 = .ok (.ifCond .lt 64, 3) := by decide +kernel
theorem dX11_moves_4 : decode cX11_moves 4 = .ok (.iload_n 2, 1) := by decide +kernel
theorem dX11_moves_5 : decode cX11_moves 5 = .ok (.ifCond .lt 60, 3) := by decide +kernel
theorem dX11_moves_8 : decode cX11_moves 8 = .ok (.iload_n 1, 1) := by decide +kernel
theorem dX11_moves_9 : decode cX11_moves 9 = .ok (.aload_n 0, 1) := by decide +kernel
theorem dX11_moves_10 : decode cX11_moves 10 = .ok (.getfield 7, 3) := by decide +kernel
theorem dX11_moves_13 : decode cX11_moves 13 = .ok (.iconst 0, 1) := by decide +kernel
theorem dX11_moves_14 : decode cX11_moves 14 = .ok (.iaload, 1) := by decide +kernel
theorem dX11_moves_15 : decode cX11_moves 15 = .ok (.if_icmp .ge 50, 3) := by decide +kernel
theorem dX11_moves_18 : decode cX11_moves 18 = .ok (.iload_n 2, 1) := by decide +kernel
theorem dX11_moves_19 : decode cX11_moves 19 = .ok (.aload_n 0, 1) := by decide +kernel
theorem dX11_moves_20 : decode cX11_moves 20 = .ok (.getfield 7, 3) := by decide +kernel
theorem dX11_moves_23 : decode cX11_moves 23 = .ok (.iconst 1, 1) := by decide +kernel
theorem dX11_moves_24 : decode cX11_moves 24 = .ok (.iaload, 1) := by decide +kernel
theorem dX11_moves_25 : decode cX11_moves 25 = .ok (.if_icmp .ge 40, 3) := by decide +kernel
theorem dX11_moves_28 : decode cX11_moves 28 = .ok (.aload_n 0, 1) := by decide +kernel
theorem dX11_moves_29 : decode cX11_moves 29 = .ok (.getfield 39, 3) := by decide +kernel
theorem dX11_moves_32 : decode cX11_moves 32 = .ok (.iload_n 1, 1) := by decide +kernel
theorem dX11_moves_33 : decode cX11_moves 33 = .ok (.iaload, 1) := by decide +kernel
theorem dX11_moves_34 : decode cX11_moves 34 = .ok (.ifCond .lt 31, 3) := by decide +kernel
theorem dX11_moves_37 : decode cX11_moves 37 = .ok (.aload_n 0, 1) := by decide +kernel
theorem dX11_moves_38 : decode cX11_moves 38 = .ok (.getfield 42, 3) := by decide +kernel
theorem dX11_moves_41 : decode cX11_moves 41 = .ok (.iload_n 2, 1) := by decide +kernel
theorem dX11_moves_42 : decode cX11_moves 42 = .ok (.iaload, 1) := by decide +kernel
theorem dX11_moves_43 : decode cX11_moves 43 = .ok (.ifCond .lt 22, 3) := by decide +kernel
theorem dX11_moves_46 : decode cX11_moves 46 = .ok (.aload_n 0, 1) := by decide +kernel
theorem dX11_moves_47 : decode cX11_moves 47 = .ok (.iconst 0, 1) := by decide +kernel
theorem dX11_moves_48 : decode cX11_moves 48 = .ok (.iload_n 1, 1) := by decide +kernel
theorem dX11_moves_49 : decode cX11_moves 49 = .ok (.invokevirtual 52, 3) := by decide +kernel
theorem dX11_moves_52 : decode cX11_moves 52 = .ok (.aload_n 0, 1) := by decide +kernel
theorem dX11_moves_53 : decode cX11_moves 53 = .ok (.iconst 1, 1) := by decide +kernel
theorem dX11_moves_54 : decode cX11_moves 54 = .ok (.iload_n 2, 1) := by decide +kernel
theorem dX11_moves_55 : decode cX11_moves 55 = .ok (.invokevirtual 52, 3) := by decide +kernel
theorem dX11_moves_58 : decode cX11_moves 58 = .ok (.if_icmp .ne 7, 3) := by decide +kernel
theorem dX11_moves_61 : decode cX11_moves 61 = .ok (.iconst 1, 1) := by decide +kernel
theorem dX11_moves_62 : decode cX11_moves 62 = .ok (.goto 4, 3) := by decide +kernel
theorem dX11_moves_65 : decode cX11_moves 65 = .ok (.iconst 0, 1) := by decide +kernel
theorem dX11_moves_66 : decode cX11_moves 66 = .ok (.ireturn, 1) := by decide +kernel
theorem dX11_goesOn_0 : decode cX11_goesOn 0 = .ok (.aload_n 0, 1) := by decide +kernel
theorem dX11_goesOn_1 : decode cX11_goesOn 1 = .ok (.iload_n 1, 1) := by decide +kernel
theorem dX11_goesOn_2 : decode cX11_goesOn 2 = .ok (.iload_n 2, 1) := by decide +kernel
theorem dX11_goesOn_3 : decode cX11_goesOn 3 = .ok (.invokevirtual 137, 3) := by decide +kernel
theorem dX11_goesOn_6 : decode cX11_goesOn 6 = .ok (.ifCond .eq 58, 3) := by decide +kernel
theorem dX11_goesOn_9 : decode cX11_goesOn 9 = .ok (.aload_n 0, 1) := by decide +kernel
theorem dX11_goesOn_10 : decode cX11_goesOn 10 = .ok (.iload_n 1, 1) := by decide +kernel
theorem dX11_goesOn_11 : decode cX11_goesOn 11 = .ok (.iconst 1, 1) := by decide +kernel
theorem dX11_goesOn_12 : decode cX11_goesOn 12 = .ok (.isub, 1) := by decide +kernel
theorem dX11_goesOn_13 : decode cX11_goesOn 13 = .ok (.iload_n 2, 1) := by decide +kernel
theorem dX11_goesOn_14 : decode cX11_goesOn 14 = .ok (.iconst 1, 1) := by decide +kernel
theorem dX11_goesOn_15 : decode cX11_goesOn 15 = .ok (.isub, 1) := by decide +kernel
theorem dX11_goesOn_16 : decode cX11_goesOn 16 = .ok (.invokevirtual 137, 3) := by decide +kernel
theorem dX11_goesOn_19 : decode cX11_goesOn 19 = .ok (.ifCond .eq 45, 3) := by decide +kernel
theorem dX11_goesOn_22 : decode cX11_goesOn 22 = .ok (.aload_n 0, 1) := by decide +kernel
theorem dX11_goesOn_23 : decode cX11_goesOn 23 = .ok (.getfield 39, 3) := by decide +kernel
theorem dX11_goesOn_26 : decode cX11_goesOn 26 = .ok (.iload_n 1, 1) := by decide +kernel
theorem dX11_goesOn_27 : decode cX11_goesOn 27 = .ok (.iaload, 1) := by decide +kernel
theorem dX11_goesOn_28 : decode cX11_goesOn 28 = .ok (.aload_n 0, 1) := by decide +kernel
theorem dX11_goesOn_29 : decode cX11_goesOn 29 = .ok (.getfield 39, 3) := by decide +kernel
theorem dX11_goesOn_32 : decode cX11_goesOn 32 = .ok (.iload_n 1, 1) := by decide +kernel
theorem dX11_goesOn_33 : decode cX11_goesOn 33 = .ok (.iconst 1, 1) := by decide +kernel
theorem dX11_goesOn_34 : decode cX11_goesOn 34 = .ok (.isub, 1) := by decide +kernel
theorem dX11_goesOn_35 : decode cX11_goesOn 35 = .ok (.iaload, 1) := by decide +kernel
theorem dX11_goesOn_36 : decode cX11_goesOn 36 = .ok (.iconst 1, 1) := by decide +kernel
theorem dX11_goesOn_37 : decode cX11_goesOn 37 = .ok (.iadd, 1) := by decide +kernel
theorem dX11_goesOn_38 : decode cX11_goesOn 38 = .ok (.if_icmp .ne 26, 3) := by decide +kernel
theorem dX11_goesOn_41 : decode cX11_goesOn 41 = .ok (.aload_n 0, 1) := by decide +kernel
theorem dX11_goesOn_42 : decode cX11_goesOn 42 = .ok (.getfield 42, 3) := by decide +kernel
theorem dX11_goesOn_45 : decode cX11_goesOn 45 = .ok (.iload_n 2, 1) := by decide +kernel
theorem dX11_goesOn_46 : decode cX11_goesOn 46 = .ok (.iaload, 1) := by decide +kernel
theorem dX11_goesOn_47 : decode cX11_goesOn 47 = .ok (.aload_n 0, 1) := by decide +kernel
theorem dX11_goesOn_48 : decode cX11_goesOn 48 = .ok (.getfield 42, 3) := by decide +kernel
theorem dX11_goesOn_51 : decode cX11_goesOn 51 = .ok (.iload_n 2, 1) := by decide +kernel
theorem dX11_goesOn_52 : decode cX11_goesOn 52 = .ok (.iconst 1, 1) := by decide +kernel
theorem dX11_goesOn_53 : decode cX11_goesOn 53 = .ok (.isub, 1) := by decide +kernel
theorem dX11_goesOn_54 : decode cX11_goesOn 54 = .ok (.iaload, 1) := by decide +kernel
theorem dX11_goesOn_55 : decode cX11_goesOn 55 = .ok (.iconst 1, 1) := by decide +kernel
theorem dX11_goesOn_56 : decode cX11_goesOn 56 = .ok (.iadd, 1) := by decide +kernel
theorem dX11_goesOn_57 : decode cX11_goesOn 57 = .ok (.if_icmp .ne 7, 3) := by decide +kernel
theorem dX11_goesOn_60 : decode cX11_goesOn 60 = .ok (.iconst 1, 1) := by decide +kernel
theorem dX11_goesOn_61 : decode cX11_goesOn 61 = .ok (.goto 4, 3) := by decide +kernel
theorem dX11_goesOn_64 : decode cX11_goesOn 64 = .ok (.iconst 0, 1) := by decide +kernel
theorem dX11_goesOn_65 : decode cX11_goesOn 65 = .ok (.ireturn, 1) := by decide +kernel
theorem dX11_block_0 : decode cX11_block 0 = .ok (.aload_n 0, 1) := by decide +kernel
theorem dX11_block_1 : decode cX11_block 1 = .ok (.iload_n 1, 1) := by decide +kernel
theorem dX11_block_2 : decode cX11_block 2 = .ok (.iload_n 2, 1) := by decide +kernel
theorem dX11_block_3 : decode cX11_block 3 = .ok (.invokevirtual 137, 3) := by decide +kernel
theorem dX11_block_6 : decode cX11_block 6 = .ok (.ifCond .eq 12, 3) := by decide +kernel
theorem dX11_block_9 : decode cX11_block 9 = .ok (.aload_n 0, 1) := by decide +kernel
theorem dX11_block_10 : decode cX11_block 10 = .ok (.iload_n 1, 1) := by decide +kernel
theorem dX11_block_11 : decode cX11_block 11 = .ok (.iload_n 2, 1) := by decide +kernel
theorem dX11_block_12 : decode cX11_block 12 = .ok (.invokevirtual 140, 3) := by decide +kernel
theorem dX11_block_15 : decode cX11_block 15 = .ok (.ifCond .eq 5, 3) := by decide +kernel
theorem dX11_block_18 : decode cX11_block 18 = .ok (.iconst 0, 1) := by decide +kernel
theorem dX11_block_19 : decode cX11_block 19 = .ok (.ireturn, 1) := by decide +kernel
theorem dX11_block_20 : decode cX11_block 20 = .ok (.iconst 1, 1) := by decide +kernel
theorem dX11_block_21 : decode cX11_block 21 = .ok (.istore_n 3, 1) := by decide +kernel
theorem dX11_block_22 : decode cX11_block 22 = .ok (.aload_n 0, 1) := by decide +kernel
theorem dX11_block_23 : decode cX11_block 23 = .ok (.iload_n 1, 1) := by decide +kernel
theorem dX11_block_24 : decode cX11_block 24 = .ok (.iload_n 3, 1) := by decide +kernel
theorem dX11_block_25 : decode cX11_block 25 = .ok (.iadd, 1) := by decide +kernel
theorem dX11_block_26 : decode cX11_block 26 = .ok (.iload_n 2, 1) := by decide +kernel
theorem dX11_block_27 : decode cX11_block 27 = .ok (.iload_n 3, 1) := by decide +kernel
theorem dX11_block_28 : decode cX11_block 28 = .ok (.iadd, 1) := by decide +kernel
theorem dX11_block_29 : decode cX11_block 29 = .ok (.invokevirtual 140, 3) := by decide +kernel
theorem dX11_block_32 : decode cX11_block 32 = .ok (.ifCond .eq 9, 3) := by decide +kernel
theorem dX11_block_35 : decode cX11_block 35 = .ok (.iinc 3 1, 3) := by decide +kernel
theorem dX11_block_38 : decode cX11_block 38 = .ok (.goto (-16), 3) := by decide +kernel
theorem dX11_block_41 : decode cX11_block 41 = .ok (.iload_n 3, 1) := by decide +kernel
theorem dX11_block_42 : decode cX11_block 42 = .ok (.aload_n 0, 1) := by decide +kernel
theorem dX11_block_43 : decode cX11_block 43 = .ok (.getfield 7, 3) := by decide +kernel
theorem dX11_block_46 : decode cX11_block 46 = .ok (.iconst 4, 1) := by decide +kernel
theorem dX11_block_47 : decode cX11_block 47 = .ok (.iaload, 1) := by decide +kernel
theorem dX11_block_48 : decode cX11_block 48 = .ok (.if_icmp .ge 7, 3) := by decide +kernel
theorem dX11_block_51 : decode cX11_block 51 = .ok (.iconst 0, 1) := by decide +kernel
theorem dX11_block_52 : decode cX11_block 52 = .ok (.goto 4, 3) := by decide +kernel
theorem dX11_block_55 : decode cX11_block 55 = .ok (.iload_n 3, 1) := by decide +kernel
theorem dX11_block_56 : decode cX11_block 56 = .ok (.ireturn, 1) := by decide +kernel
theorem dX11_blocks_0 : decode cX11_blocks 0 = .ok (.aload_n 0, 1) := by decide +kernel
theorem dX11_blocks_1 : decode cX11_blocks 1 = .ok (.invokevirtual 143, 3) := by decide +kernel
theorem dX11_blocks_4 : decode cX11_blocks 4 = .ok (.iconst 0, 1) := by decide +kernel
theorem dX11_blocks_5 : decode cX11_blocks 5 = .ok (.istore_n 2, 1) := by decide +kernel
theorem dX11_blocks_6 : decode cX11_blocks 6 = .ok (.bipush 28, 2) := by decide +kernel
theorem dX11_blocks_8 : decode cX11_blocks 8 = .ok (.istore_n 3, 1) := by decide +kernel
theorem dX11_blocks_9 : decode cX11_blocks 9 = .ok (.iload_n 3, 1) := by decide +kernel
theorem dX11_blocks_10 : decode cX11_blocks 10 = .ok (.ifCond .le 106, 3) := by decide +kernel
theorem dX11_blocks_13 : decode cX11_blocks 13 = .ok (.iconst 0, 1) := by decide +kernel
theorem dX11_blocks_14 : decode cX11_blocks 14 = .ok (.istore 4, 2) := by decide +kernel
theorem dX11_blocks_16 : decode cX11_blocks 16 = .ok (.iload 4, 2) := by decide +kernel
theorem dX11_blocks_18 : decode cX11_blocks 18 = .ok (.aload_n 0, 1) := by decide +kernel
theorem dX11_blocks_19 : decode cX11_blocks 19 = .ok (.getfield 7, 3) := by decide +kernel
theorem dX11_blocks_22 : decode cX11_blocks 22 = .ok (.iconst 0, 1) := by decide +kernel
theorem dX11_blocks_23 : decode cX11_blocks 23 = .ok (.iaload, 1) := by decide +kernel
theorem dX11_blocks_24 : decode cX11_blocks 24 = .ok (.if_icmp .ge 86, 3) := by decide +kernel
theorem dX11_blocks_27 : decode cX11_blocks 27 = .ok (.iconst 0, 1) := by decide +kernel
theorem dX11_blocks_28 : decode cX11_blocks 28 = .ok (.istore 5, 2) := by decide +kernel
theorem dX11_blocks_30 : decode cX11_blocks 30 = .ok (.iload 5, 2) := by decide +kernel
theorem dX11_blocks_32 : decode cX11_blocks 32 = .ok (.aload_n 0, 1) := by decide +kernel
theorem dX11_blocks_33 : decode cX11_blocks 33 = .ok (.getfield 7, 3) := by decide +kernel
theorem dX11_blocks_36 : decode cX11_blocks 36 = .ok (.iconst 1, 1) := by decide +kernel
theorem dX11_blocks_37 : decode cX11_blocks 37 = .ok (.iaload, 1) := by decide +kernel
theorem dX11_blocks_38 : decode cX11_blocks 38 = .ok (.if_icmp .ge 66, 3) := by decide +kernel
theorem dX11_blocks_41 : decode cX11_blocks 41 = .ok (.aload_n 0, 1) := by decide +kernel
theorem dX11_blocks_42 : decode cX11_blocks 42 = .ok (.iload 4, 2) := by decide +kernel
theorem dX11_blocks_44 : decode cX11_blocks 44 = .ok (.iload 5, 2) := by decide +kernel
theorem dX11_blocks_46 : decode cX11_blocks 46 = .ok (.invokevirtual 146, 3) := by decide +kernel
theorem dX11_blocks_49 : decode cX11_blocks 49 = .ok (.iload_n 3, 1) := by decide +kernel
theorem dX11_blocks_50 : decode cX11_blocks 50 = .ok (.if_icmp .ne 7, 3) := by decide +kernel
theorem dX11_blocks_53 : decode cX11_blocks 53 = .ok (.iconst 1, 1) := by decide +kernel
theorem dX11_blocks_54 : decode cX11_blocks 54 = .ok (.goto 4, 3) := by decide +kernel
theorem dX11_blocks_57 : decode cX11_blocks 57 = .ok (.iconst 0, 1) := by decide +kernel
theorem dX11_blocks_58 : decode cX11_blocks 58 = .ok (.istore 6, 2) := by decide +kernel
theorem dX11_blocks_60 : decode cX11_blocks 60 = .ok (.iload 6, 2) := by decide +kernel
theorem dX11_blocks_62 : decode cX11_blocks 62 = .ok (.ifCond .eq 23, 3) := by decide +kernel
theorem dX11_blocks_65 : decode cX11_blocks 65 = .ok (.iload_n 2, 1) := by decide +kernel
theorem dX11_blocks_66 : decode cX11_blocks 66 = .ok (.iload_n 1, 1) := by decide +kernel
theorem dX11_blocks_67 : decode cX11_blocks 67 = .ok (.if_icmp .ne 18, 3) := by decide +kernel
theorem dX11_blocks_70 : decode cX11_blocks 70 = .ok (.sipush 10000, 3) := by decide +kernel
theorem dX11_blocks_73 : decode cX11_blocks 73 = .ok (.iload_n 3, 1) := by decide +kernel
theorem dX11_blocks_74 : decode cX11_blocks 74 = .ok (.imul, 1) := by decide +kernel
theorem dX11_blocks_75 : decode cX11_blocks 75 = .ok (.bipush 100, 2) := by decide +kernel
theorem dX11_blocks_77 : decode cX11_blocks 77 = .ok (.iload 4, 2) := by decide +kernel
theorem dX11_blocks_79 : decode cX11_blocks 79 = .ok (.imul, 1) := by decide +kernel
theorem dX11_blocks_80 : decode cX11_blocks 80 = .ok (.iadd, 1) := by decide +kernel
theorem dX11_blocks_81 : decode cX11_blocks 81 = .ok (.iload 5, 2) := by decide +kernel
theorem dX11_blocks_83 : decode cX11_blocks 83 = .ok (.iadd, 1) := by decide +kernel
theorem dX11_blocks_84 : decode cX11_blocks 84 = .ok (.ireturn, 1) := by decide +kernel
theorem dX11_blocks_85 : decode cX11_blocks 85 = .ok (.iload_n 2, 1) := by decide +kernel
theorem dX11_blocks_86 : decode cX11_blocks 86 = .ok (.iload 6, 2) := by decide +kernel
theorem dX11_blocks_88 : decode cX11_blocks 88 = .ok (.ifCond .eq 7, 3) := by decide +kernel
theorem dX11_blocks_91 : decode cX11_blocks 91 = .ok (.iconst 1, 1) := by decide +kernel
theorem dX11_blocks_92 : decode cX11_blocks 92 = .ok (.goto 4, 3) := by decide +kernel
theorem dX11_blocks_95 : decode cX11_blocks 95 = .ok (.iconst 0, 1) := by decide +kernel
theorem dX11_blocks_96 : decode cX11_blocks 96 = .ok (.iadd, 1) := by decide +kernel
theorem dX11_blocks_97 : decode cX11_blocks 97 = .ok (.istore_n 2, 1) := by decide +kernel
theorem dX11_blocks_98 : decode cX11_blocks 98 = .ok (.iinc 5 1, 3) := by decide +kernel
theorem dX11_blocks_101 : decode cX11_blocks 101 = .ok (.goto (-71), 3) := by decide +kernel
theorem dX11_blocks_104 : decode cX11_blocks 104 = .ok (.iinc 4 1, 3) := by decide +kernel
theorem dX11_blocks_107 : decode cX11_blocks 107 = .ok (.goto (-91), 3) := by decide +kernel
theorem dX11_blocks_110 : decode cX11_blocks 110 = .ok (.iinc 3 (-1), 3) := by decide +kernel
theorem dX11_blocks_113 : decode cX11_blocks 113 = .ok (.goto (-104), 3) := by decide +kernel
theorem dX11_blocks_116 : decode cX11_blocks 116 = .ok (.iload_n 2, 1) := by decide +kernel
theorem dX11_blocks_117 : decode cX11_blocks 117 = .ok (.ireturn, 1) := by decide +kernel
theorem dX11_movedOf_0 : decode cX11_movedOf 0 = .ok (.iload_n 1, 1) := by decide +kernel
theorem dX11_movedOf_1 : decode cX11_movedOf 1 = .ok (.ifCond .lt 12, 3) := by decide +kernel
theorem dX11_movedOf_4 : decode cX11_movedOf 4 = .ok (.iload_n 2, 1) := by decide +kernel
theorem dX11_movedOf_5 : decode cX11_movedOf 5 = .ok (.iconst 0, 1) := by decide +kernel
theorem dX11_movedOf_6 : decode cX11_movedOf 6 = .ok (.iconst 2, 1) := by decide +kernel
theorem dX11_movedOf_7 : decode cX11_movedOf 7 = .ok (.invokestatic 48, 3) := by decide +kernel
theorem dX11_movedOf_10 : decode cX11_movedOf 10 = .ok (.ifCond .ne 6, 3) := by decide +kernel
theorem dX11_movedOf_13 : decode cX11_movedOf 13 = .ok (.ldc 56, 2) := by decide +kernel
theorem dX11_movedOf_15 : decode cX11_movedOf 15 = .ok (.ireturn, 1) := by decide +kernel
theorem dX11_movedOf_16 : decode cX11_movedOf 16 = .ok (.aload_n 0, 1) := by decide +kernel
theorem dX11_movedOf_17 : decode cX11_movedOf 17 = .ok (.invokevirtual 102, 3) := by decide +kernel
theorem dX11_movedOf_20 : decode cX11_movedOf 20 = .ok (.ifCond .ne 6, 3) := by decide +kernel
theorem dX11_movedOf_23 : decode cX11_movedOf 23 = .ok (.ldc 61, 2) := by decide +kernel
theorem dX11_movedOf_25 : decode cX11_movedOf 25 = .ok (.ireturn, 1) := by decide +kernel
theorem dX11_movedOf_26 : decode cX11_movedOf 26 = .ok (.aload_n 0, 1) := by decide +kernel
theorem dX11_movedOf_27 : decode cX11_movedOf 27 = .ok (.iload_n 1, 1) := by decide +kernel
theorem dX11_movedOf_28 : decode cX11_movedOf 28 = .ok (.invokevirtual 149, 3) := by decide +kernel
theorem dX11_movedOf_31 : decode cX11_movedOf 31 = .ok (.istore_n 3, 1) := by decide +kernel
theorem dX11_movedOf_32 : decode cX11_movedOf 32 = .ok (.iload_n 3, 1) := by decide +kernel
theorem dX11_movedOf_33 : decode cX11_movedOf 33 = .ok (.sipush 10000, 3) := by decide +kernel
theorem dX11_movedOf_36 : decode cX11_movedOf 36 = .ok (.if_icmp .ge 6, 3) := by decide +kernel
theorem dX11_movedOf_39 : decode cX11_movedOf 39 = .ok (.ldc 70, 2) := by decide +kernel
theorem dX11_movedOf_41 : decode cX11_movedOf 41 = .ok (.ireturn, 1) := by decide +kernel
theorem dX11_movedOf_42 : decode cX11_movedOf 42 = .ok (.iload_n 2, 1) := by decide +kernel
theorem dX11_movedOf_43 : decode cX11_movedOf 43 = .ok (.ifCond .ne 11, 3) := by decide +kernel
theorem dX11_movedOf_46 : decode cX11_movedOf 46 = .ok (.iload_n 3, 1) := by decide +kernel
theorem dX11_movedOf_47 : decode cX11_movedOf 47 = .ok (.sipush 10000, 3) := by decide +kernel
theorem dX11_movedOf_50 : decode cX11_movedOf 50 = .ok (.idiv, 1) := by decide +kernel
theorem dX11_movedOf_51 : decode cX11_movedOf 51 = .ok (.goto 22, 3) := by decide +kernel
theorem dX11_movedOf_54 : decode cX11_movedOf 54 = .ok (.iload_n 2, 1) := by decide +kernel
theorem dX11_movedOf_55 : decode cX11_movedOf 55 = .ok (.iconst 1, 1) := by decide +kernel
theorem dX11_movedOf_56 : decode cX11_movedOf 56 = .ok (.if_icmp .ne 13, 3) := by decide +kernel
theorem dX11_movedOf_59 : decode cX11_movedOf 59 = .ok (.iload_n 3, 1) := by decide +kernel
theorem dX11_movedOf_60 : decode cX11_movedOf 60 = .ok (.bipush 100, 2) := by decide +kernel
theorem dX11_movedOf_62 : decode cX11_movedOf 62 = .ok (.idiv, 1) := by decide +kernel
theorem dX11_movedOf_63 : decode cX11_movedOf 63 = .ok (.bipush 100, 2) := by decide +kernel
theorem dX11_movedOf_65 : decode cX11_movedOf 65 = .ok (.irem, 1) := by decide +kernel
theorem dX11_movedOf_66 : decode cX11_movedOf 66 = .ok (.goto 7, 3) := by decide +kernel
theorem dX11_movedOf_69 : decode cX11_movedOf 69 = .ok (.iload_n 3, 1) := by decide +kernel
theorem dX11_movedOf_70 : decode cX11_movedOf 70 = .ok (.bipush 100, 2) := by decide +kernel
theorem dX11_movedOf_72 : decode cX11_movedOf 72 = .ok (.irem, 1) := by decide +kernel
theorem dX11_movedOf_73 : decode cX11_movedOf 73 = .ok (.ireturn, 1) := by decide +kernel
theorem dX11_bestChange_0 : decode cX11_bestChange 0 = .ok (.iload_n 1, 1) := by decide +kernel
theorem dX11_bestChange_1 : decode cX11_bestChange 1 = .ok (.iconst 0, 1) := by decide +kernel
theorem dX11_bestChange_2 : decode cX11_bestChange 2 = .ok (.iconst 2, 1) := by decide +kernel
theorem dX11_bestChange_3 : decode cX11_bestChange 3 = .ok (.invokestatic 48, 3) := by decide +kernel
theorem dX11_bestChange_6 : decode cX11_bestChange 6 = .ok (.ifCond .ne 6, 3) := by decide +kernel
theorem dX11_bestChange_9 : decode cX11_bestChange 9 = .ok (.ldc 56, 2) := by decide +kernel
