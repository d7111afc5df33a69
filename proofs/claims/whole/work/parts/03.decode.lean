theorem dX0_init_0 : decode cX0_init 0 = .ok (.aload_n 0, 1) := by decide +kernel
theorem dX0_init_1 : decode cX0_init 1 = .ok (.invokespecial 3, 3) := by decide +kernel
theorem dX0_init_4 : decode cX0_init 4 = .ok (.aload_n 0, 1) := by decide +kernel
theorem dX0_init_5 : decode cX0_init 5 = .ok (.sipush 784, 3) := by decide +kernel
theorem dX0_init_8 : decode cX0_init 8 = .ok (.newarray .int, 2) := by decide +kernel
theorem dX0_init_10 : decode cX0_init 10 = .ok (.putfield 9, 3) := by decide +kernel
theorem dX0_init_13 : decode cX0_init 13 = .ok (.aload_n 0, 1) := by decide +kernel
theorem dX0_init_14 : decode cX0_init 14 = .ok (.sipush 784, 3) := by decide +kernel
theorem dX0_init_17 : decode cX0_init 17 = .ok (.newarray .int, 2) := by decide +kernel
theorem dX0_init_19 : decode cX0_init 19 = .ok (.putfield 15, 3) := by decide +kernel
theorem dX0_init_22 : decode cX0_init 22 = .ok (.aload_n 0, 1) := by decide +kernel
theorem dX0_init_23 : decode cX0_init 23 = .ok (.sipush 784, 3) := by decide +kernel
theorem dX0_init_26 : decode cX0_init 26 = .ok (.newarray .int, 2) := by decide +kernel
theorem dX0_init_28 : decode cX0_init 28 = .ok (.putfield 18, 3) := by decide +kernel
theorem dX0_init_31 : decode cX0_init 31 = .ok (.return_, 1) := by decide +kernel
theorem dX0_find_0 : decode cX0_find 0 = .ok (.aload_n 0, 1) := by decide +kernel
theorem dX0_find_1 : decode cX0_find 1 = .ok (.iconst 0, 1) := by decide +kernel
theorem dX0_find_2 : decode cX0_find 2 = .ok (.putfield 21, 3) := by decide +kernel
theorem dX0_find_5 : decode cX0_find 5 = .ok (.iconst 0, 1) := by decide +kernel
theorem dX0_find_6 : decode cX0_find 6 = .ok (.istore_n 3, 1) := by decide +kernel
theorem dX0_find_7 : decode cX0_find 7 = .ok (.iload_n 3, 1) := by decide +kernel
theorem dX0_find_8 : decode cX0_find 8 = .ok (.aload_n 1, 1) := by decide +kernel
theorem dX0_find_9 : decode cX0_find 9 = .ok (.getfield 25, 3) := by decide +kernel
theorem dX0_find_12 : decode cX0_find 12 = .ok (.if_icmp .ge 66, 3) := by decide +kernel
theorem dX0_find_15 : decode cX0_find 15 = .ok (.iconst 0, 1) := by decide +kernel
theorem dX0_find_16 : decode cX0_find 16 = .ok (.istore 4, 2) := by decide +kernel
theorem dX0_find_18 : decode cX0_find 18 = .ok (.iload 4, 2) := by decide +kernel
theorem dX0_find_20 : decode cX0_find 20 = .ok (.aload_n 1, 1) := by decide +kernel
theorem dX0_find_21 : decode cX0_find 21 = .ok (.getfield 25, 3) := by decide +kernel
theorem dX0_find_24 : decode cX0_find 24 = .ok (.if_icmp .ge 48, 3) := by decide +kernel
theorem dX0_find_27 : decode cX0_find 27 = .ok (.aload_n 1, 1) := by decide +kernel
theorem dX0_find_28 : decode cX0_find 28 = .ok (.iload_n 3, 1) := by decide +kernel
theorem dX0_find_29 : decode cX0_find 29 = .ok (.iload 4, 2) := by decide +kernel
theorem dX0_find_31 : decode cX0_find 31 = .ok (.invokevirtual 30, 3) := by decide +kernel
theorem dX0_find_34 : decode cX0_find 34 = .ok (.ifCond .eq 32, 3) := by decide +kernel
theorem dX0_find_37 : decode cX0_find 37 = .ok (.aload_n 1, 1) := by decide +kernel
theorem dX0_find_38 : decode cX0_find 38 = .ok (.iload_n 3, 1) := by decide +kernel
theorem dX0_find_39 : decode cX0_find 39 = .ok (.iconst 1, 1) := by decide +kernel
theorem dX0_find_40 : decode cX0_find 40 = .ok (.isub, 1) := by decide +kernel
theorem dX0_find_41 : decode cX0_find 41 = .ok (.iload 4, 2) := by decide +kernel
theorem dX0_find_43 : decode cX0_find 43 = .ok (.iconst 1, 1) := by decide +kernel
theorem dX0_find_44 : decode cX0_find 44 = .ok (.isub, 1) := by decide +kernel
theorem dX0_find_45 : decode cX0_find 45 = .ok (.invokevirtual 30, 3) := by decide +kernel
theorem dX0_find_48 : decode cX0_find 48 = .ok (.ifCond .ne 18, 3) := by decide +kernel
theorem dX0_find_51 : decode cX0_find 51 = .ok (.aload_n 0, 1) := by decide +kernel
theorem dX0_find_52 : decode cX0_find 52 = .ok (.aload_n 1, 1) := by decide +kernel
theorem dX0_find_53 : decode cX0_find 53 = .ok (.iload_n 3, 1) := by decide +kernel
theorem dX0_find_54 : decode cX0_find 54 = .ok (.iload 4, 2) := by decide +kernel
theorem dX0_find_56 : decode cX0_find 56 = .ok (.invokestatic 34, 3) := by decide +kernel
theorem dX0_find_59 : decode cX0_find 59 = .ok (.iload_n 3, 1) := by decide +kernel
theorem dX0_find_60 : decode cX0_find 60 = .ok (.iload 4, 2) := by decide +kernel
theorem dX0_find_62 : decode cX0_find 62 = .ok (.iload_n 2, 1) := by decide +kernel
theorem dX0_find_63 : decode cX0_find 63 = .ok (.invokevirtual 38, 3) := by decide +kernel
theorem dX0_find_66 : decode cX0_find 66 = .ok (.iinc 4 1, 3) := by decide +kernel
theorem dX0_find_69 : decode cX0_find 69 = .ok (.goto (-51), 3) := by decide +kernel
theorem dX0_find_72 : decode cX0_find 72 = .ok (.iinc 3 1, 3) := by decide +kernel
theorem dX0_find_75 : decode cX0_find 75 = .ok (.goto (-68), 3) := by decide +kernel
theorem dX0_find_78 : decode cX0_find 78 = .ok (.return_, 1) := by decide +kernel
theorem dX0_inOrder_0 : decode cX0_inOrder 0 = .ok (.iload_n 1, 1) := by decide +kernel
theorem dX0_inOrder_1 : decode cX0_inOrder 1 = .ok (.istore_n 2, 1) := by decide +kernel
theorem dX0_inOrder_2 : decode cX0_inOrder 2 = .ok (.bipush 28, 2) := by decide +kernel
theorem dX0_inOrder_4 : decode cX0_inOrder 4 = .ok (.istore_n 3, 1) := by decide +kernel
theorem dX0_inOrder_5 : decode cX0_inOrder 5 = .ok (.iload_n 3, 1) := by decide +kernel
theorem dX0_inOrder_6 : decode cX0_inOrder 6 = .ok (.ifCond .le 47, 3) := by decide +kernel
theorem dX0_inOrder_9 : decode cX0_inOrder 9 = .ok (.iconst 0, 1) := by decide +kernel
theorem dX0_inOrder_10 : decode cX0_inOrder 10 = .ok (.istore 4, 2) := by decide +kernel
theorem dX0_inOrder_12 : decode cX0_inOrder 12 = .ok (.iload 4, 2) := by decide +kernel
theorem dX0_inOrder_14 : decode cX0_inOrder 14 = .ok (.aload_n 0, 1) := by decide +kernel
theorem dX0_inOrder_15 : decode cX0_inOrder 15 = .ok (.getfield 21, 3) := by decide +kernel
theorem dX0_inOrder_18 : decode cX0_inOrder 18 = .ok (.if_icmp .ge 29, 3) := by decide +kernel
theorem dX0_inOrder_21 : decode cX0_inOrder 21 = .ok (.aload_n 0, 1) := by decide +kernel
theorem dX0_inOrder_22 : decode cX0_inOrder 22 = .ok (.iload 4, 2) := by decide +kernel
theorem dX0_inOrder_24 : decode cX0_inOrder 24 = .ok (.invokevirtual 42, 3) := by decide +kernel
theorem dX0_inOrder_27 : decode cX0_inOrder 27 = .ok (.iload_n 3, 1) := by decide +kernel
theorem dX0_inOrder_28 : decode cX0_inOrder 28 = .ok (.if_icmp .ne 13, 3) := by decide +kernel
theorem dX0_inOrder_31 : decode cX0_inOrder 31 = .ok (.iload_n 2, 1) := by decide +kernel
theorem dX0_inOrder_32 : decode cX0_inOrder 32 = .ok (.ifCond .ne 6, 3) := by decide +kernel
theorem dX0_inOrder_35 : decode cX0_inOrder 35 = .ok (.iload 4, 2) := by decide +kernel
theorem dX0_inOrder_37 : decode cX0_inOrder 37 = .ok (.ireturn, 1) := by decide +kernel
theorem dX0_inOrder_38 : decode cX0_inOrder 38 = .ok (.iinc 2 (-1), 3) := by decide +kernel
theorem dX0_inOrder_41 : decode cX0_inOrder 41 = .ok (.iinc 4 1, 3) := by decide +kernel
theorem dX0_inOrder_44 : decode cX0_inOrder 44 = .ok (.goto (-32), 3) := by decide +kernel
theorem dX0_inOrder_47 : decode cX0_inOrder 47 = .ok (.iinc 3 (-1), 3) := by decide +kernel
theorem dX0_inOrder_50 : decode cX0_inOrder 50 = .ok (.goto (-45), 3) := by decide +kernel
theorem dX0_inOrder_53 : decode cX0_inOrder 53 = .ok (.iconst (-1), 1) := by decide +kernel
theorem dX0_inOrder_54 : decode cX0_inOrder 54 = .ok (.ireturn, 1) := by decide +kernel
theorem dX0_sizeOf_0 : decode cX0_sizeOf 0 = .ok (.iload_n 1, 1) := by decide +kernel
theorem dX0_sizeOf_1 : decode cX0_sizeOf 1 = .ok (.ifCond .lt 29, 3) := by decide +kernel
theorem dX0_sizeOf_4 : decode cX0_sizeOf 4 = .ok (.iload_n 1, 1) := by decide +kernel
theorem dX0_sizeOf_5 : decode cX0_sizeOf 5 = .ok (.aload_n 0, 1) := by decide +kernel
theorem dX0_sizeOf_6 : decode cX0_sizeOf 6 = .ok (.getfield 21, 3) := by decide +kernel
theorem dX0_sizeOf_9 : decode cX0_sizeOf 9 = .ok (.if_icmp .ge 21, 3) := by decide +kernel
theorem dX0_sizeOf_12 : decode cX0_sizeOf 12 = .ok (.iload_n 1, 1) := by decide +kernel
theorem dX0_sizeOf_13 : decode cX0_sizeOf 13 = .ok (.aload_n 0, 1) := by decide +kernel
theorem dX0_sizeOf_14 : decode cX0_sizeOf 14 = .ok (.getfield 9, 3) := by decide +kernel
theorem dX0_sizeOf_17 : decode cX0_sizeOf 17 = .ok (.arraylength, 1) := by decide +kernel
theorem dX0_sizeOf_18 : decode cX0_sizeOf 18 = .ok (.if_icmp .ge 12, 3) := by decide +kernel
theorem dX0_sizeOf_21 : decode cX0_sizeOf 21 = .ok (.aload_n 0, 1) := by decide +kernel
theorem dX0_sizeOf_22 : decode cX0_sizeOf 22 = .ok (.getfield 9, 3) := by decide +kernel
theorem dX0_sizeOf_25 : decode cX0_sizeOf 25 = .ok (.iload_n 1, 1) := by decide +kernel
theorem dX0_sizeOf_26 : decode cX0_sizeOf 26 = .ok (.iaload, 1) := by decide +kernel
theorem dX0_sizeOf_27 : decode cX0_sizeOf 27 = .ok (.goto 4, 3) := by decide +kernel
theorem dX0_sizeOf_30 : decode cX0_sizeOf 30 = .ok (.iconst (-1), 1) := by decide +kernel
theorem dX0_sizeOf_31 : decode cX0_sizeOf 31 = .ok (.ireturn, 1) := by decide +kernel
theorem dX0_outOf_0 : decode cX0_outOf 0 = .ok (.iload_n 1, 1) := by decide +kernel
theorem dX0_outOf_1 : decode cX0_outOf 1 = .ok (.ifCond .lt 29, 3) := by decide +kernel
theorem dX0_outOf_4 : decode cX0_outOf 4 = .ok (.iload_n 1, 1) := by decide +kernel
theorem dX0_outOf_5 : decode cX0_outOf 5 = .ok (.aload_n 0, 1) := by decide +kernel
theorem dX0_outOf_6 : decode cX0_outOf 6 = .ok (.getfield 21, 3) := by decide +kernel
theorem dX0_outOf_9 : decode cX0_outOf 9 = .ok (.if_icmp .ge 21, 3) := by decide +kernel
theorem dX0_outOf_12 : decode cX0_outOf 12 = .ok (.iload_n 1, 1) := by decide +kernel
theorem dX0_outOf_13 : decode cX0_outOf 13 = .ok (.aload_n 0, 1) := by decide +kernel
theorem dX0_outOf_14 : decode cX0_outOf 14 = .ok (.getfield 15, 3) := by decide +kernel
theorem dX0_outOf_17 : decode cX0_outOf 17 = .ok (.arraylength, 1) := by decide +kernel
theorem dX0_outOf_18 : decode cX0_outOf 18 = .ok (.if_icmp .ge 12, 3) := by decide +kernel
theorem dX0_outOf_21 : decode cX0_outOf 21 = .ok (.aload_n 0, 1) := by decide +kernel
theorem dX0_outOf_22 : decode cX0_outOf 22 = .ok (.getfield 15, 3) := by decide +kernel
theorem dX0_outOf_25 : decode cX0_outOf 25 = .ok (.iload_n 1, 1) := by decide +kernel
theorem dX0_outOf_26 : decode cX0_outOf 26 = .ok (.iaload, 1) := by decide +kernel
theorem dX0_outOf_27 : decode cX0_outOf 27 = .ok (.goto 4, 3) := by decide +kernel
theorem dX0_outOf_30 : decode cX0_outOf 30 = .ok (.iconst (-1), 1) := by decide +kernel
theorem dX0_outOf_31 : decode cX0_outOf 31 = .ok (.ireturn, 1) := by decide +kernel
theorem dX0_inOf_0 : decode cX0_inOf 0 = .ok (.iload_n 1, 1) := by decide +kernel
theorem dX0_inOf_1 : decode cX0_inOf 1 = .ok (.ifCond .lt 29, 3) := by decide +kernel
theorem dX0_inOf_4 : decode cX0_inOf 4 = .ok (.iload_n 1, 1) := by decide +kernel
theorem dX0_inOf_5 : decode cX0_inOf 5 = .ok (.aload_n 0, 1) := by decide +kernel
theorem dX0_inOf_6 : decode cX0_inOf 6 = .ok (.getfield 21, 3) := by decide +kernel
theorem dX0_inOf_9 : decode cX0_inOf 9 = .ok (.if_icmp .ge 21, 3) := by decide +kernel
theorem dX0_inOf_12 : decode cX0_inOf 12 = .ok (.iload_n 1, 1) := by decide +kernel
theorem dX0_inOf_13 : decode cX0_inOf 13 = .ok (.aload_n 0, 1) := by decide +kernel
theorem dX0_inOf_14 : decode cX0_inOf 14 = .ok (.getfield 18, 3) := by decide +kernel
theorem dX0_inOf_17 : decode cX0_inOf 17 = .ok (.arraylength, 1) := by decide +kernel
theorem dX0_inOf_18 : decode cX0_inOf 18 = .ok (.if_icmp .ge 12, 3) := by decide +kernel
theorem dX0_inOf_21 : decode cX0_inOf 21 = .ok (.aload_n 0, 1) := by decide +kernel
theorem dX0_inOf_22 : decode cX0_inOf 22 = .ok (.getfield 18, 3) := by decide +kernel
theorem dX0_inOf_25 : decode cX0_inOf 25 = .ok (.iload_n 1, 1) := by decide +kernel
theorem dX0_inOf_26 : decode cX0_inOf 26 = .ok (.iaload, 1) := by decide +kernel
theorem dX0_inOf_27 : decode cX0_inOf 27 = .ok (.goto 4, 3) := by decide +kernel
theorem dX0_inOf_30 : decode cX0_inOf 30 = .ok (.iconst (-1), 1) := by decide +kernel
theorem dX0_inOf_31 : decode cX0_inOf 31 = .ok (.ireturn, 1) := by decide +kernel
theorem dX0_sizeFrom_0 : decode cX0_sizeFrom 0 = .ok (.iconst 0, 1) := by decide +kernel
theorem dX0_sizeFrom_1 : decode cX0_sizeFrom 1 = .ok (.istore_n 3, 1) := by decide +kernel
theorem dX0_sizeFrom_2 : decode cX0_sizeFrom 2 = .ok (.iload_n 3, 1) := by decide +kernel
theorem dX0_sizeFrom_3 : decode cX0_sizeFrom 3 = .ok (.bipush 28, 2) := by decide +kernel
theorem dX0_sizeFrom_5 : decode cX0_sizeFrom 5 = .ok (.if_icmp .ge 22, 3) := by decide +kernel
theorem dX0_sizeFrom_8 : decode cX0_sizeFrom 8 = .ok (.aload_n 0, 1) := by decide +kernel
theorem dX0_sizeFrom_9 : decode cX0_sizeFrom 9 = .ok (.iload_n 1, 1) := by decide +kernel
theorem dX0_sizeFrom_10 : decode cX0_sizeFrom 10 = .ok (.iload_n 3, 1) := by decide +kernel
theorem dX0_sizeFrom_11 : decode cX0_sizeFrom 11 = .ok (.iadd, 1) := by decide +kernel
theorem dX0_sizeFrom_12 : decode cX0_sizeFrom 12 = .ok (.iload_n 2, 1) := by decide +kernel
theorem dX0_sizeFrom_13 : decode cX0_sizeFrom 13 = .ok (.iload_n 3, 1) := by decide +kernel
theorem dX0_sizeFrom_14 : decode cX0_sizeFrom 14 = .ok (.iadd, 1) := by decide +kernel
theorem dX0_sizeFrom_15 : decode cX0_sizeFrom 15 = .ok (.invokevirtual 30, 3) := by decide +kernel
theorem dX0_sizeFrom_18 : decode cX0_sizeFrom 18 = .ok (.ifCond .eq 9, 3) := by decide +kernel
theorem dX0_sizeFrom_21 : decode cX0_sizeFrom 21 = .ok (.iinc 3 1, 3) := by decide +kernel
theorem dX0_sizeFrom_24 : decode cX0_sizeFrom 24 = .ok (.goto (-22), 3) := by decide +kernel
theorem dX0_sizeFrom_27 : decode cX0_sizeFrom 27 = .ok (.iload_n 3, 1) := by decide +kernel
theorem dX0_sizeFrom_28 : decode cX0_sizeFrom 28 = .ok (.ireturn, 1) := by decide +kernel
theorem dX0_addIfLong_0 : decode cX0_addIfLong 0 = .ok (.iload_n 1, 1) := by decide +kernel
theorem dX0_addIfLong_1 : decode cX0_addIfLong 1 = .ok (.iload 4, 2) := by decide +kernel
theorem dX0_addIfLong_3 : decode cX0_addIfLong 3 = .ok (.if_icmp .lt 86, 3) := by decide +kernel
theorem dX0_addIfLong_6 : decode cX0_addIfLong 6 = .ok (.aload_n 0, 1) := by decide +kernel
theorem dX0_addIfLong_7 : decode cX0_addIfLong 7 = .ok (.getfield 21, 3) := by decide +kernel
theorem dX0_addIfLong_10 : decode cX0_addIfLong 10 = .ok (.ifCond .lt 79, 3) := by decide +kernel
theorem dX0_addIfLong_13 : decode cX0_addIfLong 13 = .ok (.aload_n 0, 1) := by decide +kernel
theorem dX0_addIfLong_14 : decode cX0_addIfLong 14 = .ok (.getfield 21, 3) := by decide +kernel
theorem dX0_addIfLong_17 : decode cX0_addIfLong 17 = .ok (.aload_n 0, 1) := by decide +kernel
theorem dX0_addIfLong_18 : decode cX0_addIfLong 18 = .ok (.getfield 9, 3) := by decide +kernel
theorem dX0_addIfLong_21 : decode cX0_addIfLong 21 = .ok (.arraylength, 1) := by decide +kernel
theorem dX0_addIfLong_22 : decode cX0_addIfLong 22 = .ok (.if_icmp .ge 67, 3) := by decide +kernel
theorem dX0_addIfLong_25 : decode cX0_addIfLong 25 = .ok (.aload_n 0, 1) := by decide +kernel
theorem dX0_addIfLong_26 : decode cX0_addIfLong 26 = .ok (.getfield 21, 3) := by decide +kernel
theorem dX0_addIfLong_29 : decode cX0_addIfLong 29 = .ok (.aload_n 0, 1) := by decide +kernel
theorem dX0_addIfLong_30 : decode cX0_addIfLong 30 = .ok (.getfield 15, 3) := by decide +kernel
theorem dX0_addIfLong_33 : decode cX0_addIfLong 33 = .ok (.arraylength, 1) := by decide +kernel
theorem dX0_addIfLong_34 : decode cX0_addIfLong 34 = .ok (.if_icmp .ge 55, 3) := by decide +kernel
theorem dX0_addIfLong_37 : decode cX0_addIfLong 37 = .ok (.aload_n 0, 1) := by decide +kernel
theorem dX0_addIfLong_38 : decode cX0_addIfLong 38 = .ok (.getfield 21, 3) := by decide +kernel
theorem dX0_addIfLong_41 : decode cX0_addIfLong 41 = .ok (.aload_n 0, 1) := by decide +kernel
theorem dX0_addIfLong_42 : decode cX0_addIfLong 42 = .ok (.getfield 18, 3) := by decide +kernel
theorem dX0_addIfLong_45 : decode cX0_addIfLong 45 = .ok (.arraylength, 1) := by decide +kernel
theorem dX0_addIfLong_46 : decode cX0_addIfLong 46 = .ok (.if_icmp .ge 43, 3) := by decide +kernel
theorem dX0_addIfLong_49 : decode cX0_addIfLong 49 = .ok (.aload_n 0, 1) := by decide +kernel
theorem dX0_addIfLong_50 : decode cX0_addIfLong 50 = .ok (.getfield 9, 3) := by decide +kernel
theorem dX0_addIfLong_53 : decode cX0_addIfLong 53 = .ok (.aload_n 0, 1) := by decide +kernel
theorem dX0_addIfLong_54 : decode cX0_addIfLong 54 = .ok (.getfield 21, 3) := by decide +kernel
theorem dX0_addIfLong_57 : decode cX0_addIfLong 57 = .ok (.iload_n 1, 1) := by decide +kernel
theorem dX0_addIfLong_58 : decode cX0_addIfLong 58 = .ok (.iastore, 1) := by decide +kernel
theorem dX0_addIfLong_59 : decode cX0_addIfLong 59 = .ok (.aload_n 0, 1) := by decide +kernel
theorem dX0_addIfLong_60 : decode cX0_addIfLong 60 = .ok (.getfield 15, 3) := by decide +kernel
theorem dX0_addIfLong_63 : decode cX0_addIfLong 63 = .ok (.aload_n 0, 1) := by decide +kernel
theorem dX0_addIfLong_64 : decode cX0_addIfLong 64 = .ok (.getfield 21, 3) := by decide +kernel
theorem dX0_addIfLong_67 : decode cX0_addIfLong 67 = .ok (.iload_n 2, 1) := by decide +kernel
theorem dX0_addIfLong_68 : decode cX0_addIfLong 68 = .ok (.iastore, 1) := by decide +kernel
theorem dX0_addIfLong_69 : decode cX0_addIfLong 69 = .ok (.aload_n 0, 1) := by decide +kernel
theorem dX0_addIfLong_70 : decode cX0_addIfLong 70 = .ok (.getfield 18, 3) := by decide +kernel
theorem dX0_addIfLong_73 : decode cX0_addIfLong 73 = .ok (.aload_n 0, 1) := by decide +kernel
theorem dX0_addIfLong_74 : decode cX0_addIfLong 74 = .ok (.getfield 21, 3) := by decide +kernel
theorem dX0_addIfLong_77 : decode cX0_addIfLong 77 = .ok (.iload_n 3, 1) := by decide +kernel
theorem dX0_addIfLong_78 : decode cX0_addIfLong 78 = .ok (.iastore, 1) := by decide +kernel
theorem dX0_addIfLong_79 : decode cX0_addIfLong 79 = .ok (.aload_n 0, 1) := by decide +kernel
theorem dX0_addIfLong_80 : decode cX0_addIfLong 80 = .ok (.dup, 1) := by decide +kernel
theorem dX0_addIfLong_81 : decode cX0_addIfLong 81 = .ok (.getfield 21, 3) := by decide +kernel
theorem dX0_addIfLong_84 : decode cX0_addIfLong 84 = .ok (.iconst 1, 1) := by decide +kernel
theorem dX0_addIfLong_85 : decode cX0_addIfLong 85 = .ok (.iadd, 1) := by decide +kernel
theorem dX0_addIfLong_86 : decode cX0_addIfLong 86 = .ok (.putfield 21, 3) := by decide +kernel
theorem dX0_addIfLong_89 : decode cX0_addIfLong 89 = .ok (.return_, 1) := by decide +kernel
theorem dX1_init_0 : decode cX1_init 0 = .ok (.aload_n 0, 1) := by decide +kernel
theorem dX1_init_1 : decode cX1_init 1 = .ok (.invokespecial 3, 3) := by decide +kernel
theorem dX1_init_4 : decode cX1_init 4 = .ok (.aload_n 0, 1) := by decide +kernel
theorem dX1_init_5 : decode cX1_init 5 = .ok (.new 9, 3) := by decide +kernel
theorem dX1_init_8 : decode cX1_init 8 = .ok (.dup, 1) := by decide +kernel
theorem dX1_init_9 : decode cX1_init 9 = .ok (.invokespecial 11, 3) := by decide +kernel
theorem dX1_init_12 : decode cX1_init 12 = .ok (.putfield 12, 3) := by decide +kernel
theorem dX1_init_15 : decode cX1_init 15 = .ok (.aload_n 0, 1) := by decide +kernel
theorem dX1_init_16 : decode cX1_init 16 = .ok (.new 9, 3) := by decide +kernel
theorem dX1_init_19 : decode cX1_init 19 = .ok (.dup, 1) := by decide +kernel
theorem dX1_init_20 : decode cX1_init 20 = .ok (.invokespecial 11, 3) := by decide +kernel
theorem dX1_init_23 : decode cX1_init 23 = .ok (.putfield 18, 3) := by decide +kernel
theorem dX1_init_26 : decode cX1_init 26 = .ok (.aload_n 0, 1) := by decide +kernel
theorem dX1_init_27 : decode cX1_init 27 = .ok (.new 9, 3) := by decide +kernel
theorem dX1_init_30 : decode cX1_init 30 = .ok (.dup, 1) := by decide +kernel
theorem dX1_init_31 : decode cX1_init 31 = .ok (.invokespecial 11, 3) := by decide +kernel
theorem dX1_init_34 : decode cX1_init 34 = .ok (.putfield 21, 3) := by decide +kernel
theorem dX1_init_37 : decode cX1_init 37 = .ok (.return_, 1) := by decide +kernel
theorem dX1_countWays_0 : decode cX1_countWays 0 = .ok (.aload_n 0, 1) := by decide +kernel
theorem dX1_countWays_1 : decode cX1_countWays 1 = .ok (.aload_n 1, 1) := by decide +kernel
theorem dX1_countWays_2 : decode cX1_countWays 2 = .ok (.invokevirtual 24, 3) := by decide +kernel
theorem dX1_countWays_5 : decode cX1_countWays 5 = .ok (.iconst 0, 1) := by decide +kernel
theorem dX1_countWays_6 : decode cX1_countWays 6 = .ok (.istore_n 2, 1) := by decide +kernel
theorem dX1_countWays_7 : decode cX1_countWays 7 = .ok (.iload_n 2, 1) := by decide +kernel
theorem dX1_countWays_8 : decode cX1_countWays 8 = .ok (.aload_n 1, 1) := by decide +kernel
theorem dX1_countWays_9 : decode cX1_countWays 9 = .ok (.getfield 28, 3) := by decide +kernel
theorem dX1_countWays_12 : decode cX1_countWays 12 = .ok (.getfield 34, 3) := by decide +kernel
theorem dX1_countWays_15 : decode cX1_countWays 15 = .ok (.if_icmp .gt 56, 3) := by decide +kernel
theorem dX1_countWays_18 : decode cX1_countWays 18 = .ok (.iconst 0, 1) := by decide +kernel
theorem dX1_countWays_19 : decode cX1_countWays 19 = .ok (.istore_n 3, 1) := by decide +kernel
theorem dX1_countWays_20 : decode cX1_countWays 20 = .ok (.iload_n 3, 1) := by decide +kernel
theorem dX1_countWays_21 : decode cX1_countWays 21 = .ok (.aload_n 1, 1) := by decide +kernel
theorem dX1_countWays_22 : decode cX1_countWays 22 = .ok (.getfield 40, 3) := by decide +kernel
theorem dX1_countWays_25 : decode cX1_countWays 25 = .ok (.getfield 34, 3) := by decide +kernel
theorem dX1_countWays_28 : decode cX1_countWays 28 = .ok (.if_icmp .gt 37, 3) := by decide +kernel
theorem dX1_countWays_31 : decode cX1_countWays 31 = .ok (.aload_n 0, 1) := by decide +kernel
theorem dX1_countWays_32 : decode cX1_countWays 32 = .ok (.getfield 21, 3) := by decide +kernel
theorem dX1_countWays_35 : decode cX1_countWays 35 = .ok (.iload_n 2, 1) := by decide +kernel
theorem dX1_countWays_36 : decode cX1_countWays 36 = .ok (.iload_n 3, 1) := by decide +kernel
theorem dX1_countWays_37 : decode cX1_countWays 37 = .ok (.iload_n 2, 1) := by decide +kernel
theorem dX1_countWays_38 : decode cX1_countWays 38 = .ok (.ifCond .ne 11, 3) := by decide +kernel
theorem dX1_countWays_41 : decode cX1_countWays 41 = .ok (.iload_n 3, 1) := by decide +kernel
theorem dX1_countWays_42 : decode cX1_countWays 42 = .ok (.ifCond .ne 7, 3) := by decide +kernel
theorem dX1_countWays_45 : decode cX1_countWays 45 = .ok (.lconst 1, 1) := by decide +kernel
theorem dX1_countWays_46 : decode cX1_countWays 46 = .ok (.goto 10, 3) := by decide +kernel
theorem dX1_countWays_49 : decode cX1_countWays 49 = .ok (.aload_n 0, 1) := by decide +kernel
theorem dX1_countWays_50 : decode cX1_countWays 50 = .ok (.aload_n 1, 1) := by decide +kernel
theorem dX1_countWays_51 : decode cX1_countWays 51 = .ok (.iload_n 2, 1) := by decide +kernel
theorem dX1_countWays_52 : decode cX1_countWays 52 = .ok (.iload_n 3, 1) := by decide +kernel
theorem dX1_countWays_53 : decode cX1_countWays 53 = .ok (.invokevirtual 43, 3) := by decide +kernel
theorem dX1_countWays_56 : decode cX1_countWays 56 = .ok (.invokevirtual 47, 3) := by decide +kernel
theorem dX1_countWays_59 : decode cX1_countWays 59 = .ok (.iinc 3 1, 3) := by decide +kernel
theorem dX1_countWays_62 : decode cX1_countWays 62 = .ok (.goto (-42), 3) := by decide +kernel
theorem dX1_countWays_65 : decode cX1_countWays 65 = .ok (.iinc 2 1, 3) := by decide +kernel
theorem dX1_countWays_68 : decode cX1_countWays 68 = .ok (.goto (-61), 3) := by decide +kernel
theorem dX1_countWays_71 : decode cX1_countWays 71 = .ok (.aload_n 0, 1) := by decide +kernel
theorem dX1_countWays_72 : decode cX1_countWays 72 = .ok (.getfield 21, 3) := by decide +kernel
theorem dX1_countWays_75 : decode cX1_countWays 75 = .ok (.aload_n 1, 1) := by decide +kernel
theorem dX1_countWays_76 : decode cX1_countWays 76 = .ok (.getfield 28, 3) := by decide +kernel
theorem dX1_countWays_79 : decode cX1_countWays 79 = .ok (.getfield 34, 3) := by decide +kernel
theorem dX1_countWays_82 : decode cX1_countWays 82 = .ok (.aload_n 1, 1) := by decide +kernel
theorem dX1_countWays_83 : decode cX1_countWays 83 = .ok (.getfield 40, 3) := by decide +kernel
theorem dX1_countWays_86 : decode cX1_countWays 86 = .ok (.getfield 34, 3) := by decide +kernel
theorem dX1_countWays_89 : decode cX1_countWays 89 = .ok (.invokevirtual 51, 3) := by decide +kernel
theorem dX1_countWays_92 : decode cX1_countWays 92 = .ok (.lreturn, 1) := by decide +kernel
theorem dX1_findBest_0 : decode cX1_findBest 0 = .ok (.aload_n 0, 1) := by decide +kernel
theorem dX1_findBest_1 : decode cX1_findBest 1 = .ok (.aload_n 1, 1) := by decide +kernel
theorem dX1_findBest_2 : decode cX1_findBest 2 = .ok (.invokevirtual 24, 3) := by decide +kernel
theorem dX1_findBest_5 : decode cX1_findBest 5 = .ok (.aload_n 0, 1) := by decide +kernel
theorem dX1_findBest_6 : decode cX1_findBest 6 = .ok (.aload_n 1, 1) := by decide +kernel
theorem dX1_findBest_7 : decode cX1_findBest 7 = .ok (.invokevirtual 55, 3) := by decide +kernel
theorem dX1_findBest_10 : decode cX1_findBest 10 = .ok (.aload_n 0, 1) := by decide +kernel
theorem dX1_findBest_11 : decode cX1_findBest 11 = .ok (.aload_n 0, 1) := by decide +kernel
theorem dX1_findBest_12 : decode cX1_findBest 12 = .ok (.getfield 12, 3) := by decide +kernel
theorem dX1_findBest_15 : decode cX1_findBest 15 = .ok (.aload_n 1, 1) := by decide +kernel
theorem dX1_findBest_16 : decode cX1_findBest 16 = .ok (.getfield 28, 3) := by decide +kernel
theorem dX1_findBest_19 : decode cX1_findBest 19 = .ok (.getfield 34, 3) := by decide +kernel
theorem dX1_findBest_22 : decode cX1_findBest 22 = .ok (.aload_n 1, 1) := by decide +kernel
theorem dX1_findBest_23 : decode cX1_findBest 23 = .ok (.getfield 40, 3) := by decide +kernel
theorem dX1_findBest_26 : decode cX1_findBest 26 = .ok (.getfield 34, 3) := by decide +kernel
theorem dX1_findBest_29 : decode cX1_findBest 29 = .ok (.invokevirtual 51, 3) := by decide +kernel
theorem dX1_findBest_32 : decode cX1_findBest 32 = .ok (.l2i, 1) := by decide +kernel
theorem dX1_findBest_33 : decode cX1_findBest 33 = .ok (.putfield 58, 3) := by decide +kernel
theorem dX1_findBest_36 : decode cX1_findBest 36 = .ok (.aload_n 0, 1) := by decide +kernel
theorem dX1_findBest_37 : decode cX1_findBest 37 = .ok (.iconst (-1), 1) := by decide +kernel
theorem dX1_findBest_38 : decode cX1_findBest 38 = .ok (.putfield 61, 3) := by decide +kernel
theorem dX1_findBest_41 : decode cX1_findBest 41 = .ok (.aload_n 0, 1) := by decide +kernel
theorem dX1_findBest_42 : decode cX1_findBest 42 = .ok (.iconst (-1), 1) := by decide +kernel
theorem dX1_findBest_43 : decode cX1_findBest 43 = .ok (.putfield 64, 3) := by decide +kernel
theorem dX1_findBest_46 : decode cX1_findBest 46 = .ok (.iconst 0, 1) := by decide +kernel
theorem dX1_findBest_47 : decode cX1_findBest 47 = .ok (.istore_n 2, 1) := by decide +kernel
theorem dX1_findBest_48 : decode cX1_findBest 48 = .ok (.iload_n 2, 1) := by decide +kernel
theorem dX1_findBest_49 : decode cX1_findBest 49 = .ok (.aload_n 1, 1) := by decide +kernel
theorem dX1_findBest_50 : decode cX1_findBest 50 = .ok (.getfield 28, 3) := by decide +kernel
theorem dX1_findBest_53 : decode cX1_findBest 53 = .ok (.getfield 34, 3) := by decide +kernel
theorem dX1_findBest_56 : decode cX1_findBest 56 = .ok (.if_icmp .ge 57, 3) := by decide +kernel
theorem dX1_findBest_59 : decode cX1_findBest 59 = .ok (.iconst 0, 1) := by decide +kernel
theorem dX1_findBest_60 : decode cX1_findBest 60 = .ok (.istore_n 3, 1) := by decide +kernel
theorem dX1_findBest_61 : decode cX1_findBest 61 = .ok (.iload_n 3, 1) := by decide +kernel
theorem dX1_findBest_62 : decode cX1_findBest 62 = .ok (.bipush 8, 2) := by decide +kernel
theorem dX1_findBest_64 : decode cX1_findBest 64 = .ok (.if_icmp .ge 43, 3) := by decide +kernel
theorem dX1_findBest_67 : decode cX1_findBest 67 = .ok (.aload_n 0, 1) := by decide +kernel
theorem dX1_findBest_68 : decode cX1_findBest 68 = .ok (.aload_n 1, 1) := by decide +kernel
theorem dX1_findBest_69 : decode cX1_findBest 69 = .ok (.iload_n 2, 1) := by decide +kernel
theorem dX1_findBest_70 : decode cX1_findBest 70 = .ok (.iload_n 3, 1) := by decide +kernel
theorem dX1_findBest_71 : decode cX1_findBest 71 = .ok (.invokevirtual 67, 3) := by decide +kernel
theorem dX1_findBest_74 : decode cX1_findBest 74 = .ok (.istore 4, 2) := by decide +kernel
theorem dX1_findBest_76 : decode cX1_findBest 76 = .ok (.iload 4, 2) := by decide +kernel
theorem dX1_findBest_78 : decode cX1_findBest 78 = .ok (.aload_n 0, 1) := by decide +kernel
theorem dX1_findBest_79 : decode cX1_findBest 79 = .ok (.getfield 58, 3) := by decide +kernel
theorem dX1_findBest_82 : decode cX1_findBest 82 = .ok (.if_icmp .le 19, 3) := by decide +kernel
theorem dX1_findBest_85 : decode cX1_findBest 85 = .ok (.aload_n 0, 1) := by decide +kernel
theorem dX1_findBest_86 : decode cX1_findBest 86 = .ok (.iload 4, 2) := by decide +kernel
theorem dX1_findBest_88 : decode cX1_findBest 88 = .ok (.putfield 58, 3) := by decide +kernel
theorem dX1_findBest_91 : decode cX1_findBest 91 = .ok (.aload_n 0, 1) := by decide +kernel
theorem dX1_findBest_92 : decode cX1_findBest 92 = .ok (.iload_n 2, 1) := by decide +kernel
theorem dX1_findBest_93 : decode cX1_findBest 93 = .ok (.putfield 61, 3) := by decide +kernel
theorem dX1_findBest_96 : decode cX1_findBest 96 = .ok (.aload_n 0, 1) := by decide +kernel
theorem dX1_findBest_97 : decode cX1_findBest 97 = .ok (.iload_n 3, 1) := by decide +kernel
theorem dX1_findBest_98 : decode cX1_findBest 98 = .ok (.putfield 64, 3) := by decide +kernel
theorem dX1_findBest_101 : decode cX1_findBest 101 = .ok (.iinc 3 1, 3) := by decide +kernel
theorem dX1_findBest_104 : decode cX1_findBest 104 = .ok (.goto (-43), 3) := by decide +kernel
theorem dX1_findBest_107 : decode cX1_findBest 107 = .ok (.iinc 2 1, 3) := by decide +kernel
theorem dX1_findBest_110 : decode cX1_findBest 110 = .ok (.goto (-62), 3) := by decide +kernel
theorem dX1_findBest_113 : decode cX1_findBest 113 = .ok (.return_, 1) := by decide +kernel
theorem dX1_fillBeginnings_0 : decode cX1_fillBeginnings 0 = .ok (.iconst 0, 1) := by decide +kernel
theorem dX1_fillBeginnings_1 : decode cX1_fillBeginnings 1 = .ok (.istore_n 2, 1) := by decide +kernel
theorem dX1_fillBeginnings_2 : decode cX1_fillBeginnings 2 = .ok (.iload_n 2, 1) := by decide +kernel
theorem dX1_fillBeginnings_3 : decode cX1_fillBeginnings 3 = .ok (.aload_n 1, 1) := by decide +kernel
theorem dX1_fillBeginnings_4 : decode cX1_fillBeginnings 4 = .ok (.getfield 28, 3) := by decide +kernel
theorem dX1_fillBeginnings_7 : decode cX1_fillBeginnings 7 = .ok (.getfield 34, 3) := by decide +kernel
theorem dX1_fillBeginnings_10 : decode cX1_fillBeginnings 10 = .ok (.if_icmp .gt 93, 3) := by decide +kernel
theorem dX1_fillBeginnings_13 : decode cX1_fillBeginnings 13 = .ok (.iconst 0, 1) := by decide +kernel
theorem dX1_fillBeginnings_14 : decode cX1_fillBeginnings 14 = .ok (.istore_n 3, 1) := by decide +kernel
theorem dX1_fillBeginnings_15 : decode cX1_fillBeginnings 15 = .ok (.iload_n 3, 1) := by decide +kernel
theorem dX1_fillBeginnings_16 : decode cX1_fillBeginnings 16 = .ok (.aload_n 1, 1) := by decide +kernel
theorem dX1_fillBeginnings_17 : decode cX1_fillBeginnings 17 = .ok (.getfield 40, 3) := by decide +kernel
theorem dX1_fillBeginnings_20 : decode cX1_fillBeginnings 20 = .ok (.getfield 34, 3) := by decide +kernel
theorem dX1_fillBeginnings_23 : decode cX1_fillBeginnings 23 = .ok (.if_icmp .gt 74, 3) := by decide +kernel
theorem dX1_fillBeginnings_26 : decode cX1_fillBeginnings 26 = .ok (.aload_n 0, 1) := by decide +kernel
theorem dX1_fillBeginnings_27 : decode cX1_fillBeginnings 27 = .ok (.getfield 12, 3) := by decide +kernel
theorem dX1_fillBeginnings_30 : decode cX1_fillBeginnings 30 = .ok (.iload_n 2, 1) := by decide +kernel
theorem dX1_fillBeginnings_31 : decode cX1_fillBeginnings 31 = .ok (.iload_n 3, 1) := by decide +kernel
theorem dX1_fillBeginnings_32 : decode cX1_fillBeginnings 32 = .ok (.aload_n 1, 1) := by decide +kernel
theorem dX1_fillBeginnings_33 : decode cX1_fillBeginnings 33 = .ok (.iload_n 2, 1) := by decide +kernel
theorem dX1_fillBeginnings_34 : decode cX1_fillBeginnings 34 = .ok (.iconst 1, 1) := by decide +kernel
theorem dX1_fillBeginnings_35 : decode cX1_fillBeginnings 35 = .ok (.isub, 1) := by decide +kernel
theorem dX1_fillBeginnings_36 : decode cX1_fillBeginnings 36 = .ok (.iload_n 3, 1) := by decide +kernel
theorem dX1_fillBeginnings_37 : decode cX1_fillBeginnings 37 = .ok (.iconst 1, 1) := by decide +kernel
theorem dX1_fillBeginnings_38 : decode cX1_fillBeginnings 38 = .ok (.isub, 1) := by decide +kernel
theorem dX1_fillBeginnings_39 : decode cX1_fillBeginnings 39 = .ok (.invokevirtual 71, 3) := by decide +kernel
theorem dX1_fillBeginnings_42 : decode cX1_fillBeginnings 42 = .ok (.ifCond .eq 21, 3) := by decide +kernel
theorem dX1_fillBeginnings_45 : decode cX1_fillBeginnings 45 = .ok (.aload_n 0, 1) := by decide +kernel
theorem dX1_fillBeginnings_46 : decode cX1_fillBeginnings 46 = .ok (.getfield 12, 3) := by decide +kernel
theorem dX1_fillBeginnings_49 : decode cX1_fillBeginnings 49 = .ok (.iload_n 2, 1) := by decide +kernel
theorem dX1_fillBeginnings_50 : decode cX1_fillBeginnings 50 = .ok (.iconst 1, 1) := by decide +kernel
theorem dX1_fillBeginnings_51 : decode cX1_fillBeginnings 51 = .ok (.isub, 1) := by decide +kernel
theorem dX1_fillBeginnings_52 : decode cX1_fillBeginnings 52 = .ok (.iload_n 3, 1) := by decide +kernel
theorem dX1_fillBeginnings_53 : decode cX1_fillBeginnings 53 = .ok (.iconst 1, 1) := by decide +kernel
theorem dX1_fillBeginnings_54 : decode cX1_fillBeginnings 54 = .ok (.isub, 1) := by decide +kernel
theorem dX1_fillBeginnings_55 : decode cX1_fillBeginnings 55 = .ok (.invokevirtual 51, 3) := by decide +kernel
theorem dX1_fillBeginnings_58 : decode cX1_fillBeginnings 58 = .ok (.lconst 1, 1) := by decide +kernel
theorem dX1_fillBeginnings_59 : decode cX1_fillBeginnings 59 = .ok (.ladd, 1) := by decide +kernel
theorem dX1_fillBeginnings_60 : decode cX1_fillBeginnings 60 = .ok (.goto 28, 3) := by decide +kernel
theorem dX1_fillBeginnings_63 : decode cX1_fillBeginnings 63 = .ok (.aload_n 0, 1) := by decide +kernel
theorem dX1_fillBeginnings_64 : decode cX1_fillBeginnings 64 = .ok (.getfield 12, 3) := by decide +kernel
theorem dX1_fillBeginnings_67 : decode cX1_fillBeginnings 67 = .ok (.iload_n 2, 1) := by decide +kernel
theorem dX1_fillBeginnings_68 : decode cX1_fillBeginnings 68 = .ok (.iconst 1, 1) := by decide +kernel
theorem dX1_fillBeginnings_69 : decode cX1_fillBeginnings 69 = .ok (.isub, 1) := by decide +kernel
theorem dX1_fillBeginnings_70 : decode cX1_fillBeginnings 70 = .ok (.iload_n 3, 1) := by decide +kernel
theorem dX1_fillBeginnings_71 : decode cX1_fillBeginnings 71 = .ok (.invokevirtual 51, 3) := by decide +kernel
theorem dX1_fillBeginnings_74 : decode cX1_fillBeginnings 74 = .ok (.aload_n 0, 1) := by decide +kernel
theorem dX1_fillBeginnings_75 : decode cX1_fillBeginnings 75 = .ok (.getfield 12, 3) := by decide +kernel
theorem dX1_fillBeginnings_78 : decode cX1_fillBeginnings 78 = .ok (.iload_n 2, 1) := by decide +kernel
theorem dX1_fillBeginnings_79 : decode cX1_fillBeginnings 79 = .ok (.iload_n 3, 1) := by decide +kernel
theorem dX1_fillBeginnings_80 : decode cX1_fillBeginnings 80 = .ok (.iconst 1, 1) := by decide +kernel
theorem dX1_fillBeginnings_81 : decode cX1_fillBeginnings 81 = .ok (.isub, 1) := by decide +kernel
theorem dX1_fillBeginnings_82 : decode cX1_fillBeginnings 82 = .ok (.invokevirtual 51, 3) := by decide +kernel
theorem dX1_fillBeginnings_85 : decode cX1_fillBeginnings 85 = .ok (.invokestatic 75, 3) := by decide +kernel
theorem dX1_fillBeginnings_88 : decode cX1_fillBeginnings 88 = .ok (.invokevirtual 47, 3) := by decide +kernel
theorem dX1_fillBeginnings_91 : decode cX1_fillBeginnings 91 = .ok (.iinc 3 1, 3) := by decide +kernel
theorem dX1_fillBeginnings_94 : decode cX1_fillBeginnings 94 = .ok (.goto (-79), 3) := by decide +kernel
theorem dX1_fillBeginnings_97 : decode cX1_fillBeginnings 97 = .ok (.iinc 2 1, 3) := by decide +kernel
theorem dX1_fillBeginnings_100 : decode cX1_fillBeginnings 100 = .ok (.goto (-98), 3) := by decide +kernel
theorem dX1_fillBeginnings_103 : decode cX1_fillBeginnings 103 = .ok (.return_, 1) := by decide +kernel
theorem dX1_fillEnds_0 : decode cX1_fillEnds 0 = .ok (.aload_n 1, 1) := by decide +kernel
theorem dX1_fillEnds_1 : decode cX1_fillEnds 1 = .ok (.getfield 28, 3) := by decide +kernel
theorem dX1_fillEnds_4 : decode cX1_fillEnds 4 = .ok (.getfield 34, 3) := by decide +kernel
theorem dX1_fillEnds_7 : decode cX1_fillEnds 7 = .ok (.istore_n 2, 1) := by decide +kernel
theorem dX1_fillEnds_8 : decode cX1_fillEnds 8 = .ok (.iload_n 2, 1) := by decide +kernel
theorem dX1_fillEnds_9 : decode cX1_fillEnds 9 = .ok (.ifCond .lt 43, 3) := by decide +kernel
theorem dX1_fillEnds_12 : decode cX1_fillEnds 12 = .ok (.aload_n 1, 1) := by decide +kernel
theorem dX1_fillEnds_13 : decode cX1_fillEnds 13 = .ok (.getfield 40, 3) := by decide +kernel
theorem dX1_fillEnds_16 : decode cX1_fillEnds 16 = .ok (.getfield 34, 3) := by decide +kernel
theorem dX1_fillEnds_19 : decode cX1_fillEnds 19 = .ok (.istore_n 3, 1) := by decide +kernel
theorem dX1_fillEnds_20 : decode cX1_fillEnds 20 = .ok (.iload_n 3, 1) := by decide +kernel
theorem dX1_fillEnds_21 : decode cX1_fillEnds 21 = .ok (.ifCond .lt 25, 3) := by decide +kernel
theorem dX1_fillEnds_24 : decode cX1_fillEnds 24 = .ok (.aload_n 0, 1) := by decide +kernel
theorem dX1_fillEnds_25 : decode cX1_fillEnds 25 = .ok (.getfield 18, 3) := by decide +kernel
theorem dX1_fillEnds_28 : decode cX1_fillEnds 28 = .ok (.iload_n 2, 1) := by decide +kernel
theorem dX1_fillEnds_29 : decode cX1_fillEnds 29 = .ok (.iload_n 3, 1) := by decide +kernel
theorem dX1_fillEnds_30 : decode cX1_fillEnds 30 = .ok (.aload_n 0, 1) := by decide +kernel
theorem dX1_fillEnds_31 : decode cX1_fillEnds 31 = .ok (.aload_n 1, 1) := by decide +kernel
theorem dX1_fillEnds_32 : decode cX1_fillEnds 32 = .ok (.iload_n 2, 1) := by decide +kernel
theorem dX1_fillEnds_33 : decode cX1_fillEnds 33 = .ok (.iload_n 3, 1) := by decide +kernel
theorem dX1_fillEnds_34 : decode cX1_fillEnds 34 = .ok (.invokevirtual 81, 3) := by decide +kernel
theorem dX1_fillEnds_37 : decode cX1_fillEnds 37 = .ok (.invokevirtual 47, 3) := by decide +kernel
theorem dX1_fillEnds_40 : decode cX1_fillEnds 40 = .ok (.iinc 3 (-1), 3) := by decide +kernel
theorem dX1_fillEnds_43 : decode cX1_fillEnds 43 = .ok (.goto (-23), 3) := by decide +kernel
theorem dX1_fillEnds_46 : decode cX1_fillEnds 46 = .ok (.iinc 2 (-1), 3) := by decide +kernel
theorem dX1_fillEnds_49 : decode cX1_fillEnds 49 = .ok (.goto (-41), 3) := by decide +kernel
theorem dX1_fillEnds_52 : decode cX1_fillEnds 52 = .ok (.return_, 1) := by decide +kernel
theorem dX1_commonOfEnds_0 : decode cX1_commonOfEnds 0 = .ok (.iload_n 2, 1) := by decide +kernel
theorem dX1_commonOfEnds_1 : decode cX1_commonOfEnds 1 = .ok (.aload_n 1, 1) := by decide +kernel
theorem dX1_commonOfEnds_2 : decode cX1_commonOfEnds 2 = .ok (.getfield 28, 3) := by decide +kernel
theorem dX1_commonOfEnds_5 : decode cX1_commonOfEnds 5 = .ok (.getfield 34, 3) := by decide +kernel
theorem dX1_commonOfEnds_8 : decode cX1_commonOfEnds 8 = .ok (.if_icmp .ge 14, 3) := by decide +kernel
theorem dX1_commonOfEnds_11 : decode cX1_commonOfEnds 11 = .ok (.iload_n 3, 1) := by decide +kernel
theorem dX1_commonOfEnds_12 : decode cX1_commonOfEnds 12 = .ok (.aload_n 1, 1) := by decide +kernel
theorem dX1_commonOfEnds_13 : decode cX1_commonOfEnds 13 = .ok (.getfield 40, 3) := by decide +kernel
theorem dX1_commonOfEnds_16 : decode cX1_commonOfEnds 16 = .ok (.getfield 34, 3) := by decide +kernel
theorem dX1_commonOfEnds_19 : decode cX1_commonOfEnds 19 = .ok (.if_icmp .lt 5, 3) := by decide +kernel
theorem dX1_commonOfEnds_22 : decode cX1_commonOfEnds 22 = .ok (.lconst 0, 1) := by decide +kernel
theorem dX1_commonOfEnds_23 : decode cX1_commonOfEnds 23 = .ok (.lreturn, 1) := by decide +kernel
theorem dX1_commonOfEnds_24 : decode cX1_commonOfEnds 24 = .ok (.aload_n 1, 1) := by decide +kernel
theorem dX1_commonOfEnds_25 : decode cX1_commonOfEnds 25 = .ok (.iload_n 2, 1) := by decide +kernel
theorem dX1_commonOfEnds_26 : decode cX1_commonOfEnds 26 = .ok (.iload_n 3, 1) := by decide +kernel
theorem dX1_commonOfEnds_27 : decode cX1_commonOfEnds 27 = .ok (.invokevirtual 71, 3) := by decide +kernel
theorem dX1_commonOfEnds_30 : decode cX1_commonOfEnds 30 = .ok (.ifCond .eq 21, 3) := by decide +kernel
theorem dX1_commonOfEnds_33 : decode cX1_commonOfEnds 33 = .ok (.aload_n 0, 1) := by decide +kernel
theorem dX1_commonOfEnds_34 : decode cX1_commonOfEnds 34 = .ok (.getfield 18, 3) := by decide +kernel
theorem dX1_commonOfEnds_37 : decode cX1_commonOfEnds 37 = .ok (.iload_n 2, 1) := by decide +kernel
theorem dX1_commonOfEnds_38 : decode cX1_commonOfEnds 38 = .ok (.iconst 1, 1) := by decide +kernel
theorem dX1_commonOfEnds_39 : decode cX1_commonOfEnds 39 = .ok (.iadd, 1) := by decide +kernel
theorem dX1_commonOfEnds_40 : decode cX1_commonOfEnds 40 = .ok (.iload_n 3, 1) := by decide +kernel
theorem dX1_commonOfEnds_41 : decode cX1_commonOfEnds 41 = .ok (.iconst 1, 1) := by decide +kernel
theorem dX1_commonOfEnds_42 : decode cX1_commonOfEnds 42 = .ok (.iadd, 1) := by decide +kernel
theorem dX1_commonOfEnds_43 : decode cX1_commonOfEnds 43 = .ok (.invokevirtual 51, 3) := by decide +kernel
theorem dX1_commonOfEnds_46 : decode cX1_commonOfEnds 46 = .ok (.lconst 1, 1) := by decide +kernel
theorem dX1_commonOfEnds_47 : decode cX1_commonOfEnds 47 = .ok (.ladd, 1) := by decide +kernel
theorem dX1_commonOfEnds_48 : decode cX1_commonOfEnds 48 = .ok (.goto 28, 3) := by decide +kernel
theorem dX1_commonOfEnds_51 : decode cX1_commonOfEnds 51 = .ok (.aload_n 0, 1) := by decide +kernel
theorem dX1_commonOfEnds_52 : decode cX1_commonOfEnds 52 = .ok (.getfield 18, 3) := by decide +kernel
theorem dX1_commonOfEnds_55 : decode cX1_commonOfEnds 55 = .ok (.iload_n 2, 1) := by decide +kernel
theorem dX1_commonOfEnds_56 : decode cX1_commonOfEnds 56 = .ok (.iconst 1, 1) := by decide +kernel
theorem dX1_commonOfEnds_57 : decode cX1_commonOfEnds 57 = .ok (.iadd, 1) := by decide +kernel
theorem dX1_commonOfEnds_58 : decode cX1_commonOfEnds 58 = .ok (.iload_n 3, 1) := by decide +kernel
theorem dX1_commonOfEnds_59 : decode cX1_commonOfEnds 59 = .ok (.invokevirtual 51, 3) := by decide +kernel
theorem dX1_commonOfEnds_62 : decode cX1_commonOfEnds 62 = .ok (.aload_n 0, 1) := by decide +kernel
theorem dX1_commonOfEnds_63 : decode cX1_commonOfEnds 63 = .ok (.getfield 18, 3) := by decide +kernel
theorem dX1_commonOfEnds_66 : decode cX1_commonOfEnds 66 = .ok (.iload_n 2, 1) := by decide +kernel
theorem dX1_commonOfEnds_67 : decode cX1_commonOfEnds 67 = .ok (.iload_n 3, 1) := by decide +kernel
theorem dX1_commonOfEnds_68 : decode cX1_commonOfEnds 68 = .ok (.iconst 1, 1) := by decide +kernel
theorem dX1_commonOfEnds_69 : decode cX1_commonOfEnds 69 = .ok (.iadd, 1) := by decide +kernel
theorem dX1_commonOfEnds_70 : decode cX1_commonOfEnds 70 = .ok (.invokevirtual 51, 3) := by decide +kernel
theorem dX1_commonOfEnds_73 : decode cX1_commonOfEnds 73 = .ok (.invokestatic 75, 3) := by decide +kernel
theorem dX1_commonOfEnds_76 : decode cX1_commonOfEnds 76 = .ok (.lreturn, 1) := by decide +kernel
theorem dX1_waysTo_0 : decode cX1_waysTo 0 = .ok (.aload_n 0, 1) := by decide +kernel
theorem dX1_waysTo_1 : decode cX1_waysTo 1 = .ok (.getfield 12, 3) := by decide +kernel
theorem dX1_waysTo_4 : decode cX1_waysTo 4 = .ok (.iload_n 2, 1) := by decide +kernel
theorem dX1_waysTo_5 : decode cX1_waysTo 5 = .ok (.iload_n 3, 1) := by decide +kernel
theorem dX1_waysTo_6 : decode cX1_waysTo 6 = .ok (.invokevirtual 51, 3) := by decide +kernel
theorem dX1_waysTo_9 : decode cX1_waysTo 9 = .ok (.lstore 4, 2) := by decide +kernel
theorem dX1_waysTo_11 : decode cX1_waysTo 11 = .ok (.lconst 0, 1) := by decide +kernel
theorem dX1_waysTo_12 : decode cX1_waysTo 12 = .ok (.lstore 6, 2) := by decide +kernel
theorem dX1_waysTo_14 : decode cX1_waysTo 14 = .ok (.aload_n 0, 1) := by decide +kernel
theorem dX1_waysTo_15 : decode cX1_waysTo 15 = .ok (.getfield 12, 3) := by decide +kernel
theorem dX1_waysTo_18 : decode cX1_waysTo 18 = .ok (.iload_n 2, 1) := by decide +kernel
theorem dX1_waysTo_19 : decode cX1_waysTo 19 = .ok (.iconst 1, 1) := by decide +kernel
theorem dX1_waysTo_20 : decode cX1_waysTo 20 = .ok (.isub, 1) := by decide +kernel
theorem dX1_waysTo_21 : decode cX1_waysTo 21 = .ok (.iload_n 3, 1) := by decide +kernel
theorem dX1_waysTo_22 : decode cX1_waysTo 22 = .ok (.invokevirtual 51, 3) := by decide +kernel
theorem dX1_waysTo_25 : decode cX1_waysTo 25 = .ok (.lload 4, 2) := by decide +kernel
theorem dX1_waysTo_27 : decode cX1_waysTo 27 = .ok (.lcmp, 1) := by decide +kernel
theorem dX1_waysTo_28 : decode cX1_waysTo 28 = .ok (.ifCond .ne 19, 3) := by decide +kernel
theorem dX1_waysTo_31 : decode cX1_waysTo 31 = .ok (.lload 6, 2) := by decide +kernel
theorem dX1_waysTo_33 : decode cX1_waysTo 33 = .ok (.aload_n 0, 1) := by decide +kernel
theorem dX1_waysTo_34 : decode cX1_waysTo 34 = .ok (.getfield 21, 3) := by decide +kernel
theorem dX1_waysTo_37 : decode cX1_waysTo 37 = .ok (.iload_n 2, 1) := by decide +kernel
theorem dX1_waysTo_38 : decode cX1_waysTo 38 = .ok (.iconst 1, 1) := by decide +kernel
theorem dX1_waysTo_39 : decode cX1_waysTo 39 = .ok (.isub, 1) := by decide +kernel
theorem dX1_waysTo_40 : decode cX1_waysTo 40 = .ok (.iload_n 3, 1) := by decide +kernel
theorem dX1_waysTo_41 : decode cX1_waysTo 41 = .ok (.invokevirtual 51, 3) := by decide +kernel
theorem dX1_waysTo_44 : decode cX1_waysTo 44 = .ok (.ladd, 1) := by decide +kernel
theorem dX1_waysTo_45 : decode cX1_waysTo 45 = .ok (.lstore 6, 2) := by decide +kernel
theorem dX1_waysTo_47 : decode cX1_waysTo 47 = .ok (.aload_n 0, 1) := by decide +kernel
theorem dX1_waysTo_48 : decode cX1_waysTo 48 = .ok (.getfield 12, 3) := by decide +kernel
theorem dX1_waysTo_51 : decode cX1_waysTo 51 = .ok (.iload_n 2, 1) := by decide +kernel
theorem dX1_waysTo_52 : decode cX1_waysTo 52 = .ok (.iload_n 3, 1) := by decide +kernel
theorem dX1_waysTo_53 : decode cX1_waysTo 53 = .ok (.iconst 1, 1) := by decide +kernel
theorem dX1_waysTo_54 : decode cX1_waysTo 54 = .ok (.isub, 1) := by decide +kernel
theorem dX1_waysTo_55 : decode cX1_waysTo 55 = .ok (.invokevirtual 51, 3) := by decide +kernel
theorem dX1_waysTo_58 : decode cX1_waysTo 58 = .ok (.lload 4, 2) := by decide +kernel
theorem dX1_waysTo_60 : decode cX1_waysTo 60 = .ok (.lcmp, 1) := by decide +kernel
theorem dX1_waysTo_61 : decode cX1_waysTo 61 = .ok (.ifCond .ne 19, 3) := by decide +kernel
theorem dX1_waysTo_64 : decode cX1_waysTo 64 = .ok (.lload 6, 2) := by decide +kernel
theorem dX1_waysTo_66 : decode cX1_waysTo 66 = .ok (.aload_n 0, 1) := by decide +kernel
theorem dX1_waysTo_67 : decode cX1_waysTo 67 = .ok (.getfield 21, 3) := by decide +kernel
theorem dX1_waysTo_70 : decode cX1_waysTo 70 = .ok (.iload_n 2, 1) := by decide +kernel
theorem dX1_waysTo_71 : decode cX1_waysTo 71 = .ok (.iload_n 3, 1) := by decide +kernel
theorem dX1_waysTo_72 : decode cX1_waysTo 72 = .ok (.iconst 1, 1) := by decide +kernel
theorem dX1_waysTo_73 : decode cX1_waysTo 73 = .ok (.isub, 1) := by decide +kernel
theorem dX1_waysTo_74 : decode cX1_waysTo 74 = .ok (.invokevirtual 51, 3) := by decide +kernel
theorem dX1_waysTo_77 : decode cX1_waysTo 77 = .ok (.ladd, 1) := by decide +kernel
theorem dX1_waysTo_78 : decode cX1_waysTo 78 = .ok (.lstore 6, 2) := by decide +kernel
theorem dX1_waysTo_80 : decode cX1_waysTo 80 = .ok (.aload_n 1, 1) := by decide +kernel
theorem dX1_waysTo_81 : decode cX1_waysTo 81 = .ok (.iload_n 2, 1) := by decide +kernel
theorem dX1_waysTo_82 : decode cX1_waysTo 82 = .ok (.iconst 1, 1) := by decide +kernel
theorem dX1_waysTo_83 : decode cX1_waysTo 83 = .ok (.isub, 1) := by decide +kernel
theorem dX1_waysTo_84 : decode cX1_waysTo 84 = .ok (.iload_n 3, 1) := by decide +kernel
theorem dX1_waysTo_85 : decode cX1_waysTo 85 = .ok (.iconst 1, 1) := by decide +kernel
theorem dX1_waysTo_86 : decode cX1_waysTo 86 = .ok (.isub, 1) := by decide +kernel
theorem dX1_waysTo_87 : decode cX1_waysTo 87 = .ok (.invokevirtual 71, 3) := by decide +kernel
theorem dX1_waysTo_90 : decode cX1_waysTo 90 = .ok (.ifCond .eq 21, 3) := by decide +kernel
theorem dX1_waysTo_93 : decode cX1_waysTo 93 = .ok (.lload 6, 2) := by decide +kernel
theorem dX1_waysTo_95 : decode cX1_waysTo 95 = .ok (.aload_n 0, 1) := by decide +kernel
theorem dX1_waysTo_96 : decode cX1_waysTo 96 = .ok (.getfield 21, 3) := by decide +kernel
theorem dX1_waysTo_99 : decode cX1_waysTo 99 = .ok (.iload_n 2, 1) := by decide +kernel
theorem dX1_waysTo_100 : decode cX1_waysTo 100 = .ok (.iconst 1, 1) := by decide +kernel
theorem dX1_waysTo_101 : decode cX1_waysTo 101 = .ok (.isub, 1) := by decide +kernel
theorem dX1_waysTo_102 : decode cX1_waysTo 102 = .ok (.iload_n 3, 1) := by decide +kernel
theorem dX1_waysTo_103 : decode cX1_waysTo 103 = .ok (.iconst 1, 1) := by decide +kernel
theorem dX1_waysTo_104 : decode cX1_waysTo 104 = .ok (.isub, 1) := by decide +kernel
theorem dX1_waysTo_105 : decode cX1_waysTo 105 = .ok (.invokevirtual 51, 3) := by decide +kernel
theorem dX1_waysTo_108 : decode cX1_waysTo 108 = .ok (.ladd, 1) := by decide +kernel
theorem dX1_waysTo_109 : decode cX1_waysTo 109 = .ok (.lstore 6, 2) := by decide +kernel
theorem dX1_waysTo_111 : decode cX1_waysTo 111 = .ok (.lload 6, 2) := by decide +kernel
theorem dX1_waysTo_113 : decode cX1_waysTo 113 = .ok (.lreturn, 1) := by decide +kernel
theorem dX1_commonWith_0 : decode cX1_commonWith 0 = .ok (.lconst 0, 1) := by decide +kernel
theorem dX1_commonWith_1 : decode cX1_commonWith 1 = .ok (.lstore 4, 2) := by decide +kernel
theorem dX1_commonWith_3 : decode cX1_commonWith 3 = .ok (.iconst 0, 1) := by decide +kernel
theorem dX1_commonWith_4 : decode cX1_commonWith 4 = .ok (.istore 6, 2) := by decide +kernel
theorem dX1_commonWith_6 : decode cX1_commonWith 6 = .ok (.iload 6, 2) := by decide +kernel
theorem dX1_commonWith_8 : decode cX1_commonWith 8 = .ok (.aload_n 1, 1) := by decide +kernel
theorem dX1_commonWith_9 : decode cX1_commonWith 9 = .ok (.getfield 40, 3) := by decide +kernel
theorem dX1_commonWith_12 : decode cX1_commonWith 12 = .ok (.getfield 34, 3) := by decide +kernel
theorem dX1_commonWith_15 : decode cX1_commonWith 15 = .ok (.if_icmp .ge 56, 3) := by decide +kernel
theorem dX1_commonWith_18 : decode cX1_commonWith 18 = .ok (.aload_n 1, 1) := by decide +kernel
theorem dX1_commonWith_19 : decode cX1_commonWith 19 = .ok (.getfield 40, 3) := by decide +kernel
theorem dX1_commonWith_22 : decode cX1_commonWith 22 = .ok (.iload 6, 2) := by decide +kernel
theorem dX1_commonWith_24 : decode cX1_commonWith 24 = .ok (.invokevirtual 84, 3) := by decide +kernel
theorem dX1_commonWith_27 : decode cX1_commonWith 27 = .ok (.iload_n 3, 1) := by decide +kernel
theorem dX1_commonWith_28 : decode cX1_commonWith 28 = .ok (.if_icmp .ne 37, 3) := by decide +kernel
theorem dX1_commonWith_31 : decode cX1_commonWith 31 = .ok (.lload 4, 2) := by decide +kernel
theorem dX1_commonWith_33 : decode cX1_commonWith 33 = .ok (.aload_n 0, 1) := by decide +kernel
theorem dX1_commonWith_34 : decode cX1_commonWith 34 = .ok (.getfield 12, 3) := by decide +kernel
theorem dX1_commonWith_37 : decode cX1_commonWith 37 = .ok (.iload_n 2, 1) := by decide +kernel
theorem dX1_commonWith_38 : decode cX1_commonWith 38 = .ok (.iload 6, 2) := by decide +kernel
theorem dX1_commonWith_40 : decode cX1_commonWith 40 = .ok (.invokevirtual 51, 3) := by decide +kernel
theorem dX1_commonWith_43 : decode cX1_commonWith 43 = .ok (.lconst 1, 1) := by decide +kernel
theorem dX1_commonWith_44 : decode cX1_commonWith 44 = .ok (.ladd, 1) := by decide +kernel
theorem dX1_commonWith_45 : decode cX1_commonWith 45 = .ok (.aload_n 0, 1) := by decide +kernel
theorem dX1_commonWith_46 : decode cX1_commonWith 46 = .ok (.getfield 18, 3) := by decide +kernel
theorem dX1_commonWith_49 : decode cX1_commonWith 49 = .ok (.iload_n 2, 1) := by decide +kernel
theorem dX1_commonWith_50 : decode cX1_commonWith 50 = .ok (.iconst 1, 1) := by decide +kernel
theorem dX1_commonWith_51 : decode cX1_commonWith 51 = .ok (.iadd, 1) := by decide +kernel
theorem dX1_commonWith_52 : decode cX1_commonWith 52 = .ok (.iload 6, 2) := by decide +kernel
theorem dX1_commonWith_54 : decode cX1_commonWith 54 = .ok (.iconst 1, 1) := by decide +kernel
theorem dX1_commonWith_55 : decode cX1_commonWith 55 = .ok (.iadd, 1) := by decide +kernel
theorem dX1_commonWith_56 : decode cX1_commonWith 56 = .ok (.invokevirtual 51, 3) := by decide +kernel
theorem dX1_commonWith_59 : decode cX1_commonWith 59 = .ok (.ladd, 1) := by decide +kernel
theorem dX1_commonWith_60 : decode cX1_commonWith 60 = .ok (.invokestatic 75, 3) := by decide +kernel
theorem dX1_commonWith_63 : decode cX1_commonWith 63 = .ok (.lstore 4, 2) := by decide +kernel
theorem dX1_commonWith_65 : decode cX1_commonWith 65 = .ok (.iinc 6 1, 3) := by decide +kernel
theorem dX1_commonWith_68 : decode cX1_commonWith 68 = .ok (.goto (-62), 3) := by decide +kernel
theorem dX1_commonWith_71 : decode cX1_commonWith 71 = .ok (.lload 4, 2) := by decide +kernel
theorem dX1_commonWith_73 : decode cX1_commonWith 73 = .ok (.l2i, 1) := by decide +kernel
theorem dX1_commonWith_74 : decode cX1_commonWith 74 = .ok (.ireturn, 1) := by decide +kernel
theorem dX2_init_0 : decode cX2_init 0 = .ok (.aload_n 0, 1) := by decide +kernel
theorem dX2_init_1 : decode cX2_init 1 = .ok (.invokespecial 3, 3) := by decide +kernel
theorem dX2_init_4 : decode cX2_init 4 = .ok (.aload_n 0, 1) := by decide +kernel
theorem dX2_init_5 : decode cX2_init 5 = .ok (.sipush 841, 3) := by decide +kernel
theorem dX2_init_8 : decode cX2_init 8 = .ok (.newarray .long, 2) := by decide +kernel
theorem dX2_init_10 : decode cX2_init 10 = .ok (.putfield 9, 3) := by decide +kernel
theorem dX2_init_13 : decode cX2_init 13 = .ok (.return_, 1) := by decide +kernel
theorem dX2_at_0 : decode cX2_at 0 = .ok (.iload_n 1, 1) := by decide +kernel
theorem dX2_at_1 : decode cX2_at 1 = .ok (.iload_n 2, 1) := by decide +kernel
theorem dX2_at_2 : decode cX2_at 2 = .ok (.invokestatic 15, 3) := by decide +kernel
theorem dX2_at_5 : decode cX2_at 5 = .ok (.ifCond .eq 17, 3) := by decide +kernel
theorem dX2_at_8 : decode cX2_at 8 = .ok (.aload_n 0, 1) := by decide +kernel
theorem dX2_at_9 : decode cX2_at 9 = .ok (.getfield 9, 3) := by decide +kernel
theorem dX2_at_12 : decode cX2_at 12 = .ok (.iload_n 1, 1) := by decide +kernel
theorem dX2_at_13 : decode cX2_at 13 = .ok (.bipush 29, 2) := by decide +kernel
theorem dX2_at_15 : decode cX2_at 15 = .ok (.imul, 1) := by decide +kernel
theorem dX2_at_16 : decode cX2_at 16 = .ok (.iload_n 2, 1) := by decide +kernel
theorem dX2_at_17 : decode cX2_at 17 = .ok (.iadd, 1) := by decide +kernel
theorem dX2_at_18 : decode cX2_at 18 = .ok (.laload, 1) := by decide +kernel
theorem dX2_at_19 : decode cX2_at 19 = .ok (.goto 4, 3) := by decide +kernel
theorem dX2_at_22 : decode cX2_at 22 = .ok (.lconst 0, 1) := by decide +kernel
theorem dX2_at_23 : decode cX2_at 23 = .ok (.lreturn, 1) := by decide +kernel
theorem dX2_put_0 : decode cX2_put 0 = .ok (.iload_n 1, 1) := by decide +kernel
theorem dX2_put_1 : decode cX2_put 1 = .ok (.iload_n 2, 1) := by decide +kernel
theorem dX2_put_2 : decode cX2_put 2 = .ok (.invokestatic 15, 3) := by decide +kernel
theorem dX2_put_5 : decode cX2_put 5 = .ok (.ifCond .eq 15, 3) := by decide +kernel
theorem dX2_put_8 : decode cX2_put 8 = .ok (.aload_n 0, 1) := by decide +kernel
theorem dX2_put_9 : decode cX2_put 9 = .ok (.getfield 9, 3) := by decide +kernel
theorem dX2_put_12 : decode cX2_put 12 = .ok (.iload_n 1, 1) := by decide +kernel
theorem dX2_put_13 : decode cX2_put 13 = .ok (.bipush 29, 2) := by decide +kernel
theorem dX2_put_15 : decode cX2_put 15 = .ok (.imul, 1) := by decide +kernel
theorem dX2_put_16 : decode cX2_put 16 = .ok (.iload_n 2, 1) := by decide +kernel
theorem dX2_put_17 : decode cX2_put 17 = .ok (.iadd, 1) := by decide +kernel
theorem dX2_put_18 : decode cX2_put 18 = .ok (.lload_n 3, 1) := by decide +kernel
theorem dX2_put_19 : decode cX2_put 19 = .ok (.lastore, 1) := by decide +kernel
theorem dX2_put_20 : decode cX2_put 20 = .ok (.return_, 1) := by decide +kernel
theorem dX2_isInside_0 : decode cX2_isInside 0 = .ok (.iload_n 0, 1) := by decide +kernel
theorem dX2_isInside_1 : decode cX2_isInside 1 = .ok (.iconst 0, 1) := by decide +kernel
theorem dX2_isInside_2 : decode cX2_isInside 2 = .ok (.bipush 28, 2) := by decide +kernel
theorem dX2_isInside_4 : decode cX2_isInside 4 = .ok (.invokestatic 19, 3) := by decide +kernel
theorem dX2_isInside_7 : decode cX2_isInside 7 = .ok (.ifCond .eq 17, 3) := by decide +kernel
theorem dX2_isInside_10 : decode cX2_isInside 10 = .ok (.iload_n 1, 1) := by decide +kernel
theorem dX2_isInside_11 : decode cX2_isInside 11 = .ok (.iconst 0, 1) := by decide +kernel
theorem dX2_isInside_12 : decode cX2_isInside 12 = .ok (.bipush 28, 2) := by decide +kernel
theorem dX2_isInside_14 : decode cX2_isInside 14 = .ok (.invokestatic 19, 3) := by decide +kernel
theorem dX2_isInside_17 : decode cX2_isInside 17 = .ok (.ifCond .eq 7, 3) := by decide +kernel
theorem dX2_isInside_20 : decode cX2_isInside 20 = .ok (.iconst 1, 1) := by decide +kernel
theorem dX2_isInside_21 : decode cX2_isInside 21 = .ok (.goto 4, 3) := by decide +kernel
theorem dX2_isInside_24 : decode cX2_isInside 24 = .ok (.iconst 0, 1) := by decide +kernel
theorem dX2_isInside_25 : decode cX2_isInside 25 = .ok (.ireturn, 1) := by decide +kernel
theorem dX3_init_0 : decode cX3_init 0 = .ok (.aload_n 0, 1) := by decide +kernel
theorem dX3_init_1 : decode cX3_init 1 = .ok (.invokespecial 3, 3) := by decide +kernel
theorem dX3_init_4 : decode cX3_init 4 = .ok (.aload_n 0, 1) := by decide +kernel
theorem dX3_init_5 : decode cX3_init 5 = .ok (.iconst 4, 1) := by decide +kernel
theorem dX3_init_6 : decode cX3_init 6 = .ok (.anewarray 9, 3) := by decide +kernel
theorem dX3_init_9 : decode cX3_init 9 = .ok (.putfield 11, 3) := by decide +kernel
theorem dX3_init_12 : decode cX3_init 12 = .ok (.iconst 0, 1) := by decide +kernel
theorem dX3_init_13 : decode cX3_init 13 = .ok (.istore_n 1, 1) := by decide +kernel
theorem dX3_init_14 : decode cX3_init 14 = .ok (.iload_n 1, 1) := by decide +kernel
theorem dX3_init_15 : decode cX3_init 15 = .ok (.iconst 4, 1) := by decide +kernel
theorem dX3_init_16 : decode cX3_init 16 = .ok (.if_icmp .ge 22, 3) := by decide +kernel
theorem dX3_init_19 : decode cX3_init 19 = .ok (.aload_n 0, 1) := by decide +kernel
theorem dX3_init_20 : decode cX3_init 20 = .ok (.getfield 11, 3) := by decide +kernel
theorem dX3_init_23 : decode cX3_init 23 = .ok (.iload_n 1, 1) := by decide +kernel
theorem dX3_init_24 : decode cX3_init 24 = .ok (.new 9, 3) := by decide +kernel
theorem dX3_init_27 : decode cX3_init 27 = .ok (.dup, 1) := by decide +kernel
theorem dX3_init_28 : decode cX3_init 28 = .ok (.invokespecial 17, 3) := by decide +kernel
theorem dX3_init_31 : decode cX3_init 31 = .ok (.aastore, 1) := by decide +kernel
theorem dX3_init_32 : decode cX3_init 32 = .ok (.iinc 1 1, 3) := by decide +kernel
theorem dX3_init_35 : decode cX3_init 35 = .ok (.goto (-21), 3) := by decide +kernel
theorem dX3_init_38 : decode cX3_init 38 = .ok (.return_, 1) := by decide +kernel
theorem dX3_record_0 : decode cX3_record 0 = .ok (.aload_n 0, 1) := by decide +kernel
theorem dX3_record_1 : decode cX3_record 1 = .ok (.getfield 18, 3) := by decide +kernel
theorem dX3_record_4 : decode cX3_record 4 = .ok (.iconst 4, 1) := by decide +kernel
theorem dX3_record_5 : decode cX3_record 5 = .ok (.if_icmp .lt 7, 3) := by decide +kernel
theorem dX3_record_8 : decode cX3_record 8 = .ok (.aload_n 0, 1) := by decide +kernel
theorem dX3_record_9 : decode cX3_record 9 = .ok (.invokevirtual 22, 3) := by decide +kernel
theorem dX3_record_12 : decode cX3_record 12 = .ok (.aload_n 0, 1) := by decide +kernel
theorem dX3_record_13 : decode cX3_record 13 = .ok (.getfield 18, 3) := by decide +kernel
theorem dX3_record_16 : decode cX3_record 16 = .ok (.ifCond .lt 34, 3) := by decide +kernel
theorem dX3_record_19 : decode cX3_record 19 = .ok (.aload_n 0, 1) := by decide +kernel
theorem dX3_record_20 : decode cX3_record 20 = .ok (.getfield 18, 3) := by decide +kernel
theorem dX3_record_23 : decode cX3_record 23 = .ok (.iconst 4, 1) := by decide +kernel
theorem dX3_record_24 : decode cX3_record 24 = .ok (.if_icmp .ge 26, 3) := by decide +kernel
theorem dX3_record_27 : decode cX3_record 27 = .ok (.aload_n 0, 1) := by decide +kernel
theorem dX3_record_28 : decode cX3_record 28 = .ok (.getfield 11, 3) := by decide +kernel
theorem dX3_record_31 : decode cX3_record 31 = .ok (.aload_n 0, 1) := by decide +kernel
theorem dX3_record_32 : decode cX3_record 32 = .ok (.getfield 18, 3) := by decide +kernel
theorem dX3_record_35 : decode cX3_record 35 = .ok (.aaload, 1) := by decide +kernel
theorem dX3_record_36 : decode cX3_record 36 = .ok (.aload_n 1, 1) := by decide +kernel
theorem dX3_record_37 : decode cX3_record 37 = .ok (.invokevirtual 25, 3) := by decide +kernel
theorem dX3_record_40 : decode cX3_record 40 = .ok (.aload_n 0, 1) := by decide +kernel
theorem dX3_record_41 : decode cX3_record 41 = .ok (.dup, 1) := by decide +kernel
theorem dX3_record_42 : decode cX3_record 42 = .ok (.getfield 18, 3) := by decide +kernel
theorem dX3_record_45 : decode cX3_record 45 = .ok (.iconst 1, 1) := by decide +kernel
theorem dX3_record_46 : decode cX3_record 46 = .ok (.iadd, 1) := by decide +kernel
theorem dX3_record_47 : decode cX3_record 47 = .ok (.putfield 18, 3) := by decide +kernel
theorem dX3_record_50 : decode cX3_record 50 = .ok (.return_, 1) := by decide +kernel
theorem dX3_restoreTo_0 : decode cX3_restoreTo 0 = .ok (.aload_n 0, 1) := by decide +kernel
theorem dX3_restoreTo_1 : decode cX3_restoreTo 1 = .ok (.getfield 18, 3) := by decide +kernel
theorem dX3_restoreTo_4 : decode cX3_restoreTo 4 = .ok (.ifCond .le 34, 3) := by decide +kernel
theorem dX3_restoreTo_7 : decode cX3_restoreTo 7 = .ok (.aload_n 0, 1) := by decide +kernel
theorem dX3_restoreTo_8 : decode cX3_restoreTo 8 = .ok (.getfield 18, 3) := by decide +kernel
theorem dX3_restoreTo_11 : decode cX3_restoreTo 11 = .ok (.iconst 4, 1) := by decide +kernel
theorem dX3_restoreTo_12 : decode cX3_restoreTo 12 = .ok (.if_icmp .gt 26, 3) := by decide +kernel
theorem dX3_restoreTo_15 : decode cX3_restoreTo 15 = .ok (.aload_n 0, 1) := by decide +kernel
theorem dX3_restoreTo_16 : decode cX3_restoreTo 16 = .ok (.dup, 1) := by decide +kernel
theorem dX3_restoreTo_17 : decode cX3_restoreTo 17 = .ok (.getfield 18, 3) := by decide +kernel
theorem dX3_restoreTo_20 : decode cX3_restoreTo 20 = .ok (.iconst 1, 1) := by decide +kernel
theorem dX3_restoreTo_21 : decode cX3_restoreTo 21 = .ok (.isub, 1) := by decide +kernel
theorem dX3_restoreTo_22 : decode cX3_restoreTo 22 = .ok (.putfield 18, 3) := by decide +kernel
theorem dX3_restoreTo_25 : decode cX3_restoreTo 25 = .ok (.aload_n 1, 1) := by decide +kernel
theorem dX3_restoreTo_26 : decode cX3_restoreTo 26 = .ok (.aload_n 0, 1) := by decide +kernel
theorem dX3_restoreTo_27 : decode cX3_restoreTo 27 = .ok (.getfield 11, 3) := by decide +kernel
theorem dX3_restoreTo_30 : decode cX3_restoreTo 30 = .ok (.aload_n 0, 1) := by decide +kernel
theorem dX3_restoreTo_31 : decode cX3_restoreTo 31 = .ok (.getfield 18, 3) := by decide +kernel
theorem dX3_restoreTo_34 : decode cX3_restoreTo 34 = .ok (.aaload, 1) := by decide +kernel
theorem dX3_restoreTo_35 : decode cX3_restoreTo 35 = .ok (.invokevirtual 25, 3) := by decide +kernel
theorem dX3_restoreTo_38 : decode cX3_restoreTo 38 = .ok (.return_, 1) := by decide +kernel
theorem dX3_dropOldest_0 : decode cX3_dropOldest 0 = .ok (.aload_n 0, 1) := by decide +kernel
theorem dX3_dropOldest_1 : decode cX3_dropOldest 1 = .ok (.getfield 11, 3) := by decide +kernel
theorem dX3_dropOldest_4 : decode cX3_dropOldest 4 = .ok (.iconst 0, 1) := by decide +kernel
theorem dX3_dropOldest_5 : decode cX3_dropOldest 5 = .ok (.aaload, 1) := by decide +kernel
theorem dX3_dropOldest_6 : decode cX3_dropOldest 6 = .ok (.astore_n 1, 1) := by decide +kernel
theorem dX3_dropOldest_7 : decode cX3_dropOldest 7 = .ok (.iconst 1, 1) := by decide +kernel
theorem dX3_dropOldest_8 : decode cX3_dropOldest 8 = .ok (.istore_n 2, 1) := by decide +kernel
theorem dX3_dropOldest_9 : decode cX3_dropOldest 9 = .ok (.iload_n 2, 1) := by decide +kernel
theorem dX3_dropOldest_10 : decode cX3_dropOldest 10 = .ok (.iconst 4, 1) := by decide +kernel
theorem dX3_dropOldest_11 : decode cX3_dropOldest 11 = .ok (.if_icmp .ge 23, 3) := by decide +kernel
theorem dX3_dropOldest_14 : decode cX3_dropOldest 14 = .ok (.aload_n 0, 1) := by decide +kernel
theorem dX3_dropOldest_15 : decode cX3_dropOldest 15 = .ok (.getfield 11, 3) := by decide +kernel
theorem dX3_dropOldest_18 : decode cX3_dropOldest 18 = .ok (.iload_n 2, 1) := by decide +kernel
theorem dX3_dropOldest_19 : decode cX3_dropOldest 19 = .ok (.iconst 1, 1) := by decide +kernel
theorem dX3_dropOldest_20 : decode cX3_dropOldest 20 = .ok (.isub, 1) := by decide +kernel
theorem dX3_dropOldest_21 : decode cX3_dropOldest 21 = .ok (.aload_n 0, 1) := by decide +kernel
theorem dX3_dropOldest_22 : decode cX3_dropOldest 22 = .ok (.getfield 11, 3) := by decide +kernel
theorem dX3_dropOldest_25 : decode cX3_dropOldest 25 = .ok (.iload_n 2, 1) := by decide +kernel
theorem dX3_dropOldest_26 : decode cX3_dropOldest 26 = .ok (.aaload, 1) := by decide +kernel
theorem dX3_dropOldest_27 : decode cX3_dropOldest 27 = .ok (.aastore, 1) := by decide +kernel
theorem dX3_dropOldest_28 : decode cX3_dropOldest 28 = .ok (.iinc 2 1, 3) := by decide +kernel
theorem dX3_dropOldest_31 : decode cX3_dropOldest 31 = .ok (.goto (-22), 3) := by decide +kernel
theorem dX3_dropOldest_34 : decode cX3_dropOldest 34 = .ok (.aload_n 0, 1) := by decide +kernel
theorem dX3_dropOldest_35 : decode cX3_dropOldest 35 = .ok (.getfield 11, 3) := by decide +kernel
theorem dX3_dropOldest_38 : decode cX3_dropOldest 38 = .ok (.iconst 3, 1) := by decide +kernel
theorem dX3_dropOldest_39 : decode cX3_dropOldest 39 = .ok (.aload_n 1, 1) := by decide +kernel
theorem dX3_dropOldest_40 : decode cX3_dropOldest 40 = .ok (.aastore, 1) := by decide +kernel
theorem dX3_dropOldest_41 : decode cX3_dropOldest 41 = .ok (.aload_n 0, 1) := by decide +kernel
theorem dX3_dropOldest_42 : decode cX3_dropOldest 42 = .ok (.iconst 3, 1) := by decide +kernel
theorem dX3_dropOldest_43 : decode cX3_dropOldest 43 = .ok (.putfield 18, 3) := by decide +kernel
theorem dX3_dropOldest_46 : decode cX3_dropOldest 46 = .ok (.return_, 1) := by decide +kernel
theorem dX4_init_0 : decode cX4_init 0 = .ok (.aload_n 0, 1) := by decide +kernel
theorem dX4_init_1 : decode cX4_init 1 = .ok (.invokespecial 3, 3) := by decide +kernel
theorem dX4_init_4 : decode cX4_init 4 = .ok (.aload_n 0, 1) := by decide +kernel
theorem dX4_init_5 : decode cX4_init 5 = .ok (.bipush 56, 2) := by decide +kernel
theorem dX4_init_7 : decode cX4_init 7 = .ok (.newarray .int, 2) := by decide +kernel
theorem dX4_init_9 : decode cX4_init 9 = .ok (.putfield 9, 3) := by decide +kernel
theorem dX4_init_12 : decode cX4_init 12 = .ok (.aload_n 0, 1) := by decide +kernel
theorem dX4_init_13 : decode cX4_init 13 = .ok (.bipush 56, 2) := by decide +kernel
theorem dX4_init_15 : decode cX4_init 15 = .ok (.newarray .int, 2) := by decide +kernel
theorem dX4_init_17 : decode cX4_init 17 = .ok (.putfield 15, 3) := by decide +kernel
theorem dX4_init_20 : decode cX4_init 20 = .ok (.aload_n 0, 1) := by decide +kernel
theorem dX4_init_21 : decode cX4_init 21 = .ok (.bipush 56, 2) := by decide +kernel
theorem dX4_init_23 : decode cX4_init 23 = .ok (.newarray .int, 2) := by decide +kernel
theorem dX4_init_25 : decode cX4_init 25 = .ok (.putfield 18, 3) := by decide +kernel
theorem dX4_init_28 : decode cX4_init 28 = .ok (.return_, 1) := by decide +kernel
theorem dX4_find_0 : decode cX4_find 0 = .ok (.aload_n 0, 1) := by decide +kernel
theorem dX4_find_1 : decode cX4_find 1 = .ok (.iconst 0, 1) := by decide +kernel
theorem dX4_find_2 : decode cX4_find 2 = .ok (.putfield 21, 3) := by decide +kernel
theorem dX4_find_5 : decode cX4_find 5 = .ok (.iconst (-1), 1) := by decide +kernel
theorem dX4_find_6 : decode cX4_find 6 = .ok (.istore_n 3, 1) := by decide +kernel
theorem dX4_find_7 : decode cX4_find 7 = .ok (.iconst 0, 1) := by decide +kernel
theorem dX4_find_8 : decode cX4_find 8 = .ok (.istore 4, 2) := by decide +kernel
theorem dX4_find_10 : decode cX4_find 10 = .ok (.iload 4, 2) := by decide +kernel
theorem dX4_find_12 : decode cX4_find 12 = .ok (.aload_n 1, 1) := by decide +kernel
theorem dX4_find_13 : decode cX4_find 13 = .ok (.getfield 25, 3) := by decide +kernel
theorem dX4_find_16 : decode cX4_find 16 = .ok (.if_icmp .ge 69, 3) := by decide +kernel
theorem dX4_find_19 : decode cX4_find 19 = .ok (.aload_n 1, 1) := by decide +kernel
theorem dX4_find_20 : decode cX4_find 20 = .ok (.iload 4, 2) := by decide +kernel
theorem dX4_find_22 : decode cX4_find 22 = .ok (.invokevirtual 30, 3) := by decide +kernel
theorem dX4_find_25 : decode cX4_find 25 = .ok (.ifCond .eq 54, 3) := by decide +kernel
theorem dX4_find_28 : decode cX4_find 28 = .ok (.aload_n 0, 1) := by decide +kernel
theorem dX4_find_29 : decode cX4_find 29 = .ok (.getfield 21, 3) := by decide +kernel
theorem dX4_find_32 : decode cX4_find 32 = .ok (.ifCond .eq 15, 3) := by decide +kernel
theorem dX4_find_35 : decode cX4_find 35 = .ok (.iload 4, 2) := by decide +kernel
theorem dX4_find_37 : decode cX4_find 37 = .ok (.iload_n 3, 1) := by decide +kernel
theorem dX4_find_38 : decode cX4_find 38 = .ok (.isub, 1) := by decide +kernel
theorem dX4_find_39 : decode cX4_find 39 = .ok (.iconst 1, 1) := by decide +kernel
theorem dX4_find_40 : decode cX4_find 40 = .ok (.isub, 1) := by decide +kernel
theorem dX4_find_41 : decode cX4_find 41 = .ok (.iconst 2, 1) := by decide +kernel
theorem dX4_find_42 : decode cX4_find 42 = .ok (.iload_n 2, 1) := by decide +kernel
theorem dX4_find_43 : decode cX4_find 43 = .ok (.imul, 1) := by decide +kernel
theorem dX4_find_44 : decode cX4_find 44 = .ok (.if_icmp .le 15, 3) := by decide +kernel
theorem dX4_find_47 : decode cX4_find 47 = .ok (.aload_n 0, 1) := by decide +kernel
theorem dX4_find_48 : decode cX4_find 48 = .ok (.iload 4, 2) := by decide +kernel
theorem dX4_find_50 : decode cX4_find 50 = .ok (.iload_n 2, 1) := by decide +kernel
theorem dX4_find_51 : decode cX4_find 51 = .ok (.isub, 1) := by decide +kernel
theorem dX4_find_52 : decode cX4_find 52 = .ok (.iconst 0, 1) := by decide +kernel
theorem dX4_find_53 : decode cX4_find 53 = .ok (.invokestatic 34, 3) := by decide +kernel
theorem dX4_find_56 : decode cX4_find 56 = .ok (.invokevirtual 40, 3) := by decide +kernel
theorem dX4_find_59 : decode cX4_find 59 = .ok (.iload 4, 2) := by decide +kernel
theorem dX4_find_61 : decode cX4_find 61 = .ok (.istore_n 3, 1) := by decide +kernel
theorem dX4_find_62 : decode cX4_find 62 = .ok (.aload_n 0, 1) := by decide +kernel
theorem dX4_find_63 : decode cX4_find 63 = .ok (.iload 4, 2) := by decide +kernel
theorem dX4_find_65 : decode cX4_find 65 = .ok (.iconst 1, 1) := by decide +kernel
theorem dX4_find_66 : decode cX4_find 66 = .ok (.iadd, 1) := by decide +kernel
theorem dX4_find_67 : decode cX4_find 67 = .ok (.iload_n 2, 1) := by decide +kernel
theorem dX4_find_68 : decode cX4_find 68 = .ok (.iadd, 1) := by decide +kernel
theorem dX4_find_69 : decode cX4_find 69 = .ok (.aload_n 1, 1) := by decide +kernel
theorem dX4_find_70 : decode cX4_find 70 = .ok (.getfield 25, 3) := by decide +kernel
theorem dX4_find_73 : decode cX4_find 73 = .ok (.invokestatic 44, 3) := by decide +kernel
theorem dX4_find_76 : decode cX4_find 76 = .ok (.invokevirtual 47, 3) := by decide +kernel
theorem dX4_find_79 : decode cX4_find 79 = .ok (.iinc 4 1, 3) := by decide +kernel
theorem dX4_find_82 : decode cX4_find 82 = .ok (.goto (-72), 3) := by decide +kernel
theorem dX4_find_85 : decode cX4_find 85 = .ok (.return_, 1) := by decide +kernel
theorem dX4_beginOf_0 : decode cX4_beginOf 0 = .ok (.iload_n 1, 1) := by decide +kernel
theorem dX4_beginOf_1 : decode cX4_beginOf 1 = .ok (.ifCond .lt 29, 3) := by decide +kernel
theorem dX4_beginOf_4 : decode cX4_beginOf 4 = .ok (.iload_n 1, 1) := by decide +kernel
theorem dX4_beginOf_5 : decode cX4_beginOf 5 = .ok (.aload_n 0, 1) := by decide +kernel
theorem dX4_beginOf_6 : decode cX4_beginOf 6 = .ok (.getfield 21, 3) := by decide +kernel
theorem dX4_beginOf_9 : decode cX4_beginOf 9 = .ok (.if_icmp .ge 21, 3) := by decide +kernel
theorem dX4_beginOf_12 : decode cX4_beginOf 12 = .ok (.iload_n 1, 1) := by decide +kernel
theorem dX4_beginOf_13 : decode cX4_beginOf 13 = .ok (.aload_n 0, 1) := by decide +kernel
theorem dX4_beginOf_14 : decode cX4_beginOf 14 = .ok (.getfield 9, 3) := by decide +kernel
theorem dX4_beginOf_17 : decode cX4_beginOf 17 = .ok (.arraylength, 1) := by decide +kernel
theorem dX4_beginOf_18 : decode cX4_beginOf 18 = .ok (.if_icmp .ge 12, 3) := by decide +kernel
theorem dX4_beginOf_21 : decode cX4_beginOf 21 = .ok (.aload_n 0, 1) := by decide +kernel
theorem dX4_beginOf_22 : decode cX4_beginOf 22 = .ok (.getfield 9, 3) := by decide +kernel
theorem dX4_beginOf_25 : decode cX4_beginOf 25 = .ok (.iload_n 1, 1) := by decide +kernel
theorem dX4_beginOf_26 : decode cX4_beginOf 26 = .ok (.iaload, 1) := by decide +kernel
theorem dX4_beginOf_27 : decode cX4_beginOf 27 = .ok (.goto 4, 3) := by decide +kernel
theorem dX4_beginOf_30 : decode cX4_beginOf 30 = .ok (.iconst (-1), 1) := by decide +kernel
theorem dX4_beginOf_31 : decode cX4_beginOf 31 = .ok (.ireturn, 1) := by decide +kernel
theorem dX4_endOf_0 : decode cX4_endOf 0 = .ok (.iload_n 1, 1) := by decide +kernel
theorem dX4_endOf_1 : decode cX4_endOf 1 = .ok (.ifCond .lt 29, 3) := by decide +kernel
theorem dX4_endOf_4 : decode cX4_endOf 4 = .ok (.iload_n 1, 1) := by decide +kernel
theorem dX4_endOf_5 : decode cX4_endOf 5 = .ok (.aload_n 0, 1) := by decide +kernel
theorem dX4_endOf_6 : decode cX4_endOf 6 = .ok (.getfield 21, 3) := by decide +kernel
theorem dX4_endOf_9 : decode cX4_endOf 9 = .ok (.if_icmp .ge 21, 3) := by decide +kernel
theorem dX4_endOf_12 : decode cX4_endOf 12 = .ok (.iload_n 1, 1) := by decide +kernel
theorem dX4_endOf_13 : decode cX4_endOf 13 = .ok (.aload_n 0, 1) := by decide +kernel
theorem dX4_endOf_14 : decode cX4_endOf 14 = .ok (.getfield 15, 3) := by decide +kernel
theorem dX4_endOf_17 : decode cX4_endOf 17 = .ok (.arraylength, 1) := by decide +kernel
theorem dX4_endOf_18 : decode cX4_endOf 18 = .ok (.if_icmp .ge 12, 3) := by decide +kernel
theorem dX4_endOf_21 : decode cX4_endOf 21 = .ok (.aload_n 0, 1) := by decide +kernel
theorem dX4_endOf_22 : decode cX4_endOf 22 = .ok (.getfield 15, 3) := by decide +kernel
theorem dX4_endOf_25 : decode cX4_endOf 25 = .ok (.iload_n 1, 1) := by decide +kernel
theorem dX4_endOf_26 : decode cX4_endOf 26 = .ok (.iaload, 1) := by decide +kernel
theorem dX4_endOf_27 : decode cX4_endOf 27 = .ok (.goto 4, 3) := by decide +kernel
theorem dX4_endOf_30 : decode cX4_endOf 30 = .ok (.iconst (-1), 1) := by decide +kernel
theorem dX4_endOf_31 : decode cX4_endOf 31 = .ok (.ireturn, 1) := by decide +kernel
theorem dX4_editsOf_0 : decode cX4_editsOf 0 = .ok (.iload_n 1, 1) := by decide +kernel
theorem dX4_editsOf_1 : decode cX4_editsOf 1 = .ok (.ifCond .lt 29, 3) := by decide +kernel
theorem dX4_editsOf_4 : decode cX4_editsOf 4 = .ok (.iload_n 1, 1) := by decide +kernel
theorem dX4_editsOf_5 : decode cX4_editsOf 5 = .ok (.aload_n 0, 1) := by decide +kernel
theorem dX4_editsOf_6 : decode cX4_editsOf 6 = .ok (.getfield 21, 3) := by decide +kernel
theorem dX4_editsOf_9 : decode cX4_editsOf 9 = .ok (.if_icmp .ge 21, 3) := by decide +kernel
theorem dX4_editsOf_12 : decode cX4_editsOf 12 = .ok (.iload_n 1, 1) := by decide +kernel
theorem dX4_editsOf_13 : decode cX4_editsOf 13 = .ok (.aload_n 0, 1) := by decide +kernel
theorem dX4_editsOf_14 : decode cX4_editsOf 14 = .ok (.getfield 18, 3) := by decide +kernel
theorem dX4_editsOf_17 : decode cX4_editsOf 17 = .ok (.arraylength, 1) := by decide +kernel
theorem dX4_editsOf_18 : decode cX4_editsOf 18 = .ok (.if_icmp .ge 12, 3) := by decide +kernel
theorem dX4_editsOf_21 : decode cX4_editsOf 21 = .ok (.aload_n 0, 1) := by decide +kernel
theorem dX4_editsOf_22 : decode cX4_editsOf 22 = .ok (.getfield 18, 3) := by decide +kernel
theorem dX4_editsOf_25 : decode cX4_editsOf 25 = .ok (.iload_n 1, 1) := by decide +kernel
theorem dX4_editsOf_26 : decode cX4_editsOf 26 = .ok (.iaload, 1) := by decide +kernel
theorem dX4_editsOf_27 : decode cX4_editsOf 27 = .ok (.goto 4, 3) := by decide +kernel
theorem dX4_editsOf_30 : decode cX4_editsOf 30 = .ok (.iconst (-1), 1) := by decide +kernel
theorem dX4_editsOf_31 : decode cX4_editsOf 31 = .ok (.ireturn, 1) := by decide +kernel
theorem dX4_open_0 : decode cX4_open 0 = .ok (.aload_n 0, 1) := by decide +kernel
theorem dX4_open_1 : decode cX4_open 1 = .ok (.getfield 21, 3) := by decide +kernel
theorem dX4_open_4 : decode cX4_open 4 = .ok (.ifCond .lt 57, 3) := by decide +kernel
theorem dX4_open_7 : decode cX4_open 7 = .ok (.aload_n 0, 1) := by decide +kernel
theorem dX4_open_8 : decode cX4_open 8 = .ok (.getfield 21, 3) := by decide +kernel
theorem dX4_open_11 : decode cX4_open 11 = .ok (.aload_n 0, 1) := by decide +kernel
theorem dX4_open_12 : decode cX4_open 12 = .ok (.getfield 9, 3) := by decide +kernel
theorem dX4_open_15 : decode cX4_open 15 = .ok (.arraylength, 1) := by decide +kernel
theorem dX4_open_16 : decode cX4_open 16 = .ok (.if_icmp .ge 45, 3) := by decide +kernel
theorem dX4_open_19 : decode cX4_open 19 = .ok (.aload_n 0, 1) := by decide +kernel
theorem dX4_open_20 : decode cX4_open 20 = .ok (.getfield 21, 3) := by decide +kernel
theorem dX4_open_23 : decode cX4_open 23 = .ok (.aload_n 0, 1) := by decide +kernel
theorem dX4_open_24 : decode cX4_open 24 = .ok (.getfield 18, 3) := by decide +kernel
theorem dX4_open_27 : decode cX4_open 27 = .ok (.arraylength, 1) := by decide +kernel
theorem dX4_open_28 : decode cX4_open 28 = .ok (.if_icmp .ge 33, 3) := by decide +kernel
theorem dX4_open_31 : decode cX4_open 31 = .ok (.aload_n 0, 1) := by decide +kernel
theorem dX4_open_32 : decode cX4_open 32 = .ok (.getfield 9, 3) := by decide +kernel
theorem dX4_open_35 : decode cX4_open 35 = .ok (.aload_n 0, 1) := by decide +kernel
theorem dX4_open_36 : decode cX4_open 36 = .ok (.getfield 21, 3) := by decide +kernel
theorem dX4_open_39 : decode cX4_open 39 = .ok (.iload_n 1, 1) := by decide +kernel
theorem dX4_open_40 : decode cX4_open 40 = .ok (.iastore, 1) := by decide +kernel
theorem dX4_open_41 : decode cX4_open 41 = .ok (.aload_n 0, 1) := by decide +kernel
theorem dX4_open_42 : decode cX4_open 42 = .ok (.getfield 18, 3) := by decide +kernel
theorem dX4_open_45 : decode cX4_open 45 = .ok (.aload_n 0, 1) := by decide +kernel
theorem dX4_open_46 : decode cX4_open 46 = .ok (.getfield 21, 3) := by decide +kernel
theorem dX4_open_49 : decode cX4_open 49 = .ok (.iconst 0, 1) := by decide +kernel
theorem dX4_open_50 : decode cX4_open 50 = .ok (.iastore, 1) := by decide +kernel
theorem dX4_open_51 : decode cX4_open 51 = .ok (.aload_n 0, 1) := by decide +kernel
theorem dX4_open_52 : decode cX4_open 52 = .ok (.dup, 1) := by decide +kernel
theorem dX4_open_53 : decode cX4_open 53 = .ok (.getfield 21, 3) := by decide +kernel
theorem dX4_open_56 : decode cX4_open 56 = .ok (.iconst 1, 1) := by decide +kernel
theorem dX4_open_57 : decode cX4_open 57 = .ok (.iadd, 1) := by decide +kernel
theorem dX4_open_58 : decode cX4_open 58 = .ok (.putfield 21, 3) := by decide +kernel
theorem dX4_open_61 : decode cX4_open 61 = .ok (.return_, 1) := by decide +kernel
theorem dX4_growTo_0 : decode cX4_growTo 0 = .ok (.aload_n 0, 1) := by decide +kernel
theorem dX4_growTo_1 : decode cX4_growTo 1 = .ok (.getfield 21, 3) := by decide +kernel
theorem dX4_growTo_4 : decode cX4_growTo 4 = .ok (.iconst 1, 1) := by decide +kernel
theorem dX4_growTo_5 : decode cX4_growTo 5 = .ok (.isub, 1) := by decide +kernel
theorem dX4_growTo_6 : decode cX4_growTo 6 = .ok (.istore_n 2, 1) := by decide +kernel
theorem dX4_growTo_7 : decode cX4_growTo 7 = .ok (.iload_n 2, 1) := by decide +kernel
theorem dX4_growTo_8 : decode cX4_growTo 8 = .ok (.ifCond .lt 38, 3) := by decide +kernel
theorem dX4_growTo_11 : decode cX4_growTo 11 = .ok (.iload_n 2, 1) := by decide +kernel
theorem dX4_growTo_12 : decode cX4_growTo 12 = .ok (.aload_n 0, 1) := by decide +kernel
theorem dX4_growTo_13 : decode cX4_growTo 13 = .ok (.getfield 15, 3) := by decide +kernel
theorem dX4_growTo_16 : decode cX4_growTo 16 = .ok (.arraylength, 1) := by decide +kernel
theorem dX4_growTo_17 : decode cX4_growTo 17 = .ok (.if_icmp .ge 29, 3) := by decide +kernel
theorem dX4_growTo_20 : decode cX4_growTo 20 = .ok (.iload_n 2, 1) := by decide +kernel
theorem dX4_growTo_21 : decode cX4_growTo 21 = .ok (.aload_n 0, 1) := by decide +kernel
theorem dX4_growTo_22 : decode cX4_growTo 22 = .ok (.getfield 18, 3) := by decide +kernel
theorem dX4_growTo_25 : decode cX4_growTo 25 = .ok (.arraylength, 1) := by decide +kernel
theorem dX4_growTo_26 : decode cX4_growTo 26 = .ok (.if_icmp .ge 20, 3) := by decide +kernel
theorem dX4_growTo_29 : decode cX4_growTo 29 = .ok (.aload_n 0, 1) := by decide +kernel
theorem dX4_growTo_30 : decode cX4_growTo 30 = .ok (.getfield 15, 3) := by decide +kernel
theorem dX4_growTo_33 : decode cX4_growTo 33 = .ok (.iload_n 2, 1) := by decide +kernel
theorem dX4_growTo_34 : decode cX4_growTo 34 = .ok (.iload_n 1, 1) := by decide +kernel
theorem dX4_growTo_35 : decode cX4_growTo 35 = .ok (.iastore, 1) := by decide +kernel
theorem dX4_growTo_36 : decode cX4_growTo 36 = .ok (.aload_n 0, 1) := by decide +kernel
theorem dX4_growTo_37 : decode cX4_growTo 37 = .ok (.getfield 18, 3) := by decide +kernel
theorem dX4_growTo_40 : decode cX4_growTo 40 = .ok (.iload_n 2, 1) := by decide +kernel
theorem dX4_growTo_41 : decode cX4_growTo 41 = .ok (.dup2, 1) := by decide +kernel
theorem dX4_growTo_42 : decode cX4_growTo 42 = .ok (.iaload, 1) := by decide +kernel
theorem dX4_growTo_43 : decode cX4_growTo 43 = .ok (.iconst 1, 1) := by decide +kernel
theorem dX4_growTo_44 : decode cX4_growTo 44 = .ok (.iadd, 1) := by decide +kernel
theorem dX4_growTo_45 : decode cX4_growTo 45 = .ok (.iastore, 1) := by decide +kernel
theorem dX4_growTo_46 : decode cX4_growTo 46 = .ok (.return_, 1) := by decide +kernel
theorem dX5_init_0 : decode cX5_init 0 = .ok (.aload_n 0, 1) := by decide +kernel
theorem dX5_init_1 : decode cX5_init 1 = .ok (.invokespecial 3, 3) := by decide +kernel
theorem dX5_init_4 : decode cX5_init 4 = .ok (.aload_n 0, 1) := by decide +kernel
theorem dX5_init_5 : decode cX5_init 5 = .ok (.sipush 1653, 3) := by decide +kernel
theorem dX5_init_8 : decode cX5_init 8 = .ok (.newarray .int, 2) := by decide +kernel
theorem dX5_init_10 : decode cX5_init 10 = .ok (.putfield 9, 3) := by decide +kernel
theorem dX5_init_13 : decode cX5_init 13 = .ok (.return_, 1) := by decide +kernel
theorem dX5_find_0 : decode cX5_find 0 = .ok (.aload_n 1, 1) := by decide +kernel
theorem dX5_find_1 : decode cX5_find 1 = .ok (.getfield 15, 3) := by decide +kernel
theorem dX5_find_4 : decode cX5_find 4 = .ok (.getfield 21, 3) := by decide +kernel
theorem dX5_find_7 : decode cX5_find 7 = .ok (.aload_n 1, 1) := by decide +kernel
theorem dX5_find_8 : decode cX5_find 8 = .ok (.getfield 27, 3) := by decide +kernel
theorem dX5_find_11 : decode cX5_find 11 = .ok (.getfield 21, 3) := by decide +kernel
theorem dX5_find_14 : decode cX5_find 14 = .ok (.isub, 1) := by decide +kernel
theorem dX5_find_15 : decode cX5_find 15 = .ok (.istore_n 2, 1) := by decide +kernel
theorem dX5_find_16 : decode cX5_find 16 = .ok (.iconst 0, 1) := by decide +kernel
theorem dX5_find_17 : decode cX5_find 17 = .ok (.istore_n 3, 1) := by decide +kernel
theorem dX5_find_18 : decode cX5_find 18 = .ok (.iload_n 3, 1) := by decide +kernel
theorem dX5_find_19 : decode cX5_find 19 = .ok (.bipush 56, 2) := by decide +kernel
theorem dX5_find_21 : decode cX5_find 21 = .ok (.if_icmp .gt 77, 3) := by decide +kernel
theorem dX5_find_24 : decode cX5_find 24 = .ok (.aload_n 0, 1) := by decide +kernel
theorem dX5_find_25 : decode cX5_find 25 = .ok (.iload_n 3, 1) := by decide +kernel
theorem dX5_find_26 : decode cX5_find 26 = .ok (.putfield 30, 3) := by decide +kernel
theorem dX5_find_29 : decode cX5_find 29 = .ok (.iload_n 3, 1) := by decide +kernel
theorem dX5_find_30 : decode cX5_find 30 = .ok (.ineg, 1) := by decide +kernel
theorem dX5_find_31 : decode cX5_find 31 = .ok (.istore 4, 2) := by decide +kernel
theorem dX5_find_33 : decode cX5_find 33 = .ok (.iload 4, 2) := by decide +kernel
theorem dX5_find_35 : decode cX5_find 35 = .ok (.iload_n 3, 1) := by decide +kernel
theorem dX5_find_36 : decode cX5_find 36 = .ok (.if_icmp .gt 39, 3) := by decide +kernel
theorem dX5_find_39 : decode cX5_find 39 = .ok (.aload_n 0, 1) := by decide +kernel
theorem dX5_find_40 : decode cX5_find 40 = .ok (.iload_n 3, 1) := by decide +kernel
theorem dX5_find_41 : decode cX5_find 41 = .ok (.iload 4, 2) := by decide +kernel
theorem dX5_find_43 : decode cX5_find 43 = .ok (.invokevirtual 33, 3) := by decide +kernel
theorem dX5_find_46 : decode cX5_find 46 = .ok (.istore 5, 2) := by decide +kernel
theorem dX5_find_48 : decode cX5_find 48 = .ok (.aload_n 0, 1) := by decide +kernel
theorem dX5_find_49 : decode cX5_find 49 = .ok (.iload_n 3, 1) := by decide +kernel
theorem dX5_find_50 : decode cX5_find 50 = .ok (.iload 4, 2) := by decide +kernel
theorem dX5_find_52 : decode cX5_find 52 = .ok (.iload 5, 2) := by decide +kernel
theorem dX5_find_54 : decode cX5_find 54 = .ok (.aload_n 1, 1) := by decide +kernel
theorem dX5_find_55 : decode cX5_find 55 = .ok (.iload 5, 2) := by decide +kernel
theorem dX5_find_57 : decode cX5_find 57 = .ok (.iload 5, 2) := by decide +kernel
theorem dX5_find_59 : decode cX5_find 59 = .ok (.iload 4, 2) := by decide +kernel
theorem dX5_find_61 : decode cX5_find 61 = .ok (.isub, 1) := by decide +kernel
theorem dX5_find_62 : decode cX5_find 62 = .ok (.invokevirtual 37, 3) := by decide +kernel
theorem dX5_find_65 : decode cX5_find 65 = .ok (.iadd, 1) := by decide +kernel
theorem dX5_find_66 : decode cX5_find 66 = .ok (.invokevirtual 40, 3) := by decide +kernel
theorem dX5_find_69 : decode cX5_find 69 = .ok (.iinc 4 2, 3) := by decide +kernel
theorem dX5_find_72 : decode cX5_find 72 = .ok (.goto (-39), 3) := by decide +kernel
theorem dX5_find_75 : decode cX5_find 75 = .ok (.aload_n 0, 1) := by decide +kernel
theorem dX5_find_76 : decode cX5_find 76 = .ok (.iload_n 3, 1) := by decide +kernel
theorem dX5_find_77 : decode cX5_find 77 = .ok (.iload_n 2, 1) := by decide +kernel
theorem dX5_find_78 : decode cX5_find 78 = .ok (.invokevirtual 44, 3) := by decide +kernel
theorem dX5_find_81 : decode cX5_find 81 = .ok (.aload_n 1, 1) := by decide +kernel
theorem dX5_find_82 : decode cX5_find 82 = .ok (.getfield 15, 3) := by decide +kernel
theorem dX5_find_85 : decode cX5_find 85 = .ok (.getfield 21, 3) := by decide +kernel
theorem dX5_find_88 : decode cX5_find 88 = .ok (.if_icmp .lt 4, 3) := by decide +kernel
theorem dX5_find_91 : decode cX5_find 91 = .ok (.return_, 1) := by decide +kernel
theorem dX5_find_92 : decode cX5_find 92 = .ok (.iinc 3 1, 3) := by decide +kernel
theorem dX5_find_95 : decode cX5_find 95 = .ok (.goto (-77), 3) := by decide +kernel
theorem dX5_find_98 : decode cX5_find 98 = .ok (.return_, 1) := by decide +kernel
theorem dX5_at_0 : decode cX5_at 0 = .ok (.iload_n 1, 1) := by decide +kernel
theorem dX5_at_1 : decode cX5_at 1 = .ok (.iload_n 2, 1) := by decide +kernel
theorem dX5_at_2 : decode cX5_at 2 = .ok (.invokestatic 47, 3) := by decide +kernel
theorem dX5_at_5 : decode cX5_at 5 = .ok (.istore_n 3, 1) := by decide +kernel
theorem dX5_at_6 : decode cX5_at 6 = .ok (.iload_n 3, 1) := by decide +kernel
theorem dX5_at_7 : decode cX5_at 7 = .ok (.iconst (-1), 1) := by decide +kernel
theorem dX5_at_8 : decode cX5_at 8 = .ok (.if_icmp .ne 7, 3) := by decide +kernel
theorem dX5_at_11 : decode cX5_at 11 = .ok (.iconst (-1), 1) := by decide +kernel
theorem dX5_at_12 : decode cX5_at 12 = .ok (.goto 9, 3) := by decide +kernel
theorem dX5_at_15 : decode cX5_at 15 = .ok (.aload_n 0, 1) := by decide +kernel
theorem dX5_at_16 : decode cX5_at 16 = .ok (.getfield 9, 3) := by decide +kernel
theorem dX5_at_19 : decode cX5_at 19 = .ok (.iload_n 3, 1) := by decide +kernel
theorem dX5_at_20 : decode cX5_at 20 = .ok (.iaload, 1) := by decide +kernel
theorem dX5_at_21 : decode cX5_at 21 = .ok (.ireturn, 1) := by decide +kernel
theorem dX5_beginOf_0 : decode cX5_beginOf 0 = .ok (.iload_n 1, 1) := by decide +kernel
theorem dX5_beginOf_1 : decode cX5_beginOf 1 = .ok (.ifCond .gt 5, 3) := by decide +kernel
theorem dX5_beginOf_4 : decode cX5_beginOf 4 = .ok (.iconst 0, 1) := by decide +kernel
theorem dX5_beginOf_5 : decode cX5_beginOf 5 = .ok (.ireturn, 1) := by decide +kernel
theorem dX5_beginOf_6 : decode cX5_beginOf 6 = .ok (.aload_n 0, 1) := by decide +kernel
theorem dX5_beginOf_7 : decode cX5_beginOf 7 = .ok (.iload_n 1, 1) := by decide +kernel
theorem dX5_beginOf_8 : decode cX5_beginOf 8 = .ok (.iconst 1, 1) := by decide +kernel
theorem dX5_beginOf_9 : decode cX5_beginOf 9 = .ok (.isub, 1) := by decide +kernel
theorem dX5_beginOf_10 : decode cX5_beginOf 10 = .ok (.iload_n 2, 1) := by decide +kernel
theorem dX5_beginOf_11 : decode cX5_beginOf 11 = .ok (.iconst 1, 1) := by decide +kernel
theorem dX5_beginOf_12 : decode cX5_beginOf 12 = .ok (.isub, 1) := by decide +kernel
theorem dX5_beginOf_13 : decode cX5_beginOf 13 = .ok (.invokevirtual 44, 3) := by decide +kernel
theorem dX5_beginOf_16 : decode cX5_beginOf 16 = .ok (.iconst 1, 1) := by decide +kernel
theorem dX5_beginOf_17 : decode cX5_beginOf 17 = .ok (.iadd, 1) := by decide +kernel
theorem dX5_beginOf_18 : decode cX5_beginOf 18 = .ok (.aload_n 0, 1) := by decide +kernel
theorem dX5_beginOf_19 : decode cX5_beginOf 19 = .ok (.iload_n 1, 1) := by decide +kernel
theorem dX5_beginOf_20 : decode cX5_beginOf 20 = .ok (.iconst 1, 1) := by decide +kernel
theorem dX5_beginOf_21 : decode cX5_beginOf 21 = .ok (.isub, 1) := by decide +kernel
theorem dX5_beginOf_22 : decode cX5_beginOf 22 = .ok (.iload_n 2, 1) := by decide +kernel
theorem dX5_beginOf_23 : decode cX5_beginOf 23 = .ok (.iconst 1, 1) := by decide +kernel
theorem dX5_beginOf_24 : decode cX5_beginOf 24 = .ok (.iadd, 1) := by decide +kernel
theorem dX5_beginOf_25 : decode cX5_beginOf 25 = .ok (.invokevirtual 44, 3) := by decide +kernel
theorem dX5_beginOf_28 : decode cX5_beginOf 28 = .ok (.invokestatic 50, 3) := by decide +kernel
theorem dX5_beginOf_31 : decode cX5_beginOf 31 = .ok (.ireturn, 1) := by decide +kernel
theorem dX5_isPutIn_0 : decode cX5_isPutIn 0 = .ok (.aload_n 0, 1) := by decide +kernel
theorem dX5_isPutIn_1 : decode cX5_isPutIn 1 = .ok (.iload_n 1, 1) := by decide +kernel
theorem dX5_isPutIn_2 : decode cX5_isPutIn 2 = .ok (.iconst 1, 1) := by decide +kernel
theorem dX5_isPutIn_3 : decode cX5_isPutIn 3 = .ok (.isub, 1) := by decide +kernel
theorem dX5_isPutIn_4 : decode cX5_isPutIn 4 = .ok (.iload_n 2, 1) := by decide +kernel
theorem dX5_isPutIn_5 : decode cX5_isPutIn 5 = .ok (.iconst 1, 1) := by decide +kernel
theorem dX5_isPutIn_6 : decode cX5_isPutIn 6 = .ok (.isub, 1) := by decide +kernel
theorem dX5_isPutIn_7 : decode cX5_isPutIn 7 = .ok (.invokevirtual 44, 3) := by decide +kernel
theorem dX5_isPutIn_10 : decode cX5_isPutIn 10 = .ok (.aload_n 0, 1) := by decide +kernel
theorem dX5_isPutIn_11 : decode cX5_isPutIn 11 = .ok (.iload_n 1, 1) := by decide +kernel
theorem dX5_isPutIn_12 : decode cX5_isPutIn 12 = .ok (.iconst 1, 1) := by decide +kernel
theorem dX5_isPutIn_13 : decode cX5_isPutIn 13 = .ok (.isub, 1) := by decide +kernel
theorem dX5_isPutIn_14 : decode cX5_isPutIn 14 = .ok (.iload_n 2, 1) := by decide +kernel
theorem dX5_isPutIn_15 : decode cX5_isPutIn 15 = .ok (.iconst 1, 1) := by decide +kernel
theorem dX5_isPutIn_16 : decode cX5_isPutIn 16 = .ok (.iadd, 1) := by decide +kernel
theorem dX5_isPutIn_17 : decode cX5_isPutIn 17 = .ok (.invokevirtual 44, 3) := by decide +kernel
theorem dX5_isPutIn_20 : decode cX5_isPutIn 20 = .ok (.if_icmp .ge 7, 3) := by decide +kernel
theorem dX5_isPutIn_23 : decode cX5_isPutIn 23 = .ok (.iconst 1, 1) := by decide +kernel
theorem dX5_isPutIn_24 : decode cX5_isPutIn 24 = .ok (.goto 4, 3) := by decide +kernel
theorem dX5_isPutIn_27 : decode cX5_isPutIn 27 = .ok (.iconst 0, 1) := by decide +kernel
theorem dX5_isPutIn_28 : decode cX5_isPutIn 28 = .ok (.ireturn, 1) := by decide +kernel
theorem dX5_put_0 : decode cX5_put 0 = .ok (.iload_n 1, 1) := by decide +kernel
theorem dX5_put_1 : decode cX5_put 1 = .ok (.iload_n 2, 1) := by decide +kernel
theorem dX5_put_2 : decode cX5_put 2 = .ok (.invokestatic 47, 3) := by decide +kernel
theorem dX5_put_5 : decode cX5_put 5 = .ok (.istore 4, 2) := by decide +kernel
theorem dX5_put_7 : decode cX5_put 7 = .ok (.iload 4, 2) := by decide +kernel
theorem dX5_put_9 : decode cX5_put 9 = .ok (.iconst (-1), 1) := by decide +kernel
theorem dX5_put_10 : decode cX5_put 10 = .ok (.if_icmp .eq 11, 3) := by decide +kernel
theorem dX5_put_13 : decode cX5_put 13 = .ok (.aload_n 0, 1) := by decide +kernel
theorem dX5_put_14 : decode cX5_put 14 = .ok (.getfield 9, 3) := by decide +kernel
theorem dX5_put_17 : decode cX5_put 17 = .ok (.iload 4, 2) := by decide +kernel
theorem dX5_put_19 : decode cX5_put 19 = .ok (.iload_n 3, 1) := by decide +kernel
theorem dX5_put_20 : decode cX5_put 20 = .ok (.iastore, 1) := by decide +kernel
theorem dX5_put_21 : decode cX5_put 21 = .ok (.return_, 1) := by decide +kernel
theorem dX5_placeOf_0 : decode cX5_placeOf 0 = .ok (.iload_n 0, 1) := by decide +kernel
theorem dX5_placeOf_1 : decode cX5_placeOf 1 = .ok (.ifCond .lt 28, 3) := by decide +kernel
theorem dX5_placeOf_4 : decode cX5_placeOf 4 = .ok (.iload_n 0, 1) := by decide +kernel
theorem dX5_placeOf_5 : decode cX5_placeOf 5 = .ok (.bipush 56, 2) := by decide +kernel
theorem dX5_placeOf_7 : decode cX5_placeOf 7 = .ok (.if_icmp .gt 22, 3) := by decide +kernel
theorem dX5_placeOf_10 : decode cX5_placeOf 10 = .ok (.iload_n 1, 1) := by decide +kernel
theorem dX5_placeOf_11 : decode cX5_placeOf 11 = .ok (.iload_n 0, 1) := by decide +kernel
theorem dX5_placeOf_12 : decode cX5_placeOf 12 = .ok (.ineg, 1) := by decide +kernel
theorem dX5_placeOf_13 : decode cX5_placeOf 13 = .ok (.if_icmp .lt 16, 3) := by decide +kernel
theorem dX5_placeOf_16 : decode cX5_placeOf 16 = .ok (.iload_n 1, 1) := by decide +kernel
theorem dX5_placeOf_17 : decode cX5_placeOf 17 = .ok (.iload_n 0, 1) := by decide +kernel
theorem dX5_placeOf_18 : decode cX5_placeOf 18 = .ok (.if_icmp .gt 11, 3) := by decide +kernel
theorem dX5_placeOf_21 : decode cX5_placeOf 21 = .ok (.iload_n 0, 1) := by decide +kernel
theorem dX5_placeOf_22 : decode cX5_placeOf 22 = .ok (.iload_n 1, 1) := by decide +kernel
theorem dX5_placeOf_23 : decode cX5_placeOf 23 = .ok (.iadd, 1) := by decide +kernel
theorem dX5_placeOf_24 : decode cX5_placeOf 24 = .ok (.iconst 2, 1) := by decide +kernel
theorem dX5_placeOf_25 : decode cX5_placeOf 25 = .ok (.irem, 1) := by decide +kernel
theorem dX5_placeOf_26 : decode cX5_placeOf 26 = .ok (.ifCond .eq 5, 3) := by decide +kernel
theorem dX5_placeOf_29 : decode cX5_placeOf 29 = .ok (.iconst (-1), 1) := by decide +kernel
theorem dX5_placeOf_30 : decode cX5_placeOf 30 = .ok (.ireturn, 1) := by decide +kernel
theorem dX5_placeOf_31 : decode cX5_placeOf 31 = .ok (.iload_n 0, 1) := by decide +kernel
theorem dX5_placeOf_32 : decode cX5_placeOf 32 = .ok (.iload_n 0, 1) := by decide +kernel
theorem dX5_placeOf_33 : decode cX5_placeOf 33 = .ok (.iconst 1, 1) := by decide +kernel
theorem dX5_placeOf_34 : decode cX5_placeOf 34 = .ok (.iadd, 1) := by decide +kernel
theorem dX5_placeOf_35 : decode cX5_placeOf 35 = .ok (.imul, 1) := by decide +kernel
theorem dX5_placeOf_36 : decode cX5_placeOf 36 = .ok (.iconst 2, 1) := by decide +kernel
theorem dX5_placeOf_37 : decode cX5_placeOf 37 = .ok (.idiv, 1) := by decide +kernel
theorem dX5_placeOf_38 : decode cX5_placeOf 38 = .ok (.iload_n 0, 1) := by decide +kernel
theorem dX5_placeOf_39 : decode cX5_placeOf 39 = .ok (.iload_n 1, 1) := by decide +kernel
theorem dX5_placeOf_40 : decode cX5_placeOf 40 = .ok (.iadd, 1) := by decide +kernel
theorem dX5_placeOf_41 : decode cX5_placeOf 41 = .ok (.iconst 2, 1) := by decide +kernel
theorem dX5_placeOf_42 : decode cX5_placeOf 42 = .ok (.idiv, 1) := by decide +kernel
theorem dX5_placeOf_43 : decode cX5_placeOf 43 = .ok (.iadd, 1) := by decide +kernel
theorem dX5_placeOf_44 : decode cX5_placeOf 44 = .ok (.ireturn, 1) := by decide +kernel
theorem dX6_init_0 : decode cX6_init 0 = .ok (.aload_n 0, 1) := by decide +kernel
theorem dX6_init_1 : decode cX6_init 1 = .ok (.invokespecial 3, 3) := by decide +kernel
theorem dX6_init_4 : decode cX6_init 4 = .ok (.aload_n 0, 1) := by decide +kernel
theorem dX6_init_5 : decode cX6_init 5 = .ok (.new 9, 3) := by decide +kernel
theorem dX6_init_8 : decode cX6_init 8 = .ok (.dup, 1) := by decide +kernel
theorem dX6_init_9 : decode cX6_init 9 = .ok (.bipush 28, 2) := by decide +kernel
theorem dX6_init_11 : decode cX6_init 11 = .ok (.invokespecial 11, 3) := by decide +kernel
theorem dX6_init_14 : decode cX6_init 14 = .ok (.putfield 14, 3) := by decide +kernel
theorem dX6_init_17 : decode cX6_init 17 = .ok (.return_, 1) := by decide +kernel
theorem dX6_read_0 : decode cX6_read 0 = .ok (.aload_n 0, 1) := by decide +kernel
theorem dX6_read_1 : decode cX6_read 1 = .ok (.getfield 14, 3) := by decide +kernel
theorem dX6_read_4 : decode cX6_read 4 = .ok (.invokevirtual 20, 3) := by decide +kernel
theorem dX6_read_7 : decode cX6_read 7 = .ok (.aload_n 0, 1) := by decide +kernel
theorem dX6_read_8 : decode cX6_read 8 = .ok (.iconst 0, 1) := by decide +kernel
theorem dX6_read_9 : decode cX6_read 9 = .ok (.putfield 23, 3) := by decide +kernel
theorem dX6_read_12 : decode cX6_read 12 = .ok (.aload_n 0, 1) := by decide +kernel
theorem dX6_read_13 : decode cX6_read 13 = .ok (.iconst 0, 1) := by decide +kernel
theorem dX6_read_14 : decode cX6_read 14 = .ok (.putfield 27, 3) := by decide +kernel
theorem dX6_read_17 : decode cX6_read 17 = .ok (.iconst 0, 1) := by decide +kernel
theorem dX6_read_18 : decode cX6_read 18 = .ok (.istore_n 3, 1) := by decide +kernel
theorem dX6_read_19 : decode cX6_read 19 = .ok (.iconst 0, 1) := by decide +kernel
theorem dX6_read_20 : decode cX6_read 20 = .ok (.istore 4, 2) := by decide +kernel
theorem dX6_read_22 : decode cX6_read 22 = .ok (.iload 4, 2) := by decide +kernel
theorem dX6_read_24 : decode cX6_read 24 = .ok (.aload_n 1, 1) := by decide +kernel
theorem dX6_read_25 : decode cX6_read 25 = .ok (.getfield 30, 3) := by decide +kernel
theorem dX6_read_28 : decode cX6_read 28 = .ok (.if_icmp .ge 35, 3) := by decide +kernel
theorem dX6_read_31 : decode cX6_read 31 = .ok (.aload_n 0, 1) := by decide +kernel
theorem dX6_read_32 : decode cX6_read 32 = .ok (.getfield 27, 3) := by decide +kernel
theorem dX6_read_35 : decode cX6_read 35 = .ok (.ifCond .ne 28, 3) := by decide +kernel
theorem dX6_read_38 : decode cX6_read 38 = .ok (.iload 4, 2) := by decide +kernel
theorem dX6_read_40 : decode cX6_read 40 = .ok (.iload_n 3, 1) := by decide +kernel
theorem dX6_read_41 : decode cX6_read 41 = .ok (.if_icmp .ne 16, 3) := by decide +kernel
theorem dX6_read_44 : decode cX6_read 44 = .ok (.aload_n 0, 1) := by decide +kernel
theorem dX6_read_45 : decode cX6_read 45 = .ok (.aload_n 1, 1) := by decide +kernel
theorem dX6_read_46 : decode cX6_read 46 = .ok (.aload_n 2, 1) := by decide +kernel
theorem dX6_read_47 : decode cX6_read 47 = .ok (.iload_n 3, 1) := by decide +kernel
theorem dX6_read_48 : decode cX6_read 48 = .ok (.invokevirtual 33, 3) := by decide +kernel
theorem dX6_read_51 : decode cX6_read 51 = .ok (.aload_n 1, 1) := by decide +kernel
theorem dX6_read_52 : decode cX6_read 52 = .ok (.iload_n 3, 1) := by decide +kernel
theorem dX6_read_53 : decode cX6_read 53 = .ok (.invokestatic 37, 3) := by decide +kernel
theorem dX6_read_56 : decode cX6_read 56 = .ok (.istore_n 3, 1) := by decide +kernel
theorem dX6_read_57 : decode cX6_read 57 = .ok (.iinc 4 1, 3) := by decide +kernel
theorem dX6_read_60 : decode cX6_read 60 = .ok (.goto (-38), 3) := by decide +kernel
theorem dX6_read_63 : decode cX6_read 63 = .ok (.aload_n 0, 1) := by decide +kernel
theorem dX6_read_64 : decode cX6_read 64 = .ok (.getfield 27, 3) := by decide +kernel
theorem dX6_read_67 : decode cX6_read 67 = .ok (.ifCond .ne 32, 3) := by decide +kernel
theorem dX6_read_70 : decode cX6_read 70 = .ok (.aload_n 0, 1) := by decide +kernel
theorem dX6_read_71 : decode cX6_read 71 = .ok (.getfield 23, 3) := by decide +kernel
theorem dX6_read_74 : decode cX6_read 74 = .ok (.aload_n 2, 1) := by decide +kernel
theorem dX6_read_75 : decode cX6_read 75 = .ok (.getfield 30, 3) := by decide +kernel
theorem dX6_read_78 : decode cX6_read 78 = .ok (.if_icmp .ge 21, 3) := by decide +kernel
theorem dX6_read_81 : decode cX6_read 81 = .ok (.aload_n 0, 1) := by decide +kernel
theorem dX6_read_82 : decode cX6_read 82 = .ok (.aload_n 1, 1) := by decide +kernel
theorem dX6_read_83 : decode cX6_read 83 = .ok (.getfield 30, 3) := by decide +kernel
theorem dX6_read_86 : decode cX6_read 86 = .ok (.iconst 4, 1) := by decide +kernel
theorem dX6_read_87 : decode cX6_read 87 = .ok (.aload_n 2, 1) := by decide +kernel
theorem dX6_read_88 : decode cX6_read 88 = .ok (.getfield 30, 3) := by decide +kernel
theorem dX6_read_91 : decode cX6_read 91 = .ok (.aload_n 0, 1) := by decide +kernel
theorem dX6_read_92 : decode cX6_read 92 = .ok (.getfield 23, 3) := by decide +kernel
theorem dX6_read_95 : decode cX6_read 95 = .ok (.isub, 1) := by decide +kernel
theorem dX6_read_96 : decode cX6_read 96 = .ok (.invokevirtual 41, 3) := by decide +kernel
theorem dX6_read_99 : decode cX6_read 99 = .ok (.return_, 1) := by decide +kernel
theorem dX6_readPart_0 : decode cX6_readPart 0 = .ok (.aload_n 1, 1) := by decide +kernel
theorem dX6_readPart_1 : decode cX6_readPart 1 = .ok (.iload_n 3, 1) := by decide +kernel
theorem dX6_readPart_2 : decode cX6_readPart 2 = .ok (.invokestatic 45, 3) := by decide +kernel
theorem dX6_readPart_5 : decode cX6_readPart 5 = .ok (.istore 4, 2) := by decide +kernel
theorem dX6_readPart_7 : decode cX6_readPart 7 = .ok (.iload 4, 2) := by decide +kernel
theorem dX6_readPart_9 : decode cX6_readPart 9 = .ok (.iconst (-1), 1) := by decide +kernel
theorem dX6_readPart_10 : decode cX6_readPart 10 = .ok (.if_icmp .eq 12, 3) := by decide +kernel
theorem dX6_readPart_13 : decode cX6_readPart 13 = .ok (.aload_n 0, 1) := by decide +kernel
theorem dX6_readPart_14 : decode cX6_readPart 14 = .ok (.iload_n 3, 1) := by decide +kernel
theorem dX6_readPart_15 : decode cX6_readPart 15 = .ok (.iconst 1, 1) := by decide +kernel
theorem dX6_readPart_16 : decode cX6_readPart 16 = .ok (.iload 4, 2) := by decide +kernel
theorem dX6_readPart_18 : decode cX6_readPart 18 = .ok (.invokevirtual 41, 3) := by decide +kernel
theorem dX6_readPart_21 : decode cX6_readPart 21 = .ok (.return_, 1) := by decide +kernel
theorem dX6_readPart_22 : decode cX6_readPart 22 = .ok (.aload_n 1, 1) := by decide +kernel
