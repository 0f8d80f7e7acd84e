set_option maxRecDepth 20000 in
theorem ggX0_init_X2_sumOfThing : GoodIn wsX0_init wsX2_sumOfThing := goodIn_r _ [9] (by decide +kernel) (by decide +kernel)
set_option maxRecDepth 20000 in
theorem gX0_init_X2_sumOfThing_n18 : GoodIn wsX0_init (wsX2_sumOfThing) := ggX0_init_X2_sumOfThing
set_option maxRecDepth 20000 in
theorem ggX0_init_X2_sumOfSums : GoodIn wsX0_init wsX2_sumOfSums := goodIn_r _ [11] (by decide +kernel) (by decide +kernel)
set_option maxRecDepth 20000 in
theorem gX0_init_X2_sumOfSums_n22 : GoodIn wsX0_init (wsX2_sumOfSums) := ggX0_init_X2_sumOfSums
theorem dX0_init_0 : decode cX0_init 0 = .ok (.aload_n 0, 1) := by decide +kernel
theorem dX0_init_1 : decode cX0_init 1 = .ok (.invokespecial 3, 3) := by decide +kernel
theorem dX0_init_4 : decode cX0_init 4 = .ok (.aload_n 0, 1) := by decide +kernel
theorem dX0_init_5 : decode cX0_init 5 = .ok (.bipush 16, 2) := by decide +kernel
theorem dX0_init_7 : decode cX0_init 7 = .ok (.newarray .int, 2) := by decide +kernel
theorem dX0_init_9 : decode cX0_init 9 = .ok (.putfield 9, 3) := by decide +kernel
theorem dX0_init_12 : decode cX0_init 12 = .ok (.aload_n 0, 1) := by decide +kernel
theorem dX0_init_13 : decode cX0_init 13 = .ok (.bipush 32, 2) := by decide +kernel
theorem dX0_init_15 : decode cX0_init 15 = .ok (.newarray .int, 2) := by decide +kernel
theorem dX0_init_17 : decode cX0_init 17 = .ok (.putfield 15, 3) := by decide +kernel
theorem dX0_init_20 : decode cX0_init 20 = .ok (.iconst 0, 1) := by decide +kernel
theorem dX0_init_21 : decode cX0_init 21 = .ok (.istore_n 1, 1) := by decide +kernel
theorem dX0_init_22 : decode cX0_init 22 = .ok (.iload_n 1, 1) := by decide +kernel
theorem dX0_init_23 : decode cX0_init 23 = .ok (.bipush 16, 2) := by decide +kernel
theorem dX0_init_25 : decode cX0_init 25 = .ok (.if_icmp .ge 23, 3) := by decide +kernel
theorem dX0_init_28 : decode cX0_init 28 = .ok (.aload_n 0, 1) := by decide +kernel
theorem dX0_init_29 : decode cX0_init 29 = .ok (.getfield 15, 3) := by decide +kernel
theorem dX0_init_32 : decode cX0_init 32 = .ok (.bipush 16, 2) := by decide +kernel
theorem dX0_init_34 : decode cX0_init 34 = .ok (.iload_n 1, 1) := by decide +kernel
theorem dX0_init_35 : decode cX0_init 35 = .ok (.iadd, 1) := by decide +kernel
theorem dX0_init_36 : decode cX0_init 36 = .ok (.iload_n 1, 1) := by decide +kernel
theorem dX0_init_37 : decode cX0_init 37 = .ok (.iconst 0, 1) := by decide +kernel
theorem dX0_init_38 : decode cX0_init 38 = .ok (.invokestatic 18, 3) := by decide +kernel
theorem dX0_init_41 : decode cX0_init 41 = .ok (.iastore, 1) := by decide +kernel
theorem dX0_init_42 : decode cX0_init 42 = .ok (.iinc 1 1, 3) := by decide +kernel
theorem dX0_init_45 : decode cX0_init 45 = .ok (.goto (-23), 3) := by decide +kernel
theorem dX0_init_48 : decode cX0_init 48 = .ok (.bipush 15, 2) := by decide +kernel
theorem dX0_init_50 : decode cX0_init 50 = .ok (.istore_n 1, 1) := by decide +kernel
theorem dX0_init_51 : decode cX0_init 51 = .ok (.iload_n 1, 1) := by decide +kernel
theorem dX0_init_52 : decode cX0_init 52 = .ok (.iconst 1, 1) := by decide +kernel
theorem dX0_init_53 : decode cX0_init 53 = .ok (.if_icmp .lt 37, 3) := by decide +kernel
theorem dX0_init_56 : decode cX0_init 56 = .ok (.aload_n 0, 1) := by decide +kernel
theorem dX0_init_57 : decode cX0_init 57 = .ok (.getfield 15, 3) := by decide +kernel
theorem dX0_init_60 : decode cX0_init 60 = .ok (.iload_n 1, 1) := by decide +kernel
theorem dX0_init_61 : decode cX0_init 61 = .ok (.aload_n 0, 1) := by decide +kernel
theorem dX0_init_62 : decode cX0_init 62 = .ok (.getfield 15, 3) := by decide +kernel
theorem dX0_init_65 : decode cX0_init 65 = .ok (.iconst 2, 1) := by decide +kernel
theorem dX0_init_66 : decode cX0_init 66 = .ok (.iload_n 1, 1) := by decide +kernel
theorem dX0_init_67 : decode cX0_init 67 = .ok (.imul, 1) := by decide +kernel
theorem dX0_init_68 : decode cX0_init 68 = .ok (.iaload, 1) := by decide +kernel
theorem dX0_init_69 : decode cX0_init 69 = .ok (.aload_n 0, 1) := by decide +kernel
theorem dX0_init_70 : decode cX0_init 70 = .ok (.getfield 15, 3) := by decide +kernel
theorem dX0_init_73 : decode cX0_init 73 = .ok (.iconst 2, 1) := by decide +kernel
theorem dX0_init_74 : decode cX0_init 74 = .ok (.iload_n 1, 1) := by decide +kernel
theorem dX0_init_75 : decode cX0_init 75 = .ok (.imul, 1) := by decide +kernel
theorem dX0_init_76 : decode cX0_init 76 = .ok (.iconst 1, 1) := by decide +kernel
theorem dX0_init_77 : decode cX0_init 77 = .ok (.iadd, 1) := by decide +kernel
theorem dX0_init_78 : decode cX0_init 78 = .ok (.iaload, 1) := by decide +kernel
theorem dX0_init_79 : decode cX0_init 79 = .ok (.iload_n 1, 1) := by decide +kernel
theorem dX0_init_80 : decode cX0_init 80 = .ok (.invokestatic 22, 3) := by decide +kernel
theorem dX0_init_83 : decode cX0_init 83 = .ok (.iastore, 1) := by decide +kernel
theorem dX0_init_84 : decode cX0_init 84 = .ok (.iinc 1 (-1), 3) := by decide +kernel
theorem dX0_init_87 : decode cX0_init 87 = .ok (.goto (-36), 3) := by decide +kernel
theorem dX0_init_90 : decode cX0_init 90 = .ok (.return_, 1) := by decide +kernel
theorem dX0_root_0 : decode cX0_root 0 = .ok (.aload_n 0, 1) := by decide +kernel
theorem dX0_root_1 : decode cX0_root 1 = .ok (.getfield 15, 3) := by decide +kernel
theorem dX0_root_4 : decode cX0_root 4 = .ok (.iconst 1, 1) := by decide +kernel
theorem dX0_root_5 : decode cX0_root 5 = .ok (.iaload, 1) := by decide +kernel
theorem dX0_root_6 : decode cX0_root 6 = .ok (.ireturn, 1) := by decide +kernel
set_option maxRecDepth 20000 in
theorem ggX0_lay_X2_sumUp : GoodIn wsX0_lay wsX2_sumUp := goodIn_r _ [6, 7, 8, 5, 9, 10, 11, 12] (by decide +kernel) (by decide +kernel)
set_option maxRecDepth 20000 in
theorem gX0_lay_X2_sumUp_n30 : GoodIn wsX0_lay (wsX2_sumUp) := ggX0_lay_X2_sumUp
theorem dX0_lay_0 : decode cX0_lay 0 = .ok (.aload_n 0, 1) := by decide +kernel
theorem dX0_lay_1 : decode cX0_lay 1 = .ok (.getfield 9, 3) := by decide +kernel
theorem dX0_lay_4 : decode cX0_lay 4 = .ok (.iload_n 1, 1) := by decide +kernel
theorem dX0_lay_5 : decode cX0_lay 5 = .ok (.iaload, 1) := by decide +kernel
theorem dX0_lay_6 : decode cX0_lay 6 = .ok (.iload_n 2, 1) := by decide +kernel
theorem dX0_lay_7 : decode cX0_lay 7 = .ok (.if_icmp .eq 29, 3) := by decide +kernel
theorem dX0_lay_10 : decode cX0_lay 10 = .ok (.aload_n 0, 1) := by decide +kernel
theorem dX0_lay_11 : decode cX0_lay 11 = .ok (.getfield 9, 3) := by decide +kernel
theorem dX0_lay_14 : decode cX0_lay 14 = .ok (.iload_n 1, 1) := by decide +kernel
theorem dX0_lay_15 : decode cX0_lay 15 = .ok (.iload_n 2, 1) := by decide +kernel
theorem dX0_lay_16 : decode cX0_lay 16 = .ok (.iastore, 1) := by decide +kernel
theorem dX0_lay_17 : decode cX0_lay 17 = .ok (.aload_n 0, 1) := by decide +kernel
theorem dX0_lay_18 : decode cX0_lay 18 = .ok (.dup, 1) := by decide +kernel
theorem dX0_lay_19 : decode cX0_lay 19 = .ok (.getfield 26, 3) := by decide +kernel
theorem dX0_lay_22 : decode cX0_lay 22 = .ok (.iconst 1, 1) := by decide +kernel
theorem dX0_lay_23 : decode cX0_lay 23 = .ok (.iadd, 1) := by decide +kernel
theorem dX0_lay_24 : decode cX0_lay 24 = .ok (.putfield 26, 3) := by decide +kernel
theorem dX0_lay_27 : decode cX0_lay 27 = .ok (.aload_n 0, 1) := by decide +kernel
theorem dX0_lay_28 : decode cX0_lay 28 = .ok (.getfield 15, 3) := by decide +kernel
theorem dX0_lay_31 : decode cX0_lay 31 = .ok (.iload_n 1, 1) := by decide +kernel
theorem dX0_lay_32 : decode cX0_lay 32 = .ok (.iload_n 2, 1) := by decide +kernel
theorem dX0_lay_33 : decode cX0_lay 33 = .ok (.invokestatic 30, 3) := by decide +kernel
theorem dX0_lay_36 : decode cX0_lay 36 = .ok (.return_, 1) := by decide +kernel
theorem dX0_proofSum_0 : decode cX0_proofSum 0 = .ok (.aload_n 0, 1) := by decide +kernel
theorem dX0_proofSum_1 : decode cX0_proofSum 1 = .ok (.getfield 15, 3) := by decide +kernel
theorem dX0_proofSum_4 : decode cX0_proofSum 4 = .ok (.bipush 16, 2) := by decide +kernel
theorem dX0_proofSum_6 : decode cX0_proofSum 6 = .ok (.iload_n 1, 1) := by decide +kernel
theorem dX0_proofSum_7 : decode cX0_proofSum 7 = .ok (.iadd, 1) := by decide +kernel
theorem dX0_proofSum_8 : decode cX0_proofSum 8 = .ok (.iload_n 2, 1) := by decide +kernel
theorem dX0_proofSum_9 : decode cX0_proofSum 9 = .ok (.ishr, 1) := by decide +kernel
theorem dX0_proofSum_10 : decode cX0_proofSum 10 = .ok (.iconst 1, 1) := by decide +kernel
theorem dX0_proofSum_11 : decode cX0_proofSum 11 = .ok (.ixor, 1) := by decide +kernel
theorem dX0_proofSum_12 : decode cX0_proofSum 12 = .ok (.iaload, 1) := by decide +kernel
theorem dX0_proofSum_13 : decode cX0_proofSum 13 = .ok (.ireturn, 1) := by decide +kernel
theorem dX0_filledDrawers_0 : decode cX0_filledDrawers 0 = .ok (.iconst 0, 1) := by decide +kernel
theorem dX0_filledDrawers_1 : decode cX0_filledDrawers 1 = .ok (.istore_n 1, 1) := by decide +kernel
theorem dX0_filledDrawers_2 : decode cX0_filledDrawers 2 = .ok (.aload_n 0, 1) := by decide +kernel
theorem dX0_filledDrawers_3 : decode cX0_filledDrawers 3 = .ok (.getfield 9, 3) := by decide +kernel
theorem dX0_filledDrawers_6 : decode cX0_filledDrawers 6 = .ok (.astore_n 2, 1) := by decide +kernel
theorem dX0_filledDrawers_7 : decode cX0_filledDrawers 7 = .ok (.aload_n 2, 1) := by decide +kernel
theorem dX0_filledDrawers_8 : decode cX0_filledDrawers 8 = .ok (.arraylength, 1) := by decide +kernel
theorem dX0_filledDrawers_9 : decode cX0_filledDrawers 9 = .ok (.istore_n 3, 1) := by decide +kernel
theorem dX0_filledDrawers_10 : decode cX0_filledDrawers 10 = .ok (.iconst 0, 1) := by decide +kernel
theorem dX0_filledDrawers_11 : decode cX0_filledDrawers 11 = .ok (.istore 4, 2) := by decide +kernel
theorem dX0_filledDrawers_13 : decode cX0_filledDrawers 13 = .ok (.iload 4, 2) := by decide +kernel
theorem dX0_filledDrawers_15 : decode cX0_filledDrawers 15 = .ok (.iload_n 3, 1) := by decide +kernel
theorem dX0_filledDrawers_16 : decode cX0_filledDrawers 16 = .ok (.if_icmp .ge 23, 3) := by decide +kernel
theorem dX0_filledDrawers_19 : decode cX0_filledDrawers 19 = .ok (.aload_n 2, 1) := by decide +kernel
theorem dX0_filledDrawers_20 : decode cX0_filledDrawers 20 = .ok (.iload 4, 2) := by decide +kernel
theorem dX0_filledDrawers_22 : decode cX0_filledDrawers 22 = .ok (.iaload, 1) := by decide +kernel
theorem dX0_filledDrawers_23 : decode cX0_filledDrawers 23 = .ok (.istore 5, 2) := by decide +kernel
theorem dX0_filledDrawers_25 : decode cX0_filledDrawers 25 = .ok (.iload 5, 2) := by decide +kernel
theorem dX0_filledDrawers_27 : decode cX0_filledDrawers 27 = .ok (.ifCond .eq 6, 3) := by decide +kernel
theorem dX0_filledDrawers_30 : decode cX0_filledDrawers 30 = .ok (.iinc 1 1, 3) := by decide +kernel
theorem dX0_filledDrawers_33 : decode cX0_filledDrawers 33 = .ok (.iinc 4 1, 3) := by decide +kernel
theorem dX0_filledDrawers_36 : decode cX0_filledDrawers 36 = .ok (.goto (-23), 3) := by decide +kernel
theorem dX0_filledDrawers_39 : decode cX0_filledDrawers 39 = .ok (.iload_n 1, 1) := by decide +kernel
theorem dX0_filledDrawers_40 : decode cX0_filledDrawers 40 = .ok (.ireturn, 1) := by decide +kernel
theorem dX0_thingsAdded_0 : decode cX0_thingsAdded 0 = .ok (.iconst 0, 1) := by decide +kernel
theorem dX0_thingsAdded_1 : decode cX0_thingsAdded 1 = .ok (.istore_n 1, 1) := by decide +kernel
theorem dX0_thingsAdded_2 : decode cX0_thingsAdded 2 = .ok (.aload_n 0, 1) := by decide +kernel
theorem dX0_thingsAdded_3 : decode cX0_thingsAdded 3 = .ok (.getfield 9, 3) := by decide +kernel
theorem dX0_thingsAdded_6 : decode cX0_thingsAdded 6 = .ok (.astore_n 2, 1) := by decide +kernel
theorem dX0_thingsAdded_7 : decode cX0_thingsAdded 7 = .ok (.aload_n 2, 1) := by decide +kernel
theorem dX0_thingsAdded_8 : decode cX0_thingsAdded 8 = .ok (.arraylength, 1) := by decide +kernel
theorem dX0_thingsAdded_9 : decode cX0_thingsAdded 9 = .ok (.istore_n 3, 1) := by decide +kernel
theorem dX0_thingsAdded_10 : decode cX0_thingsAdded 10 = .ok (.iconst 0, 1) := by decide +kernel
theorem dX0_thingsAdded_11 : decode cX0_thingsAdded 11 = .ok (.istore 4, 2) := by decide +kernel
theorem dX0_thingsAdded_13 : decode cX0_thingsAdded 13 = .ok (.iload 4, 2) := by decide +kernel
theorem dX0_thingsAdded_15 : decode cX0_thingsAdded 15 = .ok (.iload_n 3, 1) := by decide +kernel
theorem dX0_thingsAdded_16 : decode cX0_thingsAdded 16 = .ok (.if_icmp .ge 20, 3) := by decide +kernel
theorem dX0_thingsAdded_19 : decode cX0_thingsAdded 19 = .ok (.aload_n 2, 1) := by decide +kernel
theorem dX0_thingsAdded_20 : decode cX0_thingsAdded 20 = .ok (.iload 4, 2) := by decide +kernel
theorem dX0_thingsAdded_22 : decode cX0_thingsAdded 22 = .ok (.iaload, 1) := by decide +kernel
theorem dX0_thingsAdded_23 : decode cX0_thingsAdded 23 = .ok (.istore 5, 2) := by decide +kernel
theorem dX0_thingsAdded_25 : decode cX0_thingsAdded 25 = .ok (.iload_n 1, 1) := by decide +kernel
theorem dX0_thingsAdded_26 : decode cX0_thingsAdded 26 = .ok (.iload 5, 2) := by decide +kernel
theorem dX0_thingsAdded_28 : decode cX0_thingsAdded 28 = .ok (.iadd, 1) := by decide +kernel
theorem dX0_thingsAdded_29 : decode cX0_thingsAdded 29 = .ok (.istore_n 1, 1) := by decide +kernel
theorem dX0_thingsAdded_30 : decode cX0_thingsAdded 30 = .ok (.iinc 4 1, 3) := by decide +kernel
theorem dX0_thingsAdded_33 : decode cX0_thingsAdded 33 = .ok (.goto (-20), 3) := by decide +kernel
theorem dX0_thingsAdded_36 : decode cX0_thingsAdded 36 = .ok (.iload_n 1, 1) := by decide +kernel
theorem dX0_thingsAdded_37 : decode cX0_thingsAdded 37 = .ok (.ireturn, 1) := by decide +kernel
theorem dX1_init_0 : decode cX1_init 0 = .ok (.aload_n 0, 1) := by decide +kernel
theorem dX1_init_1 : decode cX1_init 1 = .ok (.invokespecial 1, 3) := by decide +kernel
theorem dX1_init_4 : decode cX1_init 4 = .ok (.aload_n 0, 1) := by decide +kernel
theorem dX1_init_5 : decode cX1_init 5 = .ok (.iload_n 1, 1) := by decide +kernel
theorem dX1_init_6 : decode cX1_init 6 = .ok (.putfield 7, 3) := by decide +kernel
theorem dX1_init_9 : decode cX1_init 9 = .ok (.aload_n 0, 1) := by decide +kernel
theorem dX1_init_10 : decode cX1_init 10 = .ok (.iload_n 2, 1) := by decide +kernel
theorem dX1_init_11 : decode cX1_init 11 = .ok (.putfield 13, 3) := by decide +kernel
theorem dX1_init_14 : decode cX1_init 14 = .ok (.aload_n 0, 1) := by decide +kernel
theorem dX1_init_15 : decode cX1_init 15 = .ok (.iload_n 3, 1) := by decide +kernel
theorem dX1_init_16 : decode cX1_init 16 = .ok (.putfield 16, 3) := by decide +kernel
theorem dX1_init_19 : decode cX1_init 19 = .ok (.return_, 1) := by decide +kernel
theorem dX2_init_0 : decode cX2_init 0 = .ok (.aload_n 0, 1) := by decide +kernel
theorem dX2_init_1 : decode cX2_init 1 = .ok (.invokespecial 1, 3) := by decide +kernel
theorem dX2_init_4 : decode cX2_init 4 = .ok (.aload_n 0, 1) := by decide +kernel
theorem dX2_init_5 : decode cX2_init 5 = .ok (.bipush 6, 2) := by decide +kernel
theorem dX2_init_7 : decode cX2_init 7 = .ok (.anewarray 9, 3) := by decide +kernel
theorem dX2_init_10 : decode cX2_init 10 = .ok (.putfield 11, 3) := by decide +kernel
theorem dX2_init_13 : decode cX2_init 13 = .ok (.aload_n 0, 1) := by decide +kernel
theorem dX2_init_14 : decode cX2_init 14 = .ok (.bipush 20, 2) := by decide +kernel
theorem dX2_init_16 : decode cX2_init 16 = .ok (.anewarray 15, 3) := by decide +kernel
theorem dX2_init_19 : decode cX2_init 19 = .ok (.putfield 17, 3) := by decide +kernel
theorem dX2_init_22 : decode cX2_init 22 = .ok (.aload_n 0, 1) := by decide +kernel
theorem dX2_init_23 : decode cX2_init 23 = .ok (.bipush 32, 2) := by decide +kernel
theorem dX2_init_25 : decode cX2_init 25 = .ok (.newarray .int, 2) := by decide +kernel
theorem dX2_init_27 : decode cX2_init 27 = .ok (.putfield 21, 3) := by decide +kernel
theorem dX2_init_30 : decode cX2_init 30 = .ok (.return_, 1) := by decide +kernel
set_option maxRecDepth 20000 in
theorem ggX2_come_X0_init : GoodIn wsX2_come wsX0_init := goodIn_r _ [9, 10, 11, 12, 13, 14, 15, 16, 17, 18, 19, 20, 26, 27, 28] (by decide +kernel) (by decide +kernel)
set_option maxRecDepth 20000 in
theorem gX2_come_X0_init_n36 : GoodIn wsX2_come (wsX0_init) := ggX2_come_X0_init
theorem dX2_come_0 : decode cX2_come 0 = .ok (.aload_n 0, 1) := by decide +kernel
theorem dX2_come_1 : decode cX2_come 1 = .ok (.getfield 25, 3) := by decide +kernel
theorem dX2_come_4 : decode cX2_come 4 = .ok (.bipush 6, 2) := by decide +kernel
theorem dX2_come_6 : decode cX2_come 6 = .ok (.if_icmp .lt 13, 3) := by decide +kernel
theorem dX2_come_9 : decode cX2_come 9 = .ok (.new 29, 3) := by decide +kernel
theorem dX2_come_12 : decode cX2_come 12 = .ok (.dup, 1) := by decide +kernel
theorem dX2_come_13 : decode cX2_come 13 = .ok (.ldc 31, 2) := by decide +kernel
theorem dX2_come_15 : decode cX2_come 15 = .ok (.invokespecial 33, 3) := by decide +kernel
theorem dX2_come_18 : decode cX2_come 18 = .ok (.athrow, 1) := by decide +kernel
theorem dX2_come_19 : decode cX2_come 19 = .ok (.aload_n 0, 1) := by decide +kernel
theorem dX2_come_20 : decode cX2_come 20 = .ok (.getfield 11, 3) := by decide +kernel
theorem dX2_come_23 : decode cX2_come 23 = .ok (.aload_n 0, 1) := by decide +kernel
theorem dX2_come_24 : decode cX2_come 24 = .ok (.getfield 25, 3) := by decide +kernel
theorem dX2_come_27 : decode cX2_come 27 = .ok (.new 9, 3) := by decide +kernel
theorem dX2_come_30 : decode cX2_come 30 = .ok (.dup, 1) := by decide +kernel
theorem dX2_come_31 : decode cX2_come 31 = .ok (.invokespecial 36, 3) := by decide +kernel
theorem dX2_come_34 : decode cX2_come 34 = .ok (.aastore, 1) := by decide +kernel
theorem dX2_come_35 : decode cX2_come 35 = .ok (.aload_n 0, 1) := by decide +kernel
theorem dX2_come_36 : decode cX2_come 36 = .ok (.dup, 1) := by decide +kernel
theorem dX2_come_37 : decode cX2_come 37 = .ok (.getfield 25, 3) := by decide +kernel
theorem dX2_come_40 : decode cX2_come 40 = .ok (.iconst 1, 1) := by decide +kernel
theorem dX2_come_41 : decode cX2_come 41 = .ok (.iadd, 1) := by decide +kernel
theorem dX2_come_42 : decode cX2_come 42 = .ok (.putfield 25, 3) := by decide +kernel
theorem dX2_come_45 : decode cX2_come 45 = .ok (.aload_n 0, 1) := by decide +kernel
theorem dX2_come_46 : decode cX2_come 46 = .ok (.getfield 25, 3) := by decide +kernel
theorem dX2_come_49 : decode cX2_come 49 = .ok (.iconst 1, 1) := by decide +kernel
theorem dX2_come_50 : decode cX2_come 50 = .ok (.isub, 1) := by decide +kernel
theorem dX2_come_51 : decode cX2_come 51 = .ok (.ireturn, 1) := by decide +kernel
set_option maxRecDepth 20000 in
theorem ggX2_put_X2_findCupboard : GoodIn wsX2_put wsX2_findCupboard := goodIn_ca (goodIn_r _ [5, 6, 7, 8, 9, 36, 37, 38, 39, 40] (by decide +kernel) (by decide +kernel)) (goodIn_sub (fun _ h => List.mem_cons_of_mem _ (List.mem_append_left _ (List.mem_append_right _ h))) (by decide +kernel))
set_option maxRecDepth 20000 in
theorem gX2_put_X2_findCupboard : GoodIn wsX2_put (wsV RX2 37 RX2 yX2_findCupboard wsX2_findCupboard) := goodIn_app (goodIn_of _ (by decide +kernel)) ggX2_put_X2_findCupboard
set_option maxRecDepth 20000 in
theorem ggX2_put_X2_checkDrawer : GoodIn wsX2_put wsX2_checkDrawer := goodIn_ca (goodIn_r _ [12, 6, 7] (by decide +kernel) (by decide +kernel)) (goodIn_sub (fun _ h => List.mem_cons_of_mem _ (List.mem_append_left _ (List.mem_append_right _ h))) (by decide +kernel))
set_option maxRecDepth 20000 in
theorem gX2_put_X2_checkDrawer : GoodIn wsX2_put (va_wsS RX2 41 yX2_checkDrawer wsX2_checkDrawer) := goodIn_app (goodIn_of _ (by decide +kernel)) ggX2_put_X2_checkDrawer
set_option maxRecDepth 20000 in
theorem ggX2_put_X2_checkThing : GoodIn wsX2_put wsX2_checkThing := goodIn_ca (goodIn_r _ [15, 16, 17] (by decide +kernel) (by decide +kernel)) (goodIn_sub (fun _ h => List.mem_cons_of_mem _ (List.mem_append_right _ h)) (by decide +kernel))
set_option maxRecDepth 20000 in
theorem gX2_put_X2_checkThing : GoodIn wsX2_put (va_wsS RX2 45 yX2_checkThing wsX2_checkThing) := goodIn_app (goodIn_of _ (by decide +kernel)) ggX2_put_X2_checkThing
set_option maxRecDepth 20000 in
theorem ggX2_put_X0_lay : GoodIn wsX2_put wsX0_lay := goodIn_r _ [21, 22, 23, 24, 25, 4, 26, 27, 28, 29, 30, 31, 32, 33, 34, 35] (by decide +kernel) (by decide +kernel)
set_option maxRecDepth 20000 in
theorem gX2_put_X0_lay_n51 : GoodIn wsX2_put (wsX0_lay) := ggX2_put_X0_lay
theorem dX2_put_0 : decode cX2_put 0 = .ok (.aload_n 0, 1) := by decide +kernel
theorem dX2_put_1 : decode cX2_put 1 = .ok (.iload_n 1, 1) := by decide +kernel
theorem dX2_put_2 : decode cX2_put 2 = .ok (.invokevirtual 37, 3) := by decide +kernel
theorem dX2_put_5 : decode cX2_put 5 = .ok (.astore 4, 2) := by decide +kernel
theorem dX2_put_7 : decode cX2_put 7 = .ok (.iload_n 2, 1) := by decide +kernel
theorem dX2_put_8 : decode cX2_put 8 = .ok (.invokestatic 41, 3) := by decide +kernel
theorem dX2_put_11 : decode cX2_put 11 = .ok (.iload_n 3, 1) := by decide +kernel
theorem dX2_put_12 : decode cX2_put 12 = .ok (.invokestatic 45, 3) := by decide +kernel
theorem dX2_put_15 : decode cX2_put 15 = .ok (.aload 4, 2) := by decide +kernel
theorem dX2_put_17 : decode cX2_put 17 = .ok (.getfield 48, 3) := by decide +kernel
theorem dX2_put_20 : decode cX2_put 20 = .ok (.iload_n 2, 1) := by decide +kernel
theorem dX2_put_21 : decode cX2_put 21 = .ok (.iaload, 1) := by decide +kernel
theorem dX2_put_22 : decode cX2_put 22 = .ok (.istore 5, 2) := by decide +kernel
theorem dX2_put_24 : decode cX2_put 24 = .ok (.aload 4, 2) := by decide +kernel
theorem dX2_put_26 : decode cX2_put 26 = .ok (.iload_n 2, 1) := by decide +kernel
theorem dX2_put_27 : decode cX2_put 27 = .ok (.iload_n 3, 1) := by decide +kernel
theorem dX2_put_28 : decode cX2_put 28 = .ok (.invokevirtual 51, 3) := by decide +kernel
theorem dX2_put_31 : decode cX2_put 31 = .ok (.iload 5, 2) := by decide +kernel
theorem dX2_put_33 : decode cX2_put 33 = .ok (.ireturn, 1) := by decide +kernel
set_option maxRecDepth 20000 in
theorem ggX2_swap_X2_findCupboard : GoodIn wsX2_swap wsX2_findCupboard := goodIn_ca (goodIn_r _ [10, 11, 12, 13, 14, 39, 40, 41, 42, 43] (by decide +kernel) (by decide +kernel)) (goodIn_sub (fun _ h => List.mem_cons_of_mem _ (List.mem_append_right _ h)) (by decide +kernel))
set_option maxRecDepth 20000 in
theorem gX2_swap_X2_findCupboard : GoodIn wsX2_swap (wsV RX2 37 RX2 yX2_findCupboard wsX2_findCupboard) := goodIn_app (goodIn_of _ (by decide +kernel)) ggX2_swap_X2_findCupboard
set_option maxRecDepth 20000 in
theorem ggX2_swap_X2_checkDrawer : GoodIn wsX2_swap wsX2_checkDrawer := goodIn_ca (goodIn_r _ [17, 11, 12] (by decide +kernel) (by decide +kernel)) (goodIn_sub (fun _ h => List.mem_cons_of_mem _ (List.mem_append_right _ h)) (by decide +kernel))
set_option maxRecDepth 20000 in
theorem gX2_swap_X2_checkDrawer : GoodIn wsX2_swap (va_wsS RX2 41 yX2_checkDrawer wsX2_checkDrawer) := goodIn_app (goodIn_of _ (by decide +kernel)) ggX2_swap_X2_checkDrawer
set_option maxRecDepth 20000 in
theorem ggX2_swap_X0_lay : GoodIn wsX2_swap wsX0_lay := goodIn_r _ [21, 22, 23, 24, 25, 9, 26, 27, 28, 29, 30, 31, 32, 36, 37, 38] (by decide +kernel) (by decide +kernel)
set_option maxRecDepth 20000 in
theorem gX2_swap_X0_lay_n51 : GoodIn wsX2_swap (wsX0_lay) := ggX2_swap_X0_lay
set_option maxRecDepth 20000 in
theorem ggX2_swap_X2_placesApart : GoodIn wsX2_swap wsX2_placesApart := goodIn_r _ [35] (by decide +kernel) (by decide +kernel)
set_option maxRecDepth 20000 in
theorem gX2_swap_X2_placesApart : GoodIn wsX2_swap (va_wsS RX2 64 yX2_placesApart wsX2_placesApart) := goodIn_app (goodIn_of _ (by decide +kernel)) ggX2_swap_X2_placesApart
theorem dX2_swap_0 : decode cX2_swap 0 = .ok (.aload_n 0, 1) := by decide +kernel
theorem dX2_swap_1 : decode cX2_swap 1 = .ok (.iload_n 1, 1) := by decide +kernel
theorem dX2_swap_2 : decode cX2_swap 2 = .ok (.invokevirtual 37, 3) := by decide +kernel
theorem dX2_swap_5 : decode cX2_swap 5 = .ok (.astore 4, 2) := by decide +kernel
theorem dX2_swap_7 : decode cX2_swap 7 = .ok (.iload_n 2, 1) := by decide +kernel
theorem dX2_swap_8 : decode cX2_swap 8 = .ok (.invokestatic 41, 3) := by decide +kernel
theorem dX2_swap_11 : decode cX2_swap 11 = .ok (.iload_n 3, 1) := by decide +kernel
theorem dX2_swap_12 : decode cX2_swap 12 = .ok (.invokestatic 41, 3) := by decide +kernel
theorem dX2_swap_15 : decode cX2_swap 15 = .ok (.aload 4, 2) := by decide +kernel
theorem dX2_swap_17 : decode cX2_swap 17 = .ok (.getfield 55, 3) := by decide +kernel
theorem dX2_swap_20 : decode cX2_swap 20 = .ok (.iconst 0, 1) := by decide +kernel
theorem dX2_swap_21 : decode cX2_swap 21 = .ok (.aload_n 0, 1) := by decide +kernel
theorem dX2_swap_22 : decode cX2_swap 22 = .ok (.getfield 21, 3) := by decide +kernel
theorem dX2_swap_25 : decode cX2_swap 25 = .ok (.iconst 0, 1) := by decide +kernel
theorem dX2_swap_26 : decode cX2_swap 26 = .ok (.bipush 32, 2) := by decide +kernel
theorem dX2_swap_28 : decode cX2_swap 28 = .ok (.invokestatic 58, 3) := by decide +kernel
theorem dX2_swap_31 : decode cX2_swap 31 = .ok (.aload 4, 2) := by decide +kernel
theorem dX2_swap_33 : decode cX2_swap 33 = .ok (.getfield 48, 3) := by decide +kernel
theorem dX2_swap_36 : decode cX2_swap 36 = .ok (.iload_n 2, 1) := by decide +kernel
theorem dX2_swap_37 : decode cX2_swap 37 = .ok (.iaload, 1) := by decide +kernel
theorem dX2_swap_38 : decode cX2_swap 38 = .ok (.istore 5, 2) := by decide +kernel
theorem dX2_swap_40 : decode cX2_swap 40 = .ok (.aload 4, 2) := by decide +kernel
theorem dX2_swap_42 : decode cX2_swap 42 = .ok (.iload_n 2, 1) := by decide +kernel
theorem dX2_swap_43 : decode cX2_swap 43 = .ok (.aload 4, 2) := by decide +kernel
theorem dX2_swap_45 : decode cX2_swap 45 = .ok (.getfield 48, 3) := by decide +kernel
theorem dX2_swap_48 : decode cX2_swap 48 = .ok (.iload_n 3, 1) := by decide +kernel
theorem dX2_swap_49 : decode cX2_swap 49 = .ok (.iaload, 1) := by decide +kernel
theorem dX2_swap_50 : decode cX2_swap 50 = .ok (.invokevirtual 51, 3) := by decide +kernel
theorem dX2_swap_53 : decode cX2_swap 53 = .ok (.aload 4, 2) := by decide +kernel
theorem dX2_swap_55 : decode cX2_swap 55 = .ok (.iload_n 3, 1) := by decide +kernel
theorem dX2_swap_56 : decode cX2_swap 56 = .ok (.iload 5, 2) := by decide +kernel
theorem dX2_swap_58 : decode cX2_swap 58 = .ok (.invokevirtual 51, 3) := by decide +kernel
theorem dX2_swap_61 : decode cX2_swap 61 = .ok (.aload_n 0, 1) := by decide +kernel
theorem dX2_swap_62 : decode cX2_swap 62 = .ok (.getfield 21, 3) := by decide +kernel
theorem dX2_swap_65 : decode cX2_swap 65 = .ok (.aload 4, 2) := by decide +kernel
theorem dX2_swap_67 : decode cX2_swap 67 = .ok (.getfield 55, 3) := by decide +kernel
theorem dX2_swap_70 : decode cX2_swap 70 = .ok (.invokestatic 64, 3) := by decide +kernel
theorem dX2_swap_73 : decode cX2_swap 73 = .ok (.ireturn, 1) := by decide +kernel
set_option maxRecDepth 20000 in
theorem ggX2_sum_X2_findCupboard : GoodIn wsX2_sum wsX2_findCupboard := goodIn_ca (goodIn_r _ [7, 1, 2, 8, 9, 13, 14, 15, 16, 17] (by decide +kernel) (by decide +kernel)) (goodIn_sub (fun _ h => List.mem_cons_of_mem _ (List.mem_append_right _ h)) (by decide +kernel))
set_option maxRecDepth 20000 in
theorem gX2_sum_X2_findCupboard : GoodIn wsX2_sum (wsV RX2 37 RX2 yX2_findCupboard wsX2_findCupboard) := goodIn_app (goodIn_of _ (by decide +kernel)) ggX2_sum_X2_findCupboard
theorem dX2_sum_0 : decode cX2_sum 0 = .ok (.aload_n 0, 1) := by decide +kernel
theorem dX2_sum_1 : decode cX2_sum 1 = .ok (.iload_n 1, 1) := by decide +kernel
theorem dX2_sum_2 : decode cX2_sum 2 = .ok (.invokevirtual 37, 3) := by decide +kernel
theorem dX2_sum_5 : decode cX2_sum 5 = .ok (.astore_n 3, 1) := by decide +kernel
theorem dX2_sum_6 : decode cX2_sum 6 = .ok (.iload_n 2, 1) := by decide +kernel
theorem dX2_sum_7 : decode cX2_sum 7 = .ok (.iconst 1, 1) := by decide +kernel
theorem dX2_sum_8 : decode cX2_sum 8 = .ok (.if_icmp .lt 9, 3) := by decide +kernel
theorem dX2_sum_11 : decode cX2_sum 11 = .ok (.iload_n 2, 1) := by decide +kernel
theorem dX2_sum_12 : decode cX2_sum 12 = .ok (.bipush 31, 2) := by decide +kernel
theorem dX2_sum_14 : decode cX2_sum 14 = .ok (.if_icmp .le 13, 3) := by decide +kernel
theorem dX2_sum_17 : decode cX2_sum 17 = .ok (.new 68, 3) := by decide +kernel
theorem dX2_sum_20 : decode cX2_sum 20 = .ok (.dup, 1) := by decide +kernel
theorem dX2_sum_21 : decode cX2_sum 21 = .ok (.ldc 70, 2) := by decide +kernel
theorem dX2_sum_23 : decode cX2_sum 23 = .ok (.invokespecial 72, 3) := by decide +kernel
theorem dX2_sum_26 : decode cX2_sum 26 = .ok (.athrow, 1) := by decide +kernel
theorem dX2_sum_27 : decode cX2_sum 27 = .ok (.aload_n 3, 1) := by decide +kernel
theorem dX2_sum_28 : decode cX2_sum 28 = .ok (.getfield 55, 3) := by decide +kernel
theorem dX2_sum_31 : decode cX2_sum 31 = .ok (.iload_n 2, 1) := by decide +kernel
theorem dX2_sum_32 : decode cX2_sum 32 = .ok (.iaload, 1) := by decide +kernel
theorem dX2_sum_33 : decode cX2_sum 33 = .ok (.ireturn, 1) := by decide +kernel
set_option maxRecDepth 20000 in
theorem ggX2_told_X2_findCupboard : GoodIn wsX2_told wsX2_findCupboard := goodIn_ca (goodIn_r _ [5, 6, 7, 8, 9, 38, 39, 40, 41, 42] (by decide +kernel) (by decide +kernel)) (goodIn_sub (fun _ h => List.mem_cons_of_mem _ (List.mem_append_right _ h)) (by decide +kernel))
set_option maxRecDepth 20000 in
theorem gX2_told_X2_findCupboard : GoodIn wsX2_told (wsV RX2 37 RX2 yX2_findCupboard wsX2_findCupboard) := goodIn_app (goodIn_of _ (by decide +kernel)) ggX2_told_X2_findCupboard
set_option maxRecDepth 20000 in
theorem ggX2_told_X2_checkWhat : GoodIn wsX2_told wsX2_checkWhat := goodIn_ca (goodIn_r _ [12, 6, 7] (by decide +kernel) (by decide +kernel)) (goodIn_sub (fun _ h => List.mem_cons_of_mem _ (List.mem_append_right _ h)) (by decide +kernel))
set_option maxRecDepth 20000 in
theorem gX2_told_X2_checkWhat : GoodIn wsX2_told (va_wsS RX2 73 yX2_checkWhat wsX2_checkWhat) := goodIn_app (goodIn_of _ (by decide +kernel)) ggX2_told_X2_checkWhat
set_option maxRecDepth 20000 in
theorem ggX2_told_X0_root : GoodIn wsX2_told wsX0_root := goodIn_r _ [16, 17, 35, 36, 37] (by decide +kernel) (by decide +kernel)
set_option maxRecDepth 20000 in
theorem gX2_told_X0_root_n76 : GoodIn wsX2_told (wsX0_root) := ggX2_told_X0_root
set_option maxRecDepth 20000 in
theorem ggX2_told_X0_filledDrawers : GoodIn wsX2_told wsX0_filledDrawers := goodIn_r _ [20, 21, 35, 36, 37] (by decide +kernel) (by decide +kernel)
set_option maxRecDepth 20000 in
theorem gX2_told_X0_filledDrawers_n83 : GoodIn wsX2_told (wsX0_filledDrawers) := ggX2_told_X0_filledDrawers
set_option maxRecDepth 20000 in
theorem ggX2_told_X0_thingsAdded : GoodIn wsX2_told wsX0_thingsAdded := goodIn_r _ [24, 21, 35, 36, 37] (by decide +kernel) (by decide +kernel)
set_option maxRecDepth 20000 in
theorem gX2_told_X0_thingsAdded_n86 : GoodIn wsX2_told (wsX0_thingsAdded) := ggX2_told_X0_thingsAdded
set_option maxRecDepth 20000 in
theorem ggX2_told_X2_sealsOf : GoodIn wsX2_told wsX2_sealsOf := goodIn_r _ [28, 29, 30, 38, 39, 40, 41, 42, 43, 44, 45] (by decide +kernel) (by decide +kernel)
set_option maxRecDepth 20000 in
theorem gX2_told_X2_sealsOf : GoodIn wsX2_told (wsV RX2 89 RX2 yX2_sealsOf wsX2_sealsOf) := goodIn_app (goodIn_of _ (by decide +kernel)) ggX2_told_X2_sealsOf
set_option maxRecDepth 20000 in
theorem ggX2_told_X2_sealsKept : GoodIn wsX2_told wsX2_sealsKept := goodIn_r _ [34, 29, 30, 38, 39, 40, 41, 42, 43, 44, 45] (by decide +kernel) (by decide +kernel)
set_option maxRecDepth 20000 in
theorem gX2_told_X2_sealsKept : GoodIn wsX2_told (wsV RX2 93 RX2 yX2_sealsKept wsX2_sealsKept) := goodIn_app (goodIn_of _ (by decide +kernel)) ggX2_told_X2_sealsKept
theorem dX2_told_0 : decode cX2_told 0 = .ok (.aload_n 0, 1) := by decide +kernel
theorem dX2_told_1 : decode cX2_told 1 = .ok (.iload_n 1, 1) := by decide +kernel
theorem dX2_told_2 : decode cX2_told 2 = .ok (.invokevirtual 37, 3) := by decide +kernel
theorem dX2_told_5 : decode cX2_told 5 = .ok (.astore_n 3, 1) := by decide +kernel
theorem dX2_told_6 : decode cX2_told 6 = .ok (.iload_n 2, 1) := by decide +kernel
theorem dX2_told_7 : decode cX2_told 7 = .ok (.bipush 6, 2) := by decide +kernel
theorem dX2_told_9 : decode cX2_told 9 = .ok (.invokestatic 73, 3) := by decide +kernel
theorem dX2_told_12 : decode cX2_told 12 = .ok (.iload_n 2, 1) := by decide +kernel
theorem dX2_told_13 : decode cX2_told 13 = .ok (.tableswitch 61 0 4 #[35, 40, 45, 50, 55], 35) := by decide +kernel
theorem dX2_told_48 : decode cX2_told 48 = .ok (.aload_n 3, 1) := by decide +kernel
theorem dX2_told_49 : decode cX2_told 49 = .ok (.invokevirtual 76, 3) := by decide +kernel
theorem dX2_told_52 : decode cX2_told 52 = .ok (.ireturn, 1) := by decide +kernel
theorem dX2_told_53 : decode cX2_told 53 = .ok (.aload_n 3, 1) := by decide +kernel
theorem dX2_told_54 : decode cX2_told 54 = .ok (.getfield 80, 3) := by decide +kernel
theorem dX2_told_57 : decode cX2_told 57 = .ok (.ireturn, 1) := by decide +kernel
theorem dX2_told_58 : decode cX2_told 58 = .ok (.aload_n 3, 1) := by decide +kernel
theorem dX2_told_59 : decode cX2_told 59 = .ok (.invokevirtual 83, 3) := by decide +kernel
theorem dX2_told_62 : decode cX2_told 62 = .ok (.ireturn, 1) := by decide +kernel
theorem dX2_told_63 : decode cX2_told 63 = .ok (.aload_n 3, 1) := by decide +kernel
theorem dX2_told_64 : decode cX2_told 64 = .ok (.invokevirtual 86, 3) := by decide +kernel
theorem dX2_told_67 : decode cX2_told 67 = .ok (.ireturn, 1) := by decide +kernel
theorem dX2_told_68 : decode cX2_told 68 = .ok (.aload_n 0, 1) := by decide +kernel
theorem dX2_told_69 : decode cX2_told 69 = .ok (.iload_n 1, 1) := by decide +kernel
theorem dX2_told_70 : decode cX2_told 70 = .ok (.invokevirtual 89, 3) := by decide +kernel
theorem dX2_told_73 : decode cX2_told 73 = .ok (.ireturn, 1) := by decide +kernel
theorem dX2_told_74 : decode cX2_told 74 = .ok (.aload_n 0, 1) := by decide +kernel
theorem dX2_told_75 : decode cX2_told 75 = .ok (.iload_n 1, 1) := by decide +kernel
theorem dX2_told_76 : decode cX2_told 76 = .ok (.aload_n 3, 1) := by decide +kernel
theorem dX2_told_77 : decode cX2_told 77 = .ok (.invokevirtual 76, 3) := by decide +kernel
theorem dX2_told_80 : decode cX2_told 80 = .ok (.invokevirtual 93, 3) := by decide +kernel
theorem dX2_told_83 : decode cX2_told 83 = .ok (.ireturn, 1) := by decide +kernel
set_option maxRecDepth 20000 in
theorem ggX2_thing_X2_findCupboard : GoodIn wsX2_thing wsX2_findCupboard := goodIn_ca (goodIn_r _ [5, 6, 7, 8, 9, 16, 17, 18, 19, 20] (by decide +kernel) (by decide +kernel)) (goodIn_sub (fun _ h => List.mem_cons_of_mem _ (List.mem_append_right _ h)) (by decide +kernel))
set_option maxRecDepth 20000 in
theorem gX2_thing_X2_findCupboard : GoodIn wsX2_thing (wsV RX2 37 RX2 yX2_findCupboard wsX2_findCupboard) := goodIn_app (goodIn_of _ (by decide +kernel)) ggX2_thing_X2_findCupboard
set_option maxRecDepth 20000 in
theorem ggX2_thing_X2_checkDrawer : GoodIn wsX2_thing wsX2_checkDrawer := goodIn_ca (goodIn_r _ [12, 6, 7] (by decide +kernel) (by decide +kernel)) (goodIn_sub (fun _ h => List.mem_cons_of_mem _ (List.mem_append_right _ h)) (by decide +kernel))
set_option maxRecDepth 20000 in
theorem gX2_thing_X2_checkDrawer : GoodIn wsX2_thing (va_wsS RX2 41 yX2_checkDrawer wsX2_checkDrawer) := goodIn_app (goodIn_of _ (by decide +kernel)) ggX2_thing_X2_checkDrawer
theorem dX2_thing_0 : decode cX2_thing 0 = .ok (.aload_n 0, 1) := by decide +kernel
theorem dX2_thing_1 : decode cX2_thing 1 = .ok (.iload_n 1, 1) := by decide +kernel
theorem dX2_thing_2 : decode cX2_thing 2 = .ok (.invokevirtual 37, 3) := by decide +kernel
theorem dX2_thing_5 : decode cX2_thing 5 = .ok (.astore_n 3, 1) := by decide +kernel
theorem dX2_thing_6 : decode cX2_thing 6 = .ok (.iload_n 2, 1) := by decide +kernel
theorem dX2_thing_7 : decode cX2_thing 7 = .ok (.invokestatic 41, 3) := by decide +kernel
theorem dX2_thing_10 : decode cX2_thing 10 = .ok (.aload_n 3, 1) := by decide +kernel
theorem dX2_thing_11 : decode cX2_thing 11 = .ok (.getfield 48, 3) := by decide +kernel
theorem dX2_thing_14 : decode cX2_thing 14 = .ok (.iload_n 2, 1) := by decide +kernel
theorem dX2_thing_15 : decode cX2_thing 15 = .ok (.iaload, 1) := by decide +kernel
theorem dX2_thing_16 : decode cX2_thing 16 = .ok (.ireturn, 1) := by decide +kernel
set_option maxRecDepth 20000 in
theorem ggX2_seal_X2_findCupboard : GoodIn wsX2_seal wsX2_findCupboard := goodIn_ca (goodIn_r _ [12, 13, 14, 15, 16, 30, 31, 32, 33, 34] (by decide +kernel) (by decide +kernel)) (goodIn_sub (fun _ h => List.mem_cons_of_mem _ (List.mem_append_right _ h)) (by decide +kernel))
set_option maxRecDepth 20000 in
theorem gX2_seal_X2_findCupboard : GoodIn wsX2_seal (wsV RX2 37 RX2 yX2_findCupboard wsX2_findCupboard) := goodIn_app (goodIn_of _ (by decide +kernel)) ggX2_seal_X2_findCupboard
set_option maxRecDepth 20000 in
theorem ggX2_seal_X0_root : GoodIn wsX2_seal wsX0_root := goodIn_r _ [20, 21, 38, 39, 40] (by decide +kernel) (by decide +kernel)
set_option maxRecDepth 20000 in
theorem gX2_seal_X0_root_n76 : GoodIn wsX2_seal (wsX0_root) := ggX2_seal_X0_root
set_option maxRecDepth 20000 in
theorem ggX2_seal_X1_init : GoodIn wsX2_seal wsX1_init := goodIn_r _ [23, 24, 25, 26, 27, 28, 29, 35, 36, 37] (by decide +kernel) (by decide +kernel)
set_option maxRecDepth 20000 in
theorem gX2_seal_X1_init_n102 : GoodIn wsX2_seal (wsX1_init) := ggX2_seal_X1_init
theorem dX2_seal_0 : decode cX2_seal 0 = .ok (.aload_n 0, 1) := by decide +kernel
theorem dX2_seal_1 : decode cX2_seal 1 = .ok (.iload_n 1, 1) := by decide +kernel
theorem dX2_seal_2 : decode cX2_seal 2 = .ok (.invokevirtual 37, 3) := by decide +kernel
theorem dX2_seal_5 : decode cX2_seal 5 = .ok (.astore_n 2, 1) := by decide +kernel
theorem dX2_seal_6 : decode cX2_seal 6 = .ok (.aload_n 0, 1) := by decide +kernel
theorem dX2_seal_7 : decode cX2_seal 7 = .ok (.getfield 97, 3) := by decide +kernel
theorem dX2_seal_10 : decode cX2_seal 10 = .ok (.bipush 20, 2) := by decide +kernel
theorem dX2_seal_12 : decode cX2_seal 12 = .ok (.if_icmp .lt 13, 3) := by decide +kernel
theorem dX2_seal_15 : decode cX2_seal 15 = .ok (.new 29, 3) := by decide +kernel
theorem dX2_seal_18 : decode cX2_seal 18 = .ok (.dup, 1) := by decide +kernel
theorem dX2_seal_19 : decode cX2_seal 19 = .ok (.ldc 100, 2) := by decide +kernel
theorem dX2_seal_21 : decode cX2_seal 21 = .ok (.invokespecial 33, 3) := by decide +kernel
theorem dX2_seal_24 : decode cX2_seal 24 = .ok (.athrow, 1) := by decide +kernel
theorem dX2_seal_25 : decode cX2_seal 25 = .ok (.aload_n 0, 1) := by decide +kernel
theorem dX2_seal_26 : decode cX2_seal 26 = .ok (.getfield 17, 3) := by decide +kernel
theorem dX2_seal_29 : decode cX2_seal 29 = .ok (.aload_n 0, 1) := by decide +kernel
theorem dX2_seal_30 : decode cX2_seal 30 = .ok (.getfield 97, 3) := by decide +kernel
theorem dX2_seal_33 : decode cX2_seal 33 = .ok (.new 15, 3) := by decide +kernel
theorem dX2_seal_36 : decode cX2_seal 36 = .ok (.dup, 1) := by decide +kernel
theorem dX2_seal_37 : decode cX2_seal 37 = .ok (.iload_n 1, 1) := by decide +kernel
theorem dX2_seal_38 : decode cX2_seal 38 = .ok (.aload_n 2, 1) := by decide +kernel
theorem dX2_seal_39 : decode cX2_seal 39 = .ok (.invokevirtual 76, 3) := by decide +kernel
theorem dX2_seal_42 : decode cX2_seal 42 = .ok (.aload_n 2, 1) := by decide +kernel
theorem dX2_seal_43 : decode cX2_seal 43 = .ok (.getfield 80, 3) := by decide +kernel
theorem dX2_seal_46 : decode cX2_seal 46 = .ok (.invokespecial 102, 3) := by decide +kernel
theorem dX2_seal_49 : decode cX2_seal 49 = .ok (.aastore, 1) := by decide +kernel
theorem dX2_seal_50 : decode cX2_seal 50 = .ok (.aload_n 0, 1) := by decide +kernel
theorem dX2_seal_51 : decode cX2_seal 51 = .ok (.dup, 1) := by decide +kernel
theorem dX2_seal_52 : decode cX2_seal 52 = .ok (.getfield 97, 3) := by decide +kernel
theorem dX2_seal_55 : decode cX2_seal 55 = .ok (.iconst 1, 1) := by decide +kernel
theorem dX2_seal_56 : decode cX2_seal 56 = .ok (.iadd, 1) := by decide +kernel
theorem dX2_seal_57 : decode cX2_seal 57 = .ok (.putfield 97, 3) := by decide +kernel
theorem dX2_seal_60 : decode cX2_seal 60 = .ok (.aload_n 0, 1) := by decide +kernel
theorem dX2_seal_61 : decode cX2_seal 61 = .ok (.getfield 97, 3) := by decide +kernel
theorem dX2_seal_64 : decode cX2_seal 64 = .ok (.iconst 1, 1) := by decide +kernel
theorem dX2_seal_65 : decode cX2_seal 65 = .ok (.isub, 1) := by decide +kernel
theorem dX2_seal_66 : decode cX2_seal 66 = .ok (.ireturn, 1) := by decide +kernel
set_option maxRecDepth 20000 in
theorem ggX2_about_X2_findSeal : GoodIn wsX2_about wsX2_findSeal := goodIn_ca (goodIn_r _ [5, 6, 7, 8, 9, 25, 26, 27, 28, 29] (by decide +kernel) (by decide +kernel)) (goodIn_sub (fun _ h => List.mem_cons_of_mem _ (List.mem_append_right _ h)) (by decide +kernel))
set_option maxRecDepth 20000 in
theorem gX2_about_X2_findSeal : GoodIn wsX2_about (wsV RX2 105 RX2 yX2_findSeal wsX2_findSeal) := goodIn_app (goodIn_of _ (by decide +kernel)) ggX2_about_X2_findSeal
set_option maxRecDepth 20000 in
theorem ggX2_about_X2_checkWhat : GoodIn wsX2_about wsX2_checkWhat := goodIn_ca (goodIn_r _ [12, 6, 7] (by decide +kernel) (by decide +kernel)) (goodIn_sub (fun _ h => List.mem_cons_of_mem _ (List.mem_append_right _ h)) (by decide +kernel))
set_option maxRecDepth 20000 in
theorem gX2_about_X2_checkWhat : GoodIn wsX2_about (va_wsS RX2 73 yX2_checkWhat wsX2_checkWhat) := goodIn_app (goodIn_of _ (by decide +kernel)) ggX2_about_X2_checkWhat
set_option maxRecDepth 20000 in
theorem ggX2_about_X2_findCupboard : GoodIn wsX2_about wsX2_findCupboard := goodIn_ca (goodIn_r _ [16, 6, 7, 17, 18, 25, 26, 27, 28, 29] (by decide +kernel) (by decide +kernel)) (goodIn_sub (fun _ h => List.mem_cons_of_mem _ (List.mem_append_right _ h)) (by decide +kernel))
set_option maxRecDepth 20000 in
theorem gX2_about_X2_findCupboard : GoodIn wsX2_about (wsV RX2 37 RX2 yX2_findCupboard wsX2_findCupboard) := goodIn_app (goodIn_of _ (by decide +kernel)) ggX2_about_X2_findCupboard
theorem dX2_about_0 : decode cX2_about 0 = .ok (.aload_n 0, 1) := by decide +kernel
theorem dX2_about_1 : decode cX2_about 1 = .ok (.iload_n 1, 1) := by decide +kernel
theorem dX2_about_2 : decode cX2_about 2 = .ok (.invokevirtual 105, 3) := by decide +kernel
theorem dX2_about_5 : decode cX2_about 5 = .ok (.astore_n 3, 1) := by decide +kernel
theorem dX2_about_6 : decode cX2_about 6 = .ok (.iload_n 2, 1) := by decide +kernel
theorem dX2_about_7 : decode cX2_about 7 = .ok (.iconst 4, 1) := by decide +kernel
theorem dX2_about_8 : decode cX2_about 8 = .ok (.invokestatic 73, 3) := by decide +kernel
theorem dX2_about_11 : decode cX2_about 11 = .ok (.iload_n 2, 1) := by decide +kernel
theorem dX2_about_12 : decode cX2_about 12 = .ok (.tableswitch 43 0 2 #[28, 33, 38], 28) := by decide +kernel
theorem dX2_about_40 : decode cX2_about 40 = .ok (.aload_n 3, 1) := by decide +kernel
theorem dX2_about_41 : decode cX2_about 41 = .ok (.getfield 109, 3) := by decide +kernel
theorem dX2_about_44 : decode cX2_about 44 = .ok (.ireturn, 1) := by decide +kernel
theorem dX2_about_45 : decode cX2_about 45 = .ok (.aload_n 3, 1) := by decide +kernel
theorem dX2_about_46 : decode cX2_about 46 = .ok (.getfield 112, 3) := by decide +kernel
theorem dX2_about_49 : decode cX2_about 49 = .ok (.ireturn, 1) := by decide +kernel
theorem dX2_about_50 : decode cX2_about 50 = .ok (.aload_n 3, 1) := by decide +kernel
theorem dX2_about_51 : decode cX2_about 51 = .ok (.getfield 114, 3) := by decide +kernel
theorem dX2_about_54 : decode cX2_about 54 = .ok (.ireturn, 1) := by decide +kernel
theorem dX2_about_55 : decode cX2_about 55 = .ok (.aload_n 0, 1) := by decide +kernel
theorem dX2_about_56 : decode cX2_about 56 = .ok (.aload_n 3, 1) := by decide +kernel
theorem dX2_about_57 : decode cX2_about 57 = .ok (.getfield 109, 3) := by decide +kernel
theorem dX2_about_60 : decode cX2_about 60 = .ok (.invokevirtual 37, 3) := by decide +kernel
theorem dX2_about_63 : decode cX2_about 63 = .ok (.getfield 80, 3) := by decide +kernel
theorem dX2_about_66 : decode cX2_about 66 = .ok (.aload_n 3, 1) := by decide +kernel
theorem dX2_about_67 : decode cX2_about 67 = .ok (.getfield 114, 3) := by decide +kernel
theorem dX2_about_70 : decode cX2_about 70 = .ok (.isub, 1) := by decide +kernel
theorem dX2_about_71 : decode cX2_about 71 = .ok (.ireturn, 1) := by decide +kernel
set_option maxRecDepth 20000 in
theorem ggX2_proof_X2_findCupboard : GoodIn wsX2_proof wsX2_findCupboard := goodIn_ca (goodIn_r _ [7, 1, 2, 8, 9, 18, 19, 20, 21, 22] (by decide +kernel) (by decide +kernel)) (goodIn_sub (fun _ h => List.mem_cons_of_mem _ (List.mem_append_right _ h)) (by decide +kernel))
set_option maxRecDepth 20000 in
theorem gX2_proof_X2_findCupboard : GoodIn wsX2_proof (wsV RX2 37 RX2 yX2_findCupboard wsX2_findCupboard) := goodIn_app (goodIn_of _ (by decide +kernel)) ggX2_proof_X2_findCupboard
set_option maxRecDepth 20000 in
theorem ggX2_proof_X2_checkDrawer : GoodIn wsX2_proof wsX2_checkDrawer := goodIn_ca (goodIn_r _ [12, 1, 2] (by decide +kernel) (by decide +kernel)) (goodIn_sub (fun _ h => List.mem_cons_of_mem _ (List.mem_append_right _ h)) (by decide +kernel))
set_option maxRecDepth 20000 in
theorem gX2_proof_X2_checkDrawer : GoodIn wsX2_proof (va_wsS RX2 41 yX2_checkDrawer wsX2_checkDrawer) := goodIn_app (goodIn_of _ (by decide +kernel)) ggX2_proof_X2_checkDrawer
set_option maxRecDepth 20000 in
theorem ggX2_proof_X0_proofSum : GoodIn wsX2_proof wsX0_proofSum := goodIn_r _ [16, 17, 23, 24, 25] (by decide +kernel) (by decide +kernel)
set_option maxRecDepth 20000 in
theorem gX2_proof_X0_proofSum_n117 : GoodIn wsX2_proof (wsX0_proofSum) := ggX2_proof_X0_proofSum
theorem dX2_proof_0 : decode cX2_proof 0 = .ok (.aload_n 0, 1) := by decide +kernel
theorem dX2_proof_1 : decode cX2_proof 1 = .ok (.iload_n 1, 1) := by decide +kernel
theorem dX2_proof_2 : decode cX2_proof 2 = .ok (.invokevirtual 37, 3) := by decide +kernel
theorem dX2_proof_5 : decode cX2_proof 5 = .ok (.astore 4, 2) := by decide +kernel
theorem dX2_proof_7 : decode cX2_proof 7 = .ok (.iload_n 2, 1) := by decide +kernel
theorem dX2_proof_8 : decode cX2_proof 8 = .ok (.invokestatic 41, 3) := by decide +kernel
theorem dX2_proof_11 : decode cX2_proof 11 = .ok (.iload_n 3, 1) := by decide +kernel
theorem dX2_proof_12 : decode cX2_proof 12 = .ok (.ifCond .lt 8, 3) := by decide +kernel
theorem dX2_proof_15 : decode cX2_proof 15 = .ok (.iload_n 3, 1) := by decide +kernel
theorem dX2_proof_16 : decode cX2_proof 16 = .ok (.iconst 4, 1) := by decide +kernel
theorem dX2_proof_17 : decode cX2_proof 17 = .ok (.if_icmp .lt 13, 3) := by decide +kernel
theorem dX2_proof_20 : decode cX2_proof 20 = .ok (.new 68, 3) := by decide +kernel
theorem dX2_proof_23 : decode cX2_proof 23 = .ok (.dup, 1) := by decide +kernel
theorem dX2_proof_24 : decode cX2_proof 24 = .ok (.ldc 115, 2) := by decide +kernel
theorem dX2_proof_26 : decode cX2_proof 26 = .ok (.invokespecial 72, 3) := by decide +kernel
theorem dX2_proof_29 : decode cX2_proof 29 = .ok (.athrow, 1) := by decide +kernel
theorem dX2_proof_30 : decode cX2_proof 30 = .ok (.aload 4, 2) := by decide +kernel
theorem dX2_proof_32 : decode cX2_proof 32 = .ok (.iload_n 2, 1) := by decide +kernel
theorem dX2_proof_33 : decode cX2_proof 33 = .ok (.iload_n 3, 1) := by decide +kernel
theorem dX2_proof_34 : decode cX2_proof 34 = .ok (.invokevirtual 117, 3) := by decide +kernel
theorem dX2_proof_37 : decode cX2_proof 37 = .ok (.ireturn, 1) := by decide +kernel
set_option maxRecDepth 20000 in
theorem ggX2_comes_X2_checkDrawer : GoodIn wsX2_comes wsX2_checkDrawer := goodIn_ca (goodIn_r _ [4, 5, 6] (by decide +kernel) (by decide +kernel)) (goodIn_sub (fun _ h => List.mem_cons_of_mem _ (List.mem_append_left _ (List.mem_append_right _ h))) (by decide +kernel))
set_option maxRecDepth 20000 in
theorem gX2_comes_X2_checkDrawer : GoodIn wsX2_comes (va_wsS RX2 41 yX2_checkDrawer wsX2_checkDrawer) := goodIn_app (goodIn_of _ (by decide +kernel)) ggX2_comes_X2_checkDrawer
set_option maxRecDepth 20000 in
theorem ggX2_comes_X2_checkThing : GoodIn wsX2_comes wsX2_checkThing := goodIn_ca (goodIn_r _ [9, 10, 11] (by decide +kernel) (by decide +kernel)) (goodIn_sub (fun _ h => List.mem_cons_of_mem _ (List.mem_append_right _ h)) (by decide +kernel))
set_option maxRecDepth 20000 in
theorem gX2_comes_X2_checkThing : GoodIn wsX2_comes (va_wsS RX2 45 yX2_checkThing wsX2_checkThing) := goodIn_app (goodIn_of _ (by decide +kernel)) ggX2_comes_X2_checkThing
set_option maxRecDepth 20000 in
theorem ggX2_comes_X2_checkSum : GoodIn wsX2_comes wsX2_checkSum := goodIn_ca (goodIn_r _ [14, 10, 11] (by decide +kernel) (by decide +kernel)) (goodIn_sub (fun _ h => List.mem_cons_of_mem _ (List.mem_append_right _ h)) (by decide +kernel))
set_option maxRecDepth 20000 in
theorem gX2_comes_X2_checkSum : GoodIn wsX2_comes (va_wsS RX2 120 yX2_checkSum wsX2_checkSum) := goodIn_app (goodIn_of _ (by decide +kernel)) ggX2_comes_X2_checkSum
set_option maxRecDepth 20000 in
theorem ggX2_comes_X2_sumOfThing : GoodIn wsX2_comes wsX2_sumOfThing := goodIn_r _ [17] (by decide +kernel) (by decide +kernel)
set_option maxRecDepth 20000 in
theorem gX2_comes_X2_sumOfThing : GoodIn wsX2_comes (va_wsS RX2 123 yX2_sumOfThing wsX2_sumOfThing) := goodIn_app (goodIn_of _ (by decide +kernel)) ggX2_comes_X2_sumOfThing
set_option maxRecDepth 20000 in
theorem ggX2_comes_X2_sumAbove : GoodIn wsX2_comes wsX2_sumAbove := goodIn_r _ [20, 21, 22, 3, 23] (by decide +kernel) (by decide +kernel)
set_option maxRecDepth 20000 in
theorem gX2_comes_X2_sumAbove : GoodIn wsX2_comes (va_wsS RX2 126 yX2_sumAbove wsX2_sumAbove) := goodIn_app (goodIn_of _ (by decide +kernel)) ggX2_comes_X2_sumAbove
theorem dX2_comes_0 : decode cX2_comes 0 = .ok (.iload_n 1, 1) := by decide +kernel
theorem dX2_comes_1 : decode cX2_comes 1 = .ok (.invokestatic 41, 3) := by decide +kernel
theorem dX2_comes_4 : decode cX2_comes 4 = .ok (.iload_n 2, 1) := by decide +kernel
theorem dX2_comes_5 : decode cX2_comes 5 = .ok (.invokestatic 45, 3) := by decide +kernel
theorem dX2_comes_8 : decode cX2_comes 8 = .ok (.iload_n 3, 1) := by decide +kernel
theorem dX2_comes_9 : decode cX2_comes 9 = .ok (.invokestatic 120, 3) := by decide +kernel
theorem dX2_comes_12 : decode cX2_comes 12 = .ok (.iload 4, 2) := by decide +kernel
theorem dX2_comes_14 : decode cX2_comes 14 = .ok (.invokestatic 120, 3) := by decide +kernel
theorem dX2_comes_17 : decode cX2_comes 17 = .ok (.iload 5, 2) := by decide +kernel
theorem dX2_comes_19 : decode cX2_comes 19 = .ok (.invokestatic 120, 3) := by decide +kernel
theorem dX2_comes_22 : decode cX2_comes 22 = .ok (.iload 6, 2) := by decide +kernel
theorem dX2_comes_24 : decode cX2_comes 24 = .ok (.invokestatic 120, 3) := by decide +kernel
theorem dX2_comes_27 : decode cX2_comes 27 = .ok (.bipush 16, 2) := by decide +kernel
theorem dX2_comes_29 : decode cX2_comes 29 = .ok (.iload_n 1, 1) := by decide +kernel
theorem dX2_comes_30 : decode cX2_comes 30 = .ok (.iadd, 1) := by decide +kernel
theorem dX2_comes_31 : decode cX2_comes 31 = .ok (.istore 7, 2) := by decide +kernel
theorem dX2_comes_33 : decode cX2_comes 33 = .ok (.iload_n 1, 1) := by decide +kernel
theorem dX2_comes_34 : decode cX2_comes 34 = .ok (.iload_n 2, 1) := by decide +kernel
theorem dX2_comes_35 : decode cX2_comes 35 = .ok (.invokestatic 123, 3) := by decide +kernel
theorem dX2_comes_38 : decode cX2_comes 38 = .ok (.istore 8, 2) := by decide +kernel
theorem dX2_comes_40 : decode cX2_comes 40 = .ok (.iload 7, 2) := by decide +kernel
theorem dX2_comes_42 : decode cX2_comes 42 = .ok (.iload 8, 2) := by decide +kernel
theorem dX2_comes_44 : decode cX2_comes 44 = .ok (.iload_n 3, 1) := by decide +kernel
theorem dX2_comes_45 : decode cX2_comes 45 = .ok (.invokestatic 126, 3) := by decide +kernel
theorem dX2_comes_48 : decode cX2_comes 48 = .ok (.istore 8, 2) := by decide +kernel
theorem dX2_comes_50 : decode cX2_comes 50 = .ok (.iload 7, 2) := by decide +kernel
theorem dX2_comes_52 : decode cX2_comes 52 = .ok (.iconst 1, 1) := by decide +kernel
theorem dX2_comes_53 : decode cX2_comes 53 = .ok (.ishr, 1) := by decide +kernel
theorem dX2_comes_54 : decode cX2_comes 54 = .ok (.iload 8, 2) := by decide +kernel
theorem dX2_comes_56 : decode cX2_comes 56 = .ok (.iload 4, 2) := by decide +kernel
theorem dX2_comes_58 : decode cX2_comes 58 = .ok (.invokestatic 126, 3) := by decide +kernel
theorem dX2_comes_61 : decode cX2_comes 61 = .ok (.istore 8, 2) := by decide +kernel
theorem dX2_comes_63 : decode cX2_comes 63 = .ok (.iload 7, 2) := by decide +kernel
theorem dX2_comes_65 : decode cX2_comes 65 = .ok (.iconst 2, 1) := by decide +kernel
theorem dX2_comes_66 : decode cX2_comes 66 = .ok (.ishr, 1) := by decide +kernel
theorem dX2_comes_67 : decode cX2_comes 67 = .ok (.iload 8, 2) := by decide +kernel
theorem dX2_comes_69 : decode cX2_comes 69 = .ok (.iload 5, 2) := by decide +kernel
theorem dX2_comes_71 : decode cX2_comes 71 = .ok (.invokestatic 126, 3) := by decide +kernel
theorem dX2_comes_74 : decode cX2_comes 74 = .ok (.istore 8, 2) := by decide +kernel
theorem dX2_comes_76 : decode cX2_comes 76 = .ok (.iload 7, 2) := by decide +kernel
theorem dX2_comes_78 : decode cX2_comes 78 = .ok (.iconst 3, 1) := by decide +kernel
theorem dX2_comes_79 : decode cX2_comes 79 = .ok (.ishr, 1) := by decide +kernel
theorem dX2_comes_80 : decode cX2_comes 80 = .ok (.iload 8, 2) := by decide +kernel
theorem dX2_comes_82 : decode cX2_comes 82 = .ok (.iload 6, 2) := by decide +kernel
theorem dX2_comes_84 : decode cX2_comes 84 = .ok (.invokestatic 126, 3) := by decide +kernel
theorem dX2_comes_87 : decode cX2_comes 87 = .ok (.ireturn, 1) := by decide +kernel
set_option maxRecDepth 20000 in
theorem ggX2_proves_X2_findSeal : GoodIn wsX2_proves wsX2_findSeal := goodIn_ca (goodIn_r _ [5, 6, 7, 8, 9, 41, 42, 43, 44, 45] (by decide +kernel) (by decide +kernel)) (goodIn_sub (fun _ h => List.mem_cons_of_mem _ (List.mem_append_left _ (List.mem_append_right _ h))) (by decide +kernel))
set_option maxRecDepth 20000 in
theorem gX2_proves_X2_findSeal : GoodIn wsX2_proves (wsV RX2 105 RX2 yX2_findSeal wsX2_findSeal) := goodIn_app (goodIn_of _ (by decide +kernel)) ggX2_proves_X2_findSeal
set_option maxRecDepth 20000 in
theorem ggX2_proves_X2_checkDrawer : GoodIn wsX2_proves wsX2_checkDrawer := goodIn_ca (goodIn_r _ [12, 6, 7] (by decide +kernel) (by decide +kernel)) (goodIn_sub (fun _ h => List.mem_cons_of_mem _ (List.mem_append_left _ (List.mem_append_right _ h))) (by decide +kernel))
set_option maxRecDepth 20000 in
theorem gX2_proves_X2_checkDrawer : GoodIn wsX2_proves (va_wsS RX2 41 yX2_checkDrawer wsX2_checkDrawer) := goodIn_app (goodIn_of _ (by decide +kernel)) ggX2_proves_X2_checkDrawer
set_option maxRecDepth 20000 in
theorem ggX2_proves_X2_checkThing : GoodIn wsX2_proves wsX2_checkThing := goodIn_ca (goodIn_r _ [15, 16, 17] (by decide +kernel) (by decide +kernel)) (goodIn_sub (fun _ h => List.mem_cons_of_mem _ (List.mem_append_right _ h)) (by decide +kernel))
set_option maxRecDepth 20000 in
theorem gX2_proves_X2_checkThing : GoodIn wsX2_proves (va_wsS RX2 45 yX2_checkThing wsX2_checkThing) := goodIn_app (goodIn_of _ (by decide +kernel)) ggX2_proves_X2_checkThing
set_option maxRecDepth 20000 in
theorem ggX2_proves_X2_findCupboard : GoodIn wsX2_proves wsX2_findCupboard := goodIn_ca (goodIn_r _ [21, 6, 7, 22, 23, 41, 42, 43, 44, 45] (by decide +kernel) (by decide +kernel)) (goodIn_sub (fun _ h => List.mem_cons_of_mem _ (List.mem_append_left _ (List.mem_append_right _ h))) (by decide +kernel))
set_option maxRecDepth 20000 in
theorem gX2_proves_X2_findCupboard : GoodIn wsX2_proves (wsV RX2 37 RX2 yX2_findCupboard wsX2_findCupboard) := goodIn_app (goodIn_of _ (by decide +kernel)) ggX2_proves_X2_findCupboard
set_option maxRecDepth 20000 in
theorem ggX2_proves_X2_sumOfThing : GoodIn wsX2_proves wsX2_sumOfThing := goodIn_r _ [26] (by decide +kernel) (by decide +kernel)
set_option maxRecDepth 20000 in
theorem gX2_proves_X2_sumOfThing : GoodIn wsX2_proves (va_wsS RX2 123 yX2_sumOfThing wsX2_sumOfThing) := goodIn_app (goodIn_of _ (by decide +kernel)) ggX2_proves_X2_sumOfThing
set_option maxRecDepth 20000 in
theorem ggX2_proves_X0_proofSum : GoodIn wsX2_proves wsX0_proofSum := goodIn_r _ [30, 31, 46, 47, 48] (by decide +kernel) (by decide +kernel)
set_option maxRecDepth 20000 in
theorem gX2_proves_X0_proofSum_n117 : GoodIn wsX2_proves (wsX0_proofSum) := ggX2_proves_X0_proofSum
set_option maxRecDepth 20000 in
theorem ggX2_proves_X2_sumAbove : GoodIn wsX2_proves wsX2_sumAbove := goodIn_r _ [34, 35, 36, 4, 37] (by decide +kernel) (by decide +kernel)
set_option maxRecDepth 20000 in
theorem gX2_proves_X2_sumAbove : GoodIn wsX2_proves (va_wsS RX2 126 yX2_sumAbove wsX2_sumAbove) := goodIn_app (goodIn_of _ (by decide +kernel)) ggX2_proves_X2_sumAbove
theorem dX2_proves_0 : decode cX2_proves 0 = .ok (.aload_n 0, 1) := by decide +kernel
theorem dX2_proves_1 : decode cX2_proves 1 = .ok (.iload_n 1, 1) := by decide +kernel
theorem dX2_proves_2 : decode cX2_proves 2 = .ok (.invokevirtual 105, 3) := by decide +kernel
theorem dX2_proves_5 : decode cX2_proves 5 = .ok (.astore 4, 2) := by decide +kernel
theorem dX2_proves_7 : decode cX2_proves 7 = .ok (.iload_n 2, 1) := by decide +kernel
theorem dX2_proves_8 : decode cX2_proves 8 = .ok (.invokestatic 41, 3) := by decide +kernel
theorem dX2_proves_11 : decode cX2_proves 11 = .ok (.iload_n 3, 1) := by decide +kernel
theorem dX2_proves_12 : decode cX2_proves 12 = .ok (.invokestatic 45, 3) := by decide +kernel
theorem dX2_proves_15 : decode cX2_proves 15 = .ok (.aload_n 0, 1) := by decide +kernel
theorem dX2_proves_16 : decode cX2_proves 16 = .ok (.aload 4, 2) := by decide +kernel
theorem dX2_proves_18 : decode cX2_proves 18 = .ok (.getfield 109, 3) := by decide +kernel
theorem dX2_proves_21 : decode cX2_proves 21 = .ok (.invokevirtual 37, 3) := by decide +kernel
theorem dX2_proves_24 : decode cX2_proves 24 = .ok (.astore 5, 2) := by decide +kernel
theorem dX2_proves_26 : decode cX2_proves 26 = .ok (.iload_n 2, 1) := by decide +kernel
theorem dX2_proves_27 : decode cX2_proves 27 = .ok (.iload_n 3, 1) := by decide +kernel
theorem dX2_proves_28 : decode cX2_proves 28 = .ok (.invokestatic 123, 3) := by decide +kernel
theorem dX2_proves_31 : decode cX2_proves 31 = .ok (.istore 6, 2) := by decide +kernel
theorem dX2_proves_33 : decode cX2_proves 33 = .ok (.iconst 0, 1) := by decide +kernel
theorem dX2_proves_34 : decode cX2_proves 34 = .ok (.istore 7, 2) := by decide +kernel
theorem dX2_proves_36 : decode cX2_proves 36 = .ok (.iload 7, 2) := by decide +kernel
theorem dX2_proves_38 : decode cX2_proves 38 = .ok (.iconst 4, 1) := by decide +kernel
theorem dX2_proves_39 : decode cX2_proves 39 = .ok (.if_icmp .ge 31, 3) := by decide +kernel
theorem dX2_proves_42 : decode cX2_proves 42 = .ok (.bipush 16, 2) := by decide +kernel
theorem dX2_proves_44 : decode cX2_proves 44 = .ok (.iload_n 2, 1) := by decide +kernel
theorem dX2_proves_45 : decode cX2_proves 45 = .ok (.iadd, 1) := by decide +kernel
theorem dX2_proves_46 : decode cX2_proves 46 = .ok (.iload 7, 2) := by decide +kernel
theorem dX2_proves_48 : decode cX2_proves 48 = .ok (.ishr, 1) := by decide +kernel
theorem dX2_proves_49 : decode cX2_proves 49 = .ok (.iload 6, 2) := by decide +kernel
theorem dX2_proves_51 : decode cX2_proves 51 = .ok (.aload 5, 2) := by decide +kernel
theorem dX2_proves_53 : decode cX2_proves 53 = .ok (.iload_n 2, 1) := by decide +kernel
theorem dX2_proves_54 : decode cX2_proves 54 = .ok (.iload 7, 2) := by decide +kernel
theorem dX2_proves_56 : decode cX2_proves 56 = .ok (.invokevirtual 117, 3) := by decide +kernel
theorem dX2_proves_59 : decode cX2_proves 59 = .ok (.invokestatic 126, 3) := by decide +kernel
theorem dX2_proves_62 : decode cX2_proves 62 = .ok (.istore 6, 2) := by decide +kernel
theorem dX2_proves_64 : decode cX2_proves 64 = .ok (.iinc 7 1, 3) := by decide +kernel
theorem dX2_proves_67 : decode cX2_proves 67 = .ok (.goto (-31), 3) := by decide +kernel
theorem dX2_proves_70 : decode cX2_proves 70 = .ok (.iload 6, 2) := by decide +kernel
theorem dX2_proves_72 : decode cX2_proves 72 = .ok (.aload 4, 2) := by decide +kernel
theorem dX2_proves_74 : decode cX2_proves 74 = .ok (.getfield 112, 3) := by decide +kernel
theorem dX2_proves_77 : decode cX2_proves 77 = .ok (.if_icmp .ne 7, 3) := by decide +kernel
theorem dX2_proves_80 : decode cX2_proves 80 = .ok (.iconst 1, 1) := by decide +kernel
theorem dX2_proves_81 : decode cX2_proves 81 = .ok (.goto 4, 3) := by decide +kernel
theorem dX2_proves_84 : decode cX2_proves 84 = .ok (.iconst 0, 1) := by decide +kernel
theorem dX2_proves_85 : decode cX2_proves 85 = .ok (.ireturn, 1) := by decide +kernel
set_option maxRecDepth 20000 in
theorem ggX2_differ_X2_findCupboard : GoodIn wsX2_differ wsX2_findCupboard := goodIn_ca (goodIn_r _ [5, 6, 7, 8, 9, 22, 23, 24, 25, 26] (by decide +kernel) (by decide +kernel)) (goodIn_sub (fun _ h => List.mem_cons_of_mem _ (List.mem_append_right _ h)) (by decide +kernel))
set_option maxRecDepth 20000 in
theorem gX2_differ_X2_findCupboard : GoodIn wsX2_differ (wsV RX2 37 RX2 yX2_findCupboard wsX2_findCupboard) := goodIn_app (goodIn_of _ (by decide +kernel)) ggX2_differ_X2_findCupboard
set_option maxRecDepth 20000 in
theorem ggX2_differ_X2_drawersApart : GoodIn wsX2_differ wsX2_drawersApart := goodIn_r _ [12, 13, 14, 4, 15, 16, 17, 18] (by decide +kernel) (by decide +kernel)
set_option maxRecDepth 20000 in
theorem gX2_differ_X2_drawersApart : GoodIn wsX2_differ (va_wsS RX2 130 yX2_drawersApart wsX2_drawersApart) := goodIn_app (goodIn_of _ (by decide +kernel)) ggX2_differ_X2_drawersApart
theorem dX2_differ_0 : decode cX2_differ 0 = .ok (.aload_n 0, 1) := by decide +kernel
theorem dX2_differ_1 : decode cX2_differ 1 = .ok (.iload_n 1, 1) := by decide +kernel
theorem dX2_differ_2 : decode cX2_differ 2 = .ok (.invokevirtual 37, 3) := by decide +kernel
theorem dX2_differ_5 : decode cX2_differ 5 = .ok (.getfield 55, 3) := by decide +kernel
theorem dX2_differ_8 : decode cX2_differ 8 = .ok (.aload_n 0, 1) := by decide +kernel
theorem dX2_differ_9 : decode cX2_differ 9 = .ok (.iload_n 2, 1) := by decide +kernel
theorem dX2_differ_10 : decode cX2_differ 10 = .ok (.invokevirtual 37, 3) := by decide +kernel
theorem dX2_differ_13 : decode cX2_differ 13 = .ok (.getfield 55, 3) := by decide +kernel
theorem dX2_differ_16 : decode cX2_differ 16 = .ok (.invokestatic 130, 3) := by decide +kernel
theorem dX2_differ_19 : decode cX2_differ 19 = .ok (.ireturn, 1) := by decide +kernel
set_option maxRecDepth 20000 in
theorem ggX2_looks_X2_findCupboard : GoodIn wsX2_looks wsX2_findCupboard := goodIn_ca (goodIn_r _ [5, 6, 7, 8, 9, 26, 27, 28, 29, 30] (by decide +kernel) (by decide +kernel)) (goodIn_sub (fun _ h => List.mem_cons_of_mem _ (List.mem_append_right _ h)) (by decide +kernel))
set_option maxRecDepth 20000 in
theorem gX2_looks_X2_findCupboard : GoodIn wsX2_looks (wsV RX2 37 RX2 yX2_findCupboard wsX2_findCupboard) := goodIn_app (goodIn_of _ (by decide +kernel)) ggX2_looks_X2_findCupboard
set_option maxRecDepth 20000 in
theorem ggX2_looks_X2_placesLookedAt : GoodIn wsX2_looks wsX2_placesLookedAt := goodIn_r _ [12, 13, 14, 4, 15] (by decide +kernel) (by decide +kernel)
set_option maxRecDepth 20000 in
theorem gX2_looks_X2_placesLookedAt : GoodIn wsX2_looks (va_wsS RX2 133 yX2_placesLookedAt wsX2_placesLookedAt) := goodIn_app (goodIn_of _ (by decide +kernel)) ggX2_looks_X2_placesLookedAt
set_option maxRecDepth 20000 in
theorem ggX2_looks_J6_bitCount_0f7a4 : GoodIn wsX2_looks wsJ6_bitCount_0f7a4 := goodIn_r _ [19, 20, 21, 22] (by decide +kernel) (by decide +kernel)
set_option maxRecDepth 20000 in
theorem gX2_looks_J6_bitCount_0f7a4 : GoodIn wsX2_looks (va_wsS RX2 136 yJ6_bitCount_0f7a4 wsJ6_bitCount_0f7a4) := goodIn_app (goodIn_of _ (by decide +kernel)) ggX2_looks_J6_bitCount_0f7a4
theorem dX2_looks_0 : decode cX2_looks 0 = .ok (.aload_n 0, 1) := by decide +kernel
theorem dX2_looks_1 : decode cX2_looks 1 = .ok (.iload_n 1, 1) := by decide +kernel
theorem dX2_looks_2 : decode cX2_looks 2 = .ok (.invokevirtual 37, 3) := by decide +kernel
theorem dX2_looks_5 : decode cX2_looks 5 = .ok (.getfield 55, 3) := by decide +kernel
theorem dX2_looks_8 : decode cX2_looks 8 = .ok (.aload_n 0, 1) := by decide +kernel
theorem dX2_looks_9 : decode cX2_looks 9 = .ok (.iload_n 2, 1) := by decide +kernel
theorem dX2_looks_10 : decode cX2_looks 10 = .ok (.invokevirtual 37, 3) := by decide +kernel
theorem dX2_looks_13 : decode cX2_looks 13 = .ok (.getfield 55, 3) := by decide +kernel
theorem dX2_looks_16 : decode cX2_looks 16 = .ok (.invokestatic 133, 3) := by decide +kernel
theorem dX2_looks_19 : decode cX2_looks 19 = .ok (.invokestatic 136, 3) := by decide +kernel
theorem dX2_looks_22 : decode cX2_looks 22 = .ok (.ireturn, 1) := by decide +kernel
set_option maxRecDepth 20000 in
theorem ggX2_mend_X2_findCupboard : GoodIn wsX2_mend wsX2_findCupboard := goodIn_ca (goodIn_r _ [5, 6, 7, 8, 9, 44, 45, 46, 47, 48] (by decide +kernel) (by decide +kernel)) (goodIn_sub (fun _ h => List.mem_cons_of_mem _ (List.mem_append_right _ h)) (by decide +kernel))
set_option maxRecDepth 20000 in
theorem gX2_mend_X2_findCupboard : GoodIn wsX2_mend (wsV RX2 37 RX2 yX2_findCupboard wsX2_findCupboard) := goodIn_app (goodIn_of _ (by decide +kernel)) ggX2_mend_X2_findCupboard
set_option maxRecDepth 20000 in
theorem ggX2_mend_X2_drawersApart : GoodIn wsX2_mend wsX2_drawersApart := goodIn_r _ [12, 13, 14, 4, 15, 16, 17, 18] (by decide +kernel) (by decide +kernel)
set_option maxRecDepth 20000 in
theorem gX2_mend_X2_drawersApart : GoodIn wsX2_mend (va_wsS RX2 130 yX2_drawersApart wsX2_drawersApart) := goodIn_app (goodIn_of _ (by decide +kernel)) ggX2_mend_X2_drawersApart
set_option maxRecDepth 20000 in
theorem ggX2_mend_X2_hasBit : GoodIn wsX2_mend wsX2_hasBit := goodIn_r _ [18] (by decide +kernel) (by decide +kernel)
set_option maxRecDepth 20000 in
theorem gX2_mend_X2_hasBit : GoodIn wsX2_mend (va_wsS RX2 141 yX2_hasBit wsX2_hasBit) := goodIn_app (goodIn_of _ (by decide +kernel)) ggX2_mend_X2_hasBit
set_option maxRecDepth 20000 in
theorem ggX2_mend_X0_lay : GoodIn wsX2_mend wsX0_lay := goodIn_r _ [22, 23, 24, 25, 26, 4, 27, 28, 29, 30, 31, 32, 33, 41, 42, 43] (by decide +kernel) (by decide +kernel)
set_option maxRecDepth 20000 in
theorem gX2_mend_X0_lay_n51 : GoodIn wsX2_mend (wsX0_lay) := ggX2_mend_X0_lay
set_option maxRecDepth 20000 in
theorem ggX2_mend_J6_bitCount_0f7a4 : GoodIn wsX2_mend wsJ6_bitCount_0f7a4 := goodIn_r _ [37, 38, 39, 40] (by decide +kernel) (by decide +kernel)
set_option maxRecDepth 20000 in
theorem gX2_mend_J6_bitCount_0f7a4 : GoodIn wsX2_mend (va_wsS RX2 136 yJ6_bitCount_0f7a4 wsJ6_bitCount_0f7a4) := goodIn_app (goodIn_of _ (by decide +kernel)) ggX2_mend_J6_bitCount_0f7a4
theorem dX2_mend_0 : decode cX2_mend 0 = .ok (.aload_n 0, 1) := by decide +kernel
theorem dX2_mend_1 : decode cX2_mend 1 = .ok (.iload_n 1, 1) := by decide +kernel
theorem dX2_mend_2 : decode cX2_mend 2 = .ok (.invokevirtual 37, 3) := by decide +kernel
theorem dX2_mend_5 : decode cX2_mend 5 = .ok (.astore_n 3, 1) := by decide +kernel
theorem dX2_mend_6 : decode cX2_mend 6 = .ok (.aload_n 0, 1) := by decide +kernel
theorem dX2_mend_7 : decode cX2_mend 7 = .ok (.iload_n 2, 1) := by decide +kernel
theorem dX2_mend_8 : decode cX2_mend 8 = .ok (.invokevirtual 37, 3) := by decide +kernel
theorem dX2_mend_11 : decode cX2_mend 11 = .ok (.astore 4, 2) := by decide +kernel
theorem dX2_mend_13 : decode cX2_mend 13 = .ok (.aload_n 3, 1) := by decide +kernel
theorem dX2_mend_14 : decode cX2_mend 14 = .ok (.getfield 55, 3) := by decide +kernel
theorem dX2_mend_17 : decode cX2_mend 17 = .ok (.aload 4, 2) := by decide +kernel
theorem dX2_mend_19 : decode cX2_mend 19 = .ok (.getfield 55, 3) := by decide +kernel
theorem dX2_mend_22 : decode cX2_mend 22 = .ok (.invokestatic 130, 3) := by decide +kernel
theorem dX2_mend_25 : decode cX2_mend 25 = .ok (.istore 5, 2) := by decide +kernel
theorem dX2_mend_27 : decode cX2_mend 27 = .ok (.iconst 0, 1) := by decide +kernel
theorem dX2_mend_28 : decode cX2_mend 28 = .ok (.istore 6, 2) := by decide +kernel
theorem dX2_mend_30 : decode cX2_mend 30 = .ok (.iload 6, 2) := by decide +kernel
theorem dX2_mend_32 : decode cX2_mend 32 = .ok (.bipush 16, 2) := by decide +kernel
theorem dX2_mend_34 : decode cX2_mend 34 = .ok (.if_icmp .ge 33, 3) := by decide +kernel
theorem dX2_mend_37 : decode cX2_mend 37 = .ok (.iload 5, 2) := by decide +kernel
theorem dX2_mend_39 : decode cX2_mend 39 = .ok (.iload 6, 2) := by decide +kernel
theorem dX2_mend_41 : decode cX2_mend 41 = .ok (.invokestatic 141, 3) := by decide +kernel
theorem dX2_mend_44 : decode cX2_mend 44 = .ok (.ifCond .eq 17, 3) := by decide +kernel
theorem dX2_mend_47 : decode cX2_mend 47 = .ok (.aload 4, 2) := by decide +kernel
theorem dX2_mend_49 : decode cX2_mend 49 = .ok (.iload 6, 2) := by decide +kernel
theorem dX2_mend_51 : decode cX2_mend 51 = .ok (.aload_n 3, 1) := by decide +kernel
theorem dX2_mend_52 : decode cX2_mend 52 = .ok (.getfield 48, 3) := by decide +kernel
theorem dX2_mend_55 : decode cX2_mend 55 = .ok (.iload 6, 2) := by decide +kernel
theorem dX2_mend_57 : decode cX2_mend 57 = .ok (.iaload, 1) := by decide +kernel
theorem dX2_mend_58 : decode cX2_mend 58 = .ok (.invokevirtual 51, 3) := by decide +kernel
theorem dX2_mend_61 : decode cX2_mend 61 = .ok (.iinc 6 1, 3) := by decide +kernel
theorem dX2_mend_64 : decode cX2_mend 64 = .ok (.goto (-34), 3) := by decide +kernel
theorem dX2_mend_67 : decode cX2_mend 67 = .ok (.iload 5, 2) := by decide +kernel
theorem dX2_mend_69 : decode cX2_mend 69 = .ok (.invokestatic 136, 3) := by decide +kernel
theorem dX2_mend_72 : decode cX2_mend 72 = .ok (.ireturn, 1) := by decide +kernel
set_option maxRecDepth 20000 in
theorem ggX2_swapped_X2_findSeal : GoodIn wsX2_swapped wsX2_findSeal := goodIn_ca (goodIn_r _ [10, 11, 12, 13, 14, 45, 46, 47, 48, 49] (by decide +kernel) (by decide +kernel)) (goodIn_sub (fun _ h => List.mem_cons_of_mem _ (List.mem_append_right _ h)) (by decide +kernel))
set_option maxRecDepth 20000 in
theorem gX2_swapped_X2_findSeal : GoodIn wsX2_swapped (wsV RX2 105 RX2 yX2_findSeal wsX2_findSeal) := goodIn_app (goodIn_of _ (by decide +kernel)) ggX2_swapped_X2_findSeal
set_option maxRecDepth 20000 in
theorem ggX2_swapped_X2_findCupboard : GoodIn wsX2_swapped wsX2_findCupboard := goodIn_ca (goodIn_r _ [18, 11, 12, 19, 20, 45, 46, 47, 48, 49] (by decide +kernel) (by decide +kernel)) (goodIn_sub (fun _ h => List.mem_cons_of_mem _ (List.mem_append_right _ h)) (by decide +kernel))
set_option maxRecDepth 20000 in
theorem gX2_swapped_X2_findCupboard : GoodIn wsX2_swapped (wsV RX2 37 RX2 yX2_findCupboard wsX2_findCupboard) := goodIn_app (goodIn_of _ (by decide +kernel)) ggX2_swapped_X2_findCupboard
set_option maxRecDepth 20000 in
theorem ggX2_swapped_X0_root : GoodIn wsX2_swapped wsX0_root := goodIn_r _ [24, 25, 42, 43, 44] (by decide +kernel) (by decide +kernel)
set_option maxRecDepth 20000 in
theorem gX2_swapped_X0_root_n76 : GoodIn wsX2_swapped (wsX0_root) := ggX2_swapped_X0_root
set_option maxRecDepth 20000 in
theorem ggX2_swapped_X2_rootWithSwap : GoodIn wsX2_swapped wsX2_rootWithSwap := goodIn_r _ [29, 1, 30, 31, 9, 32, 33, 34, 35, 36, 37, 38, 45, 46, 47, 48, 49] (by decide +kernel) (by decide +kernel)
set_option maxRecDepth 20000 in
theorem gX2_swapped_X2_rootWithSwap : GoodIn wsX2_swapped (wsV RX2 145 RX2 yX2_rootWithSwap wsX2_rootWithSwap) := goodIn_app (goodIn_of _ (by decide +kernel)) ggX2_swapped_X2_rootWithSwap
theorem dX2_swapped_0 : decode cX2_swapped 0 = .ok (.aload_n 0, 1) := by decide +kernel
theorem dX2_swapped_1 : decode cX2_swapped 1 = .ok (.iload_n 1, 1) := by decide +kernel
theorem dX2_swapped_2 : decode cX2_swapped 2 = .ok (.invokevirtual 105, 3) := by decide +kernel
theorem dX2_swapped_5 : decode cX2_swapped 5 = .ok (.astore_n 2, 1) := by decide +kernel
theorem dX2_swapped_6 : decode cX2_swapped 6 = .ok (.aload_n 0, 1) := by decide +kernel
theorem dX2_swapped_7 : decode cX2_swapped 7 = .ok (.aload_n 2, 1) := by decide +kernel
theorem dX2_swapped_8 : decode cX2_swapped 8 = .ok (.getfield 109, 3) := by decide +kernel
theorem dX2_swapped_11 : decode cX2_swapped 11 = .ok (.invokevirtual 37, 3) := by decide +kernel
theorem dX2_swapped_14 : decode cX2_swapped 14 = .ok (.astore_n 3, 1) := by decide +kernel
theorem dX2_swapped_15 : decode cX2_swapped 15 = .ok (.aload_n 3, 1) := by decide +kernel
theorem dX2_swapped_16 : decode cX2_swapped 16 = .ok (.invokevirtual 76, 3) := by decide +kernel
theorem dX2_swapped_19 : decode cX2_swapped 19 = .ok (.aload_n 2, 1) := by decide +kernel
theorem dX2_swapped_20 : decode cX2_swapped 20 = .ok (.getfield 112, 3) := by decide +kernel
theorem dX2_swapped_23 : decode cX2_swapped 23 = .ok (.if_icmp .ne 5, 3) := by decide +kernel
theorem dX2_swapped_26 : decode cX2_swapped 26 = .ok (.iconst (-1), 1) := by decide +kernel
theorem dX2_swapped_27 : decode cX2_swapped 27 = .ok (.ireturn, 1) := by decide +kernel
theorem dX2_swapped_28 : decode cX2_swapped 28 = .ok (.aload_n 3, 1) := by decide +kernel
theorem dX2_swapped_29 : decode cX2_swapped 29 = .ok (.getfield 55, 3) := by decide +kernel
theorem dX2_swapped_32 : decode cX2_swapped 32 = .ok (.iconst 0, 1) := by decide +kernel
theorem dX2_swapped_33 : decode cX2_swapped 33 = .ok (.aload_n 0, 1) := by decide +kernel
theorem dX2_swapped_34 : decode cX2_swapped 34 = .ok (.getfield 21, 3) := by decide +kernel
theorem dX2_swapped_37 : decode cX2_swapped 37 = .ok (.iconst 0, 1) := by decide +kernel
theorem dX2_swapped_38 : decode cX2_swapped 38 = .ok (.bipush 32, 2) := by decide +kernel
theorem dX2_swapped_40 : decode cX2_swapped 40 = .ok (.invokestatic 58, 3) := by decide +kernel
theorem dX2_swapped_43 : decode cX2_swapped 43 = .ok (.iconst 0, 1) := by decide +kernel
theorem dX2_swapped_44 : decode cX2_swapped 44 = .ok (.istore 4, 2) := by decide +kernel
theorem dX2_swapped_46 : decode cX2_swapped 46 = .ok (.iload 4, 2) := by decide +kernel
theorem dX2_swapped_48 : decode cX2_swapped 48 = .ok (.bipush 16, 2) := by decide +kernel
theorem dX2_swapped_50 : decode cX2_swapped 50 = .ok (.if_icmp .ge 56, 3) := by decide +kernel
theorem dX2_swapped_53 : decode cX2_swapped 53 = .ok (.iload 4, 2) := by decide +kernel
theorem dX2_swapped_55 : decode cX2_swapped 55 = .ok (.iconst 1, 1) := by decide +kernel
theorem dX2_swapped_56 : decode cX2_swapped 56 = .ok (.iadd, 1) := by decide +kernel
theorem dX2_swapped_57 : decode cX2_swapped 57 = .ok (.istore 5, 2) := by decide +kernel
theorem dX2_swapped_59 : decode cX2_swapped 59 = .ok (.iload 5, 2) := by decide +kernel
theorem dX2_swapped_61 : decode cX2_swapped 61 = .ok (.bipush 16, 2) := by decide +kernel
theorem dX2_swapped_63 : decode cX2_swapped 63 = .ok (.if_icmp .ge 37, 3) := by decide +kernel
theorem dX2_swapped_66 : decode cX2_swapped 66 = .ok (.aload_n 0, 1) := by decide +kernel
theorem dX2_swapped_67 : decode cX2_swapped 67 = .ok (.aload_n 3, 1) := by decide +kernel
theorem dX2_swapped_68 : decode cX2_swapped 68 = .ok (.getfield 48, 3) := by decide +kernel
theorem dX2_swapped_71 : decode cX2_swapped 71 = .ok (.iload 4, 2) := by decide +kernel
theorem dX2_swapped_73 : decode cX2_swapped 73 = .ok (.iload 5, 2) := by decide +kernel
theorem dX2_swapped_75 : decode cX2_swapped 75 = .ok (.invokevirtual 145, 3) := by decide +kernel
theorem dX2_swapped_78 : decode cX2_swapped 78 = .ok (.aload_n 2, 1) := by decide +kernel
theorem dX2_swapped_79 : decode cX2_swapped 79 = .ok (.getfield 112, 3) := by decide +kernel
theorem dX2_swapped_82 : decode cX2_swapped 82 = .ok (.if_icmp .ne 12, 3) := by decide +kernel
theorem dX2_swapped_85 : decode cX2_swapped 85 = .ok (.bipush 16, 2) := by decide +kernel
theorem dX2_swapped_87 : decode cX2_swapped 87 = .ok (.iload 4, 2) := by decide +kernel
theorem dX2_swapped_89 : decode cX2_swapped 89 = .ok (.imul, 1) := by decide +kernel
theorem dX2_swapped_90 : decode cX2_swapped 90 = .ok (.iload 5, 2) := by decide +kernel
theorem dX2_swapped_92 : decode cX2_swapped 92 = .ok (.iadd, 1) := by decide +kernel
theorem dX2_swapped_93 : decode cX2_swapped 93 = .ok (.ireturn, 1) := by decide +kernel
theorem dX2_swapped_94 : decode cX2_swapped 94 = .ok (.iinc 5 1, 3) := by decide +kernel
theorem dX2_swapped_97 : decode cX2_swapped 97 = .ok (.goto (-38), 3) := by decide +kernel
theorem dX2_swapped_100 : decode cX2_swapped 100 = .ok (.iinc 4 1, 3) := by decide +kernel
theorem dX2_swapped_103 : decode cX2_swapped 103 = .ok (.goto (-57), 3) := by decide +kernel
theorem dX2_swapped_106 : decode cX2_swapped 106 = .ok (.iconst (-1), 1) := by decide +kernel
theorem dX2_swapped_107 : decode cX2_swapped 107 = .ok (.ireturn, 1) := by decide +kernel
set_option maxRecDepth 20000 in
theorem ggX2_count_X2_checkWhat : GoodIn wsX2_count wsX2_checkWhat := goodIn_ca (goodIn_r _ [6, 7, 8] (by decide +kernel) (by decide +kernel)) (goodIn_sub (fun _ h => List.mem_cons_of_mem _ (List.mem_append_right _ h)) (by decide +kernel))
set_option maxRecDepth 20000 in
theorem gX2_count_X2_checkWhat : GoodIn wsX2_count (va_wsS RX2 73 yX2_checkWhat wsX2_checkWhat) := goodIn_app (goodIn_of _ (by decide +kernel)) ggX2_count_X2_checkWhat
set_option maxRecDepth 20000 in
theorem ggX2_count_X2_differentRoots : GoodIn wsX2_count wsX2_differentRoots := goodIn_r _ [12, 1, 13, 14, 15, 5, 16, 17, 18, 19, 20, 21, 22, 27, 28, 29, 30, 31, 32, 33, 34] (by decide +kernel) (by decide +kernel)
set_option maxRecDepth 20000 in
theorem gX2_count_X2_differentRoots : GoodIn wsX2_count (wsV RX2 149 RX2 yX2_differentRoots wsX2_differentRoots) := goodIn_app (goodIn_of _ (by decide +kernel)) ggX2_count_X2_differentRoots
set_option maxRecDepth 20000 in
theorem ggX2_count_X2_changesAdded : GoodIn wsX2_count wsX2_changesAdded := goodIn_r _ [26, 1, 17, 27, 28, 29, 30, 31, 32, 33, 34] (by decide +kernel) (by decide +kernel)
set_option maxRecDepth 20000 in
theorem gX2_count_X2_changesAdded : GoodIn wsX2_count (wsV RX2 152 RX2 yX2_changesAdded wsX2_changesAdded) := goodIn_app (goodIn_of _ (by decide +kernel)) ggX2_count_X2_changesAdded
theorem dX2_count_0 : decode cX2_count 0 = .ok (.iload_n 1, 1) := by decide +kernel
theorem dX2_count_1 : decode cX2_count 1 = .ok (.iconst 4, 1) := by decide +kernel
theorem dX2_count_2 : decode cX2_count 2 = .ok (.invokestatic 73, 3) := by decide +kernel
theorem dX2_count_5 : decode cX2_count 5 = .ok (.iload_n 1, 1) := by decide +kernel
theorem dX2_count_6 : decode cX2_count 6 = .ok (.tableswitch 41 0 2 #[26, 31, 36], 26) := by decide +kernel
theorem dX2_count_32 : decode cX2_count 32 = .ok (.aload_n 0, 1) := by decide +kernel
theorem dX2_count_33 : decode cX2_count 33 = .ok (.getfield 25, 3) := by decide +kernel
theorem dX2_count_36 : decode cX2_count 36 = .ok (.ireturn, 1) := by decide +kernel
theorem dX2_count_37 : decode cX2_count 37 = .ok (.aload_n 0, 1) := by decide +kernel
theorem dX2_count_38 : decode cX2_count 38 = .ok (.getfield 97, 3) := by decide +kernel
theorem dX2_count_41 : decode cX2_count 41 = .ok (.ireturn, 1) := by decide +kernel
theorem dX2_count_42 : decode cX2_count 42 = .ok (.aload_n 0, 1) := by decide +kernel
theorem dX2_count_43 : decode cX2_count 43 = .ok (.invokevirtual 149, 3) := by decide +kernel
theorem dX2_count_46 : decode cX2_count 46 = .ok (.ireturn, 1) := by decide +kernel
theorem dX2_count_47 : decode cX2_count 47 = .ok (.aload_n 0, 1) := by decide +kernel
theorem dX2_count_48 : decode cX2_count 48 = .ok (.invokevirtual 152, 3) := by decide +kernel
theorem dX2_count_51 : decode cX2_count 51 = .ok (.ireturn, 1) := by decide +kernel
theorem dX2_mean_0 : decode cX2_mean 0 = .ok (.aload_n 0, 1) := by decide +kernel
theorem dX2_mean_1 : decode cX2_mean 1 = .ok (.getfield 25, 3) := by decide +kernel
theorem dX2_mean_4 : decode cX2_mean 4 = .ok (.ifCond .ne 5, 3) := by decide +kernel
theorem dX2_mean_7 : decode cX2_mean 7 = .ok (.dconst 0, 1) := by decide +kernel
theorem dX2_mean_8 : decode cX2_mean 8 = .ok (.dreturn, 1) := by decide +kernel
theorem dX2_mean_9 : decode cX2_mean 9 = .ok (.iconst 0, 1) := by decide +kernel
theorem dX2_mean_10 : decode cX2_mean 10 = .ok (.istore_n 1, 1) := by decide +kernel
theorem dX2_mean_11 : decode cX2_mean 11 = .ok (.iconst 0, 1) := by decide +kernel
theorem dX2_mean_12 : decode cX2_mean 12 = .ok (.istore_n 2, 1) := by decide +kernel
theorem dX2_mean_13 : decode cX2_mean 13 = .ok (.iload_n 2, 1) := by decide +kernel
theorem dX2_mean_14 : decode cX2_mean 14 = .ok (.aload_n 0, 1) := by decide +kernel
theorem dX2_mean_15 : decode cX2_mean 15 = .ok (.getfield 25, 3) := by decide +kernel
theorem dX2_mean_18 : decode cX2_mean 18 = .ok (.if_icmp .ge 37, 3) := by decide +kernel
theorem dX2_mean_21 : decode cX2_mean 21 = .ok (.iconst 1, 1) := by decide +kernel
theorem dX2_mean_22 : decode cX2_mean 22 = .ok (.istore_n 3, 1) := by decide +kernel
theorem dX2_mean_23 : decode cX2_mean 23 = .ok (.iload_n 3, 1) := by decide +kernel
theorem dX2_mean_24 : decode cX2_mean 24 = .ok (.bipush 31, 2) := by decide +kernel
theorem dX2_mean_26 : decode cX2_mean 26 = .ok (.if_icmp .gt 23, 3) := by decide +kernel
theorem dX2_mean_29 : decode cX2_mean 29 = .ok (.iload_n 1, 1) := by decide +kernel
theorem dX2_mean_30 : decode cX2_mean 30 = .ok (.aload_n 0, 1) := by decide +kernel
theorem dX2_mean_31 : decode cX2_mean 31 = .ok (.getfield 11, 3) := by decide +kernel
theorem dX2_mean_34 : decode cX2_mean 34 = .ok (.iload_n 2, 1) := by decide +kernel
theorem dX2_mean_35 : decode cX2_mean 35 = .ok (.aaload, 1) := by decide +kernel
theorem dX2_mean_36 : decode cX2_mean 36 = .ok (.getfield 55, 3) := by decide +kernel
theorem dX2_mean_39 : decode cX2_mean 39 = .ok (.iload_n 3, 1) := by decide +kernel
theorem dX2_mean_40 : decode cX2_mean 40 = .ok (.iaload, 1) := by decide +kernel
theorem dX2_mean_41 : decode cX2_mean 41 = .ok (.iadd, 1) := by decide +kernel
theorem dX2_mean_42 : decode cX2_mean 42 = .ok (.istore_n 1, 1) := by decide +kernel
theorem dX2_mean_43 : decode cX2_mean 43 = .ok (.iinc 3 1, 3) := by decide +kernel
theorem dX2_mean_46 : decode cX2_mean 46 = .ok (.goto (-23), 3) := by decide +kernel
theorem dX2_mean_49 : decode cX2_mean 49 = .ok (.iinc 2 1, 3) := by decide +kernel
theorem dX2_mean_52 : decode cX2_mean 52 = .ok (.goto (-39), 3) := by decide +kernel
theorem dX2_mean_55 : decode cX2_mean 55 = .ok (.iload_n 1, 1) := by decide +kernel
theorem dX2_mean_56 : decode cX2_mean 56 = .ok (.i2d, 1) := by decide +kernel
theorem dX2_mean_57 : decode cX2_mean 57 = .ok (.bipush 31, 2) := by decide +kernel
theorem dX2_mean_59 : decode cX2_mean 59 = .ok (.aload_n 0, 1) := by decide +kernel
theorem dX2_mean_60 : decode cX2_mean 60 = .ok (.getfield 25, 3) := by decide +kernel
theorem dX2_mean_63 : decode cX2_mean 63 = .ok (.imul, 1) := by decide +kernel
theorem dX2_mean_64 : decode cX2_mean 64 = .ok (.i2d, 1) := by decide +kernel
theorem dX2_mean_65 : decode cX2_mean 65 = .ok (.ddiv, 1) := by decide +kernel
theorem dX2_mean_66 : decode cX2_mean 66 = .ok (.dreturn, 1) := by decide +kernel
theorem dX2_findCupboard_0 : decode cX2_findCupboard 0 = .ok (.iload_n 1, 1) := by decide +kernel
theorem dX2_findCupboard_1 : decode cX2_findCupboard 1 = .ok (.ifCond .lt 11, 3) := by decide +kernel
theorem dX2_findCupboard_4 : decode cX2_findCupboard 4 = .ok (.iload_n 1, 1) := by decide +kernel
theorem dX2_findCupboard_5 : decode cX2_findCupboard 5 = .ok (.aload_n 0, 1) := by decide +kernel
theorem dX2_findCupboard_6 : decode cX2_findCupboard 6 = .ok (.getfield 25, 3) := by decide +kernel
theorem dX2_findCupboard_9 : decode cX2_findCupboard 9 = .ok (.if_icmp .lt 13, 3) := by decide +kernel
theorem dX2_findCupboard_12 : decode cX2_findCupboard 12 = .ok (.new 68, 3) := by decide +kernel
theorem dX2_findCupboard_15 : decode cX2_findCupboard 15 = .ok (.dup, 1) := by decide +kernel
theorem dX2_findCupboard_16 : decode cX2_findCupboard 16 = .ok (.ldc 171, 2) := by decide +kernel
theorem dX2_findCupboard_18 : decode cX2_findCupboard 18 = .ok (.invokespecial 72, 3) := by decide +kernel
theorem dX2_findCupboard_21 : decode cX2_findCupboard 21 = .ok (.athrow, 1) := by decide +kernel
theorem dX2_findCupboard_22 : decode cX2_findCupboard 22 = .ok (.aload_n 0, 1) := by decide +kernel
theorem dX2_findCupboard_23 : decode cX2_findCupboard 23 = .ok (.getfield 11, 3) := by decide +kernel
theorem dX2_findCupboard_26 : decode cX2_findCupboard 26 = .ok (.iload_n 1, 1) := by decide +kernel
theorem dX2_findCupboard_27 : decode cX2_findCupboard 27 = .ok (.aaload, 1) := by decide +kernel
theorem dX2_findCupboard_28 : decode cX2_findCupboard 28 = .ok (.areturn, 1) := by decide +kernel
theorem dX2_findSeal_0 : decode cX2_findSeal 0 = .ok (.iload_n 1, 1) := by decide +kernel
theorem dX2_findSeal_1 : decode cX2_findSeal 1 = .ok (.ifCond .lt 11, 3) := by decide +kernel
theorem dX2_findSeal_4 : decode cX2_findSeal 4 = .ok (.iload_n 1, 1) := by decide +kernel
theorem dX2_findSeal_5 : decode cX2_findSeal 5 = .ok (.aload_n 0, 1) := by decide +kernel
theorem dX2_findSeal_6 : decode cX2_findSeal 6 = .ok (.getfield 97, 3) := by decide +kernel
theorem dX2_findSeal_9 : decode cX2_findSeal 9 = .ok (.if_icmp .lt 13, 3) := by decide +kernel
theorem dX2_findSeal_12 : decode cX2_findSeal 12 = .ok (.new 68, 3) := by decide +kernel
theorem dX2_findSeal_15 : decode cX2_findSeal 15 = .ok (.dup, 1) := by decide +kernel
theorem dX2_findSeal_16 : decode cX2_findSeal 16 = .ok (.ldc 173, 2) := by decide +kernel
theorem dX2_findSeal_18 : decode cX2_findSeal 18 = .ok (.invokespecial 72, 3) := by decide +kernel
theorem dX2_findSeal_21 : decode cX2_findSeal 21 = .ok (.athrow, 1) := by decide +kernel
theorem dX2_findSeal_22 : decode cX2_findSeal 22 = .ok (.aload_n 0, 1) := by decide +kernel
theorem dX2_findSeal_23 : decode cX2_findSeal 23 = .ok (.getfield 17, 3) := by decide +kernel
theorem dX2_findSeal_26 : decode cX2_findSeal 26 = .ok (.iload_n 1, 1) := by decide +kernel
theorem dX2_findSeal_27 : decode cX2_findSeal 27 = .ok (.aaload, 1) := by decide +kernel
theorem dX2_findSeal_28 : decode cX2_findSeal 28 = .ok (.areturn, 1) := by decide +kernel
theorem dX2_sealsOf_0 : decode cX2_sealsOf 0 = .ok (.iconst 0, 1) := by decide +kernel
theorem dX2_sealsOf_1 : decode cX2_sealsOf 1 = .ok (.istore_n 2, 1) := by decide +kernel
theorem dX2_sealsOf_2 : decode cX2_sealsOf 2 = .ok (.iconst 0, 1) := by decide +kernel
theorem dX2_sealsOf_3 : decode cX2_sealsOf 3 = .ok (.istore_n 3, 1) := by decide +kernel
theorem dX2_sealsOf_4 : decode cX2_sealsOf 4 = .ok (.iload_n 3, 1) := by decide +kernel
theorem dX2_sealsOf_5 : decode cX2_sealsOf 5 = .ok (.aload_n 0, 1) := by decide +kernel
theorem dX2_sealsOf_6 : decode cX2_sealsOf 6 = .ok (.getfield 97, 3) := by decide +kernel
theorem dX2_sealsOf_9 : decode cX2_sealsOf 9 = .ok (.if_icmp .ge 25, 3) := by decide +kernel
theorem dX2_sealsOf_12 : decode cX2_sealsOf 12 = .ok (.aload_n 0, 1) := by decide +kernel
theorem dX2_sealsOf_13 : decode cX2_sealsOf 13 = .ok (.getfield 17, 3) := by decide +kernel
theorem dX2_sealsOf_16 : decode cX2_sealsOf 16 = .ok (.iload_n 3, 1) := by decide +kernel
theorem dX2_sealsOf_17 : decode cX2_sealsOf 17 = .ok (.aaload, 1) := by decide +kernel
theorem dX2_sealsOf_18 : decode cX2_sealsOf 18 = .ok (.getfield 109, 3) := by decide +kernel
theorem dX2_sealsOf_21 : decode cX2_sealsOf 21 = .ok (.iload_n 1, 1) := by decide +kernel
theorem dX2_sealsOf_22 : decode cX2_sealsOf 22 = .ok (.if_icmp .ne 6, 3) := by decide +kernel
theorem dX2_sealsOf_25 : decode cX2_sealsOf 25 = .ok (.iinc 2 1, 3) := by decide +kernel
theorem dX2_sealsOf_28 : decode cX2_sealsOf 28 = .ok (.iinc 3 1, 3) := by decide +kernel
theorem dX2_sealsOf_31 : decode cX2_sealsOf 31 = .ok (.goto (-27), 3) := by decide +kernel
theorem dX2_sealsOf_34 : decode cX2_sealsOf 34 = .ok (.iload_n 2, 1) := by decide +kernel
theorem dX2_sealsOf_35 : decode cX2_sealsOf 35 = .ok (.ireturn, 1) := by decide +kernel
theorem dX2_sealsKept_0 : decode cX2_sealsKept 0 = .ok (.iconst 0, 1) := by decide +kernel
theorem dX2_sealsKept_1 : decode cX2_sealsKept 1 = .ok (.istore_n 3, 1) := by decide +kernel
theorem dX2_sealsKept_2 : decode cX2_sealsKept 2 = .ok (.iconst 0, 1) := by decide +kernel
theorem dX2_sealsKept_3 : decode cX2_sealsKept 3 = .ok (.istore 4, 2) := by decide +kernel
theorem dX2_sealsKept_5 : decode cX2_sealsKept 5 = .ok (.iload 4, 2) := by decide +kernel
theorem dX2_sealsKept_7 : decode cX2_sealsKept 7 = .ok (.aload_n 0, 1) := by decide +kernel
theorem dX2_sealsKept_8 : decode cX2_sealsKept 8 = .ok (.getfield 97, 3) := by decide +kernel
theorem dX2_sealsKept_11 : decode cX2_sealsKept 11 = .ok (.if_icmp .ge 40, 3) := by decide +kernel
theorem dX2_sealsKept_14 : decode cX2_sealsKept 14 = .ok (.aload_n 0, 1) := by decide +kernel
theorem dX2_sealsKept_15 : decode cX2_sealsKept 15 = .ok (.getfield 17, 3) := by decide +kernel
theorem dX2_sealsKept_18 : decode cX2_sealsKept 18 = .ok (.iload 4, 2) := by decide +kernel
theorem dX2_sealsKept_20 : decode cX2_sealsKept 20 = .ok (.aaload, 1) := by decide +kernel
theorem dX2_sealsKept_21 : decode cX2_sealsKept 21 = .ok (.getfield 109, 3) := by decide +kernel
theorem dX2_sealsKept_24 : decode cX2_sealsKept 24 = .ok (.iload_n 1, 1) := by decide +kernel
theorem dX2_sealsKept_25 : decode cX2_sealsKept 25 = .ok (.if_icmp .ne 20, 3) := by decide +kernel
theorem dX2_sealsKept_28 : decode cX2_sealsKept 28 = .ok (.aload_n 0, 1) := by decide +kernel
theorem dX2_sealsKept_29 : decode cX2_sealsKept 29 = .ok (.getfield 17, 3) := by decide +kernel
theorem dX2_sealsKept_32 : decode cX2_sealsKept 32 = .ok (.iload 4, 2) := by decide +kernel
theorem dX2_sealsKept_34 : decode cX2_sealsKept 34 = .ok (.aaload, 1) := by decide +kernel
theorem dX2_sealsKept_35 : decode cX2_sealsKept 35 = .ok (.getfield 112, 3) := by decide +kernel
theorem dX2_sealsKept_38 : decode cX2_sealsKept 38 = .ok (.iload_n 2, 1) := by decide +kernel
theorem dX2_sealsKept_39 : decode cX2_sealsKept 39 = .ok (.if_icmp .ne 6, 3) := by decide +kernel
theorem dX2_sealsKept_42 : decode cX2_sealsKept 42 = .ok (.iinc 3 1, 3) := by decide +kernel
theorem dX2_sealsKept_45 : decode cX2_sealsKept 45 = .ok (.iinc 4 1, 3) := by decide +kernel
theorem dX2_sealsKept_48 : decode cX2_sealsKept 48 = .ok (.goto (-43), 3) := by decide +kernel
theorem dX2_sealsKept_51 : decode cX2_sealsKept 51 = .ok (.iload_n 3, 1) := by decide +kernel
theorem dX2_sealsKept_52 : decode cX2_sealsKept 52 = .ok (.ireturn, 1) := by decide +kernel
set_option maxRecDepth 20000 in
theorem ggX2_differentRoots_X2_isRootBefore : GoodIn wsX2_differentRoots wsX2_isRootBefore := goodIn_r _ [6, 7, 8, 9, 10, 11, 12, 13, 14, 15, 16, 17, 18, 19, 20] (by decide +kernel) (by decide +kernel)
set_option maxRecDepth 20000 in
theorem gX2_differentRoots_X2_isRootBefore : GoodIn wsX2_differentRoots (wsV RX2 175 RX2 yX2_isRootBefore wsX2_isRootBefore) := goodIn_app (goodIn_of _ (by decide +kernel)) ggX2_differentRoots_X2_isRootBefore
theorem dX2_differentRoots_0 : decode cX2_differentRoots 0 = .ok (.iconst 0, 1) := by decide +kernel
theorem dX2_differentRoots_1 : decode cX2_differentRoots 1 = .ok (.istore_n 1, 1) := by decide +kernel
theorem dX2_differentRoots_2 : decode cX2_differentRoots 2 = .ok (.iconst 0, 1) := by decide +kernel
theorem dX2_differentRoots_3 : decode cX2_differentRoots 3 = .ok (.istore_n 2, 1) := by decide +kernel
theorem dX2_differentRoots_4 : decode cX2_differentRoots 4 = .ok (.iload_n 2, 1) := by decide +kernel
theorem dX2_differentRoots_5 : decode cX2_differentRoots 5 = .ok (.aload_n 0, 1) := by decide +kernel
theorem dX2_differentRoots_6 : decode cX2_differentRoots 6 = .ok (.getfield 25, 3) := by decide +kernel
theorem dX2_differentRoots_9 : decode cX2_differentRoots 9 = .ok (.if_icmp .ge 20, 3) := by decide +kernel
theorem dX2_differentRoots_12 : decode cX2_differentRoots 12 = .ok (.aload_n 0, 1) := by decide +kernel
theorem dX2_differentRoots_13 : decode cX2_differentRoots 13 = .ok (.iload_n 2, 1) := by decide +kernel
theorem dX2_differentRoots_14 : decode cX2_differentRoots 14 = .ok (.invokevirtual 175, 3) := by decide +kernel
theorem dX2_differentRoots_17 : decode cX2_differentRoots 17 = .ok (.ifCond .ne 6, 3) := by decide +kernel
theorem dX2_differentRoots_20 : decode cX2_differentRoots 20 = .ok (.iinc 1 1, 3) := by decide +kernel
theorem dX2_differentRoots_23 : decode cX2_differentRoots 23 = .ok (.iinc 2 1, 3) := by decide +kernel
theorem dX2_differentRoots_26 : decode cX2_differentRoots 26 = .ok (.goto (-22), 3) := by decide +kernel
theorem dX2_differentRoots_29 : decode cX2_differentRoots 29 = .ok (.iload_n 1, 1) := by decide +kernel
theorem dX2_differentRoots_30 : decode cX2_differentRoots 30 = .ok (.ireturn, 1) := by decide +kernel
set_option maxRecDepth 20000 in
theorem ggX2_isRootBefore_X0_root : GoodIn wsX2_isRootBefore wsX0_root := goodIn_r _ [5, 6, 12, 13, 14] (by decide +kernel) (by decide +kernel)
set_option maxRecDepth 20000 in
theorem gX2_isRootBefore_X0_root_n76 : GoodIn wsX2_isRootBefore (wsX0_root) := ggX2_isRootBefore_X0_root
theorem dX2_isRootBefore_0 : decode cX2_isRootBefore 0 = .ok (.iconst 0, 1) := by decide +kernel
theorem dX2_isRootBefore_1 : decode cX2_isRootBefore 1 = .ok (.istore_n 2, 1) := by decide +kernel
theorem dX2_isRootBefore_2 : decode cX2_isRootBefore 2 = .ok (.iload_n 2, 1) := by decide +kernel
theorem dX2_isRootBefore_3 : decode cX2_isRootBefore 3 = .ok (.iload_n 1, 1) := by decide +kernel
theorem dX2_isRootBefore_4 : decode cX2_isRootBefore 4 = .ok (.if_icmp .ge 32, 3) := by decide +kernel
theorem dX2_isRootBefore_7 : decode cX2_isRootBefore 7 = .ok (.aload_n 0, 1) := by decide +kernel
theorem dX2_isRootBefore_8 : decode cX2_isRootBefore 8 = .ok (.getfield 11, 3) := by decide +kernel
theorem dX2_isRootBefore_11 : decode cX2_isRootBefore 11 = .ok (.iload_n 2, 1) := by decide +kernel
theorem dX2_isRootBefore_12 : decode cX2_isRootBefore 12 = .ok (.aaload, 1) := by decide +kernel
theorem dX2_isRootBefore_13 : decode cX2_isRootBefore 13 = .ok (.invokevirtual 76, 3) := by decide +kernel
theorem dX2_isRootBefore_16 : decode cX2_isRootBefore 16 = .ok (.aload_n 0, 1) := by decide +kernel
theorem dX2_isRootBefore_17 : decode cX2_isRootBefore 17 = .ok (.getfield 11, 3) := by decide +kernel
theorem dX2_isRootBefore_20 : decode cX2_isRootBefore 20 = .ok (.iload_n 1, 1) := by decide +kernel
theorem dX2_isRootBefore_21 : decode cX2_isRootBefore 21 = .ok (.aaload, 1) := by decide +kernel
theorem dX2_isRootBefore_22 : decode cX2_isRootBefore 22 = .ok (.invokevirtual 76, 3) := by decide +kernel
theorem dX2_isRootBefore_25 : decode cX2_isRootBefore 25 = .ok (.if_icmp .ne 5, 3) := by decide +kernel
theorem dX2_isRootBefore_28 : decode cX2_isRootBefore 28 = .ok (.iconst 1, 1) := by decide +kernel
theorem dX2_isRootBefore_29 : decode cX2_isRootBefore 29 = .ok (.ireturn, 1) := by decide +kernel
theorem dX2_isRootBefore_30 : decode cX2_isRootBefore 30 = .ok (.iinc 2 1, 3) := by decide +kernel
theorem dX2_isRootBefore_33 : decode cX2_isRootBefore 33 = .ok (.goto (-31), 3) := by decide +kernel
theorem dX2_isRootBefore_36 : decode cX2_isRootBefore 36 = .ok (.iconst 0, 1) := by decide +kernel
theorem dX2_isRootBefore_37 : decode cX2_isRootBefore 37 = .ok (.ireturn, 1) := by decide +kernel
theorem dX2_changesAdded_0 : decode cX2_changesAdded 0 = .ok (.iconst 0, 1) := by decide +kernel
theorem dX2_changesAdded_1 : decode cX2_changesAdded 1 = .ok (.istore_n 1, 1) := by decide +kernel
theorem dX2_changesAdded_2 : decode cX2_changesAdded 2 = .ok (.iconst 0, 1) := by decide +kernel
theorem dX2_changesAdded_3 : decode cX2_changesAdded 3 = .ok (.istore_n 2, 1) := by decide +kernel
theorem dX2_changesAdded_4 : decode cX2_changesAdded 4 = .ok (.iload_n 2, 1) := by decide +kernel
theorem dX2_changesAdded_5 : decode cX2_changesAdded 5 = .ok (.aload_n 0, 1) := by decide +kernel
theorem dX2_changesAdded_6 : decode cX2_changesAdded 6 = .ok (.getfield 25, 3) := by decide +kernel
theorem dX2_changesAdded_9 : decode cX2_changesAdded 9 = .ok (.if_icmp .ge 21, 3) := by decide +kernel
theorem dX2_changesAdded_12 : decode cX2_changesAdded 12 = .ok (.iload_n 1, 1) := by decide +kernel
theorem dX2_changesAdded_13 : decode cX2_changesAdded 13 = .ok (.aload_n 0, 1) := by decide +kernel
theorem dX2_changesAdded_14 : decode cX2_changesAdded 14 = .ok (.getfield 11, 3) := by decide +kernel
theorem dX2_changesAdded_17 : decode cX2_changesAdded 17 = .ok (.iload_n 2, 1) := by decide +kernel
theorem dX2_changesAdded_18 : decode cX2_changesAdded 18 = .ok (.aaload, 1) := by decide +kernel
theorem dX2_changesAdded_19 : decode cX2_changesAdded 19 = .ok (.getfield 80, 3) := by decide +kernel
theorem dX2_changesAdded_22 : decode cX2_changesAdded 22 = .ok (.iadd, 1) := by decide +kernel
theorem dX2_changesAdded_23 : decode cX2_changesAdded 23 = .ok (.istore_n 1, 1) := by decide +kernel
theorem dX2_changesAdded_24 : decode cX2_changesAdded 24 = .ok (.iinc 2 1, 3) := by decide +kernel
theorem dX2_changesAdded_27 : decode cX2_changesAdded 27 = .ok (.goto (-23), 3) := by decide +kernel
theorem dX2_changesAdded_30 : decode cX2_changesAdded 30 = .ok (.iload_n 1, 1) := by decide +kernel
theorem dX2_changesAdded_31 : decode cX2_changesAdded 31 = .ok (.ireturn, 1) := by decide +kernel
set_option maxRecDepth 20000 in
theorem ggX2_rootWithSwap_X2_sumUp : GoodIn wsX2_rootWithSwap wsX2_sumUp := goodIn_r _ [5, 6, 7, 4, 8, 9, 10, 11] (by decide +kernel) (by decide +kernel)
set_option maxRecDepth 20000 in
theorem gX2_rootWithSwap_X2_sumUp : GoodIn wsX2_rootWithSwap (va_wsS RX2 179 yX2_sumUp wsX2_sumUp) := goodIn_app (goodIn_of _ (by decide +kernel)) ggX2_rootWithSwap_X2_sumUp
theorem dX2_rootWithSwap_0 : decode cX2_rootWithSwap 0 = .ok (.aload_n 0, 1) := by decide +kernel
theorem dX2_rootWithSwap_1 : decode cX2_rootWithSwap 1 = .ok (.getfield 21, 3) := by decide +kernel
theorem dX2_rootWithSwap_4 : decode cX2_rootWithSwap 4 = .ok (.iload_n 2, 1) := by decide +kernel
theorem dX2_rootWithSwap_5 : decode cX2_rootWithSwap 5 = .ok (.aload_n 1, 1) := by decide +kernel
theorem dX2_rootWithSwap_6 : decode cX2_rootWithSwap 6 = .ok (.iload_n 3, 1) := by decide +kernel
theorem dX2_rootWithSwap_7 : decode cX2_rootWithSwap 7 = .ok (.iaload, 1) := by decide +kernel
theorem dX2_rootWithSwap_8 : decode cX2_rootWithSwap 8 = .ok (.invokestatic 179, 3) := by decide +kernel
theorem dX2_rootWithSwap_11 : decode cX2_rootWithSwap 11 = .ok (.aload_n 0, 1) := by decide +kernel
theorem dX2_rootWithSwap_12 : decode cX2_rootWithSwap 12 = .ok (.getfield 21, 3) := by decide +kernel
theorem dX2_rootWithSwap_15 : decode cX2_rootWithSwap 15 = .ok (.iload_n 3, 1) := by decide +kernel
theorem dX2_rootWithSwap_16 : decode cX2_rootWithSwap 16 = .ok (.aload_n 1, 1) := by decide +kernel
theorem dX2_rootWithSwap_17 : decode cX2_rootWithSwap 17 = .ok (.iload_n 2, 1) := by decide +kernel
theorem dX2_rootWithSwap_18 : decode cX2_rootWithSwap 18 = .ok (.iaload, 1) := by decide +kernel
theorem dX2_rootWithSwap_19 : decode cX2_rootWithSwap 19 = .ok (.invokestatic 179, 3) := by decide +kernel
theorem dX2_rootWithSwap_22 : decode cX2_rootWithSwap 22 = .ok (.aload_n 0, 1) := by decide +kernel
theorem dX2_rootWithSwap_23 : decode cX2_rootWithSwap 23 = .ok (.getfield 21, 3) := by decide +kernel
theorem dX2_rootWithSwap_26 : decode cX2_rootWithSwap 26 = .ok (.iconst 1, 1) := by decide +kernel
theorem dX2_rootWithSwap_27 : decode cX2_rootWithSwap 27 = .ok (.iaload, 1) := by decide +kernel
theorem dX2_rootWithSwap_28 : decode cX2_rootWithSwap 28 = .ok (.istore 4, 2) := by decide +kernel
theorem dX2_rootWithSwap_30 : decode cX2_rootWithSwap 30 = .ok (.aload_n 0, 1) := by decide +kernel
theorem dX2_rootWithSwap_31 : decode cX2_rootWithSwap 31 = .ok (.getfield 21, 3) := by decide +kernel
theorem dX2_rootWithSwap_34 : decode cX2_rootWithSwap 34 = .ok (.iload_n 2, 1) := by decide +kernel
theorem dX2_rootWithSwap_35 : decode cX2_rootWithSwap 35 = .ok (.aload_n 1, 1) := by decide +kernel
theorem dX2_rootWithSwap_36 : decode cX2_rootWithSwap 36 = .ok (.iload_n 2, 1) := by decide +kernel
theorem dX2_rootWithSwap_37 : decode cX2_rootWithSwap 37 = .ok (.iaload, 1) := by decide +kernel
theorem dX2_rootWithSwap_38 : decode cX2_rootWithSwap 38 = .ok (.invokestatic 179, 3) := by decide +kernel
theorem dX2_rootWithSwap_41 : decode cX2_rootWithSwap 41 = .ok (.aload_n 0, 1) := by decide +kernel
theorem dX2_rootWithSwap_42 : decode cX2_rootWithSwap 42 = .ok (.getfield 21, 3) := by decide +kernel
theorem dX2_rootWithSwap_45 : decode cX2_rootWithSwap 45 = .ok (.iload_n 3, 1) := by decide +kernel
theorem dX2_rootWithSwap_46 : decode cX2_rootWithSwap 46 = .ok (.aload_n 1, 1) := by decide +kernel
theorem dX2_rootWithSwap_47 : decode cX2_rootWithSwap 47 = .ok (.iload_n 3, 1) := by decide +kernel
theorem dX2_rootWithSwap_48 : decode cX2_rootWithSwap 48 = .ok (.iaload, 1) := by decide +kernel
theorem dX2_rootWithSwap_49 : decode cX2_rootWithSwap 49 = .ok (.invokestatic 179, 3) := by decide +kernel
theorem dX2_rootWithSwap_52 : decode cX2_rootWithSwap 52 = .ok (.iload 4, 2) := by decide +kernel
theorem dX2_rootWithSwap_54 : decode cX2_rootWithSwap 54 = .ok (.ireturn, 1) := by decide +kernel
theorem dX2_sumOfThing_0 : decode cX2_sumOfThing 0 = .ok (.bipush 37, 2) := by decide +kernel
theorem dX2_sumOfThing_2 : decode cX2_sumOfThing 2 = .ok (.iload_n 1, 1) := by decide +kernel
theorem dX2_sumOfThing_3 : decode cX2_sumOfThing 3 = .ok (.imul, 1) := by decide +kernel
theorem dX2_sumOfThing_4 : decode cX2_sumOfThing 4 = .ok (.bipush 101, 2) := by decide +kernel
theorem dX2_sumOfThing_6 : decode cX2_sumOfThing 6 = .ok (.iload_n 0, 1) := by decide +kernel
theorem dX2_sumOfThing_7 : decode cX2_sumOfThing 7 = .ok (.iconst 1, 1) := by decide +kernel
theorem dX2_sumOfThing_8 : decode cX2_sumOfThing 8 = .ok (.iadd, 1) := by decide +kernel
theorem dX2_sumOfThing_9 : decode cX2_sumOfThing 9 = .ok (.imul, 1) := by decide +kernel
theorem dX2_sumOfThing_10 : decode cX2_sumOfThing 10 = .ok (.iadd, 1) := by decide +kernel
theorem dX2_sumOfThing_11 : decode cX2_sumOfThing 11 = .ok (.sipush 997, 3) := by decide +kernel
theorem dX2_sumOfThing_14 : decode cX2_sumOfThing 14 = .ok (.irem, 1) := by decide +kernel
theorem dX2_sumOfThing_15 : decode cX2_sumOfThing 15 = .ok (.ireturn, 1) := by decide +kernel
theorem dX2_sumOfSums_0 : decode cX2_sumOfSums 0 = .ok (.bipush 61, 2) := by decide +kernel
theorem dX2_sumOfSums_2 : decode cX2_sumOfSums 2 = .ok (.iload_n 0, 1) := by decide +kernel
theorem dX2_sumOfSums_3 : decode cX2_sumOfSums 3 = .ok (.imul, 1) := by decide +kernel
theorem dX2_sumOfSums_4 : decode cX2_sumOfSums 4 = .ok (.bipush 89, 2) := by decide +kernel
theorem dX2_sumOfSums_6 : decode cX2_sumOfSums 6 = .ok (.iload_n 1, 1) := by decide +kernel
theorem dX2_sumOfSums_7 : decode cX2_sumOfSums 7 = .ok (.imul, 1) := by decide +kernel
theorem dX2_sumOfSums_8 : decode cX2_sumOfSums 8 = .ok (.iadd, 1) := by decide +kernel
theorem dX2_sumOfSums_9 : decode cX2_sumOfSums 9 = .ok (.iload_n 2, 1) := by decide +kernel
theorem dX2_sumOfSums_10 : decode cX2_sumOfSums 10 = .ok (.iadd, 1) := by decide +kernel
theorem dX2_sumOfSums_11 : decode cX2_sumOfSums 11 = .ok (.sipush 997, 3) := by decide +kernel
theorem dX2_sumOfSums_14 : decode cX2_sumOfSums 14 = .ok (.irem, 1) := by decide +kernel
theorem dX2_sumOfSums_15 : decode cX2_sumOfSums 15 = .ok (.ireturn, 1) := by decide +kernel
set_option maxRecDepth 20000 in
theorem ggX2_sumAbove_X2_sumOfSums : GoodIn wsX2_sumAbove wsX2_sumOfSums := goodIn_r _ [4] (by decide +kernel) (by decide +kernel)
set_option maxRecDepth 20000 in
theorem gX2_sumAbove_X2_sumOfSums : GoodIn wsX2_sumAbove (va_wsS RX2 183 yX2_sumOfSums wsX2_sumOfSums) := goodIn_app (goodIn_of _ (by decide +kernel)) ggX2_sumAbove_X2_sumOfSums
theorem dX2_sumAbove_0 : decode cX2_sumAbove 0 = .ok (.iload_n 0, 1) := by decide +kernel
theorem dX2_sumAbove_1 : decode cX2_sumAbove 1 = .ok (.iconst 2, 1) := by decide +kernel
theorem dX2_sumAbove_2 : decode cX2_sumAbove 2 = .ok (.irem, 1) := by decide +kernel
theorem dX2_sumAbove_3 : decode cX2_sumAbove 3 = .ok (.ifCond .ne 7, 3) := by decide +kernel
theorem dX2_sumAbove_6 : decode cX2_sumAbove 6 = .ok (.iconst 1, 1) := by decide +kernel
theorem dX2_sumAbove_7 : decode cX2_sumAbove 7 = .ok (.goto 4, 3) := by decide +kernel
theorem dX2_sumAbove_10 : decode cX2_sumAbove 10 = .ok (.iconst 0, 1) := by decide +kernel
theorem dX2_sumAbove_11 : decode cX2_sumAbove 11 = .ok (.istore_n 3, 1) := by decide +kernel
theorem dX2_sumAbove_12 : decode cX2_sumAbove 12 = .ok (.iload_n 3, 1) := by decide +kernel
theorem dX2_sumAbove_13 : decode cX2_sumAbove 13 = .ok (.ifCond .eq 14, 3) := by decide +kernel
theorem dX2_sumAbove_16 : decode cX2_sumAbove 16 = .ok (.iload_n 1, 1) := by decide +kernel
theorem dX2_sumAbove_17 : decode cX2_sumAbove 17 = .ok (.iload_n 2, 1) := by decide +kernel
theorem dX2_sumAbove_18 : decode cX2_sumAbove 18 = .ok (.iload_n 0, 1) := by decide +kernel
theorem dX2_sumAbove_19 : decode cX2_sumAbove 19 = .ok (.iconst 2, 1) := by decide +kernel
theorem dX2_sumAbove_20 : decode cX2_sumAbove 20 = .ok (.idiv, 1) := by decide +kernel
theorem dX2_sumAbove_21 : decode cX2_sumAbove 21 = .ok (.invokestatic 183, 3) := by decide +kernel
theorem dX2_sumAbove_24 : decode cX2_sumAbove 24 = .ok (.goto 11, 3) := by decide +kernel
theorem dX2_sumAbove_27 : decode cX2_sumAbove 27 = .ok (.iload_n 2, 1) := by decide +kernel
theorem dX2_sumAbove_28 : decode cX2_sumAbove 28 = .ok (.iload_n 1, 1) := by decide +kernel
theorem dX2_sumAbove_29 : decode cX2_sumAbove 29 = .ok (.iload_n 0, 1) := by decide +kernel
theorem dX2_sumAbove_30 : decode cX2_sumAbove 30 = .ok (.iconst 2, 1) := by decide +kernel
theorem dX2_sumAbove_31 : decode cX2_sumAbove 31 = .ok (.idiv, 1) := by decide +kernel
theorem dX2_sumAbove_32 : decode cX2_sumAbove 32 = .ok (.invokestatic 183, 3) := by decide +kernel
theorem dX2_sumAbove_35 : decode cX2_sumAbove 35 = .ok (.ireturn, 1) := by decide +kernel
set_option maxRecDepth 20000 in
theorem ggX2_sumUp_X2_sumOfThing : GoodIn wsX2_sumUp wsX2_sumOfThing := goodIn_r _ [4] (by decide +kernel) (by decide +kernel)
set_option maxRecDepth 20000 in
theorem gX2_sumUp_X2_sumOfThing : GoodIn wsX2_sumUp (va_wsS RX2 123 yX2_sumOfThing wsX2_sumOfThing) := goodIn_app (goodIn_of _ (by decide +kernel)) ggX2_sumUp_X2_sumOfThing
set_option maxRecDepth 20000 in
theorem ggX2_sumUp_X2_sumOfSums : GoodIn wsX2_sumUp wsX2_sumOfSums := goodIn_r _ [7] (by decide +kernel) (by decide +kernel)
set_option maxRecDepth 20000 in
theorem gX2_sumUp_X2_sumOfSums : GoodIn wsX2_sumUp (va_wsS RX2 183 yX2_sumOfSums wsX2_sumOfSums) := goodIn_app (goodIn_of _ (by decide +kernel)) ggX2_sumUp_X2_sumOfSums
theorem dX2_sumUp_0 : decode cX2_sumUp 0 = .ok (.aload_n 0, 1) := by decide +kernel
theorem dX2_sumUp_1 : decode cX2_sumUp 1 = .ok (.bipush 16, 2) := by decide +kernel
theorem dX2_sumUp_3 : decode cX2_sumUp 3 = .ok (.iload_n 1, 1) := by decide +kernel
theorem dX2_sumUp_4 : decode cX2_sumUp 4 = .ok (.iadd, 1) := by decide +kernel
theorem dX2_sumUp_5 : decode cX2_sumUp 5 = .ok (.iload_n 1, 1) := by decide +kernel
theorem dX2_sumUp_6 : decode cX2_sumUp 6 = .ok (.iload_n 2, 1) := by decide +kernel
theorem dX2_sumUp_7 : decode cX2_sumUp 7 = .ok (.invokestatic 123, 3) := by decide +kernel
theorem dX2_sumUp_10 : decode cX2_sumUp 10 = .ok (.iastore, 1) := by decide +kernel
theorem dX2_sumUp_11 : decode cX2_sumUp 11 = .ok (.bipush 16, 2) := by decide +kernel
theorem dX2_sumUp_13 : decode cX2_sumUp 13 = .ok (.iload_n 1, 1) := by decide +kernel
theorem dX2_sumUp_14 : decode cX2_sumUp 14 = .ok (.iadd, 1) := by decide +kernel
theorem dX2_sumUp_15 : decode cX2_sumUp 15 = .ok (.iconst 2, 1) := by decide +kernel
theorem dX2_sumUp_16 : decode cX2_sumUp 16 = .ok (.idiv, 1) := by decide +kernel
theorem dX2_sumUp_17 : decode cX2_sumUp 17 = .ok (.istore_n 3, 1) := by decide +kernel
theorem dX2_sumUp_18 : decode cX2_sumUp 18 = .ok (.iload_n 3, 1) := by decide +kernel
theorem dX2_sumUp_19 : decode cX2_sumUp 19 = .ok (.iconst 1, 1) := by decide +kernel
theorem dX2_sumUp_20 : decode cX2_sumUp 20 = .ok (.if_icmp .lt 29, 3) := by decide +kernel
theorem dX2_sumUp_23 : decode cX2_sumUp 23 = .ok (.aload_n 0, 1) := by decide +kernel
theorem dX2_sumUp_24 : decode cX2_sumUp 24 = .ok (.iload_n 3, 1) := by decide +kernel
theorem dX2_sumUp_25 : decode cX2_sumUp 25 = .ok (.aload_n 0, 1) := by decide +kernel
theorem dX2_sumUp_26 : decode cX2_sumUp 26 = .ok (.iconst 2, 1) := by decide +kernel
theorem dX2_sumUp_27 : decode cX2_sumUp 27 = .ok (.iload_n 3, 1) := by decide +kernel
theorem dX2_sumUp_28 : decode cX2_sumUp 28 = .ok (.imul, 1) := by decide +kernel
theorem dX2_sumUp_29 : decode cX2_sumUp 29 = .ok (.iaload, 1) := by decide +kernel
theorem dX2_sumUp_30 : decode cX2_sumUp 30 = .ok (.aload_n 0, 1) := by decide +kernel
theorem dX2_sumUp_31 : decode cX2_sumUp 31 = .ok (.iconst 2, 1) := by decide +kernel
theorem dX2_sumUp_32 : decode cX2_sumUp 32 = .ok (.iload_n 3, 1) := by decide +kernel
theorem dX2_sumUp_33 : decode cX2_sumUp 33 = .ok (.imul, 1) := by decide +kernel
theorem dX2_sumUp_34 : decode cX2_sumUp 34 = .ok (.iconst 1, 1) := by decide +kernel
theorem dX2_sumUp_35 : decode cX2_sumUp 35 = .ok (.iadd, 1) := by decide +kernel
theorem dX2_sumUp_36 : decode cX2_sumUp 36 = .ok (.iaload, 1) := by decide +kernel
theorem dX2_sumUp_37 : decode cX2_sumUp 37 = .ok (.iload_n 3, 1) := by decide +kernel
theorem dX2_sumUp_38 : decode cX2_sumUp 38 = .ok (.invokestatic 183, 3) := by decide +kernel
theorem dX2_sumUp_41 : decode cX2_sumUp 41 = .ok (.iastore, 1) := by decide +kernel
theorem dX2_sumUp_42 : decode cX2_sumUp 42 = .ok (.iload_n 3, 1) := by decide +kernel
theorem dX2_sumUp_43 : decode cX2_sumUp 43 = .ok (.iconst 2, 1) := by decide +kernel
theorem dX2_sumUp_44 : decode cX2_sumUp 44 = .ok (.idiv, 1) := by decide +kernel
theorem dX2_sumUp_45 : decode cX2_sumUp 45 = .ok (.istore_n 3, 1) := by decide +kernel
theorem dX2_sumUp_46 : decode cX2_sumUp 46 = .ok (.goto (-28), 3) := by decide +kernel
theorem dX2_sumUp_49 : decode cX2_sumUp 49 = .ok (.return_, 1) := by decide +kernel
theorem dX2_placesApart_0 : decode cX2_placesApart 0 = .ok (.iconst 0, 1) := by decide +kernel
theorem dX2_placesApart_1 : decode cX2_placesApart 1 = .ok (.istore_n 2, 1) := by decide +kernel
theorem dX2_placesApart_2 : decode cX2_placesApart 2 = .ok (.iconst 1, 1) := by decide +kernel
theorem dX2_placesApart_3 : decode cX2_placesApart 3 = .ok (.istore_n 3, 1) := by decide +kernel
theorem dX2_placesApart_4 : decode cX2_placesApart 4 = .ok (.iload_n 3, 1) := by decide +kernel
theorem dX2_placesApart_5 : decode cX2_placesApart 5 = .ok (.bipush 31, 2) := by decide +kernel
theorem dX2_placesApart_7 : decode cX2_placesApart 7 = .ok (.if_icmp .gt 21, 3) := by decide +kernel
theorem dX2_placesApart_10 : decode cX2_placesApart 10 = .ok (.aload_n 0, 1) := by decide +kernel
theorem dX2_placesApart_11 : decode cX2_placesApart 11 = .ok (.iload_n 3, 1) := by decide +kernel
theorem dX2_placesApart_12 : decode cX2_placesApart 12 = .ok (.iaload, 1) := by decide +kernel
theorem dX2_placesApart_13 : decode cX2_placesApart 13 = .ok (.aload_n 1, 1) := by decide +kernel
theorem dX2_placesApart_14 : decode cX2_placesApart 14 = .ok (.iload_n 3, 1) := by decide +kernel
theorem dX2_placesApart_15 : decode cX2_placesApart 15 = .ok (.iaload, 1) := by decide +kernel
theorem dX2_placesApart_16 : decode cX2_placesApart 16 = .ok (.if_icmp .eq 6, 3) := by decide +kernel
theorem dX2_placesApart_19 : decode cX2_placesApart 19 = .ok (.iinc 2 1, 3) := by decide +kernel
theorem dX2_placesApart_22 : decode cX2_placesApart 22 = .ok (.iinc 3 1, 3) := by decide +kernel
theorem dX2_placesApart_25 : decode cX2_placesApart 25 = .ok (.goto (-21), 3) := by decide +kernel
theorem dX2_placesApart_28 : decode cX2_placesApart 28 = .ok (.iload_n 2, 1) := by decide +kernel
theorem dX2_placesApart_29 : decode cX2_placesApart 29 = .ok (.ireturn, 1) := by decide +kernel
set_option maxRecDepth 20000 in
theorem ggX2_placesLookedAt_X2_hasBit : GoodIn wsX2_placesLookedAt wsX2_hasBit := goodIn_r _ [4] (by decide +kernel) (by decide +kernel)
set_option maxRecDepth 20000 in
theorem gX2_placesLookedAt_X2_hasBit : GoodIn wsX2_placesLookedAt (va_wsS RX2 141 yX2_hasBit wsX2_hasBit) := goodIn_app (goodIn_of _ (by decide +kernel)) ggX2_placesLookedAt_X2_hasBit
theorem dX2_placesLookedAt_0 : decode cX2_placesLookedAt 0 = .ok (.iconst 2, 1) := by decide +kernel
theorem dX2_placesLookedAt_1 : decode cX2_placesLookedAt 1 = .ok (.istore_n 2, 1) := by decide +kernel
theorem dX2_placesLookedAt_2 : decode cX2_placesLookedAt 2 = .ok (.iconst 1, 1) := by decide +kernel
theorem dX2_placesLookedAt_3 : decode cX2_placesLookedAt 3 = .ok (.istore_n 3, 1) := by decide +kernel
theorem dX2_placesLookedAt_4 : decode cX2_placesLookedAt 4 = .ok (.iload_n 3, 1) := by decide +kernel
theorem dX2_placesLookedAt_5 : decode cX2_placesLookedAt 5 = .ok (.bipush 16, 2) := by decide +kernel
theorem dX2_placesLookedAt_7 : decode cX2_placesLookedAt 7 = .ok (.if_icmp .ge 34, 3) := by decide +kernel
theorem dX2_placesLookedAt_10 : decode cX2_placesLookedAt 10 = .ok (.iload_n 2, 1) := by decide +kernel
theorem dX2_placesLookedAt_11 : decode cX2_placesLookedAt 11 = .ok (.iload_n 3, 1) := by decide +kernel
theorem dX2_placesLookedAt_12 : decode cX2_placesLookedAt 12 = .ok (.invokestatic 141, 3) := by decide +kernel
theorem dX2_placesLookedAt_15 : decode cX2_placesLookedAt 15 = .ok (.ifCond .eq 20, 3) := by decide +kernel
theorem dX2_placesLookedAt_18 : decode cX2_placesLookedAt 18 = .ok (.aload_n 0, 1) := by decide +kernel
theorem dX2_placesLookedAt_19 : decode cX2_placesLookedAt 19 = .ok (.iload_n 3, 1) := by decide +kernel
theorem dX2_placesLookedAt_20 : decode cX2_placesLookedAt 20 = .ok (.iaload, 1) := by decide +kernel
theorem dX2_placesLookedAt_21 : decode cX2_placesLookedAt 21 = .ok (.aload_n 1, 1) := by decide +kernel
theorem dX2_placesLookedAt_22 : decode cX2_placesLookedAt 22 = .ok (.iload_n 3, 1) := by decide +kernel
theorem dX2_placesLookedAt_23 : decode cX2_placesLookedAt 23 = .ok (.iaload, 1) := by decide +kernel
theorem dX2_placesLookedAt_24 : decode cX2_placesLookedAt 24 = .ok (.if_icmp .eq 11, 3) := by decide +kernel
theorem dX2_placesLookedAt_27 : decode cX2_placesLookedAt 27 = .ok (.iload_n 2, 1) := by decide +kernel
theorem dX2_placesLookedAt_28 : decode cX2_placesLookedAt 28 = .ok (.iconst 3, 1) := by decide +kernel
theorem dX2_placesLookedAt_29 : decode cX2_placesLookedAt 29 = .ok (.iconst 2, 1) := by decide +kernel
theorem dX2_placesLookedAt_30 : decode cX2_placesLookedAt 30 = .ok (.iload_n 3, 1) := by decide +kernel
theorem dX2_placesLookedAt_31 : decode cX2_placesLookedAt 31 = .ok (.imul, 1) := by decide +kernel
theorem dX2_placesLookedAt_32 : decode cX2_placesLookedAt 32 = .ok (.ishl, 1) := by decide +kernel
theorem dX2_placesLookedAt_33 : decode cX2_placesLookedAt 33 = .ok (.ior, 1) := by decide +kernel
theorem dX2_placesLookedAt_34 : decode cX2_placesLookedAt 34 = .ok (.istore_n 2, 1) := by decide +kernel
theorem dX2_placesLookedAt_35 : decode cX2_placesLookedAt 35 = .ok (.iinc 3 1, 3) := by decide +kernel
theorem dX2_placesLookedAt_38 : decode cX2_placesLookedAt 38 = .ok (.goto (-34), 3) := by decide +kernel
theorem dX2_placesLookedAt_41 : decode cX2_placesLookedAt 41 = .ok (.iload_n 2, 1) := by decide +kernel
theorem dX2_placesLookedAt_42 : decode cX2_placesLookedAt 42 = .ok (.ireturn, 1) := by decide +kernel
set_option maxRecDepth 20000 in
theorem ggX2_drawersApart_X2_placesLookedAt : GoodIn wsX2_drawersApart wsX2_placesLookedAt := goodIn_r _ [4, 5, 6, 3, 7] (by decide +kernel) (by decide +kernel)
set_option maxRecDepth 20000 in
theorem gX2_drawersApart_X2_placesLookedAt : GoodIn wsX2_drawersApart (va_wsS RX2 133 yX2_placesLookedAt wsX2_placesLookedAt) := goodIn_app (goodIn_of _ (by decide +kernel)) ggX2_drawersApart_X2_placesLookedAt
set_option maxRecDepth 20000 in
theorem ggX2_drawersApart_X2_hasBit : GoodIn wsX2_drawersApart wsX2_hasBit := goodIn_r _ [7] (by decide +kernel) (by decide +kernel)
set_option maxRecDepth 20000 in
theorem gX2_drawersApart_X2_hasBit : GoodIn wsX2_drawersApart (va_wsS RX2 141 yX2_hasBit wsX2_hasBit) := goodIn_app (goodIn_of _ (by decide +kernel)) ggX2_drawersApart_X2_hasBit
theorem dX2_drawersApart_0 : decode cX2_drawersApart 0 = .ok (.aload_n 0, 1) := by decide +kernel
theorem dX2_drawersApart_1 : decode cX2_drawersApart 1 = .ok (.aload_n 1, 1) := by decide +kernel
theorem dX2_drawersApart_2 : decode cX2_drawersApart 2 = .ok (.invokestatic 133, 3) := by decide +kernel
theorem dX2_drawersApart_5 : decode cX2_drawersApart 5 = .ok (.istore_n 2, 1) := by decide +kernel
theorem dX2_drawersApart_6 : decode cX2_drawersApart 6 = .ok (.iconst 0, 1) := by decide +kernel
theorem dX2_drawersApart_7 : decode cX2_drawersApart 7 = .ok (.istore_n 3, 1) := by decide +kernel
theorem dX2_drawersApart_8 : decode cX2_drawersApart 8 = .ok (.iconst 0, 1) := by decide +kernel
theorem dX2_drawersApart_9 : decode cX2_drawersApart 9 = .ok (.istore 4, 2) := by decide +kernel
theorem dX2_drawersApart_11 : decode cX2_drawersApart 11 = .ok (.iload 4, 2) := by decide +kernel
theorem dX2_drawersApart_13 : decode cX2_drawersApart 13 = .ok (.bipush 16, 2) := by decide +kernel
theorem dX2_drawersApart_15 : decode cX2_drawersApart 15 = .ok (.if_icmp .ge 43, 3) := by decide +kernel
theorem dX2_drawersApart_18 : decode cX2_drawersApart 18 = .ok (.bipush 16, 2) := by decide +kernel
theorem dX2_drawersApart_20 : decode cX2_drawersApart 20 = .ok (.iload 4, 2) := by decide +kernel
theorem dX2_drawersApart_22 : decode cX2_drawersApart 22 = .ok (.iadd, 1) := by decide +kernel
theorem dX2_drawersApart_23 : decode cX2_drawersApart 23 = .ok (.istore 5, 2) := by decide +kernel
theorem dX2_drawersApart_25 : decode cX2_drawersApart 25 = .ok (.iload_n 2, 1) := by decide +kernel
theorem dX2_drawersApart_26 : decode cX2_drawersApart 26 = .ok (.iload 5, 2) := by decide +kernel
theorem dX2_drawersApart_28 : decode cX2_drawersApart 28 = .ok (.invokestatic 141, 3) := by decide +kernel
theorem dX2_drawersApart_31 : decode cX2_drawersApart 31 = .ok (.ifCond .eq 21, 3) := by decide +kernel
theorem dX2_drawersApart_34 : decode cX2_drawersApart 34 = .ok (.aload_n 0, 1) := by decide +kernel
theorem dX2_drawersApart_35 : decode cX2_drawersApart 35 = .ok (.iload 5, 2) := by decide +kernel
theorem dX2_drawersApart_37 : decode cX2_drawersApart 37 = .ok (.iaload, 1) := by decide +kernel
theorem dX2_drawersApart_38 : decode cX2_drawersApart 38 = .ok (.aload_n 1, 1) := by decide +kernel
theorem dX2_drawersApart_39 : decode cX2_drawersApart 39 = .ok (.iload 5, 2) := by decide +kernel
theorem dX2_drawersApart_41 : decode cX2_drawersApart 41 = .ok (.iaload, 1) := by decide +kernel
theorem dX2_drawersApart_42 : decode cX2_drawersApart 42 = .ok (.if_icmp .eq 10, 3) := by decide +kernel
theorem dX2_drawersApart_45 : decode cX2_drawersApart 45 = .ok (.iload_n 3, 1) := by decide +kernel
theorem dX2_drawersApart_46 : decode cX2_drawersApart 46 = .ok (.iconst 1, 1) := by decide +kernel
theorem dX2_drawersApart_47 : decode cX2_drawersApart 47 = .ok (.iload 4, 2) := by decide +kernel
theorem dX2_drawersApart_49 : decode cX2_drawersApart 49 = .ok (.ishl, 1) := by decide +kernel
theorem dX2_drawersApart_50 : decode cX2_drawersApart 50 = .ok (.ior, 1) := by decide +kernel
theorem dX2_drawersApart_51 : decode cX2_drawersApart 51 = .ok (.istore_n 3, 1) := by decide +kernel
theorem dX2_drawersApart_52 : decode cX2_drawersApart 52 = .ok (.iinc 4 1, 3) := by decide +kernel
theorem dX2_drawersApart_55 : decode cX2_drawersApart 55 = .ok (.goto (-44), 3) := by decide +kernel
theorem dX2_drawersApart_58 : decode cX2_drawersApart 58 = .ok (.iload_n 3, 1) := by decide +kernel
theorem dX2_drawersApart_59 : decode cX2_drawersApart 59 = .ok (.ireturn, 1) := by decide +kernel
theorem dX2_hasBit_0 : decode cX2_hasBit 0 = .ok (.iload_n 0, 1) := by decide +kernel
theorem dX2_hasBit_1 : decode cX2_hasBit 1 = .ok (.iload_n 1, 1) := by decide +kernel
theorem dX2_hasBit_2 : decode cX2_hasBit 2 = .ok (.iushr, 1) := by decide +kernel
theorem dX2_hasBit_3 : decode cX2_hasBit 3 = .ok (.iconst 1, 1) := by decide +kernel
theorem dX2_hasBit_4 : decode cX2_hasBit 4 = .ok (.iand, 1) := by decide +kernel
theorem dX2_hasBit_5 : decode cX2_hasBit 5 = .ok (.iconst 1, 1) := by decide +kernel
theorem dX2_hasBit_6 : decode cX2_hasBit 6 = .ok (.if_icmp .ne 7, 3) := by decide +kernel
theorem dX2_hasBit_9 : decode cX2_hasBit 9 = .ok (.iconst 1, 1) := by decide +kernel
theorem dX2_hasBit_10 : decode cX2_hasBit 10 = .ok (.goto 4, 3) := by decide +kernel
theorem dX2_hasBit_13 : decode cX2_hasBit 13 = .ok (.iconst 0, 1) := by decide +kernel
theorem dX2_hasBit_14 : decode cX2_hasBit 14 = .ok (.ireturn, 1) := by decide +kernel
theorem dX2_checkDrawer_0 : decode cX2_checkDrawer 0 = .ok (.iload_n 0, 1) := by decide +kernel
theorem dX2_checkDrawer_1 : decode cX2_checkDrawer 1 = .ok (.ifCond .lt 9, 3) := by decide +kernel
theorem dX2_checkDrawer_4 : decode cX2_checkDrawer 4 = .ok (.iload_n 0, 1) := by decide +kernel
theorem dX2_checkDrawer_5 : decode cX2_checkDrawer 5 = .ok (.bipush 16, 2) := by decide +kernel
theorem dX2_checkDrawer_7 : decode cX2_checkDrawer 7 = .ok (.if_icmp .lt 13, 3) := by decide +kernel
theorem dX2_checkDrawer_10 : decode cX2_checkDrawer 10 = .ok (.new 68, 3) := by decide +kernel
theorem dX2_checkDrawer_13 : decode cX2_checkDrawer 13 = .ok (.dup, 1) := by decide +kernel
theorem dX2_checkDrawer_14 : decode cX2_checkDrawer 14 = .ok (.ldc 186, 2) := by decide +kernel
theorem dX2_checkDrawer_16 : decode cX2_checkDrawer 16 = .ok (.invokespecial 72, 3) := by decide +kernel
theorem dX2_checkDrawer_19 : decode cX2_checkDrawer 19 = .ok (.athrow, 1) := by decide +kernel
theorem dX2_checkDrawer_20 : decode cX2_checkDrawer 20 = .ok (.return_, 1) := by decide +kernel
theorem dX2_checkWhat_0 : decode cX2_checkWhat 0 = .ok (.iload_n 0, 1) := by decide +kernel
theorem dX2_checkWhat_1 : decode cX2_checkWhat 1 = .ok (.ifCond .lt 8, 3) := by decide +kernel
theorem dX2_checkWhat_4 : decode cX2_checkWhat 4 = .ok (.iload_n 0, 1) := by decide +kernel
theorem dX2_checkWhat_5 : decode cX2_checkWhat 5 = .ok (.iload_n 1, 1) := by decide +kernel
theorem dX2_checkWhat_6 : decode cX2_checkWhat 6 = .ok (.if_icmp .lt 13, 3) := by decide +kernel
theorem dX2_checkWhat_9 : decode cX2_checkWhat 9 = .ok (.new 68, 3) := by decide +kernel
theorem dX2_checkWhat_12 : decode cX2_checkWhat 12 = .ok (.dup, 1) := by decide +kernel
theorem dX2_checkWhat_13 : decode cX2_checkWhat 13 = .ok (.ldc 188, 2) := by decide +kernel
theorem dX2_checkWhat_15 : decode cX2_checkWhat 15 = .ok (.invokespecial 72, 3) := by decide +kernel
theorem dX2_checkWhat_18 : decode cX2_checkWhat 18 = .ok (.athrow, 1) := by decide +kernel
theorem dX2_checkWhat_19 : decode cX2_checkWhat 19 = .ok (.return_, 1) := by decide +kernel
theorem dX2_checkThing_0 : decode cX2_checkThing 0 = .ok (.iload_n 0, 1) := by decide +kernel
theorem dX2_checkThing_1 : decode cX2_checkThing 1 = .ok (.ifCond .lt 10, 3) := by decide +kernel
theorem dX2_checkThing_4 : decode cX2_checkThing 4 = .ok (.iload_n 0, 1) := by decide +kernel
theorem dX2_checkThing_5 : decode cX2_checkThing 5 = .ok (.sipush 9999, 3) := by decide +kernel
theorem dX2_checkThing_8 : decode cX2_checkThing 8 = .ok (.if_icmp .le 13, 3) := by decide +kernel
theorem dX2_checkThing_11 : decode cX2_checkThing 11 = .ok (.new 190, 3) := by decide +kernel
theorem dX2_checkThing_14 : decode cX2_checkThing 14 = .ok (.dup, 1) := by decide +kernel
theorem dX2_checkThing_15 : decode cX2_checkThing 15 = .ok (.ldc 192, 2) := by decide +kernel
theorem dX2_checkThing_17 : decode cX2_checkThing 17 = .ok (.invokespecial 194, 3) := by decide +kernel
theorem dX2_checkThing_20 : decode cX2_checkThing 20 = .ok (.athrow, 1) := by decide +kernel
theorem dX2_checkThing_21 : decode cX2_checkThing 21 = .ok (.return_, 1) := by decide +kernel
theorem dX2_checkSum_0 : decode cX2_checkSum 0 = .ok (.iload_n 0, 1) := by decide +kernel
theorem dX2_checkSum_1 : decode cX2_checkSum 1 = .ok (.ifCond .lt 10, 3) := by decide +kernel
theorem dX2_checkSum_4 : decode cX2_checkSum 4 = .ok (.iload_n 0, 1) := by decide +kernel
theorem dX2_checkSum_5 : decode cX2_checkSum 5 = .ok (.sipush 997, 3) := by decide +kernel
theorem dX2_checkSum_8 : decode cX2_checkSum 8 = .ok (.if_icmp .lt 13, 3) := by decide +kernel
theorem dX2_checkSum_11 : decode cX2_checkSum 11 = .ok (.new 190, 3) := by decide +kernel
theorem dX2_checkSum_14 : decode cX2_checkSum 14 = .ok (.dup, 1) := by decide +kernel
theorem dX2_checkSum_15 : decode cX2_checkSum 15 = .ok (.ldc 195, 2) := by decide +kernel
theorem dX2_checkSum_17 : decode cX2_checkSum 17 = .ok (.invokespecial 194, 3) := by decide +kernel
theorem dX2_checkSum_20 : decode cX2_checkSum 20 = .ok (.athrow, 1) := by decide +kernel
theorem dX2_checkSum_21 : decode cX2_checkSum 21 = .ok (.return_, 1) := by decide +kernel
theorem dX3_init_0 : decode cX3_init 0 = .ok (.aload_n 0, 1) := by decide +kernel
theorem dX3_init_1 : decode cX3_init 1 = .ok (.invokespecial 1, 3) := by decide +kernel
theorem dX3_init_4 : decode cX3_init 4 = .ok (.aload_n 0, 1) := by decide +kernel
theorem dX3_init_5 : decode cX3_init 5 = .ok (.iconst 0, 1) := by decide +kernel
theorem dX3_init_6 : decode cX3_init 6 = .ok (.anewarray 7, 3) := by decide +kernel
theorem dX3_init_9 : decode cX3_init 9 = .ok (.putfield 9, 3) := by decide +kernel
theorem dX3_init_12 : decode cX3_init 12 = .ok (.aload_n 0, 1) := by decide +kernel
theorem dX3_init_13 : decode cX3_init 13 = .ok (.iconst 0, 1) := by decide +kernel
theorem dX3_init_14 : decode cX3_init 14 = .ok (.anewarray 7, 3) := by decide +kernel
theorem dX3_init_17 : decode cX3_init 17 = .ok (.putfield 15, 3) := by decide +kernel
theorem dX3_init_20 : decode cX3_init 20 = .ok (.aload_n 0, 1) := by decide +kernel
theorem dX3_init_21 : decode cX3_init 21 = .ok (.bipush 6, 2) := by decide +kernel
theorem dX3_init_23 : decode cX3_init 23 = .ok (.newarray .int, 2) := by decide +kernel
theorem dX3_init_25 : decode cX3_init 25 = .ok (.putfield 18, 3) := by decide +kernel
theorem dX3_init_28 : decode cX3_init 28 = .ok (.return_, 1) := by decide +kernel
theorem dX3_more_0 : decode cX3_more 0 = .ok (.aload_n 0, 1) := by decide +kernel
theorem dX3_more_1 : decode cX3_more 1 = .ok (.arraylength, 1) := by decide +kernel
theorem dX3_more_2 : decode cX3_more 2 = .ok (.iconst 1, 1) := by decide +kernel
theorem dX3_more_3 : decode cX3_more 3 = .ok (.iadd, 1) := by decide +kernel
theorem dX3_more_4 : decode cX3_more 4 = .ok (.anewarray 7, 3) := by decide +kernel
theorem dX3_more_7 : decode cX3_more 7 = .ok (.astore_n 2, 1) := by decide +kernel
theorem dX3_more_8 : decode cX3_more 8 = .ok (.iconst 0, 1) := by decide +kernel
theorem dX3_more_9 : decode cX3_more 9 = .ok (.istore_n 3, 1) := by decide +kernel
theorem dX3_more_10 : decode cX3_more 10 = .ok (.iload_n 3, 1) := by decide +kernel
theorem dX3_more_11 : decode cX3_more 11 = .ok (.aload_n 0, 1) := by decide +kernel
theorem dX3_more_12 : decode cX3_more 12 = .ok (.arraylength, 1) := by decide +kernel
theorem dX3_more_13 : decode cX3_more 13 = .ok (.if_icmp .ge 15, 3) := by decide +kernel
theorem dX3_more_16 : decode cX3_more 16 = .ok (.aload_n 2, 1) := by decide +kernel
theorem dX3_more_17 : decode cX3_more 17 = .ok (.iload_n 3, 1) := by decide +kernel
theorem dX3_more_18 : decode cX3_more 18 = .ok (.aload_n 0, 1) := by decide +kernel
theorem dX3_more_19 : decode cX3_more 19 = .ok (.iload_n 3, 1) := by decide +kernel
theorem dX3_more_20 : decode cX3_more 20 = .ok (.aaload, 1) := by decide +kernel
theorem dX3_more_21 : decode cX3_more 21 = .ok (.aastore, 1) := by decide +kernel
theorem dX3_more_22 : decode cX3_more 22 = .ok (.iinc 3 1, 3) := by decide +kernel
theorem dX3_more_25 : decode cX3_more 25 = .ok (.goto (-15), 3) := by decide +kernel
theorem dX3_more_28 : decode cX3_more 28 = .ok (.aload_n 2, 1) := by decide +kernel
theorem dX3_more_29 : decode cX3_more 29 = .ok (.aload_n 0, 1) := by decide +kernel
theorem dX3_more_30 : decode cX3_more 30 = .ok (.arraylength, 1) := by decide +kernel
theorem dX3_more_31 : decode cX3_more 31 = .ok (.aload_n 1, 1) := by decide +kernel
theorem dX3_more_32 : decode cX3_more 32 = .ok (.aastore, 1) := by decide +kernel
theorem dX3_more_33 : decode cX3_more 33 = .ok (.aload_n 2, 1) := by decide +kernel
theorem dX3_more_34 : decode cX3_more 34 = .ok (.areturn, 1) := by decide +kernel
