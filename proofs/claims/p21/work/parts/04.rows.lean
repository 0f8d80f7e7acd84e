set_option maxRecDepth 20000 in
theorem ggX0_init_X2_sumOfThing : GoodIn wsX0_init wsX2_sumOfThing := goodIn_r _ [9] (by decide +kernel) (by decide +kernel)
set_option maxRecDepth 20000 in
theorem gX0_init_X2_sumOfThing_n18 : GoodIn wsX0_init (wsX2_sumOfThing) := ggX0_init_X2_sumOfThing
set_option maxRecDepth 20000 in
theorem ggX0_init_X2_sumOfSums : GoodIn wsX0_init wsX2_sumOfSums := goodIn_r _ [11] (by decide +kernel) (by decide +kernel)
set_option maxRecDepth 20000 in
theorem gX0_init_X2_sumOfSums_n22 : GoodIn wsX0_init (wsX2_sumOfSums) := ggX0_init_X2_sumOfSums
theorem dX0_init_0 : decode cX0_init 0 = .ok (.aload_n 0, 1) := by decide +kernel
theorem dX0_init_1 : decode cX0_init 1 = .ok (.invokespecial 3, 3) := by decide +kernel
theorem dX0_init_4 : decode cX0_init 4 = .ok (.aload_n 0, 1) := by decide +kernel
theorem dX0_init_5 : decode cX0_init 5 = .ok (.bipush 16, 2) := by decide +kernel
theorem dX0_init_7 : decode cX0_init 7 = .ok (.newarray .int, 2) := by decide +kernel
theorem dX0_init_9 : decode cX0_init 9 = .ok (.putfield 9, 3) := by decide +kernel
theorem dX0_init_12 : decode cX0_init 12 = .ok (.aload_n 0, 1) := by decide +kernel
theorem dX0_init_13 : decode cX0_init 13 = .ok (.bipush 32, 2) := by decide +kernel
theorem dX0_init_15 : decode cX0_init 15 = .ok (.newarray .int, 2) := by decide +kernel
theorem dX0_init_17 : decode cX0_init 17 = .ok (.putfield 15, 3) := by decide +kernel
theorem dX0_init_20 : decode cX0_init 20 = .ok (.iconst 0, 1) := by decide +kernel
theorem dX0_init_21 : decode cX0_init 21 = .ok (.istore_n 1, 1) := by decide +kernel
theorem dX0_init_22 : decode cX0_init 22 = .ok (.iload_n 1, 1) := by decide +kernel
theorem dX0_init_23 : decode cX0_init 23 = .ok (.bipush 16, 2) := by decide +kernel
theorem dX0_init_25 : decode cX0_init 25 = .ok (.if_icmp .ge 23, 3) := by decide +kernel
theorem dX0_init_28 : decode cX0_init 28 = .ok (.aload_n 0, 1) := by decide +kernel
theorem dX0_init_29 : decode cX0_init 29 = .ok (.getfield 15, 3) := by decide +kernel
theorem dX0_init_32 : decode cX0_init 32 = .ok (.bipush 16, 2) := by decide +kernel
theorem dX0_init_34 : decode cX0_init 34 = .ok (.iload_n 1, 1) := by decide +kernel
theorem dX0_init_35 : decode cX0_init 35 = .ok (.iadd, 1) := by decide +kernel
theorem dX0_init_36 : decode cX0_init 36 = .ok (.iload_n 1, 1) := by decide +kernel
theorem dX0_init_37 : decode cX0_init 37 = .ok (.iconst 0, 1) := by decide +kernel
theorem dX0_init_38 : decode cX0_init 38 = .ok (.invokestatic 18, 3) := by decide +kernel
theorem dX0_init_41 : decode cX0_init 41 = .ok (.iastore, 1) := by decide +kernel
theorem dX0_init_42 : decode cX0_init 42 = .ok (.iinc 1 1, 3) := by decide +kernel
theorem dX0_init_45 : decode cX0_init 45 = .ok (.goto (-23), 3) := by decide +kernel
theorem dX0_init_48 : decode cX0_init 48 = .ok (.bipush 15, 2) := by decide +kernel
theorem dX0_init_50 : decode cX0_init 50 = .ok (.istore_n 1, 1) := by decide +kernel
theorem dX0_init_51 : decode cX0_init 51 = .ok (.iload_n 1, 1) := by decide +kernel
theorem dX0_init_52 : decode cX0_init 52 = .ok (.iconst 1, 1) := by decide +kernel
theorem dX0_init_53 : decode cX0_init 53 = .ok (.if_icmp .lt 37, 3) := by decide +kernel
theorem dX0_init_56 : decode cX0_init 56 = .ok (.aload_n 0, 1) := by decide +kernel
theorem dX0_init_57 : decode cX0_init 57 = .ok (.getfield 15, 3) := by decide +kernel
theorem dX0_init_60 : decode cX0_init 60 = .ok (.iload_n 1, 1) := by decide +kernel
theorem dX0_init_61 : decode cX0_init 61 = .ok (.aload_n 0, 1) := by decide +kernel
theorem dX0_init_62 : decode cX0_init 62 = .ok (.getfield 15, 3) := by decide +kernel
theorem dX0_init_65 : decode cX0_init 65 = .ok (.iconst 2, 1) := by decide +kernel
theorem dX0_init_66 : decode cX0_init 66 = .ok (.iload_n 1, 1) := by decide +kernel
theorem dX0_init_67 : decode cX0_init 67 = .ok (.imul, 1) := by decide +kernel
theorem dX0_init_68 : decode cX0_init 68 = .ok (.iaload, 1) := by decide +kernel
theorem dX0_init_69 : decode cX0_init 69 = .ok (.aload_n 0, 1) := by decide +kernel
theorem dX0_init_70 : decode cX0_init 70 = .ok (.getfield 15, 3) := by decide +kernel
theorem dX0_init_73 : decode cX0_init 73 = .ok (.iconst 2, 1) := by decide +kernel
theorem dX0_init_74 : decode cX0_init 74 = .ok (.iload_n 1, 1) := by decide +kernel
theorem dX0_init_75 : decode cX0_init 75 = .ok (.imul, 1) := by decide +kernel
theorem dX0_init_76 : decode cX0_init 76 = .ok (.iconst 1, 1) := by decide +kernel
theorem dX0_init_77 : decode cX0_init 77 = .ok (.iadd, 1) := by decide +kernel
theorem dX0_init_78 : decode cX0_init 78 = .ok (.iaload, 1) := by decide +kernel
theorem dX0_init_79 : decode cX0_init 79 = .ok (.iload_n 1, 1) := by decide +kernel
theorem dX0_init_80 : decode cX0_init 80 = .ok (.invokestatic 22, 3) := by decide +kernel
theorem dX0_init_83 : decode cX0_init 83 = .ok (.iastore, 1) := by decide +kernel
theorem dX0_init_84 : decode cX0_init 84 = .ok (.iinc 1 (-1), 3) := by decide +kernel
theorem dX0_init_87 : decode cX0_init 87 = .ok (.goto (-36), 3) := by decide +kernel
theorem dX0_init_90 : decode cX0_init 90 = .ok (.return_, 1) := by decide +kernel
theorem dX0_root_0 : decode cX0_root 0 = .ok (.aload_n 0, 1) := by decide +kernel
theorem dX0_root_1 : decode cX0_root 1 = .ok (.getfield 15, 3) := by decide +kernel
theorem dX0_root_4 : decode cX0_root 4 = .ok (.iconst 1, 1) := by decide +kernel
theorem dX0_root_5 : decode cX0_root 5 = .ok (.iaload, 1) := by decide +kernel
theorem dX0_root_6 : decode cX0_root 6 = .ok (.ireturn, 1) := by decide +kernel
set_option maxRecDepth 20000 in
theorem ggX0_lay_X2_sumUp : GoodIn wsX0_lay wsX2_sumUp := goodIn_r _ [6, 7, 8, 5, 9, 10, 11, 12] (by decide +kernel) (by decide +kernel)
set_option maxRecDepth 20000 in
theorem gX0_lay_X2_sumUp_n30 : GoodIn wsX0_lay (wsX2_sumUp) := ggX0_lay_X2_sumUp
theorem dX0_lay_0 : decode cX0_lay 0 = .ok (.aload_n 0, 1) := by decide +kernel
theorem dX0_lay_1 : decode cX0_lay 1 = .ok (.getfield 9, 3) := by decide +kernel
theorem dX0_lay_4 : decode cX0_lay 4 = .ok (.iload_n 1, 1) := by decide +kernel
theorem dX0_lay_5 : decode cX0_lay 5 = .ok (.iaload, 1) := by decide +kernel
theorem dX0_lay_6 : decode cX0_lay 6 = .ok (.iload_n 2, 1) := by decide +kernel
theorem dX0_lay_7 : decode cX0_lay 7 = .ok (.if_icmp .eq 29, 3) := by decide +kernel
theorem dX0_lay_10 : decode cX0_lay 10 = .ok (.aload_n 0, 1) := by decide +kernel
theorem dX0_lay_11 : decode cX0_lay 11 = .ok (.getfield 9, 3) := by decide +kernel
theorem dX0_lay_14 : decode cX0_lay 14 = .ok (.iload_n 1, 1) := by decide +kernel
theorem dX0_lay_15 : decode cX0_lay 15 = .ok (.iload_n 2, 1) := by decide +kernel
theorem dX0_lay_16 : decode cX0_lay 16 = .ok (.iastore, 1) := by decide +kernel
theorem dX0_lay_17 : decode cX0_lay 17 = .ok (.aload_n 0, 1) := by decide +kernel
theorem dX0_lay_18 : decode cX0_lay 18 = .ok (.dup, 1) := by decide +kernel
theorem dX0_lay_19 : decode cX0_lay 19 = .ok (.getfield 26, 3) := by decide +kernel
theorem dX0_lay_22 : decode cX0_lay 22 = .ok (.iconst 1, 1) := by decide +kernel
theorem dX0_lay_23 : decode cX0_lay 23 = .ok (.iadd, 1) := by decide +kernel
theorem dX0_lay_24 : decode cX0_lay 24 = .ok (.putfield 26, 3) := by decide +kernel
theorem dX0_lay_27 : decode cX0_lay 27 = .ok (.aload_n 0, 1) := by decide +kernel
theorem dX0_lay_28 : decode cX0_lay 28 = .ok (.getfield 15, 3) := by decide +kernel
theorem dX0_lay_31 : decode cX0_lay 31 = .ok (.iload_n 1, 1) := by decide +kernel
theorem dX0_lay_32 : decode cX0_lay 32 = .ok (.iload_n 2, 1) := by decide +kernel
theorem dX0_lay_33 : decode cX0_lay 33 = .ok (.invokestatic 30, 3) := by decide +kernel
theorem dX0_lay_36 : decode cX0_lay 36 = .ok (.return_, 1) := by decide +kernel
theorem dX0_proofSum_0 : decode cX0_proofSum 0 = .ok (.aload_n 0, 1) := by decide +kernel
theorem dX0_proofSum_1 : decode cX0_proofSum 1 = .ok (.getfield 15, 3) := by decide +kernel
theorem dX0_proofSum_4 : decode cX0_proofSum 4 = .ok (.bipush 16, 2) := by decide +kernel
theorem dX0_proofSum_6 : decode cX0_proofSum 6 = .ok (.iload_n 1, 1) := by decide +kernel
theorem dX0_proofSum_7 : decode cX0_proofSum 7 = .ok (.iadd, 1) := by decide +kernel
theorem dX0_proofSum_8 : decode cX0_proofSum 8 = .ok (.iload_n 2, 1) := by decide +kernel
theorem dX0_proofSum_9 : decode cX0_proofSum 9 = .ok (.ishr, 1) := by decide +kernel
theorem dX0_proofSum_10 : decode cX0_proofSum 10 = .ok (.iconst 1, 1) := by decide +kernel
theorem dX0_proofSum_11 : decode cX0_proofSum 11 = .ok (.ixor, 1) := by decide +kernel
theorem dX0_proofSum_12 : decode cX0_proofSum 12 = .ok (.iaload, 1) := by decide +kernel
theorem dX0_proofSum_13 : decode cX0_proofSum 13 = .ok (.ireturn, 1) := by decide +kernel
theorem dX0_filledDrawers_0 : decode cX0_filledDrawers 0 = .ok (.iconst 0, 1) := by decide +kernel
theorem dX0_filledDrawers_1 : decode cX0_filledDrawers 1 = .ok (.istore_n 1, 1) := by decide +kernel
theorem dX0_filledDrawers_2 : decode cX0_filledDrawers 2 = .ok (.aload_n 0, 1) := by decide +kernel
theorem dX0_filledDrawers_3 : decode cX0_filledDrawers 3 = .ok (.getfield 9, 3) := by decide +kernel
theorem dX0_filledDrawers_6 : decode cX0_filledDrawers 6 = .ok (.astore_n 2, 1) := by decide +kernel
theorem dX0_filledDrawers_7 : decode cX0_filledDrawers 7 = .ok (.aload_n 2, 1) := by decide +kernel
theorem dX0_filledDrawers_8 : decode cX0_filledDrawers 8 = .ok (.arraylength, 1) := by decide +kernel
theorem dX0_filledDrawers_9 : decode cX0_filledDrawers 9 = .ok (.istore_n 3, 1) := by decide +kernel
theorem dX0_filledDrawers_10 : decode cX0_filledDrawers 10 = .ok (.iconst 0, 1) := by decide +kernel
theorem dX0_filledDrawers_11 : decode cX0_filledDrawers 11 = .ok (.istore 4, 2) := by decide +kernel
theorem dX0_filledDrawers_13 : decode cX0_filledDrawers 13 = .ok (.iload 4, 2) := by decide +kernel
theorem dX0_filledDrawers_15 : decode cX0_filledDrawers 15 = .ok (.iload_n 3, 1) := by decide +kernel
theorem dX0_filledDrawers_16 : decode cX0_filledDrawers 16 = .ok (.if_icmp .ge 23, 3) := by decide +kernel
theorem dX0_filledDrawers_19 : decode cX0_filledDrawers 19 = .ok (.aload_n 2, 1) := by decide +kernel
theorem dX0_filledDrawers_20 : decode cX0_filledDrawers 20 = .ok (.iload 4, 2) := by decide +kernel
theorem dX0_filledDrawers_22 : decode cX0_filledDrawers 22 = .ok (.iaload, 1) := by decide +kernel
theorem dX0_filledDrawers_23 : decode cX0_filledDrawers 23 = .ok (.istore 5, 2) := by decide +kernel
theorem dX0_filledDrawers_25 : decode cX0_filledDrawers 25 = .ok (.iload 5, 2) := by decide +kernel
theorem dX0_filledDrawers_27 : decode cX0_filledDrawers 27 = .ok (.ifCond .eq 6, 3) := by decide +kernel
theorem dX0_filledDrawers_30 : decode cX0_filledDrawers 30 = .ok (.iinc 1 1, 3) := by decide +kernel
theorem dX0_filledDrawers_33 : decode cX0_filledDrawers 33 = .ok (.iinc 4 1, 3) := by decide +kernel
theorem dX0_filledDrawers_36 : decode cX0_filledDrawers 36 = .ok (.goto (-23), 3) := by decide +kernel
theorem dX0_filledDrawers_39 : decode cX0_filledDrawers 39 = .ok (.iload_n 1, 1) := by decide +kernel
theorem dX0_filledDrawers_40 : decode cX0_filledDrawers 40 = .ok (.ireturn, 1) := by decide +kernel
theorem dX0_thingsAdded_0 : decode cX0_thingsAdded 0 = .ok (.iconst 0, 1) := by decide +kernel
theorem dX0_thingsAdded_1 : decode cX0_thingsAdded 1 = .ok (.istore_n 1, 1) := by decide +kernel
theorem dX0_thingsAdded_2 : decode cX0_thingsAdded 2 = .ok (.aload_n 0, 1) := by decide +kernel
theorem dX0_thingsAdded_3 : decode cX0_thingsAdded 3 = .ok (.getfield 9, 3) := by decide +kernel
theorem dX0_thingsAdded_6 : decode cX0_thingsAdded 6 = .ok (.astore_n 2, 1) := by decide +kernel
theorem dX0_thingsAdded_7 : decode cX0_thingsAdded 7 = .ok (.aload_n 2, 1) := by decide +kernel
theorem dX0_thingsAdded_8 : decode cX0_thingsAdded 8 = .ok (.arraylength, 1) := by decide +kernel
theorem dX0_thingsAdded_9 : decode cX0_thingsAdded 9 = .ok (.istore_n 3, 1) := by decide +kernel
theorem dX0_thingsAdded_10 : decode cX0_thingsAdded 10 = .ok (.iconst 0, 1) := by decide +kernel
theorem dX0_thingsAdded_11 : decode cX0_thingsAdded 11 = .ok (.istore 4, 2) := by decide +kernel
theorem dX0_thingsAdded_13 : decode cX0_thingsAdded 13 = .ok (.iload 4, 2) := by decide +kernel
theorem dX0_thingsAdded_15 : decode cX0_thingsAdded 15 = .ok (.iload_n 3, 1) := by decide +kernel
theorem dX0_thingsAdded_16 : decode cX0_thingsAdded 16 = .ok (.if_icmp .ge 20, 3) := by decide +kernel
theorem dX0_thingsAdded_19 : decode cX0_thingsAdded 19 = .ok (.aload_n 2, 1) := by decide +kernel
theorem dX0_thingsAdded_20 : decode cX0_thingsAdded 20 = .ok (.iload 4, 2) := by decide +kernel
theorem dX0_thingsAdded_22 : decode cX0_thingsAdded 22 = .ok (.iaload, 1) := by decide +kernel
theorem dX0_thingsAdded_23 : decode cX0_thingsAdded 23 = .ok (.istore 5, 2) := by decide +kernel
theorem dX0_thingsAdded_25 : decode cX0_thingsAdded 25 = .ok (.iload_n 1, 1) := by decide +kernel
theorem dX0_thingsAdded_26 : decode cX0_thingsAdded 26 = .ok (.iload 5, 2) := by decide +kernel
theorem dX0_thingsAdded_28 : decode cX0_thingsAdded 28 = .ok (.iadd, 1) := by decide +kernel
theorem dX0_thingsAdded_29 : decode cX0_thingsAdded 29 = .ok (.istore_n 1, 1) := by decide +kernel
theorem dX0_thingsAdded_30 : decode cX0_thingsAdded 30 = .ok (.iinc 4 1, 3) := by decide +kernel
theorem dX0_thingsAdded_33 : decode cX0_thingsAdded 33 = .ok (.goto (-20), 3) := by decide +kernel
theorem dX0_thingsAdded_36 : decode cX0_thingsAdded 36 = .ok (.iload_n 1, 1) := by decide +kernel
theorem dX0_thingsAdded_37 : decode cX0_thingsAdded 37 = .ok (.ireturn, 1) := by decide +kernel
theorem dX1_init_0 : decode cX1_init 0 = .ok (.aload_n 0, 1) := by decide +kernel
theorem dX1_init_1 : decode cX1_init 1 = .ok (.invokespecial 1, 3) := by decide +kernel
theorem dX1_init_4 : decode cX1_init 4 = .ok (.aload_n 0, 1) := by decide +kernel
theorem dX1_init_5 : decode cX1_init 5 = .ok (.iload_n 1, 1) := by decide +kernel
theorem dX1_init_6 : decode cX1_init 6 = .ok (.putfield 7, 3) := by decide +kernel
theorem dX1_init_9 : decode cX1_init 9 = .ok (.aload_n 0, 1) := by decide +kernel
theorem dX1_init_10 : decode cX1_init 10 = .ok (.iload_n 2, 1) := by decide +kernel
theorem dX1_init_11 : decode cX1_init 11 = .ok (.putfield 13, 3) := by decide +kernel
theorem dX1_init_14 : decode cX1_init 14 = .ok (.aload_n 0, 1) := by decide +kernel
theorem dX1_init_15 : decode cX1_init 15 = .ok (.iload_n 3, 1) := by decide +kernel
theorem dX1_init_16 : decode cX1_init 16 = .ok (.putfield 16, 3) := by decide +kernel
theorem dX1_init_19 : decode cX1_init 19 = .ok (.return_, 1) := by decide +kernel
theorem dX2_init_0 : decode cX2_init 0 = .ok (.aload_n 0, 1) := by decide +kernel
theorem dX2_init_1 : decode cX2_init 1 = .ok (.invokespecial 1, 3) := by decide +kernel
theorem dX2_init_4 : decode cX2_init 4 = .ok (.aload_n 0, 1) := by decide +kernel
theorem dX2_init_5 : decode cX2_init 5 = .ok (.bipush 6, 2) := by decide +kernel
theorem dX2_init_7 : decode cX2_init 7 = .ok (.anewarray 9, 3) := by decide +kernel
theorem dX2_init_10 : decode cX2_init 10 = .ok (.putfield 11, 3) := by decide +kernel
theorem dX2_init_13 : decode cX2_init 13 = .ok (.aload_n 0, 1) := by decide +kernel
theorem dX2_init_14 : decode cX2_init 14 = .ok (.bipush 20, 2) := by decide +kernel
theorem dX2_init_16 : decode cX2_init 16 = .ok (.anewarray 15, 3) := by decide +kernel
theorem dX2_init_19 : decode cX2_init 19 = .ok (.putfield 17, 3) := by decide +kernel
theorem dX2_init_22 : decode cX2_init 22 = .ok (.aload_n 0, 1) := by decide +kernel
theorem dX2_init_23 : decode cX2_init 23 = .ok (.bipush 32, 2) := by decide +kernel
theorem dX2_init_25 : decode cX2_init 25 = .ok (.newarray .int, 2) := by decide +kernel
theorem dX2_init_27 : decode cX2_init 27 = .ok (.putfield 21, 3) := by decide +kernel
theorem dX2_init_30 : decode cX2_init 30 = .ok (.return_, 1) := by decide +kernel
set_option maxRecDepth 20000 in
theorem ggX2_come_X0_init : GoodIn wsX2_come wsX0_init := goodIn_r _ [9, 10, 11, 12, 13, 14, 15, 16, 17, 18, 19, 20, 26, 27, 28] (by decide +kernel) (by decide +kernel)
set_option maxRecDepth 20000 in
theorem gX2_come_X0_init_n36 : GoodIn wsX2_come (wsX0_init) := ggX2_come_X0_init
theorem dX2_come_0 : decode cX2_come 0 = .ok (.aload_n 0, 1) := by decide +kernel
theorem dX2_come_1 : decode cX2_come 1 = .ok (.getfield 25, 3) := by decide +kernel
theorem dX2_come_4 : decode cX2_come 4 = .ok (.bipush 6, 2) := by decide +kernel
theorem dX2_come_6 : decode cX2_come 6 = .ok (.if_icmp .lt 13, 3) := by decide +kernel
theorem dX2_come_9 : decode cX2_come 9 = .ok (.new 29, 3) := by decide +kernel
theorem dX2_come_12 : decode cX2_come 12 = .ok (.dup, 1) := by decide +kernel
theorem dX2_come_13 : decode cX2_come 13 = .ok (.ldc 31, 2) := by decide +kernel
theorem dX2_come_15 : decode cX2_come 15 = .ok (.invokespecial 33, 3) := by decide +kernel
theorem dX2_come_18 : decode cX2_come 18 = .ok (.athrow, 1) := by decide +kernel
theorem dX2_come_19 : decode cX2_come 19 = .ok (.aload_n 0, 1) := by decide +kernel
theorem dX2_come_20 : decode cX2_come 20 = .ok (.getfield 11, 3) := by decide +kernel
theorem dX2_come_23 : decode cX2_come 23 = .ok (.aload_n 0, 1) := by decide +kernel
theorem dX2_come_24 : decode cX2_come 24 = .ok (.getfield 25, 3) := by decide +kernel
theorem dX2_come_27 : decode cX2_come 27 = .ok (.new 9, 3) := by decide +kernel
theorem dX2_come_30 : decode cX2_come 30 = .ok (.dup, 1) := by decide +kernel
theorem dX2_come_31 : decode cX2_come 31 = .ok (.invokespecial 36, 3) := by decide +kernel
theorem dX2_come_34 : decode cX2_come 34 = .ok (.aastore, 1) := by decide +kernel
theorem dX2_come_35 : decode cX2_come 35 = .ok (.aload_n 0, 1) := by decide +kernel
theorem dX2_come_36 : decode cX2_come 36 = .ok (.dup, 1) := by decide +kernel
theorem dX2_come_37 : decode cX2_come 37 = .ok (.getfield 25, 3) := by decide +kernel
theorem dX2_come_40 : decode cX2_come 40 = .ok (.iconst 1, 1) := by decide +kernel
theorem dX2_come_41 : decode cX2_come 41 = .ok (.iadd, 1) := by decide +kernel
theorem dX2_come_42 : decode cX2_come 42 = .ok (.putfield 25, 3) := by decide +kernel
theorem dX2_come_45 : decode cX2_come 45 = .ok (.aload_n 0, 1) := by decide +kernel
theorem dX2_come_46 : decode cX2_come 46 = .ok (.getfield 25, 3) := by decide +kernel
theorem dX2_come_49 : decode cX2_come 49 = .ok (.iconst 1, 1) := by decide +kernel
theorem dX2_come_50 : decode cX2_come 50 = .ok (.isub, 1) := by decide +kernel
theorem dX2_come_51 : decode cX2_come 51 = .ok (.ireturn, 1) := by decide +kernel
set_option maxRecDepth 20000 in
theorem ggX2_put_X2_findCupboard : GoodIn wsX2_put wsX2_findCupboard := goodIn_ca (goodIn_r _ [5, 6, 7, 8, 9, 36, 37, 38, 39, 40] (by decide +kernel) (by decide +kernel)) (goodIn_sub (fun _ h => List.mem_cons_of_mem _ (List.mem_append_left _ (List.mem_append_right _ h))) (by decide +kernel))
set_option maxRecDepth 20000 in
theorem gX2_put_X2_findCupboard : GoodIn wsX2_put (wsV RX2 37 RX2 yX2_findCupboard wsX2_findCupboard) := goodIn_app (goodIn_of _ (by decide +kernel)) ggX2_put_X2_findCupboard
set_option maxRecDepth 20000 in
theorem ggX2_put_X2_checkDrawer : GoodIn wsX2_put wsX2_checkDrawer := goodIn_ca (goodIn_r _ [12, 6, 7] (by decide +kernel) (by decide +kernel)) (goodIn_sub (fun _ h => List.mem_cons_of_mem _ (List.mem_append_left _ (List.mem_append_right _ h))) (by decide +kernel))
set_option maxRecDepth 20000 in
theorem gX2_put_X2_checkDrawer : GoodIn wsX2_put (va_wsS RX2 41 yX2_checkDrawer wsX2_checkDrawer) := goodIn_app (goodIn_of _ (by decide +kernel)) ggX2_put_X2_checkDrawer
set_option maxRecDepth 20000 in
theorem ggX2_put_X2_checkThing : GoodIn wsX2_put wsX2_checkThing := goodIn_ca (goodIn_r _ [15, 16, 17] (by decide +kernel) (by decide +kernel)) (goodIn_sub (fun _ h => List.mem_cons_of_mem _ (List.mem_append_right _ h)) (by decide +kernel))
set_option maxRecDepth 20000 in
theorem gX2_put_X2_checkThing : GoodIn wsX2_put (va_wsS RX2 45 yX2_checkThing wsX2_checkThing) := goodIn_app (goodIn_of _ (by decide +kernel)) ggX2_put_X2_checkThing
set_option maxRecDepth 20000 in
theorem ggX2_put_X0_lay : GoodIn wsX2_put wsX0_lay := goodIn_r _ [21, 22, 23, 24, 25, 4, 26, 27, 28, 29, 30, 31, 32, 33, 34, 35] (by decide +kernel) (by decide +kernel)
set_option maxRecDepth 20000 in
theorem gX2_put_X0_lay_n51 : GoodIn wsX2_put (wsX0_lay) := ggX2_put_X0_lay
theorem dX2_put_0 : decode cX2_put 0 = .ok (.aload_n 0, 1) := by decide +kernel
theorem dX2_put_1 : decode cX2_put 1 = .ok (.iload_n 1, 1) := by decide +kernel
theorem dX2_put_2 : decode cX2_put 2 = .ok (.invokevirtual 37, 3) := by decide +kernel
theorem dX2_put_5 : decode cX2_put 5 = .ok (.astore 4, 2) := by decide +kernel
theorem dX2_put_7 : decode cX2_put 7 = .ok (.iload_n 2, 1) := by decide +kernel
theorem dX2_put_8 : decode cX2_put 8 = .ok (.invokestatic 41, 3) := by decide +kernel
theorem dX2_put_11 : decode cX2_put 11 = .ok (.iload_n 3, 1) := by decide +kernel
theorem dX2_put_12 : decode cX2_put 12 = .ok (.invokestatic 45, 3) := by decide +kernel
theorem dX2_put_15 : decode cX2_put 15 = .ok (.aload 4, 2) := by decide +kernel
theorem dX2_put_17 : decode cX2_put 17 = .ok (.getfield 48, 3) := by decide +kernel
theorem dX2_put_20 : decode cX2_put 20 = .ok (.iload_n 2, 1) := by decide +kernel
theorem dX2_put_21 : decode cX2_put 21 = .ok (.iaload, 1) := by decide +kernel
theorem dX2_put_22 : decode cX2_put 22 = .ok (.istore 5, 2) := by decide +kernel
theorem dX2_put_24 : decode cX2_put 24 = .ok (.aload 4, 2) := by decide +kernel
theorem dX2_put_26 : decode cX2_put 26 = .ok (.iload_n 2, 1) := by decide +kernel
theorem dX2_put_27 : decode cX2_put 27 = .ok (.iload_n 3, 1) := by decide +kernel
theorem dX2_put_28 : decode cX2_put 28 = .ok (.invokevirtual 51, 3) := by decide +kernel
theorem dX2_put_31 : decode cX2_put 31 = .ok (.iload 5, 2) := by decide +kernel
theorem dX2_put_33 : decode cX2_put 33 = .ok (.ireturn, 1) := by decide +kernel
set_option maxRecDepth 20000 in
theorem ggX2_swap_X2_findCupboard : GoodIn wsX2_swap wsX2_findCupboard := goodIn_ca (goodIn_r _ [10, 11, 12, 13, 14, 39, 40, 41, 42, 43] (by decide +kernel) (by decide +kernel)) (goodIn_sub (fun _ h => List.mem_cons_of_mem _ (List.mem_append_right _ h)) (by decide +kernel))
set_option maxRecDepth 20000 in
theorem gX2_swap_X2_findCupboard : GoodIn wsX2_swap (wsV RX2 37 RX2 yX2_findCupboard wsX2_findCupboard) := goodIn_app (goodIn_of _ (by decide +kernel)) ggX2_swap_X2_findCupboard
set_option maxRecDepth 20000 in
theorem ggX2_swap_X2_checkDrawer : GoodIn wsX2_swap wsX2_checkDrawer := goodIn_ca (goodIn_r _ [17, 11, 12] (by decide +kernel) (by decide +kernel)) (goodIn_sub (fun _ h => List.mem_cons_of_mem _ (List.mem_append_right _ h)) (by decide +kernel))
set_option maxRecDepth 20000 in
theorem gX2_swap_X2_checkDrawer : GoodIn wsX2_swap (va_wsS RX2 41 yX2_checkDrawer wsX2_checkDrawer) := goodIn_app (goodIn_of _ (by decide +kernel)) ggX2_swap_X2_checkDrawer
set_option maxRecDepth 20000 in
theorem ggX2_swap_X0_lay : GoodIn wsX2_swap wsX0_lay := goodIn_r _ [21, 22, 23, 24, 25, 9, 26, 27, 28, 29, 30, 31, 32, 36, 37, 38] (by decide +kernel) (by decide +kernel)
set_option maxRecDepth 20000 in
theorem gX2_swap_X0_lay_n51 : GoodIn wsX2_swap (wsX0_lay) := ggX2_swap_X0_lay
set_option maxRecDepth 20000 in
theorem ggX2_swap_X2_placesApart : GoodIn wsX2_swap wsX2_placesApart := goodIn_r _ [35] (by decide +kernel) (by decide +kernel)
set_option maxRecDepth 20000 in
theorem gX2_swap_X2_placesApart : GoodIn wsX2_swap (va_wsS RX2 64 yX2_placesApart wsX2_placesApart) := goodIn_app (goodIn_of _ (by decide +kernel)) ggX2_swap_X2_placesApart
theorem dX2_swap_0 : decode cX2_swap 0 = .ok (.aload_n 0, 1) := by decide +kernel
theorem dX2_swap_1 : decode cX2_swap 1 = .ok (.iload_n 1, 1) := by decide +kernel
theorem dX2_swap_2 : decode cX2_swap 2 = .ok (.invokevirtual 37, 3) := by decide +kernel
theorem dX2_swap_5 : decode cX2_swap 5 = .ok (.astore 4, 2) := by decide +kernel
theorem dX2_swap_7 : decode cX2_swap 7 = .ok (.iload_n 2, 1) := by decide +kernel
theorem dX2_swap_8 : decode cX2_swap 8 = .ok (.invokestatic 41, 3) := by decide +kernel
theorem dX2_swap_11 : decode cX2_swap 11 = .ok (.iload_n 3, 1) := by decide +kernel
theorem dX2_swap_12 : decode cX2_swap 12 = .ok (.invokestatic 41, 3) := by decide +kernel
theorem dX2_swap_15 : decode cX2_swap 15 = .ok (.aload 4, 2) := by decide +kernel
theorem dX2_swap_17 : decode cX2_swap 17 = .ok (.getfield 55, 3) := by decide +kernel
theorem dX2_swap_20 : decode cX2_swap 20 = .ok (.iconst 0, 1) := by decide +kernel
theorem dX2_swap_21 : decode cX2_swap 21 = .ok (.aload_n 0, 1) := by decide +kernel
theorem dX2_swap_22 : decode cX2_swap 22 = .ok (.getfield 21, 3) := by decide +kernel
theorem dX2_swap_25 : decode cX2_swap 25 = .ok (.iconst 0, 1) := by decide +kernel
theorem dX2_swap_26 : decode cX2_swap 26 = .ok (.bipush 32, 2) := by decide +kernel
theorem dX2_swap_28 : decode cX2_swap 28 = .ok (.invokestatic 58, 3) := by decide +kernel
theorem dX2_swap_31 : decode cX2_swap 31 = .ok (.aload 4, 2) := by decide +kernel
theorem dX2_swap_33 : decode cX2_swap 33 = .ok (.getfield 48, 3) := by decide +kernel
theorem dX2_swap_36 : decode cX2_swap 36 = .ok (.iload_n 2, 1) := by decide +kernel
theorem dX2_swap_37 : decode cX2_swap 37 = .ok (.iaload, 1) := by decide +kernel
theorem dX2_swap_38 : decode cX2_swap 38 = .ok (.istore 5, 2) := by decide +kernel
theorem dX2_swap_40 : decode cX2_swap 40 = .ok (.aload 4, 2) := by decide +kernel
theorem dX2_swap_42 : decode cX2_swap 42 = .ok (.iload_n 2, 1) := by decide +kernel
theorem dX2_swap_43 : decode cX2_swap 43 = .ok (.aload 4, 2) := by decide +kernel
theorem dX2_swap_45 : decode cX2_swap 45 = .ok (.getfield 48, 3) := by decide +kernel
theorem dX2_swap_48 : decode cX2_swap 48 = .ok (.iload_n 3, 1) := by decide +kernel
theorem dX2_swap_49 : decode cX2_swap 49 = .ok (.iaload, 1) := by decide +kernel
theorem dX2_swap_50 : decode cX2_swap 50 = .ok (.invokevirtual 51, 3) := by decide +kernel
theorem dX2_swap_53 : decode cX2_swap 53 = .ok (.aload 4, 2) := by decide +kernel
theorem dX2_swap_55 : decode cX2_swap 55 = .ok (.iload_n 3, 1) := by decide +kernel
theorem dX2_swap_56 : decode cX2_swap 56 = .ok (.iload 5, 2) := by decide +kernel
theorem dX2_swap_58 : decode cX2_swap 58 = .ok (.invokevirtual 51, 3) := by decide +kernel
theorem dX2_swap_61 : decode cX2_swap 61 = .ok (.aload_n 0, 1) := by decide +kernel
theorem dX2_swap_62 : decode cX2_swap 62 = .ok (.getfield 21, 3) := by decide +kernel
theorem dX2_swap_65 : decode cX2_swap 65 = .ok (.aload 4, 2) := by decide +kernel
theorem dX2_swap_67 : decode cX2_swap 67 = .ok (.getfield 55, 3) := by decide +kernel
theorem dX2_swap_70 : decode cX2_swap 70 = .ok (.invokestatic 64, 3) := by decide +kernel
theorem dX2_swap_73 : decode cX2_swap 73 = .ok (.ireturn, 1) := by decide +kernel
set_option maxRecDepth 20000 in
theorem ggX2_sum_X2_findCupboard : GoodIn wsX2_sum wsX2_findCupboard := goodIn_ca (goodIn_r _ [7, 1, 2, 8, 9, 13, 14, 15, 16, 17] (by decide +kernel) (by decide +kernel)) (goodIn_sub (fun _ h => List.mem_cons_of_mem _ (List.mem_append_right _ h)) (by decide +kernel))
set_option maxRecDepth 20000 in
theorem gX2_sum_X2_findCupboard : GoodIn wsX2_sum (wsV RX2 37 RX2 yX2_findCupboard wsX2_findCupboard) := goodIn_app (goodIn_of _ (by decide +kernel)) ggX2_sum_X2_findCupboard
theorem dX2_sum_0 : decode cX2_sum 0 = .ok (.aload_n 0, 1) := by decide +kernel
theorem dX2_sum_1 : decode cX2_sum 1 = .ok (.iload_n 1, 1) := by decide +kernel
theorem dX2_sum_2 : decode cX2_sum 2 = .ok (.invokevirtual 37, 3) := by decide +kernel
theorem dX2_sum_5 : decode cX2_sum 5 = .ok (.astore_n 3, 1) := by decide +kernel
theorem dX2_sum_6 : decode cX2_sum 6 = .ok (.iload_n 2, 1) := by decide +kernel
theorem dX2_sum_7 : decode cX2_sum 7 = .ok (.iconst 1, 1) := by decide +kernel
theorem dX2_sum_8 : decode cX2_sum 8 = .ok (.if_icmp .lt 9, 3) := by decide +kernel
theorem dX2_sum_11 : decode cX2_sum 11 = .ok (.iload_n 2, 1) := by decide +kernel
theorem dX2_sum_12 : decode cX2_sum 12 = .ok (.bipush 31, 2) := by decide +kernel
theorem dX2_sum_14 : decode cX2_sum 14 = .ok (.if_icmp .le 13, 3) := by decide +kernel
theorem dX2_sum_17 : decode cX2_sum 17 = .ok (.new 68, 3) := by decide +kernel
theorem dX2_sum_20 : decode cX2_sum 20 = .ok (.dup, 1) := by decide +kernel
theorem dX2_sum_21 : decode cX2_sum 21 = .ok (.ldc 70, 2) := by decide +kernel
theorem dX2_sum_23 : decode cX2_sum 23 = .ok (.invokespecial 72, 3) := by decide +kernel
theorem dX2_sum_26 : decode cX2_sum 26 = .ok (.athrow, 1) := by decide +kernel
theorem dX2_sum_27 : decode cX2_sum 27 = .ok (.aload_n 3, 1) := by decide +kernel
theorem dX2_sum_28 : decode cX2_sum 28 = .ok (.getfield 55, 3) := by decide +kernel
theorem dX2_sum_31 : decode cX2_sum 31 = .ok (.iload_n 2, 1) := by decide +kernel
theorem dX2_sum_32 : decode cX2_sum 32 = .ok (.iaload, 1) := by decide +kernel
theorem dX2_sum_33 : decode cX2_sum 33 = .ok (.ireturn, 1) := by decide +kernel
set_option maxRecDepth 20000 in
theorem ggX2_told_X2_findCupboard : GoodIn wsX2_told wsX2_findCupboard := goodIn_ca (goodIn_r _ [5, 6, 7, 8, 9, 38, 39, 40, 41, 42] (by decide +kernel) (by decide +kernel)) (goodIn_sub (fun _ h => List.mem_cons_of_mem _ (List.mem_append_right _ h)) (by decide +kernel))
set_option maxRecDepth 20000 in
theorem gX2_told_X2_findCupboard : GoodIn wsX2_told (wsV RX2 37 RX2 yX2_findCupboard wsX2_findCupboard) := goodIn_app (goodIn_of _ (by decide +kernel)) ggX2_told_X2_findCupboard
set_option maxRecDepth 20000 in
theorem ggX2_told_X2_checkWhat : GoodIn wsX2_told wsX2_checkWhat := goodIn_ca (goodIn_r _ [12, 6, 7] (by decide +kernel) (by decide +kernel)) (goodIn_sub (fun _ h => List.mem_cons_of_mem _ (List.mem_append_right _ h)) (by decide +kernel))
set_option maxRecDepth 20000 in
theorem gX2_told_X2_checkWhat : GoodIn wsX2_told (va_wsS RX2 73 yX2_checkWhat wsX2_checkWhat) := goodIn_app (goodIn_of _ (by decide +kernel)) ggX2_told_X2_checkWhat
set_option maxRecDepth 20000 in
theorem ggX2_told_X0_root : GoodIn wsX2_told wsX0_root := goodIn_r _ [16, 17, 35, 36, 37] (by decide +kernel) (by decide +kernel)
set_option maxRecDepth 20000 in
theorem gX2_told_X0_root_n76 : GoodIn wsX2_told (wsX0_root) := ggX2_told_X0_root
set_option maxRecDepth 20000 in
theorem ggX2_told_X0_filledDrawers : GoodIn wsX2_told wsX0_filledDrawers := goodIn_r _ [20, 21, 35, 36, 37] (by decide +kernel) (by decide +kernel)
set_option maxRecDepth 20000 in
theorem gX2_told_X0_filledDrawers_n83 : GoodIn wsX2_told (wsX0_filledDrawers) := ggX2_told_X0_filledDrawers
set_option maxRecDepth 20000 in
theorem ggX2_told_X0_thingsAdded : GoodIn wsX2_told wsX0_thingsAdded := goodIn_r _ [24, 21, 35, 36, 37] (by decide +kernel) (by decide +kernel)
set_option maxRecDepth 20000 in
theorem gX2_told_X0_thingsAdded_n86 : GoodIn wsX2_told (wsX0_thingsAdded) := ggX2_told_X0_thingsAdded
set_option maxRecDepth 20000 in
theorem ggX2_told_X2_sealsOf : GoodIn wsX2_told wsX2_sealsOf := goodIn_r _ [28, 29, 30, 38, 39, 40, 41, 42, 43, 44, 45] (by decide +kernel) (by decide +kernel)
set_option maxRecDepth 20000 in
theorem gX2_told_X2_sealsOf : GoodIn wsX2_told (wsV RX2 89 RX2 yX2_sealsOf wsX2_sealsOf) := goodIn_app (goodIn_of _ (by decide +kernel)) ggX2_told_X2_sealsOf
set_option maxRecDepth 20000 in
theorem ggX2_told_X2_sealsKept : GoodIn wsX2_told wsX2_sealsKept := goodIn_r _ [34, 29, 30, 38, 39, 40, 41, 42, 43, 44, 45] (by decide +kernel) (by decide +kernel)
set_option maxRecDepth 20000 in
theorem gX2_told_X2_sealsKept : GoodIn wsX2_told (wsV RX2 93 RX2 yX2_sealsKept wsX2_sealsKept) := goodIn_app (goodIn_of _ (by decide +kernel)) ggX2_told_X2_sealsKept
theorem dX2_told_0 : decode cX2_told 0 = .ok (.aload_n 0, 1) := by decide +kernel
theorem dX2_told_1 : decode cX2_told 1 = .ok (.iload_n 1, 1) := by decide +kernel
theorem dX2_told_2 : decode cX2_told 2 = .ok (.invokevirtual 37, 3) := by decide +kernel
theorem dX2_told_5 : decode cX2_told 5 = .ok (.astore_n 3, 1) := by decide +kernel
theorem dX2_told_6 : decode cX2_told 6 = .ok (.iload_n 2, 1) := by decide +kernel
theorem dX2_told_7 : decode cX2_told 7 = .ok (.bipush 6, 2) := by decide +kernel
theorem dX2_told_9 : decode cX2_told 9 = .ok (.invokestatic 73, 3) := by decide +kernel
theorem dX2_told_12 : decode cX2_told 12 = .ok (.iload_n 2, 1) := by decide +kernel
theorem dX2_told_13 : decode cX2_told 13 = .ok (.tableswitch 61 0 4 #[35, 40, 45, 50, 55], 35) := by decide +kernel
theorem dX2_told_48 : decode cX2_told 48 = .ok (.aload_n 3, 1) := by decide +kernel
theorem dX2_told_49 : decode cX2_told 49 = .ok (.invokevirtual 76, 3) := by decide +kernel
theorem dX2_told_52 : decode cX2_told 52 = .ok (.ireturn, 1) := by decide +kernel
theorem dX2_told_53 : decode cX2_told 53 = .ok (.aload_n 3, 1) := by decide +kernel
theorem dX2_told_54 : decode cX2_told 54 = .ok (.getfield 80, 3) := by decide +kernel
theorem dX2_told_57 : decode cX2_told 57 = .ok (.ireturn, 1) := by decide +kernel
theorem dX2_told_58 : decode cX2_told 58 = .ok (.aload_n 3, 1) := by decide +kernel
theorem dX2_told_59 : decode cX2_told 59 = .ok (.invokevirtual 83, 3) := by decide +kernel
theorem dX2_told_62 : decode cX2_told 62 = .ok (.ireturn, 1) := by decide +kernel
theorem dX2_told_63 : decode cX2_told 63 = .ok (.aload_n 3, 1) := by decide +kernel
theorem dX2_told_64 : decode cX2_told 64 = .ok (.invokevirtual 86, 3) := by decide +kernel
theorem dX2_told_67 : decode cX2_told 67 = .ok (.ireturn, 1) := by decide +kernel
theorem dX2_told_68 : decode cX2_told 68 = .ok (.aload_n 0, 1) := by decide +kernel
theorem dX2_told_69 : decode cX2_told 69 = .ok (.iload_n 1, 1) := by decide +kernel
theorem dX2_told_70 : decode cX2_told 70 = .ok (.invokevirtual 89, 3) := by decide +kernel
theorem dX2_told_73 : decode cX2_told 73 = .ok (.ireturn, 1) := by decide +kernel
theorem dX2_told_74 : decode cX2_told 74 = .ok (.aload_n 0, 1) := by decide +kernel
theorem dX2_told_75 : decode cX2_told 75 = .ok (.iload_n 1, 1) := by decide +kernel
theorem dX2_told_76 : decode cX2_told 76 = .ok (.aload_n 3, 1) := by decide +kernel
theorem dX2_told_77 : decode cX2_told 77 = .ok (.invokevirtual 76, 3) := by decide +kernel
theorem dX2_told_80 : decode cX2_told 80 = .ok (.invokevirtual 93, 3) := by decide +kernel
theorem dX2_told_83 : decode cX2_told 83 = .ok (.ireturn, 1) := by decide +kernel
set_option maxRecDepth 20000 in
theorem ggX2_thing_X2_findCupboard : GoodIn wsX2_thing wsX2_findCupboard := goodIn_ca (goodIn_r _ [5, 6, 7, 8, 9, 16, 17, 18, 19, 20] (by decide +kernel) (by decide +kernel)) (goodIn_sub (fun _ h => List.mem_cons_of_mem _ (List.mem_append_right _ h)) (by decide +kernel))
set_option maxRecDepth 20000 in
theorem gX2_thing_X2_findCupboard : GoodIn wsX2_thing (wsV RX2 37 RX2 yX2_findCupboard wsX2_findCupboard) := goodIn_app (goodIn_of _ (by decide +kernel)) ggX2_thing_X2_findCupboard
set_option maxRecDepth 20000 in
theorem ggX2_thing_X2_checkDrawer : GoodIn wsX2_thing wsX2_checkDrawer := goodIn_ca (goodIn_r _ [12, 6, 7] (by decide +kernel) (by decide +kernel)) (goodIn_sub (fun _ h => List.mem_cons_of_mem _ (List.mem_append_right _ h)) (by decide +kernel))
set_option maxRecDepth 20000 in
theorem gX2_thing_X2_checkDrawer : GoodIn wsX2_thing (va_wsS RX2 41 yX2_checkDrawer wsX2_checkDrawer) := goodIn_app (goodIn_of _ (by decide +kernel)) ggX2_thing_X2_checkDrawer
theorem dX2_thing_0 : decode cX2_thing 0 = .ok (.aload_n 0, 1) := by decide +kernel
theorem dX2_thing_1 : decode cX2_thing 1 = .ok (.iload_n 1, 1) := by decide +kernel
theorem dX2_thing_2 : decode cX2_thing 2 = .ok (.invokevirtual 37, 3) := by decide +kernel
theorem dX2_thing_5 : decode cX2_thing 5 = .ok (.astore_n 3, 1) := by decide +kernel
theorem dX2_thing_6 : decode cX2_thing 6 = .ok (.iload_n 2, 1) := by decide +kernel
theorem dX2_thing_7 : decode cX2_thing 7 = .ok (.invokestatic 41, 3) := by decide +kernel
theorem dX2_thing_10 : decode cX2_thing 10 = .ok (.aload_n 3, 1) := by decide +kernel
theorem dX2_thing_11 : decode cX2_thing 11 = .ok (.getfield 48, 3) := by decide +kernel
theorem dX2_thing_14 : decode cX2_thing 14 = .ok (.iload_n 2, 1) := by decide +kernel
theorem dX2_thing_15 : decode cX2_thing 15 = .ok (.iaload, 1) := by decide +kernel
theorem dX2_thing_16 : decode cX2_thing 16 = .ok (.ireturn, 1) := by decide +kernel
set_option maxRecDepth 20000 in
theorem ggX2_seal_X2_findCupboard : GoodIn wsX2_seal wsX2_findCupboard := goodIn_ca (goodIn_r _ [12, 13, 14, 15, 16, 30, 31, 32, 33, 34] (by decide +kernel) (by decide +kernel)) (goodIn_sub (fun _ h => List.mem_cons_of_mem _ (List.mem_append_right _ h)) (by decide +kernel))
set_option maxRecDepth 20000 in
theorem gX2_seal_X2_findCupboard : GoodIn wsX2_seal (wsV RX2 37 RX2 yX2_findCupboard wsX2_findCupboard) := goodIn_app (goodIn_of _ (by decide +kernel)) ggX2_seal_X2_findCupboard
set_option maxRecDepth 20000 in
theorem ggX2_seal_X0_root : GoodIn wsX2_seal wsX0_root := goodIn_r _ [20, 21, 38, 39, 40] (by decide +kernel) (by decide +kernel)
set_option maxRecDepth 20000 in
theorem gX2_seal_X0_root_n76 : GoodIn wsX2_seal (wsX0_root) := ggX2_seal_X0_root
set_option maxRecDepth 20000 in
theorem ggX2_seal_X1_init : GoodIn wsX2_seal wsX1_init := goodIn_r _ [23, 24, 25, 26, 27, 28, 29, 35, 36, 37] (by decide +kernel) (by decide +kernel)
set_option maxRecDepth 20000 in
theorem gX2_seal_X1_init_n102 : GoodIn wsX2_seal (wsX1_init) := ggX2_seal_X1_init
theorem dX2_seal_0 : decode cX2_seal 0 = .ok (.aload_n 0, 1) := by decide +kernel
theorem dX2_seal_1 : decode cX2_seal 1 = .ok (.iload_n 1, 1) := by decide +kernel
theorem dX2_seal_2 : decode cX2_seal 2 = .ok (.invokevirtual 37, 3) := by decide +kernel
theorem dX2_seal_5 : decode cX2_seal 5 = .ok (.astore_n 2, 1) := by decide +kernel
theorem dX2_seal_6 : decode cX2_seal 6 = .ok (.aload_n 0, 1) := by decide +kernel
theorem dX2_seal_7 : decode cX2_seal 7 = .ok (.getfield 97, 3) := by decide +kernel
theorem dX2_seal_10 : decode cX2_seal 10 = .ok (.bipush 20, 2) := by decide +kernel
theorem dX2_seal_12 : decode cX2_seal 12 = .ok (.if_icmp .lt 13, 3) := by decide +kernel
theorem dX2_seal_15 : decode cX2_seal 15 = .ok (.new 29, 3) := by decide +kernel
theorem dX2_seal_18 : decode cX2_seal 18 = .ok (.dup, 1) := by decide +kernel
theorem dX2_seal_19 : decode cX2_seal 19 = .ok (.ldc 100, 2) := by decide +kernel
theorem dX2_seal_21 : decode cX2_seal 21 = .ok (.invokespecial 33, 3) := by decide +kernel
theorem dX2_seal_24 : decode cX2_seal 24 = .ok (.athrow, 1) := by decide +kernel
theorem dX2_seal_25 : decode cX2_seal 25 = .ok (.aload_n 0, 1) := by decide +kernel
theorem dX2_seal_26 : decode cX2_seal 26 = .ok (.getfield 17, 3) := by decide +kernel
theorem dX2_seal_29 : decode cX2_seal 29 = .ok (.aload_n 0, 1) := by decide +kernel
theorem dX2_seal_30 : decode cX2_seal 30 = .ok (.getfield 97, 3) := by decide +kernel
theorem dX2_seal_33 : decode cX2_seal 33 = .ok (.new 15, 3) := by decide +kernel
theorem dX2_seal_36 : decode cX2_seal 36 = .ok (.dup, 1) := by decide +kernel
theorem dX2_seal_37 : decode cX2_seal 37 = .ok (.iload_n 1, 1) := by decide +kernel
theorem dX2_seal_38 : decode cX2_seal 38 = .ok (.aload_n 2, 1) := by decide +kernel
theorem dX2_seal_39 : decode cX2_seal 39 = .ok (.invokevirtual 76, 3) := by decide +kernel
theorem dX2_seal_42 : decode cX2_seal 42 = .ok (.aload_n 2, 1) := by decide +kernel
theorem dX2_seal_43 : decode cX2_seal 43 = .ok (.getfield 80, 3) := by decide +kernel
theorem dX2_seal_46 : decode cX2_seal 46 = .ok (.invokespecial 102, 3) := by decide +kernel
theorem dX2_seal_49 : decode cX2_seal 49 = .ok (.aastore, 1) := by decide +kernel
theorem dX2_seal_50 : decode cX2_seal 50 = .ok (.aload_n 0, 1) := by decide +kernel
theorem dX2_seal_51 : decode cX2_seal 51 = .ok (.dup, 1) := by decide +kernel
theorem dX2_seal_52 : decode cX2_seal 52 = .ok (.getfield 97, 3) := by decide +kernel
theorem dX2_seal_55 : decode cX2_seal 55 = .ok (.iconst 1, 1) := by decide +kernel
theorem dX2_seal_56 : decode cX2_seal 56 = .ok (.iadd, 1) := by decide +kernel
theorem dX2_seal_57 : decode cX2_seal 57 = .ok (.putfield 97, 3) := by decide +kernel
theorem dX2_seal_60 : decode cX2_seal 60 = .ok (.aload_n 0, 1) := by decide +kernel
theorem dX2_seal_61 : decode cX2_seal 61 = .ok (.getfield 97, 3) := by decide +kernel
theorem dX2_seal_64 : decode cX2_seal 64 = .ok (.iconst 1, 1) := by decide +kernel
theorem dX2_seal_65 : decode cX2_seal 65 = .ok (.isub, 1) := by decide +kernel
theorem dX2_seal_66 : decode cX2_seal 66 = .ok (.ireturn, 1) := by decide +kernel
set_option maxRecDepth 20000 in
theorem ggX2_about_X2_findSeal : GoodIn wsX2_about wsX2_findSeal := goodIn_ca (goodIn_r _ [5, 6, 7, 8, 9, 25, 26, 27, 28, 29] (by decide +kernel) (by decide +kernel)) (goodIn_sub (fun _ h => List.mem_cons_of_mem _ (List.mem_append_right _ h)) (by decide +kernel))
set_option maxRecDepth 20000 in
theorem gX2_about_X2_findSeal : GoodIn wsX2_about (wsV RX2 105 RX2 yX2_findSeal wsX2_findSeal) := goodIn_app (goodIn_of _ (by decide +kernel)) ggX2_about_X2_findSeal
set_option maxRecDepth 20000 in
theorem ggX2_about_X2_checkWhat : GoodIn wsX2_about wsX2_checkWhat := goodIn_ca (goodIn_r _ [12, 6, 7] (by decide +kernel) (by decide +kernel)) (goodIn_sub (fun _ h => List.mem_cons_of_mem _ (List.mem_append_right _ h)) (by decide +kernel))
set_option maxRecDepth 20000 in
theorem gX2_about_X2_checkWhat : GoodIn wsX2_about (va_wsS RX2 73 yX2_checkWhat wsX2_checkWhat) := goodIn_app (goodIn_of _ (by decide +kernel)) ggX2_about_X2_checkWhat
set_option maxRecDepth 20000 in
theorem ggX2_about_X2_findCupboard : GoodIn wsX2_about wsX2_findCupboard := goodIn_ca (goodIn_r _ [16, 6, 7, 17, 18, 25, 26, 27, 28, 29] (by decide +kernel) (by decide +kernel)) (goodIn_sub (fun _ h => List.mem_cons_of_mem _ (List.mem_append_right _ h)) (by decide +kernel))
set_option maxRecDepth 20000 in
theorem gX2_about_X2_findCupboard : GoodIn wsX2_about (wsV RX2 37 RX2 yX2_findCupboard wsX2_findCupboard) := goodIn_app (goodIn_of _ (by decide +kernel)) ggX2_about_X2_findCupboard
theorem dX2_about_0 : decode cX2_about 0 = .ok (.aload_n 0, 1) := by decide +kernel
theorem dX2_about_1 : decode cX2_about 1 = .ok (.iload_n 1, 1) := by decide +kernel
theorem dX2_about_2 : decode cX2_about 2 = .ok (.invokevirtual 105, 3) := by decide +kernel
theorem dX2_about_5 : decode cX2_about 5 = .ok (.astore_n 3, 1) := by decide +kernel
theorem dX2_about_6 : decode cX2_about 6 = .ok (.iload_n 2, 1) := by decide +kernel
theorem dX2_about_7 : decode cX2_about 7 = .ok (.iconst 4, 1) := by decide +kernel
theorem dX2_about_8 : decode cX2_about 8 = .ok (.invokestatic 73, 3) := by decide +kernel
theorem dX2_about_11 : decode cX2_about 11 = .ok (.iload_n 2, 1) := by decide +kernel
theorem dX2_about_12 : decode cX2_about 12 = .ok (.tableswitch 43 0 2 #[28, 33, 38], 28) := by decide +kernel
theorem dX2_about_40 : decode cX2_about 40 = .ok (.aload_n 3, 1) := by decide +kernel
theorem dX2_about_41 : decode cX2_about 41 = .ok (.getfield 109, 3) := by decide +kernel
theorem dX2_about_44 : decode cX2_about 44 = .ok (.ireturn, 1) := by decide +kernel
theorem dX2_about_45 : decode cX2_about 45 = .ok (.aload_n 3, 1) := by decide +kernel
theorem dX2_about_46 : decode cX2_about 46 = .ok (.getfield 112, 3) := by decide +kernel
theorem dX2_about_49 : decode cX2_about 49 = .ok (.ireturn, 1) := by decide +kernel
theorem dX2_about_50 : decode cX2_about 50 = .ok (.aload_n 3, 1) := by decide +kernel
theorem dX2_about_51 : decode cX2_about 51 = .ok (.getfield 114, 3) := by decide +kernel
theorem dX2_about_54 : decode cX2_about 54 = .ok (.ireturn, 1) := by decide +kernel
theorem dX2_about_55 : decode cX2_about 55 = .ok (.aload_n 0, 1) := by decide +kernel
theorem dX2_about_56 : decode cX2_about 56 = .ok (.aload_n 3, 1) := by decide +kernel
theorem dX2_about_57 : decode cX2_about 57 = .ok (.getfield 109, 3) := by decide +kernel
theorem dX2_about_60 : decode cX2_about 60 = .ok (.invokevirtual 37, 3) := by decide +kernel
theorem dX2_about_63 : decode cX2_about 63 = .ok (.getfield 80, 3) := by decide +kernel
theorem dX2_about_66 : decode cX2_about 66 = .ok (.aload_n 3, 1) := by decide +kernel
theorem dX2_about_67 : decode cX2_about 67 = .ok (.getfield 114, 3) := by decide +kernel
theorem dX2_about_70 : decode cX2_about 70 = .ok (.isub, 1) := by decide +kernel
theorem dX2_about_71 : decode cX2_about 71 = .ok (.ireturn, 1) := by decide +kernel
set_option maxRecDepth 20000 in
theorem ggX2_proof_X2_findCupboard : GoodIn wsX2_proof wsX2_findCupboard := goodIn_ca (goodIn_r _ [7, 1, 2, 8, 9, 18, 19, 20, 21, 22] (by decide +kernel) (by decide +kernel)) (goodIn_sub (fun _ h => List.mem_cons_of_mem _ (List.mem_append_right _ h)) (by decide +kernel))
set_option maxRecDepth 20000 in
theorem gX2_proof_X2_findCupboard : GoodIn wsX2_proof (wsV RX2 37 RX2 yX2_findCupboard wsX2_findCupboard) := goodIn_app (goodIn_of _ (by decide +kernel)) ggX2_proof_X2_findCupboard
set_option maxRecDepth 20000 in
theorem ggX2_proof_X2_checkDrawer : GoodIn wsX2_proof wsX2_checkDrawer := goodIn_ca (goodIn_r _ [12, 1, 2] (by decide +kernel) (by decide +kernel)) (goodIn_sub (fun _ h => List.mem_cons_of_mem _ (List.mem_append_right _ h)) (by decide +kernel))
set_option maxRecDepth 20000 in
theorem gX2_proof_X2_checkDrawer : GoodIn wsX2_proof (va_wsS RX2 41 yX2_checkDrawer wsX2_checkDrawer) := goodIn_app (goodIn_of _ (by decide +kernel)) ggX2_proof_X2_checkDrawer
set_option maxRecDepth 20000 in
theorem ggX2_proof_X0_proofSum : GoodIn wsX2_proof wsX0_proofSum := goodIn_r _ [16, 17, 23, 24, 25] (by decide +kernel) (by decide +kernel)
set_option maxRecDepth 20000 in
theorem gX2_proof_X0_proofSum_n117 : GoodIn wsX2_proof (wsX0_proofSum) := ggX2_proof_X0_proofSum
theorem dX2_proof_0 : decode cX2_proof 0 = .ok (.aload_n 0, 1) := by decide +kernel
theorem dX2_proof_1 : decode cX2_proof 1 = .ok (.iload_n 1, 1) := by decide +kernel
theorem dX2_proof_2 : decode cX2_proof 2 = .ok (.invokevirtual 37, 3) := by decide +kernel
theorem dX2_proof_5 : decode cX2_proof 5 = .ok (.astore 4, 2) := by decide +kernel
theorem dX2_proof_7 : decode cX2_proof 7 = .ok (.iload_n 2, 1) := by decide +kernel
theorem dX2_proof_8 : decode cX2_proof 8 = .ok (.invokestatic 41, 3) := by decide +kernel
theorem dX2_proof_11 : decode cX2_proof 11 = .ok (.iload_n 3, 1) := by decide +kernel
theorem dX2_proof_12 : decode cX2_proof 12 = .ok (.ifCond .lt 8, 3) := by decide +kernel
theorem dX2_proof_15 : decode cX2_proof 15 = .ok (.iload_n 3, 1) := by decide +kernel
theorem dX2_proof_16 : decode cX2_proof 16 = .ok (.iconst 4, 1) := by decide +kernel
theorem dX2_proof_17 : decode cX2_proof 17 = .ok (.if_icmp .lt 13, 3) := by decide +kernel
theorem dX2_proof_20 : decode cX2_proof 20 = .ok (.new 68, 3) := by decide +kernel
theorem dX2_proof_23 : decode cX2_proof 23 = .ok (.dup, 1) := by decide +kernel
theorem dX2_proof_24 : decode cX2_proof 24 = .ok (.ldc 115, 2) := by decide +kernel
theorem dX2_proof_26 : decode cX2_proof 26 = .ok (.invokespecial 72, 3) := by decide +kernel
theorem dX2_proof_29 : decode cX2_proof 29 = .ok (.athrow, 1) := by decide +kernel
theorem dX2_proof_30 : decode cX2_proof 30 = .ok (.aload 4, 2) := by decide +kernel
theorem dX2_proof_32 : decode cX2_proof 32 = .ok (.iload_n 2, 1) := by decide +kernel
theorem dX2_proof_33 : decode cX2_proof 33 = .ok (.iload_n 3, 1) := by decide +kernel
theorem dX2_proof_34 : decode cX2_proof 34 = .ok (.invokevirtual 117, 3) := by decide +kernel
theorem dX2_proof_37 : decode cX2_proof 37 = .ok (.ireturn, 1) := by decide +kernel
set_option maxRecDepth 20000 in
theorem ggX2_comes_X2_checkDrawer : GoodIn wsX2_comes wsX2_checkDrawer := goodIn_ca (goodIn_r _ [4, 5, 6] (by decide +kernel) (by decide +kernel)) (goodIn_sub (fun _ h => List.mem_cons_of_mem _ (List.mem_append_left _ (List.mem_append_right _ h))) (by decide +kernel))
set_option maxRecDepth 20000 in
theorem gX2_comes_X2_checkDrawer : GoodIn wsX2_comes (va_wsS RX2 41 yX2_checkDrawer wsX2_checkDrawer) := goodIn_app (goodIn_of _ (by decide +kernel)) ggX2_comes_X2_checkDrawer
set_option maxRecDepth 20000 in
theorem ggX2_comes_X2_checkThing : GoodIn wsX2_comes wsX2_checkThing := goodIn_ca (goodIn_r _ [9, 10, 11] (by decide +kernel) (by decide +kernel)) (goodIn_sub (fun _ h => List.mem_cons_of_mem _ (List.mem_append_right _ h)) (by decide +kernel))
set_option maxRecDepth 20000 in
theorem gX2_comes_X2_checkThing : GoodIn wsX2_comes (va_wsS RX2 45 yX2_checkThing wsX2_checkThing) := goodIn_app (goodIn_of _ (by decide +kernel)) ggX2_comes_X2_checkThing
set_option maxRecDepth 20000 in
theorem ggX2_comes_X2_checkSum : GoodIn wsX2_comes wsX2_checkSum := goodIn_ca (goodIn_r _ [14, 10, 11] (by decide +kernel) (by decide +kernel)) (goodIn_sub (fun _ h => List.mem_cons_of_mem _ (List.mem_append_right _ h)) (by decide +kernel))
set_option maxRecDepth 20000 in
theorem gX2_comes_X2_checkSum : GoodIn wsX2_comes (va_wsS RX2 120 yX2_checkSum wsX2_checkSum) := goodIn_app (goodIn_of _ (by decide +kernel)) ggX2_comes_X2_checkSum
set_option maxRecDepth 20000 in
theorem ggX2_comes_X2_sumOfThing : GoodIn wsX2_comes wsX2_sumOfThing := goodIn_r _ [17] (by decide +kernel) (by decide +kernel)
set_option maxRecDepth 20000 in
theorem gX2_comes_X2_sumOfThing : GoodIn wsX2_comes (va_wsS RX2 123 yX2_sumOfThing wsX2_sumOfThing) := goodIn_app (goodIn_of _ (by decide +kernel)) ggX2_comes_X2_sumOfThing
set_option maxRecDepth 20000 in
theorem ggX2_comes_X2_sumAbove : GoodIn wsX2_comes wsX2_sumAbove := goodIn_r _ [20, 21, 22, 3, 23] (by decide +kernel) (by decide +kernel)
set_option maxRecDepth 20000 in
theorem gX2_comes_X2_sumAbove : GoodIn wsX2_comes (va_wsS RX2 126 yX2_sumAbove wsX2_sumAbove) := goodIn_app (goodIn_of _ (by decide +kernel)) ggX2_comes_X2_sumAbove
theorem dX2_comes_0 : decode cX2_comes 0 = .ok (.iload_n 1, 1) := by decide +kernel
theorem dX2_comes_1 : decode cX2_comes 1 = .ok (.invokestatic 41, 3) := by decide +kernel
theorem dX2_comes_4 : decode cX2_comes 4 = .ok (.iload_n 2, 1) := by decide +kernel
theorem dX2_comes_5 : decode cX2_comes 5 = .ok (.invokestatic 45, 3) := by decide +kernel
theorem dX2_comes_8 : decode cX2_comes 8 = .ok (.iload_n 3, 1) := by decide +kernel
theorem dX2_comes_9 : decode cX2_comes 9 = .ok (.invokestatic 120, 3) := by decide +kernel
theorem dX2_comes_12 : decode cX2_comes 12 = .ok (.iload 4, 2) := by decide +kernel
theorem dX2_comes_14 : decode cX2_comes 14 = .ok (.invokestatic 120, 3) := by decide +kernel
theorem dX2_comes_17 : decode cX2_comes 17 = .ok (.iload 5, 2) := by decide +kernel
theorem dX2_comes_19 : decode cX2_comes 19 = .ok (.invokestatic 120, 3) := by decide +kernel
theorem dX2_comes_22 : decode cX2_comes 22 = .ok (.iload 6, 2) := by decide +kernel
theorem dX2_comes_24 : decode cX2_comes 24 = .ok (.invokestatic 120, 3) := by decide +kernel
theorem dX2_comes_27 : decode cX2_comes 27 = .ok (.bipush 16, 2) := by decide +kernel
theorem dX2_comes_29 : decode cX2_comes 29 = .ok (.iload_n 1, 1) := by decide +kernel
theorem dX2_comes_30 : decode cX2_comes 30 = .ok (.iadd, 1) := by decide +kernel
theorem dX2_comes_31 : decode cX2_comes 31 = .ok (.istore 7, 2) := by decide +kernel
theorem dX2_comes_33 : decode cX2_comes 33 = .ok (.iload_n 1, 1) := by decide +kernel
theorem dX2_comes_34 : decode cX2_comes 34 = .ok (.iload_n 2, 1) := by decide +kernel
theorem dX2_comes_35 : decode cX2_comes 35 = .ok (.invokestatic 123, 3) := by decide +kernel
theorem dX2_comes_38 : decode cX2_comes 38 = .ok (.istore 8, 2) := by decide +kernel
theorem dX2_comes_40 : decode cX2_comes 40 = .ok (.iload 7, 2) := by decide +kernel
theorem dX2_comes_42 : decode cX2_comes 42 = .ok (.iload 8, 2) := by decide +kernel
theorem dX2_comes_44 : decode cX2_comes 44 = .ok (.iload_n 3, 1) := by decide +kernel
theorem dX2_comes_45 : decode cX2_comes 45 = .ok (.invokestatic 126, 3) := by decide +kernel
theorem dX2_comes_48 : decode cX2_comes 48 = .ok (.istore 8, 2) := by decide +kernel
theorem dX2_comes_50 : decode cX2_comes 50 = .ok (.iload 7, 2) := by decide +kernel
theorem dX2_comes_52 : decode cX2_comes 52 = .ok (.iconst 1, 1) := by decide +kernel
theorem dX2_comes_53 : decode cX2_comes 53 = .ok (.ishr, 1) := by decide +kernel
theorem dX2_comes_54 : decode cX2_comes 54 = .ok (.iload 8, 2) := by decide +kernel
theorem dX2_comes_56 : decode cX2_comes 56 = .ok (.iload 4, 2) := by decide +kernel
theorem dX2_comes_58 : decode cX2_comes 58 = .ok (.invokestatic 126, 3) := by decide +kernel
theorem dX2_comes_61 : decode cX2_comes 61 = .ok (.istore 8, 2) := by decide +kernel
theorem dX2_comes_63 : decode cX2_comes 63 = .ok (.iload 7, 2) := by decide +kernel
theorem dX2_comes_65 : decode cX2_comes 65 = .ok (.iconst 2, 1) := by decide +kernel
theorem dX2_comes_66 : decode cX2_comes 66 = .ok (.ishr, 1) := by decide +kernel
theorem dX2_comes_67 : decode cX2_comes 67 = .ok (.iload 8, 2) := by decide +kernel
theorem dX2_comes_69 : decode cX2_comes 69 = .ok (.iload 5, 2) := by decide +kernel
theorem dX2_comes_71 : decode cX2_comes 71 = .ok (.invokestatic 126, 3) := by decide +kernel
theorem dX2_comes_74 : decode cX2_comes 74 = .ok (.istore 8, 2) := by decide +kernel
theorem dX2_comes_76 : decode cX2_comes 76 = .ok (.iload 7, 2) := by decide +kernel
theorem dX2_comes_78 : decode cX2_comes 78 = .ok (.iconst 3, 1) := by decide +kernel
theorem dX2_comes_79 : decode cX2_comes 79 = .ok (.ishr, 1) := by decide +kernel
theorem dX2_comes_80 : decode cX2_comes 80 = .ok (.iload 8, 2) := by decide +kernel
theorem dX2_comes_82 : decode cX2_comes 82 = .ok (.iload 6, 2) := by decide +kernel
theorem dX2_comes_84 : decode cX2_comes 84 = .ok (.invokestatic 126, 3) := by decide +kernel
theorem dX2_comes_87 : decode cX2_comes 87 = .ok (.ireturn, 1) := by decide +kernel
set_option maxRecDepth 20000 in
theorem ggX2_proves_X2_findSeal : GoodIn wsX2_proves wsX2_findSeal := goodIn_ca (goodIn_r _ [5, 6, 7, 8, 9, 41, 42, 43, 44, 45] (by decide +kernel) (by decide +kernel)) (goodIn_sub (fun _ h => List.mem_cons_of_mem _ (List.mem_append_left _ (List.mem_append_right _ h))) (by decide +kernel))
set_option maxRecDepth 20000 in
theorem gX2_proves_X2_findSeal : GoodIn wsX2_proves (wsV RX2 105 RX2 yX2_findSeal wsX2_findSeal) := goodIn_app (goodIn_of _ (by decide +kernel)) ggX2_proves_X2_findSeal
set_option maxRecDepth 20000 in
theorem ggX2_proves_X2_checkDrawer : GoodIn wsX2_proves wsX2_checkDrawer := goodIn_ca (goodIn_r _ [12, 6, 7] (by decide +kernel) (by decide +kernel)) (goodIn_sub (fun _ h => List.mem_cons_of_mem _ (List.mem_append_left _ (List.mem_append_right _ h))) (by decide +kernel))
set_option maxRecDepth 20000 in
theorem gX2_proves_X2_checkDrawer : GoodIn wsX2_proves (va_wsS RX2 41 yX2_checkDrawer wsX2_checkDrawer) := goodIn_app (goodIn_of _ (by decide +kernel)) ggX2_proves_X2_checkDrawer
set_option maxRecDepth 20000 in
theorem ggX2_proves_X2_checkThing : GoodIn wsX2_proves wsX2_checkThing := goodIn_ca (goodIn_r _ [15, 16, 17] (by decide +kernel) (by decide +kernel)) (goodIn_sub (fun _ h => List.mem_cons_of_mem _ (List.mem_append_right _ h)) (by decide +kernel))
set_option maxRecDepth 20000 in
theorem gX2_proves_X2_checkThing : GoodIn wsX2_proves (va_wsS RX2 45 yX2_checkThing wsX2_checkThing) := goodIn_app (goodIn_of _ (by decide +kernel)) ggX2_proves_X2_checkThing
set_option maxRecDepth 20000 in
theorem ggX2_proves_X2_findCupboard : GoodIn wsX2_proves wsX2_findCupboard := goodIn_ca (goodIn_r _ [21, 6, 7, 22, 23, 41, 42, 43, 44, 45] (by decide +kernel) (by decide +kernel)) (goodIn_sub (fun _ h => List.mem_cons_of_mem _ (List.mem_append_left _ (List.mem_append_right _ h))) (by decide +kernel))
set_option maxRecDepth 20000 in
theorem gX2_proves_X2_findCupboard : GoodIn wsX2_proves (wsV RX2 37 RX2 yX2_findCupboard wsX2_findCupboard) := goodIn_app (goodIn_of _ (by decide +kernel)) ggX2_proves_X2_findCupboard
set_option maxRecDepth 20000 in
theorem ggX2_proves_X2_sumOfThing : GoodIn wsX2_proves wsX2_sumOfThing := goodIn_r _ [26] (by decide +kernel) (by decide +kernel)
set_option maxRecDepth 20000 in
theorem gX2_proves_X2_sumOfThing : GoodIn wsX2_proves (va_wsS RX2 123 yX2_sumOfThing wsX2_sumOfThing) := goodIn_app (goodIn_of _ (by decide +kernel)) ggX2_proves_X2_sumOfThing
set_option maxRecDepth 20000 in
theorem ggX2_proves_X0_proofSum : GoodIn wsX2_proves wsX0_proofSum := goodIn_r _ [30, 31, 46, 47, 48] (by decide +kernel) (by decide +kernel)
set_option maxRecDepth 20000 in
theorem gX2_proves_X0_proofSum_n117 : GoodIn wsX2_proves (wsX0_proofSum) := ggX2_proves_X0_proofSum
set_option maxRecDepth 20000 in
theorem ggX2_proves_X2_sumAbove : GoodIn wsX2_proves wsX2_sumAbove := goodIn_r _ [34, 35, 36, 4, 37] (by decide +kernel) (by decide +kernel)
set_option maxRecDepth 20000 in
theorem gX2_proves_X2_sumAbove : GoodIn wsX2_proves (va_wsS RX2 126 yX2_sumAbove wsX2_sumAbove) := goodIn_app (goodIn_of _ (by decide +kernel)) ggX2_proves_X2_sumAbove
theorem dX2_proves_0 : decode cX2_proves 0 = .ok (.aload_n 0, 1) := by decide +kernel
theorem dX2_proves_1 : decode cX2_proves 1 = .ok (.iload_n 1, 1) := by decide +kernel
theorem dX2_proves_2 : decode cX2_proves 2 = .ok (.invokevirtual 105, 3) := by decide +kernel
theorem dX2_proves_5 : decode cX2_proves 5 = .ok (.astore 4, 2) := by decide +kernel
theorem dX2_proves_7 : decode cX2_proves 7 = .ok (.iload_n 2, 1) := by decide +kernel
theorem dX2_proves_8 : decode cX2_proves 8 = .ok (.invokestatic 41, 3) := by decide +kernel
theorem dX2_proves_11 : decode cX2_proves 11 = .ok (.iload_n 3, 1) := by decide +kernel
theorem dX2_proves_12 : decode cX2_proves 12 = .ok (.invokestatic 45, 3) := by decide +kernel
theorem dX2_proves_15 : decode cX2_proves 15 = .ok (.aload_n 0, 1) := by decide +kernel
theorem dX2_proves_16 : decode cX2_proves 16 = .ok (.aload 4, 2) := by decide +kernel
theorem dX2_proves_18 : decode cX2_proves 18 = .ok (.getfield 109, 3) := by decide +kernel
theorem dX2_proves_21 : decode cX2_proves 21 = .ok (.invokevirtual 37, 3) := by decide +kernel
theorem dX2_proves_24 : decode cX2_proves 24 = .ok (.astore 5, 2) := by decide +kernel
theorem dX2_proves_26 : decode cX2_proves 26 = .ok (.iload_n 2, 1) := by decide +kernel
theorem dX2_proves_27 : decode cX2_proves 27 = .ok (.iload_n 3, 1) := by decide +kernel
theorem dX2_proves_28 : decode cX2_proves 28 = .ok (.invokestatic 123, 3) := by decide +kernel
theorem dX2_proves_31 : decode cX2_proves 31 = .ok (.istore 6, 2) := by decide +kernel
theorem dX2_proves_33 : decode cX2_proves 33 = .ok (.iconst 0, 1) := by decide +kernel
theorem dX2_proves_34 : decode cX2_proves 34 = .ok (.istore 7, 2) := by decide +kernel
theorem dX2_proves_36 : decode cX2_proves 36 = .ok (.iload 7, 2) := by decide +kernel
theorem dX2_proves_38 : decode cX2_proves 38 = .ok (.iconst 4, 1) := by decide +kernel
theorem dX2_proves_39 : decode cX2_proves 39 = .ok (.if_icmp .ge 31, 3) := by decide +kernel
theorem dX2_proves_42 : decode cX2_proves 42 = .ok (.bipush 16, 2) := by decide +kernel
theorem dX2_proves_44 : decode cX2_proves 44 = .ok (.iload_n 2, 1) := by decide +kernel
theorem dX2_proves_45 : decode cX2_proves 45 = .ok (.iadd, 1) := by decide +kernel
theorem dX2_proves_46 : decode cX2_proves 46 = .ok (.iload 7, 2) := by decide +kernel
theorem dX2_proves_48 : decode cX2_proves 48 = .ok (.ishr, 1) := by decide +kernel
theorem dX2_proves_49 : decode cX2_proves 49 = .ok (.iload 6, 2) := by decide +kernel
theorem dX2_proves_51 : decode cX2_proves 51 = .ok (.aload 5, 2) := by decide +kernel
theorem dX2_proves_53 : decode cX2_proves 53 = .ok (.iload_n 2, 1) := by decide +kernel
theorem dX2_proves_54 : decode cX2_proves 54 = .ok (.iload 7, 2) := by decide +kernel
theorem dX2_proves_56 : decode cX2_proves 56 = .ok (.invokevirtual 117, 3) := by decide +kernel
theorem dX2_proves_59 : decode cX2_proves 59 = .ok (.invokestatic 126, 3) := by decide +kernel
theorem dX2_proves_62 : decode cX2_proves 62 = .ok (.istore 6, 2) := by decide +kernel
theorem dX2_proves_64 : decode cX2_proves 64 = .ok (.iinc 7 1, 3) := by decide +kernel
theorem dX2_proves_67 : decode cX2_proves 67 = .ok (.goto (-31), 3) := by decide +kernel
theorem dX2_proves_70 : decode cX2_proves 70 = .ok (.iload 6, 2) := by decide +kernel
theorem dX2_proves_72 : decode cX2_proves 72 = .ok (.aload 4, 2) := by decide +kernel
theorem dX2_proves_74 : decode cX2_proves 74 = .ok (.getfield 112, 3) := by decide +kernel
theorem dX2_proves_77 : decode cX2_proves 77 = .ok (.if_icmp .ne 7, 3) := by decide +kernel
theorem dX2_proves_80 : decode cX2_proves 80 = .ok (.iconst 1, 1) := by decide +kernel
theorem dX2_proves_81 : decode cX2_proves 81 = .ok (.goto 4, 3) := by decide +kernel
theorem dX2_proves_84 : decode cX2_proves 84 = .ok (.iconst 0, 1) := by decide +kernel
theorem dX2_proves_85 : decode cX2_proves 85 = .ok (.ireturn, 1) := by decide +kernel
set_option maxRecDepth 20000 in
theorem ggX2_differ_X2_findCupboard : GoodIn wsX2_differ wsX2_findCupboard := goodIn_ca (goodIn_r _ [5, 6, 7, 8, 9, 22, 23, 24, 25, 26] (by decide +kernel) (by decide +kernel)) (goodIn_sub (fun _ h => List.mem_cons_of_mem _ (List.mem_append_right _ h)) (by decide +kernel))
set_option maxRecDepth 20000 in
theorem gX2_differ_X2_findCupboard : GoodIn wsX2_differ (wsV RX2 37 RX2 yX2_findCupboard wsX2_findCupboard) := goodIn_app (goodIn_of _ (by decide +kernel)) ggX2_differ_X2_findCupboard
set_option maxRecDepth 20000 in
theorem ggX2_differ_X2_drawersApart : GoodIn wsX2_differ wsX2_drawersApart := goodIn_r _ [12, 13, 14, 4, 15, 16, 17, 18] (by decide +kernel) (by decide +kernel)
set_option maxRecDepth 20000 in
theorem gX2_differ_X2_drawersApart : GoodIn wsX2_differ (va_wsS RX2 130 yX2_drawersApart wsX2_drawersApart) := goodIn_app (goodIn_of _ (by decide +kernel)) ggX2_differ_X2_drawersApart
theorem dX2_differ_0 : decode cX2_differ 0 = .ok (.aload_n 0, 1) := by decide +kernel
theorem dX2_differ_1 : decode cX2_differ 1 = .ok (.iload_n 1, 1) := by decide +kernel
theorem dX2_differ_2 : decode cX2_differ 2 = .ok (.invokevirtual 37, 3) := by decide +kernel
theorem dX2_differ_5 : decode cX2_differ 5 = .ok (.getfield 55, 3) := by decide +kernel
theorem dX2_differ_8 : decode cX2_differ 8 = .ok (.aload_n 0, 1) := by decide +kernel
theorem dX2_differ_9 : decode cX2_differ 9 = .ok (.iload_n 2, 1) := by decide +kernel
theorem dX2_differ_10 : decode cX2_differ 10 = .ok (.invokevirtual 37, 3) := by decide +kernel
theorem dX2_differ_13 : decode cX2_differ 13 = .ok (.getfield 55, 3) := by decide +kernel
theorem dX2_differ_16 : decode cX2_differ 16 = .ok (.invokestatic 130, 3) := by decide +kernel
theorem dX2_differ_19 : decode cX2_differ 19 = .ok (.ireturn, 1) := by decide +kernel
set_option maxRecDepth 20000 in
theorem ggX2_looks_X2_findCupboard : GoodIn wsX2_looks wsX2_findCupboard := goodIn_ca (goodIn_r _ [5, 6, 7, 8, 9, 26, 27, 28, 29, 30] (by decide +kernel) (by decide +kernel)) (goodIn_sub (fun _ h => List.mem_cons_of_mem _ (List.mem_append_right _ h)) (by decide +kernel))
set_option maxRecDepth 20000 in
theorem gX2_looks_X2_findCupboard : GoodIn wsX2_looks (wsV RX2 37 RX2 yX2_findCupboard wsX2_findCupboard) := goodIn_app (goodIn_of _ (by decide +kernel)) ggX2_looks_X2_findCupboard
set_option maxRecDepth 20000 in
theorem ggX2_looks_X2_placesLookedAt : GoodIn wsX2_looks wsX2_placesLookedAt := goodIn_r _ [12, 13, 14, 4, 15] (by decide +kernel) (by decide +kernel)
set_option maxRecDepth 20000 in
theorem gX2_looks_X2_placesLookedAt : GoodIn wsX2_looks (va_wsS RX2 133 yX2_placesLookedAt wsX2_placesLookedAt) := goodIn_app (goodIn_of _ (by decide +kernel)) ggX2_looks_X2_placesLookedAt
set_option maxRecDepth 20000 in
theorem ggX2_looks_J6_bitCount_0f7a4 : GoodIn wsX2_looks wsJ6_bitCount_0f7a4 := goodIn_r _ [19, 20, 21, 22] (by decide +kernel) (by decide +kernel)
set_option maxRecDepth 20000 in
theorem gX2_looks_J6_bitCount_0f7a4 : GoodIn wsX2_looks (va_wsS RX2 136 yJ6_bitCount_0f7a4 wsJ6_bitCount_0f7a4) := goodIn_app (goodIn_of _ (by decide +kernel)) ggX2_looks_J6_bitCount_0f7a4
theorem dX2_looks_0 : decode cX2_looks 0 = .ok (.aload_n 0, 1) := by decide +kernel
theorem dX2_looks_1 : decode cX2_looks 1 = .ok (.iload_n 1, 1) := by decide +kernel
theorem dX2_looks_2 : decode cX2_looks 2 = .ok (.invokevirtual 37, 3) := by decide +kernel
theorem dX2_looks_5 : decode cX2_looks 5 = .ok (.getfield 55, 3) := by decide +kernel
theorem dX2_looks_8 : decode cX2_looks 8 = .ok (.aload_n 0, 1) := by decide +kernel
theorem dX2_looks_9 : decode cX2_looks 9 = .ok (.iload_n 2, 1) := by decide +kernel
theorem dX2_looks_10 : decode cX2_looks 10 = .ok (.invokevirtual 37, 3) := by decide +kernel
theorem dX2_looks_13 : decode cX2_looks 13 = .ok (.getfield 55, 3) := by decide +kernel
theorem dX2_looks_16 : decode cX2_looks 16 = .ok (.invokestatic 133, 3) := by decide +kernel
theorem dX2_looks_19 : decode cX2_looks 19 = .ok (.invokestatic 136, 3) := by decide +kernel
theorem dX2_looks_22 : decode cX2_looks 22 = .ok (.ireturn, 1) := by decide +kernel
set_option maxRecDepth 20000 in
theorem ggX2_mend_X2_findCupboard : GoodIn wsX2_mend wsX2_findCupboard := goodIn_ca (goodIn_r _ [5, 6, 7, 8, 9, 44, 45, 46, 47, 48] (by decide +kernel) (by decide +kernel)) (goodIn_sub (fun _ h => List.mem_cons_of_mem _ (List.mem_append_right _ h)) (by decide +kernel))
set_option maxRecDepth 20000 in
theorem gX2_mend_X2_findCupboard : GoodIn wsX2_mend (wsV RX2 37 RX2 yX2_findCupboard wsX2_findCupboard) := goodIn_app (goodIn_of _ (by decide +kernel)) ggX2_mend_X2_findCupboard
set_option maxRecDepth 20000 in
theorem ggX2_mend_X2_drawersApart : GoodIn wsX2_mend wsX2_drawersApart := goodIn_r _ [12, 13, 14, 4, 15, 16, 17, 18] (by decide +kernel) (by decide +kernel)
set_option maxRecDepth 20000 in
theorem gX2_mend_X2_drawersApart : GoodIn wsX2_mend (va_wsS RX2 130 yX2_drawersApart wsX2_drawersApart) := goodIn_app (goodIn_of _ (by decide +kernel)) ggX2_mend_X2_drawersApart
set_option maxRecDepth 20000 in
theorem ggX2_mend_X2_hasBit : GoodIn wsX2_mend wsX2_hasBit := goodIn_r _ [18] (by decide +kernel) (by decide +kernel)
set_option maxRecDepth 20000 in
theorem gX2_mend_X2_hasBit : GoodIn wsX2_mend (va_wsS RX2 141 yX2_hasBit wsX2_hasBit) := goodIn_app (goodIn_of _ (by decide +kernel)) ggX2_mend_X2_hasBit
set_option maxRecDepth 20000 in
theorem ggX2_mend_X0_lay : GoodIn wsX2_mend wsX0_lay := goodIn_r _ [22, 23, 24, 25, 26, 4, 27, 28, 29, 30, 31, 32, 33, 41, 42, 43] (by decide +kernel) (by decide +kernel)
set_option maxRecDepth 20000 in
theorem gX2_mend_X0_lay_n51 : GoodIn wsX2_mend (wsX0_lay) := ggX2_mend_X0_lay
set_option maxRecDepth 20000 in
theorem ggX2_mend_J6_bitCount_0f7a4 : GoodIn wsX2_mend wsJ6_bitCount_0f7a4 := goodIn_r _ [37, 38, 39, 40] (by decide +kernel) (by decide +kernel)
set_option maxRecDepth 20000 in
theorem gX2_mend_J6_bitCount_0f7a4 : GoodIn wsX2_mend (va_wsS RX2 136 yJ6_bitCount_0f7a4 wsJ6_bitCount_0f7a4) := goodIn_app (goodIn_of _ (by decide +kernel)) ggX2_mend_J6_bitCount_0f7a4
theorem dX2_mend_0 : decode cX2_mend 0 = .ok (.aload_n 0, 1) := by decide +kernel
theorem dX2_mend_1 : decode cX2_mend 1 = .ok (.iload_n 1, 1) := by decide +kernel
theorem dX2_mend_2 : decode cX2_mend 2 = .ok (.invokevirtual 37, 3) := by decide +kernel
theorem dX2_mend_5 : decode cX2_mend 5 = .ok (.astore_n 3, 1) := by decide +kernel
theorem dX2_mend_6 : decode cX2_mend 6 = .ok (.aload_n 0, 1) := by decide +kernel
theorem dX2_mend_7 : decode cX2_mend 7 = .ok (.iload_n 2, 1) := by decide +kernel
theorem dX2_mend_8 : decode cX2_mend 8 = .ok (.invokevirtual 37, 3) := by decide +kernel
theorem dX2_mend_11 : decode cX2_mend 11 = .ok (.astore 4, 2) := by decide +kernel
theorem dX2_mend_13 : decode cX2_mend 13 = .ok (.aload_n 3, 1) := by decide +kernel
theorem dX2_mend_14 : decode cX2_mend 14 = .ok (.getfield 55, 3) := by decide +kernel
theorem dX2_mend_17 : decode cX2_mend 17 = .ok (.aload 4, 2) := by decide +kernel
theorem dX2_mend_19 : decode cX2_mend 19 = .ok (.getfield 55, 3) := by decide +kernel
theorem dX2_mend_22 : decode cX2_mend 22 = .ok (.invokestatic 130, 3) := by decide +kernel
theorem dX2_mend_25 : decode cX2_mend 25 = .ok (.istore 5, 2) := by decide +kernel
theorem dX2_mend_27 : decode cX2_mend 27 = .ok (.iconst 0, 1) := by decide +kernel
theorem dX2_mend_28 : decode cX2_mend 28 = .ok (.istore 6, 2) := by decide +kernel
theorem dX2_mend_30 : decode cX2_mend 30 = .ok (.iload 6, 2) := by decide +kernel
theorem dX2_mend_32 : decode cX2_mend 32 = .ok (.bipush 16, 2) := by decide +kernel
theorem dX2_mend_34 : decode cX2_mend 34 = .ok (.if_icmp .ge 33, 3) := by decide +kernel
theorem dX2_mend_37 : decode cX2_mend 37 = .ok (.iload 5, 2) := by decide +kernel
theorem dX2_mend_39 : decode cX2_mend 39 = .ok (.iload 6, 2) := by decide +kernel
theorem dX2_mend_41 : decode cX2_mend 41 = .ok (.invokestatic 141, 3) := by decide +kernel
theorem dX2_mend_44 : decode cX2_mend 44 = .ok (.ifCond .eq 17, 3) := by decide +kernel
theorem dX2_mend_47 : decode cX2_mend 47 = .ok (.aload 4, 2) := by decide +kernel
theorem dX2_mend_49 : decode cX2_mend 49 = .ok (.iload 6, 2) := by decide +kernel
theorem dX2_mend_51 : decode cX2_mend 51 = .ok (.aload_n 3, 1) := by decide +kernel
theorem dX2_mend_52 : decode cX2_mend 52 = .ok (.getfield 48, 3) := by decide +kernel
theorem dX2_mend_55 : decode cX2_mend 55 = .ok (.iload 6, 2) := by decide +kernel
theorem dX2_mend_57 : decode cX2_mend 57 = .ok (.iaload, 1) := by decide +kernel
theorem dX2_mend_58 : decode cX2_mend 58 = .ok (.invokevirtual 51, 3) := by decide +kernel
theorem dX2_mend_61 : decode cX2_mend 61 = .ok (.iinc 6 1, 3) := by decide +kernel
theorem dX2_mend_64 : decode cX2_mend 64 = .ok (.goto (-34), 3) := by decide +kernel
theorem dX2_mend_67 : decode cX2_mend 67 = .ok (.iload 5, 2) := by decide +kernel
theorem dX2_mend_69 : decode cX2_mend 69 = .ok (.invokestatic 136, 3) := by decide +kernel
theorem dX2_mend_72 : decode cX2_mend 72 = .ok (.ireturn, 1) := by decide +kernel
set_option maxRecDepth 20000 in
theorem ggX2_swapped_X2_findSeal : GoodIn wsX2_swapped wsX2_findSeal := goodIn_ca (goodIn_r _ [10, 11, 12, 13, 14, 45, 46, 47, 48, 49] (by decide +kernel) (by decide +kernel)) (goodIn_sub (fun _ h => List.mem_cons_of_mem _ (List.mem_append_right _ h)) (by decide +kernel))
set_option maxRecDepth 20000 in
theorem gX2_swapped_X2_findSeal : GoodIn wsX2_swapped (wsV RX2 105 RX2 yX2_findSeal wsX2_findSeal) := goodIn_app (goodIn_of _ (by decide +kernel)) ggX2_swapped_X2_findSeal
set_option maxRecDepth 20000 in
theorem ggX2_swapped_X2_findCupboard : GoodIn wsX2_swapped wsX2_findCupboard := goodIn_ca (goodIn_r _ [18, 11, 12, 19, 20, 45, 46, 47, 48, 49] (by decide +kernel) (by decide +kernel)) (goodIn_sub (fun _ h => List.mem_cons_of_mem _ (List.mem_append_right _ h)) (by decide +kernel))
set_option maxRecDepth 20000 in
theorem gX2_swapped_X2_findCupboard : GoodIn wsX2_swapped (wsV RX2 37 RX2 yX2_findCupboard wsX2_findCupboard) := goodIn_app (goodIn_of _ (by decide +kernel)) ggX2_swapped_X2_findCupboard
set_option maxRecDepth 20000 in
theorem ggX2_swapped_X0_root : GoodIn wsX2_swapped wsX0_root := goodIn_r _ [24, 25, 42, 43, 44] (by decide +kernel) (by decide +kernel)
set_option maxRecDepth 20000 in
theorem gX2_swapped_X0_root_n76 : GoodIn wsX2_swapped (wsX0_root) := ggX2_swapped_X0_root
set_option maxRecDepth 20000 in
theorem ggX2_swapped_X2_rootWithSwap : GoodIn wsX2_swapped wsX2_rootWithSwap := goodIn_r _ [29, 1, 30, 31, 9, 32, 33, 34, 35, 36, 37, 38, 45, 46, 47, 48, 49] (by decide +kernel) (by decide +kernel)
set_option maxRecDepth 20000 in
theorem gX2_swapped_X2_rootWithSwap : GoodIn wsX2_swapped (wsV RX2 145 RX2 yX2_rootWithSwap wsX2_rootWithSwap) := goodIn_app (goodIn_of _ (by decide +kernel)) ggX2_swapped_X2_rootWithSwap
theorem dX2_swapped_0 : decode cX2_swapped 0 = .ok (.aload_n 0, 1) := by decide +kernel
theorem dX2_swapped_1 : decode cX2_swapped 1 = .ok (.iload_n 1, 1) := by decide +kernel
theorem dX2_swapped_2 : decode cX2_swapped 2 = .ok (.invokevirtual 105, 3) := by decide +kernel
theorem dX2_swapped_5 : decode cX2_swapped 5 = .ok (.astore_n 2, 1) := by decide +kernel
theorem dX2_swapped_6 : decode cX2_swapped 6 = .ok (.aload_n 0, 1) := by decide +kernel
theorem dX2_swapped_7 : decode cX2_swapped 7 = .ok (.aload_n 2, 1) := by decide +kernel
theorem dX2_swapped_8 : decode cX2_swapped 8 = .ok (.getfield 109, 3) := by decide +kernel
theorem dX2_swapped_11 : decode cX2_swapped 11 = .ok (.invokevirtual 37, 3) := by decide +kernel
theorem dX2_swapped_14 : decode cX2_swapped 14 = .ok (.astore_n 3, 1) := by decide +kernel
theorem dX2_swapped_15 : decode cX2_swapped 15 = .ok (.aload_n 3, 1) := by decide +kernel
theorem dX2_swapped_16 : decode cX2_swapped 16 = .ok (.invokevirtual 76, 3) := by decide +kernel
theorem dX2_swapped_19 : decode cX2_swapped 19 = .ok (.aload_n 2, 1) := by decide +kernel
theorem dX2_swapped_20 : decode cX2_swapped 20 = .ok (.getfield 112, 3) := by decide +kernel
theorem dX2_swapped_23 : decode cX2_swapped 23 = .ok (.if_icmp .ne 5, 3) := by decide +kernel
theorem dX2_swapped_26 : decode cX2_swapped 26 = .ok (.iconst (-1), 1) := by decide +kernel
theorem dX2_swapped_27 : decode cX2_swapped 27 = .ok (.ireturn, 1) := by decide +kernel
theorem dX2_swapped_28 : decode cX2_swapped 28 = .ok (.aload_n 3, 1) := by decide +kernel
theorem dX2_swapped_29 : decode cX2_swapped 29 = .ok (.getfield 55, 3) := by decide +kernel
theorem dX2_swapped_32 : decode cX2_swapped 32 = .ok (.iconst 0, 1) := by decide +kernel
theorem dX2_swapped_33 : decode cX2_swapped 33 = .ok (.aload_n 0, 1) := by decide +kernel
theorem dX2_swapped_34 : decode cX2_swapped 34 = .ok (.getfield 21, 3) := by decide +kernel
theorem dX2_swapped_37 : decode cX2_swapped 37 = .ok (.iconst 0, 1) := by decide +kernel
theorem dX2_swapped_38 : decode cX2_swapped 38 = .ok (.bipush 32, 2) := by decide +kernel
theorem dX2_swapped_40 : decode cX2_swapped 40 = .ok (.invokestatic 58, 3) := by decide +kernel
theorem dX2_swapped_43 : decode cX2_swapped 43 = .ok (.iconst 0, 1) := by decide +kernel
theorem dX2_swapped_44 : decode cX2_swapped 44 = .ok (.istore 4, 2) := by decide +kernel
theorem dX2_swapped_46 : decode cX2_swapped 46 = .ok (.iload 4, 2) := by decide +kernel
theorem dX2_swapped_48 : decode cX2_swapped 48 = .ok (.bipush 16, 2) := by decide +kernel
theorem dX2_swapped_50 : decode cX2_swapped 50 = .ok (.if_icmp .ge 56, 3) := by decide +kernel
theorem dX2_swapped_53 : decode cX2_swapped 53 = .ok (.iload 4, 2) := by decide +kernel
theorem dX2_swapped_55 : decode cX2_swapped 55 = .ok (.iconst 1, 1) := by decide +kernel
theorem dX2_swapped_56 : decode cX2_swapped 56 = .ok (.iadd, 1) := by decide +kernel
theorem dX2_swapped_57 : decode cX2_swapped 57 = .ok (.istore 5, 2) := by decide +kernel
theorem dX2_swapped_59 : decode cX2_swapped 59 = .ok (.iload 5, 2) := by decide +kernel
theorem dX2_swapped_61 : decode cX2_swapped 61 = .ok (.bipush 16, 2) := by decide +kernel
theorem dX2_swapped_63 : decode cX2_swapped 63 = .ok (.if_icmp .ge 37, 3) := by decide +kernel
theorem dX2_swapped_66 : decode cX2_swapped 66 = .ok (.aload_n 0, 1) := by decide +kernel
theorem dX2_swapped_67 : decode cX2_swapped 67 = .ok (.aload_n 3, 1) := by decide +kernel
theorem dX2_swapped_68 : decode cX2_swapped 68 = .ok (.getfield 48, 3) := by decide +kernel
theorem dX2_swapped_71 : decode cX2_swapped 71 = .ok (.iload 4, 2) := by decide +kernel
theorem dX2_swapped_73 : decode cX2_swapped 73 = .ok (.iload 5, 2) := by decide +kernel
theorem dX2_swapped_75 : decode cX2_swapped 75 = .ok (.invokevirtual 145, 3) := by decide +kernel
theorem dX2_swapped_78 : decode cX2_swapped 78 = .ok (.aload_n 2, 1) := by decide +kernel
theorem dX2_swapped_79 : decode cX2_swapped 79 = .ok (.getfield 112, 3) := by decide +kernel
theorem dX2_swapped_82 : decode cX2_swapped 82 = .ok (.if_icmp .ne 12, 3) := by decide +kernel
theorem dX2_swapped_85 : decode cX2_swapped 85 = .ok (.bipush 16, 2) := by decide +kernel
theorem dX2_swapped_87 : decode cX2_swapped 87 = .ok (.iload 4, 2) := by decide +kernel
theorem dX2_swapped_89 : decode cX2_swapped 89 = .ok (.imul, 1) := by decide +kernel
theorem dX2_swapped_90 : decode cX2_swapped 90 = .ok (.iload 5, 2) := by decide +kernel
theorem dX2_swapped_92 : decode cX2_swapped 92 = .ok (.iadd, 1) := by decide +kernel
theorem dX2_swapped_93 : decode cX2_swapped 93 = .ok (.ireturn, 1) := by decide +kernel
theorem dX2_swapped_94 : decode cX2_swapped 94 = .ok (.iinc 5 1, 3) := by decide +kernel
theorem dX2_swapped_97 : decode cX2_swapped 97 = .ok (.goto (-38), 3) := by decide +kernel
theorem dX2_swapped_100 : decode cX2_swapped 100 = .ok (.iinc 4 1, 3) := by decide +kernel
theorem dX2_swapped_103 : decode cX2_swapped 103 = .ok (.goto (-57), 3) := by decide +kernel
theorem dX2_swapped_106 : decode cX2_swapped 106 = .ok (.iconst (-1), 1) := by decide +kernel
theorem dX2_swapped_107 : decode cX2_swapped 107 = .ok (.ireturn, 1) := by decide +kernel
set_option maxRecDepth 20000 in
theorem ggX2_count_X2_checkWhat : GoodIn wsX2_count wsX2_checkWhat := goodIn_ca (goodIn_r _ [6, 7, 8] (by decide +kernel) (by decide +kernel)) (goodIn_sub (fun _ h => List.mem_cons_of_mem _ (List.mem_append_right _ h)) (by decide +kernel))
set_option maxRecDepth 20000 in
theorem gX2_count_X2_checkWhat : GoodIn wsX2_count (va_wsS RX2 73 yX2_checkWhat wsX2_checkWhat) := goodIn_app (goodIn_of _ (by decide +kernel)) ggX2_count_X2_checkWhat
set_option maxRecDepth 20000 in
theorem ggX2_count_X2_differentRoots : GoodIn wsX2_count wsX2_differentRoots := goodIn_r _ [12, 1, 13, 14, 15, 5, 16, 17, 18, 19, 20, 21, 22, 27, 28, 29, 30, 31, 32, 33, 34] (by decide +kernel) (by decide +kernel)
set_option maxRecDepth 20000 in
theorem gX2_count_X2_differentRoots : GoodIn wsX2_count (wsV RX2 149 RX2 yX2_differentRoots wsX2_differentRoots) := goodIn_app (goodIn_of _ (by decide +kernel)) ggX2_count_X2_differentRoots
set_option maxRecDepth 20000 in
theorem ggX2_count_X2_changesAdded : GoodIn wsX2_count wsX2_changesAdded := goodIn_r _ [26, 1, 17, 27, 28, 29, 30, 31, 32, 33, 34] (by decide +kernel) (by decide +kernel)
set_option maxRecDepth 20000 in
theorem gX2_count_X2_changesAdded : GoodIn wsX2_count (wsV RX2 152 RX2 yX2_changesAdded wsX2_changesAdded) := goodIn_app (goodIn_of _ (by decide +kernel)) ggX2_count_X2_changesAdded
theorem dX2_count_0 : decode cX2_count 0 = .ok (.iload_n 1, 1) := by decide +kernel
theorem dX2_count_1 : decode cX2_count 1 = .ok (.iconst 4, 1) := by decide +kernel
theorem dX2_count_2 : decode cX2_count 2 = .ok (.invokestatic 73, 3) := by decide +kernel
theorem dX2_count_5 : decode cX2_count 5 = .ok (.iload_n 1, 1) := by decide +kernel
theorem dX2_count_6 : decode cX2_count 6 = .ok (.tableswitch 41 0 2 #[26, 31, 36], 26) := by decide +kernel
theorem dX2_count_32 : decode cX2_count 32 = .ok (.aload_n 0, 1) := by decide +kernel
theorem dX2_count_33 : decode cX2_count 33 = .ok (.getfield 25, 3) := by decide +kernel
theorem dX2_count_36 : decode cX2_count 36 = .ok (.ireturn, 1) := by decide +kernel
theorem dX2_count_37 : decode cX2_count 37 = .ok (.aload_n 0, 1) := by decide +kernel
theorem dX2_count_38 : decode cX2_count 38 = .ok (.getfield 97, 3) := by decide +kernel
theorem dX2_count_41 : decode cX2_count 41 = .ok (.ireturn, 1) := by decide +kernel
theorem dX2_count_42 : decode cX2_count 42 = .ok (.aload_n 0, 1) := by decide +kernel
theorem dX2_count_43 : decode cX2_count 43 = .ok (.invokevirtual 149, 3) := by decide +kernel
theorem dX2_count_46 : decode cX2_count 46 = .ok (.ireturn, 1) := by decide +kernel
theorem dX2_count_47 : decode cX2_count 47 = .ok (.aload_n 0, 1) := by decide +kernel
theorem dX2_count_48 : decode cX2_count 48 = .ok (.invokevirtual 152, 3) := by decide +kernel
theorem dX2_count_51 : decode cX2_count 51 = .ok (.ireturn, 1) := by decide +kernel
theorem dX2_mean_0 : decode cX2_mean 0 = .ok (.aload_n 0, 1) := by decide +kernel
theorem dX2_mean_1 : decode cX2_mean 1 = .ok (.getfield 25, 3) := by decide +kernel
theorem dX2_mean_4 : decode cX2_mean 4 = .ok (.ifCond .ne 5, 3) := by decide +kernel
theorem dX2_mean_7 : decode cX2_mean 7 = .ok (.dconst 0, 1) := by decide +kernel
theorem dX2_mean_8 : decode cX2_mean 8 = .ok (.dreturn, 1) := by decide +kernel
theorem dX2_mean_9 : decode cX2_mean 9 = .ok (.iconst 0, 1) := by decide +kernel
theorem dX2_mean_10 : decode cX2_mean 10 = .ok (.istore_n 1, 1) := by decide +kernel
theorem dX2_mean_11 : decode cX2_mean 11 = .ok (.iconst 0, 1) := by decide +kernel
theorem dX2_mean_12 : decode cX2_mean 12 = .ok (.istore_n 2, 1) := by decide +kernel
theorem dX2_mean_13 : decode cX2_mean 13 = .ok (.iload_n 2, 1) := by decide +kernel
theorem dX2_mean_14 : decode cX2_mean 14 = .ok (.aload_n 0, 1) := by decide +kernel
theorem dX2_mean_15 : decode cX2_mean 15 = .ok (.getfield 25, 3) := by decide +kernel
theorem dX2_mean_18 : decode cX2_mean 18 = .ok (.if_icmp .ge 37, 3) := by decide +kernel
theorem dX2_mean_21 : decode cX2_mean 21 = .ok (.iconst 1, 1) := by decide +kernel
theorem dX2_mean_22 : decode cX2_mean 22 = .ok (.istore_n 3, 1) := by decide +kernel
theorem dX2_mean_23 : decode cX2_mean 23 = .ok (.iload_n 3, 1) := by decide +kernel
theorem dX2_mean_24 : decode cX2_mean 24 = .ok (.bipush 31, 2) := by decide +kernel
theorem dX2_mean_26 : decode cX2_mean 26 = .ok (.if_icmp .gt 23, 3) := by decide +kernel
theorem dX2_mean_29 : decode cX2_mean 29 = .ok (.iload_n 1, 1) := by decide +kernel
theorem dX2_mean_30 : decode cX2_mean 30 = .ok (.aload_n 0, 1) := by decide +kernel
theorem dX2_mean_31 : decode cX2_mean 31 = .ok (.getfield 11, 3) := by decide +kernel
theorem dX2_mean_34 : decode cX2_mean 34 = .ok (.iload_n 2, 1) := by decide +kernel
theorem dX2_mean_35 : decode cX2_mean 35 = .ok (.aaload, 1) := by decide +kernel
theorem dX2_mean_36 : decode cX2_mean 36 = .ok (.getfield 55, 3) := by decide +kernel
theorem dX2_mean_39 : decode cX2_mean 39 = .ok (.iload_n 3, 1) := by decide +kernel
theorem dX2_mean_40 : decode cX2_mean 40 = .ok (.iaload, 1) := by decide +kernel
theorem dX2_mean_41 : decode cX2_mean 41 = .ok (.iadd, 1) := by decide +kernel
theorem dX2_mean_42 : decode cX2_mean 42 = .ok (.istore_n 1, 1) := by decide +kernel
theorem dX2_mean_43 : decode cX2_mean 43 = .ok (.iinc 3 1, 3) := by decide +kernel
theorem dX2_mean_46 : decode cX2_mean 46 = .ok (.goto (-23), 3) := by decide +kernel
theorem dX2_mean_49 : decode cX2_mean 49 = .ok (.iinc 2 1, 3) := by decide +kernel
theorem dX2_mean_52 : decode cX2_mean 52 = .ok (.goto (-39), 3) := by decide +kernel
theorem dX2_mean_55 : decode cX2_mean 55 = .ok (.iload_n 1, 1) := by decide +kernel
theorem dX2_mean_56 : decode cX2_mean 56 = .ok (.i2d, 1) := by decide +kernel
theorem dX2_mean_57 : decode cX2_mean 57 = .ok (.bipush 31, 2) := by decide +kernel
theorem dX2_mean_59 : decode cX2_mean 59 = .ok (.aload_n 0, 1) := by decide +kernel
theorem dX2_mean_60 : decode cX2_mean 60 = .ok (.getfield 25, 3) := by decide +kernel
theorem dX2_mean_63 : decode cX2_mean 63 = .ok (.imul, 1) := by decide +kernel
theorem dX2_mean_64 : decode cX2_mean 64 = .ok (.i2d, 1) := by decide +kernel
theorem dX2_mean_65 : decode cX2_mean 65 = .ok (.ddiv, 1) := by decide +kernel
theorem dX2_mean_66 : decode cX2_mean 66 = .ok (.dreturn, 1) := by decide +kernel
theorem dX2_findCupboard_0 : decode cX2_findCupboard 0 = .ok (.iload_n 1, 1) := by decide +kernel
theorem dX2_findCupboard_1 : decode cX2_findCupboard 1 = .ok (.ifCond .lt 11, 3) := by decide +kernel
theorem dX2_findCupboard_4 : decode cX2_findCupboard 4 = .ok (.iload_n 1, 1) := by decide +kernel
theorem dX2_findCupboard_5 : decode cX2_findCupboard 5 = .ok (.aload_n 0, 1) := by decide +kernel
theorem dX2_findCupboard_6 : decode cX2_findCupboard 6 = .ok (.getfield 25, 3) := by decide +kernel
theorem dX2_findCupboard_9 : decode cX2_findCupboard 9 = .ok (.if_icmp .lt 13, 3) := by decide +kernel
theorem dX2_findCupboard_12 : decode cX2_findCupboard 12 = .ok (.new 68, 3) := by decide +kernel
theorem dX2_findCupboard_15 : decode cX2_findCupboard 15 = .ok (.dup, 1) := by decide +kernel
theorem dX2_findCupboard_16 : decode cX2_findCupboard 16 = .ok (.ldc 171, 2) := by decide +kernel
theorem dX2_findCupboard_18 : decode cX2_findCupboard 18 = .ok (.invokespecial 72, 3) := by decide +kernel
theorem dX2_findCupboard_21 : decode cX2_findCupboard 21 = .ok (.athrow, 1) := by decide +kernel
theorem dX2_findCupboard_22 : decode cX2_findCupboard 22 = .ok (.aload_n 0, 1) := by decide +kernel
theorem dX2_findCupboard_23 : decode cX2_findCupboard 23 = .ok (.getfield 11, 3) := by decide +kernel
theorem dX2_findCupboard_26 : decode cX2_findCupboard 26 = .ok (.iload_n 1, 1) := by decide +kernel
theorem dX2_findCupboard_27 : decode cX2_findCupboard 27 = .ok (.aaload, 1) := by decide +kernel
theorem dX2_findCupboard_28 : decode cX2_findCupboard 28 = .ok (.areturn, 1) := by decide +kernel
theorem dX2_findSeal_0 : decode cX2_findSeal 0 = .ok (.iload_n 1, 1) := by decide +kernel
theorem dX2_findSeal_1 : decode cX2_findSeal 1 = .ok (.ifCond .lt 11, 3) := by decide +kernel
theorem dX2_findSeal_4 : decode cX2_findSeal 4 = .ok (.iload_n 1, 1) := by decide +kernel
theorem dX2_findSeal_5 : decode cX2_findSeal 5 = .ok (.aload_n 0, 1) := by decide +kernel
theorem dX2_findSeal_6 : decode cX2_findSeal 6 = .ok (.getfield 97, 3) := by decide +kernel
theorem dX2_findSeal_9 : decode cX2_findSeal 9 = .ok (.if_icmp .lt 13, 3) := by decide +kernel
theorem dX2_findSeal_12 : decode cX2_findSeal 12 = .ok (.new 68, 3) := by decide +kernel
theorem dX2_findSeal_15 : decode cX2_findSeal 15 = .ok (.dup, 1) := by decide +kernel
theorem dX2_findSeal_16 : decode cX2_findSeal 16 = .ok (.ldc 173, 2) := by decide +kernel
theorem dX2_findSeal_18 : decode cX2_findSeal 18 = .ok (.invokespecial 72, 3) := by decide +kernel
theorem dX2_findSeal_21 : decode cX2_findSeal 21 = .ok (.athrow, 1) := by decide +kernel
theorem dX2_findSeal_22 : decode cX2_findSeal 22 = .ok (.aload_n 0, 1) := by decide +kernel
theorem dX2_findSeal_23 : decode cX2_findSeal 23 = .ok (.getfield 17, 3) := by decide +kernel
theorem dX2_findSeal_26 : decode cX2_findSeal 26 = .ok (.iload_n 1, 1) := by decide +kernel
theorem dX2_findSeal_27 : decode cX2_findSeal 27 = .ok (.aaload, 1) := by decide +kernel
theorem dX2_findSeal_28 : decode cX2_findSeal 28 = .ok (.areturn, 1) := by decide +kernel
theorem dX2_sealsOf_0 : decode cX2_sealsOf 0 = .ok (.iconst 0, 1) := by decide +kernel
theorem dX2_sealsOf_1 : decode cX2_sealsOf 1 = .ok (.istore_n 2, 1) := by decide +kernel
theorem dX2_sealsOf_2 : decode cX2_sealsOf 2 = .ok (.iconst 0, 1) := by decide +kernel
theorem dX2_sealsOf_3 : decode cX2_sealsOf 3 = .ok (.istore_n 3, 1) := by decide +kernel
theorem dX2_sealsOf_4 : decode cX2_sealsOf 4 = .ok (.iload_n 3, 1) := by decide +kernel
theorem dX2_sealsOf_5 : decode cX2_sealsOf 5 = .ok (.aload_n 0, 1) := by decide +kernel
theorem dX2_sealsOf_6 : decode cX2_sealsOf 6 = .ok (.getfield 97, 3) := by decide +kernel
theorem dX2_sealsOf_9 : decode cX2_sealsOf 9 = .ok (.if_icmp .ge 25, 3) := by decide +kernel
theorem dX2_sealsOf_12 : decode cX2_sealsOf 12 = .ok (.aload_n 0, 1) := by decide +kernel
theorem dX2_sealsOf_13 : decode cX2_sealsOf 13 = .ok (.getfield 17, 3) := by decide +kernel
theorem dX2_sealsOf_16 : decode cX2_sealsOf 16 = .ok (.iload_n 3, 1) := by decide +kernel
theorem dX2_sealsOf_17 : decode cX2_sealsOf 17 = .ok (.aaload, 1) := by decide +kernel
theorem dX2_sealsOf_18 : decode cX2_sealsOf 18 = .ok (.getfield 109, 3) := by decide +kernel
theorem dX2_sealsOf_21 : decode cX2_sealsOf 21 = .ok (.iload_n 1, 1) := by decide +kernel
theorem dX2_sealsOf_22 : decode cX2_sealsOf 22 = .ok (.if_icmp .ne 6, 3) := by decide +kernel
theorem dX2_sealsOf_25 : decode cX2_sealsOf 25 = .ok (.iinc 2 1, 3) := by decide +kernel
theorem dX2_sealsOf_28 : decode cX2_sealsOf 28 = .ok (.iinc 3 1, 3) := by decide +kernel
theorem dX2_sealsOf_31 : decode cX2_sealsOf 31 = .ok (.goto (-27), 3) := by decide +kernel
theorem dX2_sealsOf_34 : decode cX2_sealsOf 34 = .ok (.iload_n 2, 1) := by decide +kernel
theorem dX2_sealsOf_35 : decode cX2_sealsOf 35 = .ok (.ireturn, 1) := by decide +kernel
theorem dX2_sealsKept_0 : decode cX2_sealsKept 0 = .ok (.iconst 0, 1) := by decide +kernel
theorem dX2_sealsKept_1 : decode cX2_sealsKept 1 = .ok (.istore_n 3, 1) := by decide +kernel
theorem dX2_sealsKept_2 : decode cX2_sealsKept 2 = .ok (.iconst 0, 1) := by decide +kernel
theorem dX2_sealsKept_3 : decode cX2_sealsKept 3 = .ok (.istore 4, 2) := by decide +kernel
theorem dX2_sealsKept_5 : decode cX2_sealsKept 5 = .ok (.iload 4, 2) := by decide +kernel
theorem dX2_sealsKept_7 : decode cX2_sealsKept 7 = .ok (.aload_n 0, 1) := by decide +kernel
theorem dX2_sealsKept_8 : decode cX2_sealsKept 8 = .ok (.getfield 97, 3) := by decide +kernel
theorem dX2_sealsKept_11 : decode cX2_sealsKept 11 = .ok (.if_icmp .ge 40, 3) := by decide +kernel
theorem dX2_sealsKept_14 : decode cX2_sealsKept 14 = .ok (.aload_n 0, 1) := by decide +kernel
theorem dX2_sealsKept_15 : decode cX2_sealsKept 15 = .ok (.getfield 17, 3) := by decide +kernel
theorem dX2_sealsKept_18 : decode cX2_sealsKept 18 = .ok (.iload 4, 2) := by decide +kernel
theorem dX2_sealsKept_20 : decode cX2_sealsKept 20 = .ok (.aaload, 1) := by decide +kernel
theorem dX2_sealsKept_21 : decode cX2_sealsKept 21 = .ok (.getfield 109, 3) := by decide +kernel
theorem dX2_sealsKept_24 : decode cX2_sealsKept 24 = .ok (.iload_n 1, 1) := by decide +kernel
theorem dX2_sealsKept_25 : decode cX2_sealsKept 25 = .ok (.if_icmp .ne 20, 3) := by decide +kernel
theorem dX2_sealsKept_28 : decode cX2_sealsKept 28 = .ok (.aload_n 0, 1) := by decide +kernel
theorem dX2_sealsKept_29 : decode cX2_sealsKept 29 = .ok (.getfield 17, 3) := by decide +kernel
theorem dX2_sealsKept_32 : decode cX2_sealsKept 32 = .ok (.iload 4, 2) := by decide +kernel
theorem dX2_sealsKept_34 : decode cX2_sealsKept 34 = .ok (.aaload, 1) := by decide +kernel
theorem dX2_sealsKept_35 : decode cX2_sealsKept 35 = .ok (.getfield 112, 3) := by decide +kernel
theorem dX2_sealsKept_38 : decode cX2_sealsKept 38 = .ok (.iload_n 2, 1) := by decide +kernel
theorem dX2_sealsKept_39 : decode cX2_sealsKept 39 = .ok (.if_icmp .ne 6, 3) := by decide +kernel
theorem dX2_sealsKept_42 : decode cX2_sealsKept 42 = .ok (.iinc 3 1, 3) := by decide +kernel
theorem dX2_sealsKept_45 : decode cX2_sealsKept 45 = .ok (.iinc 4 1, 3) := by decide +kernel
theorem dX2_sealsKept_48 : decode cX2_sealsKept 48 = .ok (.goto (-43), 3) := by decide +kernel
theorem dX2_sealsKept_51 : decode cX2_sealsKept 51 = .ok (.iload_n 3, 1) := by decide +kernel
theorem dX2_sealsKept_52 : decode cX2_sealsKept 52 = .ok (.ireturn, 1) := by decide +kernel
set_option maxRecDepth 20000 in
theorem ggX2_differentRoots_X2_isRootBefore : GoodIn wsX2_differentRoots wsX2_isRootBefore := goodIn_r _ [6, 7, 8, 9, 10, 11, 12, 13, 14, 15, 16, 17, 18, 19, 20] (by decide +kernel) (by decide +kernel)
set_option maxRecDepth 20000 in
theorem gX2_differentRoots_X2_isRootBefore : GoodIn wsX2_differentRoots (wsV RX2 175 RX2 yX2_isRootBefore wsX2_isRootBefore) := goodIn_app (goodIn_of _ (by decide +kernel)) ggX2_differentRoots_X2_isRootBefore
theorem dX2_differentRoots_0 : decode cX2_differentRoots 0 = .ok (.iconst 0, 1) := by decide +kernel
theorem dX2_differentRoots_1 : decode cX2_differentRoots 1 = .ok (.istore_n 1, 1) := by decide +kernel
theorem dX2_differentRoots_2 : decode cX2_differentRoots 2 = .ok (.iconst 0, 1) := by decide +kernel
theorem dX2_differentRoots_3 : decode cX2_differentRoots 3 = .ok (.istore_n 2, 1) := by decide +kernel
theorem dX2_differentRoots_4 : decode cX2_differentRoots 4 = .ok (.iload_n 2, 1) := by decide +kernel
theorem dX2_differentRoots_5 : decode cX2_differentRoots 5 = .ok (.aload_n 0, 1) := by decide +kernel
theorem dX2_differentRoots_6 : decode cX2_differentRoots 6 = .ok (.getfield 25, 3) := by decide +kernel
theorem dX2_differentRoots_9 : decode cX2_differentRoots 9 = .ok (.if_icmp .ge 20, 3) := by decide +kernel
theorem dX2_differentRoots_12 : decode cX2_differentRoots 12 = .ok (.aload_n 0, 1) := by decide +kernel
theorem dX2_differentRoots_13 : decode cX2_differentRoots 13 = .ok (.iload_n 2, 1) := by decide +kernel
theorem dX2_differentRoots_14 : decode cX2_differentRoots 14 = .ok (.invokevirtual 175, 3) := by decide +kernel
theorem dX2_differentRoots_17 : decode cX2_differentRoots 17 = .ok (.ifCond .ne 6, 3) := by decide +kernel
theorem dX2_differentRoots_20 : decode cX2_differentRoots 20 = .ok (.iinc 1 1, 3) := by decide +kernel
theorem dX2_differentRoots_23 : decode cX2_differentRoots 23 = .ok (.iinc 2 1, 3) := by decide +kernel
theorem dX2_differentRoots_26 : decode cX2_differentRoots 26 = .ok (.goto (-22), 3) := by decide +kernel
theorem dX2_differentRoots_29 : decode cX2_differentRoots 29 = .ok (.iload_n 1, 1) := by decide +kernel
theorem dX2_differentRoots_30 : decode cX2_differentRoots 30 = .ok (.ireturn, 1) := by decide +kernel
set_option maxRecDepth 20000 in
theorem ggX2_isRootBefore_X0_root : GoodIn wsX2_isRootBefore wsX0_root := goodIn_r _ [5, 6, 12, 13, 14] (by decide +kernel) (by decide +kernel)
set_option maxRecDepth 20000 in
theorem gX2_isRootBefore_X0_root_n76 : GoodIn wsX2_isRootBefore (wsX0_root) := ggX2_isRootBefore_X0_root
theorem dX2_isRootBefore_0 : decode cX2_isRootBefore 0 = .ok (.iconst 0, 1) := by decide +kernel
theorem dX2_isRootBefore_1 : decode cX2_isRootBefore 1 = .ok (.istore_n 2, 1) := by decide +kernel
theorem dX2_isRootBefore_2 : decode cX2_isRootBefore 2 = .ok (.iload_n 2, 1) := by decide +kernel
theorem dX2_isRootBefore_3 : decode cX2_isRootBefore 3 = .ok (.iload_n 1, 1) := by decide +kernel
theorem dX2_isRootBefore_4 : decode cX2_isRootBefore 4 = .ok (.if_icmp .ge 32, 3) := by decide +kernel
theorem dX2_isRootBefore_7 : decode cX2_isRootBefore 7 = .ok (.aload_n 0, 1) := by decide +kernel
theorem dX2_isRootBefore_8 : decode cX2_isRootBefore 8 = .ok (.getfield 11, 3) := by decide +kernel
theorem dX2_isRootBefore_11 : decode cX2_isRootBefore 11 = .ok (.iload_n 2, 1) := by decide +kernel
theorem dX2_isRootBefore_12 : decode cX2_isRootBefore 12 = .ok (.aaload, 1) := by decide +kernel
theorem dX2_isRootBefore_13 : decode cX2_isRootBefore 13 = .ok (.invokevirtual 76, 3) := by decide +kernel
theorem dX2_isRootBefore_16 : decode cX2_isRootBefore 16 = .ok (.aload_n 0, 1) := by decide +kernel
theorem dX2_isRootBefore_17 : decode cX2_isRootBefore 17 = .ok (.getfield 11, 3) := by decide +kernel
theorem dX2_isRootBefore_20 : decode cX2_isRootBefore 20 = .ok (.iload_n 1, 1) := by decide +kernel
theorem dX2_isRootBefore_21 : decode cX2_isRootBefore 21 = .ok (.aaload, 1) := by decide +kernel
theorem dX2_isRootBefore_22 : decode cX2_isRootBefore 22 = .ok (.invokevirtual 76, 3) := by decide +kernel
theorem dX2_isRootBefore_25 : decode cX2_isRootBefore 25 = .ok (.if_icmp .ne 5, 3) := by decide +kernel
theorem dX2_isRootBefore_28 : decode cX2_isRootBefore 28 = .ok (.iconst 1, 1) := by decide +kernel
theorem dX2_isRootBefore_29 : decode cX2_isRootBefore 29 = .ok (.ireturn, 1) := by decide +kernel
theorem dX2_isRootBefore_30 : decode cX2_isRootBefore 30 = .ok (.iinc 2 1, 3) := by decide +kernel
theorem dX2_isRootBefore_33 : decode cX2_isRootBefore 33 = .ok (.goto (-31), 3) := by decide +kernel
theorem dX2_isRootBefore_36 : decode cX2_isRootBefore 36 = .ok (.iconst 0, 1) := by decide +kernel
theorem dX2_isRootBefore_37 : decode cX2_isRootBefore 37 = .ok (.ireturn, 1) := by decide +kernel
theorem dX2_changesAdded_0 : decode cX2_changesAdded 0 = .ok (.iconst 0, 1) := by decide +kernel
theorem dX2_changesAdded_1 : decode cX2_changesAdded 1 = .ok (.istore_n 1, 1) := by decide +kernel
theorem dX2_changesAdded_2 : decode cX2_changesAdded 2 = .ok (.iconst 0, 1) := by decide +kernel
theorem dX2_changesAdded_3 : decode cX2_changesAdded 3 = .ok (.istore_n 2, 1) := by decide +kernel
theorem dX2_changesAdded_4 : decode cX2_changesAdded 4 = .ok (.iload_n 2, 1) := by decide +kernel
theorem dX2_changesAdded_5 : decode cX2_changesAdded 5 = .ok (.aload_n 0, 1) := by decide +kernel
theorem dX2_changesAdded_6 : decode cX2_changesAdded 6 = .ok (.getfield 25, 3) := by decide +kernel
theorem dX2_changesAdded_9 : decode cX2_changesAdded 9 = .ok (.if_icmp .ge 21, 3) := by decide +kernel
theorem dX2_changesAdded_12 : decode cX2_changesAdded 12 = .ok (.iload_n 1, 1) := by decide +kernel
theorem dX2_changesAdded_13 : decode cX2_changesAdded 13 = .ok (.aload_n 0, 1) := by decide +kernel
theorem dX2_changesAdded_14 : decode cX2_changesAdded 14 = .ok (.getfield 11, 3) := by decide +kernel
theorem dX2_changesAdded_17 : decode cX2_changesAdded 17 = .ok (.iload_n 2, 1) := by decide +kernel
theorem dX2_changesAdded_18 : decode cX2_changesAdded 18 = .ok (.aaload, 1) := by decide +kernel
theorem dX2_changesAdded_19 : decode cX2_changesAdded 19 = .ok (.getfield 80, 3) := by decide +kernel
theorem dX2_changesAdded_22 : decode cX2_changesAdded 22 = .ok (.iadd, 1) := by decide +kernel
theorem dX2_changesAdded_23 : decode cX2_changesAdded 23 = .ok (.istore_n 1, 1) := by decide +kernel
theorem dX2_changesAdded_24 : decode cX2_changesAdded 24 = .ok (.iinc 2 1, 3) := by decide +kernel
theorem dX2_changesAdded_27 : decode cX2_changesAdded 27 = .ok (.goto (-23), 3) := by decide +kernel
theorem dX2_changesAdded_30 : decode cX2_changesAdded 30 = .ok (.iload_n 1, 1) := by decide +kernel
theorem dX2_changesAdded_31 : decode cX2_changesAdded 31 = .ok (.ireturn, 1) := by decide +kernel
set_option maxRecDepth 20000 in
theorem ggX2_rootWithSwap_X2_sumUp : GoodIn wsX2_rootWithSwap wsX2_sumUp := goodIn_r _ [5, 6, 7, 4, 8, 9, 10, 11] (by decide +kernel) (by decide +kernel)
set_option maxRecDepth 20000 in
theorem gX2_rootWithSwap_X2_sumUp : GoodIn wsX2_rootWithSwap (va_wsS RX2 179 yX2_sumUp wsX2_sumUp) := goodIn_app (goodIn_of _ (by decide +kernel)) ggX2_rootWithSwap_X2_sumUp
theorem dX2_rootWithSwap_0 : decode cX2_rootWithSwap 0 = .ok (.aload_n 0, 1) := by decide +kernel
theorem dX2_rootWithSwap_1 : decode cX2_rootWithSwap 1 = .ok (.getfield 21, 3) := by decide +kernel
theorem dX2_rootWithSwap_4 : decode cX2_rootWithSwap 4 = .ok (.iload_n 2, 1) := by decide +kernel
theorem dX2_rootWithSwap_5 : decode cX2_rootWithSwap 5 = .ok (.aload_n 1, 1) := by decide +kernel
theorem dX2_rootWithSwap_6 : decode cX2_rootWithSwap 6 = .ok (.iload_n 3, 1) := by decide +kernel
theorem dX2_rootWithSwap_7 : decode cX2_rootWithSwap 7 = .ok (.iaload, 1) := by decide +kernel
theorem dX2_rootWithSwap_8 : decode cX2_rootWithSwap 8 = .ok (.invokestatic 179, 3) := by decide +kernel
theorem dX2_rootWithSwap_11 : decode cX2_rootWithSwap 11 = .ok (.aload_n 0, 1) := by decide +kernel
theorem dX2_rootWithSwap_12 : decode cX2_rootWithSwap 12 = .ok (.getfield 21, 3) := by decide +kernel
theorem dX2_rootWithSwap_15 : decode cX2_rootWithSwap 15 = .ok (.iload_n 3, 1) := by decide +kernel
theorem dX2_rootWithSwap_16 : decode cX2_rootWithSwap 16 = .ok (.aload_n 1, 1) := by decide +kernel
theorem dX2_rootWithSwap_17 : decode cX2_rootWithSwap 17 = .ok (.iload_n 2, 1) := by decide +kernel
theorem dX2_rootWithSwap_18 : decode cX2_rootWithSwap 18 = .ok (.iaload, 1) := by decide +kernel
theorem dX2_rootWithSwap_19 : decode cX2_rootWithSwap 19 = .ok (.invokestatic 179, 3) := by decide +kernel
theorem dX2_rootWithSwap_22 : decode cX2_rootWithSwap 22 = .ok (.aload_n 0, 1) := by decide +kernel
theorem dX2_rootWithSwap_23 : decode cX2_rootWithSwap 23 = .ok (.getfield 21, 3) := by decide +kernel
theorem dX2_rootWithSwap_26 : decode cX2_rootWithSwap 26 = .ok (.iconst 1, 1) := by decide +kernel
theorem dX2_rootWithSwap_27 : decode cX2_rootWithSwap 27 = .ok (.iaload, 1) := by decide +kernel
theorem dX2_rootWithSwap_28 : decode cX2_rootWithSwap 28 = .ok (.istore 4, 2) := by decide +kernel
theorem dX2_rootWithSwap_30 : decode cX2_rootWithSwap 30 = .ok (.aload_n 0, 1) := by decide +kernel
theorem dX2_rootWithSwap_31 : decode cX2_rootWithSwap 31 = .ok (.getfield 21, 3) := by decide +kernel
theorem dX2_rootWithSwap_34 : decode cX2_rootWithSwap 34 = .ok (.iload_n 2, 1) := by decide +kernel
theorem dX2_rootWithSwap_35 : decode cX2_rootWithSwap 35 = .ok (.aload_n 1, 1) := by decide +kernel
theorem dX2_rootWithSwap_36 : decode cX2_rootWithSwap 36 = .ok (.iload_n 2, 1) := by decide +kernel
theorem dX2_rootWithSwap_37 : decode cX2_rootWithSwap 37 = .ok (.iaload, 1) := by decide +kernel
theorem dX2_rootWithSwap_38 : decode cX2_rootWithSwap 38 = .ok (.invokestatic 179, 3) := by decide +kernel
theorem dX2_rootWithSwap_41 : decode cX2_rootWithSwap 41 = .ok (.aload_n 0, 1) := by decide +kernel
theorem dX2_rootWithSwap_42 : decode cX2_rootWithSwap 42 = .ok (.getfield 21, 3) := by decide +kernel
theorem dX2_rootWithSwap_45 : decode cX2_rootWithSwap 45 = .ok (.iload_n 3, 1) := by decide +kernel
theorem dX2_rootWithSwap_46 : decode cX2_rootWithSwap 46 = .ok (.aload_n 1, 1) := by decide +kernel
theorem dX2_rootWithSwap_47 : decode cX2_rootWithSwap 47 = .ok (.iload_n 3, 1) := by decide +kernel
theorem dX2_rootWithSwap_48 : decode cX2_rootWithSwap 48 = .ok (.iaload, 1) := by decide +kernel
theorem dX2_rootWithSwap_49 : decode cX2_rootWithSwap 49 = .ok (.invokestatic 179, 3) := by decide +kernel
theorem dX2_rootWithSwap_52 : decode cX2_rootWithSwap 52 = .ok (.iload 4, 2) := by decide +kernel
theorem dX2_rootWithSwap_54 : decode cX2_rootWithSwap 54 = .ok (.ireturn, 1) := by decide +kernel
theorem dX2_sumOfThing_0 : decode cX2_sumOfThing 0 = .ok (.bipush 37, 2) := by decide +kernel
theorem dX2_sumOfThing_2 : decode cX2_sumOfThing 2 = .ok (.iload_n 1, 1) := by decide +kernel
theorem dX2_sumOfThing_3 : decode cX2_sumOfThing 3 = .ok (.imul, 1) := by decide +kernel
theorem dX2_sumOfThing_4 : decode cX2_sumOfThing 4 = .ok (.bipush 101, 2) := by decide +kernel
theorem dX2_sumOfThing_6 : decode cX2_sumOfThing 6 = .ok (.iload_n 0, 1) := by decide +kernel
theorem dX2_sumOfThing_7 : decode cX2_sumOfThing 7 = .ok (.iconst 1, 1) := by decide +kernel
theorem dX2_sumOfThing_8 : decode cX2_sumOfThing 8 = .ok (.iadd, 1) := by decide +kernel
theorem dX2_sumOfThing_9 : decode cX2_sumOfThing 9 = .ok (.imul, 1) := by decide +kernel
theorem dX2_sumOfThing_10 : decode cX2_sumOfThing 10 = .ok (.iadd, 1) := by decide +kernel
theorem dX2_sumOfThing_11 : decode cX2_sumOfThing 11 = .ok (.sipush 997, 3) := by decide +kernel
theorem dX2_sumOfThing_14 : decode cX2_sumOfThing 14 = .ok (.irem, 1) := by decide +kernel
theorem dX2_sumOfThing_15 : decode cX2_sumOfThing 15 = .ok (.ireturn, 1) := by decide +kernel
theorem dX2_sumOfSums_0 : decode cX2_sumOfSums 0 = .ok (.bipush 61, 2) := by decide +kernel
theorem dX2_sumOfSums_2 : decode cX2_sumOfSums 2 = .ok (.iload_n 0, 1) := by decide +kernel
theorem dX2_sumOfSums_3 : decode cX2_sumOfSums 3 = .ok (.imul, 1) := by decide +kernel
theorem dX2_sumOfSums_4 : decode cX2_sumOfSums 4 = .ok (.bipush 89, 2) := by decide +kernel
theorem dX2_sumOfSums_6 : decode cX2_sumOfSums 6 = .ok (.iload_n 1, 1) := by decide +kernel
theorem dX2_sumOfSums_7 : decode cX2_sumOfSums 7 = .ok (.imul, 1) := by decide +kernel
theorem dX2_sumOfSums_8 : decode cX2_sumOfSums 8 = .ok (.iadd, 1) := by decide +kernel
theorem dX2_sumOfSums_9 : decode cX2_sumOfSums 9 = .ok (.iload_n 2, 1) := by decide +kernel
theorem dX2_sumOfSums_10 : decode cX2_sumOfSums 10 = .ok (.iadd, 1) := by decide +kernel
theorem dX2_sumOfSums_11 : decode cX2_sumOfSums 11 = .ok (.sipush 997, 3) := by decide +kernel
theorem dX2_sumOfSums_14 : decode cX2_sumOfSums 14 = .ok (.irem, 1) := by decide +kernel
theorem dX2_sumOfSums_15 : decode cX2_sumOfSums 15 = .ok (.ireturn, 1) := by decide +kernel
set_option maxRecDepth 20000 in
theorem ggX2_sumAbove_X2_sumOfSums : GoodIn wsX2_sumAbove wsX2_sumOfSums := goodIn_r _ [4] (by decide +kernel) (by decide +kernel)
set_option maxRecDepth 20000 in
theorem gX2_sumAbove_X2_sumOfSums : GoodIn wsX2_sumAbove (va_wsS RX2 183 yX2_sumOfSums wsX2_sumOfSums) := goodIn_app (goodIn_of _ (by decide +kernel)) ggX2_sumAbove_X2_sumOfSums
theorem dX2_sumAbove_0 : decode cX2_sumAbove 0 = .ok (.iload_n 0, 1) := by decide +kernel
theorem dX2_sumAbove_1 : decode cX2_sumAbove 1 = .ok (.iconst 2, 1) := by decide +kernel
theorem dX2_sumAbove_2 : decode cX2_sumAbove 2 = .ok (.irem, 1) := by decide +kernel
theorem dX2_sumAbove_3 : decode cX2_sumAbove 3 = .ok (.ifCond .ne 7, 3) := by decide +kernel
theorem dX2_sumAbove_6 : decode cX2_sumAbove 6 = .ok (.iconst 1, 1) := by decide +kernel
theorem dX2_sumAbove_7 : decode cX2_sumAbove 7 = .ok (.goto 4, 3) := by decide +kernel
theorem dX2_sumAbove_10 : decode cX2_sumAbove 10 = .ok (.iconst 0, 1) := by decide +kernel
theorem dX2_sumAbove_11 : decode cX2_sumAbove 11 = .ok (.istore_n 3, 1) := by decide +kernel
theorem dX2_sumAbove_12 : decode cX2_sumAbove 12 = .ok (.iload_n 3, 1) := by decide +kernel
theorem dX2_sumAbove_13 : decode cX2_sumAbove 13 = .ok (.ifCond .eq 14, 3) := by decide +kernel
theorem dX2_sumAbove_16 : decode cX2_sumAbove 16 = .ok (.iload_n 1, 1) := by decide +kernel
theorem dX2_sumAbove_17 : decode cX2_sumAbove 17 = .ok (.iload_n 2, 1) := by decide +kernel
theorem dX2_sumAbove_18 : decode cX2_sumAbove 18 = .ok (.iload_n 0, 1) := by decide +kernel
theorem dX2_sumAbove_19 : decode cX2_sumAbove 19 = .ok (.iconst 2, 1) := by decide +kernel
theorem dX2_sumAbove_20 : decode cX2_sumAbove 20 = .ok (.idiv, 1) := by decide +kernel
theorem dX2_sumAbove_21 : decode cX2_sumAbove 21 = .ok (.invokestatic 183, 3) := by decide +kernel
theorem dX2_sumAbove_24 : decode cX2_sumAbove 24 = .ok (.goto 11, 3) := by decide +kernel
theorem dX2_sumAbove_27 : decode cX2_sumAbove 27 = .ok (.iload_n 2, 1) := by decide +kernel
theorem dX2_sumAbove_28 : decode cX2_sumAbove 28 = .ok (.iload_n 1, 1) := by decide +kernel
theorem dX2_sumAbove_29 : decode cX2_sumAbove 29 = .ok (.iload_n 0, 1) := by decide +kernel
theorem dX2_sumAbove_30 : decode cX2_sumAbove 30 = .ok (.iconst 2, 1) := by decide +kernel
theorem dX2_sumAbove_31 : decode cX2_sumAbove 31 = .ok (.idiv, 1) := by decide +kernel
theorem dX2_sumAbove_32 : decode cX2_sumAbove 32 = .ok (.invokestatic 183, 3) := by decide +kernel
theorem dX2_sumAbove_35 : decode cX2_sumAbove 35 = .ok (.ireturn, 1) := by decide +kernel
set_option maxRecDepth 20000 in
theorem ggX2_sumUp_X2_sumOfThing : GoodIn wsX2_sumUp wsX2_sumOfThing := goodIn_r _ [4] (by decide +kernel) (by decide +kernel)
set_option maxRecDepth 20000 in
theorem gX2_sumUp_X2_sumOfThing : GoodIn wsX2_sumUp (va_wsS RX2 123 yX2_sumOfThing wsX2_sumOfThing) := goodIn_app (goodIn_of _ (by decide +kernel)) ggX2_sumUp_X2_sumOfThing
set_option maxRecDepth 20000 in
theorem ggX2_sumUp_X2_sumOfSums : GoodIn wsX2_sumUp wsX2_sumOfSums := goodIn_r _ [7] (by decide +kernel) (by decide +kernel)
set_option maxRecDepth 20000 in
theorem gX2_sumUp_X2_sumOfSums : GoodIn wsX2_sumUp (va_wsS RX2 183 yX2_sumOfSums wsX2_sumOfSums) := goodIn_app (goodIn_of _ (by decide +kernel)) ggX2_sumUp_X2_sumOfSums
theorem dX2_sumUp_0 : decode cX2_sumUp 0 = .ok (.aload_n 0, 1) := by decide +kernel
theorem dX2_sumUp_1 : decode cX2_sumUp 1 = .ok (.bipush 16, 2) := by decide +kernel
theorem dX2_sumUp_3 : decode cX2_sumUp 3 = .ok (.iload_n 1, 1) := by decide +kernel
theorem dX2_sumUp_4 : decode cX2_sumUp 4 = .ok (.iadd, 1) := by decide +kernel
theorem dX2_sumUp_5 : decode cX2_sumUp 5 = .ok (.iload_n 1, 1) := by decide +kernel
theorem dX2_sumUp_6 : decode cX2_sumUp 6 = .ok (.iload_n 2, 1) := by decide +kernel
theorem dX2_sumUp_7 : decode cX2_sumUp 7 = .ok (.invokestatic 123, 3) := by decide +kernel
theorem dX2_sumUp_10 : decode cX2_sumUp 10 = .ok (.iastore, 1) := by decide +kernel
theorem dX2_sumUp_11 : decode cX2_sumUp 11 = .ok (.bipush 16, 2) := by decide +kernel
theorem dX2_sumUp_13 : decode cX2_sumUp 13 = .ok (.iload_n 1, 1) := by decide +kernel
theorem dX2_sumUp_14 : decode cX2_sumUp 14 = .ok (.iadd, 1) := by decide +kernel
theorem dX2_sumUp_15 : decode cX2_sumUp 15 = .ok (.iconst 2, 1) := by decide +kernel
theorem dX2_sumUp_16 : decode cX2_sumUp 16 = .ok (.idiv, 1) := by decide +kernel
theorem dX2_sumUp_17 : decode cX2_sumUp 17 = .ok (.istore_n 3, 1) := by decide +kernel
theorem dX2_sumUp_18 : decode cX2_sumUp 18 = .ok (.iload_n 3, 1) := by decide +kernel
theorem dX2_sumUp_19 : decode cX2_sumUp 19 = .ok (.iconst 1, 1) := by decide +kernel
theorem dX2_sumUp_20 : decode cX2_sumUp 20 = .ok (.if_icmp .lt 29, 3) := by decide +kernel
theorem dX2_sumUp_23 : decode cX2_sumUp 23 = .ok (.aload_n 0, 1) := by decide +kernel
theorem dX2_sumUp_24 : decode cX2_sumUp 24 = .ok (.iload_n 3, 1) := by decide +kernel
theorem dX2_sumUp_25 : decode cX2_sumUp 25 = .ok (.aload_n 0, 1) := by decide +kernel
theorem dX2_sumUp_26 : decode cX2_sumUp 26 = .ok (.iconst 2, 1) := by decide +kernel
theorem dX2_sumUp_27 : decode cX2_sumUp 27 = .ok (.iload_n 3, 1) := by decide +kernel
theorem dX2_sumUp_28 : decode cX2_sumUp 28 = .ok (.imul, 1) := by decide +kernel
theorem dX2_sumUp_29 : decode cX2_sumUp 29 = .ok (.iaload, 1) := by decide +kernel
theorem dX2_sumUp_30 : decode cX2_sumUp 30 = .ok (.aload_n 0, 1) := by decide +kernel
theorem dX2_sumUp_31 : decode cX2_sumUp 31 = .ok (.iconst 2, 1) := by decide +kernel
theorem dX2_sumUp_32 : decode cX2_sumUp 32 = .ok (.iload_n 3, 1) := by decide +kernel
theorem dX2_sumUp_33 : decode cX2_sumUp 33 = .ok (.imul, 1) := by decide +kernel
theorem dX2_sumUp_34 : decode cX2_sumUp 34 = .ok (.iconst 1, 1) := by decide +kernel
theorem dX2_sumUp_35 : decode cX2_sumUp 35 = .ok (.iadd, 1) := by decide +kernel
theorem dX2_sumUp_36 : decode cX2_sumUp 36 = .ok (.iaload, 1) := by decide +kernel
theorem dX2_sumUp_37 : decode cX2_sumUp 37 = .ok (.iload_n 3, 1) := by decide +kernel
theorem dX2_sumUp_38 : decode cX2_sumUp 38 = .ok (.invokestatic 183, 3) := by decide +kernel
theorem dX2_sumUp_41 : decode cX2_sumUp 41 = .ok (.iastore, 1) := by decide +kernel
theorem dX2_sumUp_42 : decode cX2_sumUp 42 = .ok (.iload_n 3, 1) := by decide +kernel
theorem dX2_sumUp_43 : decode cX2_sumUp 43 = .ok (.iconst 2, 1) := by decide +kernel
theorem dX2_sumUp_44 : decode cX2_sumUp 44 = .ok (.idiv, 1) := by decide +kernel
theorem dX2_sumUp_45 : decode cX2_sumUp 45 = .ok (.istore_n 3, 1) := by decide +kernel
theorem dX2_sumUp_46 : decode cX2_sumUp 46 = .ok (.goto (-28), 3) := by decide +kernel
theorem dX2_sumUp_49 : decode cX2_sumUp 49 = .ok (.return_, 1) := by decide +kernel
theorem dX2_placesApart_0 : decode cX2_placesApart 0 = .ok (.iconst 0, 1) := by decide +kernel
theorem dX2_placesApart_1 : decode cX2_placesApart 1 = .ok (.istore_n 2, 1) := by decide +kernel
theorem dX2_placesApart_2 : decode cX2_placesApart 2 = .ok (.iconst 1, 1) := by decide +kernel
theorem dX2_placesApart_3 : decode cX2_placesApart 3 = .ok (.istore_n 3, 1) := by decide +kernel
theorem dX2_placesApart_4 : decode cX2_placesApart 4 = .ok (.iload_n 3, 1) := by decide +kernel
theorem dX2_placesApart_5 : decode cX2_placesApart 5 = .ok (.bipush 31, 2) := by decide +kernel
theorem dX2_placesApart_7 : decode cX2_placesApart 7 = .ok (.if_icmp .gt 21, 3) := by decide +kernel
theorem dX2_placesApart_10 : decode cX2_placesApart 10 = .ok (.aload_n 0, 1) := by decide +kernel
theorem dX2_placesApart_11 : decode cX2_placesApart 11 = .ok (.iload_n 3, 1) := by decide +kernel
theorem dX2_placesApart_12 : decode cX2_placesApart 12 = .ok (.iaload, 1) := by decide +kernel
theorem dX2_placesApart_13 : decode cX2_placesApart 13 = .ok (.aload_n 1, 1) := by decide +kernel
theorem dX2_placesApart_14 : decode cX2_placesApart 14 = .ok (.iload_n 3, 1) := by decide +kernel
theorem dX2_placesApart_15 : decode cX2_placesApart 15 = .ok (.iaload, 1) := by decide +kernel
theorem dX2_placesApart_16 : decode cX2_placesApart 16 = .ok (.if_icmp .eq 6, 3) := by decide +kernel
theorem dX2_placesApart_19 : decode cX2_placesApart 19 = .ok (.iinc 2 1, 3) := by decide +kernel
theorem dX2_placesApart_22 : decode cX2_placesApart 22 = .ok (.iinc 3 1, 3) := by decide +kernel
theorem dX2_placesApart_25 : decode cX2_placesApart 25 = .ok (.goto (-21), 3) := by decide +kernel
theorem dX2_placesApart_28 : decode cX2_placesApart 28 = .ok (.iload_n 2, 1) := by decide +kernel
theorem dX2_placesApart_29 : decode cX2_placesApart 29 = .ok (.ireturn, 1) := by decide +kernel
set_option maxRecDepth 20000 in
theorem ggX2_placesLookedAt_X2_hasBit : GoodIn wsX2_placesLookedAt wsX2_hasBit := goodIn_r _ [4] (by decide +kernel) (by decide +kernel)
set_option maxRecDepth 20000 in
theorem gX2_placesLookedAt_X2_hasBit : GoodIn wsX2_placesLookedAt (va_wsS RX2 141 yX2_hasBit wsX2_hasBit) := goodIn_app (goodIn_of _ (by decide +kernel)) ggX2_placesLookedAt_X2_hasBit
theorem dX2_placesLookedAt_0 : decode cX2_placesLookedAt 0 = .ok (.iconst 2, 1) := by decide +kernel
theorem dX2_placesLookedAt_1 : decode cX2_placesLookedAt 1 = .ok (.istore_n 2, 1) := by decide +kernel
theorem dX2_placesLookedAt_2 : decode cX2_placesLookedAt 2 = .ok (.iconst 1, 1) := by decide +kernel
theorem dX2_placesLookedAt_3 : decode cX2_placesLookedAt 3 = .ok (.istore_n 3, 1) := by decide +kernel
theorem dX2_placesLookedAt_4 : decode cX2_placesLookedAt 4 = .ok (.iload_n 3, 1) := by decide +kernel
theorem dX2_placesLookedAt_5 : decode cX2_placesLookedAt 5 = .ok (.bipush 16, 2) := by decide +kernel
theorem dX2_placesLookedAt_7 : decode cX2_placesLookedAt 7 = .ok (.if_icmp .ge 34, 3) := by decide +kernel
theorem dX2_placesLookedAt_10 : decode cX2_placesLookedAt 10 = .ok (.iload_n 2, 1) := by decide +kernel
theorem dX2_placesLookedAt_11 : decode cX2_placesLookedAt 11 = .ok (.iload_n 3, 1) := by decide +kernel
theorem dX2_placesLookedAt_12 : decode cX2_placesLookedAt 12 = .ok (.invokestatic 141, 3) := by decide +kernel
theorem dX2_placesLookedAt_15 : decode cX2_placesLookedAt 15 = .ok (.ifCond .eq 20, 3) := by decide +kernel
theorem dX2_placesLookedAt_18 : decode cX2_placesLookedAt 18 = .ok (.aload_n 0, 1) := by decide +kernel
theorem dX2_placesLookedAt_19 : decode cX2_placesLookedAt 19 = .ok (.iload_n 3, 1) := by decide +kernel
theorem dX2_placesLookedAt_20 : decode cX2_placesLookedAt 20 = .ok (.iaload, 1) := by decide +kernel
theorem dX2_placesLookedAt_21 : decode cX2_placesLookedAt 21 = .ok (.aload_n 1, 1) := by decide +kernel
theorem dX2_placesLookedAt_22 : decode cX2_placesLookedAt 22 = .ok (.iload_n 3, 1) := by decide +kernel
theorem dX2_placesLookedAt_23 : decode cX2_placesLookedAt 23 = .ok (.iaload, 1) := by decide +kernel
theorem dX2_placesLookedAt_24 : decode cX2_placesLookedAt 24 = .ok (.if_icmp .eq 11, 3) := by decide +kernel
theorem dX2_placesLookedAt_27 : decode cX2_placesLookedAt 27 = .ok (.iload_n 2, 1) := by decide +kernel
theorem dX2_placesLookedAt_28 : decode cX2_placesLookedAt 28 = .ok (.iconst 3, 1) := by decide +kernel
theorem dX2_placesLookedAt_29 : decode cX2_placesLookedAt 29 = .ok (.iconst 2, 1) := by decide +kernel
theorem dX2_placesLookedAt_30 : decode cX2_placesLookedAt 30 = .ok (.iload_n 3, 1) := by decide +kernel
theorem dX2_placesLookedAt_31 : decode cX2_placesLookedAt 31 = .ok (.imul, 1) := by decide +kernel
theorem dX2_placesLookedAt_32 : decode cX2_placesLookedAt 32 = .ok (.ishl, 1) := by decide +kernel
theorem dX2_placesLookedAt_33 : decode cX2_placesLookedAt 33 = .ok (.ior, 1) := by decide +kernel
theorem dX2_placesLookedAt_34 : decode cX2_placesLookedAt 34 = .ok (.istore_n 2, 1) := by decide +kernel
theorem dX2_placesLookedAt_35 : decode cX2_placesLookedAt 35 = .ok (.iinc 3 1, 3) := by decide +kernel
theorem dX2_placesLookedAt_38 : decode cX2_placesLookedAt 38 = .ok (.goto (-34), 3) := by decide +kernel
theorem dX2_placesLookedAt_41 : decode cX2_placesLookedAt 41 = .ok (.iload_n 2, 1) := by decide +kernel
theorem dX2_placesLookedAt_42 : decode cX2_placesLookedAt 42 = .ok (.ireturn, 1) := by decide +kernel
set_option maxRecDepth 20000 in
theorem ggX2_drawersApart_X2_placesLookedAt : GoodIn wsX2_drawersApart wsX2_placesLookedAt := goodIn_r _ [4, 5, 6, 3, 7] (by decide +kernel) (by decide +kernel)
set_option maxRecDepth 20000 in
theorem gX2_drawersApart_X2_placesLookedAt : GoodIn wsX2_drawersApart (va_wsS RX2 133 yX2_placesLookedAt wsX2_placesLookedAt) := goodIn_app (goodIn_of _ (by decide +kernel)) ggX2_drawersApart_X2_placesLookedAt
set_option maxRecDepth 20000 in
theorem ggX2_drawersApart_X2_hasBit : GoodIn wsX2_drawersApart wsX2_hasBit := goodIn_r _ [7] (by decide +kernel) (by decide +kernel)
set_option maxRecDepth 20000 in
theorem gX2_drawersApart_X2_hasBit : GoodIn wsX2_drawersApart (va_wsS RX2 141 yX2_hasBit wsX2_hasBit) := goodIn_app (goodIn_of _ (by decide +kernel)) ggX2_drawersApart_X2_hasBit
theorem dX2_drawersApart_0 : decode cX2_drawersApart 0 = .ok (.aload_n 0, 1) := by decide +kernel
theorem dX2_drawersApart_1 : decode cX2_drawersApart 1 = .ok (.aload_n 1, 1) := by decide +kernel
theorem dX2_drawersApart_2 : decode cX2_drawersApart 2 = .ok (.invokestatic 133, 3) := by decide +kernel
theorem dX2_drawersApart_5 : decode cX2_drawersApart 5 = .ok (.istore_n 2, 1) := by decide +kernel
theorem dX2_drawersApart_6 : decode cX2_drawersApart 6 = .ok (.iconst 0, 1) := by decide +kernel
theorem dX2_drawersApart_7 : decode cX2_drawersApart 7 = .ok (.istore_n 3, 1) := by decide +kernel
theorem dX2_drawersApart_8 : decode cX2_drawersApart 8 = .ok (.iconst 0, 1) := by decide +kernel
theorem dX2_drawersApart_9 : decode cX2_drawersApart 9 = .ok (.istore 4, 2) := by decide +kernel
theorem dX2_drawersApart_11 : decode cX2_drawersApart 11 = .ok (.iload 4, 2) := by decide +kernel
theorem dX2_drawersApart_13 : decode cX2_drawersApart 13 = .ok (.bipush 16, 2) := by decide +kernel
theorem dX2_drawersApart_15 : decode cX2_drawersApart 15 = .ok (.if_icmp .ge 43, 3) := by decide +kernel
theorem dX2_drawersApart_18 : decode cX2_drawersApart 18 = .ok (.bipush 16, 2) := by decide +kernel
theorem dX2_drawersApart_20 : decode cX2_drawersApart 20 = .ok (.iload 4, 2) := by decide +kernel
theorem dX2_drawersApart_22 : decode cX2_drawersApart 22 = .ok (.iadd, 1) := by decide +kernel
theorem dX2_drawersApart_23 : decode cX2_drawersApart 23 = .ok (.istore 5, 2) := by decide +kernel
theorem dX2_drawersApart_25 : decode cX2_drawersApart 25 = .ok (.iload_n 2, 1) := by decide +kernel
theorem dX2_drawersApart_26 : decode cX2_drawersApart 26 = .ok (.iload 5, 2) := by decide +kernel
theorem dX2_drawersApart_28 : decode cX2_drawersApart 28 = .ok (.invokestatic 141, 3) := by decide +kernel
theorem dX2_drawersApart_31 : decode cX2_drawersApart 31 = .ok (.ifCond .eq 21, 3) := by decide +kernel
theorem dX2_drawersApart_34 : decode cX2_drawersApart 34 = .ok (.aload_n 0, 1) := by decide +kernel
theorem dX2_drawersApart_35 : decode cX2_drawersApart 35 = .ok (.iload 5, 2) := by decide +kernel
theorem dX2_drawersApart_37 : decode cX2_drawersApart 37 = .ok (.iaload, 1) := by decide +kernel
theorem dX2_drawersApart_38 : decode cX2_drawersApart 38 = .ok (.aload_n 1, 1) := by decide +kernel
theorem dX2_drawersApart_39 : decode cX2_drawersApart 39 = .ok (.iload 5, 2) := by decide +kernel
theorem dX2_drawersApart_41 : decode cX2_drawersApart 41 = .ok (.iaload, 1) := by decide +kernel
theorem dX2_drawersApart_42 : decode cX2_drawersApart 42 = .ok (.if_icmp .eq 10, 3) := by decide +kernel
theorem dX2_drawersApart_45 : decode cX2_drawersApart 45 = .ok (.iload_n 3, 1) := by decide +kernel
theorem dX2_drawersApart_46 : decode cX2_drawersApart 46 = .ok (.iconst 1, 1) := by decide +kernel
theorem dX2_drawersApart_47 : decode cX2_drawersApart 47 = .ok (.iload 4, 2) := by decide +kernel
theorem dX2_drawersApart_49 : decode cX2_drawersApart 49 = .ok (.ishl, 1) := by decide +kernel
theorem dX2_drawersApart_50 : decode cX2_drawersApart 50 = .ok (.ior, 1) := by decide +kernel
theorem dX2_drawersApart_51 : decode cX2_drawersApart 51 = .ok (.istore_n 3, 1) := by decide +kernel
theorem dX2_drawersApart_52 : decode cX2_drawersApart 52 = .ok (.iinc 4 1, 3) := by decide +kernel
theorem dX2_drawersApart_55 : decode cX2_drawersApart 55 = .ok (.goto (-44), 3) := by decide +kernel
theorem dX2_drawersApart_58 : decode cX2_drawersApart 58 = .ok (.iload_n 3, 1) := by decide +kernel
theorem dX2_drawersApart_59 : decode cX2_drawersApart 59 = .ok (.ireturn, 1) := by decide +kernel
theorem dX2_hasBit_0 : decode cX2_hasBit 0 = .ok (.iload_n 0, 1) := by decide +kernel
theorem dX2_hasBit_1 : decode cX2_hasBit 1 = .ok (.iload_n 1, 1) := by decide +kernel
theorem dX2_hasBit_2 : decode cX2_hasBit 2 = .ok (.iushr, 1) := by decide +kernel
theorem dX2_hasBit_3 : decode cX2_hasBit 3 = .ok (.iconst 1, 1) := by decide +kernel
theorem dX2_hasBit_4 : decode cX2_hasBit 4 = .ok (.iand, 1) := by decide +kernel
theorem dX2_hasBit_5 : decode cX2_hasBit 5 = .ok (.iconst 1, 1) := by decide +kernel
theorem dX2_hasBit_6 : decode cX2_hasBit 6 = .ok (.if_icmp .ne 7, 3) := by decide +kernel
theorem dX2_hasBit_9 : decode cX2_hasBit 9 = .ok (.iconst 1, 1) := by decide +kernel
theorem dX2_hasBit_10 : decode cX2_hasBit 10 = .ok (.goto 4, 3) := by decide +kernel
theorem dX2_hasBit_13 : decode cX2_hasBit 13 = .ok (.iconst 0, 1) := by decide +kernel
theorem dX2_hasBit_14 : decode cX2_hasBit 14 = .ok (.ireturn, 1) := by decide +kernel
theorem dX2_checkDrawer_0 : decode cX2_checkDrawer 0 = .ok (.iload_n 0, 1) := by decide +kernel
theorem dX2_checkDrawer_1 : decode cX2_checkDrawer 1 = .ok (.ifCond .lt 9, 3) := by decide +kernel
theorem dX2_checkDrawer_4 : decode cX2_checkDrawer 4 = .ok (.iload_n 0, 1) := by decide +kernel
theorem dX2_checkDrawer_5 : decode cX2_checkDrawer 5 = .ok (.bipush 16, 2) := by decide +kernel
theorem dX2_checkDrawer_7 : decode cX2_checkDrawer 7 = .ok (.if_icmp .lt 13, 3) := by decide +kernel
theorem dX2_checkDrawer_10 : decode cX2_checkDrawer 10 = .ok (.new 68, 3) := by decide +kernel
theorem dX2_checkDrawer_13 : decode cX2_checkDrawer 13 = .ok (.dup, 1) := by decide +kernel
theorem dX2_checkDrawer_14 : decode cX2_checkDrawer 14 = .ok (.ldc 186, 2) := by decide +kernel
theorem dX2_checkDrawer_16 : decode cX2_checkDrawer 16 = .ok (.invokespecial 72, 3) := by decide +kernel
theorem dX2_checkDrawer_19 : decode cX2_checkDrawer 19 = .ok (.athrow, 1) := by decide +kernel
theorem dX2_checkDrawer_20 : decode cX2_checkDrawer 20 = .ok (.return_, 1) := by decide +kernel
theorem dX2_checkWhat_0 : decode cX2_checkWhat 0 = .ok (.iload_n 0, 1) := by decide +kernel
theorem dX2_checkWhat_1 : decode cX2_checkWhat 1 = .ok (.ifCond .lt 8, 3) := by decide +kernel
theorem dX2_checkWhat_4 : decode cX2_checkWhat 4 = .ok (.iload_n 0, 1) := by decide +kernel
theorem dX2_checkWhat_5 : decode cX2_checkWhat 5 = .ok (.iload_n 1, 1) := by decide +kernel
theorem dX2_checkWhat_6 : decode cX2_checkWhat 6 = .ok (.if_icmp .lt 13, 3) := by decide +kernel
theorem dX2_checkWhat_9 : decode cX2_checkWhat 9 = .ok (.new 68, 3) := by decide +kernel
theorem dX2_checkWhat_12 : decode cX2_checkWhat 12 = .ok (.dup, 1) := by decide +kernel
theorem dX2_checkWhat_13 : decode cX2_checkWhat 13 = .ok (.ldc 188, 2) := by decide +kernel
theorem dX2_checkWhat_15 : decode cX2_checkWhat 15 = .ok (.invokespecial 72, 3) := by decide +kernel
theorem dX2_checkWhat_18 : decode cX2_checkWhat 18 = .ok (.athrow, 1) := by decide +kernel
theorem dX2_checkWhat_19 : decode cX2_checkWhat 19 = .ok (.return_, 1) := by decide +kernel
theorem dX2_checkThing_0 : decode cX2_checkThing 0 = .ok (.iload_n 0, 1) := by decide +kernel
theorem dX2_checkThing_1 : decode cX2_checkThing 1 = .ok (.ifCond .lt 10, 3) := by decide +kernel
theorem dX2_checkThing_4 : decode cX2_checkThing 4 = .ok (.iload_n 0, 1) := by decide +kernel
theorem dX2_checkThing_5 : decode cX2_checkThing 5 = .ok (.sipush 9999, 3) := by decide +kernel
theorem dX2_checkThing_8 : decode cX2_checkThing 8 = .ok (.if_icmp .le 13, 3) := by decide +kernel
theorem dX2_checkThing_11 : decode cX2_checkThing 11 = .ok (.new 190, 3) := by decide +kernel
theorem dX2_checkThing_14 : decode cX2_checkThing 14 = .ok (.dup, 1) := by decide +kernel
theorem dX2_checkThing_15 : decode cX2_checkThing 15 = .ok (.ldc 192, 2) := by decide +kernel
theorem dX2_checkThing_17 : decode cX2_checkThing 17 = .ok (.invokespecial 194, 3) := by decide +kernel
theorem dX2_checkThing_20 : decode cX2_checkThing 20 = .ok (.athrow, 1) := by decide +kernel
theorem dX2_checkThing_21 : decode cX2_checkThing 21 = .ok (.return_, 1) := by decide +kernel
theorem dX2_checkSum_0 : decode cX2_checkSum 0 = .ok (.iload_n 0, 1) := by decide +kernel
theorem dX2_checkSum_1 : decode cX2_checkSum 1 = .ok (.ifCond .lt 10, 3) := by decide +kernel
theorem dX2_checkSum_4 : decode cX2_checkSum 4 = .ok (.iload_n 0, 1) := by decide +kernel
theorem dX2_checkSum_5 : decode cX2_checkSum 5 = .ok (.sipush 997, 3) := by decide +kernel
theorem dX2_checkSum_8 : decode cX2_checkSum 8 = .ok (.if_icmp .lt 13, 3) := by decide +kernel
theorem dX2_checkSum_11 : decode cX2_checkSum 11 = .ok (.new 190, 3) := by decide +kernel
theorem dX2_checkSum_14 : decode cX2_checkSum 14 = .ok (.dup, 1) := by decide +kernel
theorem dX2_checkSum_15 : decode cX2_checkSum 15 = .ok (.ldc 195, 2) := by decide +kernel
theorem dX2_checkSum_17 : decode cX2_checkSum 17 = .ok (.invokespecial 194, 3) := by decide +kernel
theorem dX2_checkSum_20 : decode cX2_checkSum 20 = .ok (.athrow, 1) := by decide +kernel
theorem dX2_checkSum_21 : decode cX2_checkSum 21 = .ok (.return_, 1) := by decide +kernel
theorem dX3_init_0 : decode cX3_init 0 = .ok (.aload_n 0, 1) := by decide +kernel
theorem dX3_init_1 : decode cX3_init 1 = .ok (.invokespecial 1, 3) := by decide +kernel
theorem dX3_init_4 : decode cX3_init 4 = .ok (.aload_n 0, 1) := by decide +kernel
theorem dX3_init_5 : decode cX3_init 5 = .ok (.iconst 0, 1) := by decide +kernel
theorem dX3_init_6 : decode cX3_init 6 = .ok (.anewarray 7, 3) := by decide +kernel
theorem dX3_init_9 : decode cX3_init 9 = .ok (.putfield 9, 3) := by decide +kernel
theorem dX3_init_12 : decode cX3_init 12 = .ok (.aload_n 0, 1) := by decide +kernel
theorem dX3_init_13 : decode cX3_init 13 = .ok (.iconst 0, 1) := by decide +kernel
theorem dX3_init_14 : decode cX3_init 14 = .ok (.anewarray 7, 3) := by decide +kernel
theorem dX3_init_17 : decode cX3_init 17 = .ok (.putfield 15, 3) := by decide +kernel
theorem dX3_init_20 : decode cX3_init 20 = .ok (.aload_n 0, 1) := by decide +kernel
theorem dX3_init_21 : decode cX3_init 21 = .ok (.bipush 6, 2) := by decide +kernel
theorem dX3_init_23 : decode cX3_init 23 = .ok (.newarray .int, 2) := by decide +kernel
theorem dX3_init_25 : decode cX3_init 25 = .ok (.putfield 18, 3) := by decide +kernel
theorem dX3_init_28 : decode cX3_init 28 = .ok (.return_, 1) := by decide +kernel
theorem dX3_more_0 : decode cX3_more 0 = .ok (.aload_n 0, 1) := by decide +kernel
theorem dX3_more_1 : decode cX3_more 1 = .ok (.arraylength, 1) := by decide +kernel
theorem dX3_more_2 : decode cX3_more 2 = .ok (.iconst 1, 1) := by decide +kernel
theorem dX3_more_3 : decode cX3_more 3 = .ok (.iadd, 1) := by decide +kernel
theorem dX3_more_4 : decode cX3_more 4 = .ok (.anewarray 7, 3) := by decide +kernel
theorem dX3_more_7 : decode cX3_more 7 = .ok (.astore_n 2, 1) := by decide +kernel
theorem dX3_more_8 : decode cX3_more 8 = .ok (.iconst 0, 1) := by decide +kernel
theorem dX3_more_9 : decode cX3_more 9 = .ok (.istore_n 3, 1) := by decide +kernel
theorem dX3_more_10 : decode cX3_more 10 = .ok (.iload_n 3, 1) := by decide +kernel
theorem dX3_more_11 : decode cX3_more 11 = .ok (.aload_n 0, 1) := by decide +kernel
theorem dX3_more_12 : decode cX3_more 12 = .ok (.arraylength, 1) := by decide +kernel
theorem dX3_more_13 : decode cX3_more 13 = .ok (.if_icmp .ge 15, 3) := by decide +kernel
theorem dX3_more_16 : decode cX3_more 16 = .ok (.aload_n 2, 1) := by decide +kernel
theorem dX3_more_17 : decode cX3_more 17 = .ok (.iload_n 3, 1) := by decide +kernel
theorem dX3_more_18 : decode cX3_more 18 = .ok (.aload_n 0, 1) := by decide +kernel
theorem dX3_more_19 : decode cX3_more 19 = .ok (.iload_n 3, 1) := by decide +kernel
theorem dX3_more_20 : decode cX3_more 20 = .ok (.aaload, 1) := by decide +kernel
theorem dX3_more_21 : decode cX3_more 21 = .ok (.aastore, 1) := by decide +kernel
theorem dX3_more_22 : decode cX3_more 22 = .ok (.iinc 3 1, 3) := by decide +kernel
theorem dX3_more_25 : decode cX3_more 25 = .ok (.goto (-15), 3) := by decide +kernel
theorem dX3_more_28 : decode cX3_more 28 = .ok (.aload_n 2, 1) := by decide +kernel
theorem dX3_more_29 : decode cX3_more 29 = .ok (.aload_n 0, 1) := by decide +kernel
theorem dX3_more_30 : decode cX3_more 30 = .ok (.arraylength, 1) := by decide +kernel
theorem dX3_more_31 : decode cX3_more 31 = .ok (.aload_n 1, 1) := by decide +kernel
theorem dX3_more_32 : decode cX3_more 32 = .ok (.aastore, 1) := by decide +kernel
theorem dX3_more_33 : decode cX3_more 33 = .ok (.aload_n 2, 1) := by decide +kernel
theorem dX3_more_34 : decode cX3_more 34 = .ok (.areturn, 1) := by decide +kernel
set_option maxRecDepth 20000 in
theorem ggX3_sum_X3_sum : GoodIn wsX3_sum wsX3_sum := goodIn_r _ [0, 1, 2, 3] (by decide +kernel) (by decide +kernel)
set_option maxRecDepth 20000 in
theorem gX3_sum_X3_sum : GoodIn wsX3_sum (va_wsS RX3 21 yX3_sum wsX3_sum) := goodIn_app (goodIn_of _ (by decide +kernel)) ggX3_sum_X3_sum
theorem dX3_sum_0 : decode cX3_sum 0 = .ok (.iload_n 1, 1) := by decide +kernel
theorem dX3_sum_1 : decode cX3_sum 1 = .ok (.bipush 15, 2) := by decide +kernel
theorem dX3_sum_3 : decode cX3_sum 3 = .ok (.if_icmp .le 25, 3) := by decide +kernel
theorem dX3_sum_6 : decode cX3_sum 6 = .ok (.bipush 37, 2) := by decide +kernel
theorem dX3_sum_8 : decode cX3_sum 8 = .ok (.aload_n 0, 1) := by decide +kernel
theorem dX3_sum_9 : decode cX3_sum 9 = .ok (.iload_n 1, 1) := by decide +kernel
theorem dX3_sum_10 : decode cX3_sum 10 = .ok (.bipush 16, 2) := by decide +kernel
theorem dX3_sum_12 : decode cX3_sum 12 = .ok (.isub, 1) := by decide +kernel
theorem dX3_sum_13 : decode cX3_sum 13 = .ok (.iaload, 1) := by decide +kernel
theorem dX3_sum_14 : decode cX3_sum 14 = .ok (.imul, 1) := by decide +kernel
theorem dX3_sum_15 : decode cX3_sum 15 = .ok (.bipush 101, 2) := by decide +kernel
theorem dX3_sum_17 : decode cX3_sum 17 = .ok (.iload_n 1, 1) := by decide +kernel
theorem dX3_sum_18 : decode cX3_sum 18 = .ok (.bipush 15, 2) := by decide +kernel
theorem dX3_sum_20 : decode cX3_sum 20 = .ok (.isub, 1) := by decide +kernel
theorem dX3_sum_21 : decode cX3_sum 21 = .ok (.imul, 1) := by decide +kernel
theorem dX3_sum_22 : decode cX3_sum 22 = .ok (.iadd, 1) := by decide +kernel
theorem dX3_sum_23 : decode cX3_sum 23 = .ok (.sipush 997, 3) := by decide +kernel
theorem dX3_sum_26 : decode cX3_sum 26 = .ok (.irem, 1) := by decide +kernel
theorem dX3_sum_27 : decode cX3_sum 27 = .ok (.ireturn, 1) := by decide +kernel
theorem dX3_sum_28 : decode cX3_sum 28 = .ok (.bipush 61, 2) := by decide +kernel
theorem dX3_sum_30 : decode cX3_sum 30 = .ok (.aload_n 0, 1) := by decide +kernel
theorem dX3_sum_31 : decode cX3_sum 31 = .ok (.iconst 2, 1) := by decide +kernel
theorem dX3_sum_32 : decode cX3_sum 32 = .ok (.iload_n 1, 1) := by decide +kernel
theorem dX3_sum_33 : decode cX3_sum 33 = .ok (.imul, 1) := by decide +kernel
theorem dX3_sum_34 : decode cX3_sum 34 = .ok (.invokestatic 21, 3) := by decide +kernel
theorem dX3_sum_37 : decode cX3_sum 37 = .ok (.imul, 1) := by decide +kernel
theorem dX3_sum_38 : decode cX3_sum 38 = .ok (.bipush 89, 2) := by decide +kernel
theorem dX3_sum_40 : decode cX3_sum 40 = .ok (.aload_n 0, 1) := by decide +kernel
theorem dX3_sum_41 : decode cX3_sum 41 = .ok (.iconst 2, 1) := by decide +kernel
theorem dX3_sum_42 : decode cX3_sum 42 = .ok (.iload_n 1, 1) := by decide +kernel
theorem dX3_sum_43 : decode cX3_sum 43 = .ok (.imul, 1) := by decide +kernel
theorem dX3_sum_44 : decode cX3_sum 44 = .ok (.iconst 1, 1) := by decide +kernel
theorem dX3_sum_45 : decode cX3_sum 45 = .ok (.iadd, 1) := by decide +kernel
theorem dX3_sum_46 : decode cX3_sum 46 = .ok (.invokestatic 21, 3) := by decide +kernel
theorem dX3_sum_49 : decode cX3_sum 49 = .ok (.imul, 1) := by decide +kernel
theorem dX3_sum_50 : decode cX3_sum 50 = .ok (.iadd, 1) := by decide +kernel
theorem dX3_sum_51 : decode cX3_sum 51 = .ok (.iload_n 1, 1) := by decide +kernel
theorem dX3_sum_52 : decode cX3_sum 52 = .ok (.iadd, 1) := by decide +kernel
theorem dX3_sum_53 : decode cX3_sum 53 = .ok (.sipush 997, 3) := by decide +kernel
theorem dX3_sum_56 : decode cX3_sum 56 = .ok (.irem, 1) := by decide +kernel
theorem dX3_sum_57 : decode cX3_sum 57 = .ok (.ireturn, 1) := by decide +kernel
set_option maxRecDepth 20000 in
theorem ggX3_root_X3_sum : GoodIn wsX3_root wsX3_sum := goodIn_r _ [5, 2, 3, 4] (by decide +kernel) (by decide +kernel)
set_option maxRecDepth 20000 in
theorem gX3_root_X3_sum : GoodIn wsX3_root (va_wsS RX3 21 yX3_sum wsX3_sum) := goodIn_app (goodIn_of _ (by decide +kernel)) ggX3_root_X3_sum
theorem dX3_root_0 : decode cX3_root 0 = .ok (.aload_n 0, 1) := by decide +kernel
theorem dX3_root_1 : decode cX3_root 1 = .ok (.getfield 9, 3) := by decide +kernel
theorem dX3_root_4 : decode cX3_root 4 = .ok (.iload_n 1, 1) := by decide +kernel
theorem dX3_root_5 : decode cX3_root 5 = .ok (.aaload, 1) := by decide +kernel
theorem dX3_root_6 : decode cX3_root 6 = .ok (.iconst 1, 1) := by decide +kernel
theorem dX3_root_7 : decode cX3_root 7 = .ok (.invokestatic 21, 3) := by decide +kernel
theorem dX3_root_10 : decode cX3_root 10 = .ok (.ireturn, 1) := by decide +kernel
theorem dX3_put_0 : decode cX3_put 0 = .ok (.aload_n 0, 1) := by decide +kernel
theorem dX3_put_1 : decode cX3_put 1 = .ok (.getfield 9, 3) := by decide +kernel
theorem dX3_put_4 : decode cX3_put 4 = .ok (.iload_n 1, 1) := by decide +kernel
theorem dX3_put_5 : decode cX3_put 5 = .ok (.aaload, 1) := by decide +kernel
theorem dX3_put_6 : decode cX3_put 6 = .ok (.iload_n 2, 1) := by decide +kernel
theorem dX3_put_7 : decode cX3_put 7 = .ok (.iaload, 1) := by decide +kernel
theorem dX3_put_8 : decode cX3_put 8 = .ok (.iload_n 3, 1) := by decide +kernel
theorem dX3_put_9 : decode cX3_put 9 = .ok (.if_icmp .ne 5, 3) := by decide +kernel
theorem dX3_put_12 : decode cX3_put 12 = .ok (.iconst 0, 1) := by decide +kernel
theorem dX3_put_13 : decode cX3_put 13 = .ok (.ireturn, 1) := by decide +kernel
theorem dX3_put_14 : decode cX3_put 14 = .ok (.aload_n 0, 1) := by decide +kernel
theorem dX3_put_15 : decode cX3_put 15 = .ok (.getfield 9, 3) := by decide +kernel
theorem dX3_put_18 : decode cX3_put 18 = .ok (.iload_n 1, 1) := by decide +kernel
theorem dX3_put_19 : decode cX3_put 19 = .ok (.aaload, 1) := by decide +kernel
theorem dX3_put_20 : decode cX3_put 20 = .ok (.iload_n 2, 1) := by decide +kernel
theorem dX3_put_21 : decode cX3_put 21 = .ok (.iload_n 3, 1) := by decide +kernel
theorem dX3_put_22 : decode cX3_put 22 = .ok (.iastore, 1) := by decide +kernel
theorem dX3_put_23 : decode cX3_put 23 = .ok (.aload_n 0, 1) := by decide +kernel
theorem dX3_put_24 : decode cX3_put 24 = .ok (.getfield 18, 3) := by decide +kernel
theorem dX3_put_27 : decode cX3_put 27 = .ok (.iload_n 1, 1) := by decide +kernel
theorem dX3_put_28 : decode cX3_put 28 = .ok (.dup2, 1) := by decide +kernel
theorem dX3_put_29 : decode cX3_put 29 = .ok (.iaload, 1) := by decide +kernel
theorem dX3_put_30 : decode cX3_put 30 = .ok (.iconst 1, 1) := by decide +kernel
theorem dX3_put_31 : decode cX3_put 31 = .ok (.iadd, 1) := by decide +kernel
theorem dX3_put_32 : decode cX3_put 32 = .ok (.iastore, 1) := by decide +kernel
theorem dX3_put_33 : decode cX3_put 33 = .ok (.iconst 1, 1) := by decide +kernel
theorem dX3_put_34 : decode cX3_put 34 = .ok (.ireturn, 1) := by decide +kernel
set_option maxRecDepth 20000 in
theorem ggX3_swap_X3_sum : GoodIn wsX3_swap wsX3_sum := goodIn_r _ [6, 3, 4, 5] (by decide +kernel) (by decide +kernel)
set_option maxRecDepth 20000 in
theorem gX3_swap_X3_sum : GoodIn wsX3_swap (va_wsS RX3 21 yX3_sum wsX3_sum) := goodIn_app (goodIn_of _ (by decide +kernel)) ggX3_swap_X3_sum
set_option maxRecDepth 20000 in
theorem ggX3_swap_X3_put : GoodIn wsX3_swap wsX3_put := goodIn_r _ [10, 2, 11, 12, 13, 14] (by decide +kernel) (by decide +kernel)
set_option maxRecDepth 20000 in
theorem gX3_swap_X3_put : GoodIn wsX3_swap (wsV RX3 25 RX3 yX3_put wsX3_put) := goodIn_app (goodIn_of _ (by decide +kernel)) ggX3_swap_X3_put
theorem dX3_swap_0 : decode cX3_swap 0 = .ok (.bipush 32, 2) := by decide +kernel
theorem dX3_swap_2 : decode cX3_swap 2 = .ok (.newarray .int, 2) := by decide +kernel
theorem dX3_swap_4 : decode cX3_swap 4 = .ok (.astore 4, 2) := by decide +kernel
theorem dX3_swap_6 : decode cX3_swap 6 = .ok (.iconst 1, 1) := by decide +kernel
theorem dX3_swap_7 : decode cX3_swap 7 = .ok (.istore 5, 2) := by decide +kernel
theorem dX3_swap_9 : decode cX3_swap 9 = .ok (.iload 5, 2) := by decide +kernel
theorem dX3_swap_11 : decode cX3_swap 11 = .ok (.bipush 32, 2) := by decide +kernel
theorem dX3_swap_13 : decode cX3_swap 13 = .ok (.if_icmp .ge 25, 3) := by decide +kernel
theorem dX3_swap_16 : decode cX3_swap 16 = .ok (.aload 4, 2) := by decide +kernel
theorem dX3_swap_18 : decode cX3_swap 18 = .ok (.iload 5, 2) := by decide +kernel
theorem dX3_swap_20 : decode cX3_swap 20 = .ok (.aload_n 0, 1) := by decide +kernel
theorem dX3_swap_21 : decode cX3_swap 21 = .ok (.getfield 9, 3) := by decide +kernel
theorem dX3_swap_24 : decode cX3_swap 24 = .ok (.iload_n 1, 1) := by decide +kernel
theorem dX3_swap_25 : decode cX3_swap 25 = .ok (.aaload, 1) := by decide +kernel
theorem dX3_swap_26 : decode cX3_swap 26 = .ok (.iload 5, 2) := by decide +kernel
theorem dX3_swap_28 : decode cX3_swap 28 = .ok (.invokestatic 21, 3) := by decide +kernel
theorem dX3_swap_31 : decode cX3_swap 31 = .ok (.iastore, 1) := by decide +kernel
theorem dX3_swap_32 : decode cX3_swap 32 = .ok (.iinc 5 1, 3) := by decide +kernel
theorem dX3_swap_35 : decode cX3_swap 35 = .ok (.goto (-26), 3) := by decide +kernel
theorem dX3_swap_38 : decode cX3_swap 38 = .ok (.aload_n 0, 1) := by decide +kernel
theorem dX3_swap_39 : decode cX3_swap 39 = .ok (.getfield 9, 3) := by decide +kernel
theorem dX3_swap_42 : decode cX3_swap 42 = .ok (.iload_n 1, 1) := by decide +kernel
theorem dX3_swap_43 : decode cX3_swap 43 = .ok (.aaload, 1) := by decide +kernel
theorem dX3_swap_44 : decode cX3_swap 44 = .ok (.iload_n 2, 1) := by decide +kernel
theorem dX3_swap_45 : decode cX3_swap 45 = .ok (.iaload, 1) := by decide +kernel
theorem dX3_swap_46 : decode cX3_swap 46 = .ok (.istore 5, 2) := by decide +kernel
theorem dX3_swap_48 : decode cX3_swap 48 = .ok (.aload_n 0, 1) := by decide +kernel
theorem dX3_swap_49 : decode cX3_swap 49 = .ok (.iload_n 1, 1) := by decide +kernel
theorem dX3_swap_50 : decode cX3_swap 50 = .ok (.iload_n 2, 1) := by decide +kernel
theorem dX3_swap_51 : decode cX3_swap 51 = .ok (.aload_n 0, 1) := by decide +kernel
theorem dX3_swap_52 : decode cX3_swap 52 = .ok (.getfield 9, 3) := by decide +kernel
theorem dX3_swap_55 : decode cX3_swap 55 = .ok (.iload_n 1, 1) := by decide +kernel
theorem dX3_swap_56 : decode cX3_swap 56 = .ok (.aaload, 1) := by decide +kernel
theorem dX3_swap_57 : decode cX3_swap 57 = .ok (.iload_n 3, 1) := by decide +kernel
theorem dX3_swap_58 : decode cX3_swap 58 = .ok (.iaload, 1) := by decide +kernel
theorem dX3_swap_59 : decode cX3_swap 59 = .ok (.invokevirtual 25, 3) := by decide +kernel
theorem dX3_swap_62 : decode cX3_swap 62 = .ok (.pop, 1) := by decide +kernel
theorem dX3_swap_63 : decode cX3_swap 63 = .ok (.aload_n 0, 1) := by decide +kernel
theorem dX3_swap_64 : decode cX3_swap 64 = .ok (.iload_n 1, 1) := by decide +kernel
theorem dX3_swap_65 : decode cX3_swap 65 = .ok (.iload_n 3, 1) := by decide +kernel
theorem dX3_swap_66 : decode cX3_swap 66 = .ok (.iload 5, 2) := by decide +kernel
theorem dX3_swap_68 : decode cX3_swap 68 = .ok (.invokevirtual 25, 3) := by decide +kernel
theorem dX3_swap_71 : decode cX3_swap 71 = .ok (.pop, 1) := by decide +kernel
theorem dX3_swap_72 : decode cX3_swap 72 = .ok (.iconst 0, 1) := by decide +kernel
theorem dX3_swap_73 : decode cX3_swap 73 = .ok (.istore 6, 2) := by decide +kernel
theorem dX3_swap_75 : decode cX3_swap 75 = .ok (.iconst 1, 1) := by decide +kernel
theorem dX3_swap_76 : decode cX3_swap 76 = .ok (.istore 7, 2) := by decide +kernel
theorem dX3_swap_78 : decode cX3_swap 78 = .ok (.iload 7, 2) := by decide +kernel
theorem dX3_swap_80 : decode cX3_swap 80 = .ok (.bipush 32, 2) := by decide +kernel
theorem dX3_swap_82 : decode cX3_swap 82 = .ok (.if_icmp .ge 38, 3) := by decide +kernel
theorem dX3_swap_85 : decode cX3_swap 85 = .ok (.iload 6, 2) := by decide +kernel
theorem dX3_swap_87 : decode cX3_swap 87 = .ok (.aload 4, 2) := by decide +kernel
theorem dX3_swap_89 : decode cX3_swap 89 = .ok (.iload 7, 2) := by decide +kernel
theorem dX3_swap_91 : decode cX3_swap 91 = .ok (.iaload, 1) := by decide +kernel
theorem dX3_swap_92 : decode cX3_swap 92 = .ok (.aload_n 0, 1) := by decide +kernel
theorem dX3_swap_93 : decode cX3_swap 93 = .ok (.getfield 9, 3) := by decide +kernel
theorem dX3_swap_96 : decode cX3_swap 96 = .ok (.iload_n 1, 1) := by decide +kernel
theorem dX3_swap_97 : decode cX3_swap 97 = .ok (.aaload, 1) := by decide +kernel
theorem dX3_swap_98 : decode cX3_swap 98 = .ok (.iload 7, 2) := by decide +kernel
theorem dX3_swap_100 : decode cX3_swap 100 = .ok (.invokestatic 21, 3) := by decide +kernel
theorem dX3_swap_103 : decode cX3_swap 103 = .ok (.if_icmp .eq 7, 3) := by decide +kernel
theorem dX3_swap_106 : decode cX3_swap 106 = .ok (.iconst 1, 1) := by decide +kernel
theorem dX3_swap_107 : decode cX3_swap 107 = .ok (.goto 4, 3) := by decide +kernel
theorem dX3_swap_110 : decode cX3_swap 110 = .ok (.iconst 0, 1) := by decide +kernel
theorem dX3_swap_111 : decode cX3_swap 111 = .ok (.iadd, 1) := by decide +kernel
theorem dX3_swap_112 : decode cX3_swap 112 = .ok (.istore 6, 2) := by decide +kernel
theorem dX3_swap_114 : decode cX3_swap 114 = .ok (.iinc 7 1, 3) := by decide +kernel
theorem dX3_swap_117 : decode cX3_swap 117 = .ok (.goto (-39), 3) := by decide +kernel
theorem dX3_swap_120 : decode cX3_swap 120 = .ok (.iload 6, 2) := by decide +kernel
theorem dX3_swap_122 : decode cX3_swap 122 = .ok (.ireturn, 1) := by decide +kernel
set_option maxRecDepth 20000 in
theorem ggX3_compare_X3_sum : GoodIn wsX3_compare wsX3_sum := goodIn_r _ [6, 3, 4, 5] (by decide +kernel) (by decide +kernel)
set_option maxRecDepth 20000 in
theorem gX3_compare_X3_sum : GoodIn wsX3_compare (va_wsS RX3 21 yX3_sum wsX3_sum) := goodIn_app (goodIn_of _ (by decide +kernel)) ggX3_compare_X3_sum
set_option maxRecDepth 20000 in
theorem ggX3_compare_X3_compare : GoodIn wsX3_compare wsX3_compare := goodIn_r _ [0, 1, 2, 3, 4, 5, 6, 7, 8, 9, 10, 11, 12] (by decide +kernel) (by decide +kernel)
set_option maxRecDepth 20000 in
theorem gX3_compare_X3_compare : GoodIn wsX3_compare (wsV RX3 30 RX3 yX3_compare wsX3_compare) := goodIn_app (goodIn_of _ (by decide +kernel)) ggX3_compare_X3_compare
theorem dX3_compare_0 : decode cX3_compare 0 = .ok (.aload_n 0, 1) := by decide +kernel
theorem dX3_compare_1 : decode cX3_compare 1 = .ok (.getfield 9, 3) := by decide +kernel
theorem dX3_compare_4 : decode cX3_compare 4 = .ok (.iload_n 1, 1) := by decide +kernel
theorem dX3_compare_5 : decode cX3_compare 5 = .ok (.aaload, 1) := by decide +kernel
theorem dX3_compare_6 : decode cX3_compare 6 = .ok (.iload_n 3, 1) := by decide +kernel
theorem dX3_compare_7 : decode cX3_compare 7 = .ok (.invokestatic 21, 3) := by decide +kernel
theorem dX3_compare_10 : decode cX3_compare 10 = .ok (.aload_n 0, 1) := by decide +kernel
theorem dX3_compare_11 : decode cX3_compare 11 = .ok (.getfield 9, 3) := by decide +kernel
theorem dX3_compare_14 : decode cX3_compare 14 = .ok (.iload_n 2, 1) := by decide +kernel
theorem dX3_compare_15 : decode cX3_compare 15 = .ok (.aaload, 1) := by decide +kernel
theorem dX3_compare_16 : decode cX3_compare 16 = .ok (.iload_n 3, 1) := by decide +kernel
theorem dX3_compare_17 : decode cX3_compare 17 = .ok (.invokestatic 21, 3) := by decide +kernel
theorem dX3_compare_20 : decode cX3_compare 20 = .ok (.if_icmp .ne 6, 3) := by decide +kernel
theorem dX3_compare_23 : decode cX3_compare 23 = .ok (.ldc 29, 2) := by decide +kernel
theorem dX3_compare_25 : decode cX3_compare 25 = .ok (.ireturn, 1) := by decide +kernel
theorem dX3_compare_26 : decode cX3_compare 26 = .ok (.iload_n 3, 1) := by decide +kernel
theorem dX3_compare_27 : decode cX3_compare 27 = .ok (.bipush 15, 2) := by decide +kernel
theorem dX3_compare_29 : decode cX3_compare 29 = .ok (.if_icmp .le 13, 3) := by decide +kernel
theorem dX3_compare_32 : decode cX3_compare 32 = .ok (.ldc 29, 2) := by decide +kernel
theorem dX3_compare_34 : decode cX3_compare 34 = .ok (.iconst 1, 1) := by decide +kernel
theorem dX3_compare_35 : decode cX3_compare 35 = .ok (.iload_n 3, 1) := by decide +kernel
theorem dX3_compare_36 : decode cX3_compare 36 = .ok (.bipush 16, 2) := by decide +kernel
theorem dX3_compare_38 : decode cX3_compare 38 = .ok (.isub, 1) := by decide +kernel
theorem dX3_compare_39 : decode cX3_compare 39 = .ok (.ishl, 1) := by decide +kernel
theorem dX3_compare_40 : decode cX3_compare 40 = .ok (.iadd, 1) := by decide +kernel
theorem dX3_compare_41 : decode cX3_compare 41 = .ok (.ireturn, 1) := by decide +kernel
theorem dX3_compare_42 : decode cX3_compare 42 = .ok (.ldc 29, 2) := by decide +kernel
theorem dX3_compare_44 : decode cX3_compare 44 = .ok (.aload_n 0, 1) := by decide +kernel
theorem dX3_compare_45 : decode cX3_compare 45 = .ok (.iload_n 1, 1) := by decide +kernel
theorem dX3_compare_46 : decode cX3_compare 46 = .ok (.iload_n 2, 1) := by decide +kernel
theorem dX3_compare_47 : decode cX3_compare 47 = .ok (.iconst 2, 1) := by decide +kernel
theorem dX3_compare_48 : decode cX3_compare 48 = .ok (.iload_n 3, 1) := by decide +kernel
theorem dX3_compare_49 : decode cX3_compare 49 = .ok (.imul, 1) := by decide +kernel
theorem dX3_compare_50 : decode cX3_compare 50 = .ok (.invokevirtual 30, 3) := by decide +kernel
theorem dX3_compare_53 : decode cX3_compare 53 = .ok (.iadd, 1) := by decide +kernel
theorem dX3_compare_54 : decode cX3_compare 54 = .ok (.aload_n 0, 1) := by decide +kernel
theorem dX3_compare_55 : decode cX3_compare 55 = .ok (.iload_n 1, 1) := by decide +kernel
theorem dX3_compare_56 : decode cX3_compare 56 = .ok (.iload_n 2, 1) := by decide +kernel
theorem dX3_compare_57 : decode cX3_compare 57 = .ok (.iconst 2, 1) := by decide +kernel
theorem dX3_compare_58 : decode cX3_compare 58 = .ok (.iload_n 3, 1) := by decide +kernel
theorem dX3_compare_59 : decode cX3_compare 59 = .ok (.imul, 1) := by decide +kernel
theorem dX3_compare_60 : decode cX3_compare 60 = .ok (.iconst 1, 1) := by decide +kernel
theorem dX3_compare_61 : decode cX3_compare 61 = .ok (.iadd, 1) := by decide +kernel
theorem dX3_compare_62 : decode cX3_compare 62 = .ok (.invokevirtual 30, 3) := by decide +kernel
theorem dX3_compare_65 : decode cX3_compare 65 = .ok (.iadd, 1) := by decide +kernel
theorem dX3_compare_66 : decode cX3_compare 66 = .ok (.ireturn, 1) := by decide +kernel
set_option maxRecDepth 20000 in
theorem ggX3_mend_X3_compare : GoodIn wsX3_mend wsX3_compare := goodIn_r _ [7, 2, 1, 8, 9, 6, 10, 3, 4, 5, 16, 17, 18] (by decide +kernel) (by decide +kernel)
set_option maxRecDepth 20000 in
theorem gX3_mend_X3_compare : GoodIn wsX3_mend (wsV RX3 30 RX3 yX3_compare wsX3_compare) := goodIn_app (goodIn_of _ (by decide +kernel)) ggX3_mend_X3_compare
set_option maxRecDepth 20000 in
theorem ggX3_mend_X3_put : GoodIn wsX3_mend wsX3_put := goodIn_r _ [14, 2, 15, 16, 17, 18] (by decide +kernel) (by decide +kernel)
set_option maxRecDepth 20000 in
theorem gX3_mend_X3_put : GoodIn wsX3_mend (wsV RX3 25 RX3 yX3_put wsX3_put) := goodIn_app (goodIn_of _ (by decide +kernel)) ggX3_mend_X3_put
theorem dX3_mend_0 : decode cX3_mend 0 = .ok (.aload_n 0, 1) := by decide +kernel
theorem dX3_mend_1 : decode cX3_mend 1 = .ok (.iload_n 1, 1) := by decide +kernel
theorem dX3_mend_2 : decode cX3_mend 2 = .ok (.iload_n 2, 1) := by decide +kernel
theorem dX3_mend_3 : decode cX3_mend 3 = .ok (.iconst 1, 1) := by decide +kernel
theorem dX3_mend_4 : decode cX3_mend 4 = .ok (.invokevirtual 30, 3) := by decide +kernel
theorem dX3_mend_7 : decode cX3_mend 7 = .ok (.ldc 29, 2) := by decide +kernel
theorem dX3_mend_9 : decode cX3_mend 9 = .ok (.irem, 1) := by decide +kernel
theorem dX3_mend_10 : decode cX3_mend 10 = .ok (.istore_n 3, 1) := by decide +kernel
theorem dX3_mend_11 : decode cX3_mend 11 = .ok (.iconst 0, 1) := by decide +kernel
theorem dX3_mend_12 : decode cX3_mend 12 = .ok (.istore 4, 2) := by decide +kernel
theorem dX3_mend_14 : decode cX3_mend 14 = .ok (.iconst 0, 1) := by decide +kernel
theorem dX3_mend_15 : decode cX3_mend 15 = .ok (.istore 5, 2) := by decide +kernel
theorem dX3_mend_17 : decode cX3_mend 17 = .ok (.iload 5, 2) := by decide +kernel
theorem dX3_mend_19 : decode cX3_mend 19 = .ok (.bipush 16, 2) := by decide +kernel
theorem dX3_mend_21 : decode cX3_mend 21 = .ok (.if_icmp .ge 41, 3) := by decide +kernel
theorem dX3_mend_24 : decode cX3_mend 24 = .ok (.iload_n 3, 1) := by decide +kernel
theorem dX3_mend_25 : decode cX3_mend 25 = .ok (.iload 5, 2) := by decide +kernel
theorem dX3_mend_27 : decode cX3_mend 27 = .ok (.ishr, 1) := by decide +kernel
theorem dX3_mend_28 : decode cX3_mend 28 = .ok (.iconst 2, 1) := by decide +kernel
theorem dX3_mend_29 : decode cX3_mend 29 = .ok (.irem, 1) := by decide +kernel
theorem dX3_mend_30 : decode cX3_mend 30 = .ok (.iconst 1, 1) := by decide +kernel
theorem dX3_mend_31 : decode cX3_mend 31 = .ok (.if_icmp .ne 25, 3) := by decide +kernel
theorem dX3_mend_34 : decode cX3_mend 34 = .ok (.aload_n 0, 1) := by decide +kernel
theorem dX3_mend_35 : decode cX3_mend 35 = .ok (.iload_n 2, 1) := by decide +kernel
theorem dX3_mend_36 : decode cX3_mend 36 = .ok (.iload 5, 2) := by decide +kernel
theorem dX3_mend_38 : decode cX3_mend 38 = .ok (.aload_n 0, 1) := by decide +kernel
theorem dX3_mend_39 : decode cX3_mend 39 = .ok (.getfield 9, 3) := by decide +kernel
theorem dX3_mend_42 : decode cX3_mend 42 = .ok (.iload_n 1, 1) := by decide +kernel
theorem dX3_mend_43 : decode cX3_mend 43 = .ok (.aaload, 1) := by decide +kernel
theorem dX3_mend_44 : decode cX3_mend 44 = .ok (.iload 5, 2) := by decide +kernel
theorem dX3_mend_46 : decode cX3_mend 46 = .ok (.iaload, 1) := by decide +kernel
theorem dX3_mend_47 : decode cX3_mend 47 = .ok (.invokevirtual 25, 3) := by decide +kernel
theorem dX3_mend_50 : decode cX3_mend 50 = .ok (.ifCond .eq 6, 3) := by decide +kernel
theorem dX3_mend_53 : decode cX3_mend 53 = .ok (.iinc 4 1, 3) := by decide +kernel
theorem dX3_mend_56 : decode cX3_mend 56 = .ok (.iinc 5 1, 3) := by decide +kernel
theorem dX3_mend_59 : decode cX3_mend 59 = .ok (.goto (-42), 3) := by decide +kernel
theorem dX3_mend_62 : decode cX3_mend 62 = .ok (.iload 4, 2) := by decide +kernel
theorem dX3_mend_64 : decode cX3_mend 64 = .ok (.ireturn, 1) := by decide +kernel
set_option maxRecDepth 20000 in
theorem ggX3_isSame_X3_root : GoodIn wsX3_isSame wsX3_root := goodIn_r _ [9, 1, 10, 11, 8, 12, 86, 87, 88] (by decide +kernel) (by decide +kernel)
set_option maxRecDepth 20000 in
theorem gX3_isSame_X3_root : GoodIn wsX3_isSame (wsV RX3 38 RX3 yX3_root wsX3_root) := goodIn_app (goodIn_of _ (by decide +kernel)) ggX3_isSame_X3_root
set_option maxRecDepth 20000 in
theorem ggX3_isSame_X2_thing : GoodIn wsX3_isSame wsX2_thing := goodIn_ca (goodIn_r _ [17, 18, 19, 20, 16, 21, 22, 23, 24, 25, 26, 27, 28, 89, 90, 91, 92, 93, 94, 95, 96] (by decide +kernel) (by decide +kernel)) (goodIn_sub (fun _ h => List.mem_cons_of_mem _ (List.mem_append_right _ h)) (by decide +kernel))
set_option maxRecDepth 20000 in
theorem gX3_isSame_X2_thing : GoodIn wsX3_isSame (wsV RX3 42 RX2 yX2_thing wsX2_thing) := goodIn_app (goodIn_of _ (by decide +kernel)) ggX3_isSame_X2_thing
set_option maxRecDepth 20000 in
theorem ggX3_isSame_X2_told : GoodIn wsX3_isSame wsX2_told := goodIn_ca (goodIn_r _ [32, 18, 19, 20, 16, 21, 22, 23, 24, 25, 33, 34, 35, 36, 37, 38, 39, 40, 41, 42, 43, 44, 45, 46, 47, 48, 49, 50, 51, 52, 53, 54, 55, 56, 57, 89, 90, 91, 92, 93, 94, 95, 96, 97, 98, 99] (by decide +kernel) (by decide +kernel)) (goodIn_sub (fun _ h => List.mem_cons_of_mem _ (List.mem_append_right _ h)) (by decide +kernel))
set_option maxRecDepth 20000 in
theorem gX3_isSame_X2_told : GoodIn wsX3_isSame (wsV RX3 48 RX2 yX2_told wsX2_told) := goodIn_app (goodIn_of _ (by decide +kernel)) ggX3_isSame_X2_told
set_option maxRecDepth 20000 in
theorem ggX3_isSame_X3_sum : GoodIn wsX3_isSame wsX3_sum := goodIn_r _ [12, 10, 11, 8] (by decide +kernel) (by decide +kernel)
set_option maxRecDepth 20000 in
theorem gX3_isSame_X3_sum : GoodIn wsX3_isSame (va_wsS RX3 21 yX3_sum wsX3_sum) := goodIn_app (goodIn_of _ (by decide +kernel)) ggX3_isSame_X3_sum
set_option maxRecDepth 20000 in
theorem ggX3_isSame_X2_about : GoodIn wsX3_isSame wsX2_about := goodIn_ca (goodIn_r _ [61, 62, 63, 64, 16, 65, 22, 23, 52, 53, 33, 34, 35, 18, 19, 20, 21, 24, 25, 97, 98, 99, 89, 90, 91, 92, 93, 94, 95, 96] (by decide +kernel) (by decide +kernel)) (goodIn_sub (fun _ h => List.mem_cons_of_mem _ (List.mem_append_right _ h)) (by decide +kernel))
set_option maxRecDepth 20000 in
theorem gX3_isSame_X2_about : GoodIn wsX3_isSame (wsV RX3 51 RX2 yX2_about wsX2_about) := goodIn_app (goodIn_of _ (by decide +kernel)) ggX3_isSame_X2_about
set_option maxRecDepth 20000 in
theorem ggX3_isSame_X2_count : GoodIn wsX3_isSame wsX2_count := goodIn_ca (goodIn_r _ [69, 24, 52, 33, 34, 16, 35, 22, 23, 70, 71, 72, 73, 74, 75, 76, 77, 25, 36, 37, 38, 39, 40, 78, 79, 80, 81, 92, 93, 94, 95, 96, 89, 90, 91] (by decide +kernel) (by decide +kernel)) (goodIn_sub (fun _ h => List.mem_cons_of_mem _ (List.mem_append_right _ h)) (by decide +kernel))
set_option maxRecDepth 20000 in
theorem gX3_isSame_X2_count : GoodIn wsX3_isSame (wsV RX3 54 RX2 yX2_count wsX2_count) := goodIn_app (goodIn_of _ (by decide +kernel)) ggX3_isSame_X2_count
set_option maxRecDepth 20000 in
theorem ggX3_isSame_X2_mean : GoodIn wsX3_isSame wsX2_mean := goodIn_r _ [85, 24, 25, 92, 93, 94, 95, 96, 89, 90, 91] (by decide +kernel) (by decide +kernel)
set_option maxRecDepth 20000 in
theorem gX3_isSame_X2_mean : GoodIn wsX3_isSame (wsV RX3 57 RX2 yX2_mean wsX2_mean) := goodIn_app (goodIn_of _ (by decide +kernel)) ggX3_isSame_X2_mean
theorem dX3_isSame_0 : decode cX3_isSame 0 = .ok (.aload_n 0, 1) := by decide +kernel
theorem dX3_isSame_1 : decode cX3_isSame 1 = .ok (.getfield 9, 3) := by decide +kernel
theorem dX3_isSame_4 : decode cX3_isSame 4 = .ok (.arraylength, 1) := by decide +kernel
theorem dX3_isSame_5 : decode cX3_isSame 5 = .ok (.istore_n 2, 1) := by decide +kernel
theorem dX3_isSame_6 : decode cX3_isSame 6 = .ok (.iconst 0, 1) := by decide +kernel
theorem dX3_isSame_7 : decode cX3_isSame 7 = .ok (.istore_n 3, 1) := by decide +kernel
theorem dX3_isSame_8 : decode cX3_isSame 8 = .ok (.iconst 0, 1) := by decide +kernel
theorem dX3_isSame_9 : decode cX3_isSame 9 = .ok (.istore 4, 2) := by decide +kernel
theorem dX3_isSame_11 : decode cX3_isSame 11 = .ok (.iconst 0, 1) := by decide +kernel
theorem dX3_isSame_12 : decode cX3_isSame 12 = .ok (.istore 5, 2) := by decide +kernel
theorem dX3_isSame_14 : decode cX3_isSame 14 = .ok (.iconst 0, 1) := by decide +kernel
theorem dX3_isSame_15 : decode cX3_isSame 15 = .ok (.istore 6, 2) := by decide +kernel
theorem dX3_isSame_17 : decode cX3_isSame 17 = .ok (.iload 6, 2) := by decide +kernel
theorem dX3_isSame_19 : decode cX3_isSame 19 = .ok (.iload_n 2, 1) := by decide +kernel
theorem dX3_isSame_20 : decode cX3_isSame 20 = .ok (.if_icmp .ge 354, 3) := by decide +kernel
theorem dX3_isSame_23 : decode cX3_isSame 23 = .ok (.bipush 6, 2) := by decide +kernel
theorem dX3_isSame_25 : decode cX3_isSame 25 = .ok (.newarray .int, 2) := by decide +kernel
theorem dX3_isSame_27 : decode cX3_isSame 27 = .ok (.dup, 1) := by decide +kernel
theorem dX3_isSame_28 : decode cX3_isSame 28 = .ok (.iconst 0, 1) := by decide +kernel
theorem dX3_isSame_29 : decode cX3_isSame 29 = .ok (.aload_n 0, 1) := by decide +kernel
theorem dX3_isSame_30 : decode cX3_isSame 30 = .ok (.iload 6, 2) := by decide +kernel
theorem dX3_isSame_32 : decode cX3_isSame 32 = .ok (.invokevirtual 38, 3) := by decide +kernel
theorem dX3_isSame_35 : decode cX3_isSame 35 = .ok (.iastore, 1) := by decide +kernel
theorem dX3_isSame_36 : decode cX3_isSame 36 = .ok (.dup, 1) := by decide +kernel
theorem dX3_isSame_37 : decode cX3_isSame 37 = .ok (.iconst 1, 1) := by decide +kernel
theorem dX3_isSame_38 : decode cX3_isSame 38 = .ok (.aload_n 0, 1) := by decide +kernel
theorem dX3_isSame_39 : decode cX3_isSame 39 = .ok (.getfield 18, 3) := by decide +kernel
theorem dX3_isSame_42 : decode cX3_isSame 42 = .ok (.iload 6, 2) := by decide +kernel
theorem dX3_isSame_44 : decode cX3_isSame 44 = .ok (.iaload, 1) := by decide +kernel
theorem dX3_isSame_45 : decode cX3_isSame 45 = .ok (.iastore, 1) := by decide +kernel
theorem dX3_isSame_46 : decode cX3_isSame 46 = .ok (.dup, 1) := by decide +kernel
theorem dX3_isSame_47 : decode cX3_isSame 47 = .ok (.iconst 2, 1) := by decide +kernel
theorem dX3_isSame_48 : decode cX3_isSame 48 = .ok (.iconst 0, 1) := by decide +kernel
theorem dX3_isSame_49 : decode cX3_isSame 49 = .ok (.iastore, 1) := by decide +kernel
theorem dX3_isSame_50 : decode cX3_isSame 50 = .ok (.dup, 1) := by decide +kernel
theorem dX3_isSame_51 : decode cX3_isSame 51 = .ok (.iconst 3, 1) := by decide +kernel
theorem dX3_isSame_52 : decode cX3_isSame 52 = .ok (.iconst 0, 1) := by decide +kernel
theorem dX3_isSame_53 : decode cX3_isSame 53 = .ok (.iastore, 1) := by decide +kernel
theorem dX3_isSame_54 : decode cX3_isSame 54 = .ok (.dup, 1) := by decide +kernel
theorem dX3_isSame_55 : decode cX3_isSame 55 = .ok (.iconst 4, 1) := by decide +kernel
theorem dX3_isSame_56 : decode cX3_isSame 56 = .ok (.iconst 0, 1) := by decide +kernel
theorem dX3_isSame_57 : decode cX3_isSame 57 = .ok (.iastore, 1) := by decide +kernel
theorem dX3_isSame_58 : decode cX3_isSame 58 = .ok (.dup, 1) := by decide +kernel
theorem dX3_isSame_59 : decode cX3_isSame 59 = .ok (.iconst 5, 1) := by decide +kernel
theorem dX3_isSame_60 : decode cX3_isSame 60 = .ok (.iconst 0, 1) := by decide +kernel
theorem dX3_isSame_61 : decode cX3_isSame 61 = .ok (.iastore, 1) := by decide +kernel
theorem dX3_isSame_62 : decode cX3_isSame 62 = .ok (.astore 7, 2) := by decide +kernel
theorem dX3_isSame_64 : decode cX3_isSame 64 = .ok (.iconst 1, 1) := by decide +kernel
theorem dX3_isSame_65 : decode cX3_isSame 65 = .ok (.istore 8, 2) := by decide +kernel
theorem dX3_isSame_67 : decode cX3_isSame 67 = .ok (.iconst 0, 1) := by decide +kernel
theorem dX3_isSame_68 : decode cX3_isSame 68 = .ok (.istore 9, 2) := by decide +kernel
theorem dX3_isSame_70 : decode cX3_isSame 70 = .ok (.iload 9, 2) := by decide +kernel
theorem dX3_isSame_72 : decode cX3_isSame 72 = .ok (.iload 6, 2) := by decide +kernel
theorem dX3_isSame_74 : decode cX3_isSame 74 = .ok (.if_icmp .ge 34, 3) := by decide +kernel
theorem dX3_isSame_77 : decode cX3_isSame 77 = .ok (.iload 8, 2) := by decide +kernel
theorem dX3_isSame_79 : decode cX3_isSame 79 = .ok (.ifCond .eq 20, 3) := by decide +kernel
theorem dX3_isSame_82 : decode cX3_isSame 82 = .ok (.aload_n 0, 1) := by decide +kernel
theorem dX3_isSame_83 : decode cX3_isSame 83 = .ok (.iload 9, 2) := by decide +kernel
theorem dX3_isSame_85 : decode cX3_isSame 85 = .ok (.invokevirtual 38, 3) := by decide +kernel
theorem dX3_isSame_88 : decode cX3_isSame 88 = .ok (.aload 7, 2) := by decide +kernel
theorem dX3_isSame_90 : decode cX3_isSame 90 = .ok (.iconst 0, 1) := by decide +kernel
theorem dX3_isSame_91 : decode cX3_isSame 91 = .ok (.iaload, 1) := by decide +kernel
theorem dX3_isSame_92 : decode cX3_isSame 92 = .ok (.if_icmp .eq 7, 3) := by decide +kernel
theorem dX3_isSame_95 : decode cX3_isSame 95 = .ok (.iconst 1, 1) := by decide +kernel
theorem dX3_isSame_96 : decode cX3_isSame 96 = .ok (.goto 4, 3) := by decide +kernel
theorem dX3_isSame_99 : decode cX3_isSame 99 = .ok (.iconst 0, 1) := by decide +kernel
theorem dX3_isSame_100 : decode cX3_isSame 100 = .ok (.istore 8, 2) := by decide +kernel
theorem dX3_isSame_102 : decode cX3_isSame 102 = .ok (.iinc 9 1, 3) := by decide +kernel
theorem dX3_isSame_105 : decode cX3_isSame 105 = .ok (.goto (-35), 3) := by decide +kernel
theorem dX3_isSame_108 : decode cX3_isSame 108 = .ok (.iload_n 3, 1) := by decide +kernel
theorem dX3_isSame_109 : decode cX3_isSame 109 = .ok (.iload 8, 2) := by decide +kernel
theorem dX3_isSame_111 : decode cX3_isSame 111 = .ok (.ifCond .eq 7, 3) := by decide +kernel
theorem dX3_isSame_114 : decode cX3_isSame 114 = .ok (.iconst 1, 1) := by decide +kernel
theorem dX3_isSame_115 : decode cX3_isSame 115 = .ok (.goto 4, 3) := by decide +kernel
theorem dX3_isSame_118 : decode cX3_isSame 118 = .ok (.iconst 0, 1) := by decide +kernel
theorem dX3_isSame_119 : decode cX3_isSame 119 = .ok (.iadd, 1) := by decide +kernel
theorem dX3_isSame_120 : decode cX3_isSame 120 = .ok (.istore_n 3, 1) := by decide +kernel
theorem dX3_isSame_121 : decode cX3_isSame 121 = .ok (.iload 4, 2) := by decide +kernel
theorem dX3_isSame_123 : decode cX3_isSame 123 = .ok (.aload_n 0, 1) := by decide +kernel
theorem dX3_isSame_124 : decode cX3_isSame 124 = .ok (.getfield 18, 3) := by decide +kernel
theorem dX3_isSame_127 : decode cX3_isSame 127 = .ok (.iload 6, 2) := by decide +kernel
theorem dX3_isSame_129 : decode cX3_isSame 129 = .ok (.iaload, 1) := by decide +kernel
theorem dX3_isSame_130 : decode cX3_isSame 130 = .ok (.iadd, 1) := by decide +kernel
theorem dX3_isSame_131 : decode cX3_isSame 131 = .ok (.istore 4, 2) := by decide +kernel
theorem dX3_isSame_133 : decode cX3_isSame 133 = .ok (.iconst 0, 1) := by decide +kernel
theorem dX3_isSame_134 : decode cX3_isSame 134 = .ok (.istore 9, 2) := by decide +kernel
theorem dX3_isSame_136 : decode cX3_isSame 136 = .ok (.iload 9, 2) := by decide +kernel
theorem dX3_isSame_138 : decode cX3_isSame 138 = .ok (.bipush 16, 2) := by decide +kernel
theorem dX3_isSame_140 : decode cX3_isSame 140 = .ok (.if_icmp .ge 74, 3) := by decide +kernel
theorem dX3_isSame_143 : decode cX3_isSame 143 = .ok (.aload 7, 2) := by decide +kernel
theorem dX3_isSame_145 : decode cX3_isSame 145 = .ok (.iconst 2, 1) := by decide +kernel
theorem dX3_isSame_146 : decode cX3_isSame 146 = .ok (.dup2, 1) := by decide +kernel
theorem dX3_isSame_147 : decode cX3_isSame 147 = .ok (.iaload, 1) := by decide +kernel
theorem dX3_isSame_148 : decode cX3_isSame 148 = .ok (.aload_n 0, 1) := by decide +kernel
theorem dX3_isSame_149 : decode cX3_isSame 149 = .ok (.getfield 9, 3) := by decide +kernel
theorem dX3_isSame_152 : decode cX3_isSame 152 = .ok (.iload 6, 2) := by decide +kernel
theorem dX3_isSame_154 : decode cX3_isSame 154 = .ok (.aaload, 1) := by decide +kernel
theorem dX3_isSame_155 : decode cX3_isSame 155 = .ok (.iload 9, 2) := by decide +kernel
theorem dX3_isSame_157 : decode cX3_isSame 157 = .ok (.iaload, 1) := by decide +kernel
theorem dX3_isSame_158 : decode cX3_isSame 158 = .ok (.ifCond .le 7, 3) := by decide +kernel
theorem dX3_isSame_161 : decode cX3_isSame 161 = .ok (.iconst 1, 1) := by decide +kernel
theorem dX3_isSame_162 : decode cX3_isSame 162 = .ok (.goto 4, 3) := by decide +kernel
theorem dX3_isSame_165 : decode cX3_isSame 165 = .ok (.iconst 0, 1) := by decide +kernel
theorem dX3_isSame_166 : decode cX3_isSame 166 = .ok (.iadd, 1) := by decide +kernel
theorem dX3_isSame_167 : decode cX3_isSame 167 = .ok (.iastore, 1) := by decide +kernel
theorem dX3_isSame_168 : decode cX3_isSame 168 = .ok (.aload 7, 2) := by decide +kernel
theorem dX3_isSame_170 : decode cX3_isSame 170 = .ok (.iconst 3, 1) := by decide +kernel
theorem dX3_isSame_171 : decode cX3_isSame 171 = .ok (.dup2, 1) := by decide +kernel
theorem dX3_isSame_172 : decode cX3_isSame 172 = .ok (.iaload, 1) := by decide +kernel
theorem dX3_isSame_173 : decode cX3_isSame 173 = .ok (.aload_n 0, 1) := by decide +kernel
theorem dX3_isSame_174 : decode cX3_isSame 174 = .ok (.getfield 9, 3) := by decide +kernel
theorem dX3_isSame_177 : decode cX3_isSame 177 = .ok (.iload 6, 2) := by decide +kernel
theorem dX3_isSame_179 : decode cX3_isSame 179 = .ok (.aaload, 1) := by decide +kernel
theorem dX3_isSame_180 : decode cX3_isSame 180 = .ok (.iload 9, 2) := by decide +kernel
theorem dX3_isSame_182 : decode cX3_isSame 182 = .ok (.iaload, 1) := by decide +kernel
theorem dX3_isSame_183 : decode cX3_isSame 183 = .ok (.iadd, 1) := by decide +kernel
theorem dX3_isSame_184 : decode cX3_isSame 184 = .ok (.iastore, 1) := by decide +kernel
theorem dX3_isSame_185 : decode cX3_isSame 185 = .ok (.aload_n 1, 1) := by decide +kernel
theorem dX3_isSame_186 : decode cX3_isSame 186 = .ok (.iload 6, 2) := by decide +kernel
theorem dX3_isSame_188 : decode cX3_isSame 188 = .ok (.iload 9, 2) := by decide +kernel
theorem dX3_isSame_190 : decode cX3_isSame 190 = .ok (.invokevirtual 42, 3) := by decide +kernel
theorem dX3_isSame_193 : decode cX3_isSame 193 = .ok (.aload_n 0, 1) := by decide +kernel
theorem dX3_isSame_194 : decode cX3_isSame 194 = .ok (.getfield 9, 3) := by decide +kernel
theorem dX3_isSame_197 : decode cX3_isSame 197 = .ok (.iload 6, 2) := by decide +kernel
theorem dX3_isSame_199 : decode cX3_isSame 199 = .ok (.aaload, 1) := by decide +kernel
theorem dX3_isSame_200 : decode cX3_isSame 200 = .ok (.iload 9, 2) := by decide +kernel
theorem dX3_isSame_202 : decode cX3_isSame 202 = .ok (.iaload, 1) := by decide +kernel
theorem dX3_isSame_203 : decode cX3_isSame 203 = .ok (.if_icmp .eq 5, 3) := by decide +kernel
theorem dX3_isSame_206 : decode cX3_isSame 206 = .ok (.iconst 0, 1) := by decide +kernel
theorem dX3_isSame_207 : decode cX3_isSame 207 = .ok (.ireturn, 1) := by decide +kernel
theorem dX3_isSame_208 : decode cX3_isSame 208 = .ok (.iinc 9 1, 3) := by decide +kernel
theorem dX3_isSame_211 : decode cX3_isSame 211 = .ok (.goto (-75), 3) := by decide +kernel
theorem dX3_isSame_214 : decode cX3_isSame 214 = .ok (.aload_n 0, 1) := by decide +kernel
theorem dX3_isSame_215 : decode cX3_isSame 215 = .ok (.getfield 15, 3) := by decide +kernel
theorem dX3_isSame_218 : decode cX3_isSame 218 = .ok (.astore 9, 2) := by decide +kernel
theorem dX3_isSame_220 : decode cX3_isSame 220 = .ok (.aload 9, 2) := by decide +kernel
theorem dX3_isSame_222 : decode cX3_isSame 222 = .ok (.arraylength, 1) := by decide +kernel
theorem dX3_isSame_223 : decode cX3_isSame 223 = .ok (.istore 10, 2) := by decide +kernel
theorem dX3_isSame_225 : decode cX3_isSame 225 = .ok (.iconst 0, 1) := by decide +kernel
theorem dX3_isSame_226 : decode cX3_isSame 226 = .ok (.istore 11, 2) := by decide +kernel
theorem dX3_isSame_228 : decode cX3_isSame 228 = .ok (.iload 11, 2) := by decide +kernel
theorem dX3_isSame_230 : decode cX3_isSame 230 = .ok (.iload 10, 2) := by decide +kernel
theorem dX3_isSame_232 : decode cX3_isSame 232 = .ok (.if_icmp .ge 69, 3) := by decide +kernel
theorem dX3_isSame_235 : decode cX3_isSame 235 = .ok (.aload 9, 2) := by decide +kernel
theorem dX3_isSame_237 : decode cX3_isSame 237 = .ok (.iload 11, 2) := by decide +kernel
theorem dX3_isSame_239 : decode cX3_isSame 239 = .ok (.aaload, 1) := by decide +kernel
theorem dX3_isSame_240 : decode cX3_isSame 240 = .ok (.astore 12, 2) := by decide +kernel
theorem dX3_isSame_242 : decode cX3_isSame 242 = .ok (.aload 7, 2) := by decide +kernel
theorem dX3_isSame_244 : decode cX3_isSame 244 = .ok (.iconst 4, 1) := by decide +kernel
theorem dX3_isSame_245 : decode cX3_isSame 245 = .ok (.dup2, 1) := by decide +kernel
theorem dX3_isSame_246 : decode cX3_isSame 246 = .ok (.iaload, 1) := by decide +kernel
theorem dX3_isSame_247 : decode cX3_isSame 247 = .ok (.aload 12, 2) := by decide +kernel
theorem dX3_isSame_249 : decode cX3_isSame 249 = .ok (.iconst 0, 1) := by decide +kernel
theorem dX3_isSame_250 : decode cX3_isSame 250 = .ok (.iaload, 1) := by decide +kernel
theorem dX3_isSame_251 : decode cX3_isSame 251 = .ok (.iload 6, 2) := by decide +kernel
theorem dX3_isSame_253 : decode cX3_isSame 253 = .ok (.if_icmp .ne 7, 3) := by decide +kernel
theorem dX3_isSame_256 : decode cX3_isSame 256 = .ok (.iconst 1, 1) := by decide +kernel
theorem dX3_isSame_257 : decode cX3_isSame 257 = .ok (.goto 4, 3) := by decide +kernel
theorem dX3_isSame_260 : decode cX3_isSame 260 = .ok (.iconst 0, 1) := by decide +kernel
theorem dX3_isSame_261 : decode cX3_isSame 261 = .ok (.iadd, 1) := by decide +kernel
theorem dX3_isSame_262 : decode cX3_isSame 262 = .ok (.iastore, 1) := by decide +kernel
theorem dX3_isSame_263 : decode cX3_isSame 263 = .ok (.aload 7, 2) := by decide +kernel
theorem dX3_isSame_265 : decode cX3_isSame 265 = .ok (.iconst 5, 1) := by decide +kernel
theorem dX3_isSame_266 : decode cX3_isSame 266 = .ok (.dup2, 1) := by decide +kernel
theorem dX3_isSame_267 : decode cX3_isSame 267 = .ok (.iaload, 1) := by decide +kernel
theorem dX3_isSame_268 : decode cX3_isSame 268 = .ok (.aload 12, 2) := by decide +kernel
theorem dX3_isSame_270 : decode cX3_isSame 270 = .ok (.iconst 0, 1) := by decide +kernel
theorem dX3_isSame_271 : decode cX3_isSame 271 = .ok (.iaload, 1) := by decide +kernel
theorem dX3_isSame_272 : decode cX3_isSame 272 = .ok (.iload 6, 2) := by decide +kernel
theorem dX3_isSame_274 : decode cX3_isSame 274 = .ok (.if_icmp .ne 18, 3) := by decide +kernel
theorem dX3_isSame_277 : decode cX3_isSame 277 = .ok (.aload 12, 2) := by decide +kernel
theorem dX3_isSame_279 : decode cX3_isSame 279 = .ok (.iconst 1, 1) := by decide +kernel
theorem dX3_isSame_280 : decode cX3_isSame 280 = .ok (.iaload, 1) := by decide +kernel
theorem dX3_isSame_281 : decode cX3_isSame 281 = .ok (.aload 7, 2) := by decide +kernel
theorem dX3_isSame_283 : decode cX3_isSame 283 = .ok (.iconst 0, 1) := by decide +kernel
theorem dX3_isSame_284 : decode cX3_isSame 284 = .ok (.iaload, 1) := by decide +kernel
theorem dX3_isSame_285 : decode cX3_isSame 285 = .ok (.if_icmp .ne 7, 3) := by decide +kernel
theorem dX3_isSame_288 : decode cX3_isSame 288 = .ok (.iconst 1, 1) := by decide +kernel
theorem dX3_isSame_289 : decode cX3_isSame 289 = .ok (.goto 4, 3) := by decide +kernel
theorem dX3_isSame_292 : decode cX3_isSame 292 = .ok (.iconst 0, 1) := by decide +kernel
theorem dX3_isSame_293 : decode cX3_isSame 293 = .ok (.iadd, 1) := by decide +kernel
theorem dX3_isSame_294 : decode cX3_isSame 294 = .ok (.iastore, 1) := by decide +kernel
theorem dX3_isSame_295 : decode cX3_isSame 295 = .ok (.iinc 11 1, 3) := by decide +kernel
theorem dX3_isSame_298 : decode cX3_isSame 298 = .ok (.goto (-70), 3) := by decide +kernel
theorem dX3_isSame_301 : decode cX3_isSame 301 = .ok (.iconst 0, 1) := by decide +kernel
theorem dX3_isSame_302 : decode cX3_isSame 302 = .ok (.istore 9, 2) := by decide +kernel
theorem dX3_isSame_304 : decode cX3_isSame 304 = .ok (.iload 9, 2) := by decide +kernel
theorem dX3_isSame_306 : decode cX3_isSame 306 = .ok (.bipush 6, 2) := by decide +kernel
theorem dX3_isSame_308 : decode cX3_isSame 308 = .ok (.if_icmp .ge 27, 3) := by decide +kernel
theorem dX3_isSame_311 : decode cX3_isSame 311 = .ok (.aload_n 1, 1) := by decide +kernel
theorem dX3_isSame_312 : decode cX3_isSame 312 = .ok (.iload 6, 2) := by decide +kernel
theorem dX3_isSame_314 : decode cX3_isSame 314 = .ok (.iload 9, 2) := by decide +kernel
theorem dX3_isSame_316 : decode cX3_isSame 316 = .ok (.invokevirtual 48, 3) := by decide +kernel
theorem dX3_isSame_319 : decode cX3_isSame 319 = .ok (.aload 7, 2) := by decide +kernel
theorem dX3_isSame_321 : decode cX3_isSame 321 = .ok (.iload 9, 2) := by decide +kernel
theorem dX3_isSame_323 : decode cX3_isSame 323 = .ok (.iaload, 1) := by decide +kernel
theorem dX3_isSame_324 : decode cX3_isSame 324 = .ok (.if_icmp .eq 5, 3) := by decide +kernel
theorem dX3_isSame_327 : decode cX3_isSame 327 = .ok (.iconst 0, 1) := by decide +kernel
theorem dX3_isSame_328 : decode cX3_isSame 328 = .ok (.ireturn, 1) := by decide +kernel
theorem dX3_isSame_329 : decode cX3_isSame 329 = .ok (.iinc 9 1, 3) := by decide +kernel
theorem dX3_isSame_332 : decode cX3_isSame 332 = .ok (.goto (-28), 3) := by decide +kernel
theorem dX3_isSame_335 : decode cX3_isSame 335 = .ok (.iconst 1, 1) := by decide +kernel
theorem dX3_isSame_336 : decode cX3_isSame 336 = .ok (.istore 9, 2) := by decide +kernel
theorem dX3_isSame_338 : decode cX3_isSame 338 = .ok (.iload 9, 2) := by decide +kernel
theorem dX3_isSame_340 : decode cX3_isSame 340 = .ok (.bipush 32, 2) := by decide +kernel
theorem dX3_isSame_342 : decode cX3_isSame 342 = .ok (.if_icmp .ge 26, 3) := by decide +kernel
theorem dX3_isSame_345 : decode cX3_isSame 345 = .ok (.iload 5, 2) := by decide +kernel
theorem dX3_isSame_347 : decode cX3_isSame 347 = .ok (.aload_n 0, 1) := by decide +kernel
theorem dX3_isSame_348 : decode cX3_isSame 348 = .ok (.getfield 9, 3) := by decide +kernel
theorem dX3_isSame_351 : decode cX3_isSame 351 = .ok (.iload 6, 2) := by decide +kernel
theorem dX3_isSame_353 : decode cX3_isSame 353 = .ok (.aaload, 1) := by decide +kernel
theorem dX3_isSame_354 : decode cX3_isSame 354 = .ok (.iload 9, 2) := by decide +kernel
theorem dX3_isSame_356 : decode cX3_isSame 356 = .ok (.invokestatic 21, 3) := by decide +kernel
theorem dX3_isSame_359 : decode cX3_isSame 359 = .ok (.iadd, 1) := by decide +kernel
theorem dX3_isSame_360 : decode cX3_isSame 360 = .ok (.istore 5, 2) := by decide +kernel
theorem dX3_isSame_362 : decode cX3_isSame 362 = .ok (.iinc 9 1, 3) := by decide +kernel
theorem dX3_isSame_365 : decode cX3_isSame 365 = .ok (.goto (-27), 3) := by decide +kernel
theorem dX3_isSame_368 : decode cX3_isSame 368 = .ok (.iinc 6 1, 3) := by decide +kernel
theorem dX3_isSame_371 : decode cX3_isSame 371 = .ok (.goto (-354), 3) := by decide +kernel
theorem dX3_isSame_374 : decode cX3_isSame 374 = .ok (.iconst 0, 1) := by decide +kernel
theorem dX3_isSame_375 : decode cX3_isSame 375 = .ok (.istore 6, 2) := by decide +kernel
theorem dX3_isSame_377 : decode cX3_isSame 377 = .ok (.iload 6, 2) := by decide +kernel
theorem dX3_isSame_379 : decode cX3_isSame 379 = .ok (.aload_n 0, 1) := by decide +kernel
theorem dX3_isSame_380 : decode cX3_isSame 380 = .ok (.getfield 15, 3) := by decide +kernel
theorem dX3_isSame_383 : decode cX3_isSame 383 = .ok (.arraylength, 1) := by decide +kernel
theorem dX3_isSame_384 : decode cX3_isSame 384 = .ok (.if_icmp .ge 110, 3) := by decide +kernel
theorem dX3_isSame_387 : decode cX3_isSame 387 = .ok (.iconst 4, 1) := by decide +kernel
theorem dX3_isSame_388 : decode cX3_isSame 388 = .ok (.newarray .int, 2) := by decide +kernel
theorem dX3_isSame_390 : decode cX3_isSame 390 = .ok (.dup, 1) := by decide +kernel
theorem dX3_isSame_391 : decode cX3_isSame 391 = .ok (.iconst 0, 1) := by decide +kernel
theorem dX3_isSame_392 : decode cX3_isSame 392 = .ok (.aload_n 0, 1) := by decide +kernel
theorem dX3_isSame_393 : decode cX3_isSame 393 = .ok (.getfield 15, 3) := by decide +kernel
theorem dX3_isSame_396 : decode cX3_isSame 396 = .ok (.iload 6, 2) := by decide +kernel
theorem dX3_isSame_398 : decode cX3_isSame 398 = .ok (.aaload, 1) := by decide +kernel
theorem dX3_isSame_399 : decode cX3_isSame 399 = .ok (.iconst 0, 1) := by decide +kernel
theorem dX3_isSame_400 : decode cX3_isSame 400 = .ok (.iaload, 1) := by decide +kernel
theorem dX3_isSame_401 : decode cX3_isSame 401 = .ok (.iastore, 1) := by decide +kernel
theorem dX3_isSame_402 : decode cX3_isSame 402 = .ok (.dup, 1) := by decide +kernel
theorem dX3_isSame_403 : decode cX3_isSame 403 = .ok (.iconst 1, 1) := by decide +kernel
theorem dX3_isSame_404 : decode cX3_isSame 404 = .ok (.aload_n 0, 1) := by decide +kernel
theorem dX3_isSame_405 : decode cX3_isSame 405 = .ok (.getfield 15, 3) := by decide +kernel
theorem dX3_isSame_408 : decode cX3_isSame 408 = .ok (.iload 6, 2) := by decide +kernel
theorem dX3_isSame_410 : decode cX3_isSame 410 = .ok (.aaload, 1) := by decide +kernel
theorem dX3_isSame_411 : decode cX3_isSame 411 = .ok (.iconst 1, 1) := by decide +kernel
theorem dX3_isSame_412 : decode cX3_isSame 412 = .ok (.iaload, 1) := by decide +kernel
theorem dX3_isSame_413 : decode cX3_isSame 413 = .ok (.iastore, 1) := by decide +kernel
theorem dX3_isSame_414 : decode cX3_isSame 414 = .ok (.dup, 1) := by decide +kernel
theorem dX3_isSame_415 : decode cX3_isSame 415 = .ok (.iconst 2, 1) := by decide +kernel
theorem dX3_isSame_416 : decode cX3_isSame 416 = .ok (.aload_n 0, 1) := by decide +kernel
theorem dX3_isSame_417 : decode cX3_isSame 417 = .ok (.getfield 15, 3) := by decide +kernel
theorem dX3_isSame_420 : decode cX3_isSame 420 = .ok (.iload 6, 2) := by decide +kernel
theorem dX3_isSame_422 : decode cX3_isSame 422 = .ok (.aaload, 1) := by decide +kernel
theorem dX3_isSame_423 : decode cX3_isSame 423 = .ok (.iconst 2, 1) := by decide +kernel
theorem dX3_isSame_424 : decode cX3_isSame 424 = .ok (.iaload, 1) := by decide +kernel
theorem dX3_isSame_425 : decode cX3_isSame 425 = .ok (.iastore, 1) := by decide +kernel
theorem dX3_isSame_426 : decode cX3_isSame 426 = .ok (.dup, 1) := by decide +kernel
theorem dX3_isSame_427 : decode cX3_isSame 427 = .ok (.iconst 3, 1) := by decide +kernel
theorem dX3_isSame_428 : decode cX3_isSame 428 = .ok (.aload_n 0, 1) := by decide +kernel
theorem dX3_isSame_429 : decode cX3_isSame 429 = .ok (.getfield 18, 3) := by decide +kernel
theorem dX3_isSame_432 : decode cX3_isSame 432 = .ok (.aload_n 0, 1) := by decide +kernel
theorem dX3_isSame_433 : decode cX3_isSame 433 = .ok (.getfield 15, 3) := by decide +kernel
theorem dX3_isSame_436 : decode cX3_isSame 436 = .ok (.iload 6, 2) := by decide +kernel
theorem dX3_isSame_438 : decode cX3_isSame 438 = .ok (.aaload, 1) := by decide +kernel
theorem dX3_isSame_439 : decode cX3_isSame 439 = .ok (.iconst 0, 1) := by decide +kernel
theorem dX3_isSame_440 : decode cX3_isSame 440 = .ok (.iaload, 1) := by decide +kernel
theorem dX3_isSame_441 : decode cX3_isSame 441 = .ok (.iaload, 1) := by decide +kernel
theorem dX3_isSame_442 : decode cX3_isSame 442 = .ok (.aload_n 0, 1) := by decide +kernel
theorem dX3_isSame_443 : decode cX3_isSame 443 = .ok (.getfield 15, 3) := by decide +kernel
theorem dX3_isSame_446 : decode cX3_isSame 446 = .ok (.iload 6, 2) := by decide +kernel
theorem dX3_isSame_448 : decode cX3_isSame 448 = .ok (.aaload, 1) := by decide +kernel
theorem dX3_isSame_449 : decode cX3_isSame 449 = .ok (.iconst 2, 1) := by decide +kernel
theorem dX3_isSame_450 : decode cX3_isSame 450 = .ok (.iaload, 1) := by decide +kernel
theorem dX3_isSame_451 : decode cX3_isSame 451 = .ok (.isub, 1) := by decide +kernel
theorem dX3_isSame_452 : decode cX3_isSame 452 = .ok (.iastore, 1) := by decide +kernel
theorem dX3_isSame_453 : decode cX3_isSame 453 = .ok (.astore 7, 2) := by decide +kernel
theorem dX3_isSame_455 : decode cX3_isSame 455 = .ok (.iconst 0, 1) := by decide +kernel
theorem dX3_isSame_456 : decode cX3_isSame 456 = .ok (.istore 8, 2) := by decide +kernel
theorem dX3_isSame_458 : decode cX3_isSame 458 = .ok (.iload 8, 2) := by decide +kernel
theorem dX3_isSame_460 : decode cX3_isSame 460 = .ok (.iconst 4, 1) := by decide +kernel
theorem dX3_isSame_461 : decode cX3_isSame 461 = .ok (.if_icmp .ge 27, 3) := by decide +kernel
theorem dX3_isSame_464 : decode cX3_isSame 464 = .ok (.aload_n 1, 1) := by decide +kernel
theorem dX3_isSame_465 : decode cX3_isSame 465 = .ok (.iload 6, 2) := by decide +kernel
theorem dX3_isSame_467 : decode cX3_isSame 467 = .ok (.iload 8, 2) := by decide +kernel
theorem dX3_isSame_469 : decode cX3_isSame 469 = .ok (.invokevirtual 51, 3) := by decide +kernel
theorem dX3_isSame_472 : decode cX3_isSame 472 = .ok (.aload 7, 2) := by decide +kernel
theorem dX3_isSame_474 : decode cX3_isSame 474 = .ok (.iload 8, 2) := by decide +kernel
theorem dX3_isSame_476 : decode cX3_isSame 476 = .ok (.iaload, 1) := by decide +kernel
theorem dX3_isSame_477 : decode cX3_isSame 477 = .ok (.if_icmp .eq 5, 3) := by decide +kernel
theorem dX3_isSame_480 : decode cX3_isSame 480 = .ok (.iconst 0, 1) := by decide +kernel
theorem dX3_isSame_481 : decode cX3_isSame 481 = .ok (.ireturn, 1) := by decide +kernel
theorem dX3_isSame_482 : decode cX3_isSame 482 = .ok (.iinc 8 1, 3) := by decide +kernel
theorem dX3_isSame_485 : decode cX3_isSame 485 = .ok (.goto (-27), 3) := by decide +kernel
theorem dX3_isSame_488 : decode cX3_isSame 488 = .ok (.iinc 6 1, 3) := by decide +kernel
theorem dX3_isSame_491 : decode cX3_isSame 491 = .ok (.goto (-114), 3) := by decide +kernel
theorem dX3_isSame_494 : decode cX3_isSame 494 = .ok (.aload_n 1, 1) := by decide +kernel
theorem dX3_isSame_495 : decode cX3_isSame 495 = .ok (.iconst 0, 1) := by decide +kernel
theorem dX3_isSame_496 : decode cX3_isSame 496 = .ok (.invokevirtual 54, 3) := by decide +kernel
theorem dX3_isSame_499 : decode cX3_isSame 499 = .ok (.iload_n 2, 1) := by decide +kernel
theorem dX3_isSame_500 : decode cX3_isSame 500 = .ok (.if_icmp .ne 64, 3) := by decide +kernel
theorem dX3_isSame_503 : decode cX3_isSame 503 = .ok (.aload_n 1, 1) := by decide +kernel
theorem dX3_isSame_504 : decode cX3_isSame 504 = .ok (.iconst 1, 1) := by decide +kernel
theorem dX3_isSame_505 : decode cX3_isSame 505 = .ok (.invokevirtual 54, 3) := by decide +kernel
theorem dX3_isSame_508 : decode cX3_isSame 508 = .ok (.aload_n 0, 1) := by decide +kernel
theorem dX3_isSame_509 : decode cX3_isSame 509 = .ok (.getfield 15, 3) := by decide +kernel
theorem dX3_isSame_512 : decode cX3_isSame 512 = .ok (.arraylength, 1) := by decide +kernel
theorem dX3_isSame_513 : decode cX3_isSame 513 = .ok (.if_icmp .ne 51, 3) := by decide +kernel
theorem dX3_isSame_516 : decode cX3_isSame 516 = .ok (.aload_n 1, 1) := by decide +kernel
theorem dX3_isSame_517 : decode cX3_isSame 517 = .ok (.iconst 2, 1) := by decide +kernel
theorem dX3_isSame_518 : decode cX3_isSame 518 = .ok (.invokevirtual 54, 3) := by decide +kernel
theorem dX3_isSame_521 : decode cX3_isSame 521 = .ok (.iload_n 3, 1) := by decide +kernel
theorem dX3_isSame_522 : decode cX3_isSame 522 = .ok (.if_icmp .ne 42, 3) := by decide +kernel
theorem dX3_isSame_525 : decode cX3_isSame 525 = .ok (.aload_n 1, 1) := by decide +kernel
theorem dX3_isSame_526 : decode cX3_isSame 526 = .ok (.iconst 3, 1) := by decide +kernel
theorem dX3_isSame_527 : decode cX3_isSame 527 = .ok (.invokevirtual 54, 3) := by decide +kernel
theorem dX3_isSame_530 : decode cX3_isSame 530 = .ok (.iload 4, 2) := by decide +kernel
theorem dX3_isSame_532 : decode cX3_isSame 532 = .ok (.if_icmp .ne 32, 3) := by decide +kernel
theorem dX3_isSame_535 : decode cX3_isSame 535 = .ok (.aload_n 1, 1) := by decide +kernel
theorem dX3_isSame_536 : decode cX3_isSame 536 = .ok (.invokevirtual 57, 3) := by decide +kernel
theorem dX3_isSame_539 : decode cX3_isSame 539 = .ok (.iload_n 2, 1) := by decide +kernel
theorem dX3_isSame_540 : decode cX3_isSame 540 = .ok (.ifCond .ne 7, 3) := by decide +kernel
theorem dX3_isSame_543 : decode cX3_isSame 543 = .ok (.dconst 0, 1) := by decide +kernel
theorem dX3_isSame_544 : decode cX3_isSame 544 = .ok (.goto 12, 3) := by decide +kernel
theorem dX3_isSame_547 : decode cX3_isSame 547 = .ok (.iload 5, 2) := by decide +kernel
theorem dX3_isSame_549 : decode cX3_isSame 549 = .ok (.i2d, 1) := by decide +kernel
theorem dX3_isSame_550 : decode cX3_isSame 550 = .ok (.bipush 31, 2) := by decide +kernel
theorem dX3_isSame_552 : decode cX3_isSame 552 = .ok (.iload_n 2, 1) := by decide +kernel
theorem dX3_isSame_553 : decode cX3_isSame 553 = .ok (.imul, 1) := by decide +kernel
theorem dX3_isSame_554 : decode cX3_isSame 554 = .ok (.i2d, 1) := by decide +kernel
theorem dX3_isSame_555 : decode cX3_isSame 555 = .ok (.ddiv, 1) := by decide +kernel
theorem dX3_isSame_556 : decode cX3_isSame 556 = .ok (.dcmp .l, 1) := by decide +kernel
theorem dX3_isSame_557 : decode cX3_isSame 557 = .ok (.ifCond .ne 7, 3) := by decide +kernel
theorem dX3_isSame_560 : decode cX3_isSame 560 = .ok (.iconst 1, 1) := by decide +kernel
theorem dX3_isSame_561 : decode cX3_isSame 561 = .ok (.goto 4, 3) := by decide +kernel
theorem dX3_isSame_564 : decode cX3_isSame 564 = .ok (.iconst 0, 1) := by decide +kernel
theorem dX3_isSame_565 : decode cX3_isSame 565 = .ok (.ireturn, 1) := by decide +kernel
theorem dJ6_bitCount_0f7a4_0 : decode cJ6_bitCount_0f7a4 0 = .ok (.iload_n 0, 1) := by decide +kernel
theorem dJ6_bitCount_0f7a4_1 : decode cJ6_bitCount_0f7a4 1 = .ok (.iload_n 0, 1) := by decide +kernel
theorem dJ6_bitCount_0f7a4_2 : decode cJ6_bitCount_0f7a4 2 = .ok (.iconst 1, 1) := by decide +kernel
theorem dJ6_bitCount_0f7a4_3 : decode cJ6_bitCount_0f7a4 3 = .ok (.iushr, 1) := by decide +kernel
theorem dJ6_bitCount_0f7a4_4 : decode cJ6_bitCount_0f7a4 4 = .ok (.ldc_w 265, 3) := by decide +kernel
theorem dJ6_bitCount_0f7a4_7 : decode cJ6_bitCount_0f7a4 7 = .ok (.iand, 1) := by decide +kernel
theorem dJ6_bitCount_0f7a4_8 : decode cJ6_bitCount_0f7a4 8 = .ok (.isub, 1) := by decide +kernel
theorem dJ6_bitCount_0f7a4_9 : decode cJ6_bitCount_0f7a4 9 = .ok (.istore_n 0, 1) := by decide +kernel
theorem dJ6_bitCount_0f7a4_10 : decode cJ6_bitCount_0f7a4 10 = .ok (.iload_n 0, 1) := by decide +kernel
theorem dJ6_bitCount_0f7a4_11 : decode cJ6_bitCount_0f7a4 11 = .ok (.ldc_w 266, 3) := by decide +kernel
theorem dJ6_bitCount_0f7a4_14 : decode cJ6_bitCount_0f7a4 14 = .ok (.iand, 1) := by decide +kernel
theorem dJ6_bitCount_0f7a4_15 : decode cJ6_bitCount_0f7a4 15 = .ok (.iload_n 0, 1) := by decide +kernel
theorem dJ6_bitCount_0f7a4_16 : decode cJ6_bitCount_0f7a4 16 = .ok (.iconst 2, 1) := by decide +kernel
theorem dJ6_bitCount_0f7a4_17 : decode cJ6_bitCount_0f7a4 17 = .ok (.iushr, 1) := by decide +kernel
theorem dJ6_bitCount_0f7a4_18 : decode cJ6_bitCount_0f7a4 18 = .ok (.ldc_w 266, 3) := by decide +kernel
theorem dJ6_bitCount_0f7a4_21 : decode cJ6_bitCount_0f7a4 21 = .ok (.iand, 1) := by decide +kernel
theorem dJ6_bitCount_0f7a4_22 : decode cJ6_bitCount_0f7a4 22 = .ok (.iadd, 1) := by decide +kernel
theorem dJ6_bitCount_0f7a4_23 : decode cJ6_bitCount_0f7a4 23 = .ok (.istore_n 0, 1) := by decide +kernel
theorem dJ6_bitCount_0f7a4_24 : decode cJ6_bitCount_0f7a4 24 = .ok (.iload_n 0, 1) := by decide +kernel
theorem dJ6_bitCount_0f7a4_25 : decode cJ6_bitCount_0f7a4 25 = .ok (.iload_n 0, 1) := by decide +kernel
theorem dJ6_bitCount_0f7a4_26 : decode cJ6_bitCount_0f7a4 26 = .ok (.iconst 4, 1) := by decide +kernel
theorem dJ6_bitCount_0f7a4_27 : decode cJ6_bitCount_0f7a4 27 = .ok (.iushr, 1) := by decide +kernel
theorem dJ6_bitCount_0f7a4_28 : decode cJ6_bitCount_0f7a4 28 = .ok (.iadd, 1) := by decide +kernel
theorem dJ6_bitCount_0f7a4_29 : decode cJ6_bitCount_0f7a4 29 = .ok (.ldc_w 267, 3) := by decide +kernel
theorem dJ6_bitCount_0f7a4_32 : decode cJ6_bitCount_0f7a4 32 = .ok (.iand, 1) := by decide +kernel
theorem dJ6_bitCount_0f7a4_33 : decode cJ6_bitCount_0f7a4 33 = .ok (.istore_n 0, 1) := by decide +kernel
theorem dJ6_bitCount_0f7a4_34 : decode cJ6_bitCount_0f7a4 34 = .ok (.iload_n 0, 1) := by decide +kernel
theorem dJ6_bitCount_0f7a4_35 : decode cJ6_bitCount_0f7a4 35 = .ok (.iload_n 0, 1) := by decide +kernel
theorem dJ6_bitCount_0f7a4_36 : decode cJ6_bitCount_0f7a4 36 = .ok (.bipush 8, 2) := by decide +kernel
theorem dJ6_bitCount_0f7a4_38 : decode cJ6_bitCount_0f7a4 38 = .ok (.iushr, 1) := by decide +kernel
theorem dJ6_bitCount_0f7a4_39 : decode cJ6_bitCount_0f7a4 39 = .ok (.iadd, 1) := by decide +kernel
theorem dJ6_bitCount_0f7a4_40 : decode cJ6_bitCount_0f7a4 40 = .ok (.istore_n 0, 1) := by decide +kernel
theorem dJ6_bitCount_0f7a4_41 : decode cJ6_bitCount_0f7a4 41 = .ok (.iload_n 0, 1) := by decide +kernel
theorem dJ6_bitCount_0f7a4_42 : decode cJ6_bitCount_0f7a4 42 = .ok (.iload_n 0, 1) := by decide +kernel
theorem dJ6_bitCount_0f7a4_43 : decode cJ6_bitCount_0f7a4 43 = .ok (.bipush 16, 2) := by decide +kernel
theorem dJ6_bitCount_0f7a4_45 : decode cJ6_bitCount_0f7a4 45 = .ok (.iushr, 1) := by decide +kernel
theorem dJ6_bitCount_0f7a4_46 : decode cJ6_bitCount_0f7a4 46 = .ok (.iadd, 1) := by decide +kernel
theorem dJ6_bitCount_0f7a4_47 : decode cJ6_bitCount_0f7a4 47 = .ok (.istore_n 0, 1) := by decide +kernel
theorem dJ6_bitCount_0f7a4_48 : decode cJ6_bitCount_0f7a4 48 = .ok (.iload_n 0, 1) := by decide +kernel
theorem dJ6_bitCount_0f7a4_49 : decode cJ6_bitCount_0f7a4 49 = .ok (.bipush 63, 2) := by decide +kernel
theorem dJ6_bitCount_0f7a4_51 : decode cJ6_bitCount_0f7a4 51 = .ok (.iand, 1) := by decide +kernel
theorem dJ6_bitCount_0f7a4_52 : decode cJ6_bitCount_0f7a4 52 = .ok (.ireturn, 1) := by decide +kernel
theorem dL_below_0 : decode cL_below 0 = .ok (.iload_n 0, 1) := by decide +kernel
theorem dL_below_1 : decode cL_below 1 = .ok (.ldc 7, 2) := by decide +kernel
theorem dL_below_3 : decode cL_below 3 = .ok (.iand, 1) := by decide +kernel
theorem dL_below_4 : decode cL_below 4 = .ok (.iload_n 1, 1) := by decide +kernel
theorem dL_below_5 : decode cL_below 5 = .ok (.irem, 1) := by decide +kernel
theorem dL_below_6 : decode cL_below 6 = .ok (.ireturn, 1) := by decide +kernel
theorem dL_cell_0 : decode cL_cell 0 = .ok (.iload_n 1, 1) := by decide +kernel
theorem dL_cell_1 : decode cL_cell 1 = .ok (.aload_n 0, 1) := by decide +kernel
theorem dL_cell_2 : decode cL_cell 2 = .ok (.arraylength, 1) := by decide +kernel
theorem dL_cell_3 : decode cL_cell 3 = .ok (.if_icmp .ge 9, 3) := by decide +kernel
theorem dL_cell_6 : decode cL_cell 6 = .ok (.aload_n 0, 1) := by decide +kernel
theorem dL_cell_7 : decode cL_cell 7 = .ok (.iload_n 1, 1) := by decide +kernel
theorem dL_cell_8 : decode cL_cell 8 = .ok (.iaload, 1) := by decide +kernel
theorem dL_cell_9 : decode cL_cell 9 = .ok (.goto 9, 3) := by decide +kernel
theorem dL_cell_12 : decode cL_cell 12 = .ok (.ldc 8, 2) := by decide +kernel
theorem dL_cell_14 : decode cL_cell 14 = .ok (.iload_n 1, 1) := by decide +kernel
theorem dL_cell_15 : decode cL_cell 15 = .ok (.iconst 3, 1) := by decide +kernel
theorem dL_cell_16 : decode cL_cell 16 = .ok (.iadd, 1) := by decide +kernel
theorem dL_cell_17 : decode cL_cell 17 = .ok (.imul, 1) := by decide +kernel
theorem dL_cell_18 : decode cL_cell 18 = .ok (.ireturn, 1) := by decide +kernel
set_option maxRecDepth 20000 in
theorem ggL_act_L_below : GoodIn wsL_act wsL_below := goodIn_r _ [8, 9] (by decide +kernel) (by decide +kernel)
set_option maxRecDepth 20000 in
theorem gL_act_L_below : GoodIn wsL_act (va_wsS RL 15 yL_below wsL_below) := goodIn_app (goodIn_of _ (by decide +kernel)) ggL_act_L_below
set_option maxRecDepth 20000 in
theorem ggL_act_X3_more : GoodIn wsL_act wsX3_more := goodIn_r _ [13, 14] (by decide +kernel) (by decide +kernel)
set_option maxRecDepth 20000 in
theorem gL_act_X3_more : GoodIn wsL_act (va_wsS RL 21 yX3_more wsX3_more) := goodIn_app (goodIn_of _ (by decide +kernel)) ggL_act_X3_more
set_option maxRecDepth 20000 in
theorem ggL_act_X2_come : GoodIn wsL_act wsX2_come := goodIn_ca (goodIn_r _ [19, 20, 21, 22, 23, 24, 25, 26, 27, 28, 29, 30, 31, 2, 32, 33, 34, 18, 35, 36, 37, 144, 145, 146, 147, 148, 149, 150, 151] (by decide +kernel) (by decide +kernel)) (goodIn_sub (fun _ h => List.mem_cons_of_mem _ (List.mem_append_left _ (List.mem_append_left _ (List.mem_append_right _ h)))) (by decide +kernel))
set_option maxRecDepth 20000 in
theorem gL_act_X2_come : GoodIn wsL_act (wsV RL 25 RX2 yX2_come wsX2_come) := goodIn_app (goodIn_of _ (by decide +kernel)) ggL_act_X2_come
set_option maxRecDepth 20000 in
theorem ggL_act_X3_root : GoodIn wsL_act wsX3_root := goodIn_r _ [41, 42, 43, 44, 12, 45, 141, 142, 143] (by decide +kernel) (by decide +kernel)
set_option maxRecDepth 20000 in
theorem gL_act_X3_root : GoodIn wsL_act (wsV RL 34 RX3 yX3_root wsX3_root) := goodIn_app (goodIn_of _ (by decide +kernel)) ggL_act_X3_root
set_option maxRecDepth 20000 in
theorem ggL_act_X2_seal : GoodIn wsL_act wsX2_seal := goodIn_ca (goodIn_ca (goodIn_r _ [49, 20, 21, 50, 51, 52, 53, 54, 55, 56, 57, 18, 58, 59, 60, 22, 23, 61, 26, 62, 63, 33, 64, 65, 66, 30, 31, 67, 68, 69, 144, 145, 146, 147, 148, 152, 153, 154, 149, 150, 151] (by decide +kernel) (by decide +kernel)) (goodIn_sub (fun _ h => List.mem_cons_of_mem _ (List.mem_append_left _ (List.mem_append_left _ (List.mem_append_right _ h)))) (by decide +kernel))) (goodIn_sub (fun _ h => List.mem_cons_of_mem _ (List.mem_append_left _ (List.mem_append_right _ h))) (by decide +kernel))
set_option maxRecDepth 20000 in
theorem gL_act_X2_seal : GoodIn wsL_act (wsV RL 42 RX2 yX2_seal wsX2_seal) := goodIn_app (goodIn_of _ (by decide +kernel)) ggL_act_X2_seal
set_option maxRecDepth 20000 in
theorem ggL_act_X2_swap : GoodIn wsL_act wsX2_swap := goodIn_ca (goodIn_r _ [73, 74, 75, 76, 77, 78, 55, 56, 57, 18, 58, 59, 60, 22, 23, 79, 80, 81, 82, 26, 83, 84, 32, 85, 33, 86, 87, 88, 34, 35, 89, 36, 37, 90, 91, 92, 149, 150, 151, 144, 145, 146, 147, 148] (by decide +kernel) (by decide +kernel)) (goodIn_sub (fun _ h => List.mem_cons_of_mem _ (List.mem_append_left _ (List.mem_append_right _ h))) (by decide +kernel))
set_option maxRecDepth 20000 in
theorem gL_act_X2_swap : GoodIn wsL_act (wsV RL 45 RX2 yX2_swap wsX2_swap) := goodIn_app (goodIn_of _ (by decide +kernel)) ggL_act_X2_swap
set_option maxRecDepth 20000 in
theorem ggL_act_X3_swap : GoodIn wsL_act wsX3_swap := goodIn_r _ [96, 2, 42, 43, 44, 12, 45, 97, 98, 99, 100, 101, 141, 142, 143] (by decide +kernel) (by decide +kernel)
set_option maxRecDepth 20000 in
theorem gL_act_X3_swap : GoodIn wsL_act (wsV RL 49 RX3 yX3_swap wsX3_swap) := goodIn_app (goodIn_of _ (by decide +kernel)) ggL_act_X3_swap
set_option maxRecDepth 20000 in
theorem ggL_act_X2_mend : GoodIn wsL_act wsX2_mend := goodIn_ca (goodIn_r _ [105, 55, 56, 57, 18, 58, 59, 60, 22, 23, 106, 107, 108, 109, 110, 111, 112, 113, 114, 82, 26, 83, 84, 32, 85, 33, 86, 87, 88, 34, 35, 89, 36, 37, 115, 116, 117, 118, 119, 120, 121, 149, 150, 151, 144, 145, 146, 147, 148] (by decide +kernel) (by decide +kernel)) (goodIn_sub (fun _ h => List.mem_cons_of_mem _ (List.mem_append_left _ (List.mem_append_right _ h))) (by decide +kernel))
set_option maxRecDepth 20000 in
theorem gL_act_X2_mend : GoodIn wsL_act (wsV RL 50 RX2 yX2_mend wsX2_mend) := goodIn_app (goodIn_of _ (by decide +kernel)) ggL_act_X2_mend
set_option maxRecDepth 20000 in
theorem ggL_act_X3_mend : GoodIn wsL_act wsX3_mend := goodIn_r _ [125, 126, 42, 127, 128, 129, 12, 130, 43, 44, 45, 97, 98, 99, 100, 101, 141, 142, 143] (by decide +kernel) (by decide +kernel)
set_option maxRecDepth 20000 in
theorem gL_act_X3_mend : GoodIn wsL_act (wsV RL 53 RX3 yX3_mend wsX3_mend) := goodIn_app (goodIn_of _ (by decide +kernel)) ggL_act_X3_mend
set_option maxRecDepth 20000 in
theorem ggL_act_X3_put : GoodIn wsL_act wsX3_put := goodIn_r _ [100, 42, 101, 141, 142, 143] (by decide +kernel) (by decide +kernel)
set_option maxRecDepth 20000 in
theorem gL_act_X3_put : GoodIn wsL_act (wsV RL 54 RX3 yX3_put wsX3_put) := goodIn_app (goodIn_of _ (by decide +kernel)) ggL_act_X3_put
set_option maxRecDepth 20000 in
theorem ggL_act_X2_put : GoodIn wsL_act wsX2_put := goodIn_ca (goodIn_ca (goodIn_r _ [135, 55, 56, 57, 18, 58, 59, 60, 22, 23, 79, 80, 81, 136, 137, 138, 139, 140, 82, 26, 83, 84, 32, 85, 33, 86, 87, 88, 34, 35, 89, 36, 37, 149, 150, 151, 144, 145, 146, 147, 148] (by decide +kernel) (by decide +kernel)) (goodIn_sub (fun _ h => List.mem_cons_of_mem _ (List.mem_append_left _ (List.mem_append_right _ h))) (by decide +kernel))) (goodIn_sub (fun _ h => List.mem_cons_of_mem _ (List.mem_append_right _ h)) (by decide +kernel))
set_option maxRecDepth 20000 in
theorem gL_act_X2_put : GoodIn wsL_act (wsV RL 58 RX2 yX2_put wsX2_put) := goodIn_app (goodIn_of _ (by decide +kernel)) ggL_act_X2_put
theorem dL_act_0 : decode cL_act 0 = .ok (.aload_n 1, 1) := by decide +kernel
theorem dL_act_1 : decode cL_act 1 = .ok (.getfield 9, 3) := by decide +kernel
theorem dL_act_4 : decode cL_act 4 = .ok (.arraylength, 1) := by decide +kernel
theorem dL_act_5 : decode cL_act 5 = .ok (.istore_n 3, 1) := by decide +kernel
theorem dL_act_6 : decode cL_act 6 = .ok (.iload_n 3, 1) := by decide +kernel
theorem dL_act_7 : decode cL_act 7 = .ok (.ifCond .ne 7, 3) := by decide +kernel
theorem dL_act_10 : decode cL_act 10 = .ok (.iconst 0, 1) := by decide +kernel
theorem dL_act_11 : decode cL_act 11 = .ok (.goto 8, 3) := by decide +kernel
theorem dL_act_14 : decode cL_act 14 = .ok (.iload_n 2, 1) := by decide +kernel
theorem dL_act_15 : decode cL_act 15 = .ok (.iload_n 3, 1) := by decide +kernel
theorem dL_act_16 : decode cL_act 16 = .ok (.invokestatic 15, 3) := by decide +kernel
theorem dL_act_19 : decode cL_act 19 = .ok (.istore 4, 2) := by decide +kernel
theorem dL_act_21 : decode cL_act 21 = .ok (.iload_n 2, 1) := by decide +kernel
theorem dL_act_22 : decode cL_act 22 = .ok (.iconst 2, 1) := by decide +kernel
theorem dL_act_23 : decode cL_act 23 = .ok (.ishr, 1) := by decide +kernel
theorem dL_act_24 : decode cL_act 24 = .ok (.bipush 16, 2) := by decide +kernel
theorem dL_act_26 : decode cL_act 26 = .ok (.invokestatic 15, 3) := by decide +kernel
theorem dL_act_29 : decode cL_act 29 = .ok (.istore 5, 2) := by decide +kernel
theorem dL_act_31 : decode cL_act 31 = .ok (.iload_n 3, 1) := by decide +kernel
theorem dL_act_32 : decode cL_act 32 = .ok (.ifCond .ne 7, 3) := by decide +kernel
theorem dL_act_35 : decode cL_act 35 = .ok (.iconst 0, 1) := by decide +kernel
theorem dL_act_36 : decode cL_act 36 = .ok (.goto 12, 3) := by decide +kernel
theorem dL_act_39 : decode cL_act 39 = .ok (.iload_n 2, 1) := by decide +kernel
theorem dL_act_40 : decode cL_act 40 = .ok (.bipush 9, 2) := by decide +kernel
theorem dL_act_42 : decode cL_act 42 = .ok (.ishr, 1) := by decide +kernel
theorem dL_act_43 : decode cL_act 43 = .ok (.bipush 12, 2) := by decide +kernel
theorem dL_act_45 : decode cL_act 45 = .ok (.invokestatic 15, 3) := by decide +kernel
theorem dL_act_48 : decode cL_act 48 = .ok (.tableswitch 224 0 5 #[40, 77, 77, 149, 149, 190], 40) := by decide +kernel
theorem dL_act_88 : decode cL_act 88 = .ok (.iload_n 3, 1) := by decide +kernel
theorem dL_act_89 : decode cL_act 89 = .ok (.bipush 6, 2) := by decide +kernel
theorem dL_act_91 : decode cL_act 91 = .ok (.if_icmp .ne 5, 3) := by decide +kernel
theorem dL_act_94 : decode cL_act 94 = .ok (.iconst 1, 1) := by decide +kernel
theorem dL_act_95 : decode cL_act 95 = .ok (.ireturn, 1) := by decide +kernel
theorem dL_act_96 : decode cL_act 96 = .ok (.aload_n 1, 1) := by decide +kernel
theorem dL_act_97 : decode cL_act 97 = .ok (.aload_n 1, 1) := by decide +kernel
theorem dL_act_98 : decode cL_act 98 = .ok (.getfield 9, 3) := by decide +kernel
theorem dL_act_101 : decode cL_act 101 = .ok (.bipush 16, 2) := by decide +kernel
theorem dL_act_103 : decode cL_act 103 = .ok (.newarray .int, 2) := by decide +kernel
theorem dL_act_105 : decode cL_act 105 = .ok (.invokestatic 21, 3) := by decide +kernel
theorem dL_act_108 : decode cL_act 108 = .ok (.putfield 9, 3) := by decide +kernel
theorem dL_act_111 : decode cL_act 111 = .ok (.aload_n 0, 1) := by decide +kernel
theorem dL_act_112 : decode cL_act 112 = .ok (.invokevirtual 25, 3) := by decide +kernel
theorem dL_act_115 : decode cL_act 115 = .ok (.iload_n 3, 1) := by decide +kernel
theorem dL_act_116 : decode cL_act 116 = .ok (.if_icmp .ne 7, 3) := by decide +kernel
theorem dL_act_119 : decode cL_act 119 = .ok (.iconst 1, 1) := by decide +kernel
theorem dL_act_120 : decode cL_act 120 = .ok (.goto 4, 3) := by decide +kernel
theorem dL_act_123 : decode cL_act 123 = .ok (.iconst 0, 1) := by decide +kernel
theorem dL_act_124 : decode cL_act 124 = .ok (.ireturn, 1) := by decide +kernel
theorem dL_act_125 : decode cL_act 125 = .ok (.aload_n 1, 1) := by decide +kernel
theorem dL_act_126 : decode cL_act 126 = .ok (.getfield 31, 3) := by decide +kernel
theorem dL_act_129 : decode cL_act 129 = .ok (.arraylength, 1) := by decide +kernel
theorem dL_act_130 : decode cL_act 130 = .ok (.bipush 20, 2) := by decide +kernel
theorem dL_act_132 : decode cL_act 132 = .ok (.if_icmp .ne 5, 3) := by decide +kernel
theorem dL_act_135 : decode cL_act 135 = .ok (.iconst 1, 1) := by decide +kernel
theorem dL_act_136 : decode cL_act 136 = .ok (.ireturn, 1) := by decide +kernel
theorem dL_act_137 : decode cL_act 137 = .ok (.aload_n 1, 1) := by decide +kernel
theorem dL_act_138 : decode cL_act 138 = .ok (.aload_n 1, 1) := by decide +kernel
theorem dL_act_139 : decode cL_act 139 = .ok (.getfield 31, 3) := by decide +kernel
theorem dL_act_142 : decode cL_act 142 = .ok (.iconst 3, 1) := by decide +kernel
theorem dL_act_143 : decode cL_act 143 = .ok (.newarray .int, 2) := by decide +kernel
theorem dL_act_145 : decode cL_act 145 = .ok (.dup, 1) := by decide +kernel
theorem dL_act_146 : decode cL_act 146 = .ok (.iconst 0, 1) := by decide +kernel
theorem dL_act_147 : decode cL_act 147 = .ok (.iload 4, 2) := by decide +kernel
theorem dL_act_149 : decode cL_act 149 = .ok (.iastore, 1) := by decide +kernel
theorem dL_act_150 : decode cL_act 150 = .ok (.dup, 1) := by decide +kernel
theorem dL_act_151 : decode cL_act 151 = .ok (.iconst 1, 1) := by decide +kernel
theorem dL_act_152 : decode cL_act 152 = .ok (.aload_n 1, 1) := by decide +kernel
theorem dL_act_153 : decode cL_act 153 = .ok (.iload 4, 2) := by decide +kernel
theorem dL_act_155 : decode cL_act 155 = .ok (.invokevirtual 34, 3) := by decide +kernel
theorem dL_act_158 : decode cL_act 158 = .ok (.iastore, 1) := by decide +kernel
theorem dL_act_159 : decode cL_act 159 = .ok (.dup, 1) := by decide +kernel
theorem dL_act_160 : decode cL_act 160 = .ok (.iconst 2, 1) := by decide +kernel
theorem dL_act_161 : decode cL_act 161 = .ok (.aload_n 1, 1) := by decide +kernel
theorem dL_act_162 : decode cL_act 162 = .ok (.getfield 38, 3) := by decide +kernel
theorem dL_act_165 : decode cL_act 165 = .ok (.iload 4, 2) := by decide +kernel
theorem dL_act_167 : decode cL_act 167 = .ok (.iaload, 1) := by decide +kernel
theorem dL_act_168 : decode cL_act 168 = .ok (.iastore, 1) := by decide +kernel
theorem dL_act_169 : decode cL_act 169 = .ok (.invokestatic 21, 3) := by decide +kernel
theorem dL_act_172 : decode cL_act 172 = .ok (.putfield 31, 3) := by decide +kernel
theorem dL_act_175 : decode cL_act 175 = .ok (.aload_n 0, 1) := by decide +kernel
theorem dL_act_176 : decode cL_act 176 = .ok (.iload 4, 2) := by decide +kernel
theorem dL_act_178 : decode cL_act 178 = .ok (.invokevirtual 42, 3) := by decide +kernel
theorem dL_act_181 : decode cL_act 181 = .ok (.aload_n 1, 1) := by decide +kernel
theorem dL_act_182 : decode cL_act 182 = .ok (.getfield 31, 3) := by decide +kernel
theorem dL_act_185 : decode cL_act 185 = .ok (.arraylength, 1) := by decide +kernel
theorem dL_act_186 : decode cL_act 186 = .ok (.iconst 1, 1) := by decide +kernel
theorem dL_act_187 : decode cL_act 187 = .ok (.isub, 1) := by decide +kernel
theorem dL_act_188 : decode cL_act 188 = .ok (.if_icmp .ne 7, 3) := by decide +kernel
theorem dL_act_191 : decode cL_act 191 = .ok (.iconst 1, 1) := by decide +kernel
theorem dL_act_192 : decode cL_act 192 = .ok (.goto 4, 3) := by decide +kernel
theorem dL_act_195 : decode cL_act 195 = .ok (.iconst 0, 1) := by decide +kernel
theorem dL_act_196 : decode cL_act 196 = .ok (.ireturn, 1) := by decide +kernel
theorem dL_act_197 : decode cL_act 197 = .ok (.aload_n 0, 1) := by decide +kernel
theorem dL_act_198 : decode cL_act 198 = .ok (.iload 4, 2) := by decide +kernel
theorem dL_act_200 : decode cL_act 200 = .ok (.iload 5, 2) := by decide +kernel
theorem dL_act_202 : decode cL_act 202 = .ok (.iload_n 2, 1) := by decide +kernel
theorem dL_act_203 : decode cL_act 203 = .ok (.iconst 5, 1) := by decide +kernel
theorem dL_act_204 : decode cL_act 204 = .ok (.ishr, 1) := by decide +kernel
theorem dL_act_205 : decode cL_act 205 = .ok (.bipush 16, 2) := by decide +kernel
theorem dL_act_207 : decode cL_act 207 = .ok (.invokestatic 15, 3) := by decide +kernel
theorem dL_act_210 : decode cL_act 210 = .ok (.invokevirtual 45, 3) := by decide +kernel
theorem dL_act_213 : decode cL_act 213 = .ok (.aload_n 1, 1) := by decide +kernel
theorem dL_act_214 : decode cL_act 214 = .ok (.iload 4, 2) := by decide +kernel
theorem dL_act_216 : decode cL_act 216 = .ok (.iload 5, 2) := by decide +kernel
theorem dL_act_218 : decode cL_act 218 = .ok (.iload_n 2, 1) := by decide +kernel
theorem dL_act_219 : decode cL_act 219 = .ok (.iconst 5, 1) := by decide +kernel
theorem dL_act_220 : decode cL_act 220 = .ok (.ishr, 1) := by decide +kernel
theorem dL_act_221 : decode cL_act 221 = .ok (.bipush 16, 2) := by decide +kernel
theorem dL_act_223 : decode cL_act 223 = .ok (.invokestatic 15, 3) := by decide +kernel
theorem dL_act_226 : decode cL_act 226 = .ok (.invokevirtual 49, 3) := by decide +kernel
theorem dL_act_229 : decode cL_act 229 = .ok (.if_icmp .ne 7, 3) := by decide +kernel
theorem dL_act_232 : decode cL_act 232 = .ok (.iconst 1, 1) := by decide +kernel
theorem dL_act_233 : decode cL_act 233 = .ok (.goto 4, 3) := by decide +kernel
theorem dL_act_236 : decode cL_act 236 = .ok (.iconst 0, 1) := by decide +kernel
theorem dL_act_237 : decode cL_act 237 = .ok (.ireturn, 1) := by decide +kernel
theorem dL_act_238 : decode cL_act 238 = .ok (.iload_n 2, 1) := by decide +kernel
theorem dL_act_239 : decode cL_act 239 = .ok (.iconst 3, 1) := by decide +kernel
theorem dL_act_240 : decode cL_act 240 = .ok (.ishr, 1) := by decide +kernel
theorem dL_act_241 : decode cL_act 241 = .ok (.iload_n 3, 1) := by decide +kernel
theorem dL_act_242 : decode cL_act 242 = .ok (.invokestatic 15, 3) := by decide +kernel
theorem dL_act_245 : decode cL_act 245 = .ok (.istore 6, 2) := by decide +kernel
theorem dL_act_247 : decode cL_act 247 = .ok (.aload_n 0, 1) := by decide +kernel
theorem dL_act_248 : decode cL_act 248 = .ok (.iload 4, 2) := by decide +kernel
theorem dL_act_250 : decode cL_act 250 = .ok (.iload 6, 2) := by decide +kernel
theorem dL_act_252 : decode cL_act 252 = .ok (.invokevirtual 50, 3) := by decide +kernel
theorem dL_act_255 : decode cL_act 255 = .ok (.aload_n 1, 1) := by decide +kernel
theorem dL_act_256 : decode cL_act 256 = .ok (.iload 4, 2) := by decide +kernel
theorem dL_act_258 : decode cL_act 258 = .ok (.iload 6, 2) := by decide +kernel
theorem dL_act_260 : decode cL_act 260 = .ok (.invokevirtual 53, 3) := by decide +kernel
theorem dL_act_263 : decode cL_act 263 = .ok (.if_icmp .ne 7, 3) := by decide +kernel
theorem dL_act_266 : decode cL_act 266 = .ok (.iconst 1, 1) := by decide +kernel
theorem dL_act_267 : decode cL_act 267 = .ok (.goto 4, 3) := by decide +kernel
theorem dL_act_270 : decode cL_act 270 = .ok (.iconst 0, 1) := by decide +kernel
theorem dL_act_271 : decode cL_act 271 = .ok (.ireturn, 1) := by decide +kernel
theorem dL_act_272 : decode cL_act 272 = .ok (.aload_n 1, 1) := by decide +kernel
theorem dL_act_273 : decode cL_act 273 = .ok (.getfield 9, 3) := by decide +kernel
theorem dL_act_276 : decode cL_act 276 = .ok (.iload 4, 2) := by decide +kernel
theorem dL_act_278 : decode cL_act 278 = .ok (.aaload, 1) := by decide +kernel
theorem dL_act_279 : decode cL_act 279 = .ok (.iload 5, 2) := by decide +kernel
theorem dL_act_281 : decode cL_act 281 = .ok (.iaload, 1) := by decide +kernel
theorem dL_act_282 : decode cL_act 282 = .ok (.istore 7, 2) := by decide +kernel
theorem dL_act_284 : decode cL_act 284 = .ok (.iload_n 2, 1) := by decide +kernel
theorem dL_act_285 : decode cL_act 285 = .ok (.bipush 6, 2) := by decide +kernel
theorem dL_act_287 : decode cL_act 287 = .ok (.ishr, 1) := by decide +kernel
theorem dL_act_288 : decode cL_act 288 = .ok (.iconst 3, 1) := by decide +kernel
theorem dL_act_289 : decode cL_act 289 = .ok (.invokestatic 15, 3) := by decide +kernel
theorem dL_act_292 : decode cL_act 292 = .ok (.ifCond .ne 13, 3) := by decide +kernel
theorem dL_act_295 : decode cL_act 295 = .ok (.iload_n 2, 1) := by decide +kernel
theorem dL_act_296 : decode cL_act 296 = .ok (.iconst 3, 1) := by decide +kernel
theorem dL_act_297 : decode cL_act 297 = .ok (.ishr, 1) := by decide +kernel
theorem dL_act_298 : decode cL_act 298 = .ok (.iconst 4, 1) := by decide +kernel
theorem dL_act_299 : decode cL_act 299 = .ok (.invokestatic 15, 3) := by decide +kernel
theorem dL_act_302 : decode cL_act 302 = .ok (.goto 12, 3) := by decide +kernel
theorem dL_act_305 : decode cL_act 305 = .ok (.iload_n 2, 1) := by decide +kernel
theorem dL_act_306 : decode cL_act 306 = .ok (.iconst 3, 1) := by decide +kernel
theorem dL_act_307 : decode cL_act 307 = .ok (.imul, 1) := by decide +kernel
theorem dL_act_308 : decode cL_act 308 = .ok (.sipush 10000, 3) := by decide +kernel
theorem dL_act_311 : decode cL_act 311 = .ok (.invokestatic 15, 3) := by decide +kernel
theorem dL_act_314 : decode cL_act 314 = .ok (.istore 8, 2) := by decide +kernel
theorem dL_act_316 : decode cL_act 316 = .ok (.aload_n 1, 1) := by decide +kernel
theorem dL_act_317 : decode cL_act 317 = .ok (.iload 4, 2) := by decide +kernel
theorem dL_act_319 : decode cL_act 319 = .ok (.iload 5, 2) := by decide +kernel
theorem dL_act_321 : decode cL_act 321 = .ok (.iload 8, 2) := by decide +kernel
theorem dL_act_323 : decode cL_act 323 = .ok (.invokevirtual 54, 3) := by decide +kernel
theorem dL_act_326 : decode cL_act 326 = .ok (.pop, 1) := by decide +kernel
theorem dL_act_327 : decode cL_act 327 = .ok (.aload_n 0, 1) := by decide +kernel
theorem dL_act_328 : decode cL_act 328 = .ok (.iload 4, 2) := by decide +kernel
theorem dL_act_330 : decode cL_act 330 = .ok (.iload 5, 2) := by decide +kernel
theorem dL_act_332 : decode cL_act 332 = .ok (.iload 8, 2) := by decide +kernel
theorem dL_act_334 : decode cL_act 334 = .ok (.invokevirtual 58, 3) := by decide +kernel
theorem dL_act_337 : decode cL_act 337 = .ok (.iload 7, 2) := by decide +kernel
theorem dL_act_339 : decode cL_act 339 = .ok (.if_icmp .ne 7, 3) := by decide +kernel
theorem dL_act_342 : decode cL_act 342 = .ok (.iconst 1, 1) := by decide +kernel
theorem dL_act_343 : decode cL_act 343 = .ok (.goto 4, 3) := by decide +kernel
theorem dL_act_346 : decode cL_act 346 = .ok (.iconst 0, 1) := by decide +kernel
theorem dL_act_347 : decode cL_act 347 = .ok (.ireturn, 1) := by decide +kernel
set_option maxRecDepth 20000 in
theorem ggL_build_X3_init : GoodIn wsL_build wsX3_init := goodIn_r _ [5, 6, 7, 8, 9, 10, 11, 12, 13, 154, 155, 156] (by decide +kernel) (by decide +kernel)
set_option maxRecDepth 20000 in
theorem gL_build_X3_init_n60 : GoodIn wsL_build (wsX3_init) := ggL_build_X3_init
set_option maxRecDepth 20000 in
theorem ggL_build_L_cell : GoodIn wsL_build wsL_cell := goodIn_r _ [17, 18] (by decide +kernel) (by decide +kernel)
set_option maxRecDepth 20000 in
theorem gL_build_L_cell : GoodIn wsL_build (va_wsS RL 61 yL_cell wsL_cell) := goodIn_app (goodIn_of _ (by decide +kernel)) ggL_build_L_cell
set_option maxRecDepth 20000 in
theorem ggL_build_L_act : GoodIn wsL_build wsL_act := goodIn_ca (goodIn_ca (goodIn_ca (goodIn_r _ [21, 22, 12, 23, 24, 25, 26, 16, 27, 28, 29, 30, 3, 31, 9, 32, 33, 34, 35, 36, 37, 38, 39, 40, 41, 42, 43, 44, 45, 46, 7, 8, 47, 48, 49, 50, 51, 52, 53, 54, 55, 56, 10, 57, 58, 59, 60, 61, 62, 63, 64, 65, 66, 67, 68, 69, 70, 71, 72, 73, 74, 75, 76, 77, 78, 79, 80, 81, 82, 83, 84, 85, 86, 87, 88, 89, 90, 91, 92, 93, 94, 95, 96, 97, 98, 99, 100, 101, 102, 103, 104, 105, 106, 107, 108, 109, 110, 111, 112, 113, 114, 13, 115, 116, 117, 118, 119, 120, 121, 122, 123, 124, 125, 126, 127, 128, 129, 130, 131, 132, 133, 134, 135, 136, 137, 138, 139, 140, 141, 142, 143, 144, 145, 146, 147, 148, 149, 150, 151, 152, 153, 154, 155, 156, 157, 158, 159, 160, 161, 162, 163, 164, 165, 166, 167] (by decide +kernel) (by decide +kernel)) (goodIn_sub (fun _ h => List.mem_cons_of_mem _ (List.mem_append_left _ (List.mem_append_left _ (List.mem_append_right _ h)))) (by decide +kernel))) (goodIn_sub (fun _ h => List.mem_cons_of_mem _ (List.mem_append_left _ (List.mem_append_right _ h))) (by decide +kernel))) (goodIn_sub (fun _ h => List.mem_cons_of_mem _ (List.mem_append_right _ h)) (by decide +kernel))
set_option maxRecDepth 20000 in
theorem gL_build_L_act : GoodIn wsL_build (va_wsS RL 65 yL_act wsL_act) := goodIn_app (goodIn_of _ (by decide +kernel)) ggL_build_L_act
theorem dL_build_0 : decode cL_build 0 = .ok (.new 10, 3) := by decide +kernel
theorem dL_build_3 : decode cL_build 3 = .ok (.dup, 1) := by decide +kernel
theorem dL_build_4 : decode cL_build 4 = .ok (.invokespecial 60, 3) := by decide +kernel
theorem dL_build_7 : decode cL_build 7 = .ok (.astore_n 2, 1) := by decide +kernel
theorem dL_build_8 : decode cL_build 8 = .ok (.iconst 0, 1) := by decide +kernel
theorem dL_build_9 : decode cL_build 9 = .ok (.istore_n 3, 1) := by decide +kernel
theorem dL_build_10 : decode cL_build 10 = .ok (.iload_n 3, 1) := by decide +kernel
theorem dL_build_11 : decode cL_build 11 = .ok (.bipush 30, 2) := by decide +kernel
theorem dL_build_13 : decode cL_build 13 = .ok (.if_icmp .ge 40, 3) := by decide +kernel
theorem dL_build_16 : decode cL_build 16 = .ok (.aload_n 0, 1) := by decide +kernel
theorem dL_build_17 : decode cL_build 17 = .ok (.aload_n 2, 1) := by decide +kernel
theorem dL_build_18 : decode cL_build 18 = .ok (.aload_n 1, 1) := by decide +kernel
theorem dL_build_19 : decode cL_build 19 = .ok (.iload_n 3, 1) := by decide +kernel
theorem dL_build_20 : decode cL_build 20 = .ok (.bipush 15, 2) := by decide +kernel
theorem dL_build_22 : decode cL_build 22 = .ok (.irem, 1) := by decide +kernel
theorem dL_build_23 : decode cL_build 23 = .ok (.invokestatic 61, 3) := by decide +kernel
theorem dL_build_26 : decode cL_build 26 = .ok (.iload_n 3, 1) := by decide +kernel
theorem dL_build_27 : decode cL_build 27 = .ok (.bipush 15, 2) := by decide +kernel
theorem dL_build_29 : decode cL_build 29 = .ok (.idiv, 1) := by decide +kernel
theorem dL_build_30 : decode cL_build 30 = .ok (.iconst 4, 1) := by decide +kernel
theorem dL_build_31 : decode cL_build 31 = .ok (.imul, 1) := by decide +kernel
theorem dL_build_32 : decode cL_build 32 = .ok (.ishr, 1) := by decide +kernel
theorem dL_build_33 : decode cL_build 33 = .ok (.sipush 227, 3) := by decide +kernel
theorem dL_build_36 : decode cL_build 36 = .ok (.iload_n 3, 1) := by decide +kernel
theorem dL_build_37 : decode cL_build 37 = .ok (.imul, 1) := by decide +kernel
theorem dL_build_38 : decode cL_build 38 = .ok (.iadd, 1) := by decide +kernel
theorem dL_build_39 : decode cL_build 39 = .ok (.invokestatic 65, 3) := by decide +kernel
theorem dL_build_42 : decode cL_build 42 = .ok (.ifCond .ne 5, 3) := by decide +kernel
theorem dL_build_45 : decode cL_build 45 = .ok (.aconst_null, 1) := by decide +kernel
theorem dL_build_46 : decode cL_build 46 = .ok (.areturn, 1) := by decide +kernel
theorem dL_build_47 : decode cL_build 47 = .ok (.iinc 3 1, 3) := by decide +kernel
theorem dL_build_50 : decode cL_build 50 = .ok (.goto (-40), 3) := by decide +kernel
theorem dL_build_53 : decode cL_build 53 = .ok (.aload_n 2, 1) := by decide +kernel
theorem dL_build_54 : decode cL_build 54 = .ok (.areturn, 1) := by decide +kernel
set_option maxRecDepth 20000 in
theorem ggL_law_X2_init : GoodIn wsL_law wsX2_init := goodIn_r _ [7, 8, 9, 10, 11, 12, 13, 14, 4, 15, 267, 268, 269, 270, 271] (by decide +kernel) (by decide +kernel)
set_option maxRecDepth 20000 in
theorem gL_law_X2_init : GoodIn wsL_law (wsX2_init) := ggL_law_X2_init
set_option maxRecDepth 20000 in
theorem ggL_law_L_build : GoodIn wsL_law wsL_build := goodIn_ca (goodIn_ca (goodIn_ca (goodIn_r _ [19, 20, 21, 22, 23, 24, 25, 9, 10, 26, 27, 28, 4, 29, 30, 31, 18, 32, 33, 34, 35, 36, 37, 38, 39, 40, 41, 42, 43, 44, 45, 46, 47, 48, 49, 2, 50, 51, 52, 53, 12, 11, 54, 55, 56, 57, 58, 59, 60, 61, 62, 63, 64, 65, 66, 67, 68, 69, 70, 71, 72, 73, 74, 75, 76, 14, 13, 77, 78, 79, 80, 81, 82, 83, 84, 85, 86, 87, 88, 89, 90, 91, 92, 93, 94, 95, 96, 97, 15, 98, 99, 100, 101, 102, 103, 104, 105, 106, 107, 108, 109, 110, 111, 112, 113, 114, 115, 116, 117, 118, 119, 120, 121, 122, 123, 124, 125, 126, 127, 128, 129, 130, 131, 132, 133, 134, 135, 136, 137, 138, 139, 140, 141, 142, 143, 144, 145, 146, 147, 148, 149, 150, 151, 152, 153, 154, 155, 156, 157, 158, 159, 160, 161, 162, 272, 273, 274, 267, 268, 269, 270, 271, 275, 276, 277, 278, 279, 280] (by decide +kernel) (by decide +kernel)) (goodIn_sub (fun _ h => List.mem_append_left _ (List.mem_append_left _ (List.mem_append_right _ h))) (by decide +kernel))) (goodIn_sub (fun _ h => List.mem_append_left _ (List.mem_append_right _ h)) (by decide +kernel))) (goodIn_sub (fun _ h => List.mem_append_right _ h) (by decide +kernel))
set_option maxRecDepth 20000 in
theorem gL_law_L_build : GoodIn wsL_law (va_wsS RL 70 yL_build wsL_build) := goodIn_app (goodIn_of _ (by decide +kernel)) ggL_law_L_build
set_option maxRecDepth 20000 in
theorem ggL_law_L_cell : GoodIn wsL_law wsL_cell := goodIn_r _ [32, 33] (by decide +kernel) (by decide +kernel)
set_option maxRecDepth 20000 in
theorem gL_law_L_cell : GoodIn wsL_law (va_wsS RL 61 yL_cell wsL_cell) := goodIn_app (goodIn_of _ (by decide +kernel)) ggL_law_L_cell
set_option maxRecDepth 20000 in
theorem ggL_law_X2_count : GoodIn wsL_law wsX2_count := goodIn_ca (goodIn_r _ [166, 53, 76, 167, 168, 2, 169, 83, 84, 170, 171, 172, 173, 174, 175, 176, 177, 12, 85, 55, 86, 87, 60, 178, 179, 180, 181, 267, 268, 269, 270, 271, 275, 276, 277] (by decide +kernel) (by decide +kernel)) (goodIn_sub (fun _ h => List.mem_append_left _ (List.mem_append_right _ h)) (by decide +kernel))
set_option maxRecDepth 20000 in
theorem gL_law_X2_count : GoodIn wsL_law (wsV RL 74 RX2 yX2_count wsX2_count) := goodIn_app (goodIn_of _ (by decide +kernel)) ggL_law_X2_count
set_option maxRecDepth 20000 in
theorem ggL_law_X2_about : GoodIn wsL_law wsX2_about := goodIn_ca (goodIn_r _ [185, 186, 187, 188, 2, 189, 83, 84, 76, 14, 167, 168, 169, 79, 80, 81, 82, 53, 12, 278, 279, 280, 275, 276, 277, 267, 268, 269, 270, 271] (by decide +kernel) (by decide +kernel)) (goodIn_sub (fun _ h => List.mem_append_left _ (List.mem_append_right _ h)) (by decide +kernel))
set_option maxRecDepth 20000 in
theorem gL_law_X2_about : GoodIn wsL_law (wsV RL 78 RX2 yX2_about wsX2_about) := goodIn_app (goodIn_of _ (by decide +kernel)) ggL_law_X2_about
set_option maxRecDepth 20000 in
theorem ggL_law_L_act : GoodIn wsL_law wsL_act := goodIn_ca (goodIn_ca (goodIn_ca (goodIn_r _ [36, 37, 4, 38, 39, 40, 41, 18, 42, 43, 44, 45, 22, 46, 26, 47, 48, 49, 2, 50, 51, 52, 53, 12, 11, 54, 55, 56, 57, 58, 9, 10, 59, 60, 61, 62, 63, 64, 65, 66, 67, 68, 27, 69, 70, 71, 72, 73, 74, 75, 76, 14, 13, 77, 78, 79, 80, 81, 82, 83, 84, 85, 86, 87, 88, 89, 90, 91, 92, 93, 94, 95, 96, 97, 15, 98, 99, 100, 101, 102, 103, 104, 105, 106, 107, 108, 109, 110, 111, 112, 113, 114, 115, 116, 117, 118, 119, 120, 121, 122, 123, 29, 124, 125, 126, 127, 128, 129, 130, 131, 132, 133, 134, 135, 136, 137, 138, 139, 140, 141, 142, 143, 144, 145, 146, 147, 148, 149, 150, 151, 152, 153, 154, 155, 156, 157, 158, 159, 160, 161, 162, 272, 273, 274, 267, 268, 269, 270, 271, 275, 276, 277, 278, 279, 280] (by decide +kernel) (by decide +kernel)) (goodIn_sub (fun _ h => List.mem_append_left _ (List.mem_append_left _ (List.mem_append_right _ h))) (by decide +kernel))) (goodIn_sub (fun _ h => List.mem_append_left _ (List.mem_append_right _ h)) (by decide +kernel))) (goodIn_sub (fun _ h => List.mem_append_right _ h) (by decide +kernel))
set_option maxRecDepth 20000 in
theorem gL_law_L_act : GoodIn wsL_law (va_wsS RL 65 yL_act wsL_act) := goodIn_app (goodIn_of _ (by decide +kernel)) ggL_law_L_act
set_option maxRecDepth 20000 in
theorem ggL_law_L_below : GoodIn wsL_law wsL_below := goodIn_r _ [42, 43] (by decide +kernel) (by decide +kernel)
set_option maxRecDepth 20000 in
theorem gL_law_L_below : GoodIn wsL_law (va_wsS RL 15 yL_below wsL_below) := goodIn_app (goodIn_of _ (by decide +kernel)) ggL_law_L_below
set_option maxRecDepth 20000 in
theorem ggL_law_X2_thing : GoodIn wsL_law wsX2_thing := goodIn_ca (goodIn_r _ [193, 79, 80, 81, 2, 82, 83, 84, 53, 12, 102, 103, 104, 275, 276, 277, 267, 268, 269, 270, 271] (by decide +kernel) (by decide +kernel)) (goodIn_sub (fun _ h => List.mem_append_left _ (List.mem_append_right _ h)) (by decide +kernel))
set_option maxRecDepth 20000 in
theorem gL_law_X2_thing : GoodIn wsL_law (wsV RL 81 RX2 yX2_thing wsX2_thing) := goodIn_app (goodIn_of _ (by decide +kernel)) ggL_law_X2_thing
set_option maxRecDepth 20000 in
theorem ggL_law_X2_sum : GoodIn wsL_law wsX2_sum := goodIn_ca (goodIn_r _ [197, 83, 84, 79, 80, 81, 2, 82, 53, 12, 275, 276, 277, 267, 268, 269, 270, 271] (by decide +kernel) (by decide +kernel)) (goodIn_sub (fun _ h => List.mem_append_left _ (List.mem_append_right _ h)) (by decide +kernel))
set_option maxRecDepth 20000 in
theorem gL_law_X2_sum : GoodIn wsL_law (wsV RL 84 RX2 yX2_sum wsX2_sum) := goodIn_app (goodIn_of _ (by decide +kernel)) ggL_law_X2_sum
set_option maxRecDepth 20000 in
theorem ggL_law_X2_proof : GoodIn wsL_law wsX2_proof := goodIn_ca (goodIn_r _ [201, 83, 84, 79, 80, 81, 2, 82, 53, 12, 102, 103, 104, 202, 55, 203, 204, 60, 267, 268, 269, 270, 271, 275, 276, 277] (by decide +kernel) (by decide +kernel)) (goodIn_sub (fun _ h => List.mem_append_left _ (List.mem_append_right _ h)) (by decide +kernel))
set_option maxRecDepth 20000 in
theorem gL_law_X2_proof : GoodIn wsL_law (wsV RL 87 RX2 yX2_proof wsX2_proof) := goodIn_app (goodIn_of _ (by decide +kernel)) ggL_law_X2_proof
set_option maxRecDepth 20000 in
theorem ggL_law_X2_comes : GoodIn wsL_law wsX2_comes := goodIn_ca (goodIn_ca (goodIn_r _ [208, 102, 103, 2, 104, 83, 84, 158, 159, 160, 161, 162, 209, 210, 211, 111, 61, 62, 212, 213, 214, 112, 63, 64] (by decide +kernel) (by decide +kernel)) (goodIn_sub (fun _ h => List.mem_append_left _ (List.mem_append_right _ h)) (by decide +kernel))) (goodIn_sub (fun _ h => List.mem_append_right _ h) (by decide +kernel))
set_option maxRecDepth 20000 in
theorem gL_law_X2_comes : GoodIn wsL_law (wsV RL 90 RX2 yX2_comes wsX2_comes) := goodIn_app (goodIn_of _ (by decide +kernel)) ggL_law_X2_comes
set_option maxRecDepth 20000 in
theorem ggL_law_X2_told : GoodIn wsL_law wsX2_told := goodIn_ca (goodIn_r _ [218, 79, 80, 81, 2, 82, 83, 84, 53, 12, 167, 168, 169, 85, 55, 86, 87, 60, 219, 220, 221, 59, 222, 223, 224, 225, 226, 227, 228, 76, 14, 229, 230, 231, 232, 275, 276, 277, 267, 268, 269, 270, 271, 278, 279, 280] (by decide +kernel) (by decide +kernel)) (goodIn_sub (fun _ h => List.mem_append_left _ (List.mem_append_right _ h)) (by decide +kernel))
set_option maxRecDepth 20000 in
theorem gL_law_X2_told : GoodIn wsL_law (wsV RL 94 RX2 yX2_told wsX2_told) := goodIn_app (goodIn_of _ (by decide +kernel)) ggL_law_X2_told
set_option maxRecDepth 20000 in
theorem ggL_law_X2_differ : GoodIn wsL_law wsX2_differ := goodIn_ca (goodIn_r _ [236, 79, 80, 81, 2, 82, 83, 84, 53, 12, 128, 129, 130, 131, 132, 133, 134, 135, 136, 275, 276, 277, 267, 268, 269, 270, 271] (by decide +kernel) (by decide +kernel)) (goodIn_sub (fun _ h => List.mem_append_left _ (List.mem_append_right _ h)) (by decide +kernel))
set_option maxRecDepth 20000 in
theorem gL_law_X2_differ : GoodIn wsL_law (wsV RL 97 RX2 yX2_differ wsX2_differ) := goodIn_app (goodIn_of _ (by decide +kernel)) ggL_law_X2_differ
set_option maxRecDepth 20000 in
theorem ggL_law_X2_looks : GoodIn wsL_law wsX2_looks := goodIn_ca (goodIn_r _ [240, 79, 80, 81, 2, 82, 83, 84, 53, 12, 131, 132, 133, 134, 135, 136, 137, 138, 139, 140, 141, 142, 143, 275, 276, 277, 267, 268, 269, 270, 271] (by decide +kernel) (by decide +kernel)) (goodIn_sub (fun _ h => List.mem_append_left _ (List.mem_append_right _ h)) (by decide +kernel))
set_option maxRecDepth 20000 in
theorem gL_law_X2_looks : GoodIn wsL_law (wsV RL 100 RX2 yX2_looks wsX2_looks) := goodIn_app (goodIn_of _ (by decide +kernel)) ggL_law_X2_looks
set_option maxRecDepth 20000 in
theorem ggL_law_X2_mend : GoodIn wsL_law wsX2_mend := goodIn_ca (goodIn_r _ [127, 79, 80, 81, 2, 82, 83, 84, 53, 12, 128, 129, 130, 131, 132, 133, 134, 135, 136, 105, 55, 106, 107, 59, 108, 60, 109, 110, 111, 61, 62, 112, 63, 64, 137, 138, 139, 140, 141, 142, 143, 275, 276, 277, 267, 268, 269, 270, 271] (by decide +kernel) (by decide +kernel)) (goodIn_sub (fun _ h => List.mem_append_left _ (List.mem_append_right _ h)) (by decide +kernel))
set_option maxRecDepth 20000 in
theorem gL_law_X2_mend : GoodIn wsL_law (wsV RL 50 RX2 yX2_mend wsX2_mend) := goodIn_app (goodIn_of _ (by decide +kernel)) ggL_law_X2_mend
set_option maxRecDepth 20000 in
theorem ggL_law_X3_mend : GoodIn wsL_law wsX3_mend := goodIn_r _ [147, 148, 27, 149, 150, 151, 22, 152, 69, 70, 71, 120, 121, 122, 123, 29, 272, 273, 274] (by decide +kernel) (by decide +kernel)
set_option maxRecDepth 20000 in
theorem gL_law_X3_mend : GoodIn wsL_law (wsV RL 53 RX3 yX3_mend wsX3_mend) := goodIn_app (goodIn_of _ (by decide +kernel)) ggL_law_X3_mend
set_option maxRecDepth 20000 in
theorem ggL_law_X2_proves : GoodIn wsL_law wsX2_proves := goodIn_ca (goodIn_ca (goodIn_r _ [244, 186, 187, 188, 2, 189, 83, 84, 76, 14, 102, 103, 104, 158, 159, 160, 161, 162, 79, 80, 81, 82, 53, 12, 111, 61, 62, 202, 55, 203, 204, 60, 212, 213, 214, 112, 63, 64, 278, 279, 280, 267, 268, 269, 270, 271, 275, 276, 277] (by decide +kernel) (by decide +kernel)) (goodIn_sub (fun _ h => List.mem_append_left _ (List.mem_append_right _ h)) (by decide +kernel))) (goodIn_sub (fun _ h => List.mem_append_right _ h) (by decide +kernel))
set_option maxRecDepth 20000 in
theorem gL_law_X2_proves : GoodIn wsL_law (wsV RL 103 RX2 yX2_proves wsX2_proves) := goodIn_app (goodIn_of _ (by decide +kernel)) ggL_law_X2_proves
set_option maxRecDepth 20000 in
theorem ggL_law_X2_swapped : GoodIn wsL_law wsX2_swapped := goodIn_ca (goodIn_r _ [248, 15, 98, 99, 100, 101, 186, 187, 188, 2, 189, 83, 84, 76, 14, 79, 80, 81, 82, 53, 12, 85, 55, 86, 87, 60, 249, 250, 251, 252, 253, 109, 110, 111, 61, 62, 112, 63, 64, 278, 279, 280, 275, 276, 277, 267, 268, 269, 270, 271] (by decide +kernel) (by decide +kernel)) (goodIn_sub (fun _ h => List.mem_append_left _ (List.mem_append_right _ h)) (by decide +kernel))
set_option maxRecDepth 20000 in
theorem gL_law_X2_swapped : GoodIn wsL_law (wsV RL 106 RX2 yX2_swapped wsX2_swapped) := goodIn_app (goodIn_of _ (by decide +kernel)) ggL_law_X2_swapped
set_option maxRecDepth 20000 in
theorem ggL_law_X3_isSame : GoodIn wsL_law wsX3_isSame := goodIn_ca (goodIn_r _ [257, 27, 4, 29, 28, 258, 66, 67, 22, 68, 69, 70, 71, 259, 191, 192, 2, 193, 79, 80, 81, 82, 83, 84, 53, 12, 102, 103, 104, 260, 216, 217, 218, 167, 168, 169, 85, 55, 86, 87, 60, 219, 220, 221, 59, 222, 223, 224, 225, 226, 227, 228, 76, 14, 229, 230, 231, 232, 261, 183, 184, 185, 186, 187, 188, 189, 262, 164, 165, 166, 170, 171, 172, 173, 174, 175, 176, 177, 178, 179, 180, 181, 263, 264, 265, 266, 272, 273, 274, 275, 276, 277, 267, 268, 269, 270, 271, 278, 279, 280] (by decide +kernel) (by decide +kernel)) (goodIn_sub (fun _ h => List.mem_append_left _ (List.mem_append_right _ h)) (by decide +kernel))
set_option maxRecDepth 20000 in
theorem gL_law_X3_isSame : GoodIn wsL_law (wsV RL 109 RX3 yX3_isSame wsX3_isSame) := goodIn_app (goodIn_of _ (by decide +kernel)) ggL_law_X3_isSame
theorem dL_law_0 : decode cL_law 0 = .ok (.new 26, 3) := by decide +kernel
theorem dL_law_3 : decode cL_law 3 = .ok (.dup, 1) := by decide +kernel
theorem dL_law_4 : decode cL_law 4 = .ok (.invokespecial 69, 3) := by decide +kernel
theorem dL_law_7 : decode cL_law 7 = .ok (.astore_n 1, 1) := by decide +kernel
theorem dL_law_8 : decode cL_law 8 = .ok (.aload_n 1, 1) := by decide +kernel
theorem dL_law_9 : decode cL_law 9 = .ok (.aload_n 0, 1) := by decide +kernel
theorem dL_law_10 : decode cL_law 10 = .ok (.invokestatic 70, 3) := by decide +kernel
theorem dL_law_13 : decode cL_law 13 = .ok (.astore_n 2, 1) := by decide +kernel
theorem dL_law_14 : decode cL_law 14 = .ok (.aload_n 2, 1) := by decide +kernel
theorem dL_law_15 : decode cL_law 15 = .ok (.ifnonnull 5, 3) := by decide +kernel
theorem dL_law_18 : decode cL_law 18 = .ok (.iconst 0, 1) := by decide +kernel
theorem dL_law_19 : decode cL_law 19 = .ok (.ireturn, 1) := by decide +kernel
theorem dL_law_20 : decode cL_law 20 = .ok (.iconst 0, 1) := by decide +kernel
theorem dL_law_21 : decode cL_law 21 = .ok (.istore_n 3, 1) := by decide +kernel
theorem dL_law_22 : decode cL_law 22 = .ok (.iload_n 3, 1) := by decide +kernel
theorem dL_law_23 : decode cL_law 23 = .ok (.bipush 20, 2) := by decide +kernel
theorem dL_law_25 : decode cL_law 25 = .ok (.if_icmp .ge 824, 3) := by decide +kernel
theorem dL_law_28 : decode cL_law 28 = .ok (.aload_n 0, 1) := by decide +kernel
theorem dL_law_29 : decode cL_law 29 = .ok (.iload_n 3, 1) := by decide +kernel
theorem dL_law_30 : decode cL_law 30 = .ok (.bipush 16, 2) := by decide +kernel
theorem dL_law_32 : decode cL_law 32 = .ok (.irem, 1) := by decide +kernel
theorem dL_law_33 : decode cL_law 33 = .ok (.invokestatic 61, 3) := by decide +kernel
theorem dL_law_36 : decode cL_law 36 = .ok (.sipush 227, 3) := by decide +kernel
theorem dL_law_39 : decode cL_law 39 = .ok (.iload_n 3, 1) := by decide +kernel
theorem dL_law_40 : decode cL_law 40 = .ok (.imul, 1) := by decide +kernel
theorem dL_law_41 : decode cL_law 41 = .ok (.iadd, 1) := by decide +kernel
theorem dL_law_42 : decode cL_law 42 = .ok (.istore 4, 2) := by decide +kernel
theorem dL_law_44 : decode cL_law 44 = .ok (.aload_n 1, 1) := by decide +kernel
theorem dL_law_45 : decode cL_law 45 = .ok (.iconst 1, 1) := by decide +kernel
theorem dL_law_46 : decode cL_law 46 = .ok (.invokevirtual 74, 3) := by decide +kernel
theorem dL_law_49 : decode cL_law 49 = .ok (.istore 5, 2) := by decide +kernel
theorem dL_law_51 : decode cL_law 51 = .ok (.iload 5, 2) := by decide +kernel
theorem dL_law_53 : decode cL_law 53 = .ok (.iconst 3, 1) := by decide +kernel
theorem dL_law_54 : decode cL_law 54 = .ok (.multianewarray 77 2, 4) := by decide +kernel
theorem dL_law_58 : decode cL_law 58 = .ok (.astore 6, 2) := by decide +kernel
theorem dL_law_60 : decode cL_law 60 = .ok (.iconst 0, 1) := by decide +kernel
theorem dL_law_61 : decode cL_law 61 = .ok (.istore 7, 2) := by decide +kernel
theorem dL_law_63 : decode cL_law 63 = .ok (.iload 7, 2) := by decide +kernel
theorem dL_law_65 : decode cL_law 65 = .ok (.iload 5, 2) := by decide +kernel
theorem dL_law_67 : decode cL_law 67 = .ok (.if_icmp .ge 40, 3) := by decide +kernel
theorem dL_law_70 : decode cL_law 70 = .ok (.iconst 0, 1) := by decide +kernel
theorem dL_law_71 : decode cL_law 71 = .ok (.istore 8, 2) := by decide +kernel
theorem dL_law_73 : decode cL_law 73 = .ok (.iload 8, 2) := by decide +kernel
theorem dL_law_75 : decode cL_law 75 = .ok (.iconst 3, 1) := by decide +kernel
theorem dL_law_76 : decode cL_law 76 = .ok (.if_icmp .ge 25, 3) := by decide +kernel
theorem dL_law_79 : decode cL_law 79 = .ok (.aload 6, 2) := by decide +kernel
theorem dL_law_81 : decode cL_law 81 = .ok (.iload 7, 2) := by decide +kernel
theorem dL_law_83 : decode cL_law 83 = .ok (.aaload, 1) := by decide +kernel
theorem dL_law_84 : decode cL_law 84 = .ok (.iload 8, 2) := by decide +kernel
theorem dL_law_86 : decode cL_law 86 = .ok (.aload_n 1, 1) := by decide +kernel
theorem dL_law_87 : decode cL_law 87 = .ok (.iload 7, 2) := by decide +kernel
theorem dL_law_89 : decode cL_law 89 = .ok (.iload 8, 2) := by decide +kernel
theorem dL_law_91 : decode cL_law 91 = .ok (.invokevirtual 78, 3) := by decide +kernel
theorem dL_law_94 : decode cL_law 94 = .ok (.iastore, 1) := by decide +kernel
theorem dL_law_95 : decode cL_law 95 = .ok (.iinc 8 1, 3) := by decide +kernel
theorem dL_law_98 : decode cL_law 98 = .ok (.goto (-25), 3) := by decide +kernel
theorem dL_law_101 : decode cL_law 101 = .ok (.iinc 7 1, 3) := by decide +kernel
theorem dL_law_104 : decode cL_law 104 = .ok (.goto (-41), 3) := by decide +kernel
theorem dL_law_107 : decode cL_law 107 = .ok (.aload_n 1, 1) := by decide +kernel
theorem dL_law_108 : decode cL_law 108 = .ok (.iconst 3, 1) := by decide +kernel
theorem dL_law_109 : decode cL_law 109 = .ok (.invokevirtual 74, 3) := by decide +kernel
theorem dL_law_112 : decode cL_law 112 = .ok (.istore 7, 2) := by decide +kernel
theorem dL_law_114 : decode cL_law 114 = .ok (.iconst 0, 1) := by decide +kernel
theorem dL_law_115 : decode cL_law 115 = .ok (.istore 8, 2) := by decide +kernel
theorem dL_law_117 : decode cL_law 117 = .ok (.iload 8, 2) := by decide +kernel
theorem dL_law_119 : decode cL_law 119 = .ok (.iconst 2, 1) := by decide +kernel
theorem dL_law_120 : decode cL_law 120 = .ok (.if_icmp .ge 33, 3) := by decide +kernel
theorem dL_law_123 : decode cL_law 123 = .ok (.aload_n 1, 1) := by decide +kernel
theorem dL_law_124 : decode cL_law 124 = .ok (.aload_n 2, 1) := by decide +kernel
theorem dL_law_125 : decode cL_law 125 = .ok (.iload 4, 2) := by decide +kernel
theorem dL_law_127 : decode cL_law 127 = .ok (.iconst 2, 1) := by decide +kernel
theorem dL_law_128 : decode cL_law 128 = .ok (.iload 8, 2) := by decide +kernel
theorem dL_law_130 : decode cL_law 130 = .ok (.imul, 1) := by decide +kernel
theorem dL_law_131 : decode cL_law 131 = .ok (.ishr, 1) := by decide +kernel
theorem dL_law_132 : decode cL_law 132 = .ok (.sipush 151, 3) := by decide +kernel
theorem dL_law_135 : decode cL_law 135 = .ok (.iload 8, 2) := by decide +kernel
theorem dL_law_137 : decode cL_law 137 = .ok (.imul, 1) := by decide +kernel
theorem dL_law_138 : decode cL_law 138 = .ok (.iadd, 1) := by decide +kernel
theorem dL_law_139 : decode cL_law 139 = .ok (.invokestatic 65, 3) := by decide +kernel
theorem dL_law_142 : decode cL_law 142 = .ok (.ifCond .ne 5, 3) := by decide +kernel
theorem dL_law_145 : decode cL_law 145 = .ok (.iconst 0, 1) := by decide +kernel
theorem dL_law_146 : decode cL_law 146 = .ok (.ireturn, 1) := by decide +kernel
theorem dL_law_147 : decode cL_law 147 = .ok (.iinc 8 1, 3) := by decide +kernel
theorem dL_law_150 : decode cL_law 150 = .ok (.goto (-33), 3) := by decide +kernel
theorem dL_law_153 : decode cL_law 153 = .ok (.aload_n 1, 1) := by decide +kernel
theorem dL_law_154 : decode cL_law 154 = .ok (.iconst 3, 1) := by decide +kernel
theorem dL_law_155 : decode cL_law 155 = .ok (.invokevirtual 74, 3) := by decide +kernel
theorem dL_law_158 : decode cL_law 158 = .ok (.iload 7, 2) := by decide +kernel
theorem dL_law_160 : decode cL_law 160 = .ok (.if_icmp .lt 13, 3) := by decide +kernel
theorem dL_law_163 : decode cL_law 163 = .ok (.aload_n 1, 1) := by decide +kernel
theorem dL_law_164 : decode cL_law 164 = .ok (.iconst 1, 1) := by decide +kernel
theorem dL_law_165 : decode cL_law 165 = .ok (.invokevirtual 74, 3) := by decide +kernel
theorem dL_law_168 : decode cL_law 168 = .ok (.iload 5, 2) := by decide +kernel
theorem dL_law_170 : decode cL_law 170 = .ok (.if_icmp .ge 5, 3) := by decide +kernel
theorem dL_law_173 : decode cL_law 173 = .ok (.iconst 0, 1) := by decide +kernel
theorem dL_law_174 : decode cL_law 174 = .ok (.ireturn, 1) := by decide +kernel
theorem dL_law_175 : decode cL_law 175 = .ok (.iconst 0, 1) := by decide +kernel
theorem dL_law_176 : decode cL_law 176 = .ok (.istore 8, 2) := by decide +kernel
theorem dL_law_178 : decode cL_law 178 = .ok (.iload 8, 2) := by decide +kernel
theorem dL_law_180 : decode cL_law 180 = .ok (.iload 5, 2) := by decide +kernel
theorem dL_law_182 : decode cL_law 182 = .ok (.if_icmp .ge 45, 3) := by decide +kernel
theorem dL_law_185 : decode cL_law 185 = .ok (.iconst 0, 1) := by decide +kernel
theorem dL_law_186 : decode cL_law 186 = .ok (.istore 9, 2) := by decide +kernel
theorem dL_law_188 : decode cL_law 188 = .ok (.iload 9, 2) := by decide +kernel
theorem dL_law_190 : decode cL_law 190 = .ok (.iconst 3, 1) := by decide +kernel
theorem dL_law_191 : decode cL_law 191 = .ok (.if_icmp .ge 30, 3) := by decide +kernel
theorem dL_law_194 : decode cL_law 194 = .ok (.aload_n 1, 1) := by decide +kernel
theorem dL_law_195 : decode cL_law 195 = .ok (.iload 8, 2) := by decide +kernel
theorem dL_law_197 : decode cL_law 197 = .ok (.iload 9, 2) := by decide +kernel
theorem dL_law_199 : decode cL_law 199 = .ok (.invokevirtual 78, 3) := by decide +kernel
theorem dL_law_202 : decode cL_law 202 = .ok (.aload 6, 2) := by decide +kernel
theorem dL_law_204 : decode cL_law 204 = .ok (.iload 8, 2) := by decide +kernel
theorem dL_law_206 : decode cL_law 206 = .ok (.aaload, 1) := by decide +kernel
theorem dL_law_207 : decode cL_law 207 = .ok (.iload 9, 2) := by decide +kernel
theorem dL_law_209 : decode cL_law 209 = .ok (.iaload, 1) := by decide +kernel
theorem dL_law_210 : decode cL_law 210 = .ok (.if_icmp .eq 5, 3) := by decide +kernel
theorem dL_law_213 : decode cL_law 213 = .ok (.iconst 0, 1) := by decide +kernel
theorem dL_law_214 : decode cL_law 214 = .ok (.ireturn, 1) := by decide +kernel
theorem dL_law_215 : decode cL_law 215 = .ok (.iinc 9 1, 3) := by decide +kernel
theorem dL_law_218 : decode cL_law 218 = .ok (.goto (-30), 3) := by decide +kernel
theorem dL_law_221 : decode cL_law 221 = .ok (.iinc 8 1, 3) := by decide +kernel
theorem dL_law_224 : decode cL_law 224 = .ok (.goto (-46), 3) := by decide +kernel
theorem dL_law_227 : decode cL_law 227 = .ok (.aload_n 1, 1) := by decide +kernel
theorem dL_law_228 : decode cL_law 228 = .ok (.iconst 0, 1) := by decide +kernel
theorem dL_law_229 : decode cL_law 229 = .ok (.invokevirtual 74, 3) := by decide +kernel
theorem dL_law_232 : decode cL_law 232 = .ok (.istore 8, 2) := by decide +kernel
theorem dL_law_234 : decode cL_law 234 = .ok (.iload 4, 2) := by decide +kernel
theorem dL_law_236 : decode cL_law 236 = .ok (.iconst 3, 1) := by decide +kernel
theorem dL_law_237 : decode cL_law 237 = .ok (.ishr, 1) := by decide +kernel
theorem dL_law_238 : decode cL_law 238 = .ok (.iload 8, 2) := by decide +kernel
theorem dL_law_240 : decode cL_law 240 = .ok (.invokestatic 15, 3) := by decide +kernel
theorem dL_law_243 : decode cL_law 243 = .ok (.istore 9, 2) := by decide +kernel
theorem dL_law_245 : decode cL_law 245 = .ok (.iload 4, 2) := by decide +kernel
theorem dL_law_247 : decode cL_law 247 = .ok (.iconst 5, 1) := by decide +kernel
theorem dL_law_248 : decode cL_law 248 = .ok (.ishr, 1) := by decide +kernel
theorem dL_law_249 : decode cL_law 249 = .ok (.iload 8, 2) := by decide +kernel
theorem dL_law_251 : decode cL_law 251 = .ok (.invokestatic 15, 3) := by decide +kernel
theorem dL_law_254 : decode cL_law 254 = .ok (.istore 10, 2) := by decide +kernel
theorem dL_law_256 : decode cL_law 256 = .ok (.iconst 1, 1) := by decide +kernel
theorem dL_law_257 : decode cL_law 257 = .ok (.istore 11, 2) := by decide +kernel
theorem dL_law_259 : decode cL_law 259 = .ok (.iload 11, 2) := by decide +kernel
theorem dL_law_261 : decode cL_law 261 = .ok (.bipush 32, 2) := by decide +kernel
theorem dL_law_263 : decode cL_law 263 = .ok (.if_icmp .ge 95, 3) := by decide +kernel
theorem dL_law_266 : decode cL_law 266 = .ok (.iload 11, 2) := by decide +kernel
theorem dL_law_268 : decode cL_law 268 = .ok (.bipush 15, 2) := by decide +kernel
theorem dL_law_270 : decode cL_law 270 = .ok (.if_icmp .le 29, 3) := by decide +kernel
theorem dL_law_273 : decode cL_law 273 = .ok (.bipush 37, 2) := by decide +kernel
theorem dL_law_275 : decode cL_law 275 = .ok (.aload_n 1, 1) := by decide +kernel
theorem dL_law_276 : decode cL_law 276 = .ok (.iload 9, 2) := by decide +kernel
theorem dL_law_278 : decode cL_law 278 = .ok (.iload 11, 2) := by decide +kernel
theorem dL_law_280 : decode cL_law 280 = .ok (.bipush 16, 2) := by decide +kernel
theorem dL_law_282 : decode cL_law 282 = .ok (.isub, 1) := by decide +kernel
theorem dL_law_283 : decode cL_law 283 = .ok (.invokevirtual 81, 3) := by decide +kernel
theorem dL_law_286 : decode cL_law 286 = .ok (.imul, 1) := by decide +kernel
theorem dL_law_287 : decode cL_law 287 = .ok (.bipush 101, 2) := by decide +kernel
theorem dL_law_289 : decode cL_law 289 = .ok (.iload 11, 2) := by decide +kernel
theorem dL_law_291 : decode cL_law 291 = .ok (.bipush 15, 2) := by decide +kernel
theorem dL_law_293 : decode cL_law 293 = .ok (.isub, 1) := by decide +kernel
theorem dL_law_294 : decode cL_law 294 = .ok (.imul, 1) := by decide +kernel
theorem dL_law_295 : decode cL_law 295 = .ok (.iadd, 1) := by decide +kernel
theorem dL_law_296 : decode cL_law 296 = .ok (.goto 35, 3) := by decide +kernel
theorem dL_law_299 : decode cL_law 299 = .ok (.bipush 61, 2) := by decide +kernel
theorem dL_law_301 : decode cL_law 301 = .ok (.aload_n 1, 1) := by decide +kernel
theorem dL_law_302 : decode cL_law 302 = .ok (.iload 9, 2) := by decide +kernel
theorem dL_law_304 : decode cL_law 304 = .ok (.iconst 2, 1) := by decide +kernel
theorem dL_law_305 : decode cL_law 305 = .ok (.iload 11, 2) := by decide +kernel
theorem dL_law_307 : decode cL_law 307 = .ok (.imul, 1) := by decide +kernel
theorem dL_law_308 : decode cL_law 308 = .ok (.invokevirtual 84, 3) := by decide +kernel
theorem dL_law_311 : decode cL_law 311 = .ok (.imul, 1) := by decide +kernel
theorem dL_law_312 : decode cL_law 312 = .ok (.bipush 89, 2) := by decide +kernel
theorem dL_law_314 : decode cL_law 314 = .ok (.aload_n 1, 1) := by decide +kernel
theorem dL_law_315 : decode cL_law 315 = .ok (.iload 9, 2) := by decide +kernel
theorem dL_law_317 : decode cL_law 317 = .ok (.iconst 2, 1) := by decide +kernel
theorem dL_law_318 : decode cL_law 318 = .ok (.iload 11, 2) := by decide +kernel
theorem dL_law_320 : decode cL_law 320 = .ok (.imul, 1) := by decide +kernel
theorem dL_law_321 : decode cL_law 321 = .ok (.iconst 1, 1) := by decide +kernel
theorem dL_law_322 : decode cL_law 322 = .ok (.iadd, 1) := by decide +kernel
theorem dL_law_323 : decode cL_law 323 = .ok (.invokevirtual 84, 3) := by decide +kernel
theorem dL_law_326 : decode cL_law 326 = .ok (.imul, 1) := by decide +kernel
theorem dL_law_327 : decode cL_law 327 = .ok (.iadd, 1) := by decide +kernel
theorem dL_law_328 : decode cL_law 328 = .ok (.iload 11, 2) := by decide +kernel
theorem dL_law_330 : decode cL_law 330 = .ok (.iadd, 1) := by decide +kernel
theorem dL_law_331 : decode cL_law 331 = .ok (.istore 12, 2) := by decide +kernel
theorem dL_law_333 : decode cL_law 333 = .ok (.aload_n 1, 1) := by decide +kernel
theorem dL_law_334 : decode cL_law 334 = .ok (.iload 9, 2) := by decide +kernel
theorem dL_law_336 : decode cL_law 336 = .ok (.iload 11, 2) := by decide +kernel
theorem dL_law_338 : decode cL_law 338 = .ok (.invokevirtual 84, 3) := by decide +kernel
theorem dL_law_341 : decode cL_law 341 = .ok (.iload 12, 2) := by decide +kernel
theorem dL_law_343 : decode cL_law 343 = .ok (.sipush 997, 3) := by decide +kernel
theorem dL_law_346 : decode cL_law 346 = .ok (.irem, 1) := by decide +kernel
theorem dL_law_347 : decode cL_law 347 = .ok (.if_icmp .eq 5, 3) := by decide +kernel
theorem dL_law_350 : decode cL_law 350 = .ok (.iconst 0, 1) := by decide +kernel
theorem dL_law_351 : decode cL_law 351 = .ok (.ireturn, 1) := by decide +kernel
theorem dL_law_352 : decode cL_law 352 = .ok (.iinc 11 1, 3) := by decide +kernel
theorem dL_law_355 : decode cL_law 355 = .ok (.goto (-96), 3) := by decide +kernel
theorem dL_law_358 : decode cL_law 358 = .ok (.iload 4, 2) := by decide +kernel
theorem dL_law_360 : decode cL_law 360 = .ok (.iconst 2, 1) := by decide +kernel
theorem dL_law_361 : decode cL_law 361 = .ok (.ishr, 1) := by decide +kernel
theorem dL_law_362 : decode cL_law 362 = .ok (.bipush 16, 2) := by decide +kernel
theorem dL_law_364 : decode cL_law 364 = .ok (.invokestatic 15, 3) := by decide +kernel
theorem dL_law_367 : decode cL_law 367 = .ok (.istore 11, 2) := by decide +kernel
theorem dL_law_369 : decode cL_law 369 = .ok (.aload_n 1, 1) := by decide +kernel
theorem dL_law_370 : decode cL_law 370 = .ok (.iload 11, 2) := by decide +kernel
theorem dL_law_372 : decode cL_law 372 = .ok (.aload_n 1, 1) := by decide +kernel
theorem dL_law_373 : decode cL_law 373 = .ok (.iload 9, 2) := by decide +kernel
theorem dL_law_375 : decode cL_law 375 = .ok (.iload 11, 2) := by decide +kernel
theorem dL_law_377 : decode cL_law 377 = .ok (.invokevirtual 81, 3) := by decide +kernel
theorem dL_law_380 : decode cL_law 380 = .ok (.aload_n 1, 1) := by decide +kernel
theorem dL_law_381 : decode cL_law 381 = .ok (.iload 9, 2) := by decide +kernel
theorem dL_law_383 : decode cL_law 383 = .ok (.iload 11, 2) := by decide +kernel
theorem dL_law_385 : decode cL_law 385 = .ok (.iconst 0, 1) := by decide +kernel
theorem dL_law_386 : decode cL_law 386 = .ok (.invokevirtual 87, 3) := by decide +kernel
theorem dL_law_389 : decode cL_law 389 = .ok (.aload_n 1, 1) := by decide +kernel
theorem dL_law_390 : decode cL_law 390 = .ok (.iload 9, 2) := by decide +kernel
theorem dL_law_392 : decode cL_law 392 = .ok (.iload 11, 2) := by decide +kernel
theorem dL_law_394 : decode cL_law 394 = .ok (.iconst 1, 1) := by decide +kernel
theorem dL_law_395 : decode cL_law 395 = .ok (.invokevirtual 87, 3) := by decide +kernel
theorem dL_law_398 : decode cL_law 398 = .ok (.aload_n 1, 1) := by decide +kernel
theorem dL_law_399 : decode cL_law 399 = .ok (.iload 9, 2) := by decide +kernel
theorem dL_law_401 : decode cL_law 401 = .ok (.iload 11, 2) := by decide +kernel
theorem dL_law_403 : decode cL_law 403 = .ok (.iconst 2, 1) := by decide +kernel
theorem dL_law_404 : decode cL_law 404 = .ok (.invokevirtual 87, 3) := by decide +kernel
theorem dL_law_407 : decode cL_law 407 = .ok (.aload_n 1, 1) := by decide +kernel
theorem dL_law_408 : decode cL_law 408 = .ok (.iload 9, 2) := by decide +kernel
theorem dL_law_410 : decode cL_law 410 = .ok (.iload 11, 2) := by decide +kernel
theorem dL_law_412 : decode cL_law 412 = .ok (.iconst 3, 1) := by decide +kernel
theorem dL_law_413 : decode cL_law 413 = .ok (.invokevirtual 87, 3) := by decide +kernel
theorem dL_law_416 : decode cL_law 416 = .ok (.invokevirtual 90, 3) := by decide +kernel
theorem dL_law_419 : decode cL_law 419 = .ok (.aload_n 1, 1) := by decide +kernel
theorem dL_law_420 : decode cL_law 420 = .ok (.iload 9, 2) := by decide +kernel
theorem dL_law_422 : decode cL_law 422 = .ok (.iconst 0, 1) := by decide +kernel
theorem dL_law_423 : decode cL_law 423 = .ok (.invokevirtual 94, 3) := by decide +kernel
theorem dL_law_426 : decode cL_law 426 = .ok (.if_icmp .eq 5, 3) := by decide +kernel
theorem dL_law_429 : decode cL_law 429 = .ok (.iconst 0, 1) := by decide +kernel
theorem dL_law_430 : decode cL_law 430 = .ok (.ireturn, 1) := by decide +kernel
theorem dL_law_431 : decode cL_law 431 = .ok (.aload_n 1, 1) := by decide +kernel
theorem dL_law_432 : decode cL_law 432 = .ok (.iload 9, 2) := by decide +kernel
theorem dL_law_434 : decode cL_law 434 = .ok (.iload 10, 2) := by decide +kernel
theorem dL_law_436 : decode cL_law 436 = .ok (.invokevirtual 97, 3) := by decide +kernel
theorem dL_law_439 : decode cL_law 439 = .ok (.istore 12, 2) := by decide +kernel
theorem dL_law_441 : decode cL_law 441 = .ok (.aload_n 1, 1) := by decide +kernel
theorem dL_law_442 : decode cL_law 442 = .ok (.iload 9, 2) := by decide +kernel
theorem dL_law_444 : decode cL_law 444 = .ok (.iload 10, 2) := by decide +kernel
theorem dL_law_446 : decode cL_law 446 = .ok (.invokevirtual 100, 3) := by decide +kernel
theorem dL_law_449 : decode cL_law 449 = .ok (.istore 13, 2) := by decide +kernel
theorem dL_law_451 : decode cL_law 451 = .ok (.iload 12, 2) := by decide +kernel
theorem dL_law_453 : decode cL_law 453 = .ok (.aload_n 1, 1) := by decide +kernel
theorem dL_law_454 : decode cL_law 454 = .ok (.iload 10, 2) := by decide +kernel
theorem dL_law_456 : decode cL_law 456 = .ok (.iload 9, 2) := by decide +kernel
theorem dL_law_458 : decode cL_law 458 = .ok (.invokevirtual 97, 3) := by decide +kernel
theorem dL_law_461 : decode cL_law 461 = .ok (.if_icmp .ne 66, 3) := by decide +kernel
theorem dL_law_464 : decode cL_law 464 = .ok (.iload 13, 2) := by decide +kernel
theorem dL_law_466 : decode cL_law 466 = .ok (.aload_n 1, 1) := by decide +kernel
theorem dL_law_467 : decode cL_law 467 = .ok (.iload 10, 2) := by decide +kernel
theorem dL_law_469 : decode cL_law 469 = .ok (.iload 9, 2) := by decide +kernel
theorem dL_law_471 : decode cL_law 471 = .ok (.invokevirtual 100, 3) := by decide +kernel
theorem dL_law_474 : decode cL_law 474 = .ok (.if_icmp .ne 53, 3) := by decide +kernel
theorem dL_law_477 : decode cL_law 477 = .ok (.iload 12, 2) := by decide +kernel
theorem dL_law_479 : decode cL_law 479 = .ok (.ifCond .ne 7, 3) := by decide +kernel
theorem dL_law_482 : decode cL_law 482 = .ok (.iconst 1, 1) := by decide +kernel
theorem dL_law_483 : decode cL_law 483 = .ok (.goto 4, 3) := by decide +kernel
theorem dL_law_486 : decode cL_law 486 = .ok (.iconst 0, 1) := by decide +kernel
theorem dL_law_487 : decode cL_law 487 = .ok (.aload_n 1, 1) := by decide +kernel
theorem dL_law_488 : decode cL_law 488 = .ok (.iload 9, 2) := by decide +kernel
theorem dL_law_490 : decode cL_law 490 = .ok (.iconst 0, 1) := by decide +kernel
theorem dL_law_491 : decode cL_law 491 = .ok (.invokevirtual 94, 3) := by decide +kernel
theorem dL_law_494 : decode cL_law 494 = .ok (.aload_n 1, 1) := by decide +kernel
theorem dL_law_495 : decode cL_law 495 = .ok (.iload 10, 2) := by decide +kernel
theorem dL_law_497 : decode cL_law 497 = .ok (.iconst 0, 1) := by decide +kernel
theorem dL_law_498 : decode cL_law 498 = .ok (.invokevirtual 94, 3) := by decide +kernel
theorem dL_law_501 : decode cL_law 501 = .ok (.if_icmp .ne 7, 3) := by decide +kernel
theorem dL_law_504 : decode cL_law 504 = .ok (.iconst 1, 1) := by decide +kernel
theorem dL_law_505 : decode cL_law 505 = .ok (.goto 4, 3) := by decide +kernel
theorem dL_law_508 : decode cL_law 508 = .ok (.iconst 0, 1) := by decide +kernel
theorem dL_law_509 : decode cL_law 509 = .ok (.if_icmp .ne 18, 3) := by decide +kernel
theorem dL_law_512 : decode cL_law 512 = .ok (.iload 13, 2) := by decide +kernel
theorem dL_law_514 : decode cL_law 514 = .ok (.iconst 2, 1) := by decide +kernel
theorem dL_law_515 : decode cL_law 515 = .ok (.irem, 1) := by decide +kernel
theorem dL_law_516 : decode cL_law 516 = .ok (.iconst 1, 1) := by decide +kernel
theorem dL_law_517 : decode cL_law 517 = .ok (.if_icmp .ne 10, 3) := by decide +kernel
theorem dL_law_520 : decode cL_law 520 = .ok (.iload 13, 2) := by decide +kernel
theorem dL_law_522 : decode cL_law 522 = .ok (.bipush 31, 2) := by decide +kernel
theorem dL_law_524 : decode cL_law 524 = .ok (.if_icmp .le 5, 3) := by decide +kernel
theorem dL_law_527 : decode cL_law 527 = .ok (.iconst 0, 1) := by decide +kernel
theorem dL_law_528 : decode cL_law 528 = .ok (.ireturn, 1) := by decide +kernel
theorem dL_law_529 : decode cL_law 529 = .ok (.iconst 0, 1) := by decide +kernel
theorem dL_law_530 : decode cL_law 530 = .ok (.istore 14, 2) := by decide +kernel
theorem dL_law_532 : decode cL_law 532 = .ok (.iload 14, 2) := by decide +kernel
theorem dL_law_534 : decode cL_law 534 = .ok (.bipush 16, 2) := by decide +kernel
theorem dL_law_536 : decode cL_law 536 = .ok (.if_icmp .ge 87, 3) := by decide +kernel
theorem dL_law_539 : decode cL_law 539 = .ok (.iconst 1, 1) := by decide +kernel
theorem dL_law_540 : decode cL_law 540 = .ok (.istore 15, 2) := by decide +kernel
theorem dL_law_542 : decode cL_law 542 = .ok (.bipush 16, 2) := by decide +kernel
theorem dL_law_544 : decode cL_law 544 = .ok (.iload 14, 2) := by decide +kernel
theorem dL_law_546 : decode cL_law 546 = .ok (.iadd, 1) := by decide +kernel
theorem dL_law_547 : decode cL_law 547 = .ok (.istore 16, 2) := by decide +kernel
theorem dL_law_549 : decode cL_law 549 = .ok (.iload 16, 2) := by decide +kernel
theorem dL_law_551 : decode cL_law 551 = .ok (.ifCond .le 43, 3) := by decide +kernel
theorem dL_law_554 : decode cL_law 554 = .ok (.iload 15, 2) := by decide +kernel
theorem dL_law_556 : decode cL_law 556 = .ok (.ifCond .eq 26, 3) := by decide +kernel
theorem dL_law_559 : decode cL_law 559 = .ok (.aload_n 1, 1) := by decide +kernel
theorem dL_law_560 : decode cL_law 560 = .ok (.iload 9, 2) := by decide +kernel
theorem dL_law_562 : decode cL_law 562 = .ok (.iload 16, 2) := by decide +kernel
theorem dL_law_564 : decode cL_law 564 = .ok (.invokevirtual 84, 3) := by decide +kernel
theorem dL_law_567 : decode cL_law 567 = .ok (.aload_n 1, 1) := by decide +kernel
theorem dL_law_568 : decode cL_law 568 = .ok (.iload 10, 2) := by decide +kernel
theorem dL_law_570 : decode cL_law 570 = .ok (.iload 16, 2) := by decide +kernel
theorem dL_law_572 : decode cL_law 572 = .ok (.invokevirtual 84, 3) := by decide +kernel
theorem dL_law_575 : decode cL_law 575 = .ok (.if_icmp .eq 7, 3) := by decide +kernel
theorem dL_law_578 : decode cL_law 578 = .ok (.iconst 1, 1) := by decide +kernel
theorem dL_law_579 : decode cL_law 579 = .ok (.goto 4, 3) := by decide +kernel
theorem dL_law_582 : decode cL_law 582 = .ok (.iconst 0, 1) := by decide +kernel
theorem dL_law_583 : decode cL_law 583 = .ok (.istore 15, 2) := by decide +kernel
theorem dL_law_585 : decode cL_law 585 = .ok (.iload 16, 2) := by decide +kernel
theorem dL_law_587 : decode cL_law 587 = .ok (.iconst 2, 1) := by decide +kernel
theorem dL_law_588 : decode cL_law 588 = .ok (.idiv, 1) := by decide +kernel
theorem dL_law_589 : decode cL_law 589 = .ok (.istore 16, 2) := by decide +kernel
theorem dL_law_591 : decode cL_law 591 = .ok (.goto (-42), 3) := by decide +kernel
theorem dL_law_594 : decode cL_law 594 = .ok (.iload 15, 2) := by decide +kernel
theorem dL_law_596 : decode cL_law 596 = .ok (.iload 12, 2) := by decide +kernel
theorem dL_law_598 : decode cL_law 598 = .ok (.iload 14, 2) := by decide +kernel
theorem dL_law_600 : decode cL_law 600 = .ok (.ishr, 1) := by decide +kernel
theorem dL_law_601 : decode cL_law 601 = .ok (.iconst 1, 1) := by decide +kernel
theorem dL_law_602 : decode cL_law 602 = .ok (.iand, 1) := by decide +kernel
theorem dL_law_603 : decode cL_law 603 = .ok (.iconst 1, 1) := by decide +kernel
theorem dL_law_604 : decode cL_law 604 = .ok (.if_icmp .ne 7, 3) := by decide +kernel
theorem dL_law_607 : decode cL_law 607 = .ok (.iconst 1, 1) := by decide +kernel
theorem dL_law_608 : decode cL_law 608 = .ok (.goto 4, 3) := by decide +kernel
theorem dL_law_611 : decode cL_law 611 = .ok (.iconst 0, 1) := by decide +kernel
theorem dL_law_612 : decode cL_law 612 = .ok (.if_icmp .eq 5, 3) := by decide +kernel
theorem dL_law_615 : decode cL_law 615 = .ok (.iconst 0, 1) := by decide +kernel
theorem dL_law_616 : decode cL_law 616 = .ok (.ireturn, 1) := by decide +kernel
theorem dL_law_617 : decode cL_law 617 = .ok (.iinc 14 1, 3) := by decide +kernel
theorem dL_law_620 : decode cL_law 620 = .ok (.goto (-88), 3) := by decide +kernel
theorem dL_law_623 : decode cL_law 623 = .ok (.iload_n 3, 1) := by decide +kernel
theorem dL_law_624 : decode cL_law 624 = .ok (.iconst 3, 1) := by decide +kernel
theorem dL_law_625 : decode cL_law 625 = .ok (.irem, 1) := by decide +kernel
theorem dL_law_626 : decode cL_law 626 = .ok (.iconst 2, 1) := by decide +kernel
theorem dL_law_627 : decode cL_law 627 = .ok (.if_icmp .ne 111, 3) := by decide +kernel
theorem dL_law_630 : decode cL_law 630 = .ok (.aload_n 1, 1) := by decide +kernel
theorem dL_law_631 : decode cL_law 631 = .ok (.iload 9, 2) := by decide +kernel
theorem dL_law_633 : decode cL_law 633 = .ok (.iload 10, 2) := by decide +kernel
theorem dL_law_635 : decode cL_law 635 = .ok (.invokevirtual 50, 3) := by decide +kernel
theorem dL_law_638 : decode cL_law 638 = .ok (.istore 14, 2) := by decide +kernel
theorem dL_law_640 : decode cL_law 640 = .ok (.iload 14, 2) := by decide +kernel
theorem dL_law_642 : decode cL_law 642 = .ok (.aload_n 2, 1) := by decide +kernel
theorem dL_law_643 : decode cL_law 643 = .ok (.iload 9, 2) := by decide +kernel
theorem dL_law_645 : decode cL_law 645 = .ok (.iload 10, 2) := by decide +kernel
theorem dL_law_647 : decode cL_law 647 = .ok (.invokevirtual 53, 3) := by decide +kernel
theorem dL_law_650 : decode cL_law 650 = .ok (.if_icmp .eq 5, 3) := by decide +kernel
theorem dL_law_653 : decode cL_law 653 = .ok (.iconst 0, 1) := by decide +kernel
theorem dL_law_654 : decode cL_law 654 = .ok (.ireturn, 1) := by decide +kernel
theorem dL_law_655 : decode cL_law 655 = .ok (.iconst 0, 1) := by decide +kernel
theorem dL_law_656 : decode cL_law 656 = .ok (.istore 15, 2) := by decide +kernel
theorem dL_law_658 : decode cL_law 658 = .ok (.iload 15, 2) := by decide +kernel
theorem dL_law_660 : decode cL_law 660 = .ok (.bipush 16, 2) := by decide +kernel
theorem dL_law_662 : decode cL_law 662 = .ok (.if_icmp .ge 41, 3) := by decide +kernel
theorem dL_law_665 : decode cL_law 665 = .ok (.iload 12, 2) := by decide +kernel
theorem dL_law_667 : decode cL_law 667 = .ok (.iload 15, 2) := by decide +kernel
theorem dL_law_669 : decode cL_law 669 = .ok (.ishr, 1) := by decide +kernel
theorem dL_law_670 : decode cL_law 670 = .ok (.iconst 1, 1) := by decide +kernel
theorem dL_law_671 : decode cL_law 671 = .ok (.iand, 1) := by decide +kernel
theorem dL_law_672 : decode cL_law 672 = .ok (.iconst 1, 1) := by decide +kernel
theorem dL_law_673 : decode cL_law 673 = .ok (.if_icmp .ne 24, 3) := by decide +kernel
theorem dL_law_676 : decode cL_law 676 = .ok (.aload_n 1, 1) := by decide +kernel
theorem dL_law_677 : decode cL_law 677 = .ok (.iload 10, 2) := by decide +kernel
theorem dL_law_679 : decode cL_law 679 = .ok (.iload 15, 2) := by decide +kernel
theorem dL_law_681 : decode cL_law 681 = .ok (.invokevirtual 81, 3) := by decide +kernel
theorem dL_law_684 : decode cL_law 684 = .ok (.aload_n 1, 1) := by decide +kernel
theorem dL_law_685 : decode cL_law 685 = .ok (.iload 9, 2) := by decide +kernel
theorem dL_law_687 : decode cL_law 687 = .ok (.iload 15, 2) := by decide +kernel
theorem dL_law_689 : decode cL_law 689 = .ok (.invokevirtual 81, 3) := by decide +kernel
theorem dL_law_692 : decode cL_law 692 = .ok (.if_icmp .eq 5, 3) := by decide +kernel
theorem dL_law_695 : decode cL_law 695 = .ok (.iconst 0, 1) := by decide +kernel
theorem dL_law_696 : decode cL_law 696 = .ok (.ireturn, 1) := by decide +kernel
theorem dL_law_697 : decode cL_law 697 = .ok (.iinc 15 1, 3) := by decide +kernel
theorem dL_law_700 : decode cL_law 700 = .ok (.goto (-42), 3) := by decide +kernel
theorem dL_law_703 : decode cL_law 703 = .ok (.iconst 0, 1) := by decide +kernel
theorem dL_law_704 : decode cL_law 704 = .ok (.istore 15, 2) := by decide +kernel
theorem dL_law_706 : decode cL_law 706 = .ok (.iload 15, 2) := by decide +kernel
theorem dL_law_708 : decode cL_law 708 = .ok (.bipush 16, 2) := by decide +kernel
theorem dL_law_710 : decode cL_law 710 = .ok (.if_icmp .ge 21, 3) := by decide +kernel
theorem dL_law_713 : decode cL_law 713 = .ok (.iload 14, 2) := by decide +kernel
theorem dL_law_715 : decode cL_law 715 = .ok (.iload 12, 2) := by decide +kernel
theorem dL_law_717 : decode cL_law 717 = .ok (.iload 15, 2) := by decide +kernel
theorem dL_law_719 : decode cL_law 719 = .ok (.ishr, 1) := by decide +kernel
theorem dL_law_720 : decode cL_law 720 = .ok (.iconst 1, 1) := by decide +kernel
theorem dL_law_721 : decode cL_law 721 = .ok (.iand, 1) := by decide +kernel
theorem dL_law_722 : decode cL_law 722 = .ok (.isub, 1) := by decide +kernel
theorem dL_law_723 : decode cL_law 723 = .ok (.istore 14, 2) := by decide +kernel
theorem dL_law_725 : decode cL_law 725 = .ok (.iinc 15 1, 3) := by decide +kernel
theorem dL_law_728 : decode cL_law 728 = .ok (.goto (-22), 3) := by decide +kernel
theorem dL_law_731 : decode cL_law 731 = .ok (.iload 14, 2) := by decide +kernel
theorem dL_law_733 : decode cL_law 733 = .ok (.ifCond .eq 5, 3) := by decide +kernel
theorem dL_law_736 : decode cL_law 736 = .ok (.iconst 0, 1) := by decide +kernel
theorem dL_law_737 : decode cL_law 737 = .ok (.ireturn, 1) := by decide +kernel
theorem dL_law_738 : decode cL_law 738 = .ok (.iconst 0, 1) := by decide +kernel
theorem dL_law_739 : decode cL_law 739 = .ok (.istore 14, 2) := by decide +kernel
theorem dL_law_741 : decode cL_law 741 = .ok (.iload 14, 2) := by decide +kernel
theorem dL_law_743 : decode cL_law 743 = .ok (.aload_n 1, 1) := by decide +kernel
theorem dL_law_744 : decode cL_law 744 = .ok (.iconst 1, 1) := by decide +kernel
theorem dL_law_745 : decode cL_law 745 = .ok (.invokevirtual 74, 3) := by decide +kernel
theorem dL_law_748 : decode cL_law 748 = .ok (.if_icmp .ge 95, 3) := by decide +kernel
theorem dL_law_751 : decode cL_law 751 = .ok (.aload_n 1, 1) := by decide +kernel
theorem dL_law_752 : decode cL_law 752 = .ok (.iload 14, 2) := by decide +kernel
theorem dL_law_754 : decode cL_law 754 = .ok (.iconst 0, 1) := by decide +kernel
theorem dL_law_755 : decode cL_law 755 = .ok (.invokevirtual 78, 3) := by decide +kernel
theorem dL_law_758 : decode cL_law 758 = .ok (.istore 15, 2) := by decide +kernel
theorem dL_law_760 : decode cL_law 760 = .ok (.aload_n 1, 1) := by decide +kernel
theorem dL_law_761 : decode cL_law 761 = .ok (.iload 15, 2) := by decide +kernel
theorem dL_law_763 : decode cL_law 763 = .ok (.iconst 0, 1) := by decide +kernel
theorem dL_law_764 : decode cL_law 764 = .ok (.invokevirtual 94, 3) := by decide +kernel
theorem dL_law_767 : decode cL_law 767 = .ok (.aload_n 1, 1) := by decide +kernel
theorem dL_law_768 : decode cL_law 768 = .ok (.iload 14, 2) := by decide +kernel
theorem dL_law_770 : decode cL_law 770 = .ok (.iconst 1, 1) := by decide +kernel
theorem dL_law_771 : decode cL_law 771 = .ok (.invokevirtual 78, 3) := by decide +kernel
theorem dL_law_774 : decode cL_law 774 = .ok (.if_icmp .ne 7, 3) := by decide +kernel
theorem dL_law_777 : decode cL_law 777 = .ok (.iconst 1, 1) := by decide +kernel
theorem dL_law_778 : decode cL_law 778 = .ok (.goto 4, 3) := by decide +kernel
theorem dL_law_781 : decode cL_law 781 = .ok (.iconst 0, 1) := by decide +kernel
theorem dL_law_782 : decode cL_law 782 = .ok (.istore 16, 2) := by decide +kernel
theorem dL_law_784 : decode cL_law 784 = .ok (.aload_n 1, 1) := by decide +kernel
theorem dL_law_785 : decode cL_law 785 = .ok (.iload 14, 2) := by decide +kernel
theorem dL_law_787 : decode cL_law 787 = .ok (.iload 11, 2) := by decide +kernel
theorem dL_law_789 : decode cL_law 789 = .ok (.aload_n 1, 1) := by decide +kernel
theorem dL_law_790 : decode cL_law 790 = .ok (.iload 15, 2) := by decide +kernel
theorem dL_law_792 : decode cL_law 792 = .ok (.iload 11, 2) := by decide +kernel
theorem dL_law_794 : decode cL_law 794 = .ok (.invokevirtual 81, 3) := by decide +kernel
theorem dL_law_797 : decode cL_law 797 = .ok (.invokevirtual 103, 3) := by decide +kernel
theorem dL_law_800 : decode cL_law 800 = .ok (.iload 16, 2) := by decide +kernel
theorem dL_law_802 : decode cL_law 802 = .ok (.if_icmp .ne 33, 3) := by decide +kernel
theorem dL_law_805 : decode cL_law 805 = .ok (.iload 16, 2) := by decide +kernel
theorem dL_law_807 : decode cL_law 807 = .ok (.ifCond .eq 13, 3) := by decide +kernel
theorem dL_law_810 : decode cL_law 810 = .ok (.aload_n 1, 1) := by decide +kernel
theorem dL_law_811 : decode cL_law 811 = .ok (.iload 14, 2) := by decide +kernel
theorem dL_law_813 : decode cL_law 813 = .ok (.invokevirtual 106, 3) := by decide +kernel
theorem dL_law_816 : decode cL_law 816 = .ok (.iconst (-1), 1) := by decide +kernel
theorem dL_law_817 : decode cL_law 817 = .ok (.if_icmp .ne 18, 3) := by decide +kernel
theorem dL_law_820 : decode cL_law 820 = .ok (.aload_n 1, 1) := by decide +kernel
theorem dL_law_821 : decode cL_law 821 = .ok (.iload 14, 2) := by decide +kernel
theorem dL_law_823 : decode cL_law 823 = .ok (.iconst 3, 1) := by decide +kernel
theorem dL_law_824 : decode cL_law 824 = .ok (.invokevirtual 78, 3) := by decide +kernel
theorem dL_law_827 : decode cL_law 827 = .ok (.ifCond .ne 10, 3) := by decide +kernel
theorem dL_law_830 : decode cL_law 830 = .ok (.iload 16, 2) := by decide +kernel
theorem dL_law_832 : decode cL_law 832 = .ok (.ifCond .ne 5, 3) := by decide +kernel
theorem dL_law_835 : decode cL_law 835 = .ok (.iconst 0, 1) := by decide +kernel
theorem dL_law_836 : decode cL_law 836 = .ok (.ireturn, 1) := by decide +kernel
theorem dL_law_837 : decode cL_law 837 = .ok (.iinc 14 1, 3) := by decide +kernel
theorem dL_law_840 : decode cL_law 840 = .ok (.goto (-99), 3) := by decide +kernel
theorem dL_law_843 : decode cL_law 843 = .ok (.iinc 3 1, 3) := by decide +kernel
theorem dL_law_846 : decode cL_law 846 = .ok (.goto (-824), 3) := by decide +kernel
theorem dL_law_849 : decode cL_law 849 = .ok (.aload_n 2, 1) := by decide +kernel
theorem dL_law_850 : decode cL_law 850 = .ok (.aload_n 1, 1) := by decide +kernel
theorem dL_law_851 : decode cL_law 851 = .ok (.invokevirtual 109, 3) := by decide +kernel
theorem dL_law_854 : decode cL_law 854 = .ok (.ireturn, 1) := by decide +kernel
