set_option maxRecDepth 20000 in
theorem ggX0_init_X2_sumOfThing : GoodIn wsX0_init wsX2_sumOfThing := goodIn_r _ [9] (by decide +kernel) (by decide +kernel)
set_option maxRecDepth 20000 in
theorem gX0_init_X2_sumOfThing_n18 : GoodIn wsX0_init (wsX2_sumOfThing) := ggX0_init_X2_sumOfThing
set_option maxRecDepth 20000 in
theorem ggX0_init_X2_sumOfSums : GoodIn wsX0_init wsX2_sumOfSums := goodIn_r _ [11] (by decide +kernel) (by decide +kernel)
set_option maxRecDepth 20000 in
theorem gX0_init_X2_sumOfSums_n22 : GoodIn wsX0_init (wsX2_sumOfSums) := ggX0_init_X2_sumOfSums
theorem dX0_init_0 : decode cX0_init 0 = .ok (.aload_n 0, 1) := by decide +kernel
theorem dX0_init_1 : decode cX0_init 1 = .ok (.invokespecial 3, 3) := by decide +kernel
theorem dX0_init_4 : decode cX0_init 4 = .ok (.aload_n 0, 1) := by decide +kernel
theorem dX0_init_5 : decode cX0_init 5 = .ok (.bipush 16, 2) := by decide +kernel
theorem dX0_init_7 : decode cX0_init 7 = .ok (.newarray .int, 2) := by decide +kernel
theorem dX0_init_9 : decode cX0_init 9 = .ok (.putfield 9, 3) := by decide +kernel
theorem dX0_init_12 : decode cX0_init 12 = .ok (.aload_n 0, 1) := by decide +kernel
theorem dX0_init_13 : decode cX0_init 13 = .ok (.bipush 32, 2) := by decide +kernel
theorem dX0_init_15 : decode cX0_init 15 = .ok (.newarray .int, 2) := by decide +kernel
theorem dX0_init_17 : decode cX0_init 17 = .ok (.putfield 15, 3) := by decide +kernel
theorem dX0_init_20 : decode cX0_init 20 = .ok (.iconst 0, 1) := by decide +kernel
theorem dX0_init_21 : decode cX0_init 21 = .ok (.istore_n 1, 1) := by decide +kernel
theorem dX0_init_22 : decode cX0_init 22 = .ok (.iload_n 1, 1) := by decide +kernel
theorem dX0_init_23 : decode cX0_init 23 = .ok (.bipush 16, 2) := by decide +kernel
theorem dX0_init_25 : decode cX0_init 25 = .ok (.if_icmp .ge 23, 3) := by decide +kernel
theorem dX0_init_28 : decode cX0_init 28 = .ok (.aload_n 0, 1) := by decide +kernel
theorem dX0_init_29 : decode cX0_init 29 = .ok (.getfield 15, 3) := by decide +kernel
theorem dX0_init_32 : decode cX0_init 32 = .ok (.bipush 16, 2) := by decide +kernel
theorem dX0_init_34 : decode cX0_init 34 = .ok (.iload_n 1, 1) := by decide +kernel
theorem dX0_init_35 : decode cX0_init 35 = .ok (.iadd, 1) := by decide +kernel
theorem dX0_init_36 : decode cX0_init 36 = .ok (.iload_n 1, 1) := by decide +kernel
theorem dX0_init_37 : decode cX0_init 37 = .ok (.iconst 0, 1) := by decide +kernel
theorem dX0_init_38 : decode cX0_init 38 = .ok (.invokestatic 18, 3) := by decide +kernel
theorem dX0_init_41 : decode cX0_init 41 = .ok (.iastore, 1) := by decide +kernel
theorem dX0_init_42 : decode cX0_init 42 = .ok (.iinc 1 1, 3) := by decide +kernel
theorem dX0_init_45 : decode cX0_init 45 = .ok (.goto (-23), 3) := by decide +kernel
theorem dX0_init_48 : decode cX0_init 48 = .ok (.bipush 15, 2) := by decide +kernel
theorem dX0_init_50 : decode cX0_init 50 = .ok (.istore_n 1, 1) := by decide +kernel
theorem dX0_init_51 : decode cX0_init 51 = .ok (.iload_n 1, 1) := by decide +kernel
theorem dX0_init_52 : decode cX0_init 52 = .ok (.iconst 1, 1) := by decide +kernel
theorem dX0_init_53 : decode cX0_init 53 = .ok (.if_icmp .lt 37, 3) := by decide +kernel
theorem dX0_init_56 : decode cX0_init 56 = .ok (.aload_n 0, 1) := by decide +kernel
theorem dX0_init_57 : decode cX0_init 57 = .ok (.getfield 15, 3) := by decide +kernel
theorem dX0_init_60 : decode cX0_init 60 = .ok (.iload_n 1, 1) := by decide +kernel
theorem dX0_init_61 : decode cX0_init 61 = .ok (.aload_n 0, 1) := by decide +kernel
theorem dX0_init_62 : decode cX0_init 62 = .ok (.getfield 15, 3) := by decide +kernel
theorem dX0_init_65 : decode cX0_init 65 = .ok (.iconst 2, 1) := by decide +kernel
theorem dX0_init_66 : decode cX0_init 66 = .ok (.iload_n 1, 1) := by decide +kernel
theorem dX0_init_67 : decode cX0_init 67 = .ok (.imul, 1) := by decide +kernel
theorem dX0_init_68 : decode cX0_init 68 = .ok (.iaload, 1) := by decide +kernel
theorem dX0_init_69 : decode cX0_init 69 = .ok (.aload_n 0, 1) := by decide +kernel
theorem dX0_init_70 : decode cX0_init 70 = .ok (.getfield 15, 3) := by decide +kernel
theorem dX0_init_73 : decode cX0_init 73 = .ok (.iconst 2, 1) := by decide +kernel
theorem dX0_init_74 : decode cX0_init 74 = .ok (.iload_n 1, 1) := by decide +kernel
theorem dX0_init_75 : decode cX0_init 75 = .ok (.imul, 1) := by decide +kernel
theorem dX0_init_76 : decode cX0_init 76 = .ok (.iconst 1, 1) := by decide +kernel
theorem dX0_init_77 : decode cX0_init 77 = .ok (.iadd, 1) := by decide +kernel
theorem dX0_init_78 : decode cX0_init 78 = .ok (.iaload, 1) := by decide +kernel
theorem dX0_init_79 : decode cX0_init 79 = .ok (.iload_n 1, 1) := by decide +kernel
theorem dX0_init_80 : decode cX0_init 80 = .ok (.invokestatic 22, 3) := by decide +kernel
theorem dX0_init_83 : decode cX0_init 83 = .ok (.iastore, 1) := by decide +kernel
theorem dX0_init_84 : decode cX0_init 84 = .ok (.iinc 1 (-1), 3) := by decide +kernel
theorem dX0_init_87 : decode cX0_init 87 = .ok (.goto (-36), 3) := by decide +kernel
theorem dX0_init_90 : decode cX0_init 90 = .ok (.return_, 1) := by decide +kernel
theorem dX0_root_0 : decode cX0_root 0 = .ok (.aload_n 0, 1) := by decide +kernel
theorem dX0_root_1 : decode cX0_root 1 = .ok (.getfield 15, 3) := by decide +kernel
theorem dX0_root_4 : decode cX0_root 4 = .ok (.iconst 1, 1) := by decide +kernel
theorem dX0_root_5 : decode cX0_root 5 = .ok (.iaload, 1) := by decide +kernel
theorem dX0_root_6 : decode cX0_root 6 = .ok (.ireturn, 1) := by decide +kernel
set_option maxRecDepth 20000 in
theorem ggX0_lay_X2_sumUp : GoodIn wsX0_lay wsX2_sumUp := goodIn_r _ [6, 7, 8, 5, 9, 10, 11, 12] (by decide +kernel) (by decide +kernel)
set_option maxRecDepth 20000 in
theorem gX0_lay_X2_sumUp_n30 : GoodIn wsX0_lay (wsX2_sumUp) := ggX0_lay_X2_sumUp
theorem dX0_lay_0 : decode cX0_lay 0 = .ok (.aload_n 0, 1) := by decide +kernel
theorem dX0_lay_1 : decode cX0_lay 1 = .ok (.getfield 9, 3) := by decide +kernel
theorem dX0_lay_4 : decode cX0_lay 4 = .ok (.iload_n 1, 1) := by decide +kernel
theorem dX0_lay_5 : decode cX0_lay 5 = .ok (.iaload, 1) := by decide +kernel
theorem dX0_lay_6 : decode cX0_lay 6 = .ok (.iload_n 2, 1) := by decide +kernel
theorem dX0_lay_7 : decode cX0_lay 7 = .ok (.if_icmp .eq 29, 3) := by decide +kernel
theorem dX0_lay_10 : decode cX0_lay 10 = .ok (.aload_n 0, 1) := by decide +kernel
theorem dX0_lay_11 : decode cX0_lay 11 = .ok (.getfield 9, 3) := by decide +kernel
theorem dX0_lay_14 : decode cX0_lay 14 = .ok (.iload_n 1, 1) := by decide +kernel
theorem dX0_lay_15 : decode cX0_lay 15 = .ok (.iload_n 2, 1) := by decide +kernel
theorem dX0_lay_16 : decode cX0_lay 16 = .ok (.iastore, 1) := by decide +kernel
theorem dX0_lay_17 : decode cX0_lay 17 = .ok (.aload_n 0, 1) := by decide +kernel
theorem dX0_lay_18 : decode cX0_lay 18 = .ok (.dup, 1) := by decide +kernel
theorem dX0_lay_19 : decode cX0_lay 19 = .ok (.getfield 26, 3) := by decide +kernel
theorem dX0_lay_22 : decode cX0_lay 22 = .ok (.iconst 1, 1) := by decide +kernel
theorem dX0_lay_23 : decode cX0_lay 23 = .ok (.iadd, 1) := by decide +kernel
theorem dX0_lay_24 : decode cX0_lay 24 = .ok (.putfield 26, 3) := by decide +kernel
theorem dX0_lay_27 : decode cX0_lay 27 = .ok (.aload_n 0, 1) := by decide +kernel
theorem dX0_lay_28 : decode cX0_lay 28 = .ok (.getfield 15, 3) := by decide +kernel
theorem dX0_lay_31 : decode cX0_lay 31 = .ok (.iload_n 1, 1) := by decide +kernel
theorem dX0_lay_32 : decode cX0_lay 32 = .ok (.iload_n 2, 1) := by decide +kernel
theorem dX0_lay_33 : decode cX0_lay 33 = .ok (.invokestatic 30, 3) := by decide +kernel
theorem dX0_lay_36 : decode cX0_lay 36 = .ok (.return_, 1) := by decide +kernel
theorem dX0_proofSum_0 : decode cX0_proofSum 0 = .ok (.aload_n 0, 1) := by decide +kernel
theorem dX0_proofSum_1 : decode cX0_proofSum 1 = .ok (.getfield 15, 3) := by decide +kernel
theorem dX0_proofSum_4 : decode cX0_proofSum 4 = .ok (.bipush 16, 2) := by decide +kernel
theorem dX0_proofSum_6 : decode cX0_proofSum 6 = .ok (.iload_n 1, 1) := by decide +kernel
theorem dX0_proofSum_7 : decode cX0_proofSum 7 = .ok (.iadd, 1) := by decide +kernel
theorem dX0_proofSum_8 : decode cX0_proofSum 8 = .ok (.iload_n 2, 1) := by decide +kernel
theorem dX0_proofSum_9 : decode cX0_proofSum 9 = .ok (.ishr, 1) := by decide +kernel
theorem dX0_proofSum_10 : decode cX0_proofSum 10 = .ok (.iconst 1, 1) := by decide +kernel
theorem dX0_proofSum_11 : decode cX0_proofSum 11 = .ok (.ixor, 1) := by decide +kernel
theorem dX0_proofSum_12 : decode cX0_proofSum 12 = .ok (.iaload, 1) := by decide +kernel
theorem dX0_proofSum_13 : decode cX0_proofSum 13 = .ok (.ireturn, 1) := by decide +kernel
theorem dX0_filledDrawers_0 : decode cX0_filledDrawers 0 = .ok (.iconst 0, 1) := by decide +kernel
theorem dX0_filledDrawers_1 : decode cX0_filledDrawers 1 = .ok (.istore_n 1, 1) := by decide +kernel
theorem dX0_filledDrawers_2 : decode cX0_filledDrawers 2 = .ok (.aload_n 0, 1) := by decide +kernel
theorem dX0_filledDrawers_3 : decode cX0_filledDrawers 3 = .ok (.getfield 9, 3) := by decide +kernel
theorem dX0_filledDrawers_6 : decode cX0_filledDrawers 6 = .ok (.astore_n 2, 1) := by decide +kernel
theorem dX0_filledDrawers_7 : decode cX0_filledDrawers 7 = .ok (.aload_n 2, 1) := by decide +kernel
theorem dX0_filledDrawers_8 : decode cX0_filledDrawers 8 = .ok (.arraylength, 1) := by decide +kernel
theorem dX0_filledDrawers_9 : decode cX0_filledDrawers 9 = .ok (.istore_n 3, 1) := by decide +kernel
theorem dX0_filledDrawers_10 : decode cX0_filledDrawers 10 = .ok (.iconst 0, 1) := by decide +kernel
theorem dX0_filledDrawers_11 : decode cX0_filledDrawers 11 = .ok (.istore 4, 2) := by decide +kernel
theorem dX0_filledDrawers_13 : decode cX0_filledDrawers 13 = .ok (.iload 4, 2) := by decide +kernel
theorem dX0_filledDrawers_15 : decode cX0_filledDrawers 15 = .ok (.iload_n 3, 1) := by decide +kernel
theorem dX0_filledDrawers_16 : decode cX0_filledDrawers 16 = .ok (.if_icmp .ge 23, 3) := by decide +kernel
theorem dX0_filledDrawers_19 : decode cX0_filledDrawers 19 = .ok (.aload_n 2, 1) := by decide +kernel
theorem dX0_filledDrawers_20 : decode cX0_filledDrawers 20 = .ok (.iload 4, 2) := by decide +kernel
theorem dX0_filledDrawers_22 : decode cX0_filledDrawers 22 = .ok (.iaload, 1) := by decide +kernel
theorem dX0_filledDrawers_23 : decode cX0_filledDrawers 23 = .ok (.istore 5, 2) := by decide +kernel
theorem dX0_filledDrawers_25 : decode cX0_filledDrawers 25 = .ok (.iload 5, 2) := by decide +kernel
theorem dX0_filledDrawers_27 : decode cX0_filledDrawers 27 = .ok (.ifCond .eq 6, 3) := by decide +kernel
theorem dX0_filledDrawers_30 : decode cX0_filledDrawers 30 = .ok (.iinc 1 1, 3) := by decide +kernel
theorem dX0_filledDrawers_33 : decode cX0_filledDrawers 33 = .ok (.iinc 4 1, 3) := by decide +kernel
theorem dX0_filledDrawers_36 : decode cX0_filledDrawers 36 = .ok (.goto (-23), 3) := by decide +kernel
theorem dX0_filledDrawers_39 : decode cX0_filledDrawers 39 = .ok (.iload_n 1, 1) := by decide +kernel
theorem dX0_filledDrawers_40 : decode cX0_filledDrawers 40 = .ok (.ireturn, 1) := by decide +kernel
theorem dX0_thingsAdded_0 : decode cX0_thingsAdded 0 = .ok (.iconst 0, 1) := by decide +kernel
theorem dX0_thingsAdded_1 : decode cX0_thingsAdded 1 = .ok (.istore_n 1, 1) := by decide +kernel
theorem dX0_thingsAdded_2 : decode cX0_thingsAdded 2 = .ok (.aload_n 0, 1) := by decide +kernel
theorem dX0_thingsAdded_3 : decode cX0_thingsAdded 3 = .ok (.getfield 9, 3) := by decide +kernel
theorem dX0_thingsAdded_6 : decode cX0_thingsAdded 6 = .ok (.astore_n 2, 1) := by decide +kernel
theorem dX0_thingsAdded_7 : decode cX0_thingsAdded 7 = .ok (.aload_n 2, 1) := by decide +kernel
theorem dX0_thingsAdded_8 : decode cX0_thingsAdded 8 = .ok (.arraylength, 1) := by decide +kernel
theorem dX0_thingsAdded_9 : decode cX0_thingsAdded 9 = .ok (.istore_n 3, 1) := by decide +kernel
theorem dX0_thingsAdded_10 : decode cX0_thingsAdded 10 = .ok (.iconst 0, 1) := by decide +kernel
theorem dX0_thingsAdded_11 : decode cX0_thingsAdded 11 = .ok (.istore 4, 2) := by decide +kernel
theorem dX0_thingsAdded_13 : decode cX0_thingsAdded 13 = .ok (.iload 4, 2) := by decide +kernel
theorem dX0_thingsAdded_15 : decode cX0_thingsAdded 15 = .ok (.iload_n 3, 1) := by decide +kernel
theorem dX0_thingsAdded_16 : decode cX0_thingsAdded 16 = .ok (.if_icmp .ge 20, 3) := by decide +kernel
theorem dX0_thingsAdded_19 : decode cX0_thingsAdded 19 = .ok (.aload_n 2, 1) := by decide +kernel
theorem dX0_thingsAdded_20 : decode cX0_thingsAdded 20 = .ok (.iload 4, 2) := by decide +kernel
theorem dX0_thingsAdded_22 : decode cX0_thingsAdded 22 = .ok (.iaload, 1) := by decide +kernel
theorem dX0_thingsAdded_23 : decode cX0_thingsAdded 23 = .ok (.istore 5, 2) := by decide +kernel
theorem dX0_thingsAdded_25 : decode cX0_thingsAdded 25 = .ok (.iload_n 1, 1) := by decide +kernel
theorem dX0_thingsAdded_26 : decode cX0_thingsAdded 26 = .ok (.iload 5, 2) := by decide +kernel
theorem dX0_thingsAdded_28 : decode cX0_thingsAdded 28 = .ok (.iadd, 1) := by decide +kernel
theorem dX0_thingsAdded_29 : decode cX0_thingsAdded 29 = .ok (.istore_n 1, 1) := by decide +kernel
theorem dX0_thingsAdded_30 : decode cX0_thingsAdded 30 = .ok (.iinc 4 1, 3) := by decide +kernel
theorem dX0_thingsAdded_33 : decode cX0_thingsAdded 33 = .ok (.goto (-20), 3) := by decide +kernel
theorem dX0_thingsAdded_36 : decode cX0_thingsAdded 36 = .ok (.iload_n 1, 1) := by decide +kernel
theorem dX0_thingsAdded_37 : decode cX0_thingsAdded 37 = .ok (.ireturn, 1) := by decide +kernel
theorem dX1_init_0 : decode cX1_init 0 = .ok (.aload_n 0, 1) := by decide +kernel
theorem dX1_init_1 : decode cX1_init 1 = .ok (.invokespecial 1, 3) := by decide +kernel
theorem dX1_init_4 : decode cX1_init 4 = .ok (.aload_n 0, 1) := by decide +kernel
theorem dX1_init_5 : decode cX1_init 5 = .ok (.iload_n 1, 1) := by decide +kernel
theorem dX1_init_6 : decode cX1_init 6 = .ok (.putfield 7, 3) := by decide +kernel
theorem dX1_init_9 : decode cX1_init 9 = .ok (.aload_n 0, 1) := by decide +kernel
theorem dX1_init_10 : decode cX1_init 10 = .ok (.iload_n 2, 1) := by decide +kernel
theorem dX1_init_11 : decode cX1_init 11 = .ok (.putfield 13, 3) := by decide +kernel
theorem dX1_init_14 : decode cX1_init 14 = .ok (.aload_n 0, 1) := by decide +kernel
theorem dX1_init_15 : decode cX1_init 15 = .ok (.iload_n 3, 1) := by decide +kernel
theorem dX1_init_16 : decode cX1_init 16 = .ok (.putfield 16, 3) := by decide +kernel
theorem dX1_init_19 : decode cX1_init 19 = .ok (.return_, 1) := by decide +kernel
theorem dX2_init_0 : decode cX2_init 0 = .ok (.aload_n 0, 1) := by decide +kernel
theorem dX2_init_1 : decode cX2_init 1 = .ok (.invokespecial 1, 3) := by decide +kernel
theorem dX2_init_4 : decode cX2_init 4 = .ok (.aload_n 0, 1) := by decide +kernel
theorem dX2_init_5 : decode cX2_init 5 = .ok (.bipush 6, 2) := by decide +kernel
theorem dX2_init_7 : decode cX2_init 7 = .ok (.anewarray 9, 3) := by decide +kernel
theorem dX2_init_10 : decode cX2_init 10 = .ok (.putfield 11, 3) := by decide +kernel
theorem dX2_init_13 : decode cX2_init 13 = .ok (.aload_n 0, 1) := by decide +kernel
theorem dX2_init_14 : decode cX2_init 14 = .ok (.bipush 20, 2) := by decide +kernel
theorem dX2_init_16 : decode cX2_init 16 = .ok (.anewarray 15, 3) := by decide +kernel
theorem dX2_init_19 : decode cX2_init 19 = .ok (.putfield 17, 3) := by decide +kernel
theorem dX2_init_22 : decode cX2_init 22 = .ok (.aload_n 0, 1) := by decide +kernel
theorem dX2_init_23 : decode cX2_init 23 = .ok (.bipush 32, 2) := by decide +kernel
theorem dX2_init_25 : decode cX2_init 25 = .ok (.newarray .int, 2) := by decide +kernel
theorem dX2_init_27 : decode cX2_init 27 = .ok (.putfield 21, 3) := by decide +kernel
theorem dX2_init_30 : decode cX2_init 30 = .ok (.return_, 1) := by decide +kernel
set_option maxRecDepth 20000 in
theorem ggX2_come_X0_init : GoodIn wsX2_come wsX0_init := goodIn_r _ [9, 10, 11, 12, 13, 14, 15, 16, 17, 18, 19, 20, 26, 27, 28] (by decide +kernel) (by decide +kernel)
set_option maxRecDepth 20000 in
theorem gX2_come_X0_init_n36 : GoodIn wsX2_come (wsX0_init) := ggX2_come_X0_init
theorem dX2_come_0 : decode cX2_come 0 = .ok (.aload_n 0, 1) := by decide +kernel
theorem dX2_come_1 : decode cX2_come 1 = .ok (.getfield 25, 3) := by decide +kernel
theorem dX2_come_4 : decode cX2_come 4 = .ok (.bipush 6, 2) := by decide +kernel
theorem dX2_come_6 : decode cX2_come 6 = .ok (.if_icmp .lt 13, 3) := by decide +kernel
theorem dX2_come_9 : decode cX2_come 9 = .ok (.new 29, 3) := by decide +kernel
theorem dX2_come_12 : decode cX2_come 12 = .ok (.dup, 1) := by decide +kernel
theorem dX2_come_13 : decode cX2_come 13 = .ok (.ldc 31, 2) := by decide +kernel
theorem dX2_come_15 : decode cX2_come 15 = .ok (.invokespecial 33, 3) := by decide +kernel
theorem dX2_come_18 : decode cX2_come 18 = .ok (.athrow, 1) := by decide +kernel
theorem dX2_come_19 : decode cX2_come 19 = .ok (.aload_n 0, 1) := by decide +kernel
theorem dX2_come_20 : decode cX2_come 20 = .ok (.getfield 11, 3) := by decide +kernel
theorem dX2_come_23 : decode cX2_come 23 = .ok (.aload_n 0, 1) := by decide +kernel
theorem dX2_come_24 : decode cX2_come 24 = .ok (.getfield 25, 3) := by decide +kernel
theorem dX2_come_27 : decode cX2_come 27 = .ok (.new 9, 3) := by decide +kernel
theorem dX2_come_30 : decode cX2_come 30 = .ok (.dup, 1) := by decide +kernel
theorem dX2_come_31 : decode cX2_come 31 = .ok (.invokespecial 36, 3) := by decide +kernel
theorem dX2_come_34 : decode cX2_come 34 = .ok (.aastore, 1) := by decide +kernel
theorem dX2_come_35 : decode cX2_come 35 = .ok (.aload_n 0, 1) := by decide +kernel
theorem dX2_come_36 : decode cX2_come 36 = .ok (.dup, 1) := by decide +kernel
theorem dX2_come_37 : decode cX2_come 37 = .ok (.getfield 25, 3) := by decide +kernel
theorem dX2_come_40 : decode cX2_come 40 = .ok (.iconst 1, 1) := by decide +kernel
theorem dX2_come_41 : decode cX2_come 41 = .ok (.iadd, 1) := by decide +kernel
theorem dX2_come_42 : decode cX2_come 42 = .ok (.putfield 25, 3) := by decide +kernel
theorem dX2_come_45 : decode cX2_come 45 = .ok (.aload_n 0, 1) := by decide +kernel
theorem dX2_come_46 : decode cX2_come 46 = .ok (.getfield 25, 3) := by decide +kernel
theorem dX2_come_49 : decode cX2_come 49 = .ok (.iconst 1, 1) := by decide +kernel
theorem dX2_come_50 : decode cX2_come 50 = .ok (.isub, 1) := by decide +kernel
theorem dX2_come_51 : decode cX2_come 51 = .ok (.ireturn, 1) := by decide +kernel
set_option maxRecDepth 20000 in
theorem ggX2_put_X2_findCupboard : GoodIn wsX2_put wsX2_findCupboard := goodIn_ca (goodIn_r _ [5, 6, 7, 8, 9, 36, 37, 38, 39, 40] (by decide +kernel) (by decide +kernel)) (goodIn_sub (fun _ h => List.mem_cons_of_mem _ (List.mem_append_left _ (List.mem_append_right _ h))) (by decide +kernel))
set_option maxRecDepth 20000 in
theorem gX2_put_X2_findCupboard : GoodIn wsX2_put (wsV RX2 37 RX2 yX2_findCupboard wsX2_findCupboard) := goodIn_app (goodIn_of _ (by decide +kernel)) ggX2_put_X2_findCupboard
set_option maxRecDepth 20000 in
theorem ggX2_put_X2_checkDrawer : GoodIn wsX2_put wsX2_checkDrawer := goodIn_ca (goodIn_r _ [12, 6, 7] (by decide +kernel) (by decide +kernel)) (goodIn_sub (fun _ h => List.mem_cons_of_mem _ (List.mem_append_left _ (List.mem_append_right _ h))) (by decide +kernel))
set_option maxRecDepth 20000 in
theorem gX2_put_X2_checkDrawer : GoodIn wsX2_put (va_wsS RX2 41 yX2_checkDrawer wsX2_checkDrawer) := goodIn_app (goodIn_of _ (by decide +kernel)) ggX2_put_X2_checkDrawer
set_option maxRecDepth 20000 in
theorem ggX2_put_X2_checkThing : GoodIn wsX2_put wsX2_checkThing := goodIn_ca (goodIn_r _ [15, 16, 17] (by decide +kernel) (by decide +kernel)) (goodIn_sub (fun _ h => List.mem_cons_of_mem _ (List.mem_append_right _ h)) (by decide +kernel))
set_option maxRecDepth 20000 in
theorem gX2_put_X2_checkThing : GoodIn wsX2_put (va_wsS RX2 45 yX2_checkThing wsX2_checkThing) := goodIn_app (goodIn_of _ (by decide +kernel)) ggX2_put_X2_checkThing
set_option maxRecDepth 20000 in
theorem ggX2_put_X0_lay : GoodIn wsX2_put wsX0_lay := goodIn_r _ [21, 22, 23, 24, 25, 4, 26, 27, 28, 29, 30, 31, 32, 33, 34, 35] (by decide +kernel) (by decide +kernel)
set_option maxRecDepth 20000 in
theorem gX2_put_X0_lay_n51 : GoodIn wsX2_put (wsX0_lay) := ggX2_put_X0_lay
theorem dX2_put_0 : decode cX2_put 0 = .ok (.aload_n 0, 1) := by decide +kernel
theorem dX2_put_1 : decode cX2_put 1 = .ok (.iload_n 1, 1) := by decide +kernel
theorem dX2_put_2 : decode cX2_put 2 = .ok (.invokevirtual 37, 3) := by decide +kernel
theorem dX2_put_5 : decode cX2_put 5 = .ok (.astore 4, 2) := by decide +kernel
theorem dX2_put_7 : decode cX2_put 7 = .ok (.iload_n 2, 1) := by decide +kernel
theorem dX2_put_8 : decode cX2_put 8 = .ok (.invokestatic 41, 3) := by decide +kernel
theorem dX2_put_11 : decode cX2_put 11 = .ok (.iload_n 3, 1) := by decide +kernel
theorem dX2_put_12 : decode cX2_put 12 = .ok (.invokestatic 45, 3) := by decide +kernel
theorem dX2_put_15 : decode cX2_put 15 = .ok (.aload 4, 2) := by decide +kernel
theorem dX2_put_17 : decode cX2_put 17 = .ok (.getfield 48, 3) := by decide +kernel
theorem dX2_put_20 : decode cX2_put 20 = .ok (.iload_n 2, 1) := by decide +kernel
theorem dX2_put_21 : decode cX2_put 21 = .ok (.iaload, 1) := by decide +kernel
theorem dX2_put_22 : decode cX2_put 22 = .ok (.istore 5, 2) := by decide +kernel
theorem dX2_put_24 : decode cX2_put 24 = .ok (.aload 4, 2) := by decide +kernel
theorem dX2_put_26 : decode cX2_put 26 = .ok (.iload_n 2, 1) := by decide +kernel
theorem dX2_put_27 : decode cX2_put 27 = .ok (.iload_n 3, 1) := by decide +kernel
theorem dX2_put_28 : decode cX2_put 28 = .ok (.invokevirtual 51, 3) := by decide +kernel
theorem dX2_put_31 : decode cX2_put 31 = .ok (.iload 5, 2) := by decide +kernel
theorem dX2_put_33 : decode cX2_put 33 = .ok (.ireturn, 1) := by decide +kernel
set_option maxRecDepth 20000 in
theorem ggX2_swap_X2_findCupboard : GoodIn wsX2_swap wsX2_findCupboard := goodIn_ca (goodIn_r _ [10, 11, 12, 13, 14, 39, 40, 41, 42, 43] (by decide +kernel) (by decide +kernel)) (goodIn_sub (fun _ h => List.mem_cons_of_mem _ (List.mem_append_right _ h)) (by decide +kernel))
set_option maxRecDepth 20000 in
theorem gX2_swap_X2_findCupboard : GoodIn wsX2_swap (wsV RX2 37 RX2 yX2_findCupboard wsX2_findCupboard) := goodIn_app (goodIn_of _ (by decide +kernel)) ggX2_swap_X2_findCupboard
set_option maxRecDepth 20000 in
theorem ggX2_swap_X2_checkDrawer : GoodIn wsX2_swap wsX2_checkDrawer := goodIn_ca (goodIn_r _ [17, 11, 12] (by decide +kernel) (by decide +kernel)) (goodIn_sub (fun _ h => List.mem_cons_of_mem _ (List.mem_append_right _ h)) (by decide +kernel))
set_option maxRecDepth 20000 in
theorem gX2_swap_X2_checkDrawer : GoodIn wsX2_swap (va_wsS RX2 41 yX2_checkDrawer wsX2_checkDrawer) := goodIn_app (goodIn_of _ (by decide +kernel)) ggX2_swap_X2_checkDrawer
set_option maxRecDepth 20000 in
theorem ggX2_swap_X0_lay : GoodIn wsX2_swap wsX0_lay := goodIn_r _ [21, 22, 23, 24, 25, 9, 26, 27, 28, 29, 30, 31, 32, 36, 37, 38] (by decide +kernel) (by decide +kernel)
set_option maxRecDepth 20000 in
theorem gX2_swap_X0_lay_n51 : GoodIn wsX2_swap (wsX0_lay) := ggX2_swap_X0_lay
set_option maxRecDepth 20000 in
theorem ggX2_swap_X2_placesApart : GoodIn wsX2_swap wsX2_placesApart := goodIn_r _ [35] (by decide +kernel) (by decide +kernel)
set_option maxRecDepth 20000 in
theorem gX2_swap_X2_placesApart : GoodIn wsX2_swap (va_wsS RX2 64 yX2_placesApart wsX2_placesApart) := goodIn_app (goodIn_of _ (by decide +kernel)) ggX2_swap_X2_placesApart
theorem dX2_swap_0 : decode cX2_swap 0 = .ok (.aload_n 0, 1) := by decide +kernel
theorem dX2_swap_1 : decode cX2_swap 1 = .ok (.iload_n 1, 1) := by decide +kernel
theorem dX2_swap_2 : decode cX2_swap 2 = .ok (.invokevirtual 37, 3) := by decide +kernel
theorem dX2_swap_5 : decode cX2_swap 5 = .ok (.astore 4, 2) := by decide +kernel
theorem dX2_swap_7 : decode cX2_swap 7 = .ok (.iload_n 2, 1) := by decide +kernel
theorem dX2_swap_8 : decode cX2_swap 8 = .ok (.invokestatic 41, 3) := by decide +kernel
theorem dX2_swap_11 : decode cX2_swap 11 = .ok (.iload_n 3, 1) := by decide +kernel
theorem dX2_swap_12 : decode cX2_swap 12 = .ok (.invokestatic 41, 3) := by decide +kernel
theorem dX2_swap_15 : decode cX2_swap 15 = .ok (.aload 4, 2) := by decide +kernel
theorem dX2_swap_17 : decode cX2_swap 17 = .ok (.getfield 55, 3) := by decide +kernel
theorem dX2_swap_20 : decode cX2_swap 20 = .ok (.iconst 0, 1) := by decide +kernel
theorem dX2_swap_21 : decode cX2_swap 21 = .ok (.aload_n 0, 1) := by decide +kernel
theorem dX2_swap_22 : decode cX2_swap 22 = .ok (.getfield 21, 3) := by decide +kernel
theorem dX2_swap_25 : decode cX2_swap 25 = .ok (.iconst 0, 1) := by decide +kernel
theorem dX2_swap_26 : decode cX2_swap 26 = .ok (.bipush 32, 2) := by decide +kernel
theorem dX2_swap_28 : decode cX2_swap 28 = .ok (.invokestatic 58, 3) := by decide +kernel
theorem dX2_swap_31 : decode cX2_swap 31 = .ok (.aload 4, 2) := by decide +kernel
theorem dX2_swap_33 : decode cX2_swap 33 = .ok (.getfield 48, 3) := by decide +kernel
theorem dX2_swap_36 : decode cX2_swap 36 = .ok (.iload_n 2, 1) := by decide +kernel
theorem dX2_swap_37 : decode cX2_swap 37 = .ok (.iaload, 1) := by decide +kernel
theorem dX2_swap_38 : decode cX2_swap 38 = .ok (.istore 5, 2) := by decide +kernel
theorem dX2_swap_40 : decode cX2_swap 40 = .ok (.aload 4, 2) := by decide +kernel
theorem dX2_swap_42 : decode cX2_swap 42 = .ok (.iload_n 2, 1) := by decide +kernel
theorem dX2_swap_43 : decode cX2_swap 43 = .ok (.aload 4, 2) := by decide +kernel
theorem dX2_swap_45 : decode cX2_swap 45 = .ok (.getfield 48, 3) := by decide +kernel
theorem dX2_swap_48 : decode cX2_swap 48 = .ok (.iload_n 3, 1) := by decide +kernel
theorem dX2_swap_49 : decode cX2_swap 49 = .ok (.iaload, 1) := by decide +kernel
theorem dX2_swap_50 : decode cX2_swap 50 = .ok (.invokevirtual 51, 3) := by decide +kernel
theorem dX2_swap_53 : decode cX2_swap 53 = .ok (.aload 4, 2) := by decide +kernel
theorem dX2_swap_55 : decode cX2_swap 55 = .ok (.iload_n 3, 1) := by decide +kernel
theorem dX2_swap_56 : decode cX2_swap 56 = .ok (.iload 5, 2) := by decide +kernel
theorem dX2_swap_58 : decode cX2_swap 58 = .ok (.invokevirtual 51, 3) := by decide +kernel
theorem dX2_swap_61 : decode cX2_swap 61 = .ok (.aload_n 0, 1) := by decide +kernel
theorem dX2_swap_62 : decode cX2_swap 62 = .ok (.getfield 21, 3) := by decide +kernel
theorem dX2_swap_65 : decode cX2_swap 65 = .ok (.aload 4, 2) := by decide +kernel
theorem dX2_swap_67 : decode cX2_swap 67 = .ok (.getfield 55, 3) := by decide +kernel
theorem dX2_swap_70 : decode cX2_swap 70 = .ok (.invokestatic 64, 3) := by decide +kernel
theorem dX2_swap_73 : decode cX2_swap 73 = .ok (.ireturn, 1) := by decide +kernel
set_option maxRecDepth 20000 in
theorem ggX2_sum_X2_findCupboard : GoodIn wsX2_sum wsX2_findCupboard := goodIn_ca (goodIn_r _ [7, 1, 2, 8, 9, 13, 14, 15, 16, 17] (by decide +kernel) (by decide +kernel)) (goodIn_sub (fun _ h => List.mem_cons_of_mem _ (List.mem_append_right _ h)) (by decide +kernel))
set_option maxRecDepth 20000 in
theorem gX2_sum_X2_findCupboard : GoodIn wsX2_sum (wsV RX2 37 RX2 yX2_findCupboard wsX2_findCupboard) := goodIn_app (goodIn_of _ (by decide +kernel)) ggX2_sum_X2_findCupboard
theorem dX2_sum_0 : decode cX2_sum 0 = .ok (.aload_n 0, 1) := by decide +kernel
theorem dX2_sum_1 : decode cX2_sum 1 = .ok (.iload_n 1, 1) := by decide +kernel
theorem dX2_sum_2 : decode cX2_sum 2 = .ok (.invokevirtual 37, 3) := by decide +kernel
theorem dX2_sum_5 : decode cX2_sum 5 = .ok (.astore_n 3, 1) := by decide +kernel
theorem dX2_sum_6 : decode cX2_sum 6 = .ok (.iload_n 2, 1) := by decide +kernel
theorem dX2_sum_7 : decode cX2_sum 7 = .ok (.iconst 1, 1) := by decide +kernel
theorem dX2_sum_8 : decode cX2_sum 8 = .ok (.if_icmp .lt 9, 3) := by decide +kernel
theorem dX2_sum_11 : decode cX2_sum 11 = .ok (.iload_n 2, 1) := by decide +kernel
theorem dX2_sum_12 : decode cX2_sum 12 = .ok (.bipush 31, 2) := by decide +kernel
theorem dX2_sum_14 : decode cX2_sum 14 = .ok (.if_icmp .le 13, 3) := by decide +kernel
theorem dX2_sum_17 : decode cX2_sum 17 = .ok (.new 68, 3) := by decide +kernel
theorem dX2_sum_20 : decode cX2_sum 20 = .ok (.dup, 1) := by decide +kernel
theorem dX2_sum_21 : decode cX2_sum 21 = .ok (.ldc 70, 2) := by decide +kernel
theorem dX2_sum_23 : decode cX2_sum 23 = .ok (.invokespecial 72, 3) := by decide +kernel
theorem dX2_sum_26 : decode cX2_sum 26 = .ok (.athrow, 1) := by decide +kernel
theorem dX2_sum_27 : decode cX2_sum 27 = .ok (.aload_n 3, 1) := by decide +kernel
theorem dX2_sum_28 : decode cX2_sum 28 = .ok (.getfield 55, 3) := by decide +kernel
theorem dX2_sum_31 : decode cX2_sum 31 = .ok (.iload_n 2, 1) := by decide +kernel
theorem dX2_sum_32 : decode cX2_sum 32 = .ok (.iaload, 1) := by decide +kernel
theorem dX2_sum_33 : decode cX2_sum 33 = .ok (.ireturn, 1) := by decide +kernel
set_option maxRecDepth 20000 in
theorem ggX2_told_X2_findCupboard : GoodIn wsX2_told wsX2_findCupboard := goodIn_ca (goodIn_r _ [5, 6, 7, 8, 9, 38, 39, 40, 41, 42] (by decide +kernel) (by decide +kernel)) (goodIn_sub (fun _ h => List.mem_cons_of_mem _ (List.mem_append_right _ h)) (by decide +kernel))
set_option maxRecDepth 20000 in
theorem gX2_told_X2_findCupboard : GoodIn wsX2_told (wsV RX2 37 RX2 yX2_findCupboard wsX2_findCupboard) := goodIn_app (goodIn_of _ (by decide +kernel)) ggX2_told_X2_findCupboard
set_option maxRecDepth 20000 in
theorem ggX2_told_X2_checkWhat : GoodIn wsX2_told wsX2_checkWhat := goodIn_ca (goodIn_r _ [12, 6, 7] (by decide +kernel) (by decide +kernel)) (goodIn_sub (fun _ h => List.mem_cons_of_mem _ (List.mem_append_right _ h)) (by decide +kernel))
set_option maxRecDepth 20000 in
theorem gX2_told_X2_checkWhat : GoodIn wsX2_told (va_wsS RX2 73 yX2_checkWhat wsX2_checkWhat) := goodIn_app (goodIn_of _ (by decide +kernel)) ggX2_told_X2_checkWhat
set_option maxRecDepth 20000 in
theorem ggX2_told_X0_root : GoodIn wsX2_told wsX0_root := goodIn_r _ [16, 17, 35, 36, 37] (by decide +kernel) (by decide +kernel)
set_option maxRecDepth 20000 in
theorem gX2_told_X0_root_n76 : GoodIn wsX2_told (wsX0_root) := ggX2_told_X0_root
set_option maxRecDepth 20000 in
theorem ggX2_told_X0_filledDrawers : GoodIn wsX2_told wsX0_filledDrawers := goodIn_r _ [20, 21, 35, 36, 37] (by decide +kernel) (by decide +kernel)
set_option maxRecDepth 20000 in
theorem gX2_told_X0_filledDrawers_n83 : GoodIn wsX2_told (wsX0_filledDrawers) := ggX2_told_X0_filledDrawers
set_option maxRecDepth 20000 in
theorem ggX2_told_X0_thingsAdded : GoodIn wsX2_told wsX0_thingsAdded := goodIn_r _ [24, 21, 35, 36, 37] (by decide +kernel) (by decide +kernel)
set_option maxRecDepth 20000 in
theorem gX2_told_X0_thingsAdded_n86 : GoodIn wsX2_told (wsX0_thingsAdded) := ggX2_told_X0_thingsAdded
set_option maxRecDepth 20000 in
theorem ggX2_told_X2_sealsOf : GoodIn wsX2_told wsX2_sealsOf := goodIn_r _ [28, 29, 30, 38, 39, 40, 41, 42, 43, 44, 45] (by decide +kernel) (by decide +kernel)
set_option maxRecDepth 20000 in
theorem gX2_told_X2_sealsOf : GoodIn wsX2_told (wsV RX2 89 RX2 yX2_sealsOf wsX2_sealsOf) := goodIn_app (goodIn_of _ (by decide +kernel)) ggX2_told_X2_sealsOf
set_option maxRecDepth 20000 in
theorem ggX2_told_X2_sealsKept : GoodIn wsX2_told wsX2_sealsKept := goodIn_r _ [34, 29, 30, 38, 39, 40, 41, 42, 43, 44, 45] (by decide +kernel) (by decide +kernel)
set_option maxRecDepth 20000 in
theorem gX2_told_X2_sealsKept : GoodIn wsX2_told (wsV RX2 93 RX2 yX2_sealsKept wsX2_sealsKept) := goodIn_app (goodIn_of _ (by decide +kernel)) ggX2_told_X2_sealsKept
theorem dX2_told_0 : decode cX2_told 0 = .ok (.aload_n 0, 1) := by decide +kernel
theorem dX2_told_1 : decode cX2_told 1 = .ok (.iload_n 1, 1) := by decide +kernel
theorem dX2_told_2 : decode cX2_told 2 = .ok (.invokevirtual 37, 3) := by decide +kernel
theorem dX2_told_5 : decode cX2_told 5 = .ok (.astore_n 3, 1) := by decide +kernel
theorem dX2_told_6 : decode cX2_told 6 = .ok (.iload_n 2, 1) := by decide +kernel
theorem dX2_told_7 : decode cX2_told 7 = .ok (.bipush 6, 2) := by decide +kernel
theorem dX2_told_9 : decode cX2_told 9 = .ok (.invokestatic 73, 3) := by decide +kernel
theorem dX2_told_12 : decode cX2_told 12 = .ok (.iload_n 2, 1) := by decide +kernel
theorem dX2_told_13 : decode cX2_told 13 = .ok (.tableswitch 61 0 4 #[35, 40, 45, 50, 55], 35) := by decide +kernel
theorem dX2_told_48 : decode cX2_told 48 = .ok (.aload_n 3, 1) := by decide +kernel
theorem dX2_told_49 : decode cX2_told 49 = .ok (.invokevirtual 76, 3) := by decide +kernel
theorem dX2_told_52 : decode cX2_told 52 = .ok (.ireturn, 1) := by decide +kernel
theorem dX2_told_53 : decode cX2_told 53 = .ok (.aload_n 3, 1) := by decide +kernel
theorem dX2_told_54 : decode cX2_told 54 = .ok (.getfield 80, 3) := by decide +kernel
theorem dX2_told_57 : decode cX2_told 57 = .ok (.ireturn, 1) := by decide +kernel
theorem dX2_told_58 : decode cX2_told 58 = .ok (.aload_n 3, 1) := by decide +kernel
theorem dX2_told_59 : decode cX2_told 59 = .ok (.invokevirtual 83, 3) := by decide +kernel
theorem dX2_told_62 : decode cX2_told 62 = .ok (.ireturn, 1) := by decide +kernel
theorem dX2_told_63 : decode cX2_told 63 = .ok (.aload_n 3, 1) := by decide +kernel
theorem dX2_told_64 : decode cX2_told 64 = .ok (.invokevirtual 86, 3) := by decide +kernel
theorem dX2_told_67 : decode cX2_told 67 = .ok (.ireturn, 1) := by decide +kernel
theorem dX2_told_68 : decode cX2_told 68 = .ok (.aload_n 0, 1) := by decide +kernel
theorem dX2_told_69 : decode cX2_told 69 = .ok (.iload_n 1, 1) := by decide +kernel
theorem dX2_told_70 : decode cX2_told 70 = .ok (.invokevirtual 89, 3) := by decide +kernel
theorem dX2_told_73 : decode cX2_told 73 = .ok (.ireturn, 1) := by decide +kernel
theorem dX2_told_74 : decode cX2_told 74 = .ok (.aload_n 0, 1) := by decide +kernel
theorem dX2_told_75 : decode cX2_told 75 = .ok (.iload_n 1, 1) := by decide +kernel
theorem dX2_told_76 : decode cX2_told 76 = .ok (.aload_n 3, 1) := by decide +kernel
theorem dX2_told_77 : decode cX2_told 77 = .ok (.invokevirtual 76, 3) := by decide +kernel
theorem dX2_told_80 : decode cX2_told 80 = .ok (.invokevirtual 93, 3) := by decide +kernel
theorem dX2_told_83 : decode cX2_told 83 = .ok (.ireturn, 1) := by decide +kernel
set_option maxRecDepth 20000 in
theorem ggX2_thing_X2_findCupboard : GoodIn wsX2_thing wsX2_findCupboard := goodIn_ca (goodIn_r _ [5, 6, 7, 8, 9, 16, 17, 18, 19, 20] (by decide +kernel) (by decide +kernel)) (goodIn_sub (fun _ h => List.mem_cons_of_mem _ (List.mem_append_right _ h)) (by decide +kernel))
set_option maxRecDepth 20000 in
theorem gX2_thing_X2_findCupboard : GoodIn wsX2_thing (wsV RX2 37 RX2 yX2_findCupboard wsX2_findCupboard) := goodIn_app (goodIn_of _ (by decide +kernel)) ggX2_thing_X2_findCupboard
set_option maxRecDepth 20000 in
theorem ggX2_thing_X2_checkDrawer : GoodIn wsX2_thing wsX2_checkDrawer := goodIn_ca (goodIn_r _ [12, 6, 7] (by decide +kernel) (by decide +kernel)) (goodIn_sub (fun _ h => List.mem_cons_of_mem _ (List.mem_append_right _ h)) (by decide +kernel))
set_option maxRecDepth 20000 in
theorem gX2_thing_X2_checkDrawer : GoodIn wsX2_thing (va_wsS RX2 41 yX2_checkDrawer wsX2_checkDrawer) := goodIn_app (goodIn_of _ (by decide +kernel)) ggX2_thing_X2_checkDrawer
theorem dX2_thing_0 : decode cX2_thing 0 = .ok (.aload_n 0, 1) := by decide +kernel
theorem dX2_thing_1 : decode cX2_thing 1 = .ok (.iload_n 1, 1) := by decide +kernel
theorem dX2_thing_2 : decode cX2_thing 2 = .ok (.invokevirtual 37, 3) := by decide +kernel
theorem dX2_thing_5 : decode cX2_thing 5 = .ok (.astore_n 3, 1) := by decide +kernel
theorem dX2_thing_6 : decode cX2_thing 6 = .ok (.iload_n 2, 1) := by decide +kernel
theorem dX2_thing_7 : decode cX2_thing 7 = .ok (.invokestatic 41, 3) := by decide +kernel
theorem dX2_thing_10 : decode cX2_thing 10 = .ok (.aload_n 3, 1) := by decide +kernel
theorem dX2_thing_11 : decode cX2_thing 11 = .ok (.getfield 48, 3) := by decide +kernel
theorem dX2_thing_14 : decode cX2_thing 14 = .ok (.iload_n 2, 1) := by decide +kernel
theorem dX2_thing_15 : decode cX2_thing 15 = .ok (.iaload, 1) := by decide +kernel
theorem dX2_thing_16 : decode cX2_thing 16 = .ok (.ireturn, 1) := by decide +kernel
set_option maxRecDepth 20000 in
theorem ggX2_seal_X2_findCupboard : GoodIn wsX2_seal wsX2_findCupboard := goodIn_ca (goodIn_r _ [12, 13, 14, 15, 16, 30, 31, 32, 33, 34] (by decide +kernel) (by decide +kernel)) (goodIn_sub (fun _ h => List.mem_cons_of_mem _ (List.mem_append_right _ h)) (by decide +kernel))
set_option maxRecDepth 20000 in
theorem gX2_seal_X2_findCupboard : GoodIn wsX2_seal (wsV RX2 37 RX2 yX2_findCupboard wsX2_findCupboard) := goodIn_app (goodIn_of _ (by decide +kernel)) ggX2_seal_X2_findCupboard
set_option maxRecDepth 20000 in
theorem ggX2_seal_X0_root : GoodIn wsX2_seal wsX0_root := goodIn_r _ [20, 21, 38, 39, 40] (by decide +kernel) (by decide +kernel)
set_option maxRecDepth 20000 in
theorem gX2_seal_X0_root_n76 : GoodIn wsX2_seal (wsX0_root) := ggX2_seal_X0_root
set_option maxRecDepth 20000 in
theorem ggX2_seal_X1_init : GoodIn wsX2_seal wsX1_init := goodIn_r _ [23, 24, 25, 26, 27, 28, 29, 35, 36, 37] (by decide +kernel) (by decide +kernel)
set_option maxRecDepth 20000 in
theorem gX2_seal_X1_init_n102 : GoodIn wsX2_seal (wsX1_init) := ggX2_seal_X1_init
theorem dX2_seal_0 : decode cX2_seal 0 = .ok (.aload_n 0, 1) := by decide +kernel
theorem dX2_seal_1 : decode cX2_seal 1 = .ok (.iload_n 1, 1) := by decide +kernel
theorem dX2_seal_2 : decode cX2_seal 2 = .ok (.invokevirtual 37, 3) := by decide +kernel
theorem dX2_seal_5 : decode cX2_seal 5 = .ok (.astore_n 2, 1) := by decide +kernel
theorem dX2_seal_6 : decode cX2_seal 6 = .ok (.aload_n 0, 1) := by decide +kernel
theorem dX2_seal_7 : decode cX2_seal 7 = .ok (.getfield 97, 3) := by decide +kernel
theorem dX2_seal_10 : decode cX2_seal 10 = .ok (.bipush 20, 2) := by decide +kernel
theorem dX2_seal_12 : decode cX2_seal 12 = .ok (.if_icmp .lt 13, 3) := by decide +kernel
theorem dX2_seal_15 : decode cX2_seal 15 = .ok (.new 29, 3) := by decide +kernel
theorem dX2_seal_18 : decode cX2_seal 18 = .ok (.dup, 1) := by decide +kernel
theorem dX2_seal_19 : decode cX2_seal 19 = .ok (.ldc 100, 2) := by decide +kernel
theorem dX2_seal_21 : decode cX2_seal 21 = .ok (.invokespecial 33, 3) := by decide +kernel
theorem dX2_seal_24 : decode cX2_seal 24 = .ok (.athrow, 1) := by decide +kernel
theorem dX2_seal_25 : decode cX2_seal 25 = .ok (.aload_n 0, 1) := by decide +kernel
theorem dX2_seal_26 : decode cX2_seal 26 = .ok (.getfield 17, 3) := by decide +kernel
theorem dX2_seal_29 : decode cX2_seal 29 = .ok (.aload_n 0, 1) := by decide +kernel
theorem dX2_seal_30 : decode cX2_seal 30 = .ok (.getfield 97, 3) := by decide +kernel
theorem dX2_seal_33 : decode cX2_seal 33 = .ok (.new 15, 3) := by decide +kernel
theorem dX2_seal_36 : decode cX2_seal 36 = .ok (.dup, 1) := by decide +kernel
theorem dX2_seal_37 : decode cX2_seal 37 = .ok (.iload_n 1, 1) := by decide +kernel
theorem dX2_seal_38 : decode cX2_seal 38 = .ok (.aload_n 2, 1) := by decide +kernel
theorem dX2_seal_39 : decode cX2_seal 39 = .ok (.invokevirtual 76, 3) := by decide +kernel
theorem dX2_seal_42 : decode cX2_seal 42 = .ok (.aload_n 2, 1) := by decide +kernel
theorem dX2_seal_43 : decode cX2_seal 43 = .ok (.getfield 80, 3) := by decide +kernel
theorem dX2_seal_46 : decode cX2_seal 46 = .ok (.invokespecial 102, 3) := by decide +kernel
theorem dX2_seal_49 : decode cX2_seal 49 = .ok (.aastore, 1) := by decide +kernel
theorem dX2_seal_50 : decode cX2_seal 50 = .ok (.aload_n 0, 1) := by decide +kernel
theorem dX2_seal_51 : decode cX2_seal 51 = .ok (.dup, 1) := by decide +kernel
theorem dX2_seal_52 : decode cX2_seal 52 = .ok (.getfield 97, 3) := by decide +kernel
theorem dX2_seal_55 : decode cX2_seal 55 = .ok (.iconst 1, 1) := by decide +kernel
theorem dX2_seal_56 : decode cX2_seal 56 = .ok (.iadd, 1) := by decide +kernel
theorem dX2_seal_57 : decode cX2_seal 57 = .ok (.putfield 97, 3) := by decide +kernel
theorem dX2_seal_60 : decode cX2_seal 60 = .ok (.aload_n 0, 1) := by decide +kernel
theorem dX2_seal_61 : decode cX2_seal 61 = .ok (.getfield 97, 3) := by decide +kernel
theorem dX2_seal_64 : decode cX2_seal 64 = .ok (.iconst 1, 1) := by decide +kernel
theorem dX2_seal_65 : decode cX2_seal 65 = .ok (.isub, 1) := by decide +kernel
theorem dX2_seal_66 : decode cX2_seal 66 = .ok (.ireturn, 1) := by decide +kernel
set_option maxRecDepth 20000 in
theorem ggX2_about_X2_findSeal : GoodIn wsX2_about wsX2_findSeal := goodIn_ca (goodIn_r _ [5, 6, 7, 8, 9, 25, 26, 27, 28, 29] (by decide +kernel) (by decide +kernel)) (goodIn_sub (fun _ h => List.mem_cons_of_mem _ (List.mem_append_right _ h)) (by decide +kernel))
set_option maxRecDepth 20000 in
theorem gX2_about_X2_findSeal : GoodIn wsX2_about (wsV RX2 105 RX2 yX2_findSeal wsX2_findSeal) := goodIn_app (goodIn_of _ (by decide +kernel)) ggX2_about_X2_findSeal
set_option maxRecDepth 20000 in
theorem ggX2_about_X2_checkWhat : GoodIn wsX2_about wsX2_checkWhat := goodIn_ca (goodIn_r _ [12, 6, 7] (by decide +kernel) (by decide +kernel)) (goodIn_sub (fun _ h => List.mem_cons_of_mem _ (List.mem_append_right _ h)) (by decide +kernel))
set_option maxRecDepth 20000 in
theorem gX2_about_X2_checkWhat : GoodIn wsX2_about (va_wsS RX2 73 yX2_checkWhat wsX2_checkWhat) := goodIn_app (goodIn_of _ (by decide +kernel)) ggX2_about_X2_checkWhat
set_option maxRecDepth 20000 in
theorem ggX2_about_X2_findCupboard : GoodIn wsX2_about wsX2_findCupboard := goodIn_ca (goodIn_r _ [16, 6, 7, 17, 18, 25, 26, 27, 28, 29] (by decide +kernel) (by decide +kernel)) (goodIn_sub (fun _ h => List.mem_cons_of_mem _ (List.mem_append_right _ h)) (by decide +kernel))
set_option maxRecDepth 20000 in
theorem gX2_about_X2_findCupboard : GoodIn wsX2_about (wsV RX2 37 RX2 yX2_findCupboard wsX2_findCupboard) := goodIn_app (goodIn_of _ (by decide +kernel)) ggX2_about_X2_findCupboard
theorem dX2_about_0 : decode cX2_about 0 = .ok (.aload_n 0, 1) := by decide +kernel
theorem dX2_about_1 : decode cX2_about 1 = .ok (.iload_n 1, 1) := by decide +kernel
theorem dX2_about_2 : decode cX2_about 2 = .ok (.invokevirtual 105, 3) := by decide +kernel
theorem dX2_about_5 : decode cX2_about 5 = .ok (.astore_n 3, 1) := by decide +kernel
theorem dX2_about_6 : decode cX2_about 6 = .ok (.iload_n 2, 1) := by decide +kernel
theorem dX2_about_7 : decode cX2_about 7 = .ok (.iconst 4, 1) := by decide +kernel
theorem dX2_about_8 : decode cX2_about 8 = .ok (.invokestatic 73, 3) := by decide +kernel
theorem dX2_about_11 : decode cX2_about 11 = .ok (.iload_n 2, 1) := by decide +kernel
theorem dX2_about_12 : decode cX2_about 12 = .ok (.tableswitch 43 0 2 #[28, 33, 38], 28) := by decide +kernel
theorem dX2_about_40 : decode cX2_about 40 = .ok (.aload_n 3, 1) := by decide +kernel
theorem dX2_about_41 : decode cX2_about 41 = .ok (.getfield 109, 3) := by decide +kernel
theorem dX2_about_44 : decode cX2_about 44 = .ok (.ireturn, 1) := by decide +kernel
theorem dX2_about_45 : decode cX2_about 45 = .ok (.aload_n 3, 1) := by decide +kernel
theorem dX2_about_46 : decode cX2_about 46 = .ok (.getfield 112, 3) := by decide +kernel
theorem dX2_about_49 : decode cX2_about 49 = .ok (.ireturn, 1) := by decide +kernel
theorem dX2_about_50 : decode cX2_about 50 = .ok (.aload_n 3, 1) := by decide +kernel
theorem dX2_about_51 : decode cX2_about 51 = .ok (.getfield 114, 3) := by decide +kernel
theorem dX2_about_54 : decode cX2_about 54 = .ok (.ireturn, 1) := by decide +kernel
theorem dX2_about_55 : decode cX2_about 55 = .ok (.aload_n 0, 1) := by decide +kernel
theorem dX2_about_56 : decode cX2_about 56 = .ok (.aload_n 3, 1) := by decide +kernel
theorem dX2_about_57 : decode cX2_about 57 = .ok (.getfield 109, 3) := by decide +kernel
theorem dX2_about_60 : decode cX2_about 60 = .ok (.invokevirtual 37, 3) := by decide +kernel
theorem dX2_about_63 : decode cX2_about 63 = .ok (.getfield 80, 3) := by decide +kernel
theorem dX2_about_66 : decode cX2_about 66 = .ok (.aload_n 3, 1) := by decide +kernel
theorem dX2_about_67 : decode cX2_about 67 = .ok (.getfield 114, 3) := by decide +kernel
theorem dX2_about_70 : decode cX2_about 70 = .ok (.isub, 1) := by decide +kernel
theorem dX2_about_71 : decode cX2_about 71 = .ok (.ireturn, 1) := by decide +kernel
set_option maxRecDepth 20000 in
theorem ggX2_proof_X2_findCupboard : GoodIn wsX2_proof wsX2_findCupboard := goodIn_ca (goodIn_r _ [7, 1, 2, 8, 9, 18, 19, 20, 21, 22] (by decide +kernel) (by decide +kernel)) (goodIn_sub (fun _ h => List.mem_cons_of_mem _ (List.mem_append_right _ h)) (by decide +kernel))
set_option maxRecDepth 20000 in
theorem gX2_proof_X2_findCupboard : GoodIn wsX2_proof (wsV RX2 37 RX2 yX2_findCupboard wsX2_findCupboard) := goodIn_app (goodIn_of _ (by decide +kernel)) ggX2_proof_X2_findCupboard
set_option maxRecDepth 20000 in
theorem ggX2_proof_X2_checkDrawer : GoodIn wsX2_proof wsX2_checkDrawer := goodIn_ca (goodIn_r _ [12, 1, 2] (by decide +kernel) (by decide +kernel)) (goodIn_sub (fun _ h => List.mem_cons_of_mem _ (List.mem_append_right _ h)) (by decide +kernel))
set_option maxRecDepth 20000 in
theorem gX2_proof_X2_checkDrawer : GoodIn wsX2_proof (va_wsS RX2 41 yX2_checkDrawer wsX2_checkDrawer) := goodIn_app (goodIn_of _ (by decide +kernel)) ggX2_proof_X2_checkDrawer
set_option maxRecDepth 20000 in
theorem ggX2_proof_X0_proofSum : GoodIn wsX2_proof wsX0_proofSum := goodIn_r _ [16, 17, 23, 24, 25] (by decide +kernel) (by decide +kernel)
set_option maxRecDepth 20000 in
theorem gX2_proof_X0_proofSum_n117 : GoodIn wsX2_proof (wsX0_proofSum) := ggX2_proof_X0_proofSum
theorem dX2_proof_0 : decode cX2_proof 0 = .ok (.aload_n 0, 1) := by decide +kernel
theorem dX2_proof_1 : decode cX2_proof 1 = .ok (.iload_n 1, 1) := by decide +kernel
theorem dX2_proof_2 : decode cX2_proof 2 = .ok (.invokevirtual 37, 3) := by decide +kernel
theorem dX2_proof_5 : decode cX2_proof 5 = .ok (.astore 4, 2) := by decide +kernel
theorem dX2_proof_7 : decode cX2_proof 7 = .ok (.iload_n 2, 1) := by decide +kernel
theorem dX2_proof_8 : decode cX2_proof 8 = .ok (.invokestatic 41, 3) := by decide +kernel
theorem dX2_proof_11 : decode cX2_proof 11 = .ok (.iload_n 3, 1) := by decide +kernel
theorem dX2_proof_12 : decode cX2_proof 12 = .ok (.ifCond .lt 8, 3) := by decide +kernel
theorem dX2_proof_15 : decode cX2_proof 15 = .ok (.iload_n 3, 1) := by decide +kernel
theorem dX2_proof_16 : decode cX2_proof 16 = .ok (.iconst 4, 1) := by decide +kernel
theorem dX2_proof_17 : decode cX2_proof 17 = .ok (.if_icmp .lt 13, 3) := by decide +kernel
theorem dX2_proof_20 : decode cX2_proof 20 = .ok (.new 68, 3) := by decide +kernel
theorem dX2_proof_23 : decode cX2_proof 23 = .ok (.dup, 1) := by decide +kernel
theorem dX2_proof_24 : decode cX2_proof 24 = .ok (.ldc 115, 2) := by decide +kernel
theorem dX2_proof_26 : decode cX2_proof 26 = .ok (.invokespecial 72, 3) := by decide +kernel
theorem dX2_proof_29 : decode cX2_proof 29 = .ok (.athrow, 1) := by decide +kernel
theorem dX2_proof_30 : decode cX2_proof 30 = .ok (.aload 4, 2) := by decide +kernel
theorem dX2_proof_32 : decode cX2_proof 32 = .ok (.iload_n 2, 1) := by decide +kernel
theorem dX2_proof_33 : decode cX2_proof 33 = .ok (.iload_n 3, 1) := by decide +kernel
theorem dX2_proof_34 : decode cX2_proof 34 = .ok (.invokevirtual 117, 3) := by decide +kernel
theorem dX2_proof_37 : decode cX2_proof 37 = .ok (.ireturn, 1) := by decide +kernel
set_option maxRecDepth 20000 in
theorem ggX2_comes_X2_checkDrawer : GoodIn wsX2_comes wsX2_checkDrawer := goodIn_ca (goodIn_r _ [4, 5, 6] (by decide +kernel) (by decide +kernel)) (goodIn_sub (fun _ h => List.mem_cons_of_mem _ (List.mem_append_left _ (List.mem_append_right _ h))) (by decide +kernel))
set_option maxRecDepth 20000 in
theorem gX2_comes_X2_checkDrawer : GoodIn wsX2_comes (va_wsS RX2 41 yX2_checkDrawer wsX2_checkDrawer) := goodIn_app (goodIn_of _ (by decide +kernel)) ggX2_comes_X2_checkDrawer
set_option maxRecDepth 20000 in
theorem ggX2_comes_X2_checkThing : GoodIn wsX2_comes wsX2_checkThing := goodIn_ca (goodIn_r _ [9, 10, 11] (by decide +kernel) (by decide +kernel)) (goodIn_sub (fun _ h => List.mem_cons_of_mem _ (List.mem_append_right _ h)) (by decide +kernel))
set_option maxRecDepth 20000 in
theorem gX2_comes_X2_checkThing : GoodIn wsX2_comes (va_wsS RX2 45 yX2_checkThing wsX2_checkThing) := goodIn_app (goodIn_of _ (by decide +kernel)) ggX2_comes_X2_checkThing
set_option maxRecDepth 20000 in
theorem ggX2_comes_X2_checkSum : GoodIn wsX2_comes wsX2_checkSum := goodIn_ca (goodIn_r _ [14, 10, 11] (by decide +kernel) (by decide +kernel)) (goodIn_sub (fun _ h => List.mem_cons_of_mem _ (List.mem_append_right _ h)) (by decide +kernel))
set_option maxRecDepth 20000 in
theorem gX2_comes_X2_checkSum : GoodIn wsX2_comes (va_wsS RX2 120 yX2_checkSum wsX2_checkSum) := goodIn_app (goodIn_of _ (by decide +kernel)) ggX2_comes_X2_checkSum
set_option maxRecDepth 20000 in
theorem ggX2_comes_X2_sumOfThing : GoodIn wsX2_comes wsX2_sumOfThing := goodIn_r _ [17] (by decide +kernel) (by decide +kernel)
set_option maxRecDepth 20000 in
theorem gX2_comes_X2_sumOfThing : GoodIn wsX2_comes (va_wsS RX2 123 yX2_sumOfThing wsX2_sumOfThing) := goodIn_app (goodIn_of _ (by decide +kernel)) ggX2_comes_X2_sumOfThing
set_option maxRecDepth 20000 in
theorem ggX2_comes_X2_sumAbove : GoodIn wsX2_comes wsX2_sumAbove := goodIn_r _ [20, 21, 22, 3, 23] (by decide +kernel) (by decide +kernel)
set_option maxRecDepth 20000 in
theorem gX2_comes_X2_sumAbove : GoodIn wsX2_comes (va_wsS RX2 126 yX2_sumAbove wsX2_sumAbove) := goodIn_app (goodIn_of _ (by decide +kernel)) ggX2_comes_X2_sumAbove
theorem dX2_comes_0 : decode cX2_comes 0 = .ok (.iload_n 1, 1) := by decide +kernel
theorem dX2_comes_1 : decode cX2_comes 1 = .ok (.invokestatic 41, 3) := by decide +kernel
theorem dX2_comes_4 : decode cX2_comes 4 = .ok (.iload_n 2, 1) := by decide +kernel
theorem dX2_comes_5 : decode cX2_comes 5 = .ok (.invokestatic 45, 3) := by decide +kernel
theorem dX2_comes_8 : decode cX2_comes 8 = .ok (.iload_n 3, 1) := by decide +kernel
theorem dX2_comes_9 : decode cX2_comes 9 = .ok (.invokestatic 120, 3) := by decide +kernel
theorem dX2_comes_12 : decode cX2_comes 12 = .ok (.iload 4, 2) := by decide +kernel
theorem dX2_comes_14 : decode cX2_comes 14 = .ok (.invokestatic 120, 3) := by decide +kernel
theorem dX2_comes_17 : decode cX2_comes 17 = .ok (.iload 5, 2) := by decide +kernel
theorem dX2_comes_19 : decode cX2_comes 19 = .ok (.invokestatic 120, 3) := by decide +kernel
theorem dX2_comes_22 : decode cX2_comes 22 = .ok (.iload 6, 2) := by decide +kernel
theorem dX2_comes_24 : decode cX2_comes 24 = .ok (.invokestatic 120, 3) := by decide +kernel
theorem dX2_comes_27 : decode cX2_comes 27 = .ok (.bipush 16, 2) := by decide +kernel
theorem dX2_comes_29 : decode cX2_comes 29 = .ok (.iload_n 1, 1) := by decide +kernel
theorem dX2_comes_30 : decode cX2_comes 30 = .ok (.iadd, 1) := by decide +kernel
theorem dX2_comes_31 : decode cX2_comes 31 = .ok (.istore 7, 2) := by decide +kernel
theorem dX2_comes_33 : decode cX2_comes 33 = .ok (.iload_n 1, 1) := by decide +kernel
theorem dX2_comes_34 : decode cX2_comes 34 = .ok (.iload_n 2, 1) := by decide +kernel
theorem dX2_comes_35 : decode cX2_comes 35 = .ok (.invokestatic 123, 3) := by decide +kernel
theorem dX2_comes_38 : decode cX2_comes 38 = .ok (.istore 8, 2) := by decide +kernel
theorem dX2_comes_40 : decode cX2_comes 40 = .ok (.iload 7, 2) := by decide +kernel
theorem dX2_comes_42 : decode cX2_comes 42 = .ok (.iload 8, 2) := by decide +kernel
theorem dX2_comes_44 : decode cX2_comes 44 = .ok (.iload_n 3, 1) := by decide +kernel
theorem dX2_comes_45 : decode cX2_comes 45 = .ok (.invokestatic 126, 3) := by decide +kernel
theorem dX2_comes_48 : decode cX2_comes 48 = .ok (.istore 8, 2) := by decide +kernel
theorem dX2_comes_50 : decode cX2_comes 50 = .ok (.iload 7, 2) := by decide +kernel
theorem dX2_comes_52 : decode cX2_comes 52 = .ok (.iconst 1, 1) := by decide +kernel
theorem dX2_comes_53 : decode cX2_comes 53 = .ok (.ishr, 1) := by decide +kernel
theorem dX2_comes_54 : decode cX2_comes 54 = .ok (.iload 8, 2) := by decide +kernel
theorem dX2_comes_56 : decode cX2_comes 56 = .ok (.iload 4, 2) := by decide +kernel
theorem dX2_comes_58 : decode cX2_comes 58 = .ok (.invokestatic 126, 3) := by decide +kernel
theorem dX2_comes_61 : decode cX2_comes 61 = .ok (.istore 8, 2) := by decide +kernel
theorem dX2_comes_63 : decode cX2_comes 63 = .ok (.iload 7, 2) := by decide +kernel
theorem dX2_comes_65 : decode cX2_comes 65 = .ok (.iconst 2, 1) := by decide +kernel
theorem dX2_comes_66 : decode cX2_comes 66 = .ok (.ishr, 1) := by decide +kernel
theorem dX2_comes_67 : decode cX2_comes 67 = .ok (.iload 8, 2) := by decide +kernel
theorem dX2_comes_69 : decode cX2_comes 69 = .ok (.iload 5, 2) := by decide +kernel
theorem dX2_comes_71 : decode cX2_comes 71 = .ok (.invokestatic 126, 3) := by decide +kernel
theorem dX2_comes_74 : decode cX2_comes 74 = .ok (.istore 8, 2) := by decide +kernel
theorem dX2_comes_76 : decode cX2_comes 76 = .ok (.iload 7, 2) := by decide +kernel
theorem dX2_comes_78 : decode cX2_comes 78 = .ok (.iconst 3, 1) := by decide +kernel
theorem dX2_comes_79 : decode cX2_comes 79 = .ok (.ishr, 1) := by decide +kernel
theorem dX2_comes_80 : decode cX2_comes 80 = .ok (.iload 8, 2) := by decide +kernel
theorem dX2_comes_82 : decode cX2_comes 82 = .ok (.iload 6, 2) := by decide +kernel
theorem dX2_comes_84 : decode cX2_comes 84 = .ok (.invokestatic 126, 3) := by decide +kernel
theorem dX2_comes_87 : decode cX2_comes 87 = .ok (.ireturn, 1) := by decide +kernel
set_option maxRecDepth 20000 in
theorem ggX2_proves_X2_findSeal : GoodIn wsX2_proves wsX2_findSeal := goodIn_ca (goodIn_r _ [5, 6, 7, 8, 9, 41, 42, 43, 44, 45] (by decide +kernel) (by decide +kernel)) (goodIn_sub (fun _ h => List.mem_cons_of_mem _ (List.mem_append_left _ (List.mem_append_right _ h))) (by decide +kernel))
set_option maxRecDepth 20000 in
theorem gX2_proves_X2_findSeal : GoodIn wsX2_proves (wsV RX2 105 RX2 yX2_findSeal wsX2_findSeal) := goodIn_app (goodIn_of _ (by decide +kernel)) ggX2_proves_X2_findSeal
set_option maxRecDepth 20000 in
theorem ggX2_proves_X2_checkDrawer : GoodIn wsX2_proves wsX2_checkDrawer := goodIn_ca (goodIn_r _ [12, 6, 7] (by decide +kernel) (by decide +kernel)) (goodIn_sub (fun _ h => List.mem_cons_of_mem _ (List.mem_append_left _ (List.mem_append_right _ h))) (by decide +kernel))
set_option maxRecDepth 20000 in
theorem gX2_proves_X2_checkDrawer : GoodIn wsX2_proves (va_wsS RX2 41 yX2_checkDrawer wsX2_checkDrawer) := goodIn_app (goodIn_of _ (by decide +kernel)) ggX2_proves_X2_checkDrawer
set_option maxRecDepth 20000 in
theorem ggX2_proves_X2_checkThing : GoodIn wsX2_proves wsX2_checkThing := goodIn_ca (goodIn_r _ [15, 16, 17] (by decide +kernel) (by decide +kernel)) (goodIn_sub (fun _ h => List.mem_cons_of_mem _ (List.mem_append_right _ h)) (by decide +kernel))
set_option maxRecDepth 20000 in
theorem gX2_proves_X2_checkThing : GoodIn wsX2_proves (va_wsS RX2 45 yX2_checkThing wsX2_checkThing) := goodIn_app (goodIn_of _ (by decide +kernel)) ggX2_proves_X2_checkThing
set_option maxRecDepth 20000 in
theorem ggX2_proves_X2_findCupboard : GoodIn wsX2_proves wsX2_findCupboard := goodIn_ca (goodIn_r _ [21, 6, 7, 22, 23, 41, 42, 43, 44, 45] (by decide +kernel) (by decide +kernel)) (goodIn_sub (fun _ h => List.mem_cons_of_mem _ (List.mem_append_left _ (List.mem_append_right _ h))) (by decide +kernel))
set_option maxRecDepth 20000 in
theorem gX2_proves_X2_findCupboard : GoodIn wsX2_proves (wsV RX2 37 RX2 yX2_findCupboard wsX2_findCupboard) := goodIn_app (goodIn_of _ (by decide +kernel)) ggX2_proves_X2_findCupboard
set_option maxRecDepth 20000 in
theorem ggX2_proves_X2_sumOfThing : GoodIn wsX2_proves wsX2_sumOfThing := goodIn_r _ [26] (by decide +kernel) (by decide +kernel)
set_option maxRecDepth 20000 in
theorem gX2_proves_X2_sumOfThing : GoodIn wsX2_proves (va_wsS RX2 123 yX2_sumOfThing wsX2_sumOfThing) := goodIn_app (goodIn_of _ (by decide +kernel)) ggX2_proves_X2_sumOfThing
set_option maxRecDepth 20000 in
theorem ggX2_proves_X0_proofSum : GoodIn wsX2_proves wsX0_proofSum := goodIn_r _ [30, 31, 46, 47, 48] (by decide +kernel) (by decide +kernel)
set_option maxRecDepth 20000 in
theorem gX2_proves_X0_proofSum_n117 : GoodIn wsX2_proves (wsX0_proofSum) := ggX2_proves_X0_proofSum
set_option maxRecDepth 20000 in
theorem ggX2_proves_X2_sumAbove : GoodIn wsX2_proves wsX2_sumAbove := goodIn_r _ [34, 35, 36, 4, 37] (by decide +kernel) (by decide +kernel)
set_option maxRecDepth 20000 in
theorem gX2_proves_X2_sumAbove : GoodIn wsX2_proves (va_wsS RX2 126 yX2_sumAbove wsX2_sumAbove) := goodIn_app (goodIn_of _ (by decide +kernel)) ggX2_proves_X2_sumAbove
theorem dX2_proves_0 : decode cX2_proves 0 = .ok (.aload_n 0, 1) := by decide +kernel
theorem dX2_proves_1 : decode cX2_proves 1 = .ok (.iload_n 1, 1) := by decide +kernel
theorem dX2_proves_2 : decode cX2_proves 2 = .ok (.invokevirtual 105, 3) := by decide +kernel
theorem dX2_proves_5 : decode cX2_proves 5 = .ok (.astore 4, 2) := by decide +kernel
theorem dX2_proves_7 : decode cX2_proves 7 = .ok (.iload_n 2, 1) := by decide +kernel
theorem dX2_proves_8 : decode cX2_proves 8 = .ok (.invokestatic 41, 3) := by decide +kernel
theorem dX2_proves_11 : decode cX2_proves 11 = .ok (.iload_n 3, 1) := by decide +kernel
theorem dX2_proves_12 : decode cX2_proves 12 = .ok (.invokestatic 45, 3) := by decide +kernel
theorem dX2_proves_15 : decode cX2_proves 15 = .ok (.aload_n 0, 1) := by decide +kernel
theorem dX2_proves_16 : decode cX2_proves 16 = .ok (.aload 4, 2) := by decide +kernel
theorem dX2_proves_18 : decode cX2_proves 18 = .ok (.getfield 109, 3) := by decide +kernel
theorem dX2_proves_21 : decode cX2_proves 21 = .ok (.invokevirtual 37, 3) := by decide +kernel
theorem dX2_proves_24 : decode cX2_proves 24 = .ok (.astore 5, 2) := by decide +kernel
theorem dX2_proves_26 : decode cX2_proves 26 = .ok (.iload_n 2, 1) := by decide +kernel
theorem dX2_proves_27 : decode cX2_proves 27 = .ok (.iload_n 3, 1) := by decide +kernel
theorem dX2_proves_28 : decode cX2_proves 28 = .ok (.invokestatic 123, 3) := by decide +kernel
theorem dX2_proves_31 : decode cX2_proves 31 = .ok (.istore 6, 2) := by decide +kernel
theorem dX2_proves_33 : decode cX2_proves 33 = .ok (.iconst 0, 1) := by decide +kernel
theorem dX2_proves_34 : decode cX2_proves 34 = .ok (.istore 7, 2) := by decide +kernel
theorem dX2_proves_36 : decode cX2_proves 36 = .ok (.iload 7, 2) := by decide +kernel
theorem dX2_proves_38 : decode cX2_proves 38 = .ok (.iconst 4, 1) := by decide +kernel
theorem dX2_proves_39 : decode cX2_proves 39 = .ok (.if_icmp .ge 31, 3) := by decide +kernel
theorem dX2_proves_42 : decode cX2_proves 42 = .ok (.bipush 16, 2) := by decide +kernel
theorem dX2_proves_44 : decode cX2_proves 44 = .ok (.iload_n 2, 1) := by decide +kernel
theorem dX2_proves_45 : decode cX2_proves 45 = .ok (.iadd, 1) := by decide +kernel
theorem dX2_proves_46 : decode cX2_proves 46 = .ok (.iload 7, 2) := by decide +kernel
theorem dX2_proves_48 : decode cX2_proves 48 = .ok (.ishr, 1) := by decide +kernel
theorem dX2_proves_49 : decode cX2_proves 49 = .ok (.iload 6, 2) := by decide +kernel
theorem dX2_proves_51 : decode cX2_proves 51 = .ok (.aload 5, 2) := by decide +kernel
theorem dX2_proves_53 : decode cX2_proves 53 = .ok (.iload_n 2, 1) := by decide +kernel
theorem dX2_proves_54 : decode cX2_proves 54 = .ok (.iload 7, 2) := by decide +kernel
theorem dX2_proves_56 : decode cX2_proves 56 = .ok (.invokevirtual 117, 3) := by decide +kernel
theorem dX2_proves_59 : decode cX2_proves 59 = .ok (.invokestatic 126, 3) := by decide +kernel
theorem dX2_proves_62 : decode cX2_proves 62 = .ok (.istore 6, 2) := by decide +kernel
theorem dX2_proves_64 : decode cX2_proves 64 = .ok (.iinc 7 1, 3) := by decide +kernel
theorem dX2_proves_67 : decode cX2_proves 67 = .ok (.goto (-31), 3) := by decide +kernel
theorem dX2_proves_70 : decode cX2_proves 70 = .ok (.iload 6, 2) := by decide +kernel
theorem dX2_proves_72 : decode cX2_proves 72 = .ok (.aload 4, 2) := by decide +kernel
theorem dX2_proves_74 : decode cX2_proves 74 = .ok (.getfield 112, 3) := by decide +kernel
theorem dX2_proves_77 : decode cX2_proves 77 = .ok (.if_icmp .ne 7, 3) := by decide +kernel
theorem dX2_proves_80 : decode cX2_proves 80 = .ok (.iconst 1, 1) := by decide +kernel
theorem dX2_proves_81 : decode cX2_proves 81 = .ok (.goto 4, 3) := by decide +kernel
theorem dX2_proves_84 : decode cX2_proves 84 = .ok (.iconst 0, 1) := by decide +kernel
theorem dX2_proves_85 : decode cX2_proves 85 = .ok (.ireturn, 1) := by decide +kernel
set_option maxRecDepth 20000 in
theorem ggX2_differ_X2_findCupboard : GoodIn wsX2_differ wsX2_findCupboard := goodIn_ca (goodIn_r _ [5, 6, 7, 8, 9, 22, 23, 24, 25, 26] (by decide +kernel) (by decide +kernel)) (goodIn_sub (fun _ h => List.mem_cons_of_mem _ (List.mem_append_right _ h)) (by decide +kernel))
set_option maxRecDepth 20000 in
theorem gX2_differ_X2_findCupboard : GoodIn wsX2_differ (wsV RX2 37 RX2 yX2_findCupboard wsX2_findCupboard) := goodIn_app (goodIn_of _ (by decide +kernel)) ggX2_differ_X2_findCupboard
set_option maxRecDepth 20000 in
theorem ggX2_differ_X2_drawersApart : GoodIn wsX2_differ wsX2_drawersApart := goodIn_r _ [12, 13, 14, 4, 15, 16, 17, 18] (by decide +kernel) (by decide +kernel)
set_option maxRecDepth 20000 in
theorem gX2_differ_X2_drawersApart : GoodIn wsX2_differ (va_wsS RX2 130 yX2_drawersApart wsX2_drawersApart) := goodIn_app (goodIn_of _ (by decide +kernel)) ggX2_differ_X2_drawersApart
theorem dX2_differ_0 : decode cX2_differ 0 = .ok (.aload_n 0, 1) := by decide +kernel
theorem dX2_differ_1 : decode cX2_differ 1 = .ok (.iload_n 1, 1) := by decide +kernel
theorem dX2_differ_2 : decode cX2_differ 2 = .ok (.invokevirtual 37, 3) := by decide +kernel
theorem dX2_differ_5 : decode cX2_differ 5 = .ok (.getfield 55, 3) := by decide +kernel
theorem dX2_differ_8 : decode cX2_differ 8 = .ok (.aload_n 0, 1) := by decide +kernel
theorem dX2_differ_9 : decode cX2_differ 9 = .ok (.iload_n 2, 1) := by decide +kernel
theorem dX2_differ_10 : decode cX2_differ 10 = .ok (.invokevirtual 37, 3) := by decide +kernel
theorem dX2_differ_13 : decode cX2_differ 13 = .ok (.getfield 55, 3) := by decide +kernel
theorem dX2_differ_16 : decode cX2_differ 16 = .ok (.invokestatic 130, 3) := by decide +kernel
theorem dX2_differ_19 : decode cX2_differ 19 = .ok (.ireturn, 1) := by decide +kernel
set_option maxRecDepth 20000 in
theorem ggX2_looks_X2_findCupboard : GoodIn wsX2_looks wsX2_findCupboard := goodIn_ca (goodIn_r _ [5, 6, 7, 8, 9, 26, 27, 28, 29, 30] (by decide +kernel) (by decide +kernel)) (goodIn_sub (fun _ h => List.mem_cons_of_mem _ (List.mem_append_right _ h)) (by decide +kernel))
set_option maxRecDepth 20000 in
theorem gX2_looks_X2_findCupboard : GoodIn wsX2_looks (wsV RX2 37 RX2 yX2_findCupboard wsX2_findCupboard) := goodIn_app (goodIn_of _ (by decide +kernel)) ggX2_looks_X2_findCupboard
set_option maxRecDepth 20000 in
theorem ggX2_looks_X2_placesLookedAt : GoodIn wsX2_looks wsX2_placesLookedAt := goodIn_r _ [12, 13, 14, 4, 15] (by decide +kernel) (by decide +kernel)
set_option maxRecDepth 20000 in
theorem gX2_looks_X2_placesLookedAt : GoodIn wsX2_looks (va_wsS RX2 133 yX2_placesLookedAt wsX2_placesLookedAt) := goodIn_app (goodIn_of _ (by decide +kernel)) ggX2_looks_X2_placesLookedAt
set_option maxRecDepth 20000 in
theorem ggX2_looks_J6_bitCount_0f7a4 : GoodIn wsX2_looks wsJ6_bitCount_0f7a4 := goodIn_r _ [19, 20, 21, 22] (by decide +kernel) (by decide +kernel)
set_option maxRecDepth 20000 in
theorem gX2_looks_J6_bitCount_0f7a4 : GoodIn wsX2_looks (va_wsS RX2 136 yJ6_bitCount_0f7a4 wsJ6_bitCount_0f7a4) := goodIn_app (goodIn_of _ (by decide +kernel)) ggX2_looks_J6_bitCount_0f7a4
theorem dX2_looks_0 : decode cX2_looks 0 = .ok (.aload_n 0, 1) := by decide +kernel
theorem dX2_looks_1 : decode cX2_looks 1 = .ok (.iload_n 1, 1) := by decide +kernel
theorem dX2_looks_2 : decode cX2_looks 2 = .ok (.invokevirtual 37, 3) := by decide +kernel
theorem dX2_looks_5 : decode cX2_looks 5 = .ok (.getfield 55, 3) := by decide +kernel
theorem dX2_looks_8 : decode cX2_looks 8 = .ok (.aload_n 0, 1) := by decide +kernel
theorem dX2_looks_9 : decode cX2_looks 9 = .ok (.iload_n 2, 1) := by decide +kernel
theorem dX2_looks_10 : decode cX2_looks 10 = .ok (.invokevirtual 37, 3) := by decide +kernel
theorem dX2_looks_13 : decode cX2_looks 13 = .ok (.getfield 55, 3) := by decide +kernel
theorem dX2_looks_16 : decode cX2_looks 16 = .ok (.invokestatic 133, 3) := by decide +kernel
theorem dX2_looks_19 : decode cX2_looks 19 = .ok (.invokestatic 136, 3) := by decide +kernel
theorem dX2_looks_22 : decode cX2_looks 22 = .ok (.ireturn, 1) := by decide +kernel
set_option maxRecDepth 20000 in
theorem ggX2_mend_X2_findCupboard : GoodIn wsX2_mend wsX2_findCupboard := goodIn_ca (goodIn_r _ [5, 6, 7, 8, 9, 44, 45, 46, 47, 48] (by decide +kernel) (by decide +kernel)) (goodIn_sub (fun _ h => List.mem_cons_of_mem _ (List.mem_append_right _ h)) (by decide +kernel))
set_option maxRecDepth 20000 in
theorem gX2_mend_X2_findCupboard : GoodIn wsX2_mend (wsV RX2 37 RX2 yX2_findCupboard wsX2_findCupboard) := goodIn_app (goodIn_of _ (by decide +kernel)) ggX2_mend_X2_findCupboard
set_option maxRecDepth 20000 in
theorem ggX2_mend_X2_drawersApart : GoodIn wsX2_mend wsX2_drawersApart := goodIn_r _ [12, 13, 14, 4, 15, 16, 17, 18] (by decide +kernel) (by decide +kernel)
set_option maxRecDepth 20000 in
theorem gX2_mend_X2_drawersApart : GoodIn wsX2_mend (va_wsS RX2 130 yX2_drawersApart wsX2_drawersApart) := goodIn_app (goodIn_of _ (by decide +kernel)) ggX2_mend_X2_drawersApart
set_option maxRecDepth 20000 in
theorem ggX2_mend_X2_hasBit : GoodIn wsX2_mend wsX2_hasBit := goodIn_r _ [18] (by decide +kernel) (by decide +kernel)
set_option maxRecDepth 20000 in
theorem gX2_mend_X2_hasBit : GoodIn wsX2_mend (va_wsS RX2 141 yX2_hasBit wsX2_hasBit) := goodIn_app (goodIn_of _ (by decide +kernel)) ggX2_mend_X2_hasBit
set_option maxRecDepth 20000 in
theorem ggX2_mend_X0_lay : GoodIn wsX2_mend wsX0_lay := goodIn_r _ [22, 23, 24, 25, 26, 4, 27, 28, 29, 30, 31, 32, 33, 41, 42, 43] (by decide +kernel) (by decide +kernel)
set_option maxRecDepth 20000 in
theorem gX2_mend_X0_lay_n51 : GoodIn wsX2_mend (wsX0_lay) := ggX2_mend_X0_lay
set_option maxRecDepth 20000 in
theorem ggX2_mend_J6_bitCount_0f7a4 : GoodIn wsX2_mend wsJ6_bitCount_0f7a4 := goodIn_r _ [37, 38, 39, 40] (by decide +kernel) (by decide +kernel)
set_option maxRecDepth 20000 in
theorem gX2_mend_J6_bitCount_0f7a4 : GoodIn wsX2_mend (va_wsS RX2 136 yJ6_bitCount_0f7a4 wsJ6_bitCount_0f7a4) := goodIn_app (goodIn_of _ (by decide +kernel)) ggX2_mend_J6_bitCount_0f7a4
theorem dX2_mend_0 : decode cX2_mend 0 = .ok (.aload_n 0, 1) := by decide +kernel
theorem dX2_mend_1 : decode cX2_mend 1 = .ok (.iload_n 1, 1) := by decide +kernel
theorem dX2_mend_2 : decode cX2_mend 2 = .ok (.invokevirtual 37, 3) := by decide +kernel
theorem dX2_mend_5 : decode cX2_mend 5 = .ok (.astore_n 3, 1) := by decide +kernel
theorem dX2_mend_6 : decode cX2_mend 6 = .ok (.aload_n 0, 1) := by decide +kernel
theorem dX2_mend_7 : decode cX2_mend 7 = .ok (.iload_n 2, 1) := by decide +kernel
theorem dX2_mend_8 : decode cX2_mend 8 = .ok (.invokevirtual 37, 3) := by decide +kernel
theorem dX2_mend_11 : decode cX2_mend 11 = .ok (.astore 4, 2) := by decide +kernel
theorem dX2_mend_13 : decode cX2_mend 13 = .ok (.aload_n 3, 1) := by decide +kernel
theorem dX2_mend_14 : decode cX2_mend 14 = .ok (.getfield 55, 3) := by decide +kernel
theorem dX2_mend_17 : decode cX2_mend 17 = .ok (.aload 4, 2) := by decide +kernel
theorem dX2_mend_19 : decode cX2_mend 19 = .ok (.getfield 55, 3) := by decide +kernel
theorem dX2_mend_22 : decode cX2_mend 22 = .ok (.invokestatic 130, 3) := by decide +kernel
theorem dX2_mend_25 : decode cX2_mend 25 = .ok (.istore 5, 2) := by decide +kernel
theorem dX2_mend_27 : decode cX2_mend 27 = .ok (.iconst 0, 1) := by decide +kernel
theorem dX2_mend_28 : decode cX2_mend 28 = .ok (.istore 6, 2) := by decide +kernel
theorem dX2_mend_30 : decode cX2_mend 30 = .ok (.iload 6, 2) := by decide +kernel
theorem dX2_mend_32 : decode cX2_mend 32 = .ok (.bipush 16, 2) := by decide +kernel
theorem dX2_mend_34 : decode cX2_mend 34 = .ok (.if_icmp .ge 33, 3) := by decide +kernel
theorem dX2_mend_37 : decode cX2_mend 37 = .ok (.iload 5, 2) := by decide +kernel
theorem dX2_mend_39 : decode cX2_mend 39 = .ok (.iload 6, 2) := by decide +kernel
theorem dX2_mend_41 : decode cX2_mend 41 = .ok (.invokestatic 141, 3) := by decide +kernel
theorem dX2_mend_44 : decode cX2_mend 44 = .ok (.ifCond .eq 17, 3) := by decide +kernel
theorem dX2_mend_47 : decode cX2_mend 47 = .ok (.aload 4, 2) := by decide +kernel
theorem dX2_mend_49 : decode cX2_mend 49 = .ok (.iload 6, 2) := by decide +kernel
theorem dX2_mend_51 : decode cX2_mend 51 = .ok (.aload_n 3, 1) := by decide +kernel
theorem dX2_mend_52 : decode cX2_mend 52 = .ok (.getfield 48, 3) := by decide +kernel
theorem dX2_mend_55 : decode cX2_mend 55 = .ok (.iload 6, 2) := by decide +kernel
theorem dX2_mend_57 : decode cX2_mend 57 = .ok (.iaload, 1) := by decide +kernel
theorem dX2_mend_58 : decode cX2_mend 58 = .ok (.invokevirtual 51, 3) := by decide +kernel
theorem dX2_mend_61 : decode cX2_mend 61 = .ok (.iinc 6 1, 3) := by decide +kernel
theorem dX2_mend_64 : decode cX2_mend 64 = .ok (.goto (-34), 3) := by decide +kernel
theorem dX2_mend_67 : decode cX2_mend 67 = .ok (.iload 5, 2) := by decide +kernel
theorem dX2_mend_69 : decode cX2_mend 69 = .ok (.invokestatic 136, 3) := by decide +kernel
theorem dX2_mend_72 : decode cX2_mend 72 = .ok (.ireturn, 1) := by decide +kernel
set_option maxRecDepth 20000 in
theorem ggX2_swapped_X2_findSeal : GoodIn wsX2_swapped wsX2_findSeal := goodIn_ca (goodIn_r _ [10, 11, 12, 13, 14, 45, 46, 47, 48, 49] (by decide +kernel) (by decide +kernel)) (goodIn_sub (fun _ h => List.mem_cons_of_mem _ (List.mem_append_right _ h)) (by decide +kernel))
set_option maxRecDepth 20000 in
theorem gX2_swapped_X2_findSeal : GoodIn wsX2_swapped (wsV RX2 105 RX2 yX2_findSeal wsX2_findSeal) := goodIn_app (goodIn_of _ (by decide +kernel)) ggX2_swapped_X2_findSeal
set_option maxRecDepth 20000 in
theorem ggX2_swapped_X2_findCupboard : GoodIn wsX2_swapped wsX2_findCupboard := goodIn_ca (goodIn_r _ [18, 11, 12, 19, 20, 45, 46, 47, 48, 49] (by decide +kernel) (by decide +kernel)) (goodIn_sub (fun _ h => List.mem_cons_of_mem _ (List.mem_append_right _ h)) (by decide +kernel))
set_option maxRecDepth 20000 in
theorem gX2_swapped_X2_findCupboard : GoodIn wsX2_swapped (wsV RX2 37 RX2 yX2_findCupboard wsX2_findCupboard) := goodIn_app (goodIn_of _ (by decide +kernel)) ggX2_swapped_X2_findCupboard
set_option maxRecDepth 20000 in
theorem ggX2_swapped_X0_root : GoodIn wsX2_swapped wsX0_root := goodIn_r _ [24, 25, 42, 43, 44] (by decide +kernel) (by decide +kernel)
set_option maxRecDepth 20000 in
theorem gX2_swapped_X0_root_n76 : GoodIn wsX2_swapped (wsX0_root) := ggX2_swapped_X0_root
set_option maxRecDepth 20000 in
theorem ggX2_swapped_X2_rootWithSwap : GoodIn wsX2_swapped wsX2_rootWithSwap := goodIn_r _ [29, 1, 30, 31, 9, 32, 33, 34, 35, 36, 37, 38, 45, 46, 47, 48, 49] (by decide +kernel) (by decide +kernel)
set_option maxRecDepth 20000 in
theorem gX2_swapped_X2_rootWithSwap : GoodIn wsX2_swapped (wsV RX2 145 RX2 yX2_rootWithSwap wsX2_rootWithSwap) := goodIn_app (goodIn_of _ (by decide +kernel)) ggX2_swapped_X2_rootWithSwap
theorem dX2_swapped_0 : decode cX2_swapped 0 = .ok (.aload_n 0, 1) := by decide +kernel
theorem dX2_swapped_1 : decode cX2_swapped 1 = .ok (.iload_n 1, 1) := by decide +kernel
theorem dX2_swapped_2 : decode cX2_swapped 2 = .ok (.invokevirtual 105, 3) := by decide +kernel
theorem dX2_swapped_5 : decode cX2_swapped 5 = .ok (.astore_n 2, 1) := by decide +kernel
theorem dX2_swapped_6 : decode cX2_swapped 6 = .ok (.aload_n 0, 1) := by decide +kernel
theorem dX2_swapped_7 : decode cX2_swapped 7 = .ok (.aload_n 2, 1) := by decide +kernel
theorem dX2_swapped_8 : decode cX2_swapped 8 = .ok (.getfield 109, 3) := by decide +kernel
theorem dX2_swapped_11 : decode cX2_swapped 11 = .ok (.invokevirtual 37, 3) := by decide +kernel
theorem dX2_swapped_14 : decode cX2_swapped 14 = .ok (.astore_n 3, 1) := by decide +kernel
theorem dX2_swapped_15 : decode cX2_swapped 15 = .ok (.aload_n 3, 1) := by decide +kernel
theorem dX2_swapped_16 : decode cX2_swapped 16 = .ok (.invokevirtual 76, 3) := by decide +kernel
theorem dX2_swapped_19 : decode cX2_swapped 19 = .ok (.aload_n 2, 1) := by decide +kernel
theorem dX2_swapped_20 : decode cX2_swapped 20 = .ok (.getfield 112, 3) := by decide +kernel
theorem dX2_swapped_23 : decode cX2_swapped 23 = .ok (.if_icmp .ne 5, 3) := by decide +kernel
theorem dX2_swapped_26 : decode cX2_swapped 26 = .ok (.iconst (-1), 1) := by decide +kernel
theorem dX2_swapped_27 : decode cX2_swapped 27 = .ok (.ireturn, 1) := by decide +kernel
theorem dX2_swapped_28 : decode cX2_swapped 28 = .ok (.aload_n 3, 1) := by decide +kernel
theorem dX2_swapped_29 : decode cX2_swapped 29 = .ok (.getfield 55, 3) := by decide +kernel
theorem dX2_swapped_32 : decode cX2_swapped 32 = .ok (.iconst 0, 1) := by decide +kernel
theorem dX2_swapped_33 : decode cX2_swapped 33 = .ok (.aload_n 0, 1) := by decide +kernel
theorem dX2_swapped_34 : decode cX2_swapped 34 = .ok (.getfield 21, 3) := by decide +kernel
theorem dX2_swapped_37 : decode cX2_swapped 37 = .ok (.iconst 0, 1) := by decide +kernel
theorem dX2_swapped_38 : decode cX2_swapped 38 = .ok (.bipush 32, 2) := by decide +kernel
theorem dX2_swapped_40 : decode cX2_swapped 40 = .ok (.invokestatic 58, 3) := by decide +kernel
theorem dX2_swapped_43 : decode cX2_swapped 43 = .ok (.iconst 0, 1) := by decide +kernel
theorem dX2_swapped_44 : decode cX2_swapped 44 = .ok (.istore 4, 2) := by decide +kernel
theorem dX2_swapped_46 : decode cX2_swapped 46 = .ok (.iload 4, 2) := by decide +kernel
theorem dX2_swapped_48 : decode cX2_swapped 48 = .ok (.bipush 16, 2) := by decide +kernel
theorem dX2_swapped_50 : decode cX2_swapped 50 = .ok (.if_icmp .ge 56, 3) := by decide +kernel
theorem dX2_swapped_53 : decode cX2_swapped 53 = .ok (.iload 4, 2) := by decide +kernel
theorem dX2_swapped_55 : decode cX2_swapped 55 = .ok (.iconst 1, 1) := by decide +kernel
theorem dX2_swapped_56 : decode cX2_swapped 56 = .ok (.iadd, 1) := by decide +kernel
theorem dX2_swapped_57 : decode cX2_swapped 57 = .ok (.istore 5, 2) := by decide +kernel
theorem dX2_swapped_59 : decode cX2_swapped 59 = .ok (.iload 5, 2) := by decide +kernel
theorem dX2_swapped_61 : decode cX2_swapped 61 = .ok (.bipush 16, 2) := by decide +kernel
theorem dX2_swapped_63 : decode cX2_swapped 63 = .ok (.if_icmp .ge 37, 3) := by decide +kernel
theorem dX2_swapped_66 : decode cX2_swapped 66 = .ok (.aload_n 0, 1) := by decide +kernel
theorem dX2_swapped_67 : decode cX2_swapped 67 = .ok (.aload_n 3, 1) := by decide +kernel
theorem dX2_swapped_68 : decode cX2_swapped 68 = .ok (.getfield 48, 3) := by decide +kernel
theorem dX2_swapped_71 : decode cX2_swapped 71 = .ok (.iload 4, 2) := by decide +kernel
theorem dX2_swapped_73 : decode cX2_swapped 73 = .ok (.iload 5, 2) := by decide +kernel
theorem dX2_swapped_75 : decode cX2_swapped 75 = .ok (.invokevirtual 145, 3) := by decide +kernel
theorem dX2_swapped_78 : decode cX2_swapped 78 = .ok (.aload_n 2, 1) := by decide +kernel
theorem dX2_swapped_79 : decode cX2_swapped 79 = .ok (.getfield 112, 3) := by decide +kernel
theorem dX2_swapped_82 : decode cX2_swapped 82 = .ok (.if_icmp .ne 12, 3) := by decide +kernel
theorem dX2_swapped_85 : decode cX2_swapped 85 = .ok (.bipush 16, 2) := by decide +kernel
theorem dX2_swapped_87 : decode cX2_swapped 87 = .ok (.iload 4, 2) := by decide +kernel
theorem dX2_swapped_89 : decode cX2_swapped 89 = .ok (.imul, 1) := by decide +kernel
theorem dX2_swapped_90 : decode cX2_swapped 90 = .ok (.iload 5, 2) := by decide +kernel
theorem dX2_swapped_92 : decode cX2_swapped 92 = .ok (.iadd, 1) := by decide +kernel
theorem dX2_swapped_93 : decode cX2_swapped 93 = .ok (.ireturn, 1) := by decide +kernel
theorem dX2_swapped_94 : decode cX2_swapped 94 = .ok (.iinc 5 1, 3) := by decide +kernel
theorem dX2_swapped_97 : decode cX2_swapped 97 = .ok (.goto (-38), 3) := by decide +kernel
theorem dX2_swapped_100 : decode cX2_swapped 100 = .ok (.iinc 4 1, 3) := by decide +kernel
theorem dX2_swapped_103 : decode cX2_swapped 103 = .ok (.goto (-57), 3) := by decide +kernel
theorem dX2_swapped_106 : decode cX2_swapped 106 = .ok (.iconst (-1), 1) := by decide +kernel
theorem dX2_swapped_107 : decode cX2_swapped 107 = .ok (.ireturn, 1) := by decide +kernel
set_option maxRecDepth 20000 in
theorem ggX2_count_X2_checkWhat : GoodIn wsX2_count wsX2_checkWhat := goodIn_ca (goodIn_r _ [6, 7, 8] (by decide +kernel) (by decide +kernel)) (goodIn_sub (fun _ h => List.mem_cons_of_mem _ (List.mem_append_right _ h)) (by decide +kernel))
set_option maxRecDepth 20000 in
theorem gX2_count_X2_checkWhat : GoodIn wsX2_count (va_wsS RX2 73 yX2_checkWhat wsX2_checkWhat) := goodIn_app (goodIn_of _ (by decide +kernel)) ggX2_count_X2_checkWhat
set_option maxRecDepth 20000 in
theorem ggX2_count_X2_differentRoots : GoodIn wsX2_count wsX2_differentRoots := goodIn_r _ [12, 1, 13, 14, 15, 5, 16, 17, 18, 19, 20, 21, 22, 27, 28, 29, 30, 31, 32, 33, 34] (by decide +kernel) (by decide +kernel)
set_option maxRecDepth 20000 in
theorem gX2_count_X2_differentRoots : GoodIn wsX2_count (wsV RX2 149 RX2 yX2_differentRoots wsX2_differentRoots) := goodIn_app (goodIn_of _ (by decide +kernel)) ggX2_count_X2_differentRoots
set_option maxRecDepth 20000 in
theorem ggX2_count_X2_changesAdded : GoodIn wsX2_count wsX2_changesAdded := goodIn_r _ [26, 1, 17, 27, 28, 29, 30, 31, 32, 33, 34] (by decide +kernel) (by decide +kernel)
set_option maxRecDepth 20000 in
theorem gX2_count_X2_changesAdded : GoodIn wsX2_count (wsV RX2 152 RX2 yX2_changesAdded wsX2_changesAdded) := goodIn_app (goodIn_of _ (by decide +kernel)) ggX2_count_X2_changesAdded
theorem dX2_count_0 : decode cX2_count 0 = .ok (.iload_n 1, 1) := by decide +kernel
theorem dX2_count_1 : decode cX2_count 1 = .ok (.iconst 4, 1) := by decide +kernel
theorem dX2_count_2 : decode cX2_count 2 = .ok (.invokestatic 73, 3) := by decide +kernel
theorem dX2_count_5 : decode cX2_count 5 = .ok (.iload_n 1, 1) := by decide +kernel
theorem dX2_count_6 : decode cX2_count 6 = .ok (.tableswitch 41 0 2 #[26, 31, 36], 26) := by decide +kernel
theorem dX2_count_32 : decode cX2_count 32 = .ok (.aload_n 0, 1) := by decide +kernel
theorem dX2_count_33 : decode cX2_count 33 = .ok (.getfield 25, 3) := by decide +kernel
theorem dX2_count_36 : decode cX2_count 36 = .ok (.ireturn, 1) := by decide +kernel
theorem dX2_count_37 : decode cX2_count 37 = .ok (.aload_n 0, 1) := by decide +kernel
theorem dX2_count_38 : decode cX2_count 38 = .ok (.getfield 97, 3) := by decide +kernel
theorem dX2_count_41 : decode cX2_count 41 = .ok (.ireturn, 1) := by decide +kernel
theorem dX2_count_42 : decode cX2_count 42 = .ok (.aload_n 0, 1) := by decide +kernel
theorem dX2_count_43 : decode cX2_count 43 = .ok (.invokevirtual 149, 3) := by decide +kernel
theorem dX2_count_46 : decode cX2_count 46 = .ok (.ireturn, 1) := by decide +kernel
theorem dX2_count_47 : decode cX2_count 47 = .ok (.aload_n 0, 1) := by decide +kernel
theorem dX2_count_48 : decode cX2_count 48 = .ok (.invokevirtual 152, 3) := by decide +kernel
theorem dX2_count_51 : decode cX2_count 51 = .ok (.ireturn, 1) := by decide +kernel
theorem dX2_mean_0 : decode cX2_mean 0 = .ok (.aload_n 0, 1) := by decide +kernel
theorem dX2_mean_1 : decode cX2_mean 1 = .ok (.getfield 25, 3) := by decide +kernel
theorem dX2_mean_4 : decode cX2_mean 4 = .ok (.ifCond .ne 5, 3) := by decide +kernel
theorem dX2_mean_7 : decode cX2_mean 7 = .ok (.dconst 0, 1) := by decide +kernel
theorem dX2_mean_8 : decode cX2_mean 8 = .ok (.dreturn, 1) := by decide +kernel
theorem dX2_mean_9 : decode cX2_mean 9 = .ok (.iconst 0, 1) := by decide +kernel
theorem dX2_mean_10 : decode cX2_mean 10 = .ok (.istore_n 1, 1) := by decide +kernel
theorem dX2_mean_11 : decode cX2_mean 11 = .ok (.iconst 0, 1) := by decide +kernel
theorem dX2_mean_12 : decode cX2_mean 12 = .ok (.istore_n 2, 1) := by decide +kernel
theorem dX2_mean_13 : decode cX2_mean 13 = .ok (.iload_n 2, 1) := by decide +kernel
theorem dX2_mean_14 : decode cX2_mean 14 = .ok (.aload_n 0, 1) := by decide +kernel
theorem dX2_mean_15 : decode cX2_mean 15 = .ok (.getfield 25, 3) := by decide +kernel
theorem dX2_mean_18 : decode cX2_mean 18 = .ok (.if_icmp .ge 37, 3) := by decide +kernel
theorem dX2_mean_21 : decode cX2_mean 21 = .ok (.iconst 1, 1) := by decide +kernel
theorem dX2_mean_22 : decode cX2_mean 22 = .ok (.istore_n 3, 1) := by decide +kernel
theorem dX2_mean_23 : decode cX2_mean 23 = .ok (.iload_n 3, 1) := by decide +kernel
theorem dX2_mean_24 : decode cX2_mean 24 = .ok (.bipush 31, 2) := by decide +kernel
theorem dX2_mean_26 : decode cX2_mean 26 = .ok (.if_icmp .gt 23, 3) := by decide +kernel
theorem dX2_mean_29 : decode cX2_mean 29 = .ok (.iload_n 1, 1) := by decide +kernel
theorem dX2_mean_30 : decode cX2_mean 30 = .ok (.aload_n 0, 1) := by decide +kernel
theorem dX2_mean_31 : decode cX2_mean 31 = .ok (.getfield 11, 3) := by decide +kernel
theorem dX2_mean_34 : decode cX2_mean 34 = .ok (.iload_n 2, 1) := by decide +kernel
theorem dX2_mean_35 : decode cX2_mean 35 = .ok (.aaload, 1) := by decide +kernel
theorem dX2_mean_36 : decode cX2_mean 36 = .ok (.getfield 55, 3) := by decide +kernel
theorem dX2_mean_39 : decode cX2_mean 39 = .ok (.iload_n 3, 1) := by decide +kernel
theorem dX2_mean_40 : decode cX2_mean 40 = .ok (.iaload, 1) := by decide +kernel
theorem dX2_mean_41 : decode cX2_mean 41 = .ok (.iadd, 1) := by decide +kernel
theorem dX2_mean_42 : decode cX2_mean 42 = .ok (.istore_n 1, 1) := by decide +kernel
theorem dX2_mean_43 : decode cX2_mean 43 = .ok (.iinc 3 1, 3) := by decide +kernel
theorem dX2_mean_46 : decode cX2_mean 46 = .ok (.goto (-23), 3) := by decide +kernel
theorem dX2_mean_49 : decode cX2_mean 49 = .ok (.iinc 2 1, 3) := by decide +kernel
theorem dX2_mean_52 : decode cX2_mean 52 = .ok (.goto (-39), 3) := by decide +kernel
theorem dX2_mean_55 : decode cX2_mean 55 = .ok (.iload_n 1, 1) := by decide +kernel
theorem dX2_mean_56 : decode cX2_mean 56 = .ok (.i2d, 1) := by decide +kernel
theorem dX2_mean_57 : decode cX2_mean 57 = .ok (.bipush 31, 2) := by decide +kernel
theorem dX2_mean_59 : decode cX2_mean 59 = .ok (.aload_n 0, 1) := by decide +kernel
theorem dX2_mean_60 : decode cX2_mean 60 = .ok (.getfield 25, 3) := by decide +kernel
theorem dX2_mean_63 : decode cX2_mean 63 = .ok (.imul, 1) := by decide +kernel
theorem dX2_mean_64 : decode cX2_mean 64 = .ok (.i2d, 1) := by decide +kernel
theorem dX2_mean_65 : decode cX2_mean 65 = .ok (.ddiv, 1) := by decide +kernel
theorem dX2_mean_66 : decode cX2_mean 66 = .ok (.dreturn, 1) := by decide +kernel
set_option maxRecDepth 20000 in
theorem ggX2_digest_X2_count : GoodIn wsX2_digest wsX2_count := goodIn_ca (goodIn_r _ [9, 3, 4, 10, 11, 8, 12, 13, 14, 15, 16, 17, 18, 19, 20, 21, 22, 23, 24, 25, 26, 27, 28, 29, 30, 31, 32, 72, 73, 74, 75, 76, 77, 78, 79] (by decide +kernel) (by decide +kernel)) (goodIn_sub (fun _ h => List.mem_cons_of_mem _ (List.mem_append_right _ h)) (by decide +kernel))
set_option maxRecDepth 20000 in
theorem gX2_digest_X2_count : GoodIn wsX2_digest (wsV RX2 159 RX2 yX2_count wsX2_count) := goodIn_app (goodIn_of _ (by decide +kernel)) ggX2_digest_X2_count
set_option maxRecDepth 20000 in
theorem ggX2_digest_X2_told : GoodIn wsX2_digest wsX2_told := goodIn_ca (goodIn_r _ [36, 37, 38, 39, 8, 40, 13, 14, 3, 23, 10, 11, 12, 24, 25, 26, 27, 28, 41, 42, 43, 44, 45, 46, 47, 48, 49, 50, 51, 4, 52, 53, 54, 55, 56, 77, 78, 79, 72, 73, 74, 75, 76, 80, 81, 82] (by decide +kernel) (by decide +kernel)) (goodIn_sub (fun _ h => List.mem_cons_of_mem _ (List.mem_append_right _ h)) (by decide +kernel))
set_option maxRecDepth 20000 in
theorem gX2_digest_X2_told : GoodIn wsX2_digest (wsV RX2 162 RX2 yX2_told wsX2_told) := goodIn_app (goodIn_of _ (by decide +kernel)) ggX2_digest_X2_told
set_option maxRecDepth 20000 in
theorem ggX2_digest_X2_thing : GoodIn wsX2_digest wsX2_thing := goodIn_ca (goodIn_r _ [60, 37, 38, 39, 8, 40, 13, 14, 3, 23, 61, 62, 63, 77, 78, 79, 72, 73, 74, 75, 76] (by decide +kernel) (by decide +kernel)) (goodIn_sub (fun _ h => List.mem_cons_of_mem _ (List.mem_append_right _ h)) (by decide +kernel))
set_option maxRecDepth 20000 in
theorem gX2_digest_X2_thing : GoodIn wsX2_digest (wsV RX2 165 RX2 yX2_thing wsX2_thing) := goodIn_app (goodIn_of _ (by decide +kernel)) ggX2_digest_X2_thing
set_option maxRecDepth 20000 in
theorem ggX2_digest_X2_about : GoodIn wsX2_digest wsX2_about := goodIn_ca (goodIn_r _ [67, 68, 69, 70, 8, 71, 13, 14, 4, 52, 10, 11, 12, 37, 38, 39, 40, 3, 23, 80, 81, 82, 77, 78, 79, 72, 73, 74, 75, 76] (by decide +kernel) (by decide +kernel)) (goodIn_sub (fun _ h => List.mem_cons_of_mem _ (List.mem_append_right _ h)) (by decide +kernel))
set_option maxRecDepth 20000 in
theorem gX2_digest_X2_about : GoodIn wsX2_digest (wsV RX2 168 RX2 yX2_about wsX2_about) := goodIn_app (goodIn_of _ (by decide +kernel)) ggX2_digest_X2_about
theorem dX2_digest_0 : decode cX2_digest 0 = .ok (.ldc2_w 155, 3) := by decide +kernel
theorem dX2_digest_3 : decode cX2_digest 3 = .ok (.lstore_n 1, 1) := by decide +kernel
theorem dX2_digest_4 : decode cX2_digest 4 = .ok (.iconst 0, 1) := by decide +kernel
theorem dX2_digest_5 : decode cX2_digest 5 = .ok (.istore_n 3, 1) := by decide +kernel
theorem dX2_digest_6 : decode cX2_digest 6 = .ok (.iload_n 3, 1) := by decide +kernel
theorem dX2_digest_7 : decode cX2_digest 7 = .ok (.iconst 4, 1) := by decide +kernel
theorem dX2_digest_8 : decode cX2_digest 8 = .ok (.if_icmp .ge 22, 3) := by decide +kernel
theorem dX2_digest_11 : decode cX2_digest 11 = .ok (.lload_n 1, 1) := by decide +kernel
theorem dX2_digest_12 : decode cX2_digest 12 = .ok (.ldc2_w 157, 3) := by decide +kernel
theorem dX2_digest_15 : decode cX2_digest 15 = .ok (.lmul, 1) := by decide +kernel
theorem dX2_digest_16 : decode cX2_digest 16 = .ok (.aload_n 0, 1) := by decide +kernel
theorem dX2_digest_17 : decode cX2_digest 17 = .ok (.iload_n 3, 1) := by decide +kernel
theorem dX2_digest_18 : decode cX2_digest 18 = .ok (.invokevirtual 159, 3) := by decide +kernel
theorem dX2_digest_21 : decode cX2_digest 21 = .ok (.i2l, 1) := by decide +kernel
theorem dX2_digest_22 : decode cX2_digest 22 = .ok (.ladd, 1) := by decide +kernel
theorem dX2_digest_23 : decode cX2_digest 23 = .ok (.lstore_n 1, 1) := by decide +kernel
theorem dX2_digest_24 : decode cX2_digest 24 = .ok (.iinc 3 1, 3) := by decide +kernel
theorem dX2_digest_27 : decode cX2_digest 27 = .ok (.goto (-21), 3) := by decide +kernel
theorem dX2_digest_30 : decode cX2_digest 30 = .ok (.iconst 0, 1) := by decide +kernel
theorem dX2_digest_31 : decode cX2_digest 31 = .ok (.istore_n 3, 1) := by decide +kernel
theorem dX2_digest_32 : decode cX2_digest 32 = .ok (.iload_n 3, 1) := by decide +kernel
theorem dX2_digest_33 : decode cX2_digest 33 = .ok (.aload_n 0, 1) := by decide +kernel
theorem dX2_digest_34 : decode cX2_digest 34 = .ok (.getfield 25, 3) := by decide +kernel
theorem dX2_digest_37 : decode cX2_digest 37 = .ok (.if_icmp .ge 71, 3) := by decide +kernel
theorem dX2_digest_40 : decode cX2_digest 40 = .ok (.iconst 0, 1) := by decide +kernel
theorem dX2_digest_41 : decode cX2_digest 41 = .ok (.istore 4, 2) := by decide +kernel
theorem dX2_digest_43 : decode cX2_digest 43 = .ok (.iload 4, 2) := by decide +kernel
theorem dX2_digest_45 : decode cX2_digest 45 = .ok (.bipush 6, 2) := by decide +kernel
theorem dX2_digest_47 : decode cX2_digest 47 = .ok (.if_icmp .ge 24, 3) := by decide +kernel
theorem dX2_digest_50 : decode cX2_digest 50 = .ok (.lload_n 1, 1) := by decide +kernel
theorem dX2_digest_51 : decode cX2_digest 51 = .ok (.ldc2_w 157, 3) := by decide +kernel
theorem dX2_digest_54 : decode cX2_digest 54 = .ok (.lmul, 1) := by decide +kernel
theorem dX2_digest_55 : decode cX2_digest 55 = .ok (.aload_n 0, 1) := by decide +kernel
theorem dX2_digest_56 : decode cX2_digest 56 = .ok (.iload_n 3, 1) := by decide +kernel
theorem dX2_digest_57 : decode cX2_digest 57 = .ok (.iload 4, 2) := by decide +kernel
theorem dX2_digest_59 : decode cX2_digest 59 = .ok (.invokevirtual 162, 3) := by decide +kernel
theorem dX2_digest_62 : decode cX2_digest 62 = .ok (.i2l, 1) := by decide +kernel
theorem dX2_digest_63 : decode cX2_digest 63 = .ok (.ladd, 1) := by decide +kernel
theorem dX2_digest_64 : decode cX2_digest 64 = .ok (.lstore_n 1, 1) := by decide +kernel
theorem dX2_digest_65 : decode cX2_digest 65 = .ok (.iinc 4 1, 3) := by decide +kernel
theorem dX2_digest_68 : decode cX2_digest 68 = .ok (.goto (-25), 3) := by decide +kernel
theorem dX2_digest_71 : decode cX2_digest 71 = .ok (.iconst 0, 1) := by decide +kernel
theorem dX2_digest_72 : decode cX2_digest 72 = .ok (.istore 4, 2) := by decide +kernel
theorem dX2_digest_74 : decode cX2_digest 74 = .ok (.iload 4, 2) := by decide +kernel
theorem dX2_digest_76 : decode cX2_digest 76 = .ok (.bipush 16, 2) := by decide +kernel
theorem dX2_digest_78 : decode cX2_digest 78 = .ok (.if_icmp .ge 24, 3) := by decide +kernel
theorem dX2_digest_81 : decode cX2_digest 81 = .ok (.lload_n 1, 1) := by decide +kernel
theorem dX2_digest_82 : decode cX2_digest 82 = .ok (.ldc2_w 157, 3) := by decide +kernel
theorem dX2_digest_85 : decode cX2_digest 85 = .ok (.lmul, 1) := by decide +kernel
theorem dX2_digest_86 : decode cX2_digest 86 = .ok (.aload_n 0, 1) := by decide +kernel
theorem dX2_digest_87 : decode cX2_digest 87 = .ok (.iload_n 3, 1) := by decide +kernel
theorem dX2_digest_88 : decode cX2_digest 88 = .ok (.iload 4, 2) := by decide +kernel
theorem dX2_digest_90 : decode cX2_digest 90 = .ok (.invokevirtual 165, 3) := by decide +kernel
theorem dX2_digest_93 : decode cX2_digest 93 = .ok (.i2l, 1) := by decide +kernel
theorem dX2_digest_94 : decode cX2_digest 94 = .ok (.ladd, 1) := by decide +kernel
theorem dX2_digest_95 : decode cX2_digest 95 = .ok (.lstore_n 1, 1) := by decide +kernel
theorem dX2_digest_96 : decode cX2_digest 96 = .ok (.iinc 4 1, 3) := by decide +kernel
theorem dX2_digest_99 : decode cX2_digest 99 = .ok (.goto (-25), 3) := by decide +kernel
theorem dX2_digest_102 : decode cX2_digest 102 = .ok (.iinc 3 1, 3) := by decide +kernel
theorem dX2_digest_105 : decode cX2_digest 105 = .ok (.goto (-73), 3) := by decide +kernel
theorem dX2_digest_108 : decode cX2_digest 108 = .ok (.iconst 0, 1) := by decide +kernel
theorem dX2_digest_109 : decode cX2_digest 109 = .ok (.istore_n 3, 1) := by decide +kernel
theorem dX2_digest_110 : decode cX2_digest 110 = .ok (.iload_n 3, 1) := by decide +kernel
theorem dX2_digest_111 : decode cX2_digest 111 = .ok (.aload_n 0, 1) := by decide +kernel
theorem dX2_digest_112 : decode cX2_digest 112 = .ok (.getfield 97, 3) := by decide +kernel
theorem dX2_digest_115 : decode cX2_digest 115 = .ok (.if_icmp .ge 39, 3) := by decide +kernel
theorem dX2_digest_118 : decode cX2_digest 118 = .ok (.iconst 0, 1) := by decide +kernel
theorem dX2_digest_119 : decode cX2_digest 119 = .ok (.istore 4, 2) := by decide +kernel
theorem dX2_digest_121 : decode cX2_digest 121 = .ok (.iload 4, 2) := by decide +kernel
theorem dX2_digest_123 : decode cX2_digest 123 = .ok (.iconst 4, 1) := by decide +kernel
theorem dX2_digest_124 : decode cX2_digest 124 = .ok (.if_icmp .ge 24, 3) := by decide +kernel
theorem dX2_digest_127 : decode cX2_digest 127 = .ok (.lload_n 1, 1) := by decide +kernel
theorem dX2_digest_128 : decode cX2_digest 128 = .ok (.ldc2_w 157, 3) := by decide +kernel
theorem dX2_digest_131 : decode cX2_digest 131 = .ok (.lmul, 1) := by decide +kernel
theorem dX2_digest_132 : decode cX2_digest 132 = .ok (.aload_n 0, 1) := by decide +kernel
theorem dX2_digest_133 : decode cX2_digest 133 = .ok (.iload_n 3, 1) := by decide +kernel
theorem dX2_digest_134 : decode cX2_digest 134 = .ok (.iload 4, 2) := by decide +kernel
theorem dX2_digest_136 : decode cX2_digest 136 = .ok (.invokevirtual 168, 3) := by decide +kernel
theorem dX2_digest_139 : decode cX2_digest 139 = .ok (.i2l, 1) := by decide +kernel
theorem dX2_digest_140 : decode cX2_digest 140 = .ok (.ladd, 1) := by decide +kernel
theorem dX2_digest_141 : decode cX2_digest 141 = .ok (.lstore_n 1, 1) := by decide +kernel
theorem dX2_digest_142 : decode cX2_digest 142 = .ok (.iinc 4 1, 3) := by decide +kernel
theorem dX2_digest_145 : decode cX2_digest 145 = .ok (.goto (-24), 3) := by decide +kernel
theorem dX2_digest_148 : decode cX2_digest 148 = .ok (.iinc 3 1, 3) := by decide +kernel
theorem dX2_digest_151 : decode cX2_digest 151 = .ok (.goto (-41), 3) := by decide +kernel
theorem dX2_digest_154 : decode cX2_digest 154 = .ok (.lload_n 1, 1) := by decide +kernel
theorem dX2_digest_155 : decode cX2_digest 155 = .ok (.lreturn, 1) := by decide +kernel
theorem dX2_findCupboard_0 : decode cX2_findCupboard 0 = .ok (.iload_n 1, 1) := by decide +kernel
theorem dX2_findCupboard_1 : decode cX2_findCupboard 1 = .ok (.ifCond .lt 11, 3) := by decide +kernel
theorem dX2_findCupboard_4 : decode cX2_findCupboard 4 = .ok (.iload_n 1, 1) := by decide +kernel
theorem dX2_findCupboard_5 : decode cX2_findCupboard 5 = .ok (.aload_n 0, 1) := by decide +kernel
theorem dX2_findCupboard_6 : decode cX2_findCupboard 6 = .ok (.getfield 25, 3) := by decide +kernel
theorem dX2_findCupboard_9 : decode cX2_findCupboard 9 = .ok (.if_icmp .lt 13, 3) := by decide +kernel
theorem dX2_findCupboard_12 : decode cX2_findCupboard 12 = .ok (.new 68, 3) := by decide +kernel
theorem dX2_findCupboard_15 : decode cX2_findCupboard 15 = .ok (.dup, 1) := by decide +kernel
theorem dX2_findCupboard_16 : decode cX2_findCupboard 16 = .ok (.ldc 171, 2) := by decide +kernel
theorem dX2_findCupboard_18 : decode cX2_findCupboard 18 = .ok (.invokespecial 72, 3) := by decide +kernel
theorem dX2_findCupboard_21 : decode cX2_findCupboard 21 = .ok (.athrow, 1) := by decide +kernel
theorem dX2_findCupboard_22 : decode cX2_findCupboard 22 = .ok (.aload_n 0, 1) := by decide +kernel
theorem dX2_findCupboard_23 : decode cX2_findCupboard 23 = .ok (.getfield 11, 3) := by decide +kernel
theorem dX2_findCupboard_26 : decode cX2_findCupboard 26 = .ok (.iload_n 1, 1) := by decide +kernel
theorem dX2_findCupboard_27 : decode cX2_findCupboard 27 = .ok (.aaload, 1) := by decide +kernel
theorem dX2_findCupboard_28 : decode cX2_findCupboard 28 = .ok (.areturn, 1) := by decide +kernel
theorem dX2_findSeal_0 : decode cX2_findSeal 0 = .ok (.iload_n 1, 1) := by decide +kernel
theorem dX2_findSeal_1 : decode cX2_findSeal 1 = .ok (.ifCond .lt 11, 3) := by decide +kernel
theorem dX2_findSeal_4 : decode cX2_findSeal 4 = .ok (.iload_n 1, 1) := by decide +kernel
theorem dX2_findSeal_5 : decode cX2_findSeal 5 = .ok (.aload_n 0, 1) := by decide +kernel
theorem dX2_findSeal_6 : decode cX2_findSeal 6 = .ok (.getfield 97, 3) := by decide +kernel
theorem dX2_findSeal_9 : decode cX2_findSeal 9 = .ok (.if_icmp .lt 13, 3) := by decide +kernel
theorem dX2_findSeal_12 : decode cX2_findSeal 12 = .ok (.new 68, 3) := by decide +kernel
theorem dX2_findSeal_15 : decode cX2_findSeal 15 = .ok (.dup, 1) := by decide +kernel
theorem dX2_findSeal_16 : decode cX2_findSeal 16 = .ok (.ldc 173, 2) := by decide +kernel
theorem dX2_findSeal_18 : decode cX2_findSeal 18 = .ok (.invokespecial 72, 3) := by decide +kernel
theorem dX2_findSeal_21 : decode cX2_findSeal 21 = .ok (.athrow, 1) := by decide +kernel
theorem dX2_findSeal_22 : decode cX2_findSeal 22 = .ok (.aload_n 0, 1) := by decide +kernel
theorem dX2_findSeal_23 : decode cX2_findSeal 23 = .ok (.getfield 17, 3) := by decide +kernel
theorem dX2_findSeal_26 : decode cX2_findSeal 26 = .ok (.iload_n 1, 1) := by decide +kernel
theorem dX2_findSeal_27 : decode cX2_findSeal 27 = .ok (.aaload, 1) := by decide +kernel
theorem dX2_findSeal_28 : decode cX2_findSeal 28 = .ok (.areturn, 1) := by decide +kernel
theorem dX2_sealsOf_0 : decode cX2_sealsOf 0 = .ok (.iconst 0, 1) := by decide +kernel
theorem dX2_sealsOf_1 : decode cX2_sealsOf 1 = .ok (.istore_n 2, 1) := by decide +kernel
theorem dX2_sealsOf_2 : decode cX2_sealsOf 2 = .ok (.iconst 0, 1) := by decide +kernel
theorem dX2_sealsOf_3 : decode cX2_sealsOf 3 = .ok (.istore_n 3, 1) := by decide +kernel
theorem dX2_sealsOf_4 : decode cX2_sealsOf 4 = .ok (.iload_n 3, 1) := by decide +kernel
theorem dX2_sealsOf_5 : decode cX2_sealsOf 5 = .ok (.aload_n 0, 1) := by decide +kernel
theorem dX2_sealsOf_6 : decode cX2_sealsOf 6 = .ok (.getfield 97, 3) := by decide +kernel
theorem dX2_sealsOf_9 : decode cX2_sealsOf 9 = .ok (.if_icmp .ge 25, 3) := by decide +kernel
theorem dX2_sealsOf_12 : decode cX2_sealsOf 12 = .ok (.aload_n 0, 1) := by decide +kernel
theorem dX2_sealsOf_13 : decode cX2_sealsOf 13 = .ok (.getfield 17, 3) := by decide +kernel
theorem dX2_sealsOf_16 : decode cX2_sealsOf 16 = .ok (.iload_n 3, 1) := by decide +kernel
theorem dX2_sealsOf_17 : decode cX2_sealsOf 17 = .ok (.aaload, 1) := by decide +kernel
theorem dX2_sealsOf_18 : decode cX2_sealsOf 18 = .ok (.getfield 109, 3) := by decide +kernel
theorem dX2_sealsOf_21 : decode cX2_sealsOf 21 = .ok (.iload_n 1, 1) := by decide +kernel
theorem dX2_sealsOf_22 : decode cX2_sealsOf 22 = .ok (.if_icmp .ne 6, 3) := by decide +kernel
theorem dX2_sealsOf_25 : decode cX2_sealsOf 25 = .ok (.iinc 2 1, 3) := by decide +kernel
theorem dX2_sealsOf_28 : decode cX2_sealsOf 28 = .ok (.iinc 3 1, 3) := by decide +kernel
theorem dX2_sealsOf_31 : decode cX2_sealsOf 31 = .ok (.goto (-27), 3) := by decide +kernel
theorem dX2_sealsOf_34 : decode cX2_sealsOf 34 = .ok (.iload_n 2, 1) := by decide +kernel
theorem dX2_sealsOf_35 : decode cX2_sealsOf 35 = .ok (.ireturn, 1) := by decide +kernel
theorem dX2_sealsKept_0 : decode cX2_sealsKept 0 = .ok (.iconst 0, 1) := by decide +kernel
theorem dX2_sealsKept_1 : decode cX2_sealsKept 1 = .ok (.istore_n 3, 1) := by decide +kernel
theorem dX2_sealsKept_2 : decode cX2_sealsKept 2 = .ok (.iconst 0, 1) := by decide +kernel
theorem dX2_sealsKept_3 : decode cX2_sealsKept 3 = .ok (.istore 4, 2) := by decide +kernel
theorem dX2_sealsKept_5 : decode cX2_sealsKept 5 = .ok (.iload 4, 2) := by decide +kernel
theorem dX2_sealsKept_7 : decode cX2_sealsKept 7 = .ok (.aload_n 0, 1) := by decide +kernel
theorem dX2_sealsKept_8 : decode cX2_sealsKept 8 = .ok (.getfield 97, 3) := by decide +kernel
theorem dX2_sealsKept_11 : decode cX2_sealsKept 11 = .ok (.if_icmp .ge 40, 3) := by decide +kernel
theorem dX2_sealsKept_14 : decode cX2_sealsKept 14 = .ok (.aload_n 0, 1) := by decide +kernel
theorem dX2_sealsKept_15 : decode cX2_sealsKept 15 = .ok (.getfield 17, 3) := by decide +kernel
theorem dX2_sealsKept_18 : decode cX2_sealsKept 18 = .ok (.iload 4, 2) := by decide +kernel
theorem dX2_sealsKept_20 : decode cX2_sealsKept 20 = .ok (.aaload, 1) := by decide +kernel
theorem dX2_sealsKept_21 : decode cX2_sealsKept 21 = .ok (.getfield 109, 3) := by decide +kernel
theorem dX2_sealsKept_24 : decode cX2_sealsKept 24 = .ok (.iload_n 1, 1) := by decide +kernel
theorem dX2_sealsKept_25 : decode cX2_sealsKept 25 = .ok (.if_icmp .ne 20, 3) := by decide +kernel
theorem dX2_sealsKept_28 : decode cX2_sealsKept 28 = .ok (.aload_n 0, 1) := by decide +kernel
theorem dX2_sealsKept_29 : decode cX2_sealsKept 29 = .ok (.getfield 17, 3) := by decide +kernel
theorem dX2_sealsKept_32 : decode cX2_sealsKept 32 = .ok (.iload 4, 2) := by decide +kernel
theorem dX2_sealsKept_34 : decode cX2_sealsKept 34 = .ok (.aaload, 1) := by decide +kernel
theorem dX2_sealsKept_35 : decode cX2_sealsKept 35 = .ok (.getfield 112, 3) := by decide +kernel
theorem dX2_sealsKept_38 : decode cX2_sealsKept 38 = .ok (.iload_n 2, 1) := by decide +kernel
theorem dX2_sealsKept_39 : decode cX2_sealsKept 39 = .ok (.if_icmp .ne 6, 3) := by decide +kernel
theorem dX2_sealsKept_42 : decode cX2_sealsKept 42 = .ok (.iinc 3 1, 3) := by decide +kernel
theorem dX2_sealsKept_45 : decode cX2_sealsKept 45 = .ok (.iinc 4 1, 3) := by decide +kernel
theorem dX2_sealsKept_48 : decode cX2_sealsKept 48 = .ok (.goto (-43), 3) := by decide +kernel
theorem dX2_sealsKept_51 : decode cX2_sealsKept 51 = .ok (.iload_n 3, 1) := by decide +kernel
theorem dX2_sealsKept_52 : decode cX2_sealsKept 52 = .ok (.ireturn, 1) := by decide +kernel
set_option maxRecDepth 20000 in
theorem ggX2_differentRoots_X2_isRootBefore : GoodIn wsX2_differentRoots wsX2_isRootBefore := goodIn_r _ [6, 7, 8, 9, 10, 11, 12, 13, 14, 15, 16, 17, 18, 19, 20] (by decide +kernel) (by decide +kernel)
set_option maxRecDepth 20000 in
theorem gX2_differentRoots_X2_isRootBefore : GoodIn wsX2_differentRoots (wsV RX2 175 RX2 yX2_isRootBefore wsX2_isRootBefore) := goodIn_app (goodIn_of _ (by decide +kernel)) ggX2_differentRoots_X2_isRootBefore
theorem dX2_differentRoots_0 : decode cX2_differentRoots 0 = .ok (.iconst 0, 1) := by decide +kernel
theorem dX2_differentRoots_1 : decode cX2_differentRoots 1 = .ok (.istore_n 1, 1) := by decide +kernel
theorem dX2_differentRoots_2 : decode cX2_differentRoots 2 = .ok (.iconst 0, 1) := by decide +kernel
theorem dX2_differentRoots_3 : decode cX2_differentRoots 3 = .ok (.istore_n 2, 1) := by decide +kernel
theorem dX2_differentRoots_4 : decode cX2_differentRoots 4 = .ok (.iload_n 2, 1) := by decide +kernel
theorem dX2_differentRoots_5 : decode cX2_differentRoots 5 = .ok (.aload_n 0, 1) := by decide +kernel
theorem dX2_differentRoots_6 : decode cX2_differentRoots 6 = .ok (.getfield 25, 3) := by decide +kernel
theorem dX2_differentRoots_9 : decode cX2_differentRoots 9 = .ok (.if_icmp .ge 20, 3) := by decide +kernel
theorem dX2_differentRoots_12 : decode cX2_differentRoots 12 = .ok (.aload_n 0, 1) := by decide +kernel
theorem dX2_differentRoots_13 : decode cX2_differentRoots 13 = .ok (.iload_n 2, 1) := by decide +kernel
theorem dX2_differentRoots_14 : decode cX2_differentRoots 14 = .ok (.invokevirtual 175, 3) := by decide +kernel
theorem dX2_differentRoots_17 : decode cX2_differentRoots 17 = .ok (.ifCond .ne 6, 3) := by decide +kernel
theorem dX2_differentRoots_20 : decode cX2_differentRoots 20 = .ok (.iinc 1 1, 3) := by decide +kernel
theorem dX2_differentRoots_23 : decode cX2_differentRoots 23 = .ok (.iinc 2 1, 3) := by decide +kernel
theorem dX2_differentRoots_26 : decode cX2_differentRoots 26 = .ok (.goto (-22), 3) := by decide +kernel
theorem dX2_differentRoots_29 : decode cX2_differentRoots 29 = .ok (.iload_n 1, 1) := by decide +kernel
theorem dX2_differentRoots_30 : decode cX2_differentRoots 30 = .ok (.ireturn, 1) := by decide +kernel
set_option maxRecDepth 20000 in
theorem ggX2_isRootBefore_X0_root : GoodIn wsX2_isRootBefore wsX0_root := goodIn_r _ [5, 6, 12, 13, 14] (by decide +kernel) (by decide +kernel)
set_option maxRecDepth 20000 in
theorem gX2_isRootBefore_X0_root_n76 : GoodIn wsX2_isRootBefore (wsX0_root) := ggX2_isRootBefore_X0_root
theorem dX2_isRootBefore_0 : decode cX2_isRootBefore 0 = .ok (.iconst 0, 1) := by decide +kernel
theorem dX2_isRootBefore_1 : decode cX2_isRootBefore 1 = .ok (.istore_n 2, 1) := by decide +kernel
theorem dX2_isRootBefore_2 : decode cX2_isRootBefore 2 = .ok (.iload_n 2, 1) := by decide +kernel
theorem dX2_isRootBefore_3 : decode cX2_isRootBefore 3 = .ok (.iload_n 1, 1) := by decide +kernel
theorem dX2_isRootBefore_4 : decode cX2_isRootBefore 4 = .ok (.if_icmp .ge 32, 3) := by decide +kernel
theorem dX2_isRootBefore_7 : decode cX2_isRootBefore 7 = .ok (.aload_n 0, 1) := by decide +kernel
theorem dX2_isRootBefore_8 : decode cX2_isRootBefore 8 = .ok (.getfield 11, 3) := by decide +kernel
theorem dX2_isRootBefore_11 : decode cX2_isRootBefore 11 = .ok (.iload_n 2, 1) := by decide +kernel
theorem dX2_isRootBefore_12 : decode cX2_isRootBefore 12 = .ok (.aaload, 1) := by decide +kernel
theorem dX2_isRootBefore_13 : decode cX2_isRootBefore 13 = .ok (.invokevirtual 76, 3) := by decide +kernel
theorem dX2_isRootBefore_16 : decode cX2_isRootBefore 16 = .ok (.aload_n 0, 1) := by decide +kernel
theorem dX2_isRootBefore_17 : decode cX2_isRootBefore 17 = .ok (.getfield 11, 3) := by decide +kernel
theorem dX2_isRootBefore_20 : decode cX2_isRootBefore 20 = .ok (.iload_n 1, 1) := by decide +kernel
theorem dX2_isRootBefore_21 : decode cX2_isRootBefore 21 = .ok (.aaload, 1) := by decide +kernel
theorem dX2_isRootBefore_22 : decode cX2_isRootBefore 22 = .ok (.invokevirtual 76, 3) := by decide +kernel
theorem dX2_isRootBefore_25 : decode cX2_isRootBefore 25 = .ok (.if_icmp .ne 5, 3) := by decide +kernel
theorem dX2_isRootBefore_28 : decode cX2_isRootBefore 28 = .ok (.iconst 1, 1) := by decide +kernel
theorem dX2_isRootBefore_29 : decode cX2_isRootBefore 29 = .ok (.ireturn, 1) := by decide +kernel
theorem dX2_isRootBefore_30 : decode cX2_isRootBefore 30 = .ok (.iinc 2 1, 3) := by decide +kernel
theorem dX2_isRootBefore_33 : decode cX2_isRootBefore 33 = .ok (.goto (-31), 3) := by decide +kernel
theorem dX2_isRootBefore_36 : decode cX2_isRootBefore 36 = .ok (.iconst 0, 1) := by decide +kernel
theorem dX2_isRootBefore_37 : decode cX2_isRootBefore 37 = .ok (.ireturn, 1) := by decide +kernel
theorem dX2_changesAdded_0 : decode cX2_changesAdded 0 = .ok (.iconst 0, 1) := by decide +kernel
theorem dX2_changesAdded_1 : decode cX2_changesAdded 1 = .ok (.istore_n 1, 1) := by decide +kernel
theorem dX2_changesAdded_2 : decode cX2_changesAdded 2 = .ok (.iconst 0, 1) := by decide +kernel
theorem dX2_changesAdded_3 : decode cX2_changesAdded 3 = .ok (.istore_n 2, 1) := by decide +kernel
theorem dX2_changesAdded_4 : decode cX2_changesAdded 4 = .ok (.iload_n 2, 1) := by decide +kernel
theorem dX2_changesAdded_5 : decode cX2_changesAdded 5 = .ok (.aload_n 0, 1) := by decide +kernel
theorem dX2_changesAdded_6 : decode cX2_changesAdded 6 = .ok (.getfield 25, 3) := by decide +kernel
theorem dX2_changesAdded_9 : decode cX2_changesAdded 9 = .ok (.if_icmp .ge 21, 3) := by decide +kernel
theorem dX2_changesAdded_12 : decode cX2_changesAdded 12 = .ok (.iload_n 1, 1) := by decide +kernel
theorem dX2_changesAdded_13 : decode cX2_changesAdded 13 = .ok (.aload_n 0, 1) := by decide +kernel
theorem dX2_changesAdded_14 : decode cX2_changesAdded 14 = .ok (.getfield 11, 3) := by decide +kernel
theorem dX2_changesAdded_17 : decode cX2_changesAdded 17 = .ok (.iload_n 2, 1) := by decide +kernel
theorem dX2_changesAdded_18 : decode cX2_changesAdded 18 = .ok (.aaload, 1) := by decide +kernel
theorem dX2_changesAdded_19 : decode cX2_changesAdded 19 = .ok (.getfield 80, 3) := by decide +kernel
theorem dX2_changesAdded_22 : decode cX2_changesAdded 22 = .ok (.iadd, 1) := by decide +kernel
theorem dX2_changesAdded_23 : decode cX2_changesAdded 23 = .ok (.istore_n 1, 1) := by decide +kernel
theorem dX2_changesAdded_24 : decode cX2_changesAdded 24 = .ok (.iinc 2 1, 3) := by decide +kernel
theorem dX2_changesAdded_27 : decode cX2_changesAdded 27 = .ok (.goto (-23), 3) := by decide +kernel
theorem dX2_changesAdded_30 : decode cX2_changesAdded 30 = .ok (.iload_n 1, 1) := by decide +kernel
theorem dX2_changesAdded_31 : decode cX2_changesAdded 31 = .ok (.ireturn, 1) := by decide +kernel
set_option maxRecDepth 20000 in
theorem ggX2_rootWithSwap_X2_sumUp : GoodIn wsX2_rootWithSwap wsX2_sumUp := goodIn_r _ [5, 6, 7, 4, 8, 9, 10, 11] (by decide +kernel) (by decide +kernel)
set_option maxRecDepth 20000 in
theorem gX2_rootWithSwap_X2_sumUp : GoodIn wsX2_rootWithSwap (va_wsS RX2 179 yX2_sumUp wsX2_sumUp) := goodIn_app (goodIn_of _ (by decide +kernel)) ggX2_rootWithSwap_X2_sumUp
theorem dX2_rootWithSwap_0 : decode cX2_rootWithSwap 0 = .ok (.aload_n 0, 1) := by decide +kernel
theorem dX2_rootWithSwap_1 : decode cX2_rootWithSwap 1 = .ok (.getfield 21, 3) := by decide +kernel
theorem dX2_rootWithSwap_4 : decode cX2_rootWithSwap 4 = .ok (.iload_n 2, 1) := by decide +kernel
theorem dX2_rootWithSwap_5 : decode cX2_rootWithSwap 5 = .ok (.aload_n 1, 1) := by decide +kernel
theorem dX2_rootWithSwap_6 : decode cX2_rootWithSwap 6 = .ok (.iload_n 3, 1) := by decide +kernel
theorem dX2_rootWithSwap_7 : decode cX2_rootWithSwap 7 = .ok (.iaload, 1) := by decide +kernel
theorem dX2_rootWithSwap_8 : decode cX2_rootWithSwap 8 = .ok (.invokestatic 179, 3) := by decide +kernel
theorem dX2_rootWithSwap_11 : decode cX2_rootWithSwap 11 = .ok (.aload_n 0, 1) := by decide +kernel
theorem dX2_rootWithSwap_12 : decode cX2_rootWithSwap 12 = .ok (.getfield 21, 3) := by decide +kernel
theorem dX2_rootWithSwap_15 : decode cX2_rootWithSwap 15 = .ok (.iload_n 3, 1) := by decide +kernel
theorem dX2_rootWithSwap_16 : decode cX2_rootWithSwap 16 = .ok (.aload_n 1, 1) := by decide +kernel
theorem dX2_rootWithSwap_17 : decode cX2_rootWithSwap 17 = .ok (.iload_n 2, 1) := by decide +kernel
theorem dX2_rootWithSwap_18 : decode cX2_rootWithSwap 18 = .ok (.iaload, 1) := by decide +kernel
theorem dX2_rootWithSwap_19 : decode cX2_rootWithSwap 19 = .ok (.invokestatic 179, 3) := by decide +kernel
theorem dX2_rootWithSwap_22 : decode cX2_rootWithSwap 22 = .ok (.aload_n 0, 1) := by decide +kernel
theorem dX2_rootWithSwap_23 : decode cX2_rootWithSwap 23 = .ok (.getfield 21, 3) := by decide +kernel
theorem dX2_rootWithSwap_26 : decode cX2_rootWithSwap 26 = .ok (.iconst 1, 1) := by decide +kernel
theorem dX2_rootWithSwap_27 : decode cX2_rootWithSwap 27 = .ok (.iaload, 1) := by decide +kernel
theorem dX2_rootWithSwap_28 : decode cX2_rootWithSwap 28 = .ok (.istore 4, 2) := by decide +kernel
theorem dX2_rootWithSwap_30 : decode cX2_rootWithSwap 30 = .ok (.aload_n 0, 1) := by decide +kernel
theorem dX2_rootWithSwap_31 : decode cX2_rootWithSwap 31 = .ok (.getfield 21, 3) := by decide +kernel
theorem dX2_rootWithSwap_34 : decode cX2_rootWithSwap 34 = .ok (.iload_n 2, 1) := by decide +kernel
theorem dX2_rootWithSwap_35 : decode cX2_rootWithSwap 35 = .ok (.aload_n 1, 1) := by decide +kernel
theorem dX2_rootWithSwap_36 : decode cX2_rootWithSwap 36 = .ok (.iload_n 2, 1) := by decide +kernel
theorem dX2_rootWithSwap_37 : decode cX2_rootWithSwap 37 = .ok (.iaload, 1) := by decide +kernel
theorem dX2_rootWithSwap_38 : decode cX2_rootWithSwap 38 = .ok (.invokestatic 179, 3) := by decide +kernel
theorem dX2_rootWithSwap_41 : decode cX2_rootWithSwap 41 = .ok (.aload_n 0, 1) := by decide +kernel
theorem dX2_rootWithSwap_42 : decode cX2_rootWithSwap 42 = .ok (.getfield 21, 3) := by decide +kernel
theorem dX2_rootWithSwap_45 : decode cX2_rootWithSwap 45 = .ok (.iload_n 3, 1) := by decide +kernel
theorem dX2_rootWithSwap_46 : decode cX2_rootWithSwap 46 = .ok (.aload_n 1, 1) := by decide +kernel
theorem dX2_rootWithSwap_47 : decode cX2_rootWithSwap 47 = .ok (.iload_n 3, 1) := by decide +kernel
theorem dX2_rootWithSwap_48 : decode cX2_rootWithSwap 48 = .ok (.iaload, 1) := by decide +kernel
theorem dX2_rootWithSwap_49 : decode cX2_rootWithSwap 49 = .ok (.invokestatic 179, 3) := by decide +kernel
theorem dX2_rootWithSwap_52 : decode cX2_rootWithSwap 52 = .ok (.iload 4, 2) := by decide +kernel
theorem dX2_rootWithSwap_54 : decode cX2_rootWithSwap 54 = .ok (.ireturn, 1) := by decide +kernel
theorem dX2_sumOfThing_0 : decode cX2_sumOfThing 0 = .ok (.bipush 37, 2) := by decide +kernel
theorem dX2_sumOfThing_2 : decode cX2_sumOfThing 2 = .ok (.iload_n 1, 1) := by decide +kernel
theorem dX2_sumOfThing_3 : decode cX2_sumOfThing 3 = .ok (.imul, 1) := by decide +kernel
theorem dX2_sumOfThing_4 : decode cX2_sumOfThing 4 = .ok (.bipush 101, 2) := by decide +kernel
theorem dX2_sumOfThing_6 : decode cX2_sumOfThing 6 = .ok (.iload_n 0, 1) := by decide +kernel
theorem dX2_sumOfThing_7 : decode cX2_sumOfThing 7 = .ok (.iconst 1, 1) := by decide +kernel
theorem dX2_sumOfThing_8 : decode cX2_sumOfThing 8 = .ok (.iadd, 1) := by decide +kernel
theorem dX2_sumOfThing_9 : decode cX2_sumOfThing 9 = .ok (.imul, 1) := by decide +kernel
theorem dX2_sumOfThing_10 : decode cX2_sumOfThing 10 = .ok (.iadd, 1) := by decide +kernel
theorem dX2_sumOfThing_11 : decode cX2_sumOfThing 11 = .ok (.sipush 997, 3) := by decide +kernel
theorem dX2_sumOfThing_14 : decode cX2_sumOfThing 14 = .ok (.irem, 1) := by decide +kernel
theorem dX2_sumOfThing_15 : decode cX2_sumOfThing 15 = .ok (.ireturn, 1) := by decide +kernel
theorem dX2_sumOfSums_0 : decode cX2_sumOfSums 0 = .ok (.bipush 61, 2) := by decide +kernel
theorem dX2_sumOfSums_2 : decode cX2_sumOfSums 2 = .ok (.iload_n 0, 1) := by decide +kernel
theorem dX2_sumOfSums_3 : decode cX2_sumOfSums 3 = .ok (.imul, 1) := by decide +kernel
theorem dX2_sumOfSums_4 : decode cX2_sumOfSums 4 = .ok (.bipush 89, 2) := by decide +kernel
theorem dX2_sumOfSums_6 : decode cX2_sumOfSums 6 = .ok (.iload_n 1, 1) := by decide +kernel
theorem dX2_sumOfSums_7 : decode cX2_sumOfSums 7 = .ok (.imul, 1) := by decide +kernel
theorem dX2_sumOfSums_8 : decode cX2_sumOfSums 8 = .ok (.iadd, 1) := by decide +kernel
theorem dX2_sumOfSums_9 : decode cX2_sumOfSums 9 = .ok (.iload_n 2, 1) := by decide +kernel
theorem dX2_sumOfSums_10 : decode cX2_sumOfSums 10 = .ok (.iadd, 1) := by decide +kernel
theorem dX2_sumOfSums_11 : decode cX2_sumOfSums 11 = .ok (.sipush 997, 3) := by decide +kernel
theorem dX2_sumOfSums_14 : decode cX2_sumOfSums 14 = .ok (.irem, 1) := by decide +kernel
theorem dX2_sumOfSums_15 : decode cX2_sumOfSums 15 = .ok (.ireturn, 1) := by decide +kernel
set_option maxRecDepth 20000 in
theorem ggX2_sumAbove_X2_sumOfSums : GoodIn wsX2_sumAbove wsX2_sumOfSums := goodIn_r _ [4] (by decide +kernel) (by decide +kernel)
set_option maxRecDepth 20000 in
theorem gX2_sumAbove_X2_sumOfSums : GoodIn wsX2_sumAbove (va_wsS RX2 183 yX2_sumOfSums wsX2_sumOfSums) := goodIn_app (goodIn_of _ (by decide +kernel)) ggX2_sumAbove_X2_sumOfSums
theorem dX2_sumAbove_0 : decode cX2_sumAbove 0 = .ok (.iload_n 0, 1) := by decide +kernel
theorem dX2_sumAbove_1 : decode cX2_sumAbove 1 = .ok (.iconst 2, 1) := by decide +kernel
theorem dX2_sumAbove_2 : decode cX2_sumAbove 2 = .ok (.irem, 1) := by decide +kernel
theorem dX2_sumAbove_3 : decode cX2_sumAbove 3 = .ok (.ifCond .ne 7, 3) := by decide +kernel
theorem dX2_sumAbove_6 : decode cX2_sumAbove 6 = .ok (.iconst 1, 1) := by decide +kernel
theorem dX2_sumAbove_7 : decode cX2_sumAbove 7 = .ok (.goto 4, 3) := by decide +kernel
theorem dX2_sumAbove_10 : decode cX2_sumAbove 10 = .ok (.iconst 0, 1) := by decide +kernel
theorem dX2_sumAbove_11 : decode cX2_sumAbove 11 = .ok (.istore_n 3, 1) := by decide +kernel
theorem dX2_sumAbove_12 : decode cX2_sumAbove 12 = .ok (.iload_n 3, 1) := by decide +kernel
theorem dX2_sumAbove_13 : decode cX2_sumAbove 13 = .ok (.ifCond .eq 14, 3) := by decide +kernel
theorem dX2_sumAbove_16 : decode cX2_sumAbove 16 = .ok (.iload_n 1, 1) := by decide +kernel
theorem dX2_sumAbove_17 : decode cX2_sumAbove 17 = .ok (.iload_n 2, 1) := by decide +kernel
theorem dX2_sumAbove_18 : decode cX2_sumAbove 18 = .ok (.iload_n 0, 1) := by decide +kernel
theorem dX2_sumAbove_19 : decode cX2_sumAbove 19 = .ok (.iconst 2, 1) := by decide +kernel
theorem dX2_sumAbove_20 : decode cX2_sumAbove 20 = .ok (.idiv, 1) := by decide +kernel
theorem dX2_sumAbove_21 : decode cX2_sumAbove 21 = .ok (.invokestatic 183, 3) := by decide +kernel
theorem dX2_sumAbove_24 : decode cX2_sumAbove 24 = .ok (.goto 11, 3) := by decide +kernel
theorem dX2_sumAbove_27 : decode cX2_sumAbove 27 = .ok (.iload_n 2, 1) := by decide +kernel
theorem dX2_sumAbove_28 : decode cX2_sumAbove 28 = .ok (.iload_n 1, 1) := by decide +kernel
theorem dX2_sumAbove_29 : decode cX2_sumAbove 29 = .ok (.iload_n 0, 1) := by decide +kernel
theorem dX2_sumAbove_30 : decode cX2_sumAbove 30 = .ok (.iconst 2, 1) := by decide +kernel
theorem dX2_sumAbove_31 : decode cX2_sumAbove 31 = .ok (.idiv, 1) := by decide +kernel
theorem dX2_sumAbove_32 : decode cX2_sumAbove 32 = .ok (.invokestatic 183, 3) := by decide +kernel
theorem dX2_sumAbove_35 : decode cX2_sumAbove 35 = .ok (.ireturn, 1) := by decide +kernel
set_option maxRecDepth 20000 in
theorem ggX2_sumUp_X2_sumOfThing : GoodIn wsX2_sumUp wsX2_sumOfThing := goodIn_r _ [4] (by decide +kernel) (by decide +kernel)
set_option maxRecDepth 20000 in
theorem gX2_sumUp_X2_sumOfThing : GoodIn wsX2_sumUp (va_wsS RX2 123 yX2_sumOfThing wsX2_sumOfThing) := goodIn_app (goodIn_of _ (by decide +kernel)) ggX2_sumUp_X2_sumOfThing
set_option maxRecDepth 20000 in
theorem ggX2_sumUp_X2_sumOfSums : GoodIn wsX2_sumUp wsX2_sumOfSums := goodIn_r _ [7] (by decide +kernel) (by decide +kernel)
set_option maxRecDepth 20000 in
theorem gX2_sumUp_X2_sumOfSums : GoodIn wsX2_sumUp (va_wsS RX2 183 yX2_sumOfSums wsX2_sumOfSums) := goodIn_app (goodIn_of _ (by decide +kernel)) ggX2_sumUp_X2_sumOfSums
theorem dX2_sumUp_0 : decode cX2_sumUp 0 = .ok (.aload_n 0, 1) := by decide +kernel
theorem dX2_sumUp_1 : decode cX2_sumUp 1 = .ok (.bipush 16, 2) := by decide +kernel
theorem dX2_sumUp_3 : decode cX2_sumUp 3 = .ok (.iload_n 1, 1) := by decide +kernel
theorem dX2_sumUp_4 : decode cX2_sumUp 4 = .ok (.iadd, 1) := by decide +kernel
theorem dX2_sumUp_5 : decode cX2_sumUp 5 = .ok (.iload_n 1, 1) := by decide +kernel
theorem dX2_sumUp_6 : decode cX2_sumUp 6 = .ok (.iload_n 2, 1) := by decide +kernel
theorem dX2_sumUp_7 : decode cX2_sumUp 7 = .ok (.invokestatic 123, 3) := by decide +kernel
theorem dX2_sumUp_10 : decode cX2_sumUp 10 = .ok (.iastore, 1) := by decide +kernel
theorem dX2_sumUp_11 : decode cX2_sumUp 11 = .ok (.bipush 16, 2) := by decide +kernel
theorem dX2_sumUp_13 : decode cX2_sumUp 13 = .ok (.iload_n 1, 1) := by decide +kernel
theorem dX2_sumUp_14 : decode cX2_sumUp 14 = .ok (.iadd, 1) := by decide +kernel
theorem dX2_sumUp_15 : decode cX2_sumUp 15 = .ok (.iconst 2, 1) := by decide +kernel
theorem dX2_sumUp_16 : decode cX2_sumUp 16 = .ok (.idiv, 1) := by decide +kernel
theorem dX2_sumUp_17 : decode cX2_sumUp 17 = .ok (.istore_n 3, 1) := by decide +kernel
theorem dX2_sumUp_18 : decode cX2_sumUp 18 = .ok (.iload_n 3, 1) := by decide +kernel
theorem dX2_sumUp_19 : decode cX2_sumUp 19 = .ok (.iconst 1, 1) := by decide +kernel
theorem dX2_sumUp_20 : decode cX2_sumUp 20 = .ok (.if_icmp .lt 29, 3) := by decide +kernel
theorem dX2_sumUp_23 : decode cX2_sumUp 23 = .ok (.aload_n 0, 1) := by decide +kernel
theorem dX2_sumUp_24 : decode cX2_sumUp 24 = .ok (.iload_n 3, 1) := by decide +kernel
theorem dX2_sumUp_25 : decode cX2_sumUp 25 = .ok (.aload_n 0, 1) := by decide +kernel
theorem dX2_sumUp_26 : decode cX2_sumUp 26 = .ok (.iconst 2, 1) := by decide +kernel
theorem dX2_sumUp_27 : decode cX2_sumUp 27 = .ok (.iload_n 3, 1) := by decide +kernel
theorem dX2_sumUp_28 : decode cX2_sumUp 28 = .ok (.imul, 1) := by decide +kernel
theorem dX2_sumUp_29 : decode cX2_sumUp 29 = .ok (.iaload, 1) := by decide +kernel
theorem dX2_sumUp_30 : decode cX2_sumUp 30 = .ok (.aload_n 0, 1) := by decide +kernel
theorem dX2_sumUp_31 : decode cX2_sumUp 31 = .ok (.iconst 2, 1) := by decide +kernel
theorem dX2_sumUp_32 : decode cX2_sumUp 32 = .ok (.iload_n 3, 1) := by decide +kernel
theorem dX2_sumUp_33 : decode cX2_sumUp 33 = .ok (.imul, 1) := by decide +kernel
theorem dX2_sumUp_34 : decode cX2_sumUp 34 = .ok (.iconst 1, 1) := by decide +kernel
theorem dX2_sumUp_35 : decode cX2_sumUp 35 = .ok (.iadd, 1) := by decide +kernel
theorem dX2_sumUp_36 : decode cX2_sumUp 36 = .ok (.iaload, 1) := by decide +kernel
theorem dX2_sumUp_37 : decode cX2_sumUp 37 = .ok (.iload_n 3, 1) := by decide +kernel
theorem dX2_sumUp_38 : decode cX2_sumUp 38 = .ok (.invokestatic 183, 3) := by decide +kernel
theorem dX2_sumUp_41 : decode cX2_sumUp 41 = .ok (.iastore, 1) := by decide +kernel
theorem dX2_sumUp_42 : decode cX2_sumUp 42 = .ok (.iload_n 3, 1) := by decide +kernel
theorem dX2_sumUp_43 : decode cX2_sumUp 43 = .ok (.iconst 2, 1) := by decide +kernel
theorem dX2_sumUp_44 : decode cX2_sumUp 44 = .ok (.idiv, 1) := by decide +kernel
theorem dX2_sumUp_45 : decode cX2_sumUp 45 = .ok (.istore_n 3, 1) := by decide +kernel
theorem dX2_sumUp_46 : decode cX2_sumUp 46 = .ok (.goto (-28), 3) := by decide +kernel
theorem dX2_sumUp_49 : decode cX2_sumUp 49 = .ok (.return_, 1) := by decide +kernel
theorem dX2_placesApart_0 : decode cX2_placesApart 0 = .ok (.iconst 0, 1) := by decide +kernel
theorem dX2_placesApart_1 : decode cX2_placesApart 1 = .ok (.istore_n 2, 1) := by decide +kernel
theorem dX2_placesApart_2 : decode cX2_placesApart 2 = .ok (.iconst 1, 1) := by decide +kernel
theorem dX2_placesApart_3 : decode cX2_placesApart 3 = .ok (.istore_n 3, 1) := by decide +kernel
theorem dX2_placesApart_4 : decode cX2_placesApart 4 = .ok (.iload_n 3, 1) := by decide +kernel
theorem dX2_placesApart_5 : decode cX2_placesApart 5 = .ok (.bipush 31, 2) := by decide +kernel
theorem dX2_placesApart_7 : decode cX2_placesApart 7 = .ok (.if_icmp .gt 21, 3) := by decide +kernel
theorem dX2_placesApart_10 : decode cX2_placesApart 10 = .ok (.aload_n 0, 1) := by decide +kernel
theorem dX2_placesApart_11 : decode cX2_placesApart 11 = .ok (.iload_n 3, 1) := by decide +kernel
theorem dX2_placesApart_12 : decode cX2_placesApart 12 = .ok (.iaload, 1) := by decide +kernel
theorem dX2_placesApart_13 : decode cX2_placesApart 13 = .ok (.aload_n 1, 1) := by decide +kernel
theorem dX2_placesApart_14 : decode cX2_placesApart 14 = .ok (.iload_n 3, 1) := by decide +kernel
theorem dX2_placesApart_15 : decode cX2_placesApart 15 = .ok (.iaload, 1) := by decide +kernel
theorem dX2_placesApart_16 : decode cX2_placesApart 16 = .ok (.if_icmp .eq 6, 3) := by decide +kernel
theorem dX2_placesApart_19 : decode cX2_placesApart 19 = .ok (.iinc 2 1, 3) := by decide +kernel
theorem dX2_placesApart_22 : decode cX2_placesApart 22 = .ok (.iinc 3 1, 3) := by decide +kernel
theorem dX2_placesApart_25 : decode cX2_placesApart 25 = .ok (.goto (-21), 3) := by decide +kernel
theorem dX2_placesApart_28 : decode cX2_placesApart 28 = .ok (.iload_n 2, 1) := by decide +kernel
theorem dX2_placesApart_29 : decode cX2_placesApart 29 = .ok (.ireturn, 1) := by decide +kernel
set_option maxRecDepth 20000 in
theorem ggX2_placesLookedAt_X2_hasBit : GoodIn wsX2_placesLookedAt wsX2_hasBit := goodIn_r _ [4] (by decide +kernel) (by decide +kernel)
set_option maxRecDepth 20000 in
theorem gX2_placesLookedAt_X2_hasBit : GoodIn wsX2_placesLookedAt (va_wsS RX2 141 yX2_hasBit wsX2_hasBit) := goodIn_app (goodIn_of _ (by decide +kernel)) ggX2_placesLookedAt_X2_hasBit
theorem dX2_placesLookedAt_0 : decode cX2_placesLookedAt 0 = .ok (.iconst 2, 1) := by decide +kernel
theorem dX2_placesLookedAt_1 : decode cX2_placesLookedAt 1 = .ok (.istore_n 2, 1) := by decide +kernel
theorem dX2_placesLookedAt_2 : decode cX2_placesLookedAt 2 = .ok (.iconst 1, 1) := by decide +kernel
theorem dX2_placesLookedAt_3 : decode cX2_placesLookedAt 3 = .ok (.istore_n 3, 1) := by decide +kernel
theorem dX2_placesLookedAt_4 : decode cX2_placesLookedAt 4 = .ok (.iload_n 3, 1) := by decide +kernel
theorem dX2_placesLookedAt_5 : decode cX2_placesLookedAt 5 = .ok (.bipush 16, 2) := by decide +kernel
theorem dX2_placesLookedAt_7 : decode cX2_placesLookedAt 7 = .ok (.if_icmp .ge 34, 3) := by decide +kernel
theorem dX2_placesLookedAt_10 : decode cX2_placesLookedAt 10 = .ok (.iload_n 2, 1) := by decide +kernel
theorem dX2_placesLookedAt_11 : decode cX2_placesLookedAt 11 = .ok (.iload_n 3, 1) := by decide +kernel
theorem dX2_placesLookedAt_12 : decode cX2_placesLookedAt 12 = .ok (.invokestatic 141, 3) := by decide +kernel
theorem dX2_placesLookedAt_15 : decode cX2_placesLookedAt 15 = .ok (.ifCond .eq 20, 3) := by decide +kernel
theorem dX2_placesLookedAt_18 : decode cX2_placesLookedAt 18 = .ok (.aload_n 0, 1) := by decide +kernel
theorem dX2_placesLookedAt_19 : decode cX2_placesLookedAt 19 = .ok (.iload_n 3, 1) := by decide +kernel
theorem dX2_placesLookedAt_20 : decode cX2_placesLookedAt 20 = .ok (.iaload, 1) := by decide +kernel
theorem dX2_placesLookedAt_21 : decode cX2_placesLookedAt 21 = .ok (.aload_n 1, 1) := by decide +kernel
theorem dX2_placesLookedAt_22 : decode cX2_placesLookedAt 22 = .ok (.iload_n 3, 1) := by decide +kernel
theorem dX2_placesLookedAt_23 : decode cX2_placesLookedAt 23 = .ok (.iaload, 1) := by decide +kernel
theorem dX2_placesLookedAt_24 : decode cX2_placesLookedAt 24 = .ok (.if_icmp .eq 11, 3) := by decide +kernel
theorem dX2_placesLookedAt_27 : decode cX2_placesLookedAt 27 = .ok (.iload_n 2, 1) := by decide +kernel
theorem dX2_placesLookedAt_28 : decode cX2_placesLookedAt 28 = .ok (.iconst 3, 1) := by decide +kernel
theorem dX2_placesLookedAt_29 : decode cX2_placesLookedAt 29 = .ok (.iconst 2, 1) := by decide +kernel
theorem dX2_placesLookedAt_30 : decode cX2_placesLookedAt 30 = .ok (.iload_n 3, 1) := by decide +kernel
theorem dX2_placesLookedAt_31 : decode cX2_placesLookedAt 31 = .ok (.imul, 1) := by decide +kernel
theorem dX2_placesLookedAt_32 : decode cX2_placesLookedAt 32 = .ok (.ishl, 1) := by decide +kernel
theorem dX2_placesLookedAt_33 : decode cX2_placesLookedAt 33 = .ok (.ior, 1) := by decide +kernel
theorem dX2_placesLookedAt_34 : decode cX2_placesLookedAt 34 = .ok (.istore_n 2, 1) := by decide +kernel
theorem dX2_placesLookedAt_35 : decode cX2_placesLookedAt 35 = .ok (.iinc 3 1, 3) := by decide +kernel
theorem dX2_placesLookedAt_38 : decode cX2_placesLookedAt 38 = .ok (.goto (-34), 3) := by decide +kernel
theorem dX2_placesLookedAt_41 : decode cX2_placesLookedAt 41 = .ok (.iload_n 2, 1) := by decide +kernel
theorem dX2_placesLookedAt_42 : decode cX2_placesLookedAt 42 = .ok (.ireturn, 1) := by decide +kernel
set_option maxRecDepth 20000 in
theorem ggX2_drawersApart_X2_placesLookedAt : GoodIn wsX2_drawersApart wsX2_placesLookedAt := goodIn_r _ [4, 5, 6, 3, 7] (by decide +kernel) (by decide +kernel)
set_option maxRecDepth 20000 in
theorem gX2_drawersApart_X2_placesLookedAt : GoodIn wsX2_drawersApart (va_wsS RX2 133 yX2_placesLookedAt wsX2_placesLookedAt) := goodIn_app (goodIn_of _ (by decide +kernel)) ggX2_drawersApart_X2_placesLookedAt
set_option maxRecDepth 20000 in
theorem ggX2_drawersApart_X2_hasBit : GoodIn wsX2_drawersApart wsX2_hasBit := goodIn_r _ [7] (by decide +kernel) (by decide +kernel)
set_option maxRecDepth 20000 in
theorem gX2_drawersApart_X2_hasBit : GoodIn wsX2_drawersApart (va_wsS RX2 141 yX2_hasBit wsX2_hasBit) := goodIn_app (goodIn_of _ (by decide +kernel)) ggX2_drawersApart_X2_hasBit
theorem dX2_drawersApart_0 : decode cX2_drawersApart 0 = .ok (.aload_n 0, 1) := by decide +kernel
theorem dX2_drawersApart_1 : decode cX2_drawersApart 1 = .ok (.aload_n 1, 1) := by decide +kernel
theorem dX2_drawersApart_2 : decode cX2_drawersApart 2 = .ok (.invokestatic 133, 3) := by decide +kernel
theorem dX2_drawersApart_5 : decode cX2_drawersApart 5 = .ok (.istore_n 2, 1) := by decide +kernel
theorem dX2_drawersApart_6 : decode cX2_drawersApart 6 = .ok (.iconst 0, 1) := by decide +kernel
theorem dX2_drawersApart_7 : decode cX2_drawersApart 7 = .ok (.istore_n 3, 1) := by decide +kernel
theorem dX2_drawersApart_8 : decode cX2_drawersApart 8 = .ok (.iconst 0, 1) := by decide +kernel
theorem dX2_drawersApart_9 : decode cX2_drawersApart 9 = .ok (.istore 4, 2) := by decide +kernel
theorem dX2_drawersApart_11 : decode cX2_drawersApart 11 = .ok (.iload 4, 2) := by decide +kernel
theorem dX2_drawersApart_13 : decode cX2_drawersApart 13 = .ok (.bipush 16, 2) := by decide +kernel
theorem dX2_drawersApart_15 : decode cX2_drawersApart 15 = .ok (.if_icmp .ge 43, 3) := by decide +kernel
theorem dX2_drawersApart_18 : decode cX2_drawersApart 18 = .ok (.bipush 16, 2) := by decide +kernel
theorem dX2_drawersApart_20 : decode cX2_drawersApart 20 = .ok (.iload 4, 2) := by decide +kernel
theorem dX2_drawersApart_22 : decode cX2_drawersApart 22 = .ok (.iadd, 1) := by decide +kernel
theorem dX2_drawersApart_23 : decode cX2_drawersApart 23 = .ok (.istore 5, 2) := by decide +kernel
theorem dX2_drawersApart_25 : decode cX2_drawersApart 25 = .ok (.iload_n 2, 1) := by decide +kernel
theorem dX2_drawersApart_26 : decode cX2_drawersApart 26 = .ok (.iload 5, 2) := by decide +kernel
theorem dX2_drawersApart_28 : decode cX2_drawersApart 28 = .ok (.invokestatic 141, 3) := by decide +kernel
theorem dX2_drawersApart_31 : decode cX2_drawersApart 31 = .ok (.ifCond .eq 21, 3) := by decide +kernel
theorem dX2_drawersApart_34 : decode cX2_drawersApart 34 = .ok (.aload_n 0, 1) := by decide +kernel
theorem dX2_drawersApart_35 : decode cX2_drawersApart 35 = .ok (.iload 5, 2) := by decide +kernel
theorem dX2_drawersApart_37 : decode cX2_drawersApart 37 = .ok (.iaload, 1) := by decide +kernel
theorem dX2_drawersApart_38 : decode cX2_drawersApart 38 = .ok (.aload_n 1, 1) := by decide +kernel
theorem dX2_drawersApart_39 : decode cX2_drawersApart 39 = .ok (.iload 5, 2) := by decide +kernel
theorem dX2_drawersApart_41 : decode cX2_drawersApart 41 = .ok (.iaload, 1) := by decide +kernel
theorem dX2_drawersApart_42 : decode cX2_drawersApart 42 = .ok (.if_icmp .eq 10, 3) := by decide +kernel
theorem dX2_drawersApart_45 : decode cX2_drawersApart 45 = .ok (.iload_n 3, 1) := by decide +kernel
theorem dX2_drawersApart_46 : decode cX2_drawersApart 46 = .ok (.iconst 1, 1) := by decide +kernel
theorem dX2_drawersApart_47 : decode cX2_drawersApart 47 = .ok (.iload 4, 2) := by decide +kernel
theorem dX2_drawersApart_49 : decode cX2_drawersApart 49 = .ok (.ishl, 1) := by decide +kernel
theorem dX2_drawersApart_50 : decode cX2_drawersApart 50 = .ok (.ior, 1) := by decide +kernel
theorem dX2_drawersApart_51 : decode cX2_drawersApart 51 = .ok (.istore_n 3, 1) := by decide +kernel
theorem dX2_drawersApart_52 : decode cX2_drawersApart 52 = .ok (.iinc 4 1, 3) := by decide +kernel
theorem dX2_drawersApart_55 : decode cX2_drawersApart 55 = .ok (.goto (-44), 3) := by decide +kernel
theorem dX2_drawersApart_58 : decode cX2_drawersApart 58 = .ok (.iload_n 3, 1) := by decide +kernel
theorem dX2_drawersApart_59 : decode cX2_drawersApart 59 = .ok (.ireturn, 1) := by decide +kernel
theorem dX2_hasBit_0 : decode cX2_hasBit 0 = .ok (.iload_n 0, 1) := by decide +kernel
theorem dX2_hasBit_1 : decode cX2_hasBit 1 = .ok (.iload_n 1, 1) := by decide +kernel
theorem dX2_hasBit_2 : decode cX2_hasBit 2 = .ok (.iushr, 1) := by decide +kernel
theorem dX2_hasBit_3 : decode cX2_hasBit 3 = .ok (.iconst 1, 1) := by decide +kernel
theorem dX2_hasBit_4 : decode cX2_hasBit 4 = .ok (.iand, 1) := by decide +kernel
theorem dX2_hasBit_5 : decode cX2_hasBit 5 = .ok (.iconst 1, 1) := by decide +kernel
theorem dX2_hasBit_6 : decode cX2_hasBit 6 = .ok (.if_icmp .ne 7, 3) := by decide +kernel
theorem dX2_hasBit_9 : decode cX2_hasBit 9 = .ok (.iconst 1, 1) := by decide +kernel
theorem dX2_hasBit_10 : decode cX2_hasBit 10 = .ok (.goto 4, 3) := by decide +kernel
theorem dX2_hasBit_13 : decode cX2_hasBit 13 = .ok (.iconst 0, 1) := by decide +kernel
theorem dX2_hasBit_14 : decode cX2_hasBit 14 = .ok (.ireturn, 1) := by decide +kernel
theorem dX2_checkDrawer_0 : decode cX2_checkDrawer 0 = .ok (.iload_n 0, 1) := by decide +kernel
theorem dX2_checkDrawer_1 : decode cX2_checkDrawer 1 = .ok (.ifCond .lt 9, 3) := by decide +kernel
theorem dX2_checkDrawer_4 : decode cX2_checkDrawer 4 = .ok (.iload_n 0, 1) := by decide +kernel
theorem dX2_checkDrawer_5 : decode cX2_checkDrawer 5 = .ok (.bipush 16, 2) := by decide +kernel
theorem dX2_checkDrawer_7 : decode cX2_checkDrawer 7 = .ok (.if_icmp .lt 13, 3) := by decide +kernel
theorem dX2_checkDrawer_10 : decode cX2_checkDrawer 10 = .ok (.new 68, 3) := by decide +kernel
theorem dX2_checkDrawer_13 : decode cX2_checkDrawer 13 = .ok (.dup, 1) := by decide +kernel
theorem dX2_checkDrawer_14 : decode cX2_checkDrawer 14 = .ok (.ldc 186, 2) := by decide +kernel
theorem dX2_checkDrawer_16 : decode cX2_checkDrawer 16 = .ok (.invokespecial 72, 3) := by decide +kernel
theorem dX2_checkDrawer_19 : decode cX2_checkDrawer 19 = .ok (.athrow, 1) := by decide +kernel
theorem dX2_checkDrawer_20 : decode cX2_checkDrawer 20 = .ok (.return_, 1) := by decide +kernel
theorem dX2_checkWhat_0 : decode cX2_checkWhat 0 = .ok (.iload_n 0, 1) := by decide +kernel
theorem dX2_checkWhat_1 : decode cX2_checkWhat 1 = .ok (.ifCond .lt 8, 3) := by decide +kernel
theorem dX2_checkWhat_4 : decode cX2_checkWhat 4 = .ok (.iload_n 0, 1) := by decide +kernel
theorem dX2_checkWhat_5 : decode cX2_checkWhat 5 = .ok (.iload_n 1, 1) := by decide +kernel
theorem dX2_checkWhat_6 : decode cX2_checkWhat 6 = .ok (.if_icmp .lt 13, 3) := by decide +kernel
theorem dX2_checkWhat_9 : decode cX2_checkWhat 9 = .ok (.new 68, 3) := by decide +kernel
theorem dX2_checkWhat_12 : decode cX2_checkWhat 12 = .ok (.dup, 1) := by decide +kernel
theorem dX2_checkWhat_13 : decode cX2_checkWhat 13 = .ok (.ldc 188, 2) := by decide +kernel
theorem dX2_checkWhat_15 : decode cX2_checkWhat 15 = .ok (.invokespecial 72, 3) := by decide +kernel
theorem dX2_checkWhat_18 : decode cX2_checkWhat 18 = .ok (.athrow, 1) := by decide +kernel
theorem dX2_checkWhat_19 : decode cX2_checkWhat 19 = .ok (.return_, 1) := by decide +kernel
theorem dX2_checkThing_0 : decode cX2_checkThing 0 = .ok (.iload_n 0, 1) := by decide +kernel
theorem dX2_checkThing_1 : decode cX2_checkThing 1 = .ok (.ifCond .lt 10, 3) := by decide +kernel
theorem dX2_checkThing_4 : decode cX2_checkThing 4 = .ok (.iload_n 0, 1) := by decide +kernel
theorem dX2_checkThing_5 : decode cX2_checkThing 5 = .ok (.sipush 9999, 3) := by decide +kernel
theorem dX2_checkThing_8 : decode cX2_checkThing 8 = .ok (.if_icmp .le 13, 3) := by decide +kernel
theorem dX2_checkThing_11 : decode cX2_checkThing 11 = .ok (.new 190, 3) := by decide +kernel
theorem dX2_checkThing_14 : decode cX2_checkThing 14 = .ok (.dup, 1) := by decide +kernel
theorem dX2_checkThing_15 : decode cX2_checkThing 15 = .ok (.ldc 192, 2) := by decide +kernel
theorem dX2_checkThing_17 : decode cX2_checkThing 17 = .ok (.invokespecial 194, 3) := by decide +kernel
theorem dX2_checkThing_20 : decode cX2_checkThing 20 = .ok (.athrow, 1) := by decide +kernel
theorem dX2_checkThing_21 : decode cX2_checkThing 21 = .ok (.return_, 1) := by decide +kernel
theorem dX2_checkSum_0 : decode cX2_checkSum 0 = .ok (.iload_n 0, 1) := by decide +kernel
theorem dX2_checkSum_1 : decode cX2_checkSum 1 = .ok (.ifCond .lt 10, 3) := by decide +kernel
theorem dX2_checkSum_4 : decode cX2_checkSum 4 = .ok (.iload_n 0, 1) := by decide +kernel
theorem dX2_checkSum_5 : decode cX2_checkSum 5 = .ok (.sipush 997, 3) := by decide +kernel
theorem dX2_checkSum_8 : decode cX2_checkSum 8 = .ok (.if_icmp .lt 13, 3) := by decide +kernel
theorem dX2_checkSum_11 : decode cX2_checkSum 11 = .ok (.new 190, 3) := by decide +kernel
theorem dX2_checkSum_14 : decode cX2_checkSum 14 = .ok (.dup, 1) := by decide +kernel
theorem dX2_checkSum_15 : decode cX2_checkSum 15 = .ok (.ldc 195, 2) := by decide +kernel
theorem dX2_checkSum_17 : decode cX2_checkSum 17 = .ok (.invokespecial 194, 3) := by decide +kernel
theorem dX2_checkSum_20 : decode cX2_checkSum 20 = .ok (.athrow, 1) := by decide +kernel
theorem dX2_checkSum_21 : decode cX2_checkSum 21 = .ok (.return_, 1) := by decide +kernel
theorem dX3_init_0 : decode cX3_init 0 = .ok (.aload_n 0, 1) := by decide +kernel
theorem dX3_init_1 : decode cX3_init 1 = .ok (.invokespecial 1, 3) := by decide +kernel
theorem dX3_init_4 : decode cX3_init 4 = .ok (.aload_n 0, 1) := by decide +kernel
theorem dX3_init_5 : decode cX3_init 5 = .ok (.bipush 96, 2) := by decide +kernel
theorem dX3_init_7 : decode cX3_init 7 = .ok (.newarray .int, 2) := by decide +kernel
theorem dX3_init_9 : decode cX3_init 9 = .ok (.putfield 9, 3) := by decide +kernel
theorem dX3_init_12 : decode cX3_init 12 = .ok (.aload_n 0, 1) := by decide +kernel
theorem dX3_init_13 : decode cX3_init 13 = .ok (.bipush 6, 2) := by decide +kernel
theorem dX3_init_15 : decode cX3_init 15 = .ok (.newarray .int, 2) := by decide +kernel
theorem dX3_init_17 : decode cX3_init 17 = .ok (.putfield 13, 3) := by decide +kernel
theorem dX3_init_20 : decode cX3_init 20 = .ok (.aload_n 0, 1) := by decide +kernel
theorem dX3_init_21 : decode cX3_init 21 = .ok (.bipush 20, 2) := by decide +kernel
theorem dX3_init_23 : decode cX3_init 23 = .ok (.newarray .int, 2) := by decide +kernel
theorem dX3_init_25 : decode cX3_init 25 = .ok (.putfield 16, 3) := by decide +kernel
theorem dX3_init_28 : decode cX3_init 28 = .ok (.aload_n 0, 1) := by decide +kernel
theorem dX3_init_29 : decode cX3_init 29 = .ok (.bipush 20, 2) := by decide +kernel
theorem dX3_init_31 : decode cX3_init 31 = .ok (.newarray .int, 2) := by decide +kernel
theorem dX3_init_33 : decode cX3_init 33 = .ok (.putfield 19, 3) := by decide +kernel
theorem dX3_init_36 : decode cX3_init 36 = .ok (.aload_n 0, 1) := by decide +kernel
theorem dX3_init_37 : decode cX3_init 37 = .ok (.bipush 20, 2) := by decide +kernel
theorem dX3_init_39 : decode cX3_init 39 = .ok (.newarray .int, 2) := by decide +kernel
theorem dX3_init_41 : decode cX3_init 41 = .ok (.putfield 22, 3) := by decide +kernel
theorem dX3_init_44 : decode cX3_init 44 = .ok (.aload_n 0, 1) := by decide +kernel
theorem dX3_init_45 : decode cX3_init 45 = .ok (.bipush 32, 2) := by decide +kernel
theorem dX3_init_47 : decode cX3_init 47 = .ok (.newarray .int, 2) := by decide +kernel
theorem dX3_init_49 : decode cX3_init 49 = .ok (.putfield 25, 3) := by decide +kernel
theorem dX3_init_52 : decode cX3_init 52 = .ok (.aload_n 0, 1) := by decide +kernel
theorem dX3_init_53 : decode cX3_init 53 = .ok (.bipush 32, 2) := by decide +kernel
theorem dX3_init_55 : decode cX3_init 55 = .ok (.newarray .int, 2) := by decide +kernel
theorem dX3_init_57 : decode cX3_init 57 = .ok (.putfield 28, 3) := by decide +kernel
theorem dX3_init_60 : decode cX3_init 60 = .ok (.return_, 1) := by decide +kernel
theorem dX3_thrown_0 : decode cX3_thrown 0 = .ok (.aload_n 0, 1) := by decide +kernel
theorem dX3_thrown_1 : decode cX3_thrown 1 = .ok (.getfield 31, 3) := by decide +kernel
theorem dX3_thrown_4 : decode cX3_thrown 4 = .ok (.ireturn, 1) := by decide +kernel
theorem dX3_fail_0 : decode cX3_fail 0 = .ok (.aload_n 0, 1) := by decide +kernel
theorem dX3_fail_1 : decode cX3_fail 1 = .ok (.iload_n 1, 1) := by decide +kernel
theorem dX3_fail_2 : decode cX3_fail 2 = .ok (.putfield 31, 3) := by decide +kernel
theorem dX3_fail_5 : decode cX3_fail 5 = .ok (.iconst 0, 1) := by decide +kernel
theorem dX3_fail_6 : decode cX3_fail 6 = .ok (.ireturn, 1) := by decide +kernel
theorem dX3_isIn_0 : decode cX3_isIn 0 = .ok (.iload_n 0, 1) := by decide +kernel
theorem dX3_isIn_1 : decode cX3_isIn 1 = .ok (.iload_n 1, 1) := by decide +kernel
theorem dX3_isIn_2 : decode cX3_isIn 2 = .ok (.if_icmp .lt 12, 3) := by decide +kernel
theorem dX3_isIn_5 : decode cX3_isIn 5 = .ok (.iload_n 0, 1) := by decide +kernel
theorem dX3_isIn_6 : decode cX3_isIn 6 = .ok (.iload_n 2, 1) := by decide +kernel
theorem dX3_isIn_7 : decode cX3_isIn 7 = .ok (.if_icmp .gt 7, 3) := by decide +kernel
theorem dX3_isIn_10 : decode cX3_isIn 10 = .ok (.iconst 1, 1) := by decide +kernel
theorem dX3_isIn_11 : decode cX3_isIn 11 = .ok (.goto 4, 3) := by decide +kernel
theorem dX3_isIn_14 : decode cX3_isIn 14 = .ok (.iconst 0, 1) := by decide +kernel
theorem dX3_isIn_15 : decode cX3_isIn 15 = .ok (.ireturn, 1) := by decide +kernel
set_option maxRecDepth 20000 in
theorem ggX3_isCupboard_X3_isIn : GoodIn wsX3_isCupboard wsX3_isIn := goodIn_r _ [5] (by decide +kernel) (by decide +kernel)
set_option maxRecDepth 20000 in
theorem gX3_isCupboard_X3_isIn : GoodIn wsX3_isCupboard (va_wsS RX3 38 yX3_isIn wsX3_isIn) := goodIn_app (goodIn_of _ (by decide +kernel)) ggX3_isCupboard_X3_isIn
theorem dX3_isCupboard_0 : decode cX3_isCupboard 0 = .ok (.iload_n 1, 1) := by decide +kernel
theorem dX3_isCupboard_1 : decode cX3_isCupboard 1 = .ok (.iconst 0, 1) := by decide +kernel
theorem dX3_isCupboard_2 : decode cX3_isCupboard 2 = .ok (.aload_n 0, 1) := by decide +kernel
theorem dX3_isCupboard_3 : decode cX3_isCupboard 3 = .ok (.getfield 35, 3) := by decide +kernel
theorem dX3_isCupboard_6 : decode cX3_isCupboard 6 = .ok (.iconst 1, 1) := by decide +kernel
theorem dX3_isCupboard_7 : decode cX3_isCupboard 7 = .ok (.isub, 1) := by decide +kernel
theorem dX3_isCupboard_8 : decode cX3_isCupboard 8 = .ok (.invokestatic 38, 3) := by decide +kernel
theorem dX3_isCupboard_11 : decode cX3_isCupboard 11 = .ok (.ireturn, 1) := by decide +kernel
set_option maxRecDepth 20000 in
theorem ggX3_isDrawer_X3_isIn : GoodIn wsX3_isDrawer wsX3_isIn := goodIn_r _ [4] (by decide +kernel) (by decide +kernel)
set_option maxRecDepth 20000 in
theorem gX3_isDrawer_X3_isIn : GoodIn wsX3_isDrawer (va_wsS RX3 38 yX3_isIn wsX3_isIn) := goodIn_app (goodIn_of _ (by decide +kernel)) ggX3_isDrawer_X3_isIn
theorem dX3_isDrawer_0 : decode cX3_isDrawer 0 = .ok (.iload_n 0, 1) := by decide +kernel
theorem dX3_isDrawer_1 : decode cX3_isDrawer 1 = .ok (.iconst 0, 1) := by decide +kernel
theorem dX3_isDrawer_2 : decode cX3_isDrawer 2 = .ok (.bipush 15, 2) := by decide +kernel
theorem dX3_isDrawer_4 : decode cX3_isDrawer 4 = .ok (.invokestatic 38, 3) := by decide +kernel
theorem dX3_isDrawer_7 : decode cX3_isDrawer 7 = .ok (.ireturn, 1) := by decide +kernel
set_option maxRecDepth 20000 in
theorem ggX3_isSeal_X3_isIn : GoodIn wsX3_isSeal wsX3_isIn := goodIn_r _ [5] (by decide +kernel) (by decide +kernel)
set_option maxRecDepth 20000 in
theorem gX3_isSeal_X3_isIn : GoodIn wsX3_isSeal (va_wsS RX3 38 yX3_isIn wsX3_isIn) := goodIn_app (goodIn_of _ (by decide +kernel)) ggX3_isSeal_X3_isIn
theorem dX3_isSeal_0 : decode cX3_isSeal 0 = .ok (.iload_n 1, 1) := by decide +kernel
theorem dX3_isSeal_1 : decode cX3_isSeal 1 = .ok (.iconst 0, 1) := by decide +kernel
theorem dX3_isSeal_2 : decode cX3_isSeal 2 = .ok (.aload_n 0, 1) := by decide +kernel
theorem dX3_isSeal_3 : decode cX3_isSeal 3 = .ok (.getfield 42, 3) := by decide +kernel
theorem dX3_isSeal_6 : decode cX3_isSeal 6 = .ok (.iconst 1, 1) := by decide +kernel
theorem dX3_isSeal_7 : decode cX3_isSeal 7 = .ok (.isub, 1) := by decide +kernel
theorem dX3_isSeal_8 : decode cX3_isSeal 8 = .ok (.invokestatic 38, 3) := by decide +kernel
theorem dX3_isSeal_11 : decode cX3_isSeal 11 = .ok (.ireturn, 1) := by decide +kernel
theorem dX3_th_0 : decode cX3_th 0 = .ok (.aload_n 0, 1) := by decide +kernel
theorem dX3_th_1 : decode cX3_th 1 = .ok (.getfield 9, 3) := by decide +kernel
theorem dX3_th_4 : decode cX3_th 4 = .ok (.bipush 16, 2) := by decide +kernel
theorem dX3_th_6 : decode cX3_th 6 = .ok (.iload_n 1, 1) := by decide +kernel
theorem dX3_th_7 : decode cX3_th 7 = .ok (.imul, 1) := by decide +kernel
theorem dX3_th_8 : decode cX3_th 8 = .ok (.iload_n 2, 1) := by decide +kernel
theorem dX3_th_9 : decode cX3_th 9 = .ok (.iadd, 1) := by decide +kernel
theorem dX3_th_10 : decode cX3_th 10 = .ok (.iaload, 1) := by decide +kernel
theorem dX3_th_11 : decode cX3_th 11 = .ok (.ireturn, 1) := by decide +kernel
theorem dX3_leaf_0 : decode cX3_leaf 0 = .ok (.bipush 37, 2) := by decide +kernel
theorem dX3_leaf_2 : decode cX3_leaf 2 = .ok (.iload_n 1, 1) := by decide +kernel
theorem dX3_leaf_3 : decode cX3_leaf 3 = .ok (.imul, 1) := by decide +kernel
theorem dX3_leaf_4 : decode cX3_leaf 4 = .ok (.bipush 101, 2) := by decide +kernel
theorem dX3_leaf_6 : decode cX3_leaf 6 = .ok (.iload_n 0, 1) := by decide +kernel
theorem dX3_leaf_7 : decode cX3_leaf 7 = .ok (.iconst 1, 1) := by decide +kernel
theorem dX3_leaf_8 : decode cX3_leaf 8 = .ok (.iadd, 1) := by decide +kernel
theorem dX3_leaf_9 : decode cX3_leaf 9 = .ok (.imul, 1) := by decide +kernel
theorem dX3_leaf_10 : decode cX3_leaf 10 = .ok (.iadd, 1) := by decide +kernel
theorem dX3_leaf_11 : decode cX3_leaf 11 = .ok (.sipush 997, 3) := by decide +kernel
theorem dX3_leaf_14 : decode cX3_leaf 14 = .ok (.irem, 1) := by decide +kernel
theorem dX3_leaf_15 : decode cX3_leaf 15 = .ok (.ireturn, 1) := by decide +kernel
theorem dX3_join_0 : decode cX3_join 0 = .ok (.bipush 61, 2) := by decide +kernel
theorem dX3_join_2 : decode cX3_join 2 = .ok (.iload_n 0, 1) := by decide +kernel
theorem dX3_join_3 : decode cX3_join 3 = .ok (.imul, 1) := by decide +kernel
theorem dX3_join_4 : decode cX3_join 4 = .ok (.bipush 89, 2) := by decide +kernel
theorem dX3_join_6 : decode cX3_join 6 = .ok (.iload_n 1, 1) := by decide +kernel
theorem dX3_join_7 : decode cX3_join 7 = .ok (.imul, 1) := by decide +kernel
theorem dX3_join_8 : decode cX3_join 8 = .ok (.iadd, 1) := by decide +kernel
theorem dX3_join_9 : decode cX3_join 9 = .ok (.iload_n 2, 1) := by decide +kernel
theorem dX3_join_10 : decode cX3_join 10 = .ok (.iadd, 1) := by decide +kernel
theorem dX3_join_11 : decode cX3_join 11 = .ok (.sipush 997, 3) := by decide +kernel
theorem dX3_join_14 : decode cX3_join 14 = .ok (.irem, 1) := by decide +kernel
theorem dX3_join_15 : decode cX3_join 15 = .ok (.ireturn, 1) := by decide +kernel
set_option maxRecDepth 20000 in
theorem ggX3_reckon_X3_th : GoodIn wsX3_reckon wsX3_th := goodIn_r _ [5, 6, 13, 14, 15, 16, 17, 18, 19, 20, 21, 22, 23] (by decide +kernel) (by decide +kernel)
set_option maxRecDepth 20000 in
theorem gX3_reckon_X3_th : GoodIn wsX3_reckon (wsV RX3 45 RX3 yX3_th wsX3_th) := goodIn_app (goodIn_of _ (by decide +kernel)) ggX3_reckon_X3_th
set_option maxRecDepth 20000 in
theorem ggX3_reckon_X3_leaf : GoodIn wsX3_reckon wsX3_leaf := goodIn_r _ [9] (by decide +kernel) (by decide +kernel)
set_option maxRecDepth 20000 in
theorem gX3_reckon_X3_leaf : GoodIn wsX3_reckon (va_wsS RX3 49 yX3_leaf wsX3_leaf) := goodIn_app (goodIn_of _ (by decide +kernel)) ggX3_reckon_X3_leaf
set_option maxRecDepth 20000 in
theorem ggX3_reckon_X3_join : GoodIn wsX3_reckon wsX3_join := goodIn_r _ [12] (by decide +kernel) (by decide +kernel)
set_option maxRecDepth 20000 in
theorem gX3_reckon_X3_join : GoodIn wsX3_reckon (va_wsS RX3 52 yX3_join wsX3_join) := goodIn_app (goodIn_of _ (by decide +kernel)) ggX3_reckon_X3_join
theorem dX3_reckon_0 : decode cX3_reckon 0 = .ok (.iconst 0, 1) := by decide +kernel
theorem dX3_reckon_1 : decode cX3_reckon 1 = .ok (.istore_n 3, 1) := by decide +kernel
theorem dX3_reckon_2 : decode cX3_reckon 2 = .ok (.iload_n 3, 1) := by decide +kernel
theorem dX3_reckon_3 : decode cX3_reckon 3 = .ok (.bipush 16, 2) := by decide +kernel
theorem dX3_reckon_5 : decode cX3_reckon 5 = .ok (.if_icmp .ge 25, 3) := by decide +kernel
theorem dX3_reckon_8 : decode cX3_reckon 8 = .ok (.aload_n 2, 1) := by decide +kernel
theorem dX3_reckon_9 : decode cX3_reckon 9 = .ok (.bipush 16, 2) := by decide +kernel
theorem dX3_reckon_11 : decode cX3_reckon 11 = .ok (.iload_n 3, 1) := by decide +kernel
theorem dX3_reckon_12 : decode cX3_reckon 12 = .ok (.iadd, 1) := by decide +kernel
theorem dX3_reckon_13 : decode cX3_reckon 13 = .ok (.iload_n 3, 1) := by decide +kernel
theorem dX3_reckon_14 : decode cX3_reckon 14 = .ok (.aload_n 0, 1) := by decide +kernel
theorem dX3_reckon_15 : decode cX3_reckon 15 = .ok (.iload_n 1, 1) := by decide +kernel
theorem dX3_reckon_16 : decode cX3_reckon 16 = .ok (.iload_n 3, 1) := by decide +kernel
theorem dX3_reckon_17 : decode cX3_reckon 17 = .ok (.invokevirtual 45, 3) := by decide +kernel
theorem dX3_reckon_20 : decode cX3_reckon 20 = .ok (.invokestatic 49, 3) := by decide +kernel
theorem dX3_reckon_23 : decode cX3_reckon 23 = .ok (.iastore, 1) := by decide +kernel
theorem dX3_reckon_24 : decode cX3_reckon 24 = .ok (.iinc 3 1, 3) := by decide +kernel
theorem dX3_reckon_27 : decode cX3_reckon 27 = .ok (.goto (-25), 3) := by decide +kernel
theorem dX3_reckon_30 : decode cX3_reckon 30 = .ok (.bipush 15, 2) := by decide +kernel
theorem dX3_reckon_32 : decode cX3_reckon 32 = .ok (.istore_n 3, 1) := by decide +kernel
theorem dX3_reckon_33 : decode cX3_reckon 33 = .ok (.iload_n 3, 1) := by decide +kernel
theorem dX3_reckon_34 : decode cX3_reckon 34 = .ok (.ifCond .le 28, 3) := by decide +kernel
theorem dX3_reckon_37 : decode cX3_reckon 37 = .ok (.aload_n 2, 1) := by decide +kernel
theorem dX3_reckon_38 : decode cX3_reckon 38 = .ok (.iload_n 3, 1) := by decide +kernel
theorem dX3_reckon_39 : decode cX3_reckon 39 = .ok (.aload_n 2, 1) := by decide +kernel
theorem dX3_reckon_40 : decode cX3_reckon 40 = .ok (.iconst 2, 1) := by decide +kernel
theorem dX3_reckon_41 : decode cX3_reckon 41 = .ok (.iload_n 3, 1) := by decide +kernel
theorem dX3_reckon_42 : decode cX3_reckon 42 = .ok (.imul, 1) := by decide +kernel
theorem dX3_reckon_43 : decode cX3_reckon 43 = .ok (.iaload, 1) := by decide +kernel
theorem dX3_reckon_44 : decode cX3_reckon 44 = .ok (.aload_n 2, 1) := by decide +kernel
theorem dX3_reckon_45 : decode cX3_reckon 45 = .ok (.iconst 2, 1) := by decide +kernel
theorem dX3_reckon_46 : decode cX3_reckon 46 = .ok (.iload_n 3, 1) := by decide +kernel
theorem dX3_reckon_47 : decode cX3_reckon 47 = .ok (.imul, 1) := by decide +kernel
theorem dX3_reckon_48 : decode cX3_reckon 48 = .ok (.iconst 1, 1) := by decide +kernel
theorem dX3_reckon_49 : decode cX3_reckon 49 = .ok (.iadd, 1) := by decide +kernel
theorem dX3_reckon_50 : decode cX3_reckon 50 = .ok (.iaload, 1) := by decide +kernel
theorem dX3_reckon_51 : decode cX3_reckon 51 = .ok (.iload_n 3, 1) := by decide +kernel
theorem dX3_reckon_52 : decode cX3_reckon 52 = .ok (.invokestatic 52, 3) := by decide +kernel
theorem dX3_reckon_55 : decode cX3_reckon 55 = .ok (.iastore, 1) := by decide +kernel
theorem dX3_reckon_56 : decode cX3_reckon 56 = .ok (.iinc 3 (-1), 3) := by decide +kernel
theorem dX3_reckon_59 : decode cX3_reckon 59 = .ok (.goto (-26), 3) := by decide +kernel
theorem dX3_reckon_62 : decode cX3_reckon 62 = .ok (.return_, 1) := by decide +kernel
set_option maxRecDepth 20000 in
theorem ggX3_root_X3_reckon : GoodIn wsX3_root wsX3_reckon := goodIn_r _ [6, 7, 8, 9, 5, 10, 11, 12, 13, 14, 15, 16, 17, 18, 19, 20, 21, 22, 23, 24, 25, 26, 27, 28] (by decide +kernel) (by decide +kernel)
set_option maxRecDepth 20000 in
theorem gX3_root_X3_reckon : GoodIn wsX3_root (wsV RX3 56 RX3 yX3_reckon wsX3_reckon) := goodIn_app (goodIn_of _ (by decide +kernel)) ggX3_root_X3_reckon
theorem dX3_root_0 : decode cX3_root 0 = .ok (.aload_n 0, 1) := by decide +kernel
theorem dX3_root_1 : decode cX3_root 1 = .ok (.iload_n 1, 1) := by decide +kernel
theorem dX3_root_2 : decode cX3_root 2 = .ok (.aload_n 0, 1) := by decide +kernel
theorem dX3_root_3 : decode cX3_root 3 = .ok (.getfield 25, 3) := by decide +kernel
theorem dX3_root_6 : decode cX3_root 6 = .ok (.invokevirtual 56, 3) := by decide +kernel
theorem dX3_root_9 : decode cX3_root 9 = .ok (.aload_n 0, 1) := by decide +kernel
theorem dX3_root_10 : decode cX3_root 10 = .ok (.getfield 25, 3) := by decide +kernel
theorem dX3_root_13 : decode cX3_root 13 = .ok (.iconst 1, 1) := by decide +kernel
theorem dX3_root_14 : decode cX3_root 14 = .ok (.iaload, 1) := by decide +kernel
theorem dX3_root_15 : decode cX3_root 15 = .ok (.ireturn, 1) := by decide +kernel
set_option maxRecDepth 20000 in
theorem ggX3_come_X3_fail : GoodIn wsX3_come wsX3_fail := goodIn_r _ [7, 1, 8, 9, 10, 11, 12, 13, 14, 15, 16, 17, 18] (by decide +kernel) (by decide +kernel)
set_option maxRecDepth 20000 in
theorem gX3_come_X3_fail : GoodIn wsX3_come (wsV RX3 60 RX3 yX3_fail wsX3_fail) := goodIn_app (goodIn_of _ (by decide +kernel)) ggX3_come_X3_fail
theorem dX3_come_0 : decode cX3_come 0 = .ok (.aload_n 0, 1) := by decide +kernel
theorem dX3_come_1 : decode cX3_come 1 = .ok (.iconst 0, 1) := by decide +kernel
theorem dX3_come_2 : decode cX3_come 2 = .ok (.putfield 31, 3) := by decide +kernel
theorem dX3_come_5 : decode cX3_come 5 = .ok (.aload_n 0, 1) := by decide +kernel
theorem dX3_come_6 : decode cX3_come 6 = .ok (.getfield 35, 3) := by decide +kernel
theorem dX3_come_9 : decode cX3_come 9 = .ok (.bipush 6, 2) := by decide +kernel
theorem dX3_come_11 : decode cX3_come 11 = .ok (.if_icmp .ne 9, 3) := by decide +kernel
theorem dX3_come_14 : decode cX3_come 14 = .ok (.aload_n 0, 1) := by decide +kernel
theorem dX3_come_15 : decode cX3_come 15 = .ok (.iconst 1, 1) := by decide +kernel
theorem dX3_come_16 : decode cX3_come 16 = .ok (.invokevirtual 60, 3) := by decide +kernel
theorem dX3_come_19 : decode cX3_come 19 = .ok (.ireturn, 1) := by decide +kernel
theorem dX3_come_20 : decode cX3_come 20 = .ok (.aload_n 0, 1) := by decide +kernel
theorem dX3_come_21 : decode cX3_come 21 = .ok (.dup, 1) := by decide +kernel
theorem dX3_come_22 : decode cX3_come 22 = .ok (.getfield 35, 3) := by decide +kernel
theorem dX3_come_25 : decode cX3_come 25 = .ok (.iconst 1, 1) := by decide +kernel
theorem dX3_come_26 : decode cX3_come 26 = .ok (.iadd, 1) := by decide +kernel
theorem dX3_come_27 : decode cX3_come 27 = .ok (.putfield 35, 3) := by decide +kernel
theorem dX3_come_30 : decode cX3_come 30 = .ok (.aload_n 0, 1) := by decide +kernel
theorem dX3_come_31 : decode cX3_come 31 = .ok (.getfield 35, 3) := by decide +kernel
theorem dX3_come_34 : decode cX3_come 34 = .ok (.iconst 1, 1) := by decide +kernel
theorem dX3_come_35 : decode cX3_come 35 = .ok (.isub, 1) := by decide +kernel
theorem dX3_come_36 : decode cX3_come 36 = .ok (.ireturn, 1) := by decide +kernel
set_option maxRecDepth 20000 in
theorem ggX3_lay_X3_th : GoodIn wsX3_lay wsX3_th := goodIn_r _ [7, 1, 8, 9, 10, 11, 12, 13, 14, 15, 16, 17, 18] (by decide +kernel) (by decide +kernel)
set_option maxRecDepth 20000 in
theorem gX3_lay_X3_th : GoodIn wsX3_lay (wsV RX3 45 RX3 yX3_th wsX3_th) := goodIn_app (goodIn_of _ (by decide +kernel)) ggX3_lay_X3_th
theorem dX3_lay_0 : decode cX3_lay 0 = .ok (.aload_n 0, 1) := by decide +kernel
theorem dX3_lay_1 : decode cX3_lay 1 = .ok (.iload_n 1, 1) := by decide +kernel
theorem dX3_lay_2 : decode cX3_lay 2 = .ok (.iload_n 2, 1) := by decide +kernel
theorem dX3_lay_3 : decode cX3_lay 3 = .ok (.invokevirtual 45, 3) := by decide +kernel
theorem dX3_lay_6 : decode cX3_lay 6 = .ok (.iload_n 3, 1) := by decide +kernel
theorem dX3_lay_7 : decode cX3_lay 7 = .ok (.if_icmp .ne 5, 3) := by decide +kernel
theorem dX3_lay_10 : decode cX3_lay 10 = .ok (.iconst 0, 1) := by decide +kernel
theorem dX3_lay_11 : decode cX3_lay 11 = .ok (.ireturn, 1) := by decide +kernel
theorem dX3_lay_12 : decode cX3_lay 12 = .ok (.aload_n 0, 1) := by decide +kernel
theorem dX3_lay_13 : decode cX3_lay 13 = .ok (.getfield 9, 3) := by decide +kernel
theorem dX3_lay_16 : decode cX3_lay 16 = .ok (.bipush 16, 2) := by decide +kernel
theorem dX3_lay_18 : decode cX3_lay 18 = .ok (.iload_n 1, 1) := by decide +kernel
theorem dX3_lay_19 : decode cX3_lay 19 = .ok (.imul, 1) := by decide +kernel
theorem dX3_lay_20 : decode cX3_lay 20 = .ok (.iload_n 2, 1) := by decide +kernel
theorem dX3_lay_21 : decode cX3_lay 21 = .ok (.iadd, 1) := by decide +kernel
theorem dX3_lay_22 : decode cX3_lay 22 = .ok (.iload_n 3, 1) := by decide +kernel
theorem dX3_lay_23 : decode cX3_lay 23 = .ok (.iastore, 1) := by decide +kernel
theorem dX3_lay_24 : decode cX3_lay 24 = .ok (.aload_n 0, 1) := by decide +kernel
theorem dX3_lay_25 : decode cX3_lay 25 = .ok (.getfield 13, 3) := by decide +kernel
theorem dX3_lay_28 : decode cX3_lay 28 = .ok (.iload_n 1, 1) := by decide +kernel
theorem dX3_lay_29 : decode cX3_lay 29 = .ok (.dup2, 1) := by decide +kernel
theorem dX3_lay_30 : decode cX3_lay 30 = .ok (.iaload, 1) := by decide +kernel
theorem dX3_lay_31 : decode cX3_lay 31 = .ok (.iconst 1, 1) := by decide +kernel
theorem dX3_lay_32 : decode cX3_lay 32 = .ok (.iadd, 1) := by decide +kernel
theorem dX3_lay_33 : decode cX3_lay 33 = .ok (.iastore, 1) := by decide +kernel
theorem dX3_lay_34 : decode cX3_lay 34 = .ok (.iconst 1, 1) := by decide +kernel
theorem dX3_lay_35 : decode cX3_lay 35 = .ok (.ireturn, 1) := by decide +kernel
set_option maxRecDepth 20000 in
theorem ggX3_put_X3_isCupboard : GoodIn wsX3_put wsX3_isCupboard := goodIn_r _ [6, 7, 8, 9, 5, 10, 28, 29, 30, 31, 32, 33, 34, 35, 36, 37, 38] (by decide +kernel) (by decide +kernel)
set_option maxRecDepth 20000 in
theorem gX3_put_X3_isCupboard : GoodIn wsX3_put (wsV RX3 64 RX3 yX3_isCupboard wsX3_isCupboard) := goodIn_app (goodIn_of _ (by decide +kernel)) ggX3_put_X3_isCupboard
set_option maxRecDepth 20000 in
theorem ggX3_put_X3_isDrawer : GoodIn wsX3_put wsX3_isDrawer := goodIn_r _ [13, 8, 9, 5, 10] (by decide +kernel) (by decide +kernel)
set_option maxRecDepth 20000 in
theorem gX3_put_X3_isDrawer : GoodIn wsX3_put (va_wsS RX3 68 yX3_isDrawer wsX3_isDrawer) := goodIn_app (goodIn_of _ (by decide +kernel)) ggX3_put_X3_isDrawer
set_option maxRecDepth 20000 in
theorem ggX3_put_X3_fail : GoodIn wsX3_put wsX3_fail := goodIn_r _ [17, 1, 28, 29, 30, 31, 32, 33, 34, 35, 36, 37, 38] (by decide +kernel) (by decide +kernel)
set_option maxRecDepth 20000 in
theorem gX3_put_X3_fail : GoodIn wsX3_put (wsV RX3 60 RX3 yX3_fail wsX3_fail) := goodIn_app (goodIn_of _ (by decide +kernel)) ggX3_put_X3_fail
set_option maxRecDepth 20000 in
theorem ggX3_put_X3_isIn : GoodIn wsX3_put wsX3_isIn := goodIn_r _ [10] (by decide +kernel) (by decide +kernel)
set_option maxRecDepth 20000 in
theorem gX3_put_X3_isIn : GoodIn wsX3_put (va_wsS RX3 38 yX3_isIn wsX3_isIn) := goodIn_app (goodIn_of _ (by decide +kernel)) ggX3_put_X3_isIn
set_option maxRecDepth 20000 in
theorem ggX3_put_X3_th : GoodIn wsX3_put wsX3_th := goodIn_r _ [21, 22, 28, 29, 30, 31, 32, 33, 34, 35, 36, 37, 38] (by decide +kernel) (by decide +kernel)
set_option maxRecDepth 20000 in
theorem gX3_put_X3_th : GoodIn wsX3_put (wsV RX3 45 RX3 yX3_th wsX3_th) := goodIn_app (goodIn_of _ (by decide +kernel)) ggX3_put_X3_th
set_option maxRecDepth 20000 in
theorem ggX3_put_X3_lay : GoodIn wsX3_put wsX3_lay := goodIn_r _ [26, 22, 27, 18, 19, 20, 5, 21, 28, 29, 30, 31, 32, 33, 34, 35, 36, 37, 38] (by decide +kernel) (by decide +kernel)
set_option maxRecDepth 20000 in
theorem gX3_put_X3_lay : GoodIn wsX3_put (wsV RX3 71 RX3 yX3_lay wsX3_lay) := goodIn_app (goodIn_of _ (by decide +kernel)) ggX3_put_X3_lay
theorem dX3_put_0 : decode cX3_put 0 = .ok (.aload_n 0, 1) := by decide +kernel
theorem dX3_put_1 : decode cX3_put 1 = .ok (.iconst 0, 1) := by decide +kernel
theorem dX3_put_2 : decode cX3_put 2 = .ok (.putfield 31, 3) := by decide +kernel
theorem dX3_put_5 : decode cX3_put 5 = .ok (.aload_n 0, 1) := by decide +kernel
theorem dX3_put_6 : decode cX3_put 6 = .ok (.iload_n 1, 1) := by decide +kernel
theorem dX3_put_7 : decode cX3_put 7 = .ok (.invokevirtual 64, 3) := by decide +kernel
theorem dX3_put_10 : decode cX3_put 10 = .ok (.ifCond .eq 10, 3) := by decide +kernel
theorem dX3_put_13 : decode cX3_put 13 = .ok (.iload_n 2, 1) := by decide +kernel
theorem dX3_put_14 : decode cX3_put 14 = .ok (.invokestatic 68, 3) := by decide +kernel
theorem dX3_put_17 : decode cX3_put 17 = .ok (.ifCond .ne 9, 3) := by decide +kernel
theorem dX3_put_20 : decode cX3_put 20 = .ok (.aload_n 0, 1) := by decide +kernel
theorem dX3_put_21 : decode cX3_put 21 = .ok (.iconst 1, 1) := by decide +kernel
theorem dX3_put_22 : decode cX3_put 22 = .ok (.invokevirtual 60, 3) := by decide +kernel
theorem dX3_put_25 : decode cX3_put 25 = .ok (.ireturn, 1) := by decide +kernel
theorem dX3_put_26 : decode cX3_put 26 = .ok (.iload_n 3, 1) := by decide +kernel
theorem dX3_put_27 : decode cX3_put 27 = .ok (.iconst 0, 1) := by decide +kernel
theorem dX3_put_28 : decode cX3_put 28 = .ok (.sipush 9999, 3) := by decide +kernel
theorem dX3_put_31 : decode cX3_put 31 = .ok (.invokestatic 38, 3) := by decide +kernel
theorem dX3_put_34 : decode cX3_put 34 = .ok (.ifCond .ne 9, 3) := by decide +kernel
theorem dX3_put_37 : decode cX3_put 37 = .ok (.aload_n 0, 1) := by decide +kernel
theorem dX3_put_38 : decode cX3_put 38 = .ok (.iconst 2, 1) := by decide +kernel
theorem dX3_put_39 : decode cX3_put 39 = .ok (.invokevirtual 60, 3) := by decide +kernel
theorem dX3_put_42 : decode cX3_put 42 = .ok (.ireturn, 1) := by decide +kernel
theorem dX3_put_43 : decode cX3_put 43 = .ok (.aload_n 0, 1) := by decide +kernel
theorem dX3_put_44 : decode cX3_put 44 = .ok (.iload_n 1, 1) := by decide +kernel
theorem dX3_put_45 : decode cX3_put 45 = .ok (.iload_n 2, 1) := by decide +kernel
theorem dX3_put_46 : decode cX3_put 46 = .ok (.invokevirtual 45, 3) := by decide +kernel
theorem dX3_put_49 : decode cX3_put 49 = .ok (.istore 4, 2) := by decide +kernel
theorem dX3_put_51 : decode cX3_put 51 = .ok (.aload_n 0, 1) := by decide +kernel
theorem dX3_put_52 : decode cX3_put 52 = .ok (.iload_n 1, 1) := by decide +kernel
theorem dX3_put_53 : decode cX3_put 53 = .ok (.iload_n 2, 1) := by decide +kernel
theorem dX3_put_54 : decode cX3_put 54 = .ok (.iload_n 3, 1) := by decide +kernel
theorem dX3_put_55 : decode cX3_put 55 = .ok (.invokevirtual 71, 3) := by decide +kernel
theorem dX3_put_58 : decode cX3_put 58 = .ok (.pop, 1) := by decide +kernel
theorem dX3_put_59 : decode cX3_put 59 = .ok (.iload 4, 2) := by decide +kernel
theorem dX3_put_61 : decode cX3_put 61 = .ok (.ireturn, 1) := by decide +kernel
set_option maxRecDepth 20000 in
theorem ggX3_exchange_X3_th : GoodIn wsX3_exchange wsX3_th := goodIn_r _ [6, 1, 7, 8, 9, 10, 11, 12, 13, 14, 15, 16, 17] (by decide +kernel) (by decide +kernel)
set_option maxRecDepth 20000 in
theorem gX3_exchange_X3_th : GoodIn wsX3_exchange (wsV RX3 45 RX3 yX3_th wsX3_th) := goodIn_app (goodIn_of _ (by decide +kernel)) ggX3_exchange_X3_th
theorem dX3_exchange_0 : decode cX3_exchange 0 = .ok (.aload_n 0, 1) := by decide +kernel
theorem dX3_exchange_1 : decode cX3_exchange 1 = .ok (.iload_n 1, 1) := by decide +kernel
theorem dX3_exchange_2 : decode cX3_exchange 2 = .ok (.iload_n 2, 1) := by decide +kernel
theorem dX3_exchange_3 : decode cX3_exchange 3 = .ok (.invokevirtual 45, 3) := by decide +kernel
theorem dX3_exchange_6 : decode cX3_exchange 6 = .ok (.istore 4, 2) := by decide +kernel
theorem dX3_exchange_8 : decode cX3_exchange 8 = .ok (.aload_n 0, 1) := by decide +kernel
theorem dX3_exchange_9 : decode cX3_exchange 9 = .ok (.getfield 9, 3) := by decide +kernel
theorem dX3_exchange_12 : decode cX3_exchange 12 = .ok (.bipush 16, 2) := by decide +kernel
theorem dX3_exchange_14 : decode cX3_exchange 14 = .ok (.iload_n 1, 1) := by decide +kernel
theorem dX3_exchange_15 : decode cX3_exchange 15 = .ok (.imul, 1) := by decide +kernel
theorem dX3_exchange_16 : decode cX3_exchange 16 = .ok (.iload_n 2, 1) := by decide +kernel
theorem dX3_exchange_17 : decode cX3_exchange 17 = .ok (.iadd, 1) := by decide +kernel
theorem dX3_exchange_18 : decode cX3_exchange 18 = .ok (.aload_n 0, 1) := by decide +kernel
theorem dX3_exchange_19 : decode cX3_exchange 19 = .ok (.iload_n 1, 1) := by decide +kernel
theorem dX3_exchange_20 : decode cX3_exchange 20 = .ok (.iload_n 3, 1) := by decide +kernel
theorem dX3_exchange_21 : decode cX3_exchange 21 = .ok (.invokevirtual 45, 3) := by decide +kernel
theorem dX3_exchange_24 : decode cX3_exchange 24 = .ok (.iastore, 1) := by decide +kernel
theorem dX3_exchange_25 : decode cX3_exchange 25 = .ok (.aload_n 0, 1) := by decide +kernel
theorem dX3_exchange_26 : decode cX3_exchange 26 = .ok (.getfield 9, 3) := by decide +kernel
theorem dX3_exchange_29 : decode cX3_exchange 29 = .ok (.bipush 16, 2) := by decide +kernel
theorem dX3_exchange_31 : decode cX3_exchange 31 = .ok (.iload_n 1, 1) := by decide +kernel
theorem dX3_exchange_32 : decode cX3_exchange 32 = .ok (.imul, 1) := by decide +kernel
theorem dX3_exchange_33 : decode cX3_exchange 33 = .ok (.iload_n 3, 1) := by decide +kernel
theorem dX3_exchange_34 : decode cX3_exchange 34 = .ok (.iadd, 1) := by decide +kernel
theorem dX3_exchange_35 : decode cX3_exchange 35 = .ok (.iload 4, 2) := by decide +kernel
theorem dX3_exchange_37 : decode cX3_exchange 37 = .ok (.iastore, 1) := by decide +kernel
theorem dX3_exchange_38 : decode cX3_exchange 38 = .ok (.return_, 1) := by decide +kernel
set_option maxRecDepth 20000 in
theorem ggX3_swap_X3_isCupboard : GoodIn wsX3_swap wsX3_isCupboard := goodIn_r _ [9, 10, 11, 12, 8, 13, 40, 41, 42, 43, 44, 45, 46, 47, 48, 49, 50] (by decide +kernel) (by decide +kernel)
set_option maxRecDepth 20000 in
theorem gX3_swap_X3_isCupboard : GoodIn wsX3_swap (wsV RX3 64 RX3 yX3_isCupboard wsX3_isCupboard) := goodIn_app (goodIn_of _ (by decide +kernel)) ggX3_swap_X3_isCupboard
set_option maxRecDepth 20000 in
theorem ggX3_swap_X3_isDrawer : GoodIn wsX3_swap wsX3_isDrawer := goodIn_r _ [16, 11, 12, 8, 13] (by decide +kernel) (by decide +kernel)
set_option maxRecDepth 20000 in
theorem gX3_swap_X3_isDrawer : GoodIn wsX3_swap (va_wsS RX3 68 yX3_isDrawer wsX3_isDrawer) := goodIn_app (goodIn_of _ (by decide +kernel)) ggX3_swap_X3_isDrawer
set_option maxRecDepth 20000 in
theorem ggX3_swap_X3_fail : GoodIn wsX3_swap wsX3_fail := goodIn_r _ [20, 1, 40, 41, 42, 43, 44, 45, 46, 47, 48, 49, 50] (by decide +kernel) (by decide +kernel)
set_option maxRecDepth 20000 in
theorem gX3_swap_X3_fail : GoodIn wsX3_swap (wsV RX3 60 RX3 yX3_fail wsX3_fail) := goodIn_app (goodIn_of _ (by decide +kernel)) ggX3_swap_X3_fail
set_option maxRecDepth 20000 in
theorem ggX3_swap_X3_reckon : GoodIn wsX3_swap wsX3_reckon := goodIn_r _ [24, 25, 26, 27, 8, 28, 29, 30, 31, 32, 33, 34, 35, 40, 41, 42, 43, 44, 45, 46, 47, 48, 49, 50] (by decide +kernel) (by decide +kernel)
set_option maxRecDepth 20000 in
theorem gX3_swap_X3_reckon : GoodIn wsX3_swap (wsV RX3 56 RX3 yX3_reckon wsX3_reckon) := goodIn_app (goodIn_of _ (by decide +kernel)) ggX3_swap_X3_reckon
set_option maxRecDepth 20000 in
theorem ggX3_swap_X3_th : GoodIn wsX3_swap wsX3_th := goodIn_r _ [28, 29, 40, 41, 42, 43, 44, 45, 46, 47, 48, 49, 50] (by decide +kernel) (by decide +kernel)
set_option maxRecDepth 20000 in
theorem gX3_swap_X3_th : GoodIn wsX3_swap (wsV RX3 45 RX3 yX3_th wsX3_th) := goodIn_app (goodIn_of _ (by decide +kernel)) ggX3_swap_X3_th
set_option maxRecDepth 20000 in
theorem ggX3_swap_X3_exchange : GoodIn wsX3_swap wsX3_exchange := goodIn_r _ [39, 29, 25, 26, 27, 8, 28, 40, 41, 42, 43, 44, 45, 46, 47, 48, 49, 50] (by decide +kernel) (by decide +kernel)
set_option maxRecDepth 20000 in
theorem gX3_swap_X3_exchange : GoodIn wsX3_swap (wsV RX3 74 RX3 yX3_exchange wsX3_exchange) := goodIn_app (goodIn_of _ (by decide +kernel)) ggX3_swap_X3_exchange
theorem dX3_swap_0 : decode cX3_swap 0 = .ok (.aload_n 0, 1) := by decide +kernel
theorem dX3_swap_1 : decode cX3_swap 1 = .ok (.iconst 0, 1) := by decide +kernel
theorem dX3_swap_2 : decode cX3_swap 2 = .ok (.putfield 31, 3) := by decide +kernel
theorem dX3_swap_5 : decode cX3_swap 5 = .ok (.aload_n 0, 1) := by decide +kernel
theorem dX3_swap_6 : decode cX3_swap 6 = .ok (.iload_n 1, 1) := by decide +kernel
theorem dX3_swap_7 : decode cX3_swap 7 = .ok (.invokevirtual 64, 3) := by decide +kernel
theorem dX3_swap_10 : decode cX3_swap 10 = .ok (.ifCond .eq 17, 3) := by decide +kernel
theorem dX3_swap_13 : decode cX3_swap 13 = .ok (.iload_n 2, 1) := by decide +kernel
theorem dX3_swap_14 : decode cX3_swap 14 = .ok (.invokestatic 68, 3) := by decide +kernel
theorem dX3_swap_17 : decode cX3_swap 17 = .ok (.ifCond .eq 10, 3) := by decide +kernel
theorem dX3_swap_20 : decode cX3_swap 20 = .ok (.iload_n 3, 1) := by decide +kernel
theorem dX3_swap_21 : decode cX3_swap 21 = .ok (.invokestatic 68, 3) := by decide +kernel
theorem dX3_swap_24 : decode cX3_swap 24 = .ok (.ifCond .ne 9, 3) := by decide +kernel
theorem dX3_swap_27 : decode cX3_swap 27 = .ok (.aload_n 0, 1) := by decide +kernel
theorem dX3_swap_28 : decode cX3_swap 28 = .ok (.iconst 1, 1) := by decide +kernel
theorem dX3_swap_29 : decode cX3_swap 29 = .ok (.invokevirtual 60, 3) := by decide +kernel
theorem dX3_swap_32 : decode cX3_swap 32 = .ok (.ireturn, 1) := by decide +kernel
theorem dX3_swap_33 : decode cX3_swap 33 = .ok (.aload_n 0, 1) := by decide +kernel
theorem dX3_swap_34 : decode cX3_swap 34 = .ok (.iload_n 1, 1) := by decide +kernel
theorem dX3_swap_35 : decode cX3_swap 35 = .ok (.aload_n 0, 1) := by decide +kernel
theorem dX3_swap_36 : decode cX3_swap 36 = .ok (.getfield 28, 3) := by decide +kernel
theorem dX3_swap_39 : decode cX3_swap 39 = .ok (.invokevirtual 56, 3) := by decide +kernel
theorem dX3_swap_42 : decode cX3_swap 42 = .ok (.aload_n 0, 1) := by decide +kernel
theorem dX3_swap_43 : decode cX3_swap 43 = .ok (.iload_n 1, 1) := by decide +kernel
theorem dX3_swap_44 : decode cX3_swap 44 = .ok (.iload_n 2, 1) := by decide +kernel
theorem dX3_swap_45 : decode cX3_swap 45 = .ok (.invokevirtual 45, 3) := by decide +kernel
theorem dX3_swap_48 : decode cX3_swap 48 = .ok (.aload_n 0, 1) := by decide +kernel
theorem dX3_swap_49 : decode cX3_swap 49 = .ok (.iload_n 1, 1) := by decide +kernel
theorem dX3_swap_50 : decode cX3_swap 50 = .ok (.iload_n 3, 1) := by decide +kernel
theorem dX3_swap_51 : decode cX3_swap 51 = .ok (.invokevirtual 45, 3) := by decide +kernel
theorem dX3_swap_54 : decode cX3_swap 54 = .ok (.if_icmp .eq 13, 3) := by decide +kernel
theorem dX3_swap_57 : decode cX3_swap 57 = .ok (.aload_n 0, 1) := by decide +kernel
theorem dX3_swap_58 : decode cX3_swap 58 = .ok (.getfield 13, 3) := by decide +kernel
theorem dX3_swap_61 : decode cX3_swap 61 = .ok (.iload_n 1, 1) := by decide +kernel
theorem dX3_swap_62 : decode cX3_swap 62 = .ok (.dup2, 1) := by decide +kernel
theorem dX3_swap_63 : decode cX3_swap 63 = .ok (.iaload, 1) := by decide +kernel
theorem dX3_swap_64 : decode cX3_swap 64 = .ok (.iconst 2, 1) := by decide +kernel
theorem dX3_swap_65 : decode cX3_swap 65 = .ok (.iadd, 1) := by decide +kernel
theorem dX3_swap_66 : decode cX3_swap 66 = .ok (.iastore, 1) := by decide +kernel
theorem dX3_swap_67 : decode cX3_swap 67 = .ok (.aload_n 0, 1) := by decide +kernel
theorem dX3_swap_68 : decode cX3_swap 68 = .ok (.iload_n 1, 1) := by decide +kernel
theorem dX3_swap_69 : decode cX3_swap 69 = .ok (.iload_n 2, 1) := by decide +kernel
theorem dX3_swap_70 : decode cX3_swap 70 = .ok (.iload_n 3, 1) := by decide +kernel
theorem dX3_swap_71 : decode cX3_swap 71 = .ok (.invokevirtual 74, 3) := by decide +kernel
theorem dX3_swap_74 : decode cX3_swap 74 = .ok (.aload_n 0, 1) := by decide +kernel
theorem dX3_swap_75 : decode cX3_swap 75 = .ok (.iload_n 1, 1) := by decide +kernel
theorem dX3_swap_76 : decode cX3_swap 76 = .ok (.aload_n 0, 1) := by decide +kernel
theorem dX3_swap_77 : decode cX3_swap 77 = .ok (.getfield 25, 3) := by decide +kernel
theorem dX3_swap_80 : decode cX3_swap 80 = .ok (.invokevirtual 56, 3) := by decide +kernel
theorem dX3_swap_83 : decode cX3_swap 83 = .ok (.iconst 0, 1) := by decide +kernel
theorem dX3_swap_84 : decode cX3_swap 84 = .ok (.istore 4, 2) := by decide +kernel
theorem dX3_swap_86 : decode cX3_swap 86 = .ok (.iconst 1, 1) := by decide +kernel
theorem dX3_swap_87 : decode cX3_swap 87 = .ok (.istore 5, 2) := by decide +kernel
theorem dX3_swap_89 : decode cX3_swap 89 = .ok (.iload 5, 2) := by decide +kernel
theorem dX3_swap_91 : decode cX3_swap 91 = .ok (.bipush 32, 2) := by decide +kernel
theorem dX3_swap_93 : decode cX3_swap 93 = .ok (.if_icmp .ge 36, 3) := by decide +kernel
theorem dX3_swap_96 : decode cX3_swap 96 = .ok (.iload 4, 2) := by decide +kernel
theorem dX3_swap_98 : decode cX3_swap 98 = .ok (.aload_n 0, 1) := by decide +kernel
theorem dX3_swap_99 : decode cX3_swap 99 = .ok (.getfield 25, 3) := by decide +kernel
theorem dX3_swap_102 : decode cX3_swap 102 = .ok (.iload 5, 2) := by decide +kernel
theorem dX3_swap_104 : decode cX3_swap 104 = .ok (.iaload, 1) := by decide +kernel
theorem dX3_swap_105 : decode cX3_swap 105 = .ok (.aload_n 0, 1) := by decide +kernel
theorem dX3_swap_106 : decode cX3_swap 106 = .ok (.getfield 28, 3) := by decide +kernel
theorem dX3_swap_109 : decode cX3_swap 109 = .ok (.iload 5, 2) := by decide +kernel
theorem dX3_swap_111 : decode cX3_swap 111 = .ok (.iaload, 1) := by decide +kernel
theorem dX3_swap_112 : decode cX3_swap 112 = .ok (.if_icmp .ne 7, 3) := by decide +kernel
theorem dX3_swap_115 : decode cX3_swap 115 = .ok (.iconst 0, 1) := by decide +kernel
theorem dX3_swap_116 : decode cX3_swap 116 = .ok (.goto 4, 3) := by decide +kernel
theorem dX3_swap_119 : decode cX3_swap 119 = .ok (.iconst 1, 1) := by decide +kernel
theorem dX3_swap_120 : decode cX3_swap 120 = .ok (.iadd, 1) := by decide +kernel
theorem dX3_swap_121 : decode cX3_swap 121 = .ok (.istore 4, 2) := by decide +kernel
theorem dX3_swap_123 : decode cX3_swap 123 = .ok (.iinc 5 1, 3) := by decide +kernel
theorem dX3_swap_126 : decode cX3_swap 126 = .ok (.goto (-37), 3) := by decide +kernel
theorem dX3_swap_129 : decode cX3_swap 129 = .ok (.iload 4, 2) := by decide +kernel
theorem dX3_swap_131 : decode cX3_swap 131 = .ok (.ireturn, 1) := by decide +kernel
set_option maxRecDepth 20000 in
theorem ggX3_sum_X3_isCupboard : GoodIn wsX3_sum wsX3_isCupboard := goodIn_r _ [7, 8, 9, 10, 6, 11, 31, 32, 33, 34, 35, 36, 37, 38, 39, 40, 41] (by decide +kernel) (by decide +kernel)
set_option maxRecDepth 20000 in
theorem gX3_sum_X3_isCupboard : GoodIn wsX3_sum (wsV RX3 64 RX3 yX3_isCupboard wsX3_isCupboard) := goodIn_app (goodIn_of _ (by decide +kernel)) ggX3_sum_X3_isCupboard
set_option maxRecDepth 20000 in
theorem ggX3_sum_X3_isIn : GoodIn wsX3_sum wsX3_isIn := goodIn_r _ [11] (by decide +kernel) (by decide +kernel)
set_option maxRecDepth 20000 in
theorem gX3_sum_X3_isIn : GoodIn wsX3_sum (va_wsS RX3 38 yX3_isIn wsX3_isIn) := goodIn_app (goodIn_of _ (by decide +kernel)) ggX3_sum_X3_isIn
set_option maxRecDepth 20000 in
theorem ggX3_sum_X3_fail : GoodIn wsX3_sum wsX3_fail := goodIn_r _ [15, 1, 31, 32, 33, 34, 35, 36, 37, 38, 39, 40, 41] (by decide +kernel) (by decide +kernel)
set_option maxRecDepth 20000 in
theorem gX3_sum_X3_fail : GoodIn wsX3_sum (wsV RX3 60 RX3 yX3_fail wsX3_fail) := goodIn_app (goodIn_of _ (by decide +kernel)) ggX3_sum_X3_fail
set_option maxRecDepth 20000 in
theorem ggX3_sum_X3_reckon : GoodIn wsX3_sum wsX3_reckon := goodIn_r _ [19, 20, 21, 22, 6, 23, 24, 25, 26, 27, 28, 29, 30, 31, 32, 33, 34, 35, 36, 37, 38, 39, 40, 41] (by decide +kernel) (by decide +kernel)
set_option maxRecDepth 20000 in
theorem gX3_sum_X3_reckon : GoodIn wsX3_sum (wsV RX3 56 RX3 yX3_reckon wsX3_reckon) := goodIn_app (goodIn_of _ (by decide +kernel)) ggX3_sum_X3_reckon
theorem dX3_sum_0 : decode cX3_sum 0 = .ok (.aload_n 0, 1) := by decide +kernel
theorem dX3_sum_1 : decode cX3_sum 1 = .ok (.iconst 0, 1) := by decide +kernel
theorem dX3_sum_2 : decode cX3_sum 2 = .ok (.putfield 31, 3) := by decide +kernel
theorem dX3_sum_5 : decode cX3_sum 5 = .ok (.aload_n 0, 1) := by decide +kernel
theorem dX3_sum_6 : decode cX3_sum 6 = .ok (.iload_n 1, 1) := by decide +kernel
theorem dX3_sum_7 : decode cX3_sum 7 = .ok (.invokevirtual 64, 3) := by decide +kernel
theorem dX3_sum_10 : decode cX3_sum 10 = .ok (.ifCond .eq 13, 3) := by decide +kernel
theorem dX3_sum_13 : decode cX3_sum 13 = .ok (.iload_n 2, 1) := by decide +kernel
theorem dX3_sum_14 : decode cX3_sum 14 = .ok (.iconst 1, 1) := by decide +kernel
theorem dX3_sum_15 : decode cX3_sum 15 = .ok (.bipush 31, 2) := by decide +kernel
theorem dX3_sum_17 : decode cX3_sum 17 = .ok (.invokestatic 38, 3) := by decide +kernel
theorem dX3_sum_20 : decode cX3_sum 20 = .ok (.ifCond .ne 9, 3) := by decide +kernel
theorem dX3_sum_23 : decode cX3_sum 23 = .ok (.aload_n 0, 1) := by decide +kernel
theorem dX3_sum_24 : decode cX3_sum 24 = .ok (.iconst 1, 1) := by decide +kernel
theorem dX3_sum_25 : decode cX3_sum 25 = .ok (.invokevirtual 60, 3) := by decide +kernel
theorem dX3_sum_28 : decode cX3_sum 28 = .ok (.ireturn, 1) := by decide +kernel
theorem dX3_sum_29 : decode cX3_sum 29 = .ok (.aload_n 0, 1) := by decide +kernel
theorem dX3_sum_30 : decode cX3_sum 30 = .ok (.iload_n 1, 1) := by decide +kernel
theorem dX3_sum_31 : decode cX3_sum 31 = .ok (.aload_n 0, 1) := by decide +kernel
theorem dX3_sum_32 : decode cX3_sum 32 = .ok (.getfield 25, 3) := by decide +kernel
theorem dX3_sum_35 : decode cX3_sum 35 = .ok (.invokevirtual 56, 3) := by decide +kernel
theorem dX3_sum_38 : decode cX3_sum 38 = .ok (.aload_n 0, 1) := by decide +kernel
theorem dX3_sum_39 : decode cX3_sum 39 = .ok (.getfield 25, 3) := by decide +kernel
theorem dX3_sum_42 : decode cX3_sum 42 = .ok (.iload_n 2, 1) := by decide +kernel
theorem dX3_sum_43 : decode cX3_sum 43 = .ok (.iaload, 1) := by decide +kernel
theorem dX3_sum_44 : decode cX3_sum 44 = .ok (.ireturn, 1) := by decide +kernel
set_option maxRecDepth 20000 in
theorem ggX3_toldOf_X3_root : GoodIn wsX3_toldOf wsX3_root := goodIn_r _ [9, 10, 11, 12, 13, 8, 14, 15, 16, 17, 18, 19, 20, 21, 22, 23, 24, 25, 26, 27, 28, 29, 30, 31, 32, 33, 34, 35, 36] (by decide +kernel) (by decide +kernel)
set_option maxRecDepth 20000 in
theorem gX3_toldOf_X3_root : GoodIn wsX3_toldOf (wsV RX3 78 RX3 yX3_root wsX3_root) := goodIn_app (goodIn_of _ (by decide +kernel)) ggX3_toldOf_X3_root
set_option maxRecDepth 20000 in
theorem ggX3_toldOf_X3_th : GoodIn wsX3_toldOf wsX3_th := goodIn_r _ [18, 19, 26, 27, 28, 29, 30, 31, 32, 33, 34, 35, 36] (by decide +kernel) (by decide +kernel)
set_option maxRecDepth 20000 in
theorem gX3_toldOf_X3_th : GoodIn wsX3_toldOf (wsV RX3 45 RX3 yX3_th wsX3_th) := goodIn_app (goodIn_of _ (by decide +kernel)) ggX3_toldOf_X3_th
theorem dX3_toldOf_0 : decode cX3_toldOf 0 = .ok (.iconst 0, 1) := by decide +kernel
theorem dX3_toldOf_1 : decode cX3_toldOf 1 = .ok (.istore_n 3, 1) := by decide +kernel
theorem dX3_toldOf_2 : decode cX3_toldOf 2 = .ok (.iload_n 2, 1) := by decide +kernel
theorem dX3_toldOf_3 : decode cX3_toldOf 3 = .ok (.tableswitch 149 0 4 #[33, 39, 46, 82, 110], 33) := by decide +kernel
theorem dX3_toldOf_36 : decode cX3_toldOf 36 = .ok (.aload_n 0, 1) := by decide +kernel
theorem dX3_toldOf_37 : decode cX3_toldOf 37 = .ok (.iload_n 1, 1) := by decide +kernel
theorem dX3_toldOf_38 : decode cX3_toldOf 38 = .ok (.invokevirtual 78, 3) := by decide +kernel
theorem dX3_toldOf_41 : decode cX3_toldOf 41 = .ok (.ireturn, 1) := by decide +kernel
theorem dX3_toldOf_42 : decode cX3_toldOf 42 = .ok (.aload_n 0, 1) := by decide +kernel
theorem dX3_toldOf_43 : decode cX3_toldOf 43 = .ok (.getfield 13, 3) := by decide +kernel
theorem dX3_toldOf_46 : decode cX3_toldOf 46 = .ok (.iload_n 1, 1) := by decide +kernel
theorem dX3_toldOf_47 : decode cX3_toldOf 47 = .ok (.iaload, 1) := by decide +kernel
theorem dX3_toldOf_48 : decode cX3_toldOf 48 = .ok (.ireturn, 1) := by decide +kernel
theorem dX3_toldOf_49 : decode cX3_toldOf 49 = .ok (.iconst 0, 1) := by decide +kernel
theorem dX3_toldOf_50 : decode cX3_toldOf 50 = .ok (.istore 4, 2) := by decide +kernel
theorem dX3_toldOf_52 : decode cX3_toldOf 52 = .ok (.iload 4, 2) := by decide +kernel
theorem dX3_toldOf_54 : decode cX3_toldOf 54 = .ok (.bipush 16, 2) := by decide +kernel
theorem dX3_toldOf_56 : decode cX3_toldOf 56 = .ok (.if_icmp .ge 27, 3) := by decide +kernel
theorem dX3_toldOf_59 : decode cX3_toldOf 59 = .ok (.iload_n 3, 1) := by decide +kernel
theorem dX3_toldOf_60 : decode cX3_toldOf 60 = .ok (.aload_n 0, 1) := by decide +kernel
theorem dX3_toldOf_61 : decode cX3_toldOf 61 = .ok (.iload_n 1, 1) := by decide +kernel
theorem dX3_toldOf_62 : decode cX3_toldOf 62 = .ok (.iload 4, 2) := by decide +kernel
theorem dX3_toldOf_64 : decode cX3_toldOf 64 = .ok (.invokevirtual 45, 3) := by decide +kernel
theorem dX3_toldOf_67 : decode cX3_toldOf 67 = .ok (.ifCond .ne 7, 3) := by decide +kernel
theorem dX3_toldOf_70 : decode cX3_toldOf 70 = .ok (.iconst 0, 1) := by decide +kernel
theorem dX3_toldOf_71 : decode cX3_toldOf 71 = .ok (.goto 4, 3) := by decide +kernel
theorem dX3_toldOf_74 : decode cX3_toldOf 74 = .ok (.iconst 1, 1) := by decide +kernel
theorem dX3_toldOf_75 : decode cX3_toldOf 75 = .ok (.iadd, 1) := by decide +kernel
theorem dX3_toldOf_76 : decode cX3_toldOf 76 = .ok (.istore_n 3, 1) := by decide +kernel
theorem dX3_toldOf_77 : decode cX3_toldOf 77 = .ok (.iinc 4 1, 3) := by decide +kernel
theorem dX3_toldOf_80 : decode cX3_toldOf 80 = .ok (.goto (-28), 3) := by decide +kernel
theorem dX3_toldOf_83 : decode cX3_toldOf 83 = .ok (.iload_n 3, 1) := by decide +kernel
theorem dX3_toldOf_84 : decode cX3_toldOf 84 = .ok (.ireturn, 1) := by decide +kernel
theorem dX3_toldOf_85 : decode cX3_toldOf 85 = .ok (.iconst 0, 1) := by decide +kernel
theorem dX3_toldOf_86 : decode cX3_toldOf 86 = .ok (.istore 4, 2) := by decide +kernel
theorem dX3_toldOf_88 : decode cX3_toldOf 88 = .ok (.iload 4, 2) := by decide +kernel
theorem dX3_toldOf_90 : decode cX3_toldOf 90 = .ok (.bipush 16, 2) := by decide +kernel
theorem dX3_toldOf_92 : decode cX3_toldOf 92 = .ok (.if_icmp .ge 19, 3) := by decide +kernel
theorem dX3_toldOf_95 : decode cX3_toldOf 95 = .ok (.iload_n 3, 1) := by decide +kernel
theorem dX3_toldOf_96 : decode cX3_toldOf 96 = .ok (.aload_n 0, 1) := by decide +kernel
theorem dX3_toldOf_97 : decode cX3_toldOf 97 = .ok (.iload_n 1, 1) := by decide +kernel
theorem dX3_toldOf_98 : decode cX3_toldOf 98 = .ok (.iload 4, 2) := by decide +kernel
theorem dX3_toldOf_100 : decode cX3_toldOf 100 = .ok (.invokevirtual 45, 3) := by decide +kernel
theorem dX3_toldOf_103 : decode cX3_toldOf 103 = .ok (.iadd, 1) := by decide +kernel
theorem dX3_toldOf_104 : decode cX3_toldOf 104 = .ok (.istore_n 3, 1) := by decide +kernel
theorem dX3_toldOf_105 : decode cX3_toldOf 105 = .ok (.iinc 4 1, 3) := by decide +kernel
theorem dX3_toldOf_108 : decode cX3_toldOf 108 = .ok (.goto (-20), 3) := by decide +kernel
theorem dX3_toldOf_111 : decode cX3_toldOf 111 = .ok (.iload_n 3, 1) := by decide +kernel
theorem dX3_toldOf_112 : decode cX3_toldOf 112 = .ok (.ireturn, 1) := by decide +kernel
theorem dX3_toldOf_113 : decode cX3_toldOf 113 = .ok (.iconst 0, 1) := by decide +kernel
theorem dX3_toldOf_114 : decode cX3_toldOf 114 = .ok (.istore 4, 2) := by decide +kernel
theorem dX3_toldOf_116 : decode cX3_toldOf 116 = .ok (.iload 4, 2) := by decide +kernel
theorem dX3_toldOf_118 : decode cX3_toldOf 118 = .ok (.aload_n 0, 1) := by decide +kernel
theorem dX3_toldOf_119 : decode cX3_toldOf 119 = .ok (.getfield 42, 3) := by decide +kernel
theorem dX3_toldOf_122 : decode cX3_toldOf 122 = .ok (.if_icmp .ge 28, 3) := by decide +kernel
theorem dX3_toldOf_125 : decode cX3_toldOf 125 = .ok (.iload_n 3, 1) := by decide +kernel
theorem dX3_toldOf_126 : decode cX3_toldOf 126 = .ok (.aload_n 0, 1) := by decide +kernel
theorem dX3_toldOf_127 : decode cX3_toldOf 127 = .ok (.getfield 16, 3) := by decide +kernel
theorem dX3_toldOf_130 : decode cX3_toldOf 130 = .ok (.iload 4, 2) := by decide +kernel
theorem dX3_toldOf_132 : decode cX3_toldOf 132 = .ok (.iaload, 1) := by decide +kernel
theorem dX3_toldOf_133 : decode cX3_toldOf 133 = .ok (.iload_n 1, 1) := by decide +kernel
theorem dX3_toldOf_134 : decode cX3_toldOf 134 = .ok (.if_icmp .ne 7, 3) := by decide +kernel
theorem dX3_toldOf_137 : decode cX3_toldOf 137 = .ok (.iconst 1, 1) := by decide +kernel
theorem dX3_toldOf_138 : decode cX3_toldOf 138 = .ok (.goto 4, 3) := by decide +kernel
theorem dX3_toldOf_141 : decode cX3_toldOf 141 = .ok (.iconst 0, 1) := by decide +kernel
theorem dX3_toldOf_142 : decode cX3_toldOf 142 = .ok (.iadd, 1) := by decide +kernel
theorem dX3_toldOf_143 : decode cX3_toldOf 143 = .ok (.istore_n 3, 1) := by decide +kernel
theorem dX3_toldOf_144 : decode cX3_toldOf 144 = .ok (.iinc 4 1, 3) := by decide +kernel
theorem dX3_toldOf_147 : decode cX3_toldOf 147 = .ok (.goto (-31), 3) := by decide +kernel
theorem dX3_toldOf_150 : decode cX3_toldOf 150 = .ok (.iload_n 3, 1) := by decide +kernel
theorem dX3_toldOf_151 : decode cX3_toldOf 151 = .ok (.ireturn, 1) := by decide +kernel
theorem dX3_toldOf_152 : decode cX3_toldOf 152 = .ok (.aload_n 0, 1) := by decide +kernel
theorem dX3_toldOf_153 : decode cX3_toldOf 153 = .ok (.iload_n 1, 1) := by decide +kernel
theorem dX3_toldOf_154 : decode cX3_toldOf 154 = .ok (.invokevirtual 78, 3) := by decide +kernel
theorem dX3_toldOf_157 : decode cX3_toldOf 157 = .ok (.istore 4, 2) := by decide +kernel
theorem dX3_toldOf_159 : decode cX3_toldOf 159 = .ok (.iconst 0, 1) := by decide +kernel
theorem dX3_toldOf_160 : decode cX3_toldOf 160 = .ok (.istore 5, 2) := by decide +kernel
theorem dX3_toldOf_162 : decode cX3_toldOf 162 = .ok (.iload 5, 2) := by decide +kernel
theorem dX3_toldOf_164 : decode cX3_toldOf 164 = .ok (.aload_n 0, 1) := by decide +kernel
theorem dX3_toldOf_165 : decode cX3_toldOf 165 = .ok (.getfield 42, 3) := by decide +kernel
theorem dX3_toldOf_168 : decode cX3_toldOf 168 = .ok (.if_icmp .ge 40, 3) := by decide +kernel
theorem dX3_toldOf_171 : decode cX3_toldOf 171 = .ok (.iload_n 3, 1) := by decide +kernel
theorem dX3_toldOf_172 : decode cX3_toldOf 172 = .ok (.aload_n 0, 1) := by decide +kernel
theorem dX3_toldOf_173 : decode cX3_toldOf 173 = .ok (.getfield 16, 3) := by decide +kernel
theorem dX3_toldOf_176 : decode cX3_toldOf 176 = .ok (.iload 5, 2) := by decide +kernel
theorem dX3_toldOf_178 : decode cX3_toldOf 178 = .ok (.iaload, 1) := by decide +kernel
theorem dX3_toldOf_179 : decode cX3_toldOf 179 = .ok (.iload_n 1, 1) := by decide +kernel
theorem dX3_toldOf_180 : decode cX3_toldOf 180 = .ok (.if_icmp .ne 19, 3) := by decide +kernel
theorem dX3_toldOf_183 : decode cX3_toldOf 183 = .ok (.aload_n 0, 1) := by decide +kernel
theorem dX3_toldOf_184 : decode cX3_toldOf 184 = .ok (.getfield 19, 3) := by decide +kernel
theorem dX3_toldOf_187 : decode cX3_toldOf 187 = .ok (.iload 5, 2) := by decide +kernel
theorem dX3_toldOf_189 : decode cX3_toldOf 189 = .ok (.iaload, 1) := by decide +kernel
theorem dX3_toldOf_190 : decode cX3_toldOf 190 = .ok (.iload 4, 2) := by decide +kernel
theorem dX3_toldOf_192 : decode cX3_toldOf 192 = .ok (.if_icmp .ne 7, 3) := by decide +kernel
theorem dX3_toldOf_195 : decode cX3_toldOf 195 = .ok (.iconst 1, 1) := by decide +kernel
theorem dX3_toldOf_196 : decode cX3_toldOf 196 = .ok (.goto 4, 3) := by decide +kernel
theorem dX3_toldOf_199 : decode cX3_toldOf 199 = .ok (.iconst 0, 1) := by decide +kernel
theorem dX3_toldOf_200 : decode cX3_toldOf 200 = .ok (.iadd, 1) := by decide +kernel
theorem dX3_toldOf_201 : decode cX3_toldOf 201 = .ok (.istore_n 3, 1) := by decide +kernel
theorem dX3_toldOf_202 : decode cX3_toldOf 202 = .ok (.iinc 5 1, 3) := by decide +kernel
theorem dX3_toldOf_205 : decode cX3_toldOf 205 = .ok (.goto (-43), 3) := by decide +kernel
theorem dX3_toldOf_208 : decode cX3_toldOf 208 = .ok (.iload_n 3, 1) := by decide +kernel
theorem dX3_toldOf_209 : decode cX3_toldOf 209 = .ok (.ireturn, 1) := by decide +kernel
set_option maxRecDepth 20000 in
theorem ggX3_told_X3_isCupboard : GoodIn wsX3_told wsX3_isCupboard := goodIn_r _ [6, 7, 8, 9, 5, 10, 43, 44, 45, 46, 47, 48, 49, 50, 51, 52, 53] (by decide +kernel) (by decide +kernel)
set_option maxRecDepth 20000 in
theorem gX3_told_X3_isCupboard : GoodIn wsX3_told (wsV RX3 64 RX3 yX3_isCupboard wsX3_isCupboard) := goodIn_app (goodIn_of _ (by decide +kernel)) ggX3_told_X3_isCupboard
set_option maxRecDepth 20000 in
theorem ggX3_told_X3_isIn : GoodIn wsX3_told wsX3_isIn := goodIn_r _ [10] (by decide +kernel) (by decide +kernel)
set_option maxRecDepth 20000 in
theorem gX3_told_X3_isIn : GoodIn wsX3_told (va_wsS RX3 38 yX3_isIn wsX3_isIn) := goodIn_app (goodIn_of _ (by decide +kernel)) ggX3_told_X3_isIn
set_option maxRecDepth 20000 in
theorem ggX3_told_X3_toldOf : GoodIn wsX3_told wsX3_toldOf := goodIn_r _ [14, 15, 16, 17, 18, 19, 20, 21, 5, 22, 23, 24, 25, 26, 27, 28, 29, 30, 31, 32, 33, 34, 35, 36, 37, 38, 43, 44, 45, 46, 47, 48, 49, 50, 51, 52, 53] (by decide +kernel) (by decide +kernel)
set_option maxRecDepth 20000 in
theorem gX3_told_X3_toldOf : GoodIn wsX3_told (wsV RX3 81 RX3 yX3_toldOf wsX3_toldOf) := goodIn_app (goodIn_of _ (by decide +kernel)) ggX3_told_X3_toldOf
set_option maxRecDepth 20000 in
theorem ggX3_told_X3_fail : GoodIn wsX3_told wsX3_fail := goodIn_r _ [42, 1, 43, 44, 45, 46, 47, 48, 49, 50, 51, 52, 53] (by decide +kernel) (by decide +kernel)
set_option maxRecDepth 20000 in
theorem gX3_told_X3_fail : GoodIn wsX3_told (wsV RX3 60 RX3 yX3_fail wsX3_fail) := goodIn_app (goodIn_of _ (by decide +kernel)) ggX3_told_X3_fail
theorem dX3_told_0 : decode cX3_told 0 = .ok (.aload_n 0, 1) := by decide +kernel
theorem dX3_told_1 : decode cX3_told 1 = .ok (.iconst 0, 1) := by decide +kernel
theorem dX3_told_2 : decode cX3_told 2 = .ok (.putfield 31, 3) := by decide +kernel
theorem dX3_told_5 : decode cX3_told 5 = .ok (.aload_n 0, 1) := by decide +kernel
theorem dX3_told_6 : decode cX3_told 6 = .ok (.iload_n 1, 1) := by decide +kernel
theorem dX3_told_7 : decode cX3_told 7 = .ok (.invokevirtual 64, 3) := by decide +kernel
theorem dX3_told_10 : decode cX3_told 10 = .ok (.ifCond .eq 21, 3) := by decide +kernel
theorem dX3_told_13 : decode cX3_told 13 = .ok (.iload_n 2, 1) := by decide +kernel
theorem dX3_told_14 : decode cX3_told 14 = .ok (.iconst 0, 1) := by decide +kernel
theorem dX3_told_15 : decode cX3_told 15 = .ok (.iconst 5, 1) := by decide +kernel
theorem dX3_told_16 : decode cX3_told 16 = .ok (.invokestatic 38, 3) := by decide +kernel
theorem dX3_told_19 : decode cX3_told 19 = .ok (.ifCond .eq 12, 3) := by decide +kernel
theorem dX3_told_22 : decode cX3_told 22 = .ok (.aload_n 0, 1) := by decide +kernel
theorem dX3_told_23 : decode cX3_told 23 = .ok (.iload_n 1, 1) := by decide +kernel
theorem dX3_told_24 : decode cX3_told 24 = .ok (.iload_n 2, 1) := by decide +kernel
theorem dX3_told_25 : decode cX3_told 25 = .ok (.invokevirtual 81, 3) := by decide +kernel
theorem dX3_told_28 : decode cX3_told 28 = .ok (.goto 8, 3) := by decide +kernel
theorem dX3_told_31 : decode cX3_told 31 = .ok (.aload_n 0, 1) := by decide +kernel
theorem dX3_told_32 : decode cX3_told 32 = .ok (.iconst 1, 1) := by decide +kernel
theorem dX3_told_33 : decode cX3_told 33 = .ok (.invokevirtual 60, 3) := by decide +kernel
theorem dX3_told_36 : decode cX3_told 36 = .ok (.ireturn, 1) := by decide +kernel
set_option maxRecDepth 20000 in
theorem ggX3_thing_X3_isCupboard : GoodIn wsX3_thing wsX3_isCupboard := goodIn_r _ [6, 7, 8, 9, 5, 10, 23, 24, 25, 26, 27, 28, 29, 30, 31, 32, 33] (by decide +kernel) (by decide +kernel)
set_option maxRecDepth 20000 in
theorem gX3_thing_X3_isCupboard : GoodIn wsX3_thing (wsV RX3 64 RX3 yX3_isCupboard wsX3_isCupboard) := goodIn_app (goodIn_of _ (by decide +kernel)) ggX3_thing_X3_isCupboard
set_option maxRecDepth 20000 in
theorem ggX3_thing_X3_isDrawer : GoodIn wsX3_thing wsX3_isDrawer := goodIn_r _ [13, 8, 9, 5, 10] (by decide +kernel) (by decide +kernel)
set_option maxRecDepth 20000 in
theorem gX3_thing_X3_isDrawer : GoodIn wsX3_thing (va_wsS RX3 68 yX3_isDrawer wsX3_isDrawer) := goodIn_app (goodIn_of _ (by decide +kernel)) ggX3_thing_X3_isDrawer
set_option maxRecDepth 20000 in
theorem ggX3_thing_X3_th : GoodIn wsX3_thing wsX3_th := goodIn_r _ [17, 18, 23, 24, 25, 26, 27, 28, 29, 30, 31, 32, 33] (by decide +kernel) (by decide +kernel)
set_option maxRecDepth 20000 in
theorem gX3_thing_X3_th : GoodIn wsX3_thing (wsV RX3 45 RX3 yX3_th wsX3_th) := goodIn_app (goodIn_of _ (by decide +kernel)) ggX3_thing_X3_th
set_option maxRecDepth 20000 in
theorem ggX3_thing_X3_fail : GoodIn wsX3_thing wsX3_fail := goodIn_r _ [22, 1, 23, 24, 25, 26, 27, 28, 29, 30, 31, 32, 33] (by decide +kernel) (by decide +kernel)
set_option maxRecDepth 20000 in
theorem gX3_thing_X3_fail : GoodIn wsX3_thing (wsV RX3 60 RX3 yX3_fail wsX3_fail) := goodIn_app (goodIn_of _ (by decide +kernel)) ggX3_thing_X3_fail
theorem dX3_thing_0 : decode cX3_thing 0 = .ok (.aload_n 0, 1) := by decide +kernel
theorem dX3_thing_1 : decode cX3_thing 1 = .ok (.iconst 0, 1) := by decide +kernel
theorem dX3_thing_2 : decode cX3_thing 2 = .ok (.putfield 31, 3) := by decide +kernel
theorem dX3_thing_5 : decode cX3_thing 5 = .ok (.aload_n 0, 1) := by decide +kernel
theorem dX3_thing_6 : decode cX3_thing 6 = .ok (.iload_n 1, 1) := by decide +kernel
theorem dX3_thing_7 : decode cX3_thing 7 = .ok (.invokevirtual 64, 3) := by decide +kernel
theorem dX3_thing_10 : decode cX3_thing 10 = .ok (.ifCond .eq 19, 3) := by decide +kernel
theorem dX3_thing_13 : decode cX3_thing 13 = .ok (.iload_n 2, 1) := by decide +kernel
theorem dX3_thing_14 : decode cX3_thing 14 = .ok (.invokestatic 68, 3) := by decide +kernel
theorem dX3_thing_17 : decode cX3_thing 17 = .ok (.ifCond .eq 12, 3) := by decide +kernel
theorem dX3_thing_20 : decode cX3_thing 20 = .ok (.aload_n 0, 1) := by decide +kernel
theorem dX3_thing_21 : decode cX3_thing 21 = .ok (.iload_n 1, 1) := by decide +kernel
theorem dX3_thing_22 : decode cX3_thing 22 = .ok (.iload_n 2, 1) := by decide +kernel
theorem dX3_thing_23 : decode cX3_thing 23 = .ok (.invokevirtual 45, 3) := by decide +kernel
theorem dX3_thing_26 : decode cX3_thing 26 = .ok (.goto 8, 3) := by decide +kernel
theorem dX3_thing_29 : decode cX3_thing 29 = .ok (.aload_n 0, 1) := by decide +kernel
theorem dX3_thing_30 : decode cX3_thing 30 = .ok (.iconst 1, 1) := by decide +kernel
theorem dX3_thing_31 : decode cX3_thing 31 = .ok (.invokevirtual 60, 3) := by decide +kernel
theorem dX3_thing_34 : decode cX3_thing 34 = .ok (.ireturn, 1) := by decide +kernel
set_option maxRecDepth 20000 in
theorem ggX3_seal_X3_isCupboard : GoodIn wsX3_seal wsX3_isCupboard := goodIn_r _ [11, 12, 13, 14, 10, 15, 40, 41, 42, 43, 44, 45, 46, 47, 48, 49, 50] (by decide +kernel) (by decide +kernel)
set_option maxRecDepth 20000 in
theorem gX3_seal_X3_isCupboard : GoodIn wsX3_seal (wsV RX3 64 RX3 yX3_isCupboard wsX3_isCupboard) := goodIn_app (goodIn_of _ (by decide +kernel)) ggX3_seal_X3_isCupboard
set_option maxRecDepth 20000 in
theorem ggX3_seal_X3_fail : GoodIn wsX3_seal wsX3_fail := goodIn_r _ [19, 1, 40, 41, 42, 43, 44, 45, 46, 47, 48, 49, 50] (by decide +kernel) (by decide +kernel)
set_option maxRecDepth 20000 in
theorem gX3_seal_X3_fail : GoodIn wsX3_seal (wsV RX3 60 RX3 yX3_fail wsX3_fail) := goodIn_app (goodIn_of _ (by decide +kernel)) ggX3_seal_X3_fail
set_option maxRecDepth 20000 in
theorem ggX3_seal_X3_root : GoodIn wsX3_seal wsX3_root := goodIn_r _ [23, 24, 25, 26, 27, 10, 28, 29, 30, 31, 32, 33, 34, 35, 36, 37, 38, 39, 40, 41, 42, 43, 44, 45, 46, 47, 48, 49, 50] (by decide +kernel) (by decide +kernel)
set_option maxRecDepth 20000 in
theorem gX3_seal_X3_root : GoodIn wsX3_seal (wsV RX3 78 RX3 yX3_root wsX3_root) := goodIn_app (goodIn_of _ (by decide +kernel)) ggX3_seal_X3_root
theorem dX3_seal_0 : decode cX3_seal 0 = .ok (.aload_n 0, 1) := by decide +kernel
theorem dX3_seal_1 : decode cX3_seal 1 = .ok (.iconst 0, 1) := by decide +kernel
theorem dX3_seal_2 : decode cX3_seal 2 = .ok (.putfield 31, 3) := by decide +kernel
theorem dX3_seal_5 : decode cX3_seal 5 = .ok (.aload_n 0, 1) := by decide +kernel
theorem dX3_seal_6 : decode cX3_seal 6 = .ok (.iload_n 1, 1) := by decide +kernel
theorem dX3_seal_7 : decode cX3_seal 7 = .ok (.invokevirtual 64, 3) := by decide +kernel
theorem dX3_seal_10 : decode cX3_seal 10 = .ok (.ifCond .ne 9, 3) := by decide +kernel
theorem dX3_seal_13 : decode cX3_seal 13 = .ok (.aload_n 0, 1) := by decide +kernel
theorem dX3_seal_14 : decode cX3_seal 14 = .ok (.iconst 1, 1) := by decide +kernel
theorem dX3_seal_15 : decode cX3_seal 15 = .ok (.invokevirtual 60, 3) := by decide +kernel
theorem dX3_seal_18 : decode cX3_seal 18 = .ok (.ireturn, 1) := by decide +kernel
theorem dX3_seal_19 : decode cX3_seal 19 = .ok (.aload_n 0, 1) := by decide +kernel
theorem dX3_seal_20 : decode cX3_seal 20 = .ok (.getfield 42, 3) := by decide +kernel
theorem dX3_seal_23 : decode cX3_seal 23 = .ok (.bipush 20, 2) := by decide +kernel
theorem dX3_seal_25 : decode cX3_seal 25 = .ok (.if_icmp .ne 9, 3) := by decide +kernel
theorem dX3_seal_28 : decode cX3_seal 28 = .ok (.aload_n 0, 1) := by decide +kernel
theorem dX3_seal_29 : decode cX3_seal 29 = .ok (.iconst 2, 1) := by decide +kernel
theorem dX3_seal_30 : decode cX3_seal 30 = .ok (.invokevirtual 60, 3) := by decide +kernel
theorem dX3_seal_33 : decode cX3_seal 33 = .ok (.ireturn, 1) := by decide +kernel
theorem dX3_seal_34 : decode cX3_seal 34 = .ok (.aload_n 0, 1) := by decide +kernel
theorem dX3_seal_35 : decode cX3_seal 35 = .ok (.getfield 16, 3) := by decide +kernel
theorem dX3_seal_38 : decode cX3_seal 38 = .ok (.aload_n 0, 1) := by decide +kernel
theorem dX3_seal_39 : decode cX3_seal 39 = .ok (.getfield 42, 3) := by decide +kernel
theorem dX3_seal_42 : decode cX3_seal 42 = .ok (.iload_n 1, 1) := by decide +kernel
theorem dX3_seal_43 : decode cX3_seal 43 = .ok (.iastore, 1) := by decide +kernel
theorem dX3_seal_44 : decode cX3_seal 44 = .ok (.aload_n 0, 1) := by decide +kernel
theorem dX3_seal_45 : decode cX3_seal 45 = .ok (.getfield 19, 3) := by decide +kernel
theorem dX3_seal_48 : decode cX3_seal 48 = .ok (.aload_n 0, 1) := by decide +kernel
theorem dX3_seal_49 : decode cX3_seal 49 = .ok (.getfield 42, 3) := by decide +kernel
theorem dX3_seal_52 : decode cX3_seal 52 = .ok (.aload_n 0, 1) := by decide +kernel
theorem dX3_seal_53 : decode cX3_seal 53 = .ok (.iload_n 1, 1) := by decide +kernel
theorem dX3_seal_54 : decode cX3_seal 54 = .ok (.invokevirtual 78, 3) := by decide +kernel
theorem dX3_seal_57 : decode cX3_seal 57 = .ok (.iastore, 1) := by decide +kernel
theorem dX3_seal_58 : decode cX3_seal 58 = .ok (.aload_n 0, 1) := by decide +kernel
theorem dX3_seal_59 : decode cX3_seal 59 = .ok (.getfield 22, 3) := by decide +kernel
theorem dX3_seal_62 : decode cX3_seal 62 = .ok (.aload_n 0, 1) := by decide +kernel
theorem dX3_seal_63 : decode cX3_seal 63 = .ok (.getfield 42, 3) := by decide +kernel
theorem dX3_seal_66 : decode cX3_seal 66 = .ok (.aload_n 0, 1) := by decide +kernel
theorem dX3_seal_67 : decode cX3_seal 67 = .ok (.getfield 13, 3) := by decide +kernel
theorem dX3_seal_70 : decode cX3_seal 70 = .ok (.iload_n 1, 1) := by decide +kernel
theorem dX3_seal_71 : decode cX3_seal 71 = .ok (.iaload, 1) := by decide +kernel
theorem dX3_seal_72 : decode cX3_seal 72 = .ok (.iastore, 1) := by decide +kernel
theorem dX3_seal_73 : decode cX3_seal 73 = .ok (.aload_n 0, 1) := by decide +kernel
theorem dX3_seal_74 : decode cX3_seal 74 = .ok (.dup, 1) := by decide +kernel
theorem dX3_seal_75 : decode cX3_seal 75 = .ok (.getfield 42, 3) := by decide +kernel
theorem dX3_seal_78 : decode cX3_seal 78 = .ok (.iconst 1, 1) := by decide +kernel
theorem dX3_seal_79 : decode cX3_seal 79 = .ok (.iadd, 1) := by decide +kernel
theorem dX3_seal_80 : decode cX3_seal 80 = .ok (.putfield 42, 3) := by decide +kernel
theorem dX3_seal_83 : decode cX3_seal 83 = .ok (.aload_n 0, 1) := by decide +kernel
theorem dX3_seal_84 : decode cX3_seal 84 = .ok (.getfield 42, 3) := by decide +kernel
theorem dX3_seal_87 : decode cX3_seal 87 = .ok (.iconst 1, 1) := by decide +kernel
theorem dX3_seal_88 : decode cX3_seal 88 = .ok (.isub, 1) := by decide +kernel
theorem dX3_seal_89 : decode cX3_seal 89 = .ok (.ireturn, 1) := by decide +kernel
theorem dX3_sealTold_0 : decode cX3_sealTold 0 = .ok (.iload_n 2, 1) := by decide +kernel
theorem dX3_sealTold_1 : decode cX3_sealTold 1 = .ok (.ifCond .ne 12, 3) := by decide +kernel
theorem dX3_sealTold_4 : decode cX3_sealTold 4 = .ok (.aload_n 0, 1) := by decide +kernel
theorem dX3_sealTold_5 : decode cX3_sealTold 5 = .ok (.getfield 16, 3) := by decide +kernel
theorem dX3_sealTold_8 : decode cX3_sealTold 8 = .ok (.iload_n 1, 1) := by decide +kernel
theorem dX3_sealTold_9 : decode cX3_sealTold 9 = .ok (.iaload, 1) := by decide +kernel
theorem dX3_sealTold_10 : decode cX3_sealTold 10 = .ok (.goto 49, 3) := by decide +kernel
theorem dX3_sealTold_13 : decode cX3_sealTold 13 = .ok (.iload_n 2, 1) := by decide +kernel
theorem dX3_sealTold_14 : decode cX3_sealTold 14 = .ok (.iconst 1, 1) := by decide +kernel
theorem dX3_sealTold_15 : decode cX3_sealTold 15 = .ok (.if_icmp .ne 12, 3) := by decide +kernel
theorem dX3_sealTold_18 : decode cX3_sealTold 18 = .ok (.aload_n 0, 1) := by decide +kernel
theorem dX3_sealTold_19 : decode cX3_sealTold 19 = .ok (.getfield 19, 3) := by decide +kernel
theorem dX3_sealTold_22 : decode cX3_sealTold 22 = .ok (.iload_n 1, 1) := by decide +kernel
theorem dX3_sealTold_23 : decode cX3_sealTold 23 = .ok (.iaload, 1) := by decide +kernel
theorem dX3_sealTold_24 : decode cX3_sealTold 24 = .ok (.goto 35, 3) := by decide +kernel
theorem dX3_sealTold_27 : decode cX3_sealTold 27 = .ok (.iload_n 2, 1) := by decide +kernel
theorem dX3_sealTold_28 : decode cX3_sealTold 28 = .ok (.iconst 2, 1) := by decide +kernel
theorem dX3_sealTold_29 : decode cX3_sealTold 29 = .ok (.if_icmp .ne 12, 3) := by decide +kernel
theorem dX3_sealTold_32 : decode cX3_sealTold 32 = .ok (.aload_n 0, 1) := by decide +kernel
theorem dX3_sealTold_33 : decode cX3_sealTold 33 = .ok (.getfield 22, 3) := by decide +kernel
theorem dX3_sealTold_36 : decode cX3_sealTold 36 = .ok (.iload_n 1, 1) := by decide +kernel
theorem dX3_sealTold_37 : decode cX3_sealTold 37 = .ok (.iaload, 1) := by decide +kernel
theorem dX3_sealTold_38 : decode cX3_sealTold 38 = .ok (.goto 21, 3) := by decide +kernel
theorem dX3_sealTold_41 : decode cX3_sealTold 41 = .ok (.aload_n 0, 1) := by decide +kernel
theorem dX3_sealTold_42 : decode cX3_sealTold 42 = .ok (.getfield 13, 3) := by decide +kernel
theorem dX3_sealTold_45 : decode cX3_sealTold 45 = .ok (.aload_n 0, 1) := by decide +kernel
theorem dX3_sealTold_46 : decode cX3_sealTold 46 = .ok (.getfield 16, 3) := by decide +kernel
theorem dX3_sealTold_49 : decode cX3_sealTold 49 = .ok (.iload_n 1, 1) := by decide +kernel
theorem dX3_sealTold_50 : decode cX3_sealTold 50 = .ok (.iaload, 1) := by decide +kernel
theorem dX3_sealTold_51 : decode cX3_sealTold 51 = .ok (.iaload, 1) := by decide +kernel
theorem dX3_sealTold_52 : decode cX3_sealTold 52 = .ok (.aload_n 0, 1) := by decide +kernel
theorem dX3_sealTold_53 : decode cX3_sealTold 53 = .ok (.getfield 22, 3) := by decide +kernel
theorem dX3_sealTold_56 : decode cX3_sealTold 56 = .ok (.iload_n 1, 1) := by decide +kernel
theorem dX3_sealTold_57 : decode cX3_sealTold 57 = .ok (.iaload, 1) := by decide +kernel
theorem dX3_sealTold_58 : decode cX3_sealTold 58 = .ok (.isub, 1) := by decide +kernel
theorem dX3_sealTold_59 : decode cX3_sealTold 59 = .ok (.ireturn, 1) := by decide +kernel
set_option maxRecDepth 20000 in
theorem ggX3_about_X3_isSeal : GoodIn wsX3_about wsX3_isSeal := goodIn_r _ [6, 7, 8, 9, 5, 10, 23, 24, 25, 26, 27, 28, 29, 30, 31, 32, 33] (by decide +kernel) (by decide +kernel)
set_option maxRecDepth 20000 in
theorem gX3_about_X3_isSeal : GoodIn wsX3_about (wsV RX3 84 RX3 yX3_isSeal wsX3_isSeal) := goodIn_app (goodIn_of _ (by decide +kernel)) ggX3_about_X3_isSeal
set_option maxRecDepth 20000 in
theorem ggX3_about_X3_isIn : GoodIn wsX3_about wsX3_isIn := goodIn_r _ [10] (by decide +kernel) (by decide +kernel)
set_option maxRecDepth 20000 in
theorem gX3_about_X3_isIn : GoodIn wsX3_about (va_wsS RX3 38 yX3_isIn wsX3_isIn) := goodIn_app (goodIn_of _ (by decide +kernel)) ggX3_about_X3_isIn
set_option maxRecDepth 20000 in
theorem ggX3_about_X3_sealTold : GoodIn wsX3_about wsX3_sealTold := goodIn_r _ [14, 15, 16, 17, 18, 23, 24, 25, 26, 27, 28, 29, 30, 31, 32, 33] (by decide +kernel) (by decide +kernel)
set_option maxRecDepth 20000 in
theorem gX3_about_X3_sealTold : GoodIn wsX3_about (wsV RX3 87 RX3 yX3_sealTold wsX3_sealTold) := goodIn_app (goodIn_of _ (by decide +kernel)) ggX3_about_X3_sealTold
set_option maxRecDepth 20000 in
theorem ggX3_about_X3_fail : GoodIn wsX3_about wsX3_fail := goodIn_r _ [22, 1, 23, 24, 25, 26, 27, 28, 29, 30, 31, 32, 33] (by decide +kernel) (by decide +kernel)
set_option maxRecDepth 20000 in
theorem gX3_about_X3_fail : GoodIn wsX3_about (wsV RX3 60 RX3 yX3_fail wsX3_fail) := goodIn_app (goodIn_of _ (by decide +kernel)) ggX3_about_X3_fail
theorem dX3_about_0 : decode cX3_about 0 = .ok (.aload_n 0, 1) := by decide +kernel
theorem dX3_about_1 : decode cX3_about 1 = .ok (.iconst 0, 1) := by decide +kernel
theorem dX3_about_2 : decode cX3_about 2 = .ok (.putfield 31, 3) := by decide +kernel
theorem dX3_about_5 : decode cX3_about 5 = .ok (.aload_n 0, 1) := by decide +kernel
theorem dX3_about_6 : decode cX3_about 6 = .ok (.iload_n 1, 1) := by decide +kernel
theorem dX3_about_7 : decode cX3_about 7 = .ok (.invokevirtual 84, 3) := by decide +kernel
theorem dX3_about_10 : decode cX3_about 10 = .ok (.ifCond .eq 21, 3) := by decide +kernel
theorem dX3_about_13 : decode cX3_about 13 = .ok (.iload_n 2, 1) := by decide +kernel
theorem dX3_about_14 : decode cX3_about 14 = .ok (.iconst 0, 1) := by decide +kernel
theorem dX3_about_15 : decode cX3_about 15 = .ok (.iconst 3, 1) := by decide +kernel
theorem dX3_about_16 : decode cX3_about 16 = .ok (.invokestatic 38, 3) := by decide +kernel
theorem dX3_about_19 : decode cX3_about 19 = .ok (.ifCond .eq 12, 3) := by decide +kernel
theorem dX3_about_22 : decode cX3_about 22 = .ok (.aload_n 0, 1) := by decide +kernel
theorem dX3_about_23 : decode cX3_about 23 = .ok (.iload_n 1, 1) := by decide +kernel
theorem dX3_about_24 : decode cX3_about 24 = .ok (.iload_n 2, 1) := by decide +kernel
theorem dX3_about_25 : decode cX3_about 25 = .ok (.invokevirtual 87, 3) := by decide +kernel
theorem dX3_about_28 : decode cX3_about 28 = .ok (.goto 8, 3) := by decide +kernel
theorem dX3_about_31 : decode cX3_about 31 = .ok (.aload_n 0, 1) := by decide +kernel
theorem dX3_about_32 : decode cX3_about 32 = .ok (.iconst 1, 1) := by decide +kernel
theorem dX3_about_33 : decode cX3_about 33 = .ok (.invokevirtual 60, 3) := by decide +kernel
theorem dX3_about_36 : decode cX3_about 36 = .ok (.ireturn, 1) := by decide +kernel
theorem dX3_beside_0 : decode cX3_beside 0 = .ok (.bipush 16, 2) := by decide +kernel
theorem dX3_beside_2 : decode cX3_beside 2 = .ok (.iload_n 0, 1) := by decide +kernel
theorem dX3_beside_3 : decode cX3_beside 3 = .ok (.iadd, 1) := by decide +kernel
theorem dX3_beside_4 : decode cX3_beside 4 = .ok (.istore_n 2, 1) := by decide +kernel
theorem dX3_beside_5 : decode cX3_beside 5 = .ok (.iconst 0, 1) := by decide +kernel
theorem dX3_beside_6 : decode cX3_beside 6 = .ok (.istore_n 3, 1) := by decide +kernel
theorem dX3_beside_7 : decode cX3_beside 7 = .ok (.iload_n 3, 1) := by decide +kernel
theorem dX3_beside_8 : decode cX3_beside 8 = .ok (.iload_n 1, 1) := by decide +kernel
theorem dX3_beside_9 : decode cX3_beside 9 = .ok (.if_icmp .ge 13, 3) := by decide +kernel
theorem dX3_beside_12 : decode cX3_beside 12 = .ok (.iload_n 2, 1) := by decide +kernel
theorem dX3_beside_13 : decode cX3_beside 13 = .ok (.iconst 2, 1) := by decide +kernel
theorem dX3_beside_14 : decode cX3_beside 14 = .ok (.idiv, 1) := by decide +kernel
theorem dX3_beside_15 : decode cX3_beside 15 = .ok (.istore_n 2, 1) := by decide +kernel
theorem dX3_beside_16 : decode cX3_beside 16 = .ok (.iinc 3 1, 3) := by decide +kernel
theorem dX3_beside_19 : decode cX3_beside 19 = .ok (.goto (-12), 3) := by decide +kernel
theorem dX3_beside_22 : decode cX3_beside 22 = .ok (.iload_n 2, 1) := by decide +kernel
theorem dX3_beside_23 : decode cX3_beside 23 = .ok (.iconst 2, 1) := by decide +kernel
theorem dX3_beside_24 : decode cX3_beside 24 = .ok (.irem, 1) := by decide +kernel
theorem dX3_beside_25 : decode cX3_beside 25 = .ok (.ifCond .ne 9, 3) := by decide +kernel
theorem dX3_beside_28 : decode cX3_beside 28 = .ok (.iload_n 2, 1) := by decide +kernel
theorem dX3_beside_29 : decode cX3_beside 29 = .ok (.iconst 1, 1) := by decide +kernel
theorem dX3_beside_30 : decode cX3_beside 30 = .ok (.iadd, 1) := by decide +kernel
theorem dX3_beside_31 : decode cX3_beside 31 = .ok (.goto 6, 3) := by decide +kernel
theorem dX3_beside_34 : decode cX3_beside 34 = .ok (.iload_n 2, 1) := by decide +kernel
theorem dX3_beside_35 : decode cX3_beside 35 = .ok (.iconst 1, 1) := by decide +kernel
theorem dX3_beside_36 : decode cX3_beside 36 = .ok (.isub, 1) := by decide +kernel
theorem dX3_beside_37 : decode cX3_beside 37 = .ok (.ireturn, 1) := by decide +kernel
set_option maxRecDepth 20000 in
theorem ggX3_proof_X3_isCupboard : GoodIn wsX3_proof wsX3_isCupboard := goodIn_r _ [7, 8, 9, 10, 6, 11, 37, 38, 39, 40, 41, 42, 43, 44, 45, 46, 47] (by decide +kernel) (by decide +kernel)
set_option maxRecDepth 20000 in
theorem gX3_proof_X3_isCupboard : GoodIn wsX3_proof (wsV RX3 64 RX3 yX3_isCupboard wsX3_isCupboard) := goodIn_app (goodIn_of _ (by decide +kernel)) ggX3_proof_X3_isCupboard
set_option maxRecDepth 20000 in
theorem ggX3_proof_X3_isDrawer : GoodIn wsX3_proof wsX3_isDrawer := goodIn_r _ [14, 9, 10, 6, 11] (by decide +kernel) (by decide +kernel)
set_option maxRecDepth 20000 in
theorem gX3_proof_X3_isDrawer : GoodIn wsX3_proof (va_wsS RX3 68 yX3_isDrawer wsX3_isDrawer) := goodIn_app (goodIn_of _ (by decide +kernel)) ggX3_proof_X3_isDrawer
set_option maxRecDepth 20000 in
theorem ggX3_proof_X3_isIn : GoodIn wsX3_proof wsX3_isIn := goodIn_r _ [11] (by decide +kernel) (by decide +kernel)
set_option maxRecDepth 20000 in
theorem gX3_proof_X3_isIn : GoodIn wsX3_proof (va_wsS RX3 38 yX3_isIn wsX3_isIn) := goodIn_app (goodIn_of _ (by decide +kernel)) ggX3_proof_X3_isIn
set_option maxRecDepth 20000 in
theorem ggX3_proof_X3_fail : GoodIn wsX3_proof wsX3_fail := goodIn_r _ [18, 1, 37, 38, 39, 40, 41, 42, 43, 44, 45, 46, 47] (by decide +kernel) (by decide +kernel)
set_option maxRecDepth 20000 in
theorem gX3_proof_X3_fail : GoodIn wsX3_proof (wsV RX3 60 RX3 yX3_fail wsX3_fail) := goodIn_app (goodIn_of _ (by decide +kernel)) ggX3_proof_X3_fail
set_option maxRecDepth 20000 in
theorem ggX3_proof_X3_reckon : GoodIn wsX3_proof wsX3_reckon := goodIn_r _ [22, 23, 24, 25, 6, 26, 27, 28, 29, 30, 31, 32, 33, 37, 38, 39, 40, 41, 42, 43, 44, 45, 46, 47] (by decide +kernel) (by decide +kernel)
set_option maxRecDepth 20000 in
theorem gX3_proof_X3_reckon : GoodIn wsX3_proof (wsV RX3 56 RX3 yX3_reckon wsX3_reckon) := goodIn_app (goodIn_of _ (by decide +kernel)) ggX3_proof_X3_reckon
set_option maxRecDepth 20000 in
theorem ggX3_proof_X3_beside : GoodIn wsX3_proof wsX3_beside := goodIn_r _ [36] (by decide +kernel) (by decide +kernel)
set_option maxRecDepth 20000 in
theorem gX3_proof_X3_beside : GoodIn wsX3_proof (va_wsS RX3 90 yX3_beside wsX3_beside) := goodIn_app (goodIn_of _ (by decide +kernel)) ggX3_proof_X3_beside
theorem dX3_proof_0 : decode cX3_proof 0 = .ok (.aload_n 0, 1) := by decide +kernel
theorem dX3_proof_1 : decode cX3_proof 1 = .ok (.iconst 0, 1) := by decide +kernel
theorem dX3_proof_2 : decode cX3_proof 2 = .ok (.putfield 31, 3) := by decide +kernel
theorem dX3_proof_5 : decode cX3_proof 5 = .ok (.aload_n 0, 1) := by decide +kernel
theorem dX3_proof_6 : decode cX3_proof 6 = .ok (.iload_n 1, 1) := by decide +kernel
theorem dX3_proof_7 : decode cX3_proof 7 = .ok (.invokevirtual 64, 3) := by decide +kernel
theorem dX3_proof_10 : decode cX3_proof 10 = .ok (.ifCond .eq 19, 3) := by decide +kernel
theorem dX3_proof_13 : decode cX3_proof 13 = .ok (.iload_n 2, 1) := by decide +kernel
theorem dX3_proof_14 : decode cX3_proof 14 = .ok (.invokestatic 68, 3) := by decide +kernel
theorem dX3_proof_17 : decode cX3_proof 17 = .ok (.ifCond .eq 12, 3) := by decide +kernel
theorem dX3_proof_20 : decode cX3_proof 20 = .ok (.iload_n 3, 1) := by decide +kernel
theorem dX3_proof_21 : decode cX3_proof 21 = .ok (.iconst 0, 1) := by decide +kernel
theorem dX3_proof_22 : decode cX3_proof 22 = .ok (.iconst 3, 1) := by decide +kernel
theorem dX3_proof_23 : decode cX3_proof 23 = .ok (.invokestatic 38, 3) := by decide +kernel
theorem dX3_proof_26 : decode cX3_proof 26 = .ok (.ifCond .ne 9, 3) := by decide +kernel
theorem dX3_proof_29 : decode cX3_proof 29 = .ok (.aload_n 0, 1) := by decide +kernel
theorem dX3_proof_30 : decode cX3_proof 30 = .ok (.iconst 1, 1) := by decide +kernel
theorem dX3_proof_31 : decode cX3_proof 31 = .ok (.invokevirtual 60, 3) := by decide +kernel
theorem dX3_proof_34 : decode cX3_proof 34 = .ok (.ireturn, 1) := by decide +kernel
theorem dX3_proof_35 : decode cX3_proof 35 = .ok (.aload_n 0, 1) := by decide +kernel
theorem dX3_proof_36 : decode cX3_proof 36 = .ok (.iload_n 1, 1) := by decide +kernel
theorem dX3_proof_37 : decode cX3_proof 37 = .ok (.aload_n 0, 1) := by decide +kernel
theorem dX3_proof_38 : decode cX3_proof 38 = .ok (.getfield 25, 3) := by decide +kernel
theorem dX3_proof_41 : decode cX3_proof 41 = .ok (.invokevirtual 56, 3) := by decide +kernel
theorem dX3_proof_44 : decode cX3_proof 44 = .ok (.aload_n 0, 1) := by decide +kernel
theorem dX3_proof_45 : decode cX3_proof 45 = .ok (.getfield 25, 3) := by decide +kernel
theorem dX3_proof_48 : decode cX3_proof 48 = .ok (.iload_n 2, 1) := by decide +kernel
theorem dX3_proof_49 : decode cX3_proof 49 = .ok (.iload_n 3, 1) := by decide +kernel
theorem dX3_proof_50 : decode cX3_proof 50 = .ok (.invokestatic 90, 3) := by decide +kernel
theorem dX3_proof_53 : decode cX3_proof 53 = .ok (.iaload, 1) := by decide +kernel
theorem dX3_proof_54 : decode cX3_proof 54 = .ok (.ireturn, 1) := by decide +kernel
set_option maxRecDepth 20000 in
theorem ggX3_up_X3_join : GoodIn wsX3_up wsX3_join := goodIn_r _ [4] (by decide +kernel) (by decide +kernel)
set_option maxRecDepth 20000 in
theorem gX3_up_X3_join : GoodIn wsX3_up (va_wsS RX3 52 yX3_join wsX3_join) := goodIn_app (goodIn_of _ (by decide +kernel)) ggX3_up_X3_join
theorem dX3_up_0 : decode cX3_up 0 = .ok (.iload_n 0, 1) := by decide +kernel
theorem dX3_up_1 : decode cX3_up 1 = .ok (.iconst 2, 1) := by decide +kernel
theorem dX3_up_2 : decode cX3_up 2 = .ok (.irem, 1) := by decide +kernel
theorem dX3_up_3 : decode cX3_up 3 = .ok (.ifCond .ne 14, 3) := by decide +kernel
theorem dX3_up_6 : decode cX3_up 6 = .ok (.iload_n 1, 1) := by decide +kernel
theorem dX3_up_7 : decode cX3_up 7 = .ok (.iload_n 2, 1) := by decide +kernel
theorem dX3_up_8 : decode cX3_up 8 = .ok (.iload_n 0, 1) := by decide +kernel
theorem dX3_up_9 : decode cX3_up 9 = .ok (.iconst 2, 1) := by decide +kernel
theorem dX3_up_10 : decode cX3_up 10 = .ok (.idiv, 1) := by decide +kernel
theorem dX3_up_11 : decode cX3_up 11 = .ok (.invokestatic 52, 3) := by decide +kernel
theorem dX3_up_14 : decode cX3_up 14 = .ok (.goto 11, 3) := by decide +kernel
theorem dX3_up_17 : decode cX3_up 17 = .ok (.iload_n 2, 1) := by decide +kernel
theorem dX3_up_18 : decode cX3_up 18 = .ok (.iload_n 1, 1) := by decide +kernel
theorem dX3_up_19 : decode cX3_up 19 = .ok (.iload_n 0, 1) := by decide +kernel
theorem dX3_up_20 : decode cX3_up 20 = .ok (.iconst 2, 1) := by decide +kernel
theorem dX3_up_21 : decode cX3_up 21 = .ok (.idiv, 1) := by decide +kernel
theorem dX3_up_22 : decode cX3_up 22 = .ok (.invokestatic 52, 3) := by decide +kernel
theorem dX3_up_25 : decode cX3_up 25 = .ok (.ireturn, 1) := by decide +kernel
set_option maxRecDepth 20000 in
theorem ggX3_way_X3_leaf : GoodIn wsX3_way wsX3_leaf := goodIn_r _ [4] (by decide +kernel) (by decide +kernel)
set_option maxRecDepth 20000 in
theorem gX3_way_X3_leaf : GoodIn wsX3_way (va_wsS RX3 49 yX3_leaf wsX3_leaf) := goodIn_app (goodIn_of _ (by decide +kernel)) ggX3_way_X3_leaf
set_option maxRecDepth 20000 in
theorem ggX3_way_X3_up : GoodIn wsX3_way wsX3_up := goodIn_r _ [7, 8, 9, 3, 10] (by decide +kernel) (by decide +kernel)
set_option maxRecDepth 20000 in
theorem gX3_way_X3_up : GoodIn wsX3_way (va_wsS RX3 93 yX3_up wsX3_up) := goodIn_app (goodIn_of _ (by decide +kernel)) ggX3_way_X3_up
theorem dX3_way_0 : decode cX3_way 0 = .ok (.bipush 16, 2) := by decide +kernel
theorem dX3_way_2 : decode cX3_way 2 = .ok (.iload_n 0, 1) := by decide +kernel
theorem dX3_way_3 : decode cX3_way 3 = .ok (.iadd, 1) := by decide +kernel
theorem dX3_way_4 : decode cX3_way 4 = .ok (.istore 6, 2) := by decide +kernel
theorem dX3_way_6 : decode cX3_way 6 = .ok (.iload 6, 2) := by decide +kernel
theorem dX3_way_8 : decode cX3_way 8 = .ok (.iload_n 0, 1) := by decide +kernel
theorem dX3_way_9 : decode cX3_way 9 = .ok (.iload_n 1, 1) := by decide +kernel
theorem dX3_way_10 : decode cX3_way 10 = .ok (.invokestatic 49, 3) := by decide +kernel
theorem dX3_way_13 : decode cX3_way 13 = .ok (.iload_n 2, 1) := by decide +kernel
theorem dX3_way_14 : decode cX3_way 14 = .ok (.invokestatic 93, 3) := by decide +kernel
theorem dX3_way_17 : decode cX3_way 17 = .ok (.istore 7, 2) := by decide +kernel
theorem dX3_way_19 : decode cX3_way 19 = .ok (.iload 6, 2) := by decide +kernel
theorem dX3_way_21 : decode cX3_way 21 = .ok (.iconst 2, 1) := by decide +kernel
theorem dX3_way_22 : decode cX3_way 22 = .ok (.idiv, 1) := by decide +kernel
theorem dX3_way_23 : decode cX3_way 23 = .ok (.iload 7, 2) := by decide +kernel
theorem dX3_way_25 : decode cX3_way 25 = .ok (.iload_n 3, 1) := by decide +kernel
theorem dX3_way_26 : decode cX3_way 26 = .ok (.invokestatic 93, 3) := by decide +kernel
theorem dX3_way_29 : decode cX3_way 29 = .ok (.istore 7, 2) := by decide +kernel
theorem dX3_way_31 : decode cX3_way 31 = .ok (.iload 6, 2) := by decide +kernel
theorem dX3_way_33 : decode cX3_way 33 = .ok (.iconst 4, 1) := by decide +kernel
theorem dX3_way_34 : decode cX3_way 34 = .ok (.idiv, 1) := by decide +kernel
theorem dX3_way_35 : decode cX3_way 35 = .ok (.iload 7, 2) := by decide +kernel
theorem dX3_way_37 : decode cX3_way 37 = .ok (.iload 4, 2) := by decide +kernel
theorem dX3_way_39 : decode cX3_way 39 = .ok (.invokestatic 93, 3) := by decide +kernel
theorem dX3_way_42 : decode cX3_way 42 = .ok (.istore 7, 2) := by decide +kernel
theorem dX3_way_44 : decode cX3_way 44 = .ok (.iload 6, 2) := by decide +kernel
theorem dX3_way_46 : decode cX3_way 46 = .ok (.bipush 8, 2) := by decide +kernel
theorem dX3_way_48 : decode cX3_way 48 = .ok (.idiv, 1) := by decide +kernel
theorem dX3_way_49 : decode cX3_way 49 = .ok (.iload 7, 2) := by decide +kernel
theorem dX3_way_51 : decode cX3_way 51 = .ok (.iload 5, 2) := by decide +kernel
theorem dX3_way_53 : decode cX3_way 53 = .ok (.invokestatic 93, 3) := by decide +kernel
theorem dX3_way_56 : decode cX3_way 56 = .ok (.ireturn, 1) := by decide +kernel
set_option maxRecDepth 20000 in
theorem ggX3_comes_X3_isDrawer : GoodIn wsX3_comes wsX3_isDrawer := goodIn_r _ [5, 6, 7, 4, 8] (by decide +kernel) (by decide +kernel)
set_option maxRecDepth 20000 in
theorem gX3_comes_X3_isDrawer : GoodIn wsX3_comes (va_wsS RX3 68 yX3_isDrawer wsX3_isDrawer) := goodIn_app (goodIn_of _ (by decide +kernel)) ggX3_comes_X3_isDrawer
set_option maxRecDepth 20000 in
theorem ggX3_comes_X3_fail : GoodIn wsX3_comes wsX3_fail := goodIn_r _ [12, 1, 25, 26, 27, 28, 29, 30, 31, 32, 33, 34, 35] (by decide +kernel) (by decide +kernel)
set_option maxRecDepth 20000 in
theorem gX3_comes_X3_fail : GoodIn wsX3_comes (wsV RX3 60 RX3 yX3_fail wsX3_fail) := goodIn_app (goodIn_of _ (by decide +kernel)) ggX3_comes_X3_fail
set_option maxRecDepth 20000 in
theorem ggX3_comes_X3_isIn : GoodIn wsX3_comes wsX3_isIn := goodIn_r _ [8] (by decide +kernel) (by decide +kernel)
set_option maxRecDepth 20000 in
theorem gX3_comes_X3_isIn : GoodIn wsX3_comes (va_wsS RX3 38 yX3_isIn wsX3_isIn) := goodIn_app (goodIn_of _ (by decide +kernel)) ggX3_comes_X3_isIn
set_option maxRecDepth 20000 in
theorem ggX3_comes_X3_way : GoodIn wsX3_comes wsX3_way := goodIn_r _ [15, 16, 17, 4, 18, 19, 20, 21, 22, 23, 24] (by decide +kernel) (by decide +kernel)
set_option maxRecDepth 20000 in
theorem gX3_comes_X3_way : GoodIn wsX3_comes (va_wsS RX3 96 yX3_way wsX3_way) := goodIn_app (goodIn_of _ (by decide +kernel)) ggX3_comes_X3_way
theorem dX3_comes_0 : decode cX3_comes 0 = .ok (.aload_n 0, 1) := by decide +kernel
theorem dX3_comes_1 : decode cX3_comes 1 = .ok (.iconst 0, 1) := by decide +kernel
theorem dX3_comes_2 : decode cX3_comes 2 = .ok (.putfield 31, 3) := by decide +kernel
theorem dX3_comes_5 : decode cX3_comes 5 = .ok (.iload_n 1, 1) := by decide +kernel
theorem dX3_comes_6 : decode cX3_comes 6 = .ok (.invokestatic 68, 3) := by decide +kernel
theorem dX3_comes_9 : decode cX3_comes 9 = .ok (.ifCond .ne 9, 3) := by decide +kernel
theorem dX3_comes_12 : decode cX3_comes 12 = .ok (.aload_n 0, 1) := by decide +kernel
theorem dX3_comes_13 : decode cX3_comes 13 = .ok (.iconst 1, 1) := by decide +kernel
theorem dX3_comes_14 : decode cX3_comes 14 = .ok (.invokevirtual 60, 3) := by decide +kernel
theorem dX3_comes_17 : decode cX3_comes 17 = .ok (.ireturn, 1) := by decide +kernel
theorem dX3_comes_18 : decode cX3_comes 18 = .ok (.iload_n 2, 1) := by decide +kernel
theorem dX3_comes_19 : decode cX3_comes 19 = .ok (.iconst 0, 1) := by decide +kernel
theorem dX3_comes_20 : decode cX3_comes 20 = .ok (.sipush 9999, 3) := by decide +kernel
theorem dX3_comes_23 : decode cX3_comes 23 = .ok (.invokestatic 38, 3) := by decide +kernel
theorem dX3_comes_26 : decode cX3_comes 26 = .ok (.ifCond .eq 50, 3) := by decide +kernel
theorem dX3_comes_29 : decode cX3_comes 29 = .ok (.iload_n 3, 1) := by decide +kernel
theorem dX3_comes_30 : decode cX3_comes 30 = .ok (.iconst 0, 1) := by decide +kernel
theorem dX3_comes_31 : decode cX3_comes 31 = .ok (.sipush 996, 3) := by decide +kernel
theorem dX3_comes_34 : decode cX3_comes 34 = .ok (.invokestatic 38, 3) := by decide +kernel
theorem dX3_comes_37 : decode cX3_comes 37 = .ok (.ifCond .eq 39, 3) := by decide +kernel
theorem dX3_comes_40 : decode cX3_comes 40 = .ok (.iload 4, 2) := by decide +kernel
theorem dX3_comes_42 : decode cX3_comes 42 = .ok (.iconst 0, 1) := by decide +kernel
theorem dX3_comes_43 : decode cX3_comes 43 = .ok (.sipush 996, 3) := by decide +kernel
theorem dX3_comes_46 : decode cX3_comes 46 = .ok (.invokestatic 38, 3) := by decide +kernel
theorem dX3_comes_49 : decode cX3_comes 49 = .ok (.ifCond .eq 27, 3) := by decide +kernel
theorem dX3_comes_52 : decode cX3_comes 52 = .ok (.iload 5, 2) := by decide +kernel
theorem dX3_comes_54 : decode cX3_comes 54 = .ok (.iconst 0, 1) := by decide +kernel
theorem dX3_comes_55 : decode cX3_comes 55 = .ok (.sipush 996, 3) := by decide +kernel
theorem dX3_comes_58 : decode cX3_comes 58 = .ok (.invokestatic 38, 3) := by decide +kernel
theorem dX3_comes_61 : decode cX3_comes 61 = .ok (.ifCond .eq 15, 3) := by decide +kernel
theorem dX3_comes_64 : decode cX3_comes 64 = .ok (.iload 6, 2) := by decide +kernel
theorem dX3_comes_66 : decode cX3_comes 66 = .ok (.iconst 0, 1) := by decide +kernel
theorem dX3_comes_67 : decode cX3_comes 67 = .ok (.sipush 996, 3) := by decide +kernel
theorem dX3_comes_70 : decode cX3_comes 70 = .ok (.invokestatic 38, 3) := by decide +kernel
theorem dX3_comes_73 : decode cX3_comes 73 = .ok (.ifCond .ne 9, 3) := by decide +kernel
theorem dX3_comes_76 : decode cX3_comes 76 = .ok (.aload_n 0, 1) := by decide +kernel
theorem dX3_comes_77 : decode cX3_comes 77 = .ok (.iconst 2, 1) := by decide +kernel
theorem dX3_comes_78 : decode cX3_comes 78 = .ok (.invokevirtual 60, 3) := by decide +kernel
theorem dX3_comes_81 : decode cX3_comes 81 = .ok (.ireturn, 1) := by decide +kernel
theorem dX3_comes_82 : decode cX3_comes 82 = .ok (.iload_n 1, 1) := by decide +kernel
theorem dX3_comes_83 : decode cX3_comes 83 = .ok (.iload_n 2, 1) := by decide +kernel
theorem dX3_comes_84 : decode cX3_comes 84 = .ok (.iload_n 3, 1) := by decide +kernel
theorem dX3_comes_85 : decode cX3_comes 85 = .ok (.iload 4, 2) := by decide +kernel
theorem dX3_comes_87 : decode cX3_comes 87 = .ok (.iload 5, 2) := by decide +kernel
theorem dX3_comes_89 : decode cX3_comes 89 = .ok (.iload 6, 2) := by decide +kernel
theorem dX3_comes_91 : decode cX3_comes 91 = .ok (.invokestatic 96, 3) := by decide +kernel
theorem dX3_comes_94 : decode cX3_comes 94 = .ok (.ireturn, 1) := by decide +kernel
set_option maxRecDepth 20000 in
theorem ggX3_proves_X3_isSeal : GoodIn wsX3_proves wsX3_isSeal := goodIn_r _ [9, 10, 11, 12, 8, 13, 41, 42, 43, 44, 45, 46, 47, 48, 49, 50, 51] (by decide +kernel) (by decide +kernel)
set_option maxRecDepth 20000 in
theorem gX3_proves_X3_isSeal : GoodIn wsX3_proves (wsV RX3 84 RX3 yX3_isSeal wsX3_isSeal) := goodIn_app (goodIn_of _ (by decide +kernel)) ggX3_proves_X3_isSeal
set_option maxRecDepth 20000 in
theorem ggX3_proves_X3_isDrawer : GoodIn wsX3_proves wsX3_isDrawer := goodIn_r _ [16, 11, 12, 8, 13] (by decide +kernel) (by decide +kernel)
set_option maxRecDepth 20000 in
theorem gX3_proves_X3_isDrawer : GoodIn wsX3_proves (va_wsS RX3 68 yX3_isDrawer wsX3_isDrawer) := goodIn_app (goodIn_of _ (by decide +kernel)) ggX3_proves_X3_isDrawer
set_option maxRecDepth 20000 in
theorem ggX3_proves_X3_isIn : GoodIn wsX3_proves wsX3_isIn := goodIn_r _ [13] (by decide +kernel) (by decide +kernel)
set_option maxRecDepth 20000 in
theorem gX3_proves_X3_isIn : GoodIn wsX3_proves (va_wsS RX3 38 yX3_isIn wsX3_isIn) := goodIn_app (goodIn_of _ (by decide +kernel)) ggX3_proves_X3_isIn
set_option maxRecDepth 20000 in
theorem ggX3_proves_X3_reckon : GoodIn wsX3_proves wsX3_reckon := goodIn_r _ [20, 21, 22, 23, 8, 24, 25, 26, 27, 28, 29, 30, 31, 41, 42, 43, 44, 45, 46, 47, 48, 49, 50, 51] (by decide +kernel) (by decide +kernel)
set_option maxRecDepth 20000 in
theorem gX3_proves_X3_reckon : GoodIn wsX3_proves (wsV RX3 56 RX3 yX3_reckon wsX3_reckon) := goodIn_app (goodIn_of _ (by decide +kernel)) ggX3_proves_X3_reckon
set_option maxRecDepth 20000 in
theorem ggX3_proves_X3_beside : GoodIn wsX3_proves wsX3_beside := goodIn_r _ [34] (by decide +kernel) (by decide +kernel)
set_option maxRecDepth 20000 in
theorem gX3_proves_X3_beside : GoodIn wsX3_proves (va_wsS RX3 90 yX3_beside wsX3_beside) := goodIn_app (goodIn_of _ (by decide +kernel)) ggX3_proves_X3_beside
set_option maxRecDepth 20000 in
theorem ggX3_proves_X3_way : GoodIn wsX3_proves wsX3_way := goodIn_r _ [37, 26, 27, 8, 28, 38, 39, 40, 29, 30, 31] (by decide +kernel) (by decide +kernel)
set_option maxRecDepth 20000 in
theorem gX3_proves_X3_way : GoodIn wsX3_proves (va_wsS RX3 96 yX3_way wsX3_way) := goodIn_app (goodIn_of _ (by decide +kernel)) ggX3_proves_X3_way
theorem dX3_proves_0 : decode cX3_proves 0 = .ok (.aload_n 0, 1) := by decide +kernel
theorem dX3_proves_1 : decode cX3_proves 1 = .ok (.aload_n 0, 1) := by decide +kernel
theorem dX3_proves_2 : decode cX3_proves 2 = .ok (.iload_n 1, 1) := by decide +kernel
theorem dX3_proves_3 : decode cX3_proves 3 = .ok (.invokevirtual 84, 3) := by decide +kernel
theorem dX3_proves_6 : decode cX3_proves 6 = .ok (.ifCond .eq 10, 3) := by decide +kernel
theorem dX3_proves_9 : decode cX3_proves 9 = .ok (.iload_n 2, 1) := by decide +kernel
theorem dX3_proves_10 : decode cX3_proves 10 = .ok (.invokestatic 68, 3) := by decide +kernel
theorem dX3_proves_13 : decode cX3_proves 13 = .ok (.ifCond .ne 7, 3) := by decide +kernel
theorem dX3_proves_16 : decode cX3_proves 16 = .ok (.iconst 1, 1) := by decide +kernel
theorem dX3_proves_17 : decode cX3_proves 17 = .ok (.goto 19, 3) := by decide +kernel
theorem dX3_proves_20 : decode cX3_proves 20 = .ok (.iload_n 3, 1) := by decide +kernel
theorem dX3_proves_21 : decode cX3_proves 21 = .ok (.iconst 0, 1) := by decide +kernel
theorem dX3_proves_22 : decode cX3_proves 22 = .ok (.sipush 9999, 3) := by decide +kernel
theorem dX3_proves_25 : decode cX3_proves 25 = .ok (.invokestatic 38, 3) := by decide +kernel
theorem dX3_proves_28 : decode cX3_proves 28 = .ok (.ifCond .ne 7, 3) := by decide +kernel
theorem dX3_proves_31 : decode cX3_proves 31 = .ok (.iconst 2, 1) := by decide +kernel
theorem dX3_proves_32 : decode cX3_proves 32 = .ok (.goto 4, 3) := by decide +kernel
theorem dX3_proves_35 : decode cX3_proves 35 = .ok (.iconst 0, 1) := by decide +kernel
theorem dX3_proves_36 : decode cX3_proves 36 = .ok (.putfield 31, 3) := by decide +kernel
theorem dX3_proves_39 : decode cX3_proves 39 = .ok (.aload_n 0, 1) := by decide +kernel
theorem dX3_proves_40 : decode cX3_proves 40 = .ok (.getfield 31, 3) := by decide +kernel
theorem dX3_proves_43 : decode cX3_proves 43 = .ok (.ifCond .eq 5, 3) := by decide +kernel
theorem dX3_proves_46 : decode cX3_proves 46 = .ok (.iconst 0, 1) := by decide +kernel
theorem dX3_proves_47 : decode cX3_proves 47 = .ok (.ireturn, 1) := by decide +kernel
theorem dX3_proves_48 : decode cX3_proves 48 = .ok (.aload_n 0, 1) := by decide +kernel
theorem dX3_proves_49 : decode cX3_proves 49 = .ok (.aload_n 0, 1) := by decide +kernel
theorem dX3_proves_50 : decode cX3_proves 50 = .ok (.getfield 16, 3) := by decide +kernel
theorem dX3_proves_53 : decode cX3_proves 53 = .ok (.iload_n 1, 1) := by decide +kernel
theorem dX3_proves_54 : decode cX3_proves 54 = .ok (.iaload, 1) := by decide +kernel
theorem dX3_proves_55 : decode cX3_proves 55 = .ok (.aload_n 0, 1) := by decide +kernel
theorem dX3_proves_56 : decode cX3_proves 56 = .ok (.getfield 25, 3) := by decide +kernel
theorem dX3_proves_59 : decode cX3_proves 59 = .ok (.invokevirtual 56, 3) := by decide +kernel
theorem dX3_proves_62 : decode cX3_proves 62 = .ok (.iload_n 2, 1) := by decide +kernel
theorem dX3_proves_63 : decode cX3_proves 63 = .ok (.iload_n 3, 1) := by decide +kernel
theorem dX3_proves_64 : decode cX3_proves 64 = .ok (.aload_n 0, 1) := by decide +kernel
theorem dX3_proves_65 : decode cX3_proves 65 = .ok (.getfield 25, 3) := by decide +kernel
theorem dX3_proves_68 : decode cX3_proves 68 = .ok (.iload_n 2, 1) := by decide +kernel
theorem dX3_proves_69 : decode cX3_proves 69 = .ok (.iconst 0, 1) := by decide +kernel
theorem dX3_proves_70 : decode cX3_proves 70 = .ok (.invokestatic 90, 3) := by decide +kernel
theorem dX3_proves_73 : decode cX3_proves 73 = .ok (.iaload, 1) := by decide +kernel
theorem dX3_proves_74 : decode cX3_proves 74 = .ok (.aload_n 0, 1) := by decide +kernel
theorem dX3_proves_75 : decode cX3_proves 75 = .ok (.getfield 25, 3) := by decide +kernel
theorem dX3_proves_78 : decode cX3_proves 78 = .ok (.iload_n 2, 1) := by decide +kernel
theorem dX3_proves_79 : decode cX3_proves 79 = .ok (.iconst 1, 1) := by decide +kernel
theorem dX3_proves_80 : decode cX3_proves 80 = .ok (.invokestatic 90, 3) := by decide +kernel
theorem dX3_proves_83 : decode cX3_proves 83 = .ok (.iaload, 1) := by decide +kernel
theorem dX3_proves_84 : decode cX3_proves 84 = .ok (.aload_n 0, 1) := by decide +kernel
theorem dX3_proves_85 : decode cX3_proves 85 = .ok (.getfield 25, 3) := by decide +kernel
theorem dX3_proves_88 : decode cX3_proves 88 = .ok (.iload_n 2, 1) := by decide +kernel
theorem dX3_proves_89 : decode cX3_proves 89 = .ok (.iconst 2, 1) := by decide +kernel
theorem dX3_proves_90 : decode cX3_proves 90 = .ok (.invokestatic 90, 3) := by decide +kernel
theorem dX3_proves_93 : decode cX3_proves 93 = .ok (.iaload, 1) := by decide +kernel
theorem dX3_proves_94 : decode cX3_proves 94 = .ok (.aload_n 0, 1) := by decide +kernel
theorem dX3_proves_95 : decode cX3_proves 95 = .ok (.getfield 25, 3) := by decide +kernel
theorem dX3_proves_98 : decode cX3_proves 98 = .ok (.iload_n 2, 1) := by decide +kernel
theorem dX3_proves_99 : decode cX3_proves 99 = .ok (.iconst 3, 1) := by decide +kernel
theorem dX3_proves_100 : decode cX3_proves 100 = .ok (.invokestatic 90, 3) := by decide +kernel
theorem dX3_proves_103 : decode cX3_proves 103 = .ok (.iaload, 1) := by decide +kernel
theorem dX3_proves_104 : decode cX3_proves 104 = .ok (.invokestatic 96, 3) := by decide +kernel
theorem dX3_proves_107 : decode cX3_proves 107 = .ok (.aload_n 0, 1) := by decide +kernel
theorem dX3_proves_108 : decode cX3_proves 108 = .ok (.getfield 19, 3) := by decide +kernel
theorem dX3_proves_111 : decode cX3_proves 111 = .ok (.iload_n 1, 1) := by decide +kernel
theorem dX3_proves_112 : decode cX3_proves 112 = .ok (.iaload, 1) := by decide +kernel
theorem dX3_proves_113 : decode cX3_proves 113 = .ok (.if_icmp .ne 7, 3) := by decide +kernel
theorem dX3_proves_116 : decode cX3_proves 116 = .ok (.iconst 1, 1) := by decide +kernel
theorem dX3_proves_117 : decode cX3_proves 117 = .ok (.goto 4, 3) := by decide +kernel
theorem dX3_proves_120 : decode cX3_proves 120 = .ok (.iconst 0, 1) := by decide +kernel
theorem dX3_proves_121 : decode cX3_proves 121 = .ok (.ireturn, 1) := by decide +kernel
set_option maxRecDepth 20000 in
theorem ggX3_compare_X3_compare : GoodIn wsX3_compare wsX3_compare := goodIn_r _ [0, 1, 2, 3, 4, 5, 6, 7, 8, 9, 10, 11, 12, 13, 14, 15, 16, 17, 18] (by decide +kernel) (by decide +kernel)
set_option maxRecDepth 20000 in
theorem gX3_compare_X3_compare : GoodIn wsX3_compare (wsV RX3 103 RX3 yX3_compare wsX3_compare) := goodIn_app (goodIn_of _ (by decide +kernel)) ggX3_compare_X3_compare
theorem dX3_compare_0 : decode cX3_compare 0 = .ok (.aload_n 0, 1) := by decide +kernel
theorem dX3_compare_1 : decode cX3_compare 1 = .ok (.dup, 1) := by decide +kernel
theorem dX3_compare_2 : decode cX3_compare 2 = .ok (.getfield 100, 3) := by decide +kernel
theorem dX3_compare_5 : decode cX3_compare 5 = .ok (.iconst 1, 1) := by decide +kernel
theorem dX3_compare_6 : decode cX3_compare 6 = .ok (.iadd, 1) := by decide +kernel
theorem dX3_compare_7 : decode cX3_compare 7 = .ok (.putfield 100, 3) := by decide +kernel
theorem dX3_compare_10 : decode cX3_compare 10 = .ok (.aload_n 0, 1) := by decide +kernel
theorem dX3_compare_11 : decode cX3_compare 11 = .ok (.getfield 25, 3) := by decide +kernel
theorem dX3_compare_14 : decode cX3_compare 14 = .ok (.iload_n 1, 1) := by decide +kernel
theorem dX3_compare_15 : decode cX3_compare 15 = .ok (.iaload, 1) := by decide +kernel
theorem dX3_compare_16 : decode cX3_compare 16 = .ok (.aload_n 0, 1) := by decide +kernel
theorem dX3_compare_17 : decode cX3_compare 17 = .ok (.getfield 28, 3) := by decide +kernel
theorem dX3_compare_20 : decode cX3_compare 20 = .ok (.iload_n 1, 1) := by decide +kernel
theorem dX3_compare_21 : decode cX3_compare 21 = .ok (.iaload, 1) := by decide +kernel
theorem dX3_compare_22 : decode cX3_compare 22 = .ok (.if_icmp .ne 5, 3) := by decide +kernel
theorem dX3_compare_25 : decode cX3_compare 25 = .ok (.iconst 0, 1) := by decide +kernel
theorem dX3_compare_26 : decode cX3_compare 26 = .ok (.ireturn, 1) := by decide +kernel
theorem dX3_compare_27 : decode cX3_compare 27 = .ok (.iload_n 1, 1) := by decide +kernel
theorem dX3_compare_28 : decode cX3_compare 28 = .ok (.bipush 16, 2) := by decide +kernel
theorem dX3_compare_30 : decode cX3_compare 30 = .ok (.if_icmp .ge 23, 3) := by decide +kernel
theorem dX3_compare_33 : decode cX3_compare 33 = .ok (.aload_n 0, 1) := by decide +kernel
theorem dX3_compare_34 : decode cX3_compare 34 = .ok (.iconst 2, 1) := by decide +kernel
theorem dX3_compare_35 : decode cX3_compare 35 = .ok (.iload_n 1, 1) := by decide +kernel
theorem dX3_compare_36 : decode cX3_compare 36 = .ok (.imul, 1) := by decide +kernel
theorem dX3_compare_37 : decode cX3_compare 37 = .ok (.invokevirtual 103, 3) := by decide +kernel
theorem dX3_compare_40 : decode cX3_compare 40 = .ok (.aload_n 0, 1) := by decide +kernel
theorem dX3_compare_41 : decode cX3_compare 41 = .ok (.iconst 2, 1) := by decide +kernel
theorem dX3_compare_42 : decode cX3_compare 42 = .ok (.iload_n 1, 1) := by decide +kernel
theorem dX3_compare_43 : decode cX3_compare 43 = .ok (.imul, 1) := by decide +kernel
theorem dX3_compare_44 : decode cX3_compare 44 = .ok (.iconst 1, 1) := by decide +kernel
theorem dX3_compare_45 : decode cX3_compare 45 = .ok (.iadd, 1) := by decide +kernel
theorem dX3_compare_46 : decode cX3_compare 46 = .ok (.invokevirtual 103, 3) := by decide +kernel
theorem dX3_compare_49 : decode cX3_compare 49 = .ok (.ior, 1) := by decide +kernel
theorem dX3_compare_50 : decode cX3_compare 50 = .ok (.goto 9, 3) := by decide +kernel
theorem dX3_compare_53 : decode cX3_compare 53 = .ok (.iconst 1, 1) := by decide +kernel
theorem dX3_compare_54 : decode cX3_compare 54 = .ok (.iload_n 1, 1) := by decide +kernel
theorem dX3_compare_55 : decode cX3_compare 55 = .ok (.bipush 16, 2) := by decide +kernel
theorem dX3_compare_57 : decode cX3_compare 57 = .ok (.isub, 1) := by decide +kernel
theorem dX3_compare_58 : decode cX3_compare 58 = .ok (.ishl, 1) := by decide +kernel
theorem dX3_compare_59 : decode cX3_compare 59 = .ok (.ireturn, 1) := by decide +kernel
set_option maxRecDepth 20000 in
theorem ggX3_differing_X3_reckon : GoodIn wsX3_differing wsX3_reckon := goodIn_r _ [8, 9, 10, 11, 7, 12, 13, 14, 15, 16, 17, 18, 19, 24, 25, 26, 27, 28, 29, 30, 31, 32, 33, 34] (by decide +kernel) (by decide +kernel)
set_option maxRecDepth 20000 in
theorem gX3_differing_X3_reckon : GoodIn wsX3_differing (wsV RX3 56 RX3 yX3_reckon wsX3_reckon) := goodIn_app (goodIn_of _ (by decide +kernel)) ggX3_differing_X3_reckon
set_option maxRecDepth 20000 in
theorem ggX3_differing_X3_compare : GoodIn wsX3_differing wsX3_compare := goodIn_r _ [23, 3, 1, 2, 20, 21, 22, 7, 24, 25, 26, 27, 28, 29, 30, 31, 32, 33, 34] (by decide +kernel) (by decide +kernel)
set_option maxRecDepth 20000 in
theorem gX3_differing_X3_compare : GoodIn wsX3_differing (wsV RX3 103 RX3 yX3_compare wsX3_compare) := goodIn_app (goodIn_of _ (by decide +kernel)) ggX3_differing_X3_compare
theorem dX3_differing_0 : decode cX3_differing 0 = .ok (.aload_n 0, 1) := by decide +kernel
theorem dX3_differing_1 : decode cX3_differing 1 = .ok (.iload_n 1, 1) := by decide +kernel
theorem dX3_differing_2 : decode cX3_differing 2 = .ok (.aload_n 0, 1) := by decide +kernel
theorem dX3_differing_3 : decode cX3_differing 3 = .ok (.getfield 25, 3) := by decide +kernel
theorem dX3_differing_6 : decode cX3_differing 6 = .ok (.invokevirtual 56, 3) := by decide +kernel
theorem dX3_differing_9 : decode cX3_differing 9 = .ok (.aload_n 0, 1) := by decide +kernel
theorem dX3_differing_10 : decode cX3_differing 10 = .ok (.iload_n 2, 1) := by decide +kernel
theorem dX3_differing_11 : decode cX3_differing 11 = .ok (.aload_n 0, 1) := by decide +kernel
theorem dX3_differing_12 : decode cX3_differing 12 = .ok (.getfield 28, 3) := by decide +kernel
theorem dX3_differing_15 : decode cX3_differing 15 = .ok (.invokevirtual 56, 3) := by decide +kernel
theorem dX3_differing_18 : decode cX3_differing 18 = .ok (.aload_n 0, 1) := by decide +kernel
theorem dX3_differing_19 : decode cX3_differing 19 = .ok (.iconst 0, 1) := by decide +kernel
theorem dX3_differing_20 : decode cX3_differing 20 = .ok (.putfield 100, 3) := by decide +kernel
theorem dX3_differing_23 : decode cX3_differing 23 = .ok (.aload_n 0, 1) := by decide +kernel
theorem dX3_differing_24 : decode cX3_differing 24 = .ok (.iconst 1, 1) := by decide +kernel
theorem dX3_differing_25 : decode cX3_differing 25 = .ok (.invokevirtual 103, 3) := by decide +kernel
theorem dX3_differing_28 : decode cX3_differing 28 = .ok (.ireturn, 1) := by decide +kernel
set_option maxRecDepth 20000 in
theorem ggX3_differ_X3_isCupboard : GoodIn wsX3_differ wsX3_isCupboard := goodIn_r _ [6, 7, 8, 9, 5, 10, 41, 42, 43, 44, 45, 46, 47, 48, 49, 50, 51] (by decide +kernel) (by decide +kernel)
set_option maxRecDepth 20000 in
theorem gX3_differ_X3_isCupboard : GoodIn wsX3_differ (wsV RX3 64 RX3 yX3_isCupboard wsX3_isCupboard) := goodIn_app (goodIn_of _ (by decide +kernel)) ggX3_differ_X3_isCupboard
set_option maxRecDepth 20000 in
theorem ggX3_differ_X3_differing : GoodIn wsX3_differ wsX3_differing := goodIn_r _ [14, 15, 16, 17, 18, 19, 20, 5, 21, 22, 23, 24, 25, 26, 27, 28, 29, 30, 31, 32, 33, 34, 35, 36, 41, 42, 43, 44, 45, 46, 47, 48, 49, 50, 51] (by decide +kernel) (by decide +kernel)
set_option maxRecDepth 20000 in
theorem gX3_differ_X3_differing : GoodIn wsX3_differ (wsV RX3 106 RX3 yX3_differing wsX3_differing) := goodIn_app (goodIn_of _ (by decide +kernel)) ggX3_differ_X3_differing
set_option maxRecDepth 20000 in
theorem ggX3_differ_X3_fail : GoodIn wsX3_differ wsX3_fail := goodIn_r _ [40, 1, 41, 42, 43, 44, 45, 46, 47, 48, 49, 50, 51] (by decide +kernel) (by decide +kernel)
set_option maxRecDepth 20000 in
theorem gX3_differ_X3_fail : GoodIn wsX3_differ (wsV RX3 60 RX3 yX3_fail wsX3_fail) := goodIn_app (goodIn_of _ (by decide +kernel)) ggX3_differ_X3_fail
theorem dX3_differ_0 : decode cX3_differ 0 = .ok (.aload_n 0, 1) := by decide +kernel
theorem dX3_differ_1 : decode cX3_differ 1 = .ok (.iconst 0, 1) := by decide +kernel
theorem dX3_differ_2 : decode cX3_differ 2 = .ok (.putfield 31, 3) := by decide +kernel
theorem dX3_differ_5 : decode cX3_differ 5 = .ok (.aload_n 0, 1) := by decide +kernel
theorem dX3_differ_6 : decode cX3_differ 6 = .ok (.iload_n 1, 1) := by decide +kernel
theorem dX3_differ_7 : decode cX3_differ 7 = .ok (.invokevirtual 64, 3) := by decide +kernel
theorem dX3_differ_10 : decode cX3_differ 10 = .ok (.ifCond .eq 20, 3) := by decide +kernel
theorem dX3_differ_13 : decode cX3_differ 13 = .ok (.aload_n 0, 1) := by decide +kernel
theorem dX3_differ_14 : decode cX3_differ 14 = .ok (.iload_n 2, 1) := by decide +kernel
theorem dX3_differ_15 : decode cX3_differ 15 = .ok (.invokevirtual 64, 3) := by decide +kernel
theorem dX3_differ_18 : decode cX3_differ 18 = .ok (.ifCond .eq 12, 3) := by decide +kernel
theorem dX3_differ_21 : decode cX3_differ 21 = .ok (.aload_n 0, 1) := by decide +kernel
theorem dX3_differ_22 : decode cX3_differ 22 = .ok (.iload_n 1, 1) := by decide +kernel
theorem dX3_differ_23 : decode cX3_differ 23 = .ok (.iload_n 2, 1) := by decide +kernel
theorem dX3_differ_24 : decode cX3_differ 24 = .ok (.invokevirtual 106, 3) := by decide +kernel
theorem dX3_differ_27 : decode cX3_differ 27 = .ok (.goto 8, 3) := by decide +kernel
theorem dX3_differ_30 : decode cX3_differ 30 = .ok (.aload_n 0, 1) := by decide +kernel
theorem dX3_differ_31 : decode cX3_differ 31 = .ok (.iconst 1, 1) := by decide +kernel
theorem dX3_differ_32 : decode cX3_differ 32 = .ok (.invokevirtual 60, 3) := by decide +kernel
theorem dX3_differ_35 : decode cX3_differ 35 = .ok (.ireturn, 1) := by decide +kernel
set_option maxRecDepth 20000 in
theorem ggX3_looks_X3_isCupboard : GoodIn wsX3_looks wsX3_isCupboard := goodIn_r _ [7, 8, 9, 10, 6, 11, 41, 42, 43, 44, 45, 46, 47, 48, 49, 50, 51] (by decide +kernel) (by decide +kernel)
set_option maxRecDepth 20000 in
theorem gX3_looks_X3_isCupboard : GoodIn wsX3_looks (wsV RX3 64 RX3 yX3_isCupboard wsX3_isCupboard) := goodIn_app (goodIn_of _ (by decide +kernel)) ggX3_looks_X3_isCupboard
set_option maxRecDepth 20000 in
theorem ggX3_looks_X3_fail : GoodIn wsX3_looks wsX3_fail := goodIn_r _ [15, 1, 41, 42, 43, 44, 45, 46, 47, 48, 49, 50, 51] (by decide +kernel) (by decide +kernel)
set_option maxRecDepth 20000 in
theorem gX3_looks_X3_fail : GoodIn wsX3_looks (wsV RX3 60 RX3 yX3_fail wsX3_fail) := goodIn_app (goodIn_of _ (by decide +kernel)) ggX3_looks_X3_fail
set_option maxRecDepth 20000 in
theorem ggX3_looks_X3_differing : GoodIn wsX3_looks wsX3_differing := goodIn_r _ [19, 20, 21, 2, 22, 23, 24, 6, 25, 26, 27, 28, 29, 30, 31, 32, 33, 34, 35, 36, 37, 38, 39, 40, 41, 42, 43, 44, 45, 46, 47, 48, 49, 50, 51] (by decide +kernel) (by decide +kernel)
set_option maxRecDepth 20000 in
theorem gX3_looks_X3_differing : GoodIn wsX3_looks (wsV RX3 106 RX3 yX3_differing wsX3_differing) := goodIn_app (goodIn_of _ (by decide +kernel)) ggX3_looks_X3_differing
theorem dX3_looks_0 : decode cX3_looks 0 = .ok (.aload_n 0, 1) := by decide +kernel
theorem dX3_looks_1 : decode cX3_looks 1 = .ok (.iconst 0, 1) := by decide +kernel
theorem dX3_looks_2 : decode cX3_looks 2 = .ok (.putfield 31, 3) := by decide +kernel
theorem dX3_looks_5 : decode cX3_looks 5 = .ok (.aload_n 0, 1) := by decide +kernel
theorem dX3_looks_6 : decode cX3_looks 6 = .ok (.iload_n 1, 1) := by decide +kernel
theorem dX3_looks_7 : decode cX3_looks 7 = .ok (.invokevirtual 64, 3) := by decide +kernel
theorem dX3_looks_10 : decode cX3_looks 10 = .ok (.ifCond .eq 11, 3) := by decide +kernel
theorem dX3_looks_13 : decode cX3_looks 13 = .ok (.aload_n 0, 1) := by decide +kernel
theorem dX3_looks_14 : decode cX3_looks 14 = .ok (.iload_n 2, 1) := by decide +kernel
theorem dX3_looks_15 : decode cX3_looks 15 = .ok (.invokevirtual 64, 3) := by decide +kernel
theorem dX3_looks_18 : decode cX3_looks 18 = .ok (.ifCond .ne 9, 3) := by decide +kernel
theorem dX3_looks_21 : decode cX3_looks 21 = .ok (.aload_n 0, 1) := by decide +kernel
theorem dX3_looks_22 : decode cX3_looks 22 = .ok (.iconst 1, 1) := by decide +kernel
theorem dX3_looks_23 : decode cX3_looks 23 = .ok (.invokevirtual 60, 3) := by decide +kernel
theorem dX3_looks_26 : decode cX3_looks 26 = .ok (.ireturn, 1) := by decide +kernel
theorem dX3_looks_27 : decode cX3_looks 27 = .ok (.aload_n 0, 1) := by decide +kernel
theorem dX3_looks_28 : decode cX3_looks 28 = .ok (.iload_n 1, 1) := by decide +kernel
theorem dX3_looks_29 : decode cX3_looks 29 = .ok (.iload_n 2, 1) := by decide +kernel
theorem dX3_looks_30 : decode cX3_looks 30 = .ok (.invokevirtual 106, 3) := by decide +kernel
theorem dX3_looks_33 : decode cX3_looks 33 = .ok (.pop, 1) := by decide +kernel
theorem dX3_looks_34 : decode cX3_looks 34 = .ok (.aload_n 0, 1) := by decide +kernel
theorem dX3_looks_35 : decode cX3_looks 35 = .ok (.getfield 100, 3) := by decide +kernel
theorem dX3_looks_38 : decode cX3_looks 38 = .ok (.ireturn, 1) := by decide +kernel
set_option maxRecDepth 20000 in
theorem ggX3_mend_X3_isCupboard : GoodIn wsX3_mend wsX3_isCupboard := goodIn_r _ [6, 7, 8, 9, 5, 10, 46, 47, 48, 49, 50, 51, 52, 53, 54, 55, 56] (by decide +kernel) (by decide +kernel)
set_option maxRecDepth 20000 in
theorem gX3_mend_X3_isCupboard : GoodIn wsX3_mend (wsV RX3 64 RX3 yX3_isCupboard wsX3_isCupboard) := goodIn_app (goodIn_of _ (by decide +kernel)) ggX3_mend_X3_isCupboard
set_option maxRecDepth 20000 in
theorem ggX3_mend_X3_fail : GoodIn wsX3_mend wsX3_fail := goodIn_r _ [14, 1, 46, 47, 48, 49, 50, 51, 52, 53, 54, 55, 56] (by decide +kernel) (by decide +kernel)
set_option maxRecDepth 20000 in
theorem gX3_mend_X3_fail : GoodIn wsX3_mend (wsV RX3 60 RX3 yX3_fail wsX3_fail) := goodIn_app (goodIn_of _ (by decide +kernel)) ggX3_mend_X3_fail
set_option maxRecDepth 20000 in
theorem ggX3_mend_X3_differing : GoodIn wsX3_mend wsX3_differing := goodIn_r _ [18, 19, 20, 21, 22, 23, 24, 5, 25, 26, 27, 28, 29, 30, 31, 32, 33, 34, 35, 36, 37, 38, 39, 40, 46, 47, 48, 49, 50, 51, 52, 53, 54, 55, 56] (by decide +kernel) (by decide +kernel)
set_option maxRecDepth 20000 in
theorem gX3_mend_X3_differing : GoodIn wsX3_mend (wsV RX3 106 RX3 yX3_differing wsX3_differing) := goodIn_app (goodIn_of _ (by decide +kernel)) ggX3_mend_X3_differing
set_option maxRecDepth 20000 in
theorem ggX3_mend_X3_th : GoodIn wsX3_mend wsX3_th := goodIn_r _ [29, 30, 46, 47, 48, 49, 50, 51, 52, 53, 54, 55, 56] (by decide +kernel) (by decide +kernel)
set_option maxRecDepth 20000 in
theorem gX3_mend_X3_th : GoodIn wsX3_mend (wsV RX3 45 RX3 yX3_th wsX3_th) := goodIn_app (goodIn_of _ (by decide +kernel)) ggX3_mend_X3_th
set_option maxRecDepth 20000 in
theorem ggX3_mend_X3_lay : GoodIn wsX3_mend wsX3_lay := goodIn_r _ [44, 30, 45, 26, 27, 28, 5, 29, 46, 47, 48, 49, 50, 51, 52, 53, 54, 55, 56] (by decide +kernel) (by decide +kernel)
set_option maxRecDepth 20000 in
theorem gX3_mend_X3_lay : GoodIn wsX3_mend (wsV RX3 71 RX3 yX3_lay wsX3_lay) := goodIn_app (goodIn_of _ (by decide +kernel)) ggX3_mend_X3_lay
theorem dX3_mend_0 : decode cX3_mend 0 = .ok (.aload_n 0, 1) := by decide +kernel
theorem dX3_mend_1 : decode cX3_mend 1 = .ok (.iconst 0, 1) := by decide +kernel
theorem dX3_mend_2 : decode cX3_mend 2 = .ok (.putfield 31, 3) := by decide +kernel
theorem dX3_mend_5 : decode cX3_mend 5 = .ok (.aload_n 0, 1) := by decide +kernel
theorem dX3_mend_6 : decode cX3_mend 6 = .ok (.iload_n 1, 1) := by decide +kernel
theorem dX3_mend_7 : decode cX3_mend 7 = .ok (.invokevirtual 64, 3) := by decide +kernel
theorem dX3_mend_10 : decode cX3_mend 10 = .ok (.ifCond .eq 11, 3) := by decide +kernel
theorem dX3_mend_13 : decode cX3_mend 13 = .ok (.aload_n 0, 1) := by decide +kernel
theorem dX3_mend_14 : decode cX3_mend 14 = .ok (.iload_n 2, 1) := by decide +kernel
theorem dX3_mend_15 : decode cX3_mend 15 = .ok (.invokevirtual 64, 3) := by decide +kernel
theorem dX3_mend_18 : decode cX3_mend 18 = .ok (.ifCond .ne 9, 3) := by decide +kernel
theorem dX3_mend_21 : decode cX3_mend 21 = .ok (.aload_n 0, 1) := by decide +kernel
theorem dX3_mend_22 : decode cX3_mend 22 = .ok (.iconst 1, 1) := by decide +kernel
theorem dX3_mend_23 : decode cX3_mend 23 = .ok (.invokevirtual 60, 3) := by decide +kernel
theorem dX3_mend_26 : decode cX3_mend 26 = .ok (.ireturn, 1) := by decide +kernel
theorem dX3_mend_27 : decode cX3_mend 27 = .ok (.aload_n 0, 1) := by decide +kernel
theorem dX3_mend_28 : decode cX3_mend 28 = .ok (.iload_n 1, 1) := by decide +kernel
theorem dX3_mend_29 : decode cX3_mend 29 = .ok (.iload_n 2, 1) := by decide +kernel
theorem dX3_mend_30 : decode cX3_mend 30 = .ok (.invokevirtual 106, 3) := by decide +kernel
theorem dX3_mend_33 : decode cX3_mend 33 = .ok (.istore_n 3, 1) := by decide +kernel
theorem dX3_mend_34 : decode cX3_mend 34 = .ok (.iconst 0, 1) := by decide +kernel
theorem dX3_mend_35 : decode cX3_mend 35 = .ok (.istore 4, 2) := by decide +kernel
theorem dX3_mend_37 : decode cX3_mend 37 = .ok (.iconst 0, 1) := by decide +kernel
theorem dX3_mend_38 : decode cX3_mend 38 = .ok (.istore 5, 2) := by decide +kernel
theorem dX3_mend_40 : decode cX3_mend 40 = .ok (.iload 5, 2) := by decide +kernel
theorem dX3_mend_42 : decode cX3_mend 42 = .ok (.bipush 16, 2) := by decide +kernel
theorem dX3_mend_44 : decode cX3_mend 44 = .ok (.if_icmp .ge 46, 3) := by decide +kernel
theorem dX3_mend_47 : decode cX3_mend 47 = .ok (.iload 4, 2) := by decide +kernel
theorem dX3_mend_49 : decode cX3_mend 49 = .ok (.iload_n 3, 1) := by decide +kernel
theorem dX3_mend_50 : decode cX3_mend 50 = .ok (.iload 5, 2) := by decide +kernel
theorem dX3_mend_52 : decode cX3_mend 52 = .ok (.ishr, 1) := by decide +kernel
theorem dX3_mend_53 : decode cX3_mend 53 = .ok (.iconst 1, 1) := by decide +kernel
theorem dX3_mend_54 : decode cX3_mend 54 = .ok (.iand, 1) := by decide +kernel
theorem dX3_mend_55 : decode cX3_mend 55 = .ok (.iconst 1, 1) := by decide +kernel
theorem dX3_mend_56 : decode cX3_mend 56 = .ok (.if_icmp .ne 24, 3) := by decide +kernel
theorem dX3_mend_59 : decode cX3_mend 59 = .ok (.aload_n 0, 1) := by decide +kernel
theorem dX3_mend_60 : decode cX3_mend 60 = .ok (.iload_n 2, 1) := by decide +kernel
theorem dX3_mend_61 : decode cX3_mend 61 = .ok (.iload 5, 2) := by decide +kernel
theorem dX3_mend_63 : decode cX3_mend 63 = .ok (.aload_n 0, 1) := by decide +kernel
theorem dX3_mend_64 : decode cX3_mend 64 = .ok (.iload_n 1, 1) := by decide +kernel
theorem dX3_mend_65 : decode cX3_mend 65 = .ok (.iload 5, 2) := by decide +kernel
theorem dX3_mend_67 : decode cX3_mend 67 = .ok (.invokevirtual 45, 3) := by decide +kernel
theorem dX3_mend_70 : decode cX3_mend 70 = .ok (.invokevirtual 71, 3) := by decide +kernel
theorem dX3_mend_73 : decode cX3_mend 73 = .ok (.ifCond .eq 7, 3) := by decide +kernel
theorem dX3_mend_76 : decode cX3_mend 76 = .ok (.iconst 1, 1) := by decide +kernel
theorem dX3_mend_77 : decode cX3_mend 77 = .ok (.goto 4, 3) := by decide +kernel
theorem dX3_mend_80 : decode cX3_mend 80 = .ok (.iconst 0, 1) := by decide +kernel
theorem dX3_mend_81 : decode cX3_mend 81 = .ok (.iadd, 1) := by decide +kernel
theorem dX3_mend_82 : decode cX3_mend 82 = .ok (.istore 4, 2) := by decide +kernel
theorem dX3_mend_84 : decode cX3_mend 84 = .ok (.iinc 5 1, 3) := by decide +kernel
theorem dX3_mend_87 : decode cX3_mend 87 = .ok (.goto (-47), 3) := by decide +kernel
theorem dX3_mend_90 : decode cX3_mend 90 = .ok (.iload 4, 2) := by decide +kernel
theorem dX3_mend_92 : decode cX3_mend 92 = .ok (.ireturn, 1) := by decide +kernel
set_option maxRecDepth 20000 in
theorem ggX3_swapped_X3_isSeal : GoodIn wsX3_swapped wsX3_isSeal := goodIn_r _ [8, 9, 10, 11, 7, 12, 41, 42, 43, 44, 45, 46, 47, 48, 49, 50, 51] (by decide +kernel) (by decide +kernel)
set_option maxRecDepth 20000 in
theorem gX3_swapped_X3_isSeal : GoodIn wsX3_swapped (wsV RX3 84 RX3 yX3_isSeal wsX3_isSeal) := goodIn_app (goodIn_of _ (by decide +kernel)) ggX3_swapped_X3_isSeal
set_option maxRecDepth 20000 in
theorem ggX3_swapped_X3_fail : GoodIn wsX3_swapped wsX3_fail := goodIn_r _ [16, 1, 41, 42, 43, 44, 45, 46, 47, 48, 49, 50, 51] (by decide +kernel) (by decide +kernel)
set_option maxRecDepth 20000 in
theorem gX3_swapped_X3_fail : GoodIn wsX3_swapped (wsV RX3 60 RX3 yX3_fail wsX3_fail) := goodIn_app (goodIn_of _ (by decide +kernel)) ggX3_swapped_X3_fail
set_option maxRecDepth 20000 in
theorem ggX3_swapped_X3_root : GoodIn wsX3_swapped wsX3_root := goodIn_r _ [20, 21, 22, 23, 24, 7, 25, 26, 27, 28, 29, 30, 31, 32, 33, 34, 35, 36, 41, 42, 43, 44, 45, 46, 47, 48, 49, 50, 51] (by decide +kernel) (by decide +kernel)
set_option maxRecDepth 20000 in
theorem gX3_swapped_X3_root : GoodIn wsX3_swapped (wsV RX3 78 RX3 yX3_root wsX3_root) := goodIn_app (goodIn_of _ (by decide +kernel)) ggX3_swapped_X3_root
set_option maxRecDepth 20000 in
theorem ggX3_swapped_X3_exchange : GoodIn wsX3_swapped wsX3_exchange := goodIn_r _ [40, 30, 26, 27, 28, 7, 29, 41, 42, 43, 44, 45, 46, 47, 48, 49, 50, 51] (by decide +kernel) (by decide +kernel)
set_option maxRecDepth 20000 in
theorem gX3_swapped_X3_exchange : GoodIn wsX3_swapped (wsV RX3 74 RX3 yX3_exchange wsX3_exchange) := goodIn_app (goodIn_of _ (by decide +kernel)) ggX3_swapped_X3_exchange
theorem dX3_swapped_0 : decode cX3_swapped 0 = .ok (.aload_n 0, 1) := by decide +kernel
theorem dX3_swapped_1 : decode cX3_swapped 1 = .ok (.iconst 0, 1) := by decide +kernel
theorem dX3_swapped_2 : decode cX3_swapped 2 = .ok (.putfield 31, 3) := by decide +kernel
theorem dX3_swapped_5 : decode cX3_swapped 5 = .ok (.aload_n 0, 1) := by decide +kernel
theorem dX3_swapped_6 : decode cX3_swapped 6 = .ok (.iload_n 1, 1) := by decide +kernel
theorem dX3_swapped_7 : decode cX3_swapped 7 = .ok (.invokevirtual 84, 3) := by decide +kernel
theorem dX3_swapped_10 : decode cX3_swapped 10 = .ok (.ifCond .ne 9, 3) := by decide +kernel
theorem dX3_swapped_13 : decode cX3_swapped 13 = .ok (.aload_n 0, 1) := by decide +kernel
theorem dX3_swapped_14 : decode cX3_swapped 14 = .ok (.iconst 1, 1) := by decide +kernel
theorem dX3_swapped_15 : decode cX3_swapped 15 = .ok (.invokevirtual 60, 3) := by decide +kernel
theorem dX3_swapped_18 : decode cX3_swapped 18 = .ok (.ireturn, 1) := by decide +kernel
theorem dX3_swapped_19 : decode cX3_swapped 19 = .ok (.aload_n 0, 1) := by decide +kernel
theorem dX3_swapped_20 : decode cX3_swapped 20 = .ok (.getfield 16, 3) := by decide +kernel
theorem dX3_swapped_23 : decode cX3_swapped 23 = .ok (.iload_n 1, 1) := by decide +kernel
theorem dX3_swapped_24 : decode cX3_swapped 24 = .ok (.iaload, 1) := by decide +kernel
theorem dX3_swapped_25 : decode cX3_swapped 25 = .ok (.istore_n 2, 1) := by decide +kernel
theorem dX3_swapped_26 : decode cX3_swapped 26 = .ok (.aload_n 0, 1) := by decide +kernel
theorem dX3_swapped_27 : decode cX3_swapped 27 = .ok (.iload_n 2, 1) := by decide +kernel
theorem dX3_swapped_28 : decode cX3_swapped 28 = .ok (.invokevirtual 78, 3) := by decide +kernel
theorem dX3_swapped_31 : decode cX3_swapped 31 = .ok (.aload_n 0, 1) := by decide +kernel
theorem dX3_swapped_32 : decode cX3_swapped 32 = .ok (.getfield 19, 3) := by decide +kernel
theorem dX3_swapped_35 : decode cX3_swapped 35 = .ok (.iload_n 1, 1) := by decide +kernel
theorem dX3_swapped_36 : decode cX3_swapped 36 = .ok (.iaload, 1) := by decide +kernel
theorem dX3_swapped_37 : decode cX3_swapped 37 = .ok (.if_icmp .ne 5, 3) := by decide +kernel
theorem dX3_swapped_40 : decode cX3_swapped 40 = .ok (.iconst (-1), 1) := by decide +kernel
theorem dX3_swapped_41 : decode cX3_swapped 41 = .ok (.ireturn, 1) := by decide +kernel
theorem dX3_swapped_42 : decode cX3_swapped 42 = .ok (.iconst 0, 1) := by decide +kernel
theorem dX3_swapped_43 : decode cX3_swapped 43 = .ok (.istore_n 3, 1) := by decide +kernel
theorem dX3_swapped_44 : decode cX3_swapped 44 = .ok (.iload_n 3, 1) := by decide +kernel
theorem dX3_swapped_45 : decode cX3_swapped 45 = .ok (.bipush 16, 2) := by decide +kernel
theorem dX3_swapped_47 : decode cX3_swapped 47 = .ok (.if_icmp .ge 69, 3) := by decide +kernel
theorem dX3_swapped_50 : decode cX3_swapped 50 = .ok (.iload_n 3, 1) := by decide +kernel
theorem dX3_swapped_51 : decode cX3_swapped 51 = .ok (.iconst 1, 1) := by decide +kernel
theorem dX3_swapped_52 : decode cX3_swapped 52 = .ok (.iadd, 1) := by decide +kernel
theorem dX3_swapped_53 : decode cX3_swapped 53 = .ok (.istore 4, 2) := by decide +kernel
theorem dX3_swapped_55 : decode cX3_swapped 55 = .ok (.iload 4, 2) := by decide +kernel
theorem dX3_swapped_57 : decode cX3_swapped 57 = .ok (.bipush 16, 2) := by decide +kernel
theorem dX3_swapped_59 : decode cX3_swapped 59 = .ok (.if_icmp .ge 51, 3) := by decide +kernel
theorem dX3_swapped_62 : decode cX3_swapped 62 = .ok (.aload_n 0, 1) := by decide +kernel
theorem dX3_swapped_63 : decode cX3_swapped 63 = .ok (.iload_n 2, 1) := by decide +kernel
theorem dX3_swapped_64 : decode cX3_swapped 64 = .ok (.iload_n 3, 1) := by decide +kernel
theorem dX3_swapped_65 : decode cX3_swapped 65 = .ok (.iload 4, 2) := by decide +kernel
theorem dX3_swapped_67 : decode cX3_swapped 67 = .ok (.invokevirtual 74, 3) := by decide +kernel
theorem dX3_swapped_70 : decode cX3_swapped 70 = .ok (.aload_n 0, 1) := by decide +kernel
theorem dX3_swapped_71 : decode cX3_swapped 71 = .ok (.iload_n 2, 1) := by decide +kernel
theorem dX3_swapped_72 : decode cX3_swapped 72 = .ok (.invokevirtual 78, 3) := by decide +kernel
theorem dX3_swapped_75 : decode cX3_swapped 75 = .ok (.istore 5, 2) := by decide +kernel
theorem dX3_swapped_77 : decode cX3_swapped 77 = .ok (.aload_n 0, 1) := by decide +kernel
theorem dX3_swapped_78 : decode cX3_swapped 78 = .ok (.iload_n 2, 1) := by decide +kernel
theorem dX3_swapped_79 : decode cX3_swapped 79 = .ok (.iload_n 3, 1) := by decide +kernel
theorem dX3_swapped_80 : decode cX3_swapped 80 = .ok (.iload 4, 2) := by decide +kernel
theorem dX3_swapped_82 : decode cX3_swapped 82 = .ok (.invokevirtual 74, 3) := by decide +kernel
theorem dX3_swapped_85 : decode cX3_swapped 85 = .ok (.iload 5, 2) := by decide +kernel
theorem dX3_swapped_87 : decode cX3_swapped 87 = .ok (.aload_n 0, 1) := by decide +kernel
theorem dX3_swapped_88 : decode cX3_swapped 88 = .ok (.getfield 19, 3) := by decide +kernel
theorem dX3_swapped_91 : decode cX3_swapped 91 = .ok (.iload_n 1, 1) := by decide +kernel
theorem dX3_swapped_92 : decode cX3_swapped 92 = .ok (.iaload, 1) := by decide +kernel
theorem dX3_swapped_93 : decode cX3_swapped 93 = .ok (.if_icmp .ne 11, 3) := by decide +kernel
theorem dX3_swapped_96 : decode cX3_swapped 96 = .ok (.bipush 16, 2) := by decide +kernel
theorem dX3_swapped_98 : decode cX3_swapped 98 = .ok (.iload_n 3, 1) := by decide +kernel
theorem dX3_swapped_99 : decode cX3_swapped 99 = .ok (.imul, 1) := by decide +kernel
theorem dX3_swapped_100 : decode cX3_swapped 100 = .ok (.iload 4, 2) := by decide +kernel
theorem dX3_swapped_102 : decode cX3_swapped 102 = .ok (.iadd, 1) := by decide +kernel
theorem dX3_swapped_103 : decode cX3_swapped 103 = .ok (.ireturn, 1) := by decide +kernel
theorem dX3_swapped_104 : decode cX3_swapped 104 = .ok (.iinc 4 1, 3) := by decide +kernel
theorem dX3_swapped_107 : decode cX3_swapped 107 = .ok (.goto (-52), 3) := by decide +kernel
theorem dX3_swapped_110 : decode cX3_swapped 110 = .ok (.iinc 3 1, 3) := by decide +kernel
theorem dX3_swapped_113 : decode cX3_swapped 113 = .ok (.goto (-69), 3) := by decide +kernel
theorem dX3_swapped_116 : decode cX3_swapped 116 = .ok (.iconst (-1), 1) := by decide +kernel
theorem dX3_swapped_117 : decode cX3_swapped 117 = .ok (.ireturn, 1) := by decide +kernel
set_option maxRecDepth 20000 in
theorem ggX3_counted_X3_root : GoodIn wsX3_counted wsX3_root := goodIn_r _ [8, 9, 10, 11, 12, 7, 13, 14, 15, 16, 17, 18, 19, 20, 21, 22, 23, 24, 25, 26, 27, 28, 29, 30, 31, 32, 33, 34, 35] (by decide +kernel) (by decide +kernel)
set_option maxRecDepth 20000 in
theorem gX3_counted_X3_root : GoodIn wsX3_counted (wsV RX3 78 RX3 yX3_root wsX3_root) := goodIn_app (goodIn_of _ (by decide +kernel)) ggX3_counted_X3_root
theorem dX3_counted_0 : decode cX3_counted 0 = .ok (.iconst 0, 1) := by decide +kernel
theorem dX3_counted_1 : decode cX3_counted 1 = .ok (.istore_n 2, 1) := by decide +kernel
theorem dX3_counted_2 : decode cX3_counted 2 = .ok (.iload_n 1, 1) := by decide +kernel
theorem dX3_counted_3 : decode cX3_counted 3 = .ok (.tableswitch 114 0 2 #[25, 30, 35], 25) := by decide +kernel
theorem dX3_counted_28 : decode cX3_counted 28 = .ok (.aload_n 0, 1) := by decide +kernel
theorem dX3_counted_29 : decode cX3_counted 29 = .ok (.getfield 35, 3) := by decide +kernel
theorem dX3_counted_32 : decode cX3_counted 32 = .ok (.ireturn, 1) := by decide +kernel
theorem dX3_counted_33 : decode cX3_counted 33 = .ok (.aload_n 0, 1) := by decide +kernel
theorem dX3_counted_34 : decode cX3_counted 34 = .ok (.getfield 42, 3) := by decide +kernel
theorem dX3_counted_37 : decode cX3_counted 37 = .ok (.ireturn, 1) := by decide +kernel
theorem dX3_counted_38 : decode cX3_counted 38 = .ok (.iconst 0, 1) := by decide +kernel
theorem dX3_counted_39 : decode cX3_counted 39 = .ok (.istore_n 3, 1) := by decide +kernel
theorem dX3_counted_40 : decode cX3_counted 40 = .ok (.iload_n 3, 1) := by decide +kernel
theorem dX3_counted_41 : decode cX3_counted 41 = .ok (.aload_n 0, 1) := by decide +kernel
theorem dX3_counted_42 : decode cX3_counted 42 = .ok (.getfield 35, 3) := by decide +kernel
theorem dX3_counted_45 : decode cX3_counted 45 = .ok (.if_icmp .ge 70, 3) := by decide +kernel
theorem dX3_counted_48 : decode cX3_counted 48 = .ok (.aload_n 0, 1) := by decide +kernel
theorem dX3_counted_49 : decode cX3_counted 49 = .ok (.iload_n 3, 1) := by decide +kernel
theorem dX3_counted_50 : decode cX3_counted 50 = .ok (.invokevirtual 78, 3) := by decide +kernel
theorem dX3_counted_53 : decode cX3_counted 53 = .ok (.istore 4, 2) := by decide +kernel
theorem dX3_counted_55 : decode cX3_counted 55 = .ok (.iconst 1, 1) := by decide +kernel
theorem dX3_counted_56 : decode cX3_counted 56 = .ok (.istore 5, 2) := by decide +kernel
theorem dX3_counted_58 : decode cX3_counted 58 = .ok (.iconst 0, 1) := by decide +kernel
theorem dX3_counted_59 : decode cX3_counted 59 = .ok (.istore 6, 2) := by decide +kernel
theorem dX3_counted_61 : decode cX3_counted 61 = .ok (.iload 6, 2) := by decide +kernel
theorem dX3_counted_63 : decode cX3_counted 63 = .ok (.iload_n 3, 1) := by decide +kernel
theorem dX3_counted_64 : decode cX3_counted 64 = .ok (.if_icmp .ge 32, 3) := by decide +kernel
theorem dX3_counted_67 : decode cX3_counted 67 = .ok (.iload 5, 2) := by decide +kernel
theorem dX3_counted_69 : decode cX3_counted 69 = .ok (.ifCond .eq 18, 3) := by decide +kernel
theorem dX3_counted_72 : decode cX3_counted 72 = .ok (.aload_n 0, 1) := by decide +kernel
theorem dX3_counted_73 : decode cX3_counted 73 = .ok (.iload 6, 2) := by decide +kernel
theorem dX3_counted_75 : decode cX3_counted 75 = .ok (.invokevirtual 78, 3) := by decide +kernel
theorem dX3_counted_78 : decode cX3_counted 78 = .ok (.iload 4, 2) := by decide +kernel
theorem dX3_counted_80 : decode cX3_counted 80 = .ok (.if_icmp .eq 7, 3) := by decide +kernel
theorem dX3_counted_83 : decode cX3_counted 83 = .ok (.iconst 1, 1) := by decide +kernel
theorem dX3_counted_84 : decode cX3_counted 84 = .ok (.goto 4, 3) := by decide +kernel
theorem dX3_counted_87 : decode cX3_counted 87 = .ok (.iconst 0, 1) := by decide +kernel
theorem dX3_counted_88 : decode cX3_counted 88 = .ok (.istore 5, 2) := by decide +kernel
theorem dX3_counted_90 : decode cX3_counted 90 = .ok (.iinc 6 1, 3) := by decide +kernel
theorem dX3_counted_93 : decode cX3_counted 93 = .ok (.goto (-32), 3) := by decide +kernel
theorem dX3_counted_96 : decode cX3_counted 96 = .ok (.iload_n 2, 1) := by decide +kernel
theorem dX3_counted_97 : decode cX3_counted 97 = .ok (.iload 5, 2) := by decide +kernel
theorem dX3_counted_99 : decode cX3_counted 99 = .ok (.ifCond .eq 7, 3) := by decide +kernel
theorem dX3_counted_102 : decode cX3_counted 102 = .ok (.iconst 1, 1) := by decide +kernel
theorem dX3_counted_103 : decode cX3_counted 103 = .ok (.goto 4, 3) := by decide +kernel
theorem dX3_counted_106 : decode cX3_counted 106 = .ok (.iconst 0, 1) := by decide +kernel
theorem dX3_counted_107 : decode cX3_counted 107 = .ok (.iadd, 1) := by decide +kernel
theorem dX3_counted_108 : decode cX3_counted 108 = .ok (.istore_n 2, 1) := by decide +kernel
theorem dX3_counted_109 : decode cX3_counted 109 = .ok (.iinc 3 1, 3) := by decide +kernel
theorem dX3_counted_112 : decode cX3_counted 112 = .ok (.goto (-72), 3) := by decide +kernel
theorem dX3_counted_115 : decode cX3_counted 115 = .ok (.iload_n 2, 1) := by decide +kernel
theorem dX3_counted_116 : decode cX3_counted 116 = .ok (.ireturn, 1) := by decide +kernel
theorem dX3_counted_117 : decode cX3_counted 117 = .ok (.iconst 0, 1) := by decide +kernel
theorem dX3_counted_118 : decode cX3_counted 118 = .ok (.istore_n 3, 1) := by decide +kernel
theorem dX3_counted_119 : decode cX3_counted 119 = .ok (.iload_n 3, 1) := by decide +kernel
theorem dX3_counted_120 : decode cX3_counted 120 = .ok (.aload_n 0, 1) := by decide +kernel
theorem dX3_counted_121 : decode cX3_counted 121 = .ok (.getfield 35, 3) := by decide +kernel
theorem dX3_counted_124 : decode cX3_counted 124 = .ok (.if_icmp .ge 18, 3) := by decide +kernel
theorem dX3_counted_127 : decode cX3_counted 127 = .ok (.iload_n 2, 1) := by decide +kernel
theorem dX3_counted_128 : decode cX3_counted 128 = .ok (.aload_n 0, 1) := by decide +kernel
theorem dX3_counted_129 : decode cX3_counted 129 = .ok (.getfield 13, 3) := by decide +kernel
theorem dX3_counted_132 : decode cX3_counted 132 = .ok (.iload_n 3, 1) := by decide +kernel
theorem dX3_counted_133 : decode cX3_counted 133 = .ok (.iaload, 1) := by decide +kernel
theorem dX3_counted_134 : decode cX3_counted 134 = .ok (.iadd, 1) := by decide +kernel
theorem dX3_counted_135 : decode cX3_counted 135 = .ok (.istore_n 2, 1) := by decide +kernel
theorem dX3_counted_136 : decode cX3_counted 136 = .ok (.iinc 3 1, 3) := by decide +kernel
theorem dX3_counted_139 : decode cX3_counted 139 = .ok (.goto (-20), 3) := by decide +kernel
theorem dX3_counted_142 : decode cX3_counted 142 = .ok (.iload_n 2, 1) := by decide +kernel
theorem dX3_counted_143 : decode cX3_counted 143 = .ok (.ireturn, 1) := by decide +kernel
set_option maxRecDepth 20000 in
theorem ggX3_count_X3_isIn : GoodIn wsX3_count wsX3_isIn := goodIn_r _ [5] (by decide +kernel) (by decide +kernel)
set_option maxRecDepth 20000 in
theorem gX3_count_X3_isIn : GoodIn wsX3_count (va_wsS RX3 38 yX3_isIn wsX3_isIn) := goodIn_app (goodIn_of _ (by decide +kernel)) ggX3_count_X3_isIn
set_option maxRecDepth 20000 in
theorem ggX3_count_X3_counted : GoodIn wsX3_count wsX3_counted := goodIn_r _ [9, 10, 11, 12, 13, 14, 15, 4, 16, 17, 18, 19, 20, 21, 22, 23, 24, 25, 26, 27, 28, 29, 30, 31, 32, 37, 38, 39, 40, 41, 42, 43, 44, 45, 46, 47] (by decide +kernel) (by decide +kernel)
set_option maxRecDepth 20000 in
theorem gX3_count_X3_counted : GoodIn wsX3_count (wsV RX3 109 RX3 yX3_counted wsX3_counted) := goodIn_app (goodIn_of _ (by decide +kernel)) ggX3_count_X3_counted
set_option maxRecDepth 20000 in
theorem ggX3_count_X3_fail : GoodIn wsX3_count wsX3_fail := goodIn_r _ [36, 1, 37, 38, 39, 40, 41, 42, 43, 44, 45, 46, 47] (by decide +kernel) (by decide +kernel)
set_option maxRecDepth 20000 in
theorem gX3_count_X3_fail : GoodIn wsX3_count (wsV RX3 60 RX3 yX3_fail wsX3_fail) := goodIn_app (goodIn_of _ (by decide +kernel)) ggX3_count_X3_fail
theorem dX3_count_0 : decode cX3_count 0 = .ok (.aload_n 0, 1) := by decide +kernel
theorem dX3_count_1 : decode cX3_count 1 = .ok (.iconst 0, 1) := by decide +kernel
theorem dX3_count_2 : decode cX3_count 2 = .ok (.putfield 31, 3) := by decide +kernel
theorem dX3_count_5 : decode cX3_count 5 = .ok (.iload_n 1, 1) := by decide +kernel
theorem dX3_count_6 : decode cX3_count 6 = .ok (.iconst 0, 1) := by decide +kernel
theorem dX3_count_7 : decode cX3_count 7 = .ok (.iconst 3, 1) := by decide +kernel
theorem dX3_count_8 : decode cX3_count 8 = .ok (.invokestatic 38, 3) := by decide +kernel
theorem dX3_count_11 : decode cX3_count 11 = .ok (.ifCond .eq 11, 3) := by decide +kernel
theorem dX3_count_14 : decode cX3_count 14 = .ok (.aload_n 0, 1) := by decide +kernel
theorem dX3_count_15 : decode cX3_count 15 = .ok (.iload_n 1, 1) := by decide +kernel
theorem dX3_count_16 : decode cX3_count 16 = .ok (.invokevirtual 109, 3) := by decide +kernel
theorem dX3_count_19 : decode cX3_count 19 = .ok (.goto 8, 3) := by decide +kernel
theorem dX3_count_22 : decode cX3_count 22 = .ok (.aload_n 0, 1) := by decide +kernel
theorem dX3_count_23 : decode cX3_count 23 = .ok (.iconst 1, 1) := by decide +kernel
theorem dX3_count_24 : decode cX3_count 24 = .ok (.invokevirtual 60, 3) := by decide +kernel
theorem dX3_count_27 : decode cX3_count 27 = .ok (.ireturn, 1) := by decide +kernel
set_option maxRecDepth 20000 in
theorem ggX3_mean_X3_reckon : GoodIn wsX3_mean wsX3_reckon := goodIn_r _ [8, 9, 10, 11, 7, 12, 13, 14, 15, 16, 17, 18, 19, 20, 21, 22, 23, 24, 25, 26, 27, 28, 29, 30] (by decide +kernel) (by decide +kernel)
set_option maxRecDepth 20000 in
theorem gX3_mean_X3_reckon : GoodIn wsX3_mean (wsV RX3 56 RX3 yX3_reckon wsX3_reckon) := goodIn_app (goodIn_of _ (by decide +kernel)) ggX3_mean_X3_reckon
theorem dX3_mean_0 : decode cX3_mean 0 = .ok (.aload_n 0, 1) := by decide +kernel
theorem dX3_mean_1 : decode cX3_mean 1 = .ok (.iconst 0, 1) := by decide +kernel
theorem dX3_mean_2 : decode cX3_mean 2 = .ok (.putfield 31, 3) := by decide +kernel
theorem dX3_mean_5 : decode cX3_mean 5 = .ok (.iconst 0, 1) := by decide +kernel
theorem dX3_mean_6 : decode cX3_mean 6 = .ok (.istore_n 1, 1) := by decide +kernel
theorem dX3_mean_7 : decode cX3_mean 7 = .ok (.iconst 0, 1) := by decide +kernel
theorem dX3_mean_8 : decode cX3_mean 8 = .ok (.istore_n 2, 1) := by decide +kernel
theorem dX3_mean_9 : decode cX3_mean 9 = .ok (.iload_n 2, 1) := by decide +kernel
theorem dX3_mean_10 : decode cX3_mean 10 = .ok (.aload_n 0, 1) := by decide +kernel
theorem dX3_mean_11 : decode cX3_mean 11 = .ok (.getfield 35, 3) := by decide +kernel
theorem dX3_mean_14 : decode cX3_mean 14 = .ok (.if_icmp .ge 41, 3) := by decide +kernel
theorem dX3_mean_17 : decode cX3_mean 17 = .ok (.aload_n 0, 1) := by decide +kernel
theorem dX3_mean_18 : decode cX3_mean 18 = .ok (.iload_n 2, 1) := by decide +kernel
theorem dX3_mean_19 : decode cX3_mean 19 = .ok (.aload_n 0, 1) := by decide +kernel
theorem dX3_mean_20 : decode cX3_mean 20 = .ok (.getfield 25, 3) := by decide +kernel
theorem dX3_mean_23 : decode cX3_mean 23 = .ok (.invokevirtual 56, 3) := by decide +kernel
theorem dX3_mean_26 : decode cX3_mean 26 = .ok (.iconst 1, 1) := by decide +kernel
theorem dX3_mean_27 : decode cX3_mean 27 = .ok (.istore_n 3, 1) := by decide +kernel
theorem dX3_mean_28 : decode cX3_mean 28 = .ok (.iload_n 3, 1) := by decide +kernel
theorem dX3_mean_29 : decode cX3_mean 29 = .ok (.bipush 32, 2) := by decide +kernel
theorem dX3_mean_31 : decode cX3_mean 31 = .ok (.if_icmp .ge 18, 3) := by decide +kernel
theorem dX3_mean_34 : decode cX3_mean 34 = .ok (.iload_n 1, 1) := by decide +kernel
theorem dX3_mean_35 : decode cX3_mean 35 = .ok (.aload_n 0, 1) := by decide +kernel
theorem dX3_mean_36 : decode cX3_mean 36 = .ok (.getfield 25, 3) := by decide +kernel
theorem dX3_mean_39 : decode cX3_mean 39 = .ok (.iload_n 3, 1) := by decide +kernel
theorem dX3_mean_40 : decode cX3_mean 40 = .ok (.iaload, 1) := by decide +kernel
theorem dX3_mean_41 : decode cX3_mean 41 = .ok (.iadd, 1) := by decide +kernel
theorem dX3_mean_42 : decode cX3_mean 42 = .ok (.istore_n 1, 1) := by decide +kernel
theorem dX3_mean_43 : decode cX3_mean 43 = .ok (.iinc 3 1, 3) := by decide +kernel
theorem dX3_mean_46 : decode cX3_mean 46 = .ok (.goto (-18), 3) := by decide +kernel
theorem dX3_mean_49 : decode cX3_mean 49 = .ok (.iinc 2 1, 3) := by decide +kernel
theorem dX3_mean_52 : decode cX3_mean 52 = .ok (.goto (-43), 3) := by decide +kernel
theorem dX3_mean_55 : decode cX3_mean 55 = .ok (.aload_n 0, 1) := by decide +kernel
theorem dX3_mean_56 : decode cX3_mean 56 = .ok (.getfield 35, 3) := by decide +kernel
theorem dX3_mean_59 : decode cX3_mean 59 = .ok (.ifCond .ne 7, 3) := by decide +kernel
theorem dX3_mean_62 : decode cX3_mean 62 = .ok (.dconst 0, 1) := by decide +kernel
theorem dX3_mean_63 : decode cX3_mean 63 = .ok (.goto 14, 3) := by decide +kernel
theorem dX3_mean_66 : decode cX3_mean 66 = .ok (.iload_n 1, 1) := by decide +kernel
theorem dX3_mean_67 : decode cX3_mean 67 = .ok (.i2d, 1) := by decide +kernel
theorem dX3_mean_68 : decode cX3_mean 68 = .ok (.bipush 31, 2) := by decide +kernel
theorem dX3_mean_70 : decode cX3_mean 70 = .ok (.aload_n 0, 1) := by decide +kernel
theorem dX3_mean_71 : decode cX3_mean 71 = .ok (.getfield 35, 3) := by decide +kernel
theorem dX3_mean_74 : decode cX3_mean 74 = .ok (.imul, 1) := by decide +kernel
theorem dX3_mean_75 : decode cX3_mean 75 = .ok (.i2d, 1) := by decide +kernel
theorem dX3_mean_76 : decode cX3_mean 76 = .ok (.ddiv, 1) := by decide +kernel
theorem dX3_mean_77 : decode cX3_mean 77 = .ok (.dreturn, 1) := by decide +kernel
set_option maxRecDepth 20000 in
theorem ggX3_digest_X3_counted : GoodIn wsX3_digest wsX3_counted := goodIn_r _ [10, 4, 5, 11, 12, 13, 14, 9, 15, 16, 17, 18, 19, 20, 21, 22, 23, 24, 25, 26, 27, 28, 29, 30, 31, 43, 44, 45, 46, 47, 48, 49, 50, 51, 52, 53] (by decide +kernel) (by decide +kernel)
set_option maxRecDepth 20000 in
theorem gX3_digest_X3_counted : GoodIn wsX3_digest (wsV RX3 109 RX3 yX3_counted wsX3_counted) := goodIn_app (goodIn_of _ (by decide +kernel)) ggX3_digest_X3_counted
set_option maxRecDepth 20000 in
theorem ggX3_digest_X3_toldOf : GoodIn wsX3_digest wsX3_toldOf := goodIn_r _ [35, 11, 5, 36, 37, 12, 13, 14, 9, 15, 16, 17, 18, 19, 20, 21, 22, 23, 24, 25, 26, 27, 28, 29, 30, 31, 43, 44, 45, 46, 47, 48, 49, 50, 51, 52, 53] (by decide +kernel) (by decide +kernel)
set_option maxRecDepth 20000 in
theorem gX3_digest_X3_toldOf : GoodIn wsX3_digest (wsV RX3 81 RX3 yX3_toldOf wsX3_toldOf) := goodIn_app (goodIn_of _ (by decide +kernel)) ggX3_digest_X3_toldOf
set_option maxRecDepth 20000 in
theorem ggX3_digest_X3_th : GoodIn wsX3_digest wsX3_th := goodIn_r _ [24, 25, 43, 44, 45, 46, 47, 48, 49, 50, 51, 52, 53] (by decide +kernel) (by decide +kernel)
set_option maxRecDepth 20000 in
theorem gX3_digest_X3_th : GoodIn wsX3_digest (wsV RX3 45 RX3 yX3_th wsX3_th) := goodIn_app (goodIn_of _ (by decide +kernel)) ggX3_digest_X3_th
set_option maxRecDepth 20000 in
theorem ggX3_digest_X3_sealTold : GoodIn wsX3_digest wsX3_sealTold := goodIn_r _ [41, 36, 37, 42, 11, 43, 44, 45, 46, 47, 48, 49, 50, 51, 52, 53] (by decide +kernel) (by decide +kernel)
set_option maxRecDepth 20000 in
theorem gX3_digest_X3_sealTold : GoodIn wsX3_digest (wsV RX3 87 RX3 yX3_sealTold wsX3_sealTold) := goodIn_app (goodIn_of _ (by decide +kernel)) ggX3_digest_X3_sealTold
theorem dX3_digest_0 : decode cX3_digest 0 = .ok (.aload_n 0, 1) := by decide +kernel
theorem dX3_digest_1 : decode cX3_digest 1 = .ok (.iconst 0, 1) := by decide +kernel
theorem dX3_digest_2 : decode cX3_digest 2 = .ok (.putfield 31, 3) := by decide +kernel
theorem dX3_digest_5 : decode cX3_digest 5 = .ok (.ldc2_w 112, 3) := by decide +kernel
theorem dX3_digest_8 : decode cX3_digest 8 = .ok (.lstore_n 1, 1) := by decide +kernel
theorem dX3_digest_9 : decode cX3_digest 9 = .ok (.iconst 0, 1) := by decide +kernel
theorem dX3_digest_10 : decode cX3_digest 10 = .ok (.istore_n 3, 1) := by decide +kernel
theorem dX3_digest_11 : decode cX3_digest 11 = .ok (.iload_n 3, 1) := by decide +kernel
theorem dX3_digest_12 : decode cX3_digest 12 = .ok (.iconst 4, 1) := by decide +kernel
theorem dX3_digest_13 : decode cX3_digest 13 = .ok (.if_icmp .ge 22, 3) := by decide +kernel
theorem dX3_digest_16 : decode cX3_digest 16 = .ok (.lload_n 1, 1) := by decide +kernel
theorem dX3_digest_17 : decode cX3_digest 17 = .ok (.ldc2_w 114, 3) := by decide +kernel
theorem dX3_digest_20 : decode cX3_digest 20 = .ok (.lmul, 1) := by decide +kernel
theorem dX3_digest_21 : decode cX3_digest 21 = .ok (.aload_n 0, 1) := by decide +kernel
theorem dX3_digest_22 : decode cX3_digest 22 = .ok (.iload_n 3, 1) := by decide +kernel
theorem dX3_digest_23 : decode cX3_digest 23 = .ok (.invokevirtual 109, 3) := by decide +kernel
theorem dX3_digest_26 : decode cX3_digest 26 = .ok (.i2l, 1) := by decide +kernel
theorem dX3_digest_27 : decode cX3_digest 27 = .ok (.ladd, 1) := by decide +kernel
theorem dX3_digest_28 : decode cX3_digest 28 = .ok (.lstore_n 1, 1) := by decide +kernel
theorem dX3_digest_29 : decode cX3_digest 29 = .ok (.iinc 3 1, 3) := by decide +kernel
theorem dX3_digest_32 : decode cX3_digest 32 = .ok (.goto (-21), 3) := by decide +kernel
theorem dX3_digest_35 : decode cX3_digest 35 = .ok (.iconst 0, 1) := by decide +kernel
theorem dX3_digest_36 : decode cX3_digest 36 = .ok (.istore_n 3, 1) := by decide +kernel
theorem dX3_digest_37 : decode cX3_digest 37 = .ok (.iload_n 3, 1) := by decide +kernel
theorem dX3_digest_38 : decode cX3_digest 38 = .ok (.aload_n 0, 1) := by decide +kernel
theorem dX3_digest_39 : decode cX3_digest 39 = .ok (.getfield 35, 3) := by decide +kernel
theorem dX3_digest_42 : decode cX3_digest 42 = .ok (.if_icmp .ge 71, 3) := by decide +kernel
theorem dX3_digest_45 : decode cX3_digest 45 = .ok (.iconst 0, 1) := by decide +kernel
theorem dX3_digest_46 : decode cX3_digest 46 = .ok (.istore 4, 2) := by decide +kernel
theorem dX3_digest_48 : decode cX3_digest 48 = .ok (.iload 4, 2) := by decide +kernel
theorem dX3_digest_50 : decode cX3_digest 50 = .ok (.bipush 6, 2) := by decide +kernel
theorem dX3_digest_52 : decode cX3_digest 52 = .ok (.if_icmp .ge 24, 3) := by decide +kernel
theorem dX3_digest_55 : decode cX3_digest 55 = .ok (.lload_n 1, 1) := by decide +kernel
theorem dX3_digest_56 : decode cX3_digest 56 = .ok (.ldc2_w 114, 3) := by decide +kernel
theorem dX3_digest_59 : decode cX3_digest 59 = .ok (.lmul, 1) := by decide +kernel
theorem dX3_digest_60 : decode cX3_digest 60 = .ok (.aload_n 0, 1) := by decide +kernel
theorem dX3_digest_61 : decode cX3_digest 61 = .ok (.iload_n 3, 1) := by decide +kernel
theorem dX3_digest_62 : decode cX3_digest 62 = .ok (.iload 4, 2) := by decide +kernel
theorem dX3_digest_64 : decode cX3_digest 64 = .ok (.invokevirtual 81, 3) := by decide +kernel
theorem dX3_digest_67 : decode cX3_digest 67 = .ok (.i2l, 1) := by decide +kernel
theorem dX3_digest_68 : decode cX3_digest 68 = .ok (.ladd, 1) := by decide +kernel
theorem dX3_digest_69 : decode cX3_digest 69 = .ok (.lstore_n 1, 1) := by decide +kernel
theorem dX3_digest_70 : decode cX3_digest 70 = .ok (.iinc 4 1, 3) := by decide +kernel
theorem dX3_digest_73 : decode cX3_digest 73 = .ok (.goto (-25), 3) := by decide +kernel
theorem dX3_digest_76 : decode cX3_digest 76 = .ok (.iconst 0, 1) := by decide +kernel
theorem dX3_digest_77 : decode cX3_digest 77 = .ok (.istore 4, 2) := by decide +kernel
theorem dX3_digest_79 : decode cX3_digest 79 = .ok (.iload 4, 2) := by decide +kernel
theorem dX3_digest_81 : decode cX3_digest 81 = .ok (.bipush 16, 2) := by decide +kernel
theorem dX3_digest_83 : decode cX3_digest 83 = .ok (.if_icmp .ge 24, 3) := by decide +kernel
theorem dX3_digest_86 : decode cX3_digest 86 = .ok (.lload_n 1, 1) := by decide +kernel
theorem dX3_digest_87 : decode cX3_digest 87 = .ok (.ldc2_w 114, 3) := by decide +kernel
theorem dX3_digest_90 : decode cX3_digest 90 = .ok (.lmul, 1) := by decide +kernel
theorem dX3_digest_91 : decode cX3_digest 91 = .ok (.aload_n 0, 1) := by decide +kernel
theorem dX3_digest_92 : decode cX3_digest 92 = .ok (.iload_n 3, 1) := by decide +kernel
theorem dX3_digest_93 : decode cX3_digest 93 = .ok (.iload 4, 2) := by decide +kernel
theorem dX3_digest_95 : decode cX3_digest 95 = .ok (.invokevirtual 45, 3) := by decide +kernel
theorem dX3_digest_98 : decode cX3_digest 98 = .ok (.i2l, 1) := by decide +kernel
theorem dX3_digest_99 : decode cX3_digest 99 = .ok (.ladd, 1) := by decide +kernel
theorem dX3_digest_100 : decode cX3_digest 100 = .ok (.lstore_n 1, 1) := by decide +kernel
theorem dX3_digest_101 : decode cX3_digest 101 = .ok (.iinc 4 1, 3) := by decide +kernel
theorem dX3_digest_104 : decode cX3_digest 104 = .ok (.goto (-25), 3) := by decide +kernel
theorem dX3_digest_107 : decode cX3_digest 107 = .ok (.iinc 3 1, 3) := by decide +kernel
theorem dX3_digest_110 : decode cX3_digest 110 = .ok (.goto (-73), 3) := by decide +kernel
theorem dX3_digest_113 : decode cX3_digest 113 = .ok (.iconst 0, 1) := by decide +kernel
theorem dX3_digest_114 : decode cX3_digest 114 = .ok (.istore_n 3, 1) := by decide +kernel
theorem dX3_digest_115 : decode cX3_digest 115 = .ok (.iload_n 3, 1) := by decide +kernel
theorem dX3_digest_116 : decode cX3_digest 116 = .ok (.aload_n 0, 1) := by decide +kernel
theorem dX3_digest_117 : decode cX3_digest 117 = .ok (.getfield 42, 3) := by decide +kernel
theorem dX3_digest_120 : decode cX3_digest 120 = .ok (.if_icmp .ge 39, 3) := by decide +kernel
theorem dX3_digest_123 : decode cX3_digest 123 = .ok (.iconst 0, 1) := by decide +kernel
theorem dX3_digest_124 : decode cX3_digest 124 = .ok (.istore 4, 2) := by decide +kernel
theorem dX3_digest_126 : decode cX3_digest 126 = .ok (.iload 4, 2) := by decide +kernel
theorem dX3_digest_128 : decode cX3_digest 128 = .ok (.iconst 4, 1) := by decide +kernel
theorem dX3_digest_129 : decode cX3_digest 129 = .ok (.if_icmp .ge 24, 3) := by decide +kernel
theorem dX3_digest_132 : decode cX3_digest 132 = .ok (.lload_n 1, 1) := by decide +kernel
theorem dX3_digest_133 : decode cX3_digest 133 = .ok (.ldc2_w 114, 3) := by decide +kernel
theorem dX3_digest_136 : decode cX3_digest 136 = .ok (.lmul, 1) := by decide +kernel
theorem dX3_digest_137 : decode cX3_digest 137 = .ok (.aload_n 0, 1) := by decide +kernel
theorem dX3_digest_138 : decode cX3_digest 138 = .ok (.iload_n 3, 1) := by decide +kernel
theorem dX3_digest_139 : decode cX3_digest 139 = .ok (.iload 4, 2) := by decide +kernel
theorem dX3_digest_141 : decode cX3_digest 141 = .ok (.invokevirtual 87, 3) := by decide +kernel
theorem dX3_digest_144 : decode cX3_digest 144 = .ok (.i2l, 1) := by decide +kernel
theorem dX3_digest_145 : decode cX3_digest 145 = .ok (.ladd, 1) := by decide +kernel
theorem dX3_digest_146 : decode cX3_digest 146 = .ok (.lstore_n 1, 1) := by decide +kernel
theorem dX3_digest_147 : decode cX3_digest 147 = .ok (.iinc 4 1, 3) := by decide +kernel
theorem dX3_digest_150 : decode cX3_digest 150 = .ok (.goto (-24), 3) := by decide +kernel
theorem dX3_digest_153 : decode cX3_digest 153 = .ok (.iinc 3 1, 3) := by decide +kernel
theorem dX3_digest_156 : decode cX3_digest 156 = .ok (.goto (-41), 3) := by decide +kernel
theorem dX3_digest_159 : decode cX3_digest 159 = .ok (.lload_n 1, 1) := by decide +kernel
theorem dX3_digest_160 : decode cX3_digest 160 = .ok (.lreturn, 1) := by decide +kernel
theorem dJ6_bitCount_0f7a4_0 : decode cJ6_bitCount_0f7a4 0 = .ok (.iload_n 0, 1) := by decide +kernel
theorem dJ6_bitCount_0f7a4_1 : decode cJ6_bitCount_0f7a4 1 = .ok (.iload_n 0, 1) := by decide +kernel
theorem dJ6_bitCount_0f7a4_2 : decode cJ6_bitCount_0f7a4 2 = .ok (.iconst 1, 1) := by decide +kernel
theorem dJ6_bitCount_0f7a4_3 : decode cJ6_bitCount_0f7a4 3 = .ok (.iushr, 1) := by decide +kernel
theorem dJ6_bitCount_0f7a4_4 : decode cJ6_bitCount_0f7a4 4 = .ok (.ldc_w 265, 3) := by decide +kernel
theorem dJ6_bitCount_0f7a4_7 : decode cJ6_bitCount_0f7a4 7 = .ok (.iand, 1) := by decide +kernel
theorem dJ6_bitCount_0f7a4_8 : decode cJ6_bitCount_0f7a4 8 = .ok (.isub, 1) := by decide +kernel
theorem dJ6_bitCount_0f7a4_9 : decode cJ6_bitCount_0f7a4 9 = .ok (.istore_n 0, 1) := by decide +kernel
theorem dJ6_bitCount_0f7a4_10 : decode cJ6_bitCount_0f7a4 10 = .ok (.iload_n 0, 1) := by decide +kernel
theorem dJ6_bitCount_0f7a4_11 : decode cJ6_bitCount_0f7a4 11 = .ok (.ldc_w 266, 3) := by decide +kernel
theorem dJ6_bitCount_0f7a4_14 : decode cJ6_bitCount_0f7a4 14 = .ok (.iand, 1) := by decide +kernel
theorem dJ6_bitCount_0f7a4_15 : decode cJ6_bitCount_0f7a4 15 = .ok (.iload_n 0, 1) := by decide +kernel
theorem dJ6_bitCount_0f7a4_16 : decode cJ6_bitCount_0f7a4 16 = .ok (.iconst 2, 1) := by decide +kernel
theorem dJ6_bitCount_0f7a4_17 : decode cJ6_bitCount_0f7a4 17 = .ok (.iushr, 1) := by decide +kernel
theorem dJ6_bitCount_0f7a4_18 : decode cJ6_bitCount_0f7a4 18 = .ok (.ldc_w 266, 3) := by decide +kernel
theorem dJ6_bitCount_0f7a4_21 : decode cJ6_bitCount_0f7a4 21 = .ok (.iand, 1) := by decide +kernel
theorem dJ6_bitCount_0f7a4_22 : decode cJ6_bitCount_0f7a4 22 = .ok (.iadd, 1) := by decide +kernel
theorem dJ6_bitCount_0f7a4_23 : decode cJ6_bitCount_0f7a4 23 = .ok (.istore_n 0, 1) := by decide +kernel
theorem dJ6_bitCount_0f7a4_24 : decode cJ6_bitCount_0f7a4 24 = .ok (.iload_n 0, 1) := by decide +kernel
theorem dJ6_bitCount_0f7a4_25 : decode cJ6_bitCount_0f7a4 25 = .ok (.iload_n 0, 1) := by decide +kernel
theorem dJ6_bitCount_0f7a4_26 : decode cJ6_bitCount_0f7a4 26 = .ok (.iconst 4, 1) := by decide +kernel
theorem dJ6_bitCount_0f7a4_27 : decode cJ6_bitCount_0f7a4 27 = .ok (.iushr, 1) := by decide +kernel
theorem dJ6_bitCount_0f7a4_28 : decode cJ6_bitCount_0f7a4 28 = .ok (.iadd, 1) := by decide +kernel
theorem dJ6_bitCount_0f7a4_29 : decode cJ6_bitCount_0f7a4 29 = .ok (.ldc_w 267, 3) := by decide +kernel
theorem dJ6_bitCount_0f7a4_32 : decode cJ6_bitCount_0f7a4 32 = .ok (.iand, 1) := by decide +kernel
theorem dJ6_bitCount_0f7a4_33 : decode cJ6_bitCount_0f7a4 33 = .ok (.istore_n 0, 1) := by decide +kernel
theorem dJ6_bitCount_0f7a4_34 : decode cJ6_bitCount_0f7a4 34 = .ok (.iload_n 0, 1) := by decide +kernel
theorem dJ6_bitCount_0f7a4_35 : decode cJ6_bitCount_0f7a4 35 = .ok (.iload_n 0, 1) := by decide +kernel
theorem dJ6_bitCount_0f7a4_36 : decode cJ6_bitCount_0f7a4 36 = .ok (.bipush 8, 2) := by decide +kernel
theorem dJ6_bitCount_0f7a4_38 : decode cJ6_bitCount_0f7a4 38 = .ok (.iushr, 1) := by decide +kernel
theorem dJ6_bitCount_0f7a4_39 : decode cJ6_bitCount_0f7a4 39 = .ok (.iadd, 1) := by decide +kernel
theorem dJ6_bitCount_0f7a4_40 : decode cJ6_bitCount_0f7a4 40 = .ok (.istore_n 0, 1) := by decide +kernel
theorem dJ6_bitCount_0f7a4_41 : decode cJ6_bitCount_0f7a4 41 = .ok (.iload_n 0, 1) := by decide +kernel
theorem dJ6_bitCount_0f7a4_42 : decode cJ6_bitCount_0f7a4 42 = .ok (.iload_n 0, 1) := by decide +kernel
theorem dJ6_bitCount_0f7a4_43 : decode cJ6_bitCount_0f7a4 43 = .ok (.bipush 16, 2) := by decide +kernel
theorem dJ6_bitCount_0f7a4_45 : decode cJ6_bitCount_0f7a4 45 = .ok (.iushr, 1) := by decide +kernel
theorem dJ6_bitCount_0f7a4_46 : decode cJ6_bitCount_0f7a4 46 = .ok (.iadd, 1) := by decide +kernel
theorem dJ6_bitCount_0f7a4_47 : decode cJ6_bitCount_0f7a4 47 = .ok (.istore_n 0, 1) := by decide +kernel
theorem dJ6_bitCount_0f7a4_48 : decode cJ6_bitCount_0f7a4 48 = .ok (.iload_n 0, 1) := by decide +kernel
theorem dJ6_bitCount_0f7a4_49 : decode cJ6_bitCount_0f7a4 49 = .ok (.bipush 63, 2) := by decide +kernel
theorem dJ6_bitCount_0f7a4_51 : decode cJ6_bitCount_0f7a4 51 = .ok (.iand, 1) := by decide +kernel
theorem dJ6_bitCount_0f7a4_52 : decode cJ6_bitCount_0f7a4 52 = .ok (.ireturn, 1) := by decide +kernel
