set_option maxRecDepth 20000 in
theorem ggX3_sum_X3_sum : GoodIn wsX3_sum wsX3_sum := goodIn_r _ [0, 1, 2, 3] (by decide +kernel) (by decide +kernel)
set_option maxRecDepth 20000 in
theorem gX3_sum_X3_sum : GoodIn wsX3_sum (va_wsS RX3 21 yX3_sum wsX3_sum) := goodIn_app (goodIn_of _ (by decide +kernel)) ggX3_sum_X3_sum
theorem dX3_sum_0 : decode cX3_sum 0 = .ok (.iload_n 1, 1) := by decide +kernel
theorem dX3_sum_1 : decode cX3_sum 1 = .ok (.bipush 15, 2) := by decide +kernel
theorem dX3_sum_3 : decode cX3_sum 3 = .ok (.if_icmp .le 25, 3) := by decide +kernel
theorem dX3_sum_6 : decode cX3_sum 6 = .ok (.bipush 37, 2) := by decide +kernel
theorem dX3_sum_8 : decode cX3_sum 8 = .ok (.aload_n 0, 1) := by decide +kernel
theorem dX3_sum_9 : decode cX3_sum 9 = .ok (.iload_n 1, 1) := by decide +kernel
theorem dX3_sum_10 : decode cX3_sum 10 = .ok (.bipush 16, 2) := by decide +kernel
theorem dX3_sum_12 : decode cX3_sum 12 = .ok (.isub, 1) := by decide +kernel
theorem dX3_sum_13 : decode cX3_sum 13 = .ok (.iaload, 1) := by decide +kernel
theorem dX3_sum_14 : decode cX3_sum 14 = .ok (.imul, 1) := by decide +kernel
theorem dX3_sum_15 : decode cX3_sum 15 = .ok (.bipush 101, 2) := by decide +kernel
theorem dX3_sum_17 : decode cX3_sum 17 = .ok (.iload_n 1, 1) := by decide +kernel
theorem dX3_sum_18 : decode cX3_sum 18 = .ok (.bipush 15, 2) := by decide +kernel
theorem dX3_sum_20 : decode cX3_sum 20 = .ok (.isub, 1) := by decide +kernel
theorem dX3_sum_21 : decode cX3_sum 21 = .ok (.imul, 1) := by decide +kernel
theorem dX3_sum_22 : decode cX3_sum 22 = .ok (.iadd, 1) := by decide +kernel
theorem dX3_sum_23 : decode cX3_sum 23 = .ok (.sipush 997, 3) := by decide +kernel
theorem dX3_sum_26 : decode cX3_sum 26 = .ok (.irem, 1) := by decide +kernel
theorem dX3_sum_27 : decode cX3_sum 27 = .ok (.ireturn, 1) := by decide +kernel
theorem dX3_sum_28 : decode cX3_sum 28 = .ok (.bipush 61, 2) := by decide +kernel
theorem dX3_sum_30 : decode cX3_sum 30 = .ok (.aload_n 0, 1) := by decide +kernel
theorem dX3_sum_31 : decode cX3_sum 31 = .ok (.iconst 2, 1) := by decide +kernel
theorem dX3_sum_32 : decode cX3_sum 32 = .ok (.iload_n 1, 1) := by decide +kernel
theorem dX3_sum_33 : decode cX3_sum 33 = .ok (.imul, 1) := by decide +kernel
theorem dX3_sum_34 : decode cX3_sum 34 = .ok (.invokestatic 21, 3) := by decide +kernel
theorem dX3_sum_37 : decode cX3_sum 37 = .ok (.imul, 1) := by decide +kernel
theorem dX3_sum_38 : decode cX3_sum 38 = .ok (.bipush 89, 2) := by decide +kernel
theorem dX3_sum_40 : decode cX3_sum 40 = .ok (.aload_n 0, 1) := by decide +kernel
theorem dX3_sum_41 : decode cX3_sum 41 = .ok (.iconst 2, 1) := by decide +kernel
theorem dX3_sum_42 : decode cX3_sum 42 = .ok (.iload_n 1, 1) := by decide +kernel
theorem dX3_sum_43 : decode cX3_sum 43 = .ok (.imul, 1) := by decide +kernel
theorem dX3_sum_44 : decode cX3_sum 44 = .ok (.iconst 1, 1) := by decide +kernel
theorem dX3_sum_45 : decode cX3_sum 45 = .ok (.iadd, 1) := by decide +kernel
theorem dX3_sum_46 : decode cX3_sum 46 = .ok (.invokestatic 21, 3) := by decide +kernel
theorem dX3_sum_49 : decode cX3_sum 49 = .ok (.imul, 1) := by decide +kernel
theorem dX3_sum_50 : decode cX3_sum 50 = .ok (.iadd, 1) := by decide +kernel
theorem dX3_sum_51 : decode cX3_sum 51 = .ok (.iload_n 1, 1) := by decide +kernel
theorem dX3_sum_52 : decode cX3_sum 52 = .ok (.iadd, 1) := by decide +kernel
theorem dX3_sum_53 : decode cX3_sum 53 = .ok (.sipush 997, 3) := by decide +kernel
theorem dX3_sum_56 : decode cX3_sum 56 = .ok (.irem, 1) := by decide +kernel
theorem dX3_sum_57 : decode cX3_sum 57 = .ok (.ireturn, 1) := by decide +kernel
set_option maxRecDepth 20000 in
theorem ggX3_root_X3_sum : GoodIn wsX3_root wsX3_sum := goodIn_r _ [5, 2, 3, 4] (by decide +kernel) (by decide +kernel)
set_option maxRecDepth 20000 in
theorem gX3_root_X3_sum : GoodIn wsX3_root (va_wsS RX3 21 yX3_sum wsX3_sum) := goodIn_app (goodIn_of _ (by decide +kernel)) ggX3_root_X3_sum
theorem dX3_root_0 : decode cX3_root 0 = .ok (.aload_n 0, 1) := by decide +kernel
theorem dX3_root_1 : decode cX3_root 1 = .ok (.getfield 9, 3) := by decide +kernel
theorem dX3_root_4 : decode cX3_root 4 = .ok (.iload_n 1, 1) := by decide +kernel
theorem dX3_root_5 : decode cX3_root 5 = .ok (.aaload, 1) := by decide +kernel
theorem dX3_root_6 : decode cX3_root 6 = .ok (.iconst 1, 1) := by decide +kernel
theorem dX3_root_7 : decode cX3_root 7 = .ok (.invokestatic 21, 3) := by decide +kernel
theorem dX3_root_10 : decode cX3_root 10 = .ok (.ireturn, 1) := by decide +kernel
theorem dX3_put_0 : decode cX3_put 0 = .ok (.aload_n 0, 1) := by decide +kernel
theorem dX3_put_1 : decode cX3_put 1 = .ok (.getfield 9, 3) := by decide +kernel
theorem dX3_put_4 : decode cX3_put 4 = .ok (.iload_n 1, 1) := by decide +kernel
theorem dX3_put_5 : decode cX3_put 5 = .ok (.aaload, 1) := by decide +kernel
theorem dX3_put_6 : decode cX3_put 6 = .ok (.iload_n 2, 1) := by decide +kernel
theorem dX3_put_7 : decode cX3_put 7 = .ok (.iaload, 1) := by decide +kernel
theorem dX3_put_8 : decode cX3_put 8 = .ok (.iload_n 3, 1) := by decide +kernel
theorem dX3_put_9 : decode cX3_put 9 = .ok (.if_icmp .ne 5, 3) := by decide +kernel
theorem dX3_put_12 : decode cX3_put 12 = .ok (.iconst 0, 1) := by decide +kernel
theorem dX3_put_13 : decode cX3_put 13 = .ok (.ireturn, 1) := by decide +kernel
theorem dX3_put_14 : decode cX3_put 14 = .ok (.aload_n 0, 1) := by decide +kernel
theorem dX3_put_15 : decode cX3_put 15 = .ok (.getfield 9, 3) := by decide +kernel
theorem dX3_put_18 : decode cX3_put 18 = .ok (.iload_n 1, 1) := by decide +kernel
theorem dX3_put_19 : decode cX3_put 19 = .ok (.aaload, 1) := by decide +kernel
theorem dX3_put_20 : decode cX3_put 20 = .ok (.iload_n 2, 1) := by decide +kernel
theorem dX3_put_21 : decode cX3_put 21 = .ok (.iload_n 3, 1) := by decide +kernel
theorem dX3_put_22 : decode cX3_put 22 = .ok (.iastore, 1) := by decide +kernel
theorem dX3_put_23 : decode cX3_put 23 = .ok (.aload_n 0, 1) := by decide +kernel
theorem dX3_put_24 : decode cX3_put 24 = .ok (.getfield 18, 3) := by decide +kernel
theorem dX3_put_27 : decode cX3_put 27 = .ok (.iload_n 1, 1) := by decide +kernel
theorem dX3_put_28 : decode cX3_put 28 = .ok (.dup2, 1) := by decide +kernel
theorem dX3_put_29 : decode cX3_put 29 = .ok (.iaload, 1) := by decide +kernel
theorem dX3_put_30 : decode cX3_put 30 = .ok (.iconst 1, 1) := by decide +kernel
theorem dX3_put_31 : decode cX3_put 31 = .ok (.iadd, 1) := by decide +kernel
theorem dX3_put_32 : decode cX3_put 32 = .ok (.iastore, 1) := by decide +kernel
theorem dX3_put_33 : decode cX3_put 33 = .ok (.iconst 1, 1) := by decide +kernel
theorem dX3_put_34 : decode cX3_put 34 = .ok (.ireturn, 1) := by decide +kernel
set_option maxRecDepth 20000 in
theorem ggX3_swap_X3_sum : GoodIn wsX3_swap wsX3_sum := goodIn_r _ [6, 3, 4, 5] (by decide +kernel) (by decide +kernel)
set_option maxRecDepth 20000 in
theorem gX3_swap_X3_sum : GoodIn wsX3_swap (va_wsS RX3 21 yX3_sum wsX3_sum) := goodIn_app (goodIn_of _ (by decide +kernel)) ggX3_swap_X3_sum
set_option maxRecDepth 20000 in
theorem ggX3_swap_X3_put : GoodIn wsX3_swap wsX3_put := goodIn_r _ [10, 2, 11, 12, 13, 14] (by decide +kernel) (by decide +kernel)
set_option maxRecDepth 20000 in
theorem gX3_swap_X3_put : GoodIn wsX3_swap (wsV RX3 25 RX3 yX3_put wsX3_put) := goodIn_app (goodIn_of _ (by decide +kernel)) ggX3_swap_X3_put
theorem dX3_swap_0 : decode cX3_swap 0 = .ok (.bipush 32, 2) := by decide +kernel
theorem dX3_swap_2 : decode cX3_swap 2 = .ok (.newarray .int, 2) := by decide +kernel
theorem dX3_swap_4 : decode cX3_swap 4 = .ok (.astore 4, 2) := by decide +kernel
theorem dX3_swap_6 : decode cX3_swap 6 = .ok (.iconst 1, 1) := by decide +kernel
theorem dX3_swap_7 : decode cX3_swap 7 = .ok (.istore 5, 2) := by decide +kernel
theorem dX3_swap_9 : decode cX3_swap 9 = .ok (.iload 5, 2) := by decide +kernel
theorem dX3_swap_11 : decode cX3_swap 11 = .ok (.bipush 32, 2) := by decide +kernel
theorem dX3_swap_13 : decode cX3_swap 13 = .ok (.if_icmp .ge 25, 3) := by decide +kernel
theorem dX3_swap_16 : decode cX3_swap 16 = .ok (.aload 4, 2) := by decide +kernel
theorem dX3_swap_18 : decode cX3_swap 18 = .ok (.iload 5, 2) := by decide +kernel
theorem dX3_swap_20 : decode cX3_swap 20 = .ok (.aload_n 0, 1) := by decide +kernel
theorem dX3_swap_21 : decode cX3_swap 21 = .ok (.getfield 9, 3) := by decide +kernel
theorem dX3_swap_24 : decode cX3_swap 24 = .ok (.iload_n 1, 1) := by decide +kernel
theorem dX3_swap_25 : decode cX3_swap 25 = .ok (.aaload, 1) := by decide +kernel
theorem dX3_swap_26 : decode cX3_swap 26 = .ok (.iload 5, 2) := by decide +kernel
theorem dX3_swap_28 : decode cX3_swap 28 = .ok (.invokestatic 21, 3) := by decide +kernel
theorem dX3_swap_31 : decode cX3_swap 31 = .ok (.iastore, 1) := by decide +kernel
theorem dX3_swap_32 : decode cX3_swap 32 = .ok (.iinc 5 1, 3) := by decide +kernel
theorem dX3_swap_35 : decode cX3_swap 35 = .ok (.goto (-26), 3) := by decide +kernel
theorem dX3_swap_38 : decode cX3_swap 38 = .ok (.aload_n 0, 1) := by decide +kernel
theorem dX3_swap_39 : decode cX3_swap 39 = .ok (.getfield 9, 3) := by decide +kernel
theorem dX3_swap_42 : decode cX3_swap 42 = .ok (.iload_n 1, 1) := by decide +kernel
theorem dX3_swap_43 : decode cX3_swap 43 = .ok (.aaload, 1) := by decide +kernel
theorem dX3_swap_44 : decode cX3_swap 44 = .ok (.iload_n 2, 1) := by decide +kernel
theorem dX3_swap_45 : decode cX3_swap 45 = .ok (.iaload, 1) := by decide +kernel
theorem dX3_swap_46 : decode cX3_swap 46 = .ok (.istore 5, 2) := by decide +kernel
theorem dX3_swap_48 : decode cX3_swap 48 = .ok (.aload_n 0, 1) := by decide +kernel
theorem dX3_swap_49 : decode cX3_swap 49 = .ok (.iload_n 1, 1) := by decide +kernel
theorem dX3_swap_50 : decode cX3_swap 50 = .ok (.iload_n 2, 1) := by decide +kernel
theorem dX3_swap_51 : decode cX3_swap 51 = .ok (.aload_n 0, 1) := by decide +kernel
theorem dX3_swap_52 : decode cX3_swap 52 = .ok (.getfield 9, 3) := by decide +kernel
theorem dX3_swap_55 : decode cX3_swap 55 = .ok (.iload_n 1, 1) := by decide +kernel
theorem dX3_swap_56 : decode cX3_swap 56 = .ok (.aaload, 1) := by decide +kernel
theorem dX3_swap_57 : decode cX3_swap 57 = .ok (.iload_n 3, 1) := by decide +kernel
theorem dX3_swap_58 : decode cX3_swap 58 = .ok (.iaload, 1) := by decide +kernel
theorem dX3_swap_59 : decode cX3_swap 59 = .ok (.invokevirtual 25, 3) := by decide +kernel
theorem dX3_swap_62 : decode cX3_swap 62 = .ok (.pop, 1) := by decide +kernel
theorem dX3_swap_63 : decode cX3_swap 63 = .ok (.aload_n 0, 1) := by decide +kernel
theorem dX3_swap_64 : decode cX3_swap 64 = .ok (.iload_n 1, 1) := by decide +kernel
theorem dX3_swap_65 : decode cX3_swap 65 = .ok (.iload_n 3, 1) := by decide +kernel
theorem dX3_swap_66 : decode cX3_swap 66 = .ok (.iload 5, 2) := by decide +kernel
theorem dX3_swap_68 : decode cX3_swap 68 = .ok (.invokevirtual 25, 3) := by decide +kernel
theorem dX3_swap_71 : decode cX3_swap 71 = .ok (.pop, 1) := by decide +kernel
theorem dX3_swap_72 : decode cX3_swap 72 = .ok (.iconst 0, 1) := by decide +kernel
theorem dX3_swap_73 : decode cX3_swap 73 = .ok (.istore 6, 2) := by decide +kernel
theorem dX3_swap_75 : decode cX3_swap 75 = .ok (.iconst 1, 1) := by decide +kernel
theorem dX3_swap_76 : decode cX3_swap 76 = .ok (.istore 7, 2) := by decide +kernel
theorem dX3_swap_78 : decode cX3_swap 78 = .ok (.iload 7, 2) := by decide +kernel
theorem dX3_swap_80 : decode cX3_swap 80 = .ok (.bipush 32, 2) := by decide +kernel
theorem dX3_swap_82 : decode cX3_swap 82 = .ok (.if_icmp .ge 38, 3) := by decide +kernel
theorem dX3_swap_85 : decode cX3_swap 85 = .ok (.iload 6, 2) := by decide +kernel
theorem dX3_swap_87 : decode cX3_swap 87 = .ok (.aload 4, 2) := by decide +kernel
theorem dX3_swap_89 : decode cX3_swap 89 = .ok (.iload 7, 2) := by decide +kernel
theorem dX3_swap_91 : decode cX3_swap 91 = .ok (.iaload, 1) := by decide +kernel
theorem dX3_swap_92 : decode cX3_swap 92 = .ok (.aload_n 0, 1) := by decide +kernel
theorem dX3_swap_93 : decode cX3_swap 93 = .ok (.getfield 9, 3) := by decide +kernel
theorem dX3_swap_96 : decode cX3_swap 96 = .ok (.iload_n 1, 1) := by decide +kernel
theorem dX3_swap_97 : decode cX3_swap 97 = .ok (.aaload, 1) := by decide +kernel
theorem dX3_swap_98 : decode cX3_swap 98 = .ok (.iload 7, 2) := by decide +kernel
theorem dX3_swap_100 : decode cX3_swap 100 = .ok (.invokestatic 21, 3) := by decide +kernel
theorem dX3_swap_103 : decode cX3_swap 103 = .ok (.if_icmp .eq 7, 3) := by decide +kernel
theorem dX3_swap_106 : decode cX3_swap 106 = .ok (.iconst 1, 1) := by decide +kernel
theorem dX3_swap_107 : decode cX3_swap 107 = .ok (.goto 4, 3) := by decide +kernel
theorem dX3_swap_110 : decode cX3_swap 110 = .ok (.iconst 0, 1) := by decide +kernel
theorem dX3_swap_111 : decode cX3_swap 111 = .ok (.iadd, 1) := by decide +kernel
theorem dX3_swap_112 : decode cX3_swap 112 = .ok (.istore 6, 2) := by decide +kernel
theorem dX3_swap_114 : decode cX3_swap 114 = .ok (.iinc 7 1, 3) := by decide +kernel
theorem dX3_swap_117 : decode cX3_swap 117 = .ok (.goto (-39), 3) := by decide +kernel
theorem dX3_swap_120 : decode cX3_swap 120 = .ok (.iload 6, 2) := by decide +kernel
theorem dX3_swap_122 : decode cX3_swap 122 = .ok (.ireturn, 1) := by decide +kernel
set_option maxRecDepth 20000 in
theorem ggX3_compare_X3_sum : GoodIn wsX3_compare wsX3_sum := goodIn_r _ [6, 3, 4, 5] (by decide +kernel) (by decide +kernel)
set_option maxRecDepth 20000 in
theorem gX3_compare_X3_sum : GoodIn wsX3_compare (va_wsS RX3 21 yX3_sum wsX3_sum) := goodIn_app (goodIn_of _ (by decide +kernel)) ggX3_compare_X3_sum
set_option maxRecDepth 20000 in
theorem ggX3_compare_X3_compare : GoodIn wsX3_compare wsX3_compare := goodIn_r _ [0, 1, 2, 3, 4, 5, 6, 7, 8, 9, 10, 11, 12] (by decide +kernel) (by decide +kernel)
set_option maxRecDepth 20000 in
theorem gX3_compare_X3_compare : GoodIn wsX3_compare (wsV RX3 30 RX3 yX3_compare wsX3_compare) := goodIn_app (goodIn_of _ (by decide +kernel)) ggX3_compare_X3_compare
theorem dX3_compare_0 : decode cX3_compare 0 = .ok (.aload_n 0, 1) := by decide +kernel
theorem dX3_compare_1 : decode cX3_compare 1 = .ok (.getfield 9, 3) := by decide +kernel
theorem dX3_compare_4 : decode cX3_compare 4 = .ok (.iload_n 1, 1) := by decide +kernel
theorem dX3_compare_5 : decode cX3_compare 5 = .ok (.aaload, 1) := by decide +kernel
theorem dX3_compare_6 : decode cX3_compare 6 = .ok (.iload_n 3, 1) := by decide +kernel
theorem dX3_compare_7 : decode cX3_compare 7 = .ok (.invokestatic 21, 3) := by decide +kernel
theorem dX3_compare_10 : decode cX3_compare 10 = .ok (.aload_n 0, 1) := by decide +kernel
theorem dX3_compare_11 : decode cX3_compare 11 = .ok (.getfield 9, 3) := by decide +kernel
theorem dX3_compare_14 : decode cX3_compare 14 = .ok (.iload_n 2, 1) := by decide +kernel
theorem dX3_compare_15 : decode cX3_compare 15 = .ok (.aaload, 1) := by decide +kernel
theorem dX3_compare_16 : decode cX3_compare 16 = .ok (.iload_n 3, 1) := by decide +kernel
theorem dX3_compare_17 : decode cX3_compare 17 = .ok (.invokestatic 21, 3) := by decide +kernel
theorem dX3_compare_20 : decode cX3_compare 20 = .ok (.if_icmp .ne 6, 3) := by decide +kernel
theorem dX3_compare_23 : decode cX3_compare 23 = .ok (.ldc 29, 2) := by decide +kernel
theorem dX3_compare_25 : decode cX3_compare 25 = .ok (.ireturn, 1) := by decide +kernel
theorem dX3_compare_26 : decode cX3_compare 26 = .ok (.iload_n 3, 1) := by decide +kernel
theorem dX3_compare_27 : decode cX3_compare 27 = .ok (.bipush 15, 2) := by decide +kernel
theorem dX3_compare_29 : decode cX3_compare 29 = .ok (.if_icmp .le 13, 3) := by decide +kernel
theorem dX3_compare_32 : decode cX3_compare 32 = .ok (.ldc 29, 2) := by decide +kernel
theorem dX3_compare_34 : decode cX3_compare 34 = .ok (.iconst 1, 1) := by decide +kernel
theorem dX3_compare_35 : decode cX3_compare 35 = .ok (.iload_n 3, 1) := by decide +kernel
theorem dX3_compare_36 : decode cX3_compare 36 = .ok (.bipush 16, 2) := by decide +kernel
theorem dX3_compare_38 : decode cX3_compare 38 = .ok (.isub, 1) := by decide +kernel
theorem dX3_compare_39 : decode cX3_compare 39 = .ok (.ishl, 1) := by decide +kernel
theorem dX3_compare_40 : decode cX3_compare 40 = .ok (.iadd, 1) := by decide +kernel
theorem dX3_compare_41 : decode cX3_compare 41 = .ok (.ireturn, 1) := by decide +kernel
theorem dX3_compare_42 : decode cX3_compare 42 = .ok (.ldc 29, 2) := by decide +kernel
theorem dX3_compare_44 : decode cX3_compare 44 = .ok (.aload_n 0, 1) := by decide +kernel
theorem dX3_compare_45 : decode cX3_compare 45 = .ok (.iload_n 1, 1) := by decide +kernel
theorem dX3_compare_46 : decode cX3_compare 46 = .ok (.iload_n 2, 1) := by decide +kernel
theorem dX3_compare_47 : decode cX3_compare 47 = .ok (.iconst 2, 1) := by decide +kernel
theorem dX3_compare_48 : decode cX3_compare 48 = .ok (.iload_n 3, 1) := by decide +kernel
theorem dX3_compare_49 : decode cX3_compare 49 = .ok (.imul, 1) := by decide +kernel
theorem dX3_compare_50 : decode cX3_compare 50 = .ok (.invokevirtual 30, 3) := by decide +kernel
theorem dX3_compare_53 : decode cX3_compare 53 = .ok (.iadd, 1) := by decide +kernel
theorem dX3_compare_54 : decode cX3_compare 54 = .ok (.aload_n 0, 1) := by decide +kernel
theorem dX3_compare_55 : decode cX3_compare 55 = .ok (.iload_n 1, 1) := by decide +kernel
theorem dX3_compare_56 : decode cX3_compare 56 = .ok (.iload_n 2, 1) := by decide +kernel
theorem dX3_compare_57 : decode cX3_compare 57 = .ok (.iconst 2, 1) := by decide +kernel
theorem dX3_compare_58 : decode cX3_compare 58 = .ok (.iload_n 3, 1) := by decide +kernel
theorem dX3_compare_59 : decode cX3_compare 59 = .ok (.imul, 1) := by decide +kernel
theorem dX3_compare_60 : decode cX3_compare 60 = .ok (.iconst 1, 1) := by decide +kernel
theorem dX3_compare_61 : decode cX3_compare 61 = .ok (.iadd, 1) := by decide +kernel
theorem dX3_compare_62 : decode cX3_compare 62 = .ok (.invokevirtual 30, 3) := by decide +kernel
theorem dX3_compare_65 : decode cX3_compare 65 = .ok (.iadd, 1) := by decide +kernel
theorem dX3_compare_66 : decode cX3_compare 66 = .ok (.ireturn, 1) := by decide +kernel
set_option maxRecDepth 20000 in
theorem ggX3_mend_X3_compare : GoodIn wsX3_mend wsX3_compare := goodIn_r _ [7, 2, 1, 8, 9, 6, 10, 3, 4, 5, 16, 17, 18] (by decide +kernel) (by decide +kernel)
set_option maxRecDepth 20000 in
theorem gX3_mend_X3_compare : GoodIn wsX3_mend (wsV RX3 30 RX3 yX3_compare wsX3_compare) := goodIn_app (goodIn_of _ (by decide +kernel)) ggX3_mend_X3_compare
set_option maxRecDepth 20000 in
theorem ggX3_mend_X3_put : GoodIn wsX3_mend wsX3_put := goodIn_r _ [14, 2, 15, 16, 17, 18] (by decide +kernel) (by decide +kernel)
set_option maxRecDepth 20000 in
theorem gX3_mend_X3_put : GoodIn wsX3_mend (wsV RX3 25 RX3 yX3_put wsX3_put) := goodIn_app (goodIn_of _ (by decide +kernel)) ggX3_mend_X3_put
theorem dX3_mend_0 : decode cX3_mend 0 = .ok (.aload_n 0, 1) := by decide +kernel
theorem dX3_mend_1 : decode cX3_mend 1 = .ok (.iload_n 1, 1) := by decide +kernel
theorem dX3_mend_2 : decode cX3_mend 2 = .ok (.iload_n 2, 1) := by decide +kernel
theorem dX3_mend_3 : decode cX3_mend 3 = .ok (.iconst 1, 1) := by decide +kernel
theorem dX3_mend_4 : decode cX3_mend 4 = .ok (.invokevirtual 30, 3) := by decide +kernel
theorem dX3_mend_7 : decode cX3_mend 7 = .ok (.ldc 29, 2) := by decide +kernel
theorem dX3_mend_9 : decode cX3_mend 9 = .ok (.irem, 1) := by decide +kernel
theorem dX3_mend_10 : decode cX3_mend 10 = .ok (.istore_n 3, 1) := by decide +kernel
theorem dX3_mend_11 : decode cX3_mend 11 = .ok (.iconst 0, 1) := by decide +kernel
theorem dX3_mend_12 : decode cX3_mend 12 = .ok (.istore 4, 2) := by decide +kernel
theorem dX3_mend_14 : decode cX3_mend 14 = .ok (.iconst 0, 1) := by decide +kernel
theorem dX3_mend_15 : decode cX3_mend 15 = .ok (.istore 5, 2) := by decide +kernel
theorem dX3_mend_17 : decode cX3_mend 17 = .ok (.iload 5, 2) := by decide +kernel
theorem dX3_mend_19 : decode cX3_mend 19 = .ok (.bipush 16, 2) := by decide +kernel
theorem dX3_mend_21 : decode cX3_mend 21 = .ok (.if_icmp .ge 41, 3) := by decide +kernel
theorem dX3_mend_24 : decode cX3_mend 24 = .ok (.iload_n 3, 1) := by decide +kernel
theorem dX3_mend_25 : decode cX3_mend 25 = .ok (.iload 5, 2) := by decide +kernel
theorem dX3_mend_27 : decode cX3_mend 27 = .ok (.ishr, 1) := by decide +kernel
theorem dX3_mend_28 : decode cX3_mend 28 = .ok (.iconst 2, 1) := by decide +kernel
theorem dX3_mend_29 : decode cX3_mend 29 = .ok (.irem, 1) := by decide +kernel
theorem dX3_mend_30 : decode cX3_mend 30 = .ok (.iconst 1, 1) := by decide +kernel
theorem dX3_mend_31 : decode cX3_mend 31 = .ok (.if_icmp .ne 25, 3) := by decide +kernel
theorem dX3_mend_34 : decode cX3_mend 34 = .ok (.aload_n 0, 1) := by decide +kernel
theorem dX3_mend_35 : decode cX3_mend 35 = .ok (.iload_n 2, 1) := by decide +kernel
theorem dX3_mend_36 : decode cX3_mend 36 = .ok (.iload 5, 2) := by decide +kernel
theorem dX3_mend_38 : decode cX3_mend 38 = .ok (.aload_n 0, 1) := by decide +kernel
theorem dX3_mend_39 : decode cX3_mend 39 = .ok (.getfield 9, 3) := by decide +kernel
theorem dX3_mend_42 : decode cX3_mend 42 = .ok (.iload_n 1, 1) := by decide +kernel
theorem dX3_mend_43 : decode cX3_mend 43 = .ok (.aaload, 1) := by decide +kernel
theorem dX3_mend_44 : decode cX3_mend 44 = .ok (.iload 5, 2) := by decide +kernel
theorem dX3_mend_46 : decode cX3_mend 46 = .ok (.iaload, 1) := by decide +kernel
theorem dX3_mend_47 : decode cX3_mend 47 = .ok (.invokevirtual 25, 3) := by decide +kernel
theorem dX3_mend_50 : decode cX3_mend 50 = .ok (.ifCond .eq 6, 3) := by decide +kernel
theorem dX3_mend_53 : decode cX3_mend 53 = .ok (.iinc 4 1, 3) := by decide +kernel
theorem dX3_mend_56 : decode cX3_mend 56 = .ok (.iinc 5 1, 3) := by decide +kernel
theorem dX3_mend_59 : decode cX3_mend 59 = .ok (.goto (-42), 3) := by decide +kernel
theorem dX3_mend_62 : decode cX3_mend 62 = .ok (.iload 4, 2) := by decide +kernel
theorem dX3_mend_64 : decode cX3_mend 64 = .ok (.ireturn, 1) := by decide +kernel
set_option maxRecDepth 20000 in
theorem ggX3_isSame_X3_root : GoodIn wsX3_isSame wsX3_root := goodIn_r _ [9, 1, 10, 11, 8, 12, 86, 87, 88] (by decide +kernel) (by decide +kernel)
set_option maxRecDepth 20000 in
theorem gX3_isSame_X3_root : GoodIn wsX3_isSame (wsV RX3 38 RX3 yX3_root wsX3_root) := goodIn_app (goodIn_of _ (by decide +kernel)) ggX3_isSame_X3_root
set_option maxRecDepth 20000 in
theorem ggX3_isSame_X2_thing : GoodIn wsX3_isSame wsX2_thing := goodIn_ca (goodIn_r _ [17, 18, 19, 20, 16, 21, 22, 23, 24, 25, 26, 27, 28, 89, 90, 91, 92, 93, 94, 95, 96] (by decide +kernel) (by decide +kernel)) (goodIn_sub (fun _ h => List.mem_cons_of_mem _ (List.mem_append_right _ h)) (by decide +kernel))
set_option maxRecDepth 20000 in
theorem gX3_isSame_X2_thing : GoodIn wsX3_isSame (wsV RX3 42 RX2 yX2_thing wsX2_thing) := goodIn_app (goodIn_of _ (by decide +kernel)) ggX3_isSame_X2_thing
set_option maxRecDepth 20000 in
theorem ggX3_isSame_X2_told : GoodIn wsX3_isSame wsX2_told := goodIn_ca (goodIn_r _ [32, 18, 19, 20, 16, 21, 22, 23, 24, 25, 33, 34, 35, 36, 37, 38, 39, 40, 41, 42, 43, 44, 45, 46, 47, 48, 49, 50, 51, 52, 53, 54, 55, 56, 57, 89, 90, 91, 92, 93, 94, 95, 96, 97, 98, 99] (by decide +kernel) (by decide +kernel)) (goodIn_sub (fun _ h => List.mem_cons_of_mem _ (List.mem_append_right _ h)) (by decide +kernel))
set_option maxRecDepth 20000 in
theorem gX3_isSame_X2_told : GoodIn wsX3_isSame (wsV RX3 48 RX2 yX2_told wsX2_told) := goodIn_app (goodIn_of _ (by decide +kernel)) ggX3_isSame_X2_told
set_option maxRecDepth 20000 in
theorem ggX3_isSame_X3_sum : GoodIn wsX3_isSame wsX3_sum := goodIn_r _ [12, 10, 11, 8] (by decide +kernel) (by decide +kernel)
set_option maxRecDepth 20000 in
theorem gX3_isSame_X3_sum : GoodIn wsX3_isSame (va_wsS RX3 21 yX3_sum wsX3_sum) := goodIn_app (goodIn_of _ (by decide +kernel)) ggX3_isSame_X3_sum
set_option maxRecDepth 20000 in
theorem ggX3_isSame_X2_about : GoodIn wsX3_isSame wsX2_about := goodIn_ca (goodIn_r _ [61, 62, 63, 64, 16, 65, 22, 23, 52, 53, 33, 34, 35, 18, 19, 20, 21, 24, 25, 97, 98, 99, 89, 90, 91, 92, 93, 94, 95, 96] (by decide +kernel) (by decide +kernel)) (goodIn_sub (fun _ h => List.mem_cons_of_mem _ (List.mem_append_right _ h)) (by decide +kernel))
set_option maxRecDepth 20000 in
theorem gX3_isSame_X2_about : GoodIn wsX3_isSame (wsV RX3 51 RX2 yX2_about wsX2_about) := goodIn_app (goodIn_of _ (by decide +kernel)) ggX3_isSame_X2_about
set_option maxRecDepth 20000 in
theorem ggX3_isSame_X2_count : GoodIn wsX3_isSame wsX2_count := goodIn_ca (goodIn_r _ [69, 24, 52, 33, 34, 16, 35, 22, 23, 70, 71, 72, 73, 74, 75, 76, 77, 25, 36, 37, 38, 39, 40, 78, 79, 80, 81, 92, 93, 94, 95, 96, 89, 90, 91] (by decide +kernel) (by decide +kernel)) (goodIn_sub (fun _ h => List.mem_cons_of_mem _ (List.mem_append_right _ h)) (by decide +kernel))
set_option maxRecDepth 20000 in
theorem gX3_isSame_X2_count : GoodIn wsX3_isSame (wsV RX3 54 RX2 yX2_count wsX2_count) := goodIn_app (goodIn_of _ (by decide +kernel)) ggX3_isSame_X2_count
set_option maxRecDepth 20000 in
theorem ggX3_isSame_X2_mean : GoodIn wsX3_isSame wsX2_mean := goodIn_r _ [85, 24, 25, 92, 93, 94, 95, 96, 89, 90, 91] (by decide +kernel) (by decide +kernel)
set_option maxRecDepth 20000 in
theorem gX3_isSame_X2_mean : GoodIn wsX3_isSame (wsV RX3 57 RX2 yX2_mean wsX2_mean) := goodIn_app (goodIn_of _ (by decide +kernel)) ggX3_isSame_X2_mean
theorem dX3_isSame_0 : decode cX3_isSame 0 = .ok (.aload_n 0, 1) := by decide +kernel
theorem dX3_isSame_1 : decode cX3_isSame 1 = .ok (.getfield 9, 3) := by decide +kernel
theorem dX3_isSame_4 : decode cX3_isSame 4 = .ok (.arraylength, 1) := by decide +kernel
theorem dX3_isSame_5 : decode cX3_isSame 5 = .ok (.istore_n 2, 1) := by decide +kernel
theorem dX3_isSame_6 : decode cX3_isSame 6 = .ok (.iconst 0, 1) := by decide +kernel
theorem dX3_isSame_7 : decode cX3_isSame 7 = .ok (.istore_n 3, 1) := by decide +kernel
theorem dX3_isSame_8 : decode cX3_isSame 8 = .ok (.iconst 0, 1) := by decide +kernel
theorem dX3_isSame_9 : decode cX3_isSame 9 = .ok (.istore 4, 2) := by decide +kernel
theorem dX3_isSame_11 : decode cX3_isSame 11 = .ok (.iconst 0, 1) := by decide +kernel
theorem dX3_isSame_12 : decode cX3_isSame 12 = .ok (.istore 5, 2) := by decide +kernel
theorem dX3_isSame_14 : decode cX3_isSame 14 = .ok (.iconst 0, 1) := by decide +kernel
theorem dX3_isSame_15 : decode cX3_isSame 15 = .ok (.istore 6, 2) := by decide +kernel
theorem dX3_isSame_17 : decode cX3_isSame 17 = .ok (.iload 6, 2) := by decide +kernel
theorem dX3_isSame_19 : decode cX3_isSame 19 = .ok (.iload_n 2, 1) := by decide +kernel
theorem dX3_isSame_20 : decode cX3_isSame 20 = .ok (.if_icmp .ge 354, 3) := by decide +kernel
theorem dX3_isSame_23 : decode cX3_isSame 23 = .ok (.bipush 6, 2) := by decide +kernel
theorem dX3_isSame_25 : decode cX3_isSame 25 = .ok (.newarray .int, 2) := by decide +kernel
theorem dX3_isSame_27 : decode cX3_isSame 27 = .ok (.dup, 1) := by decide +kernel
theorem dX3_isSame_28 : decode cX3_isSame 28 = .ok (.iconst 0, 1) := by decide +kernel
theorem dX3_isSame_29 : decode cX3_isSame 29 = .ok (.aload_n 0, 1) := by decide +kernel
theorem dX3_isSame_30 : decode cX3_isSame 30 = .ok (.iload 6, 2) := by decide +kernel
theorem dX3_isSame_32 : decode cX3_isSame 32 = .ok (.invokevirtual 38, 3) := by decide +kernel
theorem dX3_isSame_35 : decode cX3_isSame 35 = .ok (.iastore, 1) := by decide +kernel
theorem dX3_isSame_36 : decode cX3_isSame 36 = .ok (.dup, 1) := by decide +kernel
theorem dX3_isSame_37 : decode cX3_isSame 37 = .ok (.iconst 1, 1) := by decide +kernel
theorem dX3_isSame_38 : decode cX3_isSame 38 = .ok (.aload_n 0, 1) := by decide +kernel
theorem dX3_isSame_39 : decode cX3_isSame 39 = .ok (.getfield 18, 3) := by decide +kernel
theorem dX3_isSame_42 : decode cX3_isSame 42 = .ok (.iload 6, 2) := by decide +kernel
theorem dX3_isSame_44 : decode cX3_isSame 44 = .ok (.iaload, 1) := by decide +kernel
theorem dX3_isSame_45 : decode cX3_isSame 45 = .ok (.iastore, 1) := by decide +kernel
theorem dX3_isSame_46 : decode cX3_isSame 46 = .ok (.dup, 1) := by decide +kernel
theorem dX3_isSame_47 : decode cX3_isSame 47 = .ok (.iconst 2, 1) := by decide +kernel
theorem dX3_isSame_48 : decode cX3_isSame 48 = .ok (.iconst 0, 1) := by decide +kernel
theorem dX3_isSame_49 : decode cX3_isSame 49 = .ok (.iastore, 1) := by decide +kernel
theorem dX3_isSame_50 : decode cX3_isSame 50 = .ok (.dup, 1) := by decide +kernel
theorem dX3_isSame_51 : decode cX3_isSame 51 = .ok (.iconst 3, 1) := by decide +kernel
theorem dX3_isSame_52 : decode cX3_isSame 52 = .ok (.iconst 0, 1) := by decide +kernel
theorem dX3_isSame_53 : decode cX3_isSame 53 = .ok (.iastore, 1) := by decide +kernel
theorem dX3_isSame_54 : decode cX3_isSame 54 = .ok (.dup, 1) := by decide +kernel
theorem dX3_isSame_55 : decode cX3_isSame 55 = .ok (.iconst 4, 1) := by decide +kernel
theorem dX3_isSame_56 : decode cX3_isSame 56 = .ok (.iconst 0, 1) := by decide +kernel
theorem dX3_isSame_57 : decode cX3_isSame 57 = .ok (.iastore, 1) := by decide +kernel
theorem dX3_isSame_58 : decode cX3_isSame 58 = .ok (.dup, 1) := by decide +kernel
theorem dX3_isSame_59 : decode cX3_isSame 59 = .ok (.iconst 5, 1) := by decide +kernel
theorem dX3_isSame_60 : decode cX3_isSame 60 = .ok (.iconst 0, 1) := by decide +kernel
theorem dX3_isSame_61 : decode cX3_isSame 61 = .ok (.iastore, 1) := by decide +kernel
theorem dX3_isSame_62 : decode cX3_isSame 62 = .ok (.astore 7, 2) := by decide +kernel
theorem dX3_isSame_64 : decode cX3_isSame 64 = .ok (.iconst 1, 1) := by decide +kernel
theorem dX3_isSame_65 : decode cX3_isSame 65 = .ok (.istore 8, 2) := by decide +kernel
theorem dX3_isSame_67 : decode cX3_isSame 67 = .ok (.iconst 0, 1) := by decide +kernel
theorem dX3_isSame_68 : decode cX3_isSame 68 = .ok (.istore 9, 2) := by decide +kernel
theorem dX3_isSame_70 : decode cX3_isSame 70 = .ok (.iload 9, 2) := by decide +kernel
theorem dX3_isSame_72 : decode cX3_isSame 72 = .ok (.iload 6, 2) := by decide +kernel
theorem dX3_isSame_74 : decode cX3_isSame 74 = .ok (.if_icmp .ge 34, 3) := by decide +kernel
theorem dX3_isSame_77 : decode cX3_isSame 77 = .ok (.iload 8, 2) := by decide +kernel
theorem dX3_isSame_79 : decode cX3_isSame 79 = .ok (.ifCond .eq 20, 3) := by decide +kernel
theorem dX3_isSame_82 : decode cX3_isSame 82 = .ok (.aload_n 0, 1) := by decide +kernel
theorem dX3_isSame_83 : decode cX3_isSame 83 = .ok (.iload 9, 2) := by decide +kernel
theorem dX3_isSame_85 : decode cX3_isSame 85 = .ok (.invokevirtual 38, 3) := by decide +kernel
theorem dX3_isSame_88 : decode cX3_isSame 88 = .ok (.aload 7, 2) := by decide +kernel
theorem dX3_isSame_90 : decode cX3_isSame 90 = .ok (.iconst 0, 1) := by decide +kernel
theorem dX3_isSame_91 : decode cX3_isSame 91 = .ok (.iaload, 1) := by decide +kernel
theorem dX3_isSame_92 : decode cX3_isSame 92 = .ok (.if_icmp .eq 7, 3) := by decide +kernel
theorem dX3_isSame_95 : decode cX3_isSame 95 = .ok (.iconst 1, 1) := by decide +kernel
theorem dX3_isSame_96 : decode cX3_isSame 96 = .ok (.goto 4, 3) := by decide +kernel
theorem dX3_isSame_99 : decode cX3_isSame 99 = .ok (.iconst 0, 1) := by decide +kernel
theorem dX3_isSame_100 : decode cX3_isSame 100 = .ok (.istore 8, 2) := by decide +kernel
theorem dX3_isSame_102 : decode cX3_isSame 102 = .ok (.iinc 9 1, 3) := by decide +kernel
theorem dX3_isSame_105 : decode cX3_isSame 105 = .ok (.goto (-35), 3) := by decide +kernel
theorem dX3_isSame_108 : decode cX3_isSame 108 = .ok (.iload_n 3, 1) := by decide +kernel
theorem dX3_isSame_109 : decode cX3_isSame 109 = .ok (.iload 8, 2) := by decide +kernel
theorem dX3_isSame_111 : decode cX3_isSame 111 = .ok (.ifCond .eq 7, 3) := by decide +kernel
theorem dX3_isSame_114 : decode cX3_isSame 114 = .ok (.iconst 1, 1) := by decide +kernel
theorem dX3_isSame_115 : decode cX3_isSame 115 = .ok (.goto 4, 3) := by decide +kernel
theorem dX3_isSame_118 : decode cX3_isSame 118 = .ok (.iconst 0, 1) := by decide +kernel
theorem dX3_isSame_119 : decode cX3_isSame 119 = .ok (.iadd, 1) := by decide +kernel
theorem dX3_isSame_120 : decode cX3_isSame 120 = .ok (.istore_n 3, 1) := by decide +kernel
theorem dX3_isSame_121 : decode cX3_isSame 121 = .ok (.iload 4, 2) := by decide +kernel
theorem dX3_isSame_123 : decode cX3_isSame 123 = .ok (.aload_n 0, 1) := by decide +kernel
theorem dX3_isSame_124 : decode cX3_isSame 124 = .ok (.getfield 18, 3) := by decide +kernel
theorem dX3_isSame_127 : decode cX3_isSame 127 = .ok (.iload 6, 2) := by decide +kernel
theorem dX3_isSame_129 : decode cX3_isSame 129 = .ok (.iaload, 1) := by decide +kernel
theorem dX3_isSame_130 : decode cX3_isSame 130 = .ok (.iadd, 1) := by decide +kernel
theorem dX3_isSame_131 : decode cX3_isSame 131 = .ok (.istore 4, 2) := by decide +kernel
theorem dX3_isSame_133 : decode cX3_isSame 133 = .ok (.iconst 0, 1) := by decide +kernel
theorem dX3_isSame_134 : decode cX3_isSame 134 = .ok (.istore 9, 2) := by decide +kernel
theorem dX3_isSame_136 : decode cX3_isSame 136 = .ok (.iload 9, 2) := by decide +kernel
theorem dX3_isSame_138 : decode cX3_isSame 138 = .ok (.bipush 16, 2) := by decide +kernel
theorem dX3_isSame_140 : decode cX3_isSame 140 = .ok (.if_icmp .ge 74, 3) := by decide +kernel
theorem dX3_isSame_143 : decode cX3_isSame 143 = .ok (.aload 7, 2) := by decide +kernel
theorem dX3_isSame_145 : decode cX3_isSame 145 = .ok (.iconst 2, 1) := by decide +kernel
theorem dX3_isSame_146 : decode cX3_isSame 146 = .ok (.dup2, 1) := by decide +kernel
theorem dX3_isSame_147 : decode cX3_isSame 147 = .ok (.iaload, 1) := by decide +kernel
theorem dX3_isSame_148 : decode cX3_isSame 148 = .ok (.aload_n 0, 1) := by decide +kernel
theorem dX3_isSame_149 : decode cX3_isSame 149 = .ok (.getfield 9, 3) := by decide +kernel
theorem dX3_isSame_152 : decode cX3_isSame 152 = .ok (.iload 6, 2) := by decide +kernel
theorem dX3_isSame_154 : decode cX3_isSame 154 = .ok (.aaload, 1) := by decide +kernel
theorem dX3_isSame_155 : decode cX3_isSame 155 = .ok (.iload 9, 2) := by decide +kernel
theorem dX3_isSame_157 : decode cX3_isSame 157 = .ok (.iaload, 1) := by decide +kernel
theorem dX3_isSame_158 : decode cX3_isSame 158 = .ok (.ifCond .le 7, 3) := by decide +kernel
theorem dX3_isSame_161 : decode cX3_isSame 161 = .ok (.iconst 1, 1) := by decide +kernel
theorem dX3_isSame_162 : decode cX3_isSame 162 = .ok (.goto 4, 3) := by decide +kernel
theorem dX3_isSame_165 : decode cX3_isSame 165 = .ok (.iconst 0, 1) := by decide +kernel
theorem dX3_isSame_166 : decode cX3_isSame 166 = .ok (.iadd, 1) := by decide +kernel
theorem dX3_isSame_167 : decode cX3_isSame 167 = .ok (.iastore, 1) := by decide +kernel
theorem dX3_isSame_168 : decode cX3_isSame 168 = .ok (.aload 7, 2) := by decide +kernel
theorem dX3_isSame_170 : decode cX3_isSame 170 = .ok (.iconst 3, 1) := by decide +kernel
theorem dX3_isSame_171 : decode cX3_isSame 171 = .ok (.dup2, 1) := by decide +kernel
theorem dX3_isSame_172 : decode cX3_isSame 172 = .ok (.iaload, 1) := by decide +kernel
theorem dX3_isSame_173 : decode cX3_isSame 173 = .ok (.aload_n 0, 1) := by decide +kernel
theorem dX3_isSame_174 : decode cX3_isSame 174 = .ok (.getfield 9, 3) := by decide +kernel
theorem dX3_isSame_177 : decode cX3_isSame 177 = .ok (.iload 6, 2) := by decide +kernel
theorem dX3_isSame_179 : decode cX3_isSame 179 = .ok (.aaload, 1) := by decide +kernel
theorem dX3_isSame_180 : decode cX3_isSame 180 = .ok (.iload 9, 2) := by decide +kernel
theorem dX3_isSame_182 : decode cX3_isSame 182 = .ok (.iaload, 1) := by decide +kernel
theorem dX3_isSame_183 : decode cX3_isSame 183 = .ok (.iadd, 1) := by decide +kernel
theorem dX3_isSame_184 : decode cX3_isSame 184 = .ok (.iastore, 1) := by decide +kernel
theorem dX3_isSame_185 : decode cX3_isSame 185 = .ok (.aload_n 1, 1) := by decide +kernel
theorem dX3_isSame_186 : decode cX3_isSame 186 = .ok (.iload 6, 2) := by decide +kernel
theorem dX3_isSame_188 : decode cX3_isSame 188 = .ok (.iload 9, 2) := by decide +kernel
theorem dX3_isSame_190 : decode cX3_isSame 190 = .ok (.invokevirtual 42, 3) := by decide +kernel
theorem dX3_isSame_193 : decode cX3_isSame 193 = .ok (.aload_n 0, 1) := by decide +kernel
theorem dX3_isSame_194 : decode cX3_isSame 194 = .ok (.getfield 9, 3) := by decide +kernel
theorem dX3_isSame_197 : decode cX3_isSame 197 = .ok (.iload 6, 2) := by decide +kernel
theorem dX3_isSame_199 : decode cX3_isSame 199 = .ok (.aaload, 1) := by decide +kernel
theorem dX3_isSame_200 : decode cX3_isSame 200 = .ok (.iload 9, 2) := by decide +kernel
theorem dX3_isSame_202 : decode cX3_isSame 202 = .ok (.iaload, 1) := by decide +kernel
theorem dX3_isSame_203 : decode cX3_isSame 203 = .ok (.if_icmp .eq 5, 3) := by decide +kernel
theorem dX3_isSame_206 : decode cX3_isSame 206 = .ok (.iconst 0, 1) := by decide +kernel
theorem dX3_isSame_207 : decode cX3_isSame 207 = .ok (.ireturn, 1) := by decide +kernel
theorem dX3_isSame_208 : decode cX3_isSame 208 = .ok (.iinc 9 1, 3) := by decide +kernel
theorem dX3_isSame_211 : decode cX3_isSame 211 = .ok (.goto (-75), 3) := by decide +kernel
theorem dX3_isSame_214 : decode cX3_isSame 214 = .ok (.aload_n 0, 1) := by decide +kernel
theorem dX3_isSame_215 : decode cX3_isSame 215 = .ok (.getfield 15, 3) := by decide +kernel
theorem dX3_isSame_218 : decode cX3_isSame 218 = .ok (.astore 9, 2) := by decide +kernel
theorem dX3_isSame_220 : decode cX3_isSame 220 = .ok (.aload 9, 2) := by decide +kernel
theorem dX3_isSame_222 : decode cX3_isSame 222 = .ok (.arraylength, 1) := by decide +kernel
theorem dX3_isSame_223 : decode cX3_isSame 223 = .ok (.istore 10, 2) := by decide +kernel
theorem dX3_isSame_225 : decode cX3_isSame 225 = .ok (.iconst 0, 1) := by decide +kernel
theorem dX3_isSame_226 : decode cX3_isSame 226 = .ok (.istore 11, 2) := by decide +kernel
theorem dX3_isSame_228 : decode cX3_isSame 228 = .ok (.iload 11, 2) := by decide +kernel
theorem dX3_isSame_230 : decode cX3_isSame 230 = .ok (.iload 10, 2) := by decide +kernel
theorem dX3_isSame_232 : decode cX3_isSame 232 = .ok (.if_icmp .ge 69, 3) := by decide +kernel
theorem dX3_isSame_235 : decode cX3_isSame 235 = .ok (.aload 9, 2) := by decide +kernel
theorem dX3_isSame_237 : decode cX3_isSame 237 = .ok (.iload 11, 2) := by decide +kernel
theorem dX3_isSame_239 : decode cX3_isSame 239 = .ok (.aaload, 1) := by decide +kernel
theorem dX3_isSame_240 : decode cX3_isSame 240 = .ok (.astore 12, 2) := by decide +kernel
theorem dX3_isSame_242 : decode cX3_isSame 242 = .ok (.aload 7, 2) := by decide +kernel
theorem dX3_isSame_244 : decode cX3_isSame 244 = .ok (.iconst 4, 1) := by decide +kernel
theorem dX3_isSame_245 : decode cX3_isSame 245 = .ok (.dup2, 1) := by decide +kernel
theorem dX3_isSame_246 : decode cX3_isSame 246 = .ok (.iaload, 1) := by decide +kernel
theorem dX3_isSame_247 : decode cX3_isSame 247 = .ok (.aload 12, 2) := by decide +kernel
theorem dX3_isSame_249 : decode cX3_isSame 249 = .ok (.iconst 0, 1) := by decide +kernel
theorem dX3_isSame_250 : decode cX3_isSame 250 = .ok (.iaload, 1) := by decide +kernel
theorem dX3_isSame_251 : decode cX3_isSame 251 = .ok (.iload 6, 2) := by decide +kernel
theorem dX3_isSame_253 : decode cX3_isSame 253 = .ok (.if_icmp .ne 7, 3) := by decide +kernel
theorem dX3_isSame_256 : decode cX3_isSame 256 = .ok (.iconst 1, 1) := by decide +kernel
theorem dX3_isSame_257 : decode cX3_isSame 257 = .ok (.goto 4, 3) := by decide +kernel
theorem dX3_isSame_260 : decode cX3_isSame 260 = .ok (.iconst 0, 1) := by decide +kernel
theorem dX3_isSame_261 : decode cX3_isSame 261 = .ok (.iadd, 1) := by decide +kernel
theorem dX3_isSame_262 : decode cX3_isSame 262 = .ok (.iastore, 1) := by decide +kernel
theorem dX3_isSame_263 : decode cX3_isSame 263 = .ok (.aload 7, 2) := by decide +kernel
theorem dX3_isSame_265 : decode cX3_isSame 265 = .ok (.iconst 5, 1) := by decide +kernel
theorem dX3_isSame_266 : decode cX3_isSame 266 = .ok (.dup2, 1) := by decide +kernel
theorem dX3_isSame_267 : decode cX3_isSame 267 = .ok (.iaload, 1) := by decide +kernel
theorem dX3_isSame_268 : decode cX3_isSame 268 = .ok (.aload 12, 2) := by decide +kernel
theorem dX3_isSame_270 : decode cX3_isSame 270 = .ok (.iconst 0, 1) := by decide +kernel
theorem dX3_isSame_271 : decode cX3_isSame 271 = .ok (.iaload, 1) := by decide +kernel
theorem dX3_isSame_272 : decode cX3_isSame 272 = .ok (.iload 6, 2) := by decide +kernel
theorem dX3_isSame_274 : decode cX3_isSame 274 = .ok (.if_icmp .ne 18, 3) := by decide +kernel
theorem dX3_isSame_277 : decode cX3_isSame 277 = .ok (.aload 12, 2) := by decide +kernel
theorem dX3_isSame_279 : decode cX3_isSame 279 = .ok (.iconst 1, 1) := by decide +kernel
theorem dX3_isSame_280 : decode cX3_isSame 280 = .ok (.iaload, 1) := by decide +kernel
theorem dX3_isSame_281 : decode cX3_isSame 281 = .ok (.aload 7, 2) := by decide +kernel
theorem dX3_isSame_283 : decode cX3_isSame 283 = .ok (.iconst 0, 1) := by decide +kernel
theorem dX3_isSame_284 : decode cX3_isSame 284 = .ok (.iaload, 1) := by decide +kernel
theorem dX3_isSame_285 : decode cX3_isSame 285 = .ok (.if_icmp .ne 7, 3) := by decide +kernel
theorem dX3_isSame_288 : decode cX3_isSame 288 = .ok (.iconst 1, 1) := by decide +kernel
theorem dX3_isSame_289 : decode cX3_isSame 289 = .ok (.goto 4, 3) := by decide +kernel
theorem dX3_isSame_292 : decode cX3_isSame 292 = .ok (.iconst 0, 1) := by decide +kernel
theorem dX3_isSame_293 : decode cX3_isSame 293 = .ok (.iadd, 1) := by decide +kernel
theorem dX3_isSame_294 : decode cX3_isSame 294 = .ok (.iastore, 1) := by decide +kernel
theorem dX3_isSame_295 : decode cX3_isSame 295 = .ok (.iinc 11 1, 3) := by decide +kernel
theorem dX3_isSame_298 : decode cX3_isSame 298 = .ok (.goto (-70), 3) := by decide +kernel
theorem dX3_isSame_301 : decode cX3_isSame 301 = .ok (.iconst 0, 1) := by decide +kernel
theorem dX3_isSame_302 : decode cX3_isSame 302 = .ok (.istore 9, 2) := by decide +kernel
theorem dX3_isSame_304 : decode cX3_isSame 304 = .ok (.iload 9, 2) := by decide +kernel
theorem dX3_isSame_306 : decode cX3_isSame 306 = .ok (.bipush 6, 2) := by decide +kernel
theorem dX3_isSame_308 : decode cX3_isSame 308 = .ok (.if_icmp .ge 27, 3) := by decide +kernel
theorem dX3_isSame_311 : decode cX3_isSame 311 = .ok (.aload_n 1, 1) := by decide +kernel
theorem dX3_isSame_312 : decode cX3_isSame 312 = .ok (.iload 6, 2) := by decide +kernel
theorem dX3_isSame_314 : decode cX3_isSame 314 = .ok (.iload 9, 2) := by decide +kernel
theorem dX3_isSame_316 : decode cX3_isSame 316 = .ok (.invokevirtual 48, 3) := by decide +kernel
theorem dX3_isSame_319 : decode cX3_isSame 319 = .ok (.aload 7, 2) := by decide +kernel
theorem dX3_isSame_321 : decode cX3_isSame 321 = .ok (.iload 9, 2) := by decide +kernel
theorem dX3_isSame_323 : decode cX3_isSame 323 = .ok (.iaload, 1) := by decide +kernel
theorem dX3_isSame_324 : decode cX3_isSame 324 = .ok (.if_icmp .eq 5, 3) := by decide +kernel
theorem dX3_isSame_327 : decode cX3_isSame 327 = .ok (.iconst 0, 1) := by decide +kernel
theorem dX3_isSame_328 : decode cX3_isSame 328 = .ok (.ireturn, 1) := by decide +kernel
theorem dX3_isSame_329 : decode cX3_isSame 329 = .ok (.iinc 9 1, 3) := by decide +kernel
theorem dX3_isSame_332 : decode cX3_isSame 332 = .ok (.goto (-28), 3) := by decide +kernel
theorem dX3_isSame_335 : decode cX3_isSame 335 = .ok (.iconst 1, 1) := by decide +kernel
theorem dX3_isSame_336 : decode cX3_isSame 336 = .ok (.istore 9, 2) := by decide +kernel
theorem dX3_isSame_338 : decode cX3_isSame 338 = .ok (.iload 9, 2) := by decide +kernel
theorem dX3_isSame_340 : decode cX3_isSame 340 = .ok (.bipush 32, 2) := by decide +kernel
theorem dX3_isSame_342 : decode cX3_isSame 342 = .ok (.if_icmp .ge 26, 3) := by decide +kernel
theorem dX3_isSame_345 : decode cX3_isSame 345 = .ok (.iload 5, 2) := by decide +kernel
theorem dX3_isSame_347 : decode cX3_isSame 347 = .ok (.aload_n 0, 1) := by decide +kernel
theorem dX3_isSame_348 : decode cX3_isSame 348 = .ok (.getfield 9, 3) := by decide +kernel
theorem dX3_isSame_351 : decode cX3_isSame 351 = .ok (.iload 6, 2) := by decide +kernel
theorem dX3_isSame_353 : decode cX3_isSame 353 = .ok (.aaload, 1) := by decide +kernel
theorem dX3_isSame_354 : decode cX3_isSame 354 = .ok (.iload 9, 2) := by decide +kernel
theorem dX3_isSame_356 : decode cX3_isSame 356 = .ok (.invokestatic 21, 3) := by decide +kernel
theorem dX3_isSame_359 : decode cX3_isSame 359 = .ok (.iadd, 1) := by decide +kernel
theorem dX3_isSame_360 : decode cX3_isSame 360 = .ok (.istore 5, 2) := by decide +kernel
theorem dX3_isSame_362 : decode cX3_isSame 362 = .ok (.iinc 9 1, 3) := by decide +kernel
theorem dX3_isSame_365 : decode cX3_isSame 365 = .ok (.goto (-27), 3) := by decide +kernel
theorem dX3_isSame_368 : decode cX3_isSame 368 = .ok (.iinc 6 1, 3) := by decide +kernel
theorem dX3_isSame_371 : decode cX3_isSame 371 = .ok (.goto (-354), 3) := by decide +kernel
theorem dX3_isSame_374 : decode cX3_isSame 374 = .ok (.iconst 0, 1) := by decide +kernel
theorem dX3_isSame_375 : decode cX3_isSame 375 = .ok (.istore 6, 2) := by decide +kernel
theorem dX3_isSame_377 : decode cX3_isSame 377 = .ok (.iload 6, 2) := by decide +kernel
theorem dX3_isSame_379 : decode cX3_isSame 379 = .ok (.aload_n 0, 1) := by decide +kernel
theorem dX3_isSame_380 : decode cX3_isSame 380 = .ok (.getfield 15, 3) := by decide +kernel
theorem dX3_isSame_383 : decode cX3_isSame 383 = .ok (.arraylength, 1) := by decide +kernel
theorem dX3_isSame_384 : decode cX3_isSame 384 = .ok (.if_icmp .ge 110, 3) := by decide +kernel
theorem dX3_isSame_387 : decode cX3_isSame 387 = .ok (.iconst 4, 1) := by decide +kernel
theorem dX3_isSame_388 : decode cX3_isSame 388 = .ok (.newarray .int, 2) := by decide +kernel
theorem dX3_isSame_390 : decode cX3_isSame 390 = .ok (.dup, 1) := by decide +kernel
theorem dX3_isSame_391 : decode cX3_isSame 391 = .ok (.iconst 0, 1) := by decide +kernel
theorem dX3_isSame_392 : decode cX3_isSame 392 = .ok (.aload_n 0, 1) := by decide +kernel
theorem dX3_isSame_393 : decode cX3_isSame 393 = .ok (.getfield 15, 3) := by decide +kernel
theorem dX3_isSame_396 : decode cX3_isSame 396 = .ok (.iload 6, 2) := by decide +kernel
theorem dX3_isSame_398 : decode cX3_isSame 398 = .ok (.aaload, 1) := by decide +kernel
theorem dX3_isSame_399 : decode cX3_isSame 399 = .ok (.iconst 0, 1) := by decide +kernel
theorem dX3_isSame_400 : decode cX3_isSame 400 = .ok (.iaload, 1) := by decide +kernel
theorem dX3_isSame_401 : decode cX3_isSame 401 = .ok (.iastore, 1) := by decide +kernel
theorem dX3_isSame_402 : decode cX3_isSame 402 = .ok (.dup, 1) := by decide +kernel
theorem dX3_isSame_403 : decode cX3_isSame 403 = .ok (.iconst 1, 1) := by decide +kernel
theorem dX3_isSame_404 : decode cX3_isSame 404 = .ok (.aload_n 0, 1) := by decide +kernel
theorem dX3_isSame_405 : decode cX3_isSame 405 = .ok (.getfield 15, 3) := by decide +kernel
theorem dX3_isSame_408 : decode cX3_isSame 408 = .ok (.iload 6, 2) := by decide +kernel
theorem dX3_isSame_410 : decode cX3_isSame 410 = .ok (.aaload, 1) := by decide +kernel
theorem dX3_isSame_411 : decode cX3_isSame 411 = .ok (.iconst 1, 1) := by decide +kernel
theorem dX3_isSame_412 : decode cX3_isSame 412 = .ok (.iaload, 1) := by decide +kernel
theorem dX3_isSame_413 : decode cX3_isSame 413 = .ok (.iastore, 1) := by decide +kernel
theorem dX3_isSame_414 : decode cX3_isSame 414 = .ok (.dup, 1) := by decide +kernel
theorem dX3_isSame_415 : decode cX3_isSame 415 = .ok (.iconst 2, 1) := by decide +kernel
theorem dX3_isSame_416 : decode cX3_isSame 416 = .ok (.aload_n 0, 1) := by decide +kernel
theorem dX3_isSame_417 : decode cX3_isSame 417 = .ok (.getfield 15, 3) := by decide +kernel
theorem dX3_isSame_420 : decode cX3_isSame 420 = .ok (.iload 6, 2) := by decide +kernel
theorem dX3_isSame_422 : decode cX3_isSame 422 = .ok (.aaload, 1) := by decide +kernel
theorem dX3_isSame_423 : decode cX3_isSame 423 = .ok (.iconst 2, 1) := by decide +kernel
theorem dX3_isSame_424 : decode cX3_isSame 424 = .ok (.iaload, 1) := by decide +kernel
theorem dX3_isSame_425 : decode cX3_isSame 425 = .ok (.iastore, 1) := by decide +kernel
theorem dX3_isSame_426 : decode cX3_isSame 426 = .ok (.dup, 1) := by decide +kernel
theorem dX3_isSame_427 : decode cX3_isSame 427 = .ok (.iconst 3, 1) := by decide +kernel
theorem dX3_isSame_428 : decode cX3_isSame 428 = .ok (.aload_n 0, 1) := by decide +kernel
theorem dX3_isSame_429 : decode cX3_isSame 429 = .ok (.getfield 18, 3) := by decide +kernel
theorem dX3_isSame_432 : decode cX3_isSame 432 = .ok (.aload_n 0, 1) := by decide +kernel
theorem dX3_isSame_433 : decode cX3_isSame 433 = .ok (.getfield 15, 3) := by decide +kernel
theorem dX3_isSame_436 : decode cX3_isSame 436 = .ok (.iload 6, 2) := by decide +kernel
theorem dX3_isSame_438 : decode cX3_isSame 438 = .ok (.aaload, 1) := by decide +kernel
theorem dX3_isSame_439 : decode cX3_isSame 439 = .ok (.iconst 0, 1) := by decide +kernel
theorem dX3_isSame_440 : decode cX3_isSame 440 = .ok (.iaload, 1) := by decide +kernel
theorem dX3_isSame_441 : decode cX3_isSame 441 = .ok (.iaload, 1) := by decide +kernel
theorem dX3_isSame_442 : decode cX3_isSame 442 = .ok (.aload_n 0, 1) := by decide +kernel
theorem dX3_isSame_443 : decode cX3_isSame 443 = .ok (.getfield 15, 3) := by decide +kernel
theorem dX3_isSame_446 : decode cX3_isSame 446 = .ok (.iload 6, 2) := by decide +kernel
theorem dX3_isSame_448 : decode cX3_isSame 448 = .ok (.aaload, 1) := by decide +kernel
theorem dX3_isSame_449 : decode cX3_isSame 449 = .ok (.iconst 2, 1) := by decide +kernel
theorem dX3_isSame_450 : decode cX3_isSame 450 = .ok (.iaload, 1) := by decide +kernel
theorem dX3_isSame_451 : decode cX3_isSame 451 = .ok (.isub, 1) := by decide +kernel
theorem dX3_isSame_452 : decode cX3_isSame 452 = .ok (.iastore, 1) := by decide +kernel
theorem dX3_isSame_453 : decode cX3_isSame 453 = .ok (.astore 7, 2) := by decide +kernel
theorem dX3_isSame_455 : decode cX3_isSame 455 = .ok (.iconst 0, 1) := by decide +kernel
theorem dX3_isSame_456 : decode cX3_isSame 456 = .ok (.istore 8, 2) := by decide +kernel
theorem dX3_isSame_458 : decode cX3_isSame 458 = .ok (.iload 8, 2) := by decide +kernel
theorem dX3_isSame_460 : decode cX3_isSame 460 = .ok (.iconst 4, 1) := by decide +kernel
theorem dX3_isSame_461 : decode cX3_isSame 461 = .ok (.if_icmp .ge 27, 3) := by decide +kernel
theorem dX3_isSame_464 : decode cX3_isSame 464 = .ok (.aload_n 1, 1) := by decide +kernel
theorem dX3_isSame_465 : decode cX3_isSame 465 = .ok (.iload 6, 2) := by decide +kernel
theorem dX3_isSame_467 : decode cX3_isSame 467 = .ok (.iload 8, 2) := by decide +kernel
theorem dX3_isSame_469 : decode cX3_isSame 469 = .ok (.invokevirtual 51, 3) := by decide +kernel
theorem dX3_isSame_472 : decode cX3_isSame 472 = .ok (.aload 7, 2) := by decide +kernel
theorem dX3_isSame_474 : decode cX3_isSame 474 = .ok (.iload 8, 2) := by decide +kernel
theorem dX3_isSame_476 : decode cX3_isSame 476 = .ok (.iaload, 1) := by decide +kernel
theorem dX3_isSame_477 : decode cX3_isSame 477 = .ok (.if_icmp .eq 5, 3) := by decide +kernel
theorem dX3_isSame_480 : decode cX3_isSame 480 = .ok (.iconst 0, 1) := by decide +kernel
theorem dX3_isSame_481 : decode cX3_isSame 481 = .ok (.ireturn, 1) := by decide +kernel
theorem dX3_isSame_482 : decode cX3_isSame 482 = .ok (.iinc 8 1, 3) := by decide +kernel
theorem dX3_isSame_485 : decode cX3_isSame 485 = .ok (.goto (-27), 3) := by decide +kernel
theorem dX3_isSame_488 : decode cX3_isSame 488 = .ok (.iinc 6 1, 3) := by decide +kernel
theorem dX3_isSame_491 : decode cX3_isSame 491 = .ok (.goto (-114), 3) := by decide +kernel
theorem dX3_isSame_494 : decode cX3_isSame 494 = .ok (.aload_n 1, 1) := by decide +kernel
theorem dX3_isSame_495 : decode cX3_isSame 495 = .ok (.iconst 0, 1) := by decide +kernel
theorem dX3_isSame_496 : decode cX3_isSame 496 = .ok (.invokevirtual 54, 3) := by decide +kernel
theorem dX3_isSame_499 : decode cX3_isSame 499 = .ok (.iload_n 2, 1) := by decide +kernel
theorem dX3_isSame_500 : decode cX3_isSame 500 = .ok (.if_icmp .ne 64, 3) := by decide +kernel
theorem dX3_isSame_503 : decode cX3_isSame 503 = .ok (.aload_n 1, 1) := by decide +kernel
theorem dX3_isSame_504 : decode cX3_isSame 504 = .ok (.iconst 1, 1) := by decide +kernel
theorem dX3_isSame_505 : decode cX3_isSame 505 = .ok (.invokevirtual 54, 3) := by decide +kernel
theorem dX3_isSame_508 : decode cX3_isSame 508 = .ok (.aload_n 0, 1) := by decide +kernel
theorem dX3_isSame_509 : decode cX3_isSame 509 = .ok (.getfield 15, 3) := by decide +kernel
theorem dX3_isSame_512 : decode cX3_isSame 512 = .ok (.arraylength, 1) := by decide +kernel
theorem dX3_isSame_513 : decode cX3_isSame 513 = .ok (.if_icmp .ne 51, 3) := by decide +kernel
theorem dX3_isSame_516 : decode cX3_isSame 516 = .ok (.aload_n 1, 1) := by decide +kernel
theorem dX3_isSame_517 : decode cX3_isSame 517 = .ok (.iconst 2, 1) := by decide +kernel
theorem dX3_isSame_518 : decode cX3_isSame 518 = .ok (.invokevirtual 54, 3) := by decide +kernel
theorem dX3_isSame_521 : decode cX3_isSame 521 = .ok (.iload_n 3, 1) := by decide +kernel
theorem dX3_isSame_522 : decode cX3_isSame 522 = .ok (.if_icmp .ne 42, 3) := by decide +kernel
theorem dX3_isSame_525 : decode cX3_isSame 525 = .ok (.aload_n 1, 1) := by decide +kernel
theorem dX3_isSame_526 : decode cX3_isSame 526 = .ok (.iconst 3, 1) := by decide +kernel
theorem dX3_isSame_527 : decode cX3_isSame 527 = .ok (.invokevirtual 54, 3) := by decide +kernel
theorem dX3_isSame_530 : decode cX3_isSame 530 = .ok (.iload 4, 2) := by decide +kernel
theorem dX3_isSame_532 : decode cX3_isSame 532 = .ok (.if_icmp .ne 32, 3) := by decide +kernel
theorem dX3_isSame_535 : decode cX3_isSame 535 = .ok (.aload_n 1, 1) := by decide +kernel
theorem dX3_isSame_536 : decode cX3_isSame 536 = .ok (.invokevirtual 57, 3) := by decide +kernel
theorem dX3_isSame_539 : decode cX3_isSame 539 = .ok (.iload_n 2, 1) := by decide +kernel
theorem dX3_isSame_540 : decode cX3_isSame 540 = .ok (.ifCond .ne 7, 3) := by decide +kernel
theorem dX3_isSame_543 : decode cX3_isSame 543 = .ok (.dconst 0, 1) := by decide +kernel
theorem dX3_isSame_544 : decode cX3_isSame 544 = .ok (.goto 12, 3) := by decide +kernel
theorem dX3_isSame_547 : decode cX3_isSame 547 = .ok (.iload 5, 2) := by decide +kernel
theorem dX3_isSame_549 : decode cX3_isSame 549 = .ok (.i2d, 1) := by decide +kernel
theorem dX3_isSame_550 : decode cX3_isSame 550 = .ok (.bipush 31, 2) := by decide +kernel
theorem dX3_isSame_552 : decode cX3_isSame 552 = .ok (.iload_n 2, 1) := by decide +kernel
theorem dX3_isSame_553 : decode cX3_isSame 553 = .ok (.imul, 1) := by decide +kernel
theorem dX3_isSame_554 : decode cX3_isSame 554 = .ok (.i2d, 1) := by decide +kernel
theorem dX3_isSame_555 : decode cX3_isSame 555 = .ok (.ddiv, 1) := by decide +kernel
theorem dX3_isSame_556 : decode cX3_isSame 556 = .ok (.dcmp .l, 1) := by decide +kernel
theorem dX3_isSame_557 : decode cX3_isSame 557 = .ok (.ifCond .ne 7, 3) := by decide +kernel
theorem dX3_isSame_560 : decode cX3_isSame 560 = .ok (.iconst 1, 1) := by decide +kernel
theorem dX3_isSame_561 : decode cX3_isSame 561 = .ok (.goto 4, 3) := by decide +kernel
theorem dX3_isSame_564 : decode cX3_isSame 564 = .ok (.iconst 0, 1) := by decide +kernel
theorem dX3_isSame_565 : decode cX3_isSame 565 = .ok (.ireturn, 1) := by decide +kernel
theorem dJ6_bitCount_0f7a4_0 : decode cJ6_bitCount_0f7a4 0 = .ok (.iload_n 0, 1) := by decide +kernel
theorem dJ6_bitCount_0f7a4_1 : decode cJ6_bitCount_0f7a4 1 = .ok (.iload_n 0, 1) := by decide +kernel
theorem dJ6_bitCount_0f7a4_2 : decode cJ6_bitCount_0f7a4 2 = .ok (.iconst 1, 1) := by decide +kernel
theorem dJ6_bitCount_0f7a4_3 : decode cJ6_bitCount_0f7a4 3 = .ok (.iushr, 1) := by decide +kernel
theorem dJ6_bitCount_0f7a4_4 : decode cJ6_bitCount_0f7a4 4 = .ok (.ldc_w 265, 3) := by decide +kernel
theorem dJ6_bitCount_0f7a4_7 : decode cJ6_bitCount_0f7a4 7 = .ok (.iand, 1) := by decide +kernel
theorem dJ6_bitCount_0f7a4_8 : decode cJ6_bitCount_0f7a4 8 = .ok (.isub, 1) := by decide +kernel
theorem dJ6_bitCount_0f7a4_9 : decode cJ6_bitCount_0f7a4 9 = .ok (.istore_n 0, 1) := by decide +kernel
theorem dJ6_bitCount_0f7a4_10 : decode cJ6_bitCount_0f7a4 10 = .ok (.iload_n 0, 1) := by decide +kernel
theorem dJ6_bitCount_0f7a4_11 : decode cJ6_bitCount_0f7a4 11 = .ok (.ldc_w 266, 3) := by decide +kernel
theorem dJ6_bitCount_0f7a4_14 : decode cJ6_bitCount_0f7a4 14 = .ok (.iand, 1) := by decide +kernel
theorem dJ6_bitCount_0f7a4_15 : decode cJ6_bitCount_0f7a4 15 = .ok (.iload_n 0, 1) := by decide +kernel
theorem dJ6_bitCount_0f7a4_16 : decode cJ6_bitCount_0f7a4 16 = .ok (.iconst 2, 1) := by decide +kernel
theorem dJ6_bitCount_0f7a4_17 : decode cJ6_bitCount_0f7a4 17 = .ok (.iushr, 1) := by decide +kernel
theorem dJ6_bitCount_0f7a4_18 : decode cJ6_bitCount_0f7a4 18 = .ok (.ldc_w 266, 3) := by decide +kernel
theorem dJ6_bitCount_0f7a4_21 : decode cJ6_bitCount_0f7a4 21 = .ok (.iand, 1) := by decide +kernel
theorem dJ6_bitCount_0f7a4_22 : decode cJ6_bitCount_0f7a4 22 = .ok (.iadd, 1) := by decide +kernel
theorem dJ6_bitCount_0f7a4_23 : decode cJ6_bitCount_0f7a4 23 = .ok (.istore_n 0, 1) := by decide +kernel
theorem dJ6_bitCount_0f7a4_24 : decode cJ6_bitCount_0f7a4 24 = .ok (.iload_n 0, 1) := by decide +kernel
theorem dJ6_bitCount_0f7a4_25 : decode cJ6_bitCount_0f7a4 25 = .ok (.iload_n 0, 1) := by decide +kernel
theorem dJ6_bitCount_0f7a4_26 : decode cJ6_bitCount_0f7a4 26 = .ok (.iconst 4, 1) := by decide +kernel
theorem dJ6_bitCount_0f7a4_27 : decode cJ6_bitCount_0f7a4 27 = .ok (.iushr, 1) := by decide +kernel
theorem dJ6_bitCount_0f7a4_28 : decode cJ6_bitCount_0f7a4 28 = .ok (.iadd, 1) := by decide +kernel
theorem dJ6_bitCount_0f7a4_29 : decode cJ6_bitCount_0f7a4 29 = .ok (.ldc_w 267, 3) := by decide +kernel
theorem dJ6_bitCount_0f7a4_32 : decode cJ6_bitCount_0f7a4 32 = .ok (.iand, 1) := by decide +kernel
theorem dJ6_bitCount_0f7a4_33 : decode cJ6_bitCount_0f7a4 33 = .ok (.istore_n 0, 1) := by decide +kernel
theorem dJ6_bitCount_0f7a4_34 : decode cJ6_bitCount_0f7a4 34 = .ok (.iload_n 0, 1) := by decide +kernel
theorem dJ6_bitCount_0f7a4_35 : decode cJ6_bitCount_0f7a4 35 = .ok (.iload_n 0, 1) := by decide +kernel
theorem dJ6_bitCount_0f7a4_36 : decode cJ6_bitCount_0f7a4 36 = .ok (.bipush 8, 2) := by decide +kernel
theorem dJ6_bitCount_0f7a4_38 : decode cJ6_bitCount_0f7a4 38 = .ok (.iushr, 1) := by decide +kernel
theorem dJ6_bitCount_0f7a4_39 : decode cJ6_bitCount_0f7a4 39 = .ok (.iadd, 1) := by decide +kernel
theorem dJ6_bitCount_0f7a4_40 : decode cJ6_bitCount_0f7a4 40 = .ok (.istore_n 0, 1) := by decide +kernel
theorem dJ6_bitCount_0f7a4_41 : decode cJ6_bitCount_0f7a4 41 = .ok (.iload_n 0, 1) := by decide +kernel
theorem dJ6_bitCount_0f7a4_42 : decode cJ6_bitCount_0f7a4 42 = .ok (.iload_n 0, 1) := by decide +kernel
theorem dJ6_bitCount_0f7a4_43 : decode cJ6_bitCount_0f7a4 43 = .ok (.bipush 16, 2) := by decide +kernel
theorem dJ6_bitCount_0f7a4_45 : decode cJ6_bitCount_0f7a4 45 = .ok (.iushr, 1) := by decide +kernel
theorem dJ6_bitCount_0f7a4_46 : decode cJ6_bitCount_0f7a4 46 = .ok (.iadd, 1) := by decide +kernel
theorem dJ6_bitCount_0f7a4_47 : decode cJ6_bitCount_0f7a4 47 = .ok (.istore_n 0, 1) := by decide +kernel
theorem dJ6_bitCount_0f7a4_48 : decode cJ6_bitCount_0f7a4 48 = .ok (.iload_n 0, 1) := by decide +kernel
theorem dJ6_bitCount_0f7a4_49 : decode cJ6_bitCount_0f7a4 49 = .ok (.bipush 63, 2) := by decide +kernel
theorem dJ6_bitCount_0f7a4_51 : decode cJ6_bitCount_0f7a4 51 = .ok (.iand, 1) := by decide +kernel
theorem dJ6_bitCount_0f7a4_52 : decode cJ6_bitCount_0f7a4 52 = .ok (.ireturn, 1) := by decide +kernel
theorem dL_below_0 : decode cL_below 0 = .ok (.iload_n 0, 1) := by decide +kernel
theorem dL_below_1 : decode cL_below 1 = .ok (.ldc 7, 2) := by decide +kernel
theorem dL_below_3 : decode cL_below 3 = .ok (.iand, 1) := by decide +kernel
theorem dL_below_4 : decode cL_below 4 = .ok (.iload_n 1, 1) := by decide +kernel
theorem dL_below_5 : decode cL_below 5 = .ok (.irem, 1) := by decide +kernel
theorem dL_below_6 : decode cL_below 6 = .ok (.ireturn, 1) := by decide +kernel
theorem dL_cell_0 : decode cL_cell 0 = .ok (.iload_n 1, 1) := by decide +kernel
theorem dL_cell_1 : decode cL_cell 1 = .ok (.aload_n 0, 1) := by decide +kernel
theorem dL_cell_2 : decode cL_cell 2 = .ok (.arraylength, 1) := by decide +kernel
theorem dL_cell_3 : decode cL_cell 3 = .ok (.if_icmp .ge 9, 3) := by decide +kernel
theorem dL_cell_6 : decode cL_cell 6 = .ok (.aload_n 0, 1) := by decide +kernel
theorem dL_cell_7 : decode cL_cell 7 = .ok (.iload_n 1, 1) := by decide +kernel
theorem dL_cell_8 : decode cL_cell 8 = .ok (.iaload, 1) := by decide +kernel
theorem dL_cell_9 : decode cL_cell 9 = .ok (.goto 9, 3) := by decide +kernel
theorem dL_cell_12 : decode cL_cell 12 = .ok (.ldc 8, 2) := by decide +kernel
theorem dL_cell_14 : decode cL_cell 14 = .ok (.iload_n 1, 1) := by decide +kernel
theorem dL_cell_15 : decode cL_cell 15 = .ok (.iconst 3, 1) := by decide +kernel
theorem dL_cell_16 : decode cL_cell 16 = .ok (.iadd, 1) := by decide +kernel
theorem dL_cell_17 : decode cL_cell 17 = .ok (.imul, 1) := by decide +kernel
theorem dL_cell_18 : decode cL_cell 18 = .ok (.ireturn, 1) := by decide +kernel
set_option maxRecDepth 20000 in
theorem ggL_act_L_below : GoodIn wsL_act wsL_below := goodIn_r _ [8, 9] (by decide +kernel) (by decide +kernel)
set_option maxRecDepth 20000 in
theorem gL_act_L_below : GoodIn wsL_act (va_wsS RL 15 yL_below wsL_below) := goodIn_app (goodIn_of _ (by decide +kernel)) ggL_act_L_below
set_option maxRecDepth 20000 in
theorem ggL_act_X3_more : GoodIn wsL_act wsX3_more := goodIn_r _ [13, 14] (by decide +kernel) (by decide +kernel)
set_option maxRecDepth 20000 in
theorem gL_act_X3_more : GoodIn wsL_act (va_wsS RL 21 yX3_more wsX3_more) := goodIn_app (goodIn_of _ (by decide +kernel)) ggL_act_X3_more
set_option maxRecDepth 20000 in
theorem ggL_act_X2_come : GoodIn wsL_act wsX2_come := goodIn_ca (goodIn_r _ [19, 20, 21, 22, 23, 24, 25, 26, 27, 28, 29, 30, 31, 2, 32, 33, 34, 18, 35, 36, 37, 144, 145, 146, 147, 148, 149, 150, 151] (by decide +kernel) (by decide +kernel)) (goodIn_sub (fun _ h => List.mem_cons_of_mem _ (List.mem_append_left _ (List.mem_append_left _ (List.mem_append_right _ h)))) (by decide +kernel))
set_option maxRecDepth 20000 in
theorem gL_act_X2_come : GoodIn wsL_act (wsV RL 25 RX2 yX2_come wsX2_come) := goodIn_app (goodIn_of _ (by decide +kernel)) ggL_act_X2_come
set_option maxRecDepth 20000 in
theorem ggL_act_X3_root : GoodIn wsL_act wsX3_root := goodIn_r _ [41, 42, 43, 44, 12, 45, 141, 142, 143] (by decide +kernel) (by decide +kernel)
set_option maxRecDepth 20000 in
theorem gL_act_X3_root : GoodIn wsL_act (wsV RL 34 RX3 yX3_root wsX3_root) := goodIn_app (goodIn_of _ (by decide +kernel)) ggL_act_X3_root
set_option maxRecDepth 20000 in
theorem ggL_act_X2_seal : GoodIn wsL_act wsX2_seal := goodIn_ca (goodIn_ca (goodIn_r _ [49, 20, 21, 50, 51, 52, 53, 54, 55, 56, 57, 18, 58, 59, 60, 22, 23, 61, 26, 62, 63, 33, 64, 65, 66, 30, 31, 67, 68, 69, 144, 145, 146, 147, 148, 152, 153, 154, 149, 150, 151] (by decide +kernel) (by decide +kernel)) (goodIn_sub (fun _ h => List.mem_cons_of_mem _ (List.mem_append_left _ (List.mem_append_left _ (List.mem_append_right _ h)))) (by decide +kernel))) (goodIn_sub (fun _ h => List.mem_cons_of_mem _ (List.mem_append_left _ (List.mem_append_right _ h))) (by decide +kernel))
set_option maxRecDepth 20000 in
theorem gL_act_X2_seal : GoodIn wsL_act (wsV RL 42 RX2 yX2_seal wsX2_seal) := goodIn_app (goodIn_of _ (by decide +kernel)) ggL_act_X2_seal
set_option maxRecDepth 20000 in
theorem ggL_act_X2_swap : GoodIn wsL_act wsX2_swap := goodIn_ca (goodIn_r _ [73, 74, 75, 76, 77, 78, 55, 56, 57, 18, 58, 59, 60, 22, 23, 79, 80, 81, 82, 26, 83, 84, 32, 85, 33, 86, 87, 88, 34, 35, 89, 36, 37, 90, 91, 92, 149, 150, 151, 144, 145, 146, 147, 148] (by decide +kernel) (by decide +kernel)) (goodIn_sub (fun _ h => List.mem_cons_of_mem _ (List.mem_append_left _ (List.mem_append_right _ h))) (by decide +kernel))
set_option maxRecDepth 20000 in
theorem gL_act_X2_swap : GoodIn wsL_act (wsV RL 45 RX2 yX2_swap wsX2_swap) := goodIn_app (goodIn_of _ (by decide +kernel)) ggL_act_X2_swap
set_option maxRecDepth 20000 in
theorem ggL_act_X3_swap : GoodIn wsL_act wsX3_swap := goodIn_r _ [96, 2, 42, 43, 44, 12, 45, 97, 98, 99, 100, 101, 141, 142, 143] (by decide +kernel) (by decide +kernel)
set_option maxRecDepth 20000 in
theorem gL_act_X3_swap : GoodIn wsL_act (wsV RL 49 RX3 yX3_swap wsX3_swap) := goodIn_app (goodIn_of _ (by decide +kernel)) ggL_act_X3_swap
set_option maxRecDepth 20000 in
theorem ggL_act_X2_mend : GoodIn wsL_act wsX2_mend := goodIn_ca (goodIn_r _ [105, 55, 56, 57, 18, 58, 59, 60, 22, 23, 106, 107, 108, 109, 110, 111, 112, 113, 114, 82, 26, 83, 84, 32, 85, 33, 86, 87, 88, 34, 35, 89, 36, 37, 115, 116, 117, 118, 119, 120, 121, 149, 150, 151, 144, 145, 146, 147, 148] (by decide +kernel) (by decide +kernel)) (goodIn_sub (fun _ h => List.mem_cons_of_mem _ (List.mem_append_left _ (List.mem_append_right _ h))) (by decide +kernel))
set_option maxRecDepth 20000 in
theorem gL_act_X2_mend : GoodIn wsL_act (wsV RL 50 RX2 yX2_mend wsX2_mend) := goodIn_app (goodIn_of _ (by decide +kernel)) ggL_act_X2_mend
set_option maxRecDepth 20000 in
theorem ggL_act_X3_mend : GoodIn wsL_act wsX3_mend := goodIn_r _ [125, 126, 42, 127, 128, 129, 12, 130, 43, 44, 45, 97, 98, 99, 100, 101, 141, 142, 143] (by decide +kernel) (by decide +kernel)
set_option maxRecDepth 20000 in
theorem gL_act_X3_mend : GoodIn wsL_act (wsV RL 53 RX3 yX3_mend wsX3_mend) := goodIn_app (goodIn_of _ (by decide +kernel)) ggL_act_X3_mend
set_option maxRecDepth 20000 in
theorem ggL_act_X3_put : GoodIn wsL_act wsX3_put := goodIn_r _ [100, 42, 101, 141, 142, 143] (by decide +kernel) (by decide +kernel)
set_option maxRecDepth 20000 in
theorem gL_act_X3_put : GoodIn wsL_act (wsV RL 54 RX3 yX3_put wsX3_put) := goodIn_app (goodIn_of _ (by decide +kernel)) ggL_act_X3_put
set_option maxRecDepth 20000 in
theorem ggL_act_X2_put : GoodIn wsL_act wsX2_put := goodIn_ca (goodIn_ca (goodIn_r _ [135, 55, 56, 57, 18, 58, 59, 60, 22, 23, 79, 80, 81, 136, 137, 138, 139, 140, 82, 26, 83, 84, 32, 85, 33, 86, 87, 88, 34, 35, 89, 36, 37, 149, 150, 151, 144, 145, 146, 147, 148] (by decide +kernel) (by decide +kernel)) (goodIn_sub (fun _ h => List.mem_cons_of_mem _ (List.mem_append_left _ (List.mem_append_right _ h))) (by decide +kernel))) (goodIn_sub (fun _ h => List.mem_cons_of_mem _ (List.mem_append_right _ h)) (by decide +kernel))
set_option maxRecDepth 20000 in
theorem gL_act_X2_put : GoodIn wsL_act (wsV RL 58 RX2 yX2_put wsX2_put) := goodIn_app (goodIn_of _ (by decide +kernel)) ggL_act_X2_put
theorem dL_act_0 : decode cL_act 0 = .ok (.aload_n 1, 1) := by decide +kernel
theorem dL_act_1 : decode cL_act 1 = .ok (.getfield 9, 3) := by decide +kernel
theorem dL_act_4 : decode cL_act 4 = .ok (.arraylength, 1) := by decide +kernel
theorem dL_act_5 : decode cL_act 5 = .ok (.istore_n 3, 1) := by decide +kernel
theorem dL_act_6 : decode cL_act 6 = .ok (.iload_n 3, 1) := by decide +kernel
theorem dL_act_7 : decode cL_act 7 = .ok (.ifCond .ne 7, 3) := by decide +kernel
theorem dL_act_10 : decode cL_act 10 = .ok (.iconst 0, 1) := by decide +kernel
theorem dL_act_11 : decode cL_act 11 = .ok (.goto 8, 3) := by decide +kernel
theorem dL_act_14 : decode cL_act 14 = .ok (.iload_n 2, 1) := by decide +kernel
theorem dL_act_15 : decode cL_act 15 = .ok (.iload_n 3, 1) := by decide +kernel
theorem dL_act_16 : decode cL_act 16 = .ok (.invokestatic 15, 3) := by decide +kernel
theorem dL_act_19 : decode cL_act 19 = .ok (.istore 4, 2) := by decide +kernel
theorem dL_act_21 : decode cL_act 21 = .ok (.iload_n 2, 1) := by decide +kernel
theorem dL_act_22 : decode cL_act 22 = .ok (.iconst 2, 1) := by decide +kernel
theorem dL_act_23 : decode cL_act 23 = .ok (.ishr, 1) := by decide +kernel
theorem dL_act_24 : decode cL_act 24 = .ok (.bipush 16, 2) := by decide +kernel
theorem dL_act_26 : decode cL_act 26 = .ok (.invokestatic 15, 3) := by decide +kernel
theorem dL_act_29 : decode cL_act 29 = .ok (.istore 5, 2) := by decide +kernel
theorem dL_act_31 : decode cL_act 31 = .ok (.iload_n 3, 1) := by decide +kernel
theorem dL_act_32 : decode cL_act 32 = .ok (.ifCond .ne 7, 3) := by decide +kernel
theorem dL_act_35 : decode cL_act 35 = .ok (.iconst 0, 1) := by decide +kernel
theorem dL_act_36 : decode cL_act 36 = .ok (.goto 12, 3) := by decide +kernel
theorem dL_act_39 : decode cL_act 39 = .ok (.iload_n 2, 1) := by decide +kernel
theorem dL_act_40 : decode cL_act 40 = .ok (.bipush 9, 2) := by decide +kernel
theorem dL_act_42 : decode cL_act 42 = .ok (.ishr, 1) := by decide +kernel
theorem dL_act_43 : decode cL_act 43 = .ok (.bipush 12, 2) := by decide +kernel
theorem dL_act_45 : decode cL_act 45 = .ok (.invokestatic 15, 3) := by decide +kernel
theorem dL_act_48 : decode cL_act 48 = .ok (.tableswitch 224 0 5 #[40, 77, 77, 149, 149, 190], 40) := by decide +kernel
theorem dL_act_88 : decode cL_act 88 = .ok (.iload_n 3, 1) := by decide +kernel
theorem dL_act_89 : decode cL_act 89 = .ok (.bipush 6, 2) := by decide +kernel
theorem dL_act_91 : decode cL_act 91 = .ok (.if_icmp .ne 5, 3) := by decide +kernel
theorem dL_act_94 : decode cL_act 94 = .ok (.iconst 1, 1) := by decide +kernel
theorem dL_act_95 : decode cL_act 95 = .ok (.ireturn, 1) := by decide +kernel
theorem dL_act_96 : decode cL_act 96 = .ok (.aload_n 1, 1) := by decide +kernel
theorem dL_act_97 : decode cL_act 97 = .ok (.aload_n 1, 1) := by decide +kernel
theorem dL_act_98 : decode cL_act 98 = .ok (.getfield 9, 3) := by decide +kernel
theorem dL_act_101 : decode cL_act 101 = .ok (.bipush 16, 2) := by decide +kernel
theorem dL_act_103 : decode cL_act 103 = .ok (.newarray .int, 2) := by decide +kernel
theorem dL_act_105 : decode cL_act 105 = .ok (.invokestatic 21, 3) := by decide +kernel
theorem dL_act_108 : decode cL_act 108 = .ok (.putfield 9, 3) := by decide +kernel
theorem dL_act_111 : decode cL_act 111 = .ok (.aload_n 0, 1) := by decide +kernel
theorem dL_act_112 : decode cL_act 112 = .ok (.invokevirtual 25, 3) := by decide +kernel
theorem dL_act_115 : decode cL_act 115 = .ok (.iload_n 3, 1) := by decide +kernel
theorem dL_act_116 : decode cL_act 116 = .ok (.if_icmp .ne 7, 3) := by decide +kernel
theorem dL_act_119 : decode cL_act 119 = .ok (.iconst 1, 1) := by decide +kernel
theorem dL_act_120 : decode cL_act 120 = .ok (.goto 4, 3) := by decide +kernel
theorem dL_act_123 : decode cL_act 123 = .ok (.iconst 0, 1) := by decide +kernel
theorem dL_act_124 : decode cL_act 124 = .ok (.ireturn, 1) := by decide +kernel
theorem dL_act_125 : decode cL_act 125 = .ok (.aload_n 1, 1) := by decide +kernel
theorem dL_act_126 : decode cL_act 126 = .ok (.getfield 31, 3) := by decide +kernel
theorem dL_act_129 : decode cL_act 129 = .ok (.arraylength, 1) := by decide +kernel
theorem dL_act_130 : decode cL_act 130 = .ok (.bipush 20, 2) := by decide +kernel
theorem dL_act_132 : decode cL_act 132 = .ok (.if_icmp .ne 5, 3) := by decide +kernel
theorem dL_act_135 : decode cL_act 135 = .ok (.iconst 1, 1) := by decide +kernel
theorem dL_act_136 : decode cL_act 136 = .ok (.ireturn, 1) := by decide +kernel
theorem dL_act_137 : decode cL_act 137 = .ok (.aload_n 1, 1) := by decide +kernel
theorem dL_act_138 : decode cL_act 138 = .ok (.aload_n 1, 1) := by decide +kernel
theorem dL_act_139 : decode cL_act 139 = .ok (.getfield 31, 3) := by decide +kernel
theorem dL_act_142 : decode cL_act 142 = .ok (.iconst 3, 1) := by decide +kernel
theorem dL_act_143 : decode cL_act 143 = .ok (.newarray .int, 2) := by decide +kernel
theorem dL_act_145 : decode cL_act 145 = .ok (.dup, 1) := by decide +kernel
theorem dL_act_146 : decode cL_act 146 = .ok (.iconst 0, 1) := by decide +kernel
theorem dL_act_147 : decode cL_act 147 = .ok (.iload 4, 2) := by decide +kernel
theorem dL_act_149 : decode cL_act 149 = .ok (.iastore, 1) := by decide +kernel
theorem dL_act_150 : decode cL_act 150 = .ok (.dup, 1) := by decide +kernel
theorem dL_act_151 : decode cL_act 151 = .ok (.iconst 1, 1) := by decide +kernel
theorem dL_act_152 : decode cL_act 152 = .ok (.aload_n 1, 1) := by decide +kernel
theorem dL_act_153 : decode cL_act 153 = .ok (.iload 4, 2) := by decide +kernel
theorem dL_act_155 : decode cL_act 155 = .ok (.invokevirtual 34, 3) := by decide +kernel
theorem dL_act_158 : decode cL_act 158 = .ok (.iastore, 1) := by decide +kernel
theorem dL_act_159 : decode cL_act 159 = .ok (.dup, 1) := by decide +kernel
theorem dL_act_160 : decode cL_act 160 = .ok (.iconst 2, 1) := by decide +kernel
theorem dL_act_161 : decode cL_act 161 = .ok (.aload_n 1, 1) := by decide +kernel
theorem dL_act_162 : decode cL_act 162 = .ok (.getfield 38, 3) := by decide +kernel
theorem dL_act_165 : decode cL_act 165 = .ok (.iload 4, 2) := by decide +kernel
theorem dL_act_167 : decode cL_act 167 = .ok (.iaload, 1) := by decide +kernel
theorem dL_act_168 : decode cL_act 168 = .ok (.iastore, 1) := by decide +kernel
theorem dL_act_169 : decode cL_act 169 = .ok (.invokestatic 21, 3) := by decide +kernel
theorem dL_act_172 : decode cL_act 172 = .ok (.putfield 31, 3) := by decide +kernel
theorem dL_act_175 : decode cL_act 175 = .ok (.aload_n 0, 1) := by decide +kernel
theorem dL_act_176 : decode cL_act 176 = .ok (.iload 4, 2) := by decide +kernel
theorem dL_act_178 : decode cL_act 178 = .ok (.invokevirtual 42, 3) := by decide +kernel
theorem dL_act_181 : decode cL_act 181 = .ok (.aload_n 1, 1) := by decide +kernel
theorem dL_act_182 : decode cL_act 182 = .ok (.getfield 31, 3) := by decide +kernel
theorem dL_act_185 : decode cL_act 185 = .ok (.arraylength, 1) := by decide +kernel
theorem dL_act_186 : decode cL_act 186 = .ok (.iconst 1, 1) := by decide +kernel
theorem dL_act_187 : decode cL_act 187 = .ok (.isub, 1) := by decide +kernel
theorem dL_act_188 : decode cL_act 188 = .ok (.if_icmp .ne 7, 3) := by decide +kernel
theorem dL_act_191 : decode cL_act 191 = .ok (.iconst 1, 1) := by decide +kernel
theorem dL_act_192 : decode cL_act 192 = .ok (.goto 4, 3) := by decide +kernel
theorem dL_act_195 : decode cL_act 195 = .ok (.iconst 0, 1) := by decide +kernel
theorem dL_act_196 : decode cL_act 196 = .ok (.ireturn, 1) := by decide +kernel
theorem dL_act_197 : decode cL_act 197 = .ok (.aload_n 0, 1) := by decide +kernel
theorem dL_act_198 : decode cL_act 198 = .ok (.iload 4, 2) := by decide +kernel
theorem dL_act_200 : decode cL_act 200 = .ok (.iload 5, 2) := by decide +kernel
theorem dL_act_202 : decode cL_act 202 = .ok (.iload_n 2, 1) := by decide +kernel
theorem dL_act_203 : decode cL_act 203 = .ok (.iconst 5, 1) := by decide +kernel
theorem dL_act_204 : decode cL_act 204 = .ok (.ishr, 1) := by decide +kernel
theorem dL_act_205 : decode cL_act 205 = .ok (.bipush 16, 2) := by decide +kernel
theorem dL_act_207 : decode cL_act 207 = .ok (.invokestatic 15, 3) := by decide +kernel
theorem dL_act_210 : decode cL_act 210 = .ok (.invokevirtual 45, 3) := by decide +kernel
theorem dL_act_213 : decode cL_act 213 = .ok (.aload_n 1, 1) := by decide +kernel
theorem dL_act_214 : decode cL_act 214 = .ok (.iload 4, 2) := by decide +kernel
theorem dL_act_216 : decode cL_act 216 = .ok (.iload 5, 2) := by decide +kernel
theorem dL_act_218 : decode cL_act 218 = .ok (.iload_n 2, 1) := by decide +kernel
theorem dL_act_219 : decode cL_act 219 = .ok (.iconst 5, 1) := by decide +kernel
theorem dL_act_220 : decode cL_act 220 = .ok (.ishr, 1) := by decide +kernel
theorem dL_act_221 : decode cL_act 221 = .ok (.bipush 16, 2) := by decide +kernel
theorem dL_act_223 : decode cL_act 223 = .ok (.invokestatic 15, 3) := by decide +kernel
theorem dL_act_226 : decode cL_act 226 = .ok (.invokevirtual 49, 3) := by decide +kernel
theorem dL_act_229 : decode cL_act 229 = .ok (.if_icmp .ne 7, 3) := by decide +kernel
theorem dL_act_232 : decode cL_act 232 = .ok (.iconst 1, 1) := by decide +kernel
theorem dL_act_233 : decode cL_act 233 = .ok (.goto 4, 3) := by decide +kernel
theorem dL_act_236 : decode cL_act 236 = .ok (.iconst 0, 1) := by decide +kernel
theorem dL_act_237 : decode cL_act 237 = .ok (.ireturn, 1) := by decide +kernel
theorem dL_act_238 : decode cL_act 238 = .ok (.iload_n 2, 1) := by decide +kernel
theorem dL_act_239 : decode cL_act 239 = .ok (.iconst 3, 1) := by decide +kernel
theorem dL_act_240 : decode cL_act 240 = .ok (.ishr, 1) := by decide +kernel
theorem dL_act_241 : decode cL_act 241 = .ok (.iload_n 3, 1) := by decide +kernel
theorem dL_act_242 : decode cL_act 242 = .ok (.invokestatic 15, 3) := by decide +kernel
theorem dL_act_245 : decode cL_act 245 = .ok (.istore 6, 2) := by decide +kernel
theorem dL_act_247 : decode cL_act 247 = .ok (.aload_n 0, 1) := by decide +kernel
theorem dL_act_248 : decode cL_act 248 = .ok (.iload 4, 2) := by decide +kernel
theorem dL_act_250 : decode cL_act 250 = .ok (.iload 6, 2) := by decide +kernel
theorem dL_act_252 : decode cL_act 252 = .ok (.invokevirtual 50, 3) := by decide +kernel
theorem dL_act_255 : decode cL_act 255 = .ok (.aload_n 1, 1) := by decide +kernel
theorem dL_act_256 : decode cL_act 256 = .ok (.iload 4, 2) := by decide +kernel
theorem dL_act_258 : decode cL_act 258 = .ok (.iload 6, 2) := by decide +kernel
theorem dL_act_260 : decode cL_act 260 = .ok (.invokevirtual 53, 3) := by decide +kernel
theorem dL_act_263 : decode cL_act 263 = .ok (.if_icmp .ne 7, 3) := by decide +kernel
theorem dL_act_266 : decode cL_act 266 = .ok (.iconst 1, 1) := by decide +kernel
theorem dL_act_267 : decode cL_act 267 = .ok (.goto 4, 3) := by decide +kernel
theorem dL_act_270 : decode cL_act 270 = .ok (.iconst 0, 1) := by decide +kernel
theorem dL_act_271 : decode cL_act 271 = .ok (.ireturn, 1) := by decide +kernel
theorem dL_act_272 : decode cL_act 272 = .ok (.aload_n 1, 1) := by decide +kernel
theorem dL_act_273 : decode cL_act 273 = .ok (.getfield 9, 3) := by decide +kernel
theorem dL_act_276 : decode cL_act 276 = .ok (.iload 4, 2) := by decide +kernel
theorem dL_act_278 : decode cL_act 278 = .ok (.aaload, 1) := by decide +kernel
theorem dL_act_279 : decode cL_act 279 = .ok (.iload 5, 2) := by decide +kernel
theorem dL_act_281 : decode cL_act 281 = .ok (.iaload, 1) := by decide +kernel
theorem dL_act_282 : decode cL_act 282 = .ok (.istore 7, 2) := by decide +kernel
theorem dL_act_284 : decode cL_act 284 = .ok (.iload_n 2, 1) := by decide +kernel
theorem dL_act_285 : decode cL_act 285 = .ok (.bipush 6, 2) := by decide +kernel
theorem dL_act_287 : decode cL_act 287 = .ok (.ishr, 1) := by decide +kernel
theorem dL_act_288 : decode cL_act 288 = .ok (.iconst 3, 1) := by decide +kernel
theorem dL_act_289 : decode cL_act 289 = .ok (.invokestatic 15, 3) := by decide +kernel
theorem dL_act_292 : decode cL_act 292 = .ok (.ifCond .ne 13, 3) := by decide +kernel
theorem dL_act_295 : decode cL_act 295 = .ok (.iload_n 2, 1) := by decide +kernel
theorem dL_act_296 : decode cL_act 296 = .ok (.iconst 3, 1) := by decide +kernel
theorem dL_act_297 : decode cL_act 297 = .ok (.ishr, 1) := by decide +kernel
theorem dL_act_298 : decode cL_act 298 = .ok (.iconst 4, 1) := by decide +kernel
theorem dL_act_299 : decode cL_act 299 = .ok (.invokestatic 15, 3) := by decide +kernel
theorem dL_act_302 : decode cL_act 302 = .ok (.goto 12, 3) := by decide +kernel
theorem dL_act_305 : decode cL_act 305 = .ok (.iload_n 2, 1) := by decide +kernel
theorem dL_act_306 : decode cL_act 306 = .ok (.iconst 3, 1) := by decide +kernel
theorem dL_act_307 : decode cL_act 307 = .ok (.imul, 1) := by decide +kernel
theorem dL_act_308 : decode cL_act 308 = .ok (.sipush 10000, 3) := by decide +kernel
theorem dL_act_311 : decode cL_act 311 = .ok (.invokestatic 15, 3) := by decide +kernel
theorem dL_act_314 : decode cL_act 314 = .ok (.istore 8, 2) := by decide +kernel
theorem dL_act_316 : decode cL_act 316 = .ok (.aload_n 1, 1) := by decide +kernel
theorem dL_act_317 : decode cL_act 317 = .ok (.iload 4, 2) := by decide +kernel
theorem dL_act_319 : decode cL_act 319 = .ok (.iload 5, 2) := by decide +kernel
theorem dL_act_321 : decode cL_act 321 = .ok (.iload 8, 2) := by decide +kernel
theorem dL_act_323 : decode cL_act 323 = .ok (.invokevirtual 54, 3) := by decide +kernel
theorem dL_act_326 : decode cL_act 326 = .ok (.pop, 1) := by decide +kernel
theorem dL_act_327 : decode cL_act 327 = .ok (.aload_n 0, 1) := by decide +kernel
theorem dL_act_328 : decode cL_act 328 = .ok (.iload 4, 2) := by decide +kernel
theorem dL_act_330 : decode cL_act 330 = .ok (.iload 5, 2) := by decide +kernel
theorem dL_act_332 : decode cL_act 332 = .ok (.iload 8, 2) := by decide +kernel
theorem dL_act_334 : decode cL_act 334 = .ok (.invokevirtual 58, 3) := by decide +kernel
theorem dL_act_337 : decode cL_act 337 = .ok (.iload 7, 2) := by decide +kernel
theorem dL_act_339 : decode cL_act 339 = .ok (.if_icmp .ne 7, 3) := by decide +kernel
theorem dL_act_342 : decode cL_act 342 = .ok (.iconst 1, 1) := by decide +kernel
theorem dL_act_343 : decode cL_act 343 = .ok (.goto 4, 3) := by decide +kernel
theorem dL_act_346 : decode cL_act 346 = .ok (.iconst 0, 1) := by decide +kernel
theorem dL_act_347 : decode cL_act 347 = .ok (.ireturn, 1) := by decide +kernel
set_option maxRecDepth 20000 in
theorem ggL_build_X3_init : GoodIn wsL_build wsX3_init := goodIn_r _ [5, 6, 7, 8, 9, 10, 11, 12, 13, 154, 155, 156] (by decide +kernel) (by decide +kernel)
set_option maxRecDepth 20000 in
theorem gL_build_X3_init_n60 : GoodIn wsL_build (wsX3_init) := ggL_build_X3_init
set_option maxRecDepth 20000 in
theorem ggL_build_L_cell : GoodIn wsL_build wsL_cell := goodIn_r _ [17, 18] (by decide +kernel) (by decide +kernel)
set_option maxRecDepth 20000 in
theorem gL_build_L_cell : GoodIn wsL_build (va_wsS RL 61 yL_cell wsL_cell) := goodIn_app (goodIn_of _ (by decide +kernel)) ggL_build_L_cell
set_option maxRecDepth 20000 in
theorem ggL_build_L_act : GoodIn wsL_build wsL_act := goodIn_ca (goodIn_ca (goodIn_ca (goodIn_r _ [21, 22, 12, 23, 24, 25, 26, 16, 27, 28, 29, 30, 3, 31, 9, 32, 33, 34, 35, 36, 37, 38, 39, 40, 41, 42, 43, 44, 45, 46, 7, 8, 47, 48, 49, 50, 51, 52, 53, 54, 55, 56, 10, 57, 58, 59, 60, 61, 62, 63, 64, 65, 66, 67, 68, 69, 70, 71, 72, 73, 74, 75, 76, 77, 78, 79, 80, 81, 82, 83, 84, 85, 86, 87, 88, 89, 90, 91, 92, 93, 94, 95, 96, 97, 98, 99, 100, 101, 102, 103, 104, 105, 106, 107, 108, 109, 110, 111, 112, 113, 114, 13, 115, 116, 117, 118, 119, 120, 121, 122, 123, 124, 125, 126, 127, 128, 129, 130, 131, 132, 133, 134, 135, 136, 137, 138, 139, 140, 141, 142, 143, 144, 145, 146, 147, 148, 149, 150, 151, 152, 153, 154, 155, 156, 157, 158, 159, 160, 161, 162, 163, 164, 165, 166, 167] (by decide +kernel) (by decide +kernel)) (goodIn_sub (fun _ h => List.mem_cons_of_mem _ (List.mem_append_left _ (List.mem_append_left _ (List.mem_append_right _ h)))) (by decide +kernel))) (goodIn_sub (fun _ h => List.mem_cons_of_mem _ (List.mem_append_left _ (List.mem_append_right _ h))) (by decide +kernel))) (goodIn_sub (fun _ h => List.mem_cons_of_mem _ (List.mem_append_right _ h)) (by decide +kernel))
set_option maxRecDepth 20000 in
theorem gL_build_L_act : GoodIn wsL_build (va_wsS RL 65 yL_act wsL_act) := goodIn_app (goodIn_of _ (by decide +kernel)) ggL_build_L_act
theorem dL_build_0 : decode cL_build 0 = .ok (.new 10, 3) := by decide +kernel
theorem dL_build_3 : decode cL_build 3 = .ok (.dup, 1) := by decide +kernel
theorem dL_build_4 : decode cL_build 4 = .ok (.invokespecial 60, 3) := by decide +kernel
theorem dL_build_7 : decode cL_build 7 = .ok (.astore_n 2, 1) := by decide +kernel
theorem dL_build_8 : decode cL_build 8 = .ok (.iconst 0, 1) := by decide +kernel
theorem dL_build_9 : decode cL_build 9 = .ok (.istore_n 3, 1) := by decide +kernel
theorem dL_build_10 : decode cL_build 10 = .ok (.iload_n 3, 1) := by decide +kernel
theorem dL_build_11 : decode cL_build 11 = .ok (.bipush 30, 2) := by decide +kernel
theorem dL_build_13 : decode cL_build 13 = .ok (.if_icmp .ge 40, 3) := by decide +kernel
theorem dL_build_16 : decode cL_build 16 = .ok (.aload_n 0, 1) := by decide +kernel
theorem dL_build_17 : decode cL_build 17 = .ok (.aload_n 2, 1) := by decide +kernel
theorem dL_build_18 : decode cL_build 18 = .ok (.aload_n 1, 1) := by decide +kernel
theorem dL_build_19 : decode cL_build 19 = .ok (.iload_n 3, 1) := by decide +kernel
theorem dL_build_20 : decode cL_build 20 = .ok (.bipush 15, 2) := by decide +kernel
theorem dL_build_22 : decode cL_build 22 = .ok (.irem, 1) := by decide +kernel
theorem dL_build_23 : decode cL_build 23 = .ok (.invokestatic 61, 3) := by decide +kernel
theorem dL_build_26 : decode cL_build 26 = .ok (.iload_n 3, 1) := by decide +kernel
theorem dL_build_27 : decode cL_build 27 = .ok (.bipush 15, 2) := by decide +kernel
theorem dL_build_29 : decode cL_build 29 = .ok (.idiv, 1) := by decide +kernel
theorem dL_build_30 : decode cL_build 30 = .ok (.iconst 4, 1) := by decide +kernel
theorem dL_build_31 : decode cL_build 31 = .ok (.imul, 1) := by decide +kernel
theorem dL_build_32 : decode cL_build 32 = .ok (.ishr, 1) := by decide +kernel
theorem dL_build_33 : decode cL_build 33 = .ok (.sipush 227, 3) := by decide +kernel
theorem dL_build_36 : decode cL_build 36 = .ok (.iload_n 3, 1) := by decide +kernel
theorem dL_build_37 : decode cL_build 37 = .ok (.imul, 1) := by decide +kernel
theorem dL_build_38 : decode cL_build 38 = .ok (.iadd, 1) := by decide +kernel
theorem dL_build_39 : decode cL_build 39 = .ok (.invokestatic 65, 3) := by decide +kernel
theorem dL_build_42 : decode cL_build 42 = .ok (.ifCond .ne 5, 3) := by decide +kernel
theorem dL_build_45 : decode cL_build 45 = .ok (.aconst_null, 1) := by decide +kernel
theorem dL_build_46 : decode cL_build 46 = .ok (.areturn, 1) := by decide +kernel
theorem dL_build_47 : decode cL_build 47 = .ok (.iinc 3 1, 3) := by decide +kernel
theorem dL_build_50 : decode cL_build 50 = .ok (.goto (-40), 3) := by decide +kernel
theorem dL_build_53 : decode cL_build 53 = .ok (.aload_n 2, 1) := by decide +kernel
theorem dL_build_54 : decode cL_build 54 = .ok (.areturn, 1) := by decide +kernel
