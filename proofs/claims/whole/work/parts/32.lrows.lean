set_option maxRecDepth 20000 in
theorem ggL_come_X2_come : GoodIn wsL_come wsX2_come := goodIn_ca (goodIn_r _ [6, 7, 8, 9, 10, 11, 12, 13, 14, 15, 16, 17, 18, 19, 20, 21, 22, 5, 23, 24, 25, 26, 27, 28, 29, 30, 31, 32, 33] (by decide +kernel) (by decide +kernel)) (goodIn_sub (fun _ h => List.mem_cons_of_mem _ (List.mem_append_right _ h)) (by decide +kernel))
set_option maxRecDepth 20000 in
theorem gL_come_X2_come : GoodIn wsL_come (wsV RL 7 RX2 yX2_come wsX2_come) := goodIn_app (goodIn_of _ (by decide +kernel)) ggL_come_X2_come
theorem dL_come_0 : decode cL_come 0 = .ok (.aload_n 1, 1) := by decide +kernel
theorem dL_come_1 : decode cL_come 1 = .ok (.iconst 0, 1) := by decide +kernel
theorem dL_come_2 : decode cL_come 2 = .ok (.aload_n 0, 1) := by decide +kernel
theorem dL_come_3 : decode cL_come 3 = .ok (.invokevirtual 7, 3) := by decide +kernel
theorem dL_come_6 : decode cL_come 6 = .ok (.i2l, 1) := by decide +kernel
theorem dL_come_7 : decode cL_come 7 = .ok (.lastore, 1) := by decide +kernel
theorem dL_come_8 : decode cL_come 8 = .ok (.goto 6, 3) := by decide +kernel
theorem dL_come_11 : decode cL_come 11 = .ok (.astore_n 2, 1) := by decide +kernel
theorem dL_come_12 : decode cL_come 12 = .ok (.iconst 1, 1) := by decide +kernel
theorem dL_come_13 : decode cL_come 13 = .ok (.ireturn, 1) := by decide +kernel
theorem dL_come_14 : decode cL_come 14 = .ok (.iconst 0, 1) := by decide +kernel
theorem dL_come_15 : decode cL_come 15 = .ok (.ireturn, 1) := by decide +kernel
set_option maxRecDepth 20000 in
theorem ggL_put_X2_put : GoodIn wsL_put wsX2_put := goodIn_ca (goodIn_ca (goodIn_r _ [7, 8, 9, 10, 6, 11, 12, 13, 14, 15, 16, 17, 18, 19, 20, 21, 22, 23, 24, 25, 26, 27, 28, 29, 30, 31, 32, 33, 34, 35, 36, 37, 38, 39, 40, 41, 42, 43, 44, 45, 46] (by decide +kernel) (by decide +kernel)) (goodIn_sub (fun _ h => List.mem_cons_of_mem _ (List.mem_append_left _ (List.mem_append_right _ h))) (by decide +kernel))) (goodIn_sub (fun _ h => List.mem_cons_of_mem _ (List.mem_append_right _ h)) (by decide +kernel))
set_option maxRecDepth 20000 in
theorem gL_put_X2_put : GoodIn wsL_put (wsV RL 15 RX2 yX2_put wsX2_put) := goodIn_app (goodIn_of _ (by decide +kernel)) ggL_put_X2_put
theorem dL_put_0 : decode cL_put 0 = .ok (.aload 4, 2) := by decide +kernel
theorem dL_put_2 : decode cL_put 2 = .ok (.iconst 0, 1) := by decide +kernel
theorem dL_put_3 : decode cL_put 3 = .ok (.aload_n 0, 1) := by decide +kernel
theorem dL_put_4 : decode cL_put 4 = .ok (.iload_n 1, 1) := by decide +kernel
theorem dL_put_5 : decode cL_put 5 = .ok (.iload_n 2, 1) := by decide +kernel
theorem dL_put_6 : decode cL_put 6 = .ok (.iload_n 3, 1) := by decide +kernel
theorem dL_put_7 : decode cL_put 7 = .ok (.invokevirtual 15, 3) := by decide +kernel
theorem dL_put_10 : decode cL_put 10 = .ok (.i2l, 1) := by decide +kernel
theorem dL_put_11 : decode cL_put 11 = .ok (.lastore, 1) := by decide +kernel
theorem dL_put_12 : decode cL_put 12 = .ok (.goto 11, 3) := by decide +kernel
theorem dL_put_15 : decode cL_put 15 = .ok (.astore 5, 2) := by decide +kernel
theorem dL_put_17 : decode cL_put 17 = .ok (.iconst 1, 1) := by decide +kernel
theorem dL_put_18 : decode cL_put 18 = .ok (.ireturn, 1) := by decide +kernel
theorem dL_put_19 : decode cL_put 19 = .ok (.astore 5, 2) := by decide +kernel
theorem dL_put_21 : decode cL_put 21 = .ok (.iconst 2, 1) := by decide +kernel
theorem dL_put_22 : decode cL_put 22 = .ok (.ireturn, 1) := by decide +kernel
theorem dL_put_23 : decode cL_put 23 = .ok (.iconst 0, 1) := by decide +kernel
theorem dL_put_24 : decode cL_put 24 = .ok (.ireturn, 1) := by decide +kernel
set_option maxRecDepth 20000 in
theorem ggL_swap_X2_swap : GoodIn wsL_swap wsX2_swap := goodIn_ca (goodIn_r _ [6, 7, 8, 9, 10, 11, 12, 13, 14, 5, 15, 16, 17, 18, 19, 20, 21, 22, 23, 24, 25, 26, 27, 28, 29, 30, 31, 32, 33, 34, 35, 36, 37, 38, 39, 40, 41, 42, 43, 44, 45, 46, 47, 48] (by decide +kernel) (by decide +kernel)) (goodIn_sub (fun _ h => List.mem_cons_of_mem _ (List.mem_append_right _ h)) (by decide +kernel))
set_option maxRecDepth 20000 in
theorem gL_swap_X2_swap : GoodIn wsL_swap (wsV RL 23 RX2 yX2_swap wsX2_swap) := goodIn_app (goodIn_of _ (by decide +kernel)) ggL_swap_X2_swap
theorem dL_swap_0 : decode cL_swap 0 = .ok (.aload 4, 2) := by decide +kernel
theorem dL_swap_2 : decode cL_swap 2 = .ok (.iconst 0, 1) := by decide +kernel
theorem dL_swap_3 : decode cL_swap 3 = .ok (.aload_n 0, 1) := by decide +kernel
theorem dL_swap_4 : decode cL_swap 4 = .ok (.iload_n 1, 1) := by decide +kernel
theorem dL_swap_5 : decode cL_swap 5 = .ok (.iload_n 2, 1) := by decide +kernel
theorem dL_swap_6 : decode cL_swap 6 = .ok (.iload_n 3, 1) := by decide +kernel
theorem dL_swap_7 : decode cL_swap 7 = .ok (.invokevirtual 23, 3) := by decide +kernel
theorem dL_swap_10 : decode cL_swap 10 = .ok (.i2l, 1) := by decide +kernel
theorem dL_swap_11 : decode cL_swap 11 = .ok (.lastore, 1) := by decide +kernel
theorem dL_swap_12 : decode cL_swap 12 = .ok (.goto 7, 3) := by decide +kernel
theorem dL_swap_15 : decode cL_swap 15 = .ok (.astore 5, 2) := by decide +kernel
theorem dL_swap_17 : decode cL_swap 17 = .ok (.iconst 1, 1) := by decide +kernel
theorem dL_swap_18 : decode cL_swap 18 = .ok (.ireturn, 1) := by decide +kernel
theorem dL_swap_19 : decode cL_swap 19 = .ok (.iconst 0, 1) := by decide +kernel
theorem dL_swap_20 : decode cL_swap 20 = .ok (.ireturn, 1) := by decide +kernel
set_option maxRecDepth 20000 in
theorem ggL_sum_X2_sum : GoodIn wsL_sum wsX2_sum := goodIn_ca (goodIn_r _ [6, 7, 8, 9, 10, 11, 5, 12, 13, 14, 15, 16, 17, 18, 19, 20, 21, 22] (by decide +kernel) (by decide +kernel)) (goodIn_sub (fun _ h => List.mem_cons_of_mem _ (List.mem_append_right _ h)) (by decide +kernel))
set_option maxRecDepth 20000 in
theorem gL_sum_X2_sum : GoodIn wsL_sum (wsV RL 26 RX2 yX2_sum wsX2_sum) := goodIn_app (goodIn_of _ (by decide +kernel)) ggL_sum_X2_sum
theorem dL_sum_0 : decode cL_sum 0 = .ok (.aload_n 3, 1) := by decide +kernel
theorem dL_sum_1 : decode cL_sum 1 = .ok (.iconst 0, 1) := by decide +kernel
theorem dL_sum_2 : decode cL_sum 2 = .ok (.aload_n 0, 1) := by decide +kernel
theorem dL_sum_3 : decode cL_sum 3 = .ok (.iload_n 1, 1) := by decide +kernel
theorem dL_sum_4 : decode cL_sum 4 = .ok (.iload_n 2, 1) := by decide +kernel
theorem dL_sum_5 : decode cL_sum 5 = .ok (.invokevirtual 26, 3) := by decide +kernel
theorem dL_sum_8 : decode cL_sum 8 = .ok (.i2l, 1) := by decide +kernel
theorem dL_sum_9 : decode cL_sum 9 = .ok (.lastore, 1) := by decide +kernel
theorem dL_sum_10 : decode cL_sum 10 = .ok (.goto 7, 3) := by decide +kernel
theorem dL_sum_13 : decode cL_sum 13 = .ok (.astore 4, 2) := by decide +kernel
theorem dL_sum_15 : decode cL_sum 15 = .ok (.iconst 1, 1) := by decide +kernel
theorem dL_sum_16 : decode cL_sum 16 = .ok (.ireturn, 1) := by decide +kernel
theorem dL_sum_17 : decode cL_sum 17 = .ok (.iconst 0, 1) := by decide +kernel
theorem dL_sum_18 : decode cL_sum 18 = .ok (.ireturn, 1) := by decide +kernel
set_option maxRecDepth 20000 in
theorem ggL_told_X2_told : GoodIn wsL_told wsX2_told := goodIn_ca (goodIn_r _ [6, 7, 8, 9, 5, 10, 11, 12, 13, 14, 15, 16, 17, 18, 19, 20, 21, 22, 23, 24, 25, 26, 27, 28, 29, 30, 31, 32, 33, 34, 35, 36, 37, 38, 39, 40, 41, 42, 43, 44, 45, 46, 47, 48, 49, 50] (by decide +kernel) (by decide +kernel)) (goodIn_sub (fun _ h => List.mem_cons_of_mem _ (List.mem_append_right _ h)) (by decide +kernel))
set_option maxRecDepth 20000 in
theorem gL_told_X2_told : GoodIn wsL_told (wsV RL 30 RX2 yX2_told wsX2_told) := goodIn_app (goodIn_of _ (by decide +kernel)) ggL_told_X2_told
theorem dL_told_0 : decode cL_told 0 = .ok (.aload_n 3, 1) := by decide +kernel
theorem dL_told_1 : decode cL_told 1 = .ok (.iconst 0, 1) := by decide +kernel
theorem dL_told_2 : decode cL_told 2 = .ok (.aload_n 0, 1) := by decide +kernel
theorem dL_told_3 : decode cL_told 3 = .ok (.iload_n 1, 1) := by decide +kernel
theorem dL_told_4 : decode cL_told 4 = .ok (.iload_n 2, 1) := by decide +kernel
theorem dL_told_5 : decode cL_told 5 = .ok (.invokevirtual 30, 3) := by decide +kernel
theorem dL_told_8 : decode cL_told 8 = .ok (.i2l, 1) := by decide +kernel
theorem dL_told_9 : decode cL_told 9 = .ok (.lastore, 1) := by decide +kernel
theorem dL_told_10 : decode cL_told 10 = .ok (.goto 7, 3) := by decide +kernel
theorem dL_told_13 : decode cL_told 13 = .ok (.astore 4, 2) := by decide +kernel
theorem dL_told_15 : decode cL_told 15 = .ok (.iconst 1, 1) := by decide +kernel
theorem dL_told_16 : decode cL_told 16 = .ok (.ireturn, 1) := by decide +kernel
theorem dL_told_17 : decode cL_told 17 = .ok (.iconst 0, 1) := by decide +kernel
theorem dL_told_18 : decode cL_told 18 = .ok (.ireturn, 1) := by decide +kernel
set_option maxRecDepth 20000 in
theorem ggL_thing_X2_thing : GoodIn wsL_thing wsX2_thing := goodIn_ca (goodIn_r _ [6, 7, 8, 9, 5, 10, 11, 12, 13, 14, 15, 16, 17, 18, 19, 20, 21, 22, 23, 24, 25] (by decide +kernel) (by decide +kernel)) (goodIn_sub (fun _ h => List.mem_cons_of_mem _ (List.mem_append_right _ h)) (by decide +kernel))
set_option maxRecDepth 20000 in
theorem gL_thing_X2_thing : GoodIn wsL_thing (wsV RL 33 RX2 yX2_thing wsX2_thing) := goodIn_app (goodIn_of _ (by decide +kernel)) ggL_thing_X2_thing
theorem dL_thing_0 : decode cL_thing 0 = .ok (.aload_n 3, 1) := by decide +kernel
theorem dL_thing_1 : decode cL_thing 1 = .ok (.iconst 0, 1) := by decide +kernel
theorem dL_thing_2 : decode cL_thing 2 = .ok (.aload_n 0, 1) := by decide +kernel
theorem dL_thing_3 : decode cL_thing 3 = .ok (.iload_n 1, 1) := by decide +kernel
theorem dL_thing_4 : decode cL_thing 4 = .ok (.iload_n 2, 1) := by decide +kernel
theorem dL_thing_5 : decode cL_thing 5 = .ok (.invokevirtual 33, 3) := by decide +kernel
theorem dL_thing_8 : decode cL_thing 8 = .ok (.i2l, 1) := by decide +kernel
theorem dL_thing_9 : decode cL_thing 9 = .ok (.lastore, 1) := by decide +kernel
theorem dL_thing_10 : decode cL_thing 10 = .ok (.goto 7, 3) := by decide +kernel
theorem dL_thing_13 : decode cL_thing 13 = .ok (.astore 4, 2) := by decide +kernel
theorem dL_thing_15 : decode cL_thing 15 = .ok (.iconst 1, 1) := by decide +kernel
theorem dL_thing_16 : decode cL_thing 16 = .ok (.ireturn, 1) := by decide +kernel
theorem dL_thing_17 : decode cL_thing 17 = .ok (.iconst 0, 1) := by decide +kernel
theorem dL_thing_18 : decode cL_thing 18 = .ok (.ireturn, 1) := by decide +kernel
set_option maxRecDepth 20000 in
theorem ggL_seal_X2_seal : GoodIn wsL_seal wsX2_seal := goodIn_ca (goodIn_ca (goodIn_r _ [7, 8, 9, 10, 11, 12, 13, 14, 15, 16, 17, 6, 18, 19, 20, 21, 22, 23, 24, 25, 26, 27, 28, 29, 30, 31, 32, 33, 34, 35, 36, 37, 38, 39, 40, 41, 42, 43, 44, 45, 46] (by decide +kernel) (by decide +kernel)) (goodIn_sub (fun _ h => List.mem_cons_of_mem _ (List.mem_append_left _ (List.mem_append_right _ h))) (by decide +kernel))) (goodIn_sub (fun _ h => List.mem_cons_of_mem _ (List.mem_append_right _ h)) (by decide +kernel))
set_option maxRecDepth 20000 in
theorem gL_seal_X2_seal : GoodIn wsL_seal (wsV RL 36 RX2 yX2_seal wsX2_seal) := goodIn_app (goodIn_of _ (by decide +kernel)) ggL_seal_X2_seal
theorem dL_seal_0 : decode cL_seal 0 = .ok (.aload_n 2, 1) := by decide +kernel
theorem dL_seal_1 : decode cL_seal 1 = .ok (.iconst 0, 1) := by decide +kernel
theorem dL_seal_2 : decode cL_seal 2 = .ok (.aload_n 0, 1) := by decide +kernel
theorem dL_seal_3 : decode cL_seal 3 = .ok (.iload_n 1, 1) := by decide +kernel
theorem dL_seal_4 : decode cL_seal 4 = .ok (.invokevirtual 36, 3) := by decide +kernel
theorem dL_seal_7 : decode cL_seal 7 = .ok (.i2l, 1) := by decide +kernel
theorem dL_seal_8 : decode cL_seal 8 = .ok (.lastore, 1) := by decide +kernel
theorem dL_seal_9 : decode cL_seal 9 = .ok (.goto 9, 3) := by decide +kernel
theorem dL_seal_12 : decode cL_seal 12 = .ok (.astore_n 3, 1) := by decide +kernel
theorem dL_seal_13 : decode cL_seal 13 = .ok (.iconst 1, 1) := by decide +kernel
theorem dL_seal_14 : decode cL_seal 14 = .ok (.ireturn, 1) := by decide +kernel
theorem dL_seal_15 : decode cL_seal 15 = .ok (.astore_n 3, 1) := by decide +kernel
theorem dL_seal_16 : decode cL_seal 16 = .ok (.iconst 2, 1) := by decide +kernel
theorem dL_seal_17 : decode cL_seal 17 = .ok (.ireturn, 1) := by decide +kernel
theorem dL_seal_18 : decode cL_seal 18 = .ok (.iconst 0, 1) := by decide +kernel
theorem dL_seal_19 : decode cL_seal 19 = .ok (.ireturn, 1) := by decide +kernel
set_option maxRecDepth 20000 in
theorem ggL_about_X2_about : GoodIn wsL_about wsX2_about := goodIn_ca (goodIn_r _ [6, 7, 8, 9, 5, 10, 11, 12, 13, 14, 15, 16, 17, 18, 19, 20, 21, 22, 23, 24, 25, 26, 27, 28, 29, 30, 31, 32, 33, 34] (by decide +kernel) (by decide +kernel)) (goodIn_sub (fun _ h => List.mem_cons_of_mem _ (List.mem_append_right _ h)) (by decide +kernel))
set_option maxRecDepth 20000 in
theorem gL_about_X2_about : GoodIn wsL_about (wsV RL 40 RX2 yX2_about wsX2_about) := goodIn_app (goodIn_of _ (by decide +kernel)) ggL_about_X2_about
theorem dL_about_0 : decode cL_about 0 = .ok (.aload_n 3, 1) := by decide +kernel
theorem dL_about_1 : decode cL_about 1 = .ok (.iconst 0, 1) := by decide +kernel
theorem dL_about_2 : decode cL_about 2 = .ok (.aload_n 0, 1) := by decide +kernel
theorem dL_about_3 : decode cL_about 3 = .ok (.iload_n 1, 1) := by decide +kernel
theorem dL_about_4 : decode cL_about 4 = .ok (.iload_n 2, 1) := by decide +kernel
theorem dL_about_5 : decode cL_about 5 = .ok (.invokevirtual 40, 3) := by decide +kernel
theorem dL_about_8 : decode cL_about 8 = .ok (.i2l, 1) := by decide +kernel
theorem dL_about_9 : decode cL_about 9 = .ok (.lastore, 1) := by decide +kernel
theorem dL_about_10 : decode cL_about 10 = .ok (.goto 7, 3) := by decide +kernel
theorem dL_about_13 : decode cL_about 13 = .ok (.astore 4, 2) := by decide +kernel
theorem dL_about_15 : decode cL_about 15 = .ok (.iconst 1, 1) := by decide +kernel
theorem dL_about_16 : decode cL_about 16 = .ok (.ireturn, 1) := by decide +kernel
theorem dL_about_17 : decode cL_about 17 = .ok (.iconst 0, 1) := by decide +kernel
theorem dL_about_18 : decode cL_about 18 = .ok (.ireturn, 1) := by decide +kernel
set_option maxRecDepth 20000 in
theorem ggL_proof_X2_proof : GoodIn wsL_proof wsX2_proof := goodIn_ca (goodIn_r _ [6, 7, 8, 9, 10, 11, 5, 12, 13, 14, 15, 16, 17, 18, 19, 20, 21, 22, 23, 24, 25, 26, 27, 28, 29, 30] (by decide +kernel) (by decide +kernel)) (goodIn_sub (fun _ h => List.mem_cons_of_mem _ (List.mem_append_right _ h)) (by decide +kernel))
set_option maxRecDepth 20000 in
theorem gL_proof_X2_proof : GoodIn wsL_proof (wsV RL 43 RX2 yX2_proof wsX2_proof) := goodIn_app (goodIn_of _ (by decide +kernel)) ggL_proof_X2_proof
theorem dL_proof_0 : decode cL_proof 0 = .ok (.aload 4, 2) := by decide +kernel
theorem dL_proof_2 : decode cL_proof 2 = .ok (.iconst 0, 1) := by decide +kernel
theorem dL_proof_3 : decode cL_proof 3 = .ok (.aload_n 0, 1) := by decide +kernel
theorem dL_proof_4 : decode cL_proof 4 = .ok (.iload_n 1, 1) := by decide +kernel
theorem dL_proof_5 : decode cL_proof 5 = .ok (.iload_n 2, 1) := by decide +kernel
theorem dL_proof_6 : decode cL_proof 6 = .ok (.iload_n 3, 1) := by decide +kernel
theorem dL_proof_7 : decode cL_proof 7 = .ok (.invokevirtual 43, 3) := by decide +kernel
theorem dL_proof_10 : decode cL_proof 10 = .ok (.i2l, 1) := by decide +kernel
theorem dL_proof_11 : decode cL_proof 11 = .ok (.lastore, 1) := by decide +kernel
theorem dL_proof_12 : decode cL_proof 12 = .ok (.goto 7, 3) := by decide +kernel
theorem dL_proof_15 : decode cL_proof 15 = .ok (.astore 5, 2) := by decide +kernel
theorem dL_proof_17 : decode cL_proof 17 = .ok (.iconst 1, 1) := by decide +kernel
theorem dL_proof_18 : decode cL_proof 18 = .ok (.ireturn, 1) := by decide +kernel
theorem dL_proof_19 : decode cL_proof 19 = .ok (.iconst 0, 1) := by decide +kernel
theorem dL_proof_20 : decode cL_proof 20 = .ok (.ireturn, 1) := by decide +kernel
set_option maxRecDepth 20000 in
theorem ggL_comes_X2_comes : GoodIn wsL_comes wsX2_comes := goodIn_ca (goodIn_ca (goodIn_r _ [7, 8, 9, 6, 10, 11, 12, 13, 14, 15, 16, 17, 18, 19, 20, 21, 22, 23, 24, 25, 26, 27, 28, 29] (by decide +kernel) (by decide +kernel)) (goodIn_sub (fun _ h => List.mem_cons_of_mem _ (List.mem_append_left _ (List.mem_append_right _ h))) (by decide +kernel))) (goodIn_sub (fun _ h => List.mem_cons_of_mem _ (List.mem_append_right _ h)) (by decide +kernel))
set_option maxRecDepth 20000 in
theorem gL_comes_X2_comes : GoodIn wsL_comes (wsV RL 46 RX2 yX2_comes wsX2_comes) := goodIn_app (goodIn_of _ (by decide +kernel)) ggL_comes_X2_comes
theorem dL_comes_0 : decode cL_comes 0 = .ok (.aload 7, 2) := by decide +kernel
theorem dL_comes_2 : decode cL_comes 2 = .ok (.iconst 0, 1) := by decide +kernel
theorem dL_comes_3 : decode cL_comes 3 = .ok (.aload_n 0, 1) := by decide +kernel
theorem dL_comes_4 : decode cL_comes 4 = .ok (.iload_n 1, 1) := by decide +kernel
theorem dL_comes_5 : decode cL_comes 5 = .ok (.iload_n 2, 1) := by decide +kernel
theorem dL_comes_6 : decode cL_comes 6 = .ok (.iload_n 3, 1) := by decide +kernel
theorem dL_comes_7 : decode cL_comes 7 = .ok (.iload 4, 2) := by decide +kernel
theorem dL_comes_9 : decode cL_comes 9 = .ok (.iload 5, 2) := by decide +kernel
theorem dL_comes_11 : decode cL_comes 11 = .ok (.iload 6, 2) := by decide +kernel
theorem dL_comes_13 : decode cL_comes 13 = .ok (.invokevirtual 46, 3) := by decide +kernel
theorem dL_comes_16 : decode cL_comes 16 = .ok (.i2l, 1) := by decide +kernel
theorem dL_comes_17 : decode cL_comes 17 = .ok (.lastore, 1) := by decide +kernel
theorem dL_comes_18 : decode cL_comes 18 = .ok (.goto 11, 3) := by decide +kernel
theorem dL_comes_21 : decode cL_comes 21 = .ok (.astore 8, 2) := by decide +kernel
theorem dL_comes_23 : decode cL_comes 23 = .ok (.iconst 1, 1) := by decide +kernel
theorem dL_comes_24 : decode cL_comes 24 = .ok (.ireturn, 1) := by decide +kernel
theorem dL_comes_25 : decode cL_comes 25 = .ok (.astore 8, 2) := by decide +kernel
theorem dL_comes_27 : decode cL_comes 27 = .ok (.iconst 2, 1) := by decide +kernel
theorem dL_comes_28 : decode cL_comes 28 = .ok (.ireturn, 1) := by decide +kernel
theorem dL_comes_29 : decode cL_comes 29 = .ok (.iconst 0, 1) := by decide +kernel
theorem dL_comes_30 : decode cL_comes 30 = .ok (.ireturn, 1) := by decide +kernel
set_option maxRecDepth 20000 in
theorem ggL_proves_X2_proves : GoodIn wsL_proves wsX2_proves := goodIn_ca (goodIn_ca (goodIn_r _ [7, 8, 9, 10, 6, 11, 12, 13, 14, 15, 16, 17, 18, 19, 20, 21, 22, 23, 24, 25, 26, 27, 28, 29, 30, 31, 32, 33, 34, 35, 36, 37, 38, 39, 40, 41, 42, 43, 44, 45, 46, 47, 48, 49, 50, 51, 52, 53, 54] (by decide +kernel) (by decide +kernel)) (goodIn_sub (fun _ h => List.mem_cons_of_mem _ (List.mem_append_left _ (List.mem_append_right _ h))) (by decide +kernel))) (goodIn_sub (fun _ h => List.mem_cons_of_mem _ (List.mem_append_right _ h)) (by decide +kernel))
set_option maxRecDepth 20000 in
theorem gL_proves_X2_proves : GoodIn wsL_proves (wsV RL 50 RX2 yX2_proves wsX2_proves) := goodIn_app (goodIn_of _ (by decide +kernel)) ggL_proves_X2_proves
theorem dL_proves_0 : decode cL_proves 0 = .ok (.aload 4, 2) := by decide +kernel
theorem dL_proves_2 : decode cL_proves 2 = .ok (.iconst 0, 1) := by decide +kernel
theorem dL_proves_3 : decode cL_proves 3 = .ok (.aload_n 0, 1) := by decide +kernel
theorem dL_proves_4 : decode cL_proves 4 = .ok (.iload_n 1, 1) := by decide +kernel
theorem dL_proves_5 : decode cL_proves 5 = .ok (.iload_n 2, 1) := by decide +kernel
theorem dL_proves_6 : decode cL_proves 6 = .ok (.iload_n 3, 1) := by decide +kernel
theorem dL_proves_7 : decode cL_proves 7 = .ok (.invokevirtual 50, 3) := by decide +kernel
theorem dL_proves_10 : decode cL_proves 10 = .ok (.ifCond .eq 7, 3) := by decide +kernel
theorem dL_proves_13 : decode cL_proves 13 = .ok (.lconst 1, 1) := by decide +kernel
theorem dL_proves_14 : decode cL_proves 14 = .ok (.goto 4, 3) := by decide +kernel
theorem dL_proves_17 : decode cL_proves 17 = .ok (.lconst 0, 1) := by decide +kernel
theorem dL_proves_18 : decode cL_proves 18 = .ok (.lastore, 1) := by decide +kernel
theorem dL_proves_19 : decode cL_proves 19 = .ok (.goto 11, 3) := by decide +kernel
theorem dL_proves_22 : decode cL_proves 22 = .ok (.astore 5, 2) := by decide +kernel
theorem dL_proves_24 : decode cL_proves 24 = .ok (.iconst 1, 1) := by decide +kernel
theorem dL_proves_25 : decode cL_proves 25 = .ok (.ireturn, 1) := by decide +kernel
theorem dL_proves_26 : decode cL_proves 26 = .ok (.astore 5, 2) := by decide +kernel
theorem dL_proves_28 : decode cL_proves 28 = .ok (.iconst 2, 1) := by decide +kernel
theorem dL_proves_29 : decode cL_proves 29 = .ok (.ireturn, 1) := by decide +kernel
theorem dL_proves_30 : decode cL_proves 30 = .ok (.iconst 0, 1) := by decide +kernel
theorem dL_proves_31 : decode cL_proves 31 = .ok (.ireturn, 1) := by decide +kernel
set_option maxRecDepth 20000 in
theorem ggL_differ_X2_differ : GoodIn wsL_differ wsX2_differ := goodIn_ca (goodIn_r _ [6, 7, 8, 9, 5, 10, 11, 12, 13, 14, 15, 16, 17, 18, 19, 20, 21, 22, 23, 24, 25, 26, 27, 28, 29, 30, 31] (by decide +kernel) (by decide +kernel)) (goodIn_sub (fun _ h => List.mem_cons_of_mem _ (List.mem_append_right _ h)) (by decide +kernel))
set_option maxRecDepth 20000 in
theorem gL_differ_X2_differ : GoodIn wsL_differ (wsV RL 54 RX2 yX2_differ wsX2_differ) := goodIn_app (goodIn_of _ (by decide +kernel)) ggL_differ_X2_differ
theorem dL_differ_0 : decode cL_differ 0 = .ok (.aload_n 3, 1) := by decide +kernel
theorem dL_differ_1 : decode cL_differ 1 = .ok (.iconst 0, 1) := by decide +kernel
theorem dL_differ_2 : decode cL_differ 2 = .ok (.aload_n 0, 1) := by decide +kernel
theorem dL_differ_3 : decode cL_differ 3 = .ok (.iload_n 1, 1) := by decide +kernel
theorem dL_differ_4 : decode cL_differ 4 = .ok (.iload_n 2, 1) := by decide +kernel
theorem dL_differ_5 : decode cL_differ 5 = .ok (.invokevirtual 54, 3) := by decide +kernel
theorem dL_differ_8 : decode cL_differ 8 = .ok (.i2l, 1) := by decide +kernel
theorem dL_differ_9 : decode cL_differ 9 = .ok (.lastore, 1) := by decide +kernel
theorem dL_differ_10 : decode cL_differ 10 = .ok (.goto 7, 3) := by decide +kernel
theorem dL_differ_13 : decode cL_differ 13 = .ok (.astore 4, 2) := by decide +kernel
theorem dL_differ_15 : decode cL_differ 15 = .ok (.iconst 1, 1) := by decide +kernel
theorem dL_differ_16 : decode cL_differ 16 = .ok (.ireturn, 1) := by decide +kernel
theorem dL_differ_17 : decode cL_differ 17 = .ok (.iconst 0, 1) := by decide +kernel
theorem dL_differ_18 : decode cL_differ 18 = .ok (.ireturn, 1) := by decide +kernel
set_option maxRecDepth 20000 in
theorem ggL_looks_X2_looks : GoodIn wsL_looks wsX2_looks := goodIn_ca (goodIn_r _ [6, 7, 8, 9, 5, 10, 11, 12, 13, 14, 15, 16, 17, 18, 19, 20, 21, 22, 23, 24, 25, 26, 27, 28, 29, 30, 31, 32, 33, 34, 35] (by decide +kernel) (by decide +kernel)) (goodIn_sub (fun _ h => List.mem_cons_of_mem _ (List.mem_append_right _ h)) (by decide +kernel))
set_option maxRecDepth 20000 in
theorem gL_looks_X2_looks : GoodIn wsL_looks (wsV RL 57 RX2 yX2_looks wsX2_looks) := goodIn_app (goodIn_of _ (by decide +kernel)) ggL_looks_X2_looks
theorem dL_looks_0 : decode cL_looks 0 = .ok (.aload_n 3, 1) := by decide +kernel
theorem dL_looks_1 : decode cL_looks 1 = .ok (.iconst 0, 1) := by decide +kernel
theorem dL_looks_2 : decode cL_looks 2 = .ok (.aload_n 0, 1) := by decide +kernel
theorem dL_looks_3 : decode cL_looks 3 = .ok (.iload_n 1, 1) := by decide +kernel
theorem dL_looks_4 : decode cL_looks 4 = .ok (.iload_n 2, 1) := by decide +kernel
theorem dL_looks_5 : decode cL_looks 5 = .ok (.invokevirtual 57, 3) := by decide +kernel
theorem dL_looks_8 : decode cL_looks 8 = .ok (.i2l, 1) := by decide +kernel
theorem dL_looks_9 : decode cL_looks 9 = .ok (.lastore, 1) := by decide +kernel
theorem dL_looks_10 : decode cL_looks 10 = .ok (.goto 7, 3) := by decide +kernel
theorem dL_looks_13 : decode cL_looks 13 = .ok (.astore 4, 2) := by decide +kernel
theorem dL_looks_15 : decode cL_looks 15 = .ok (.iconst 1, 1) := by decide +kernel
theorem dL_looks_16 : decode cL_looks 16 = .ok (.ireturn, 1) := by decide +kernel
theorem dL_looks_17 : decode cL_looks 17 = .ok (.iconst 0, 1) := by decide +kernel
theorem dL_looks_18 : decode cL_looks 18 = .ok (.ireturn, 1) := by decide +kernel
set_option maxRecDepth 20000 in
theorem ggL_mend_X2_mend : GoodIn wsL_mend wsX2_mend := goodIn_ca (goodIn_r _ [6, 7, 8, 9, 5, 10, 11, 12, 13, 14, 15, 16, 17, 18, 19, 20, 21, 22, 23, 24, 25, 26, 27, 28, 29, 30, 31, 32, 33, 34, 35, 36, 37, 38, 39, 40, 41, 42, 43, 44, 45, 46, 47, 48, 49, 50, 51, 52, 53] (by decide +kernel) (by decide +kernel)) (goodIn_sub (fun _ h => List.mem_cons_of_mem _ (List.mem_append_right _ h)) (by decide +kernel))
set_option maxRecDepth 20000 in
theorem gL_mend_X2_mend : GoodIn wsL_mend (wsV RL 60 RX2 yX2_mend wsX2_mend) := goodIn_app (goodIn_of _ (by decide +kernel)) ggL_mend_X2_mend
theorem dL_mend_0 : decode cL_mend 0 = .ok (.aload_n 3, 1) := by decide +kernel
theorem dL_mend_1 : decode cL_mend 1 = .ok (.iconst 0, 1) := by decide +kernel
theorem dL_mend_2 : decode cL_mend 2 = .ok (.aload_n 0, 1) := by decide +kernel
theorem dL_mend_3 : decode cL_mend 3 = .ok (.iload_n 1, 1) := by decide +kernel
theorem dL_mend_4 : decode cL_mend 4 = .ok (.iload_n 2, 1) := by decide +kernel
theorem dL_mend_5 : decode cL_mend 5 = .ok (.invokevirtual 60, 3) := by decide +kernel
theorem dL_mend_8 : decode cL_mend 8 = .ok (.i2l, 1) := by decide +kernel
theorem dL_mend_9 : decode cL_mend 9 = .ok (.lastore, 1) := by decide +kernel
theorem dL_mend_10 : decode cL_mend 10 = .ok (.goto 7, 3) := by decide +kernel
theorem dL_mend_13 : decode cL_mend 13 = .ok (.astore 4, 2) := by decide +kernel
theorem dL_mend_15 : decode cL_mend 15 = .ok (.iconst 1, 1) := by decide +kernel
theorem dL_mend_16 : decode cL_mend 16 = .ok (.ireturn, 1) := by decide +kernel
theorem dL_mend_17 : decode cL_mend 17 = .ok (.iconst 0, 1) := by decide +kernel
theorem dL_mend_18 : decode cL_mend 18 = .ok (.ireturn, 1) := by decide +kernel
set_option maxRecDepth 20000 in
theorem ggL_swapped_X2_swapped : GoodIn wsL_swapped wsX2_swapped := goodIn_ca (goodIn_r _ [6, 7, 8, 9, 10, 11, 12, 13, 14, 5, 15, 16, 17, 18, 19, 20, 21, 22, 23, 24, 25, 26, 27, 28, 29, 30, 31, 32, 33, 34, 35, 36, 37, 38, 39, 40, 41, 42, 43, 44, 45, 46, 47, 48, 49, 50, 51, 52, 53, 54] (by decide +kernel) (by decide +kernel)) (goodIn_sub (fun _ h => List.mem_cons_of_mem _ (List.mem_append_right _ h)) (by decide +kernel))
set_option maxRecDepth 20000 in
theorem gL_swapped_X2_swapped : GoodIn wsL_swapped (wsV RL 63 RX2 yX2_swapped wsX2_swapped) := goodIn_app (goodIn_of _ (by decide +kernel)) ggL_swapped_X2_swapped
theorem dL_swapped_0 : decode cL_swapped 0 = .ok (.aload_n 2, 1) := by decide +kernel
theorem dL_swapped_1 : decode cL_swapped 1 = .ok (.iconst 0, 1) := by decide +kernel
theorem dL_swapped_2 : decode cL_swapped 2 = .ok (.aload_n 0, 1) := by decide +kernel
theorem dL_swapped_3 : decode cL_swapped 3 = .ok (.iload_n 1, 1) := by decide +kernel
theorem dL_swapped_4 : decode cL_swapped 4 = .ok (.invokevirtual 63, 3) := by decide +kernel
theorem dL_swapped_7 : decode cL_swapped 7 = .ok (.i2l, 1) := by decide +kernel
theorem dL_swapped_8 : decode cL_swapped 8 = .ok (.lastore, 1) := by decide +kernel
theorem dL_swapped_9 : decode cL_swapped 9 = .ok (.goto 6, 3) := by decide +kernel
theorem dL_swapped_12 : decode cL_swapped 12 = .ok (.astore_n 3, 1) := by decide +kernel
theorem dL_swapped_13 : decode cL_swapped 13 = .ok (.iconst 1, 1) := by decide +kernel
theorem dL_swapped_14 : decode cL_swapped 14 = .ok (.ireturn, 1) := by decide +kernel
theorem dL_swapped_15 : decode cL_swapped 15 = .ok (.iconst 0, 1) := by decide +kernel
theorem dL_swapped_16 : decode cL_swapped 16 = .ok (.ireturn, 1) := by decide +kernel
set_option maxRecDepth 20000 in
theorem ggL_count_X2_count : GoodIn wsL_count wsX2_count := goodIn_ca (goodIn_r _ [6, 7, 8, 9, 10, 5, 11, 12, 13, 14, 15, 16, 17, 18, 19, 20, 21, 22, 23, 24, 25, 26, 27, 28, 29, 30, 31, 32, 33, 34, 35, 36, 37, 38, 39] (by decide +kernel) (by decide +kernel)) (goodIn_sub (fun _ h => List.mem_cons_of_mem _ (List.mem_append_right _ h)) (by decide +kernel))
set_option maxRecDepth 20000 in
theorem gL_count_X2_count : GoodIn wsL_count (wsV RL 66 RX2 yX2_count wsX2_count) := goodIn_app (goodIn_of _ (by decide +kernel)) ggL_count_X2_count
theorem dL_count_0 : decode cL_count 0 = .ok (.aload_n 2, 1) := by decide +kernel
theorem dL_count_1 : decode cL_count 1 = .ok (.iconst 0, 1) := by decide +kernel
theorem dL_count_2 : decode cL_count 2 = .ok (.aload_n 0, 1) := by decide +kernel
theorem dL_count_3 : decode cL_count 3 = .ok (.iload_n 1, 1) := by decide +kernel
theorem dL_count_4 : decode cL_count 4 = .ok (.invokevirtual 66, 3) := by decide +kernel
theorem dL_count_7 : decode cL_count 7 = .ok (.i2l, 1) := by decide +kernel
theorem dL_count_8 : decode cL_count 8 = .ok (.lastore, 1) := by decide +kernel
theorem dL_count_9 : decode cL_count 9 = .ok (.goto 6, 3) := by decide +kernel
theorem dL_count_12 : decode cL_count 12 = .ok (.astore_n 3, 1) := by decide +kernel
theorem dL_count_13 : decode cL_count 13 = .ok (.iconst 1, 1) := by decide +kernel
theorem dL_count_14 : decode cL_count 14 = .ok (.ireturn, 1) := by decide +kernel
theorem dL_count_15 : decode cL_count 15 = .ok (.iconst 0, 1) := by decide +kernel
theorem dL_count_16 : decode cL_count 16 = .ok (.ireturn, 1) := by decide +kernel
