set_option maxRecDepth 20000 in
theorem ggL_law_X2_init : GoodIn wsL_law wsX2_init := goodIn_r _ [7, 8, 9, 10, 11, 12, 13, 14, 4, 15, 267, 268, 269, 270, 271] (by decide +kernel) (by decide +kernel)
set_option maxRecDepth 20000 in
theorem gL_law_X2_init : GoodIn wsL_law (wsX2_init) := ggL_law_X2_init
set_option maxRecDepth 20000 in
theorem ggL_law_L_build : GoodIn wsL_law wsL_build := goodIn_ca (goodIn_ca (goodIn_ca (goodIn_r _ [19, 20, 21, 22, 23, 24, 25, 9, 10, 26, 27, 28, 4, 29, 30, 31, 18, 32, 33, 34, 35, 36, 37, 38, 39, 40, 41, 42, 43, 44, 45, 46, 47, 48, 49, 2, 50, 51, 52, 53, 12, 11, 54, 55, 56, 57, 58, 59, 60, 61, 62, 63, 64, 65, 66, 67, 68, 69, 70, 71, 72, 73, 74, 75, 76, 14, 13, 77, 78, 79, 80, 81, 82, 83, 84, 85, 86, 87, 88, 89, 90, 91, 92, 93, 94, 95, 96, 97, 15, 98, 99, 100, 101, 102, 103, 104, 105, 106, 107, 108, 109, 110, 111, 112, 113, 114, 115, 116, 117, 118, 119, 120, 121, 122, 123, 124, 125, 126, 127, 128, 129, 130, 131, 132, 133, 134, 135, 136, 137, 138, 139, 140, 141, 142, 143, 144, 145, 146, 147, 148, 149, 150, 151, 152, 153, 154, 155, 156, 157, 158, 159, 160, 161, 162, 272, 273, 274, 267, 268, 269, 270, 271, 275, 276, 277, 278, 279, 280] (by decide +kernel) (by decide +kernel)) (goodIn_sub (fun _ h => List.mem_append_left _ (List.mem_append_left _ (List.mem_append_right _ h))) (by decide +kernel))) (goodIn_sub (fun _ h => List.mem_append_left _ (List.mem_append_right _ h)) (by decide +kernel))) (goodIn_sub (fun _ h => List.mem_append_right _ h) (by decide +kernel))
set_option maxRecDepth 20000 in
theorem gL_law_L_build : GoodIn wsL_law (va_wsS RL 70 yL_build wsL_build) := goodIn_app (goodIn_of _ (by decide +kernel)) ggL_law_L_build
set_option maxRecDepth 20000 in
theorem ggL_law_L_cell : GoodIn wsL_law wsL_cell := goodIn_r _ [32, 33] (by decide +kernel) (by decide +kernel)
set_option maxRecDepth 20000 in
theorem gL_law_L_cell : GoodIn wsL_law (va_wsS RL 61 yL_cell wsL_cell) := goodIn_app (goodIn_of _ (by decide +kernel)) ggL_law_L_cell
set_option maxRecDepth 20000 in
theorem ggL_law_X2_count : GoodIn wsL_law wsX2_count := goodIn_ca (goodIn_r _ [166, 53, 76, 167, 168, 2, 169, 83, 84, 170, 171, 172, 173, 174, 175, 176, 177, 12, 85, 55, 86, 87, 60, 178, 179, 180, 181, 267, 268, 269, 270, 271, 275, 276, 277] (by decide +kernel) (by decide +kernel)) (goodIn_sub (fun _ h => List.mem_append_left _ (List.mem_append_right _ h)) (by decide +kernel))
set_option maxRecDepth 20000 in
theorem gL_law_X2_count : GoodIn wsL_law (wsV RL 74 RX2 yX2_count wsX2_count) := goodIn_app (goodIn_of _ (by decide +kernel)) ggL_law_X2_count
set_option maxRecDepth 20000 in
theorem ggL_law_X2_about : GoodIn wsL_law wsX2_about := goodIn_ca (goodIn_r _ [185, 186, 187, 188, 2, 189, 83, 84, 76, 14, 167, 168, 169, 79, 80, 81, 82, 53, 12, 278, 279, 280, 275, 276, 277, 267, 268, 269, 270, 271] (by decide +kernel) (by decide +kernel)) (goodIn_sub (fun _ h => List.mem_append_left _ (List.mem_append_right _ h)) (by decide +kernel))
set_option maxRecDepth 20000 in
theorem gL_law_X2_about : GoodIn wsL_law (wsV RL 78 RX2 yX2_about wsX2_about) := goodIn_app (goodIn_of _ (by decide +kernel)) ggL_law_X2_about
set_option maxRecDepth 20000 in
theorem ggL_law_L_act : GoodIn wsL_law wsL_act := goodIn_ca (goodIn_ca (goodIn_ca (goodIn_r _ [36, 37, 4, 38, 39, 40, 41, 18, 42, 43, 44, 45, 22, 46, 26, 47, 48, 49, 2, 50, 51, 52, 53, 12, 11, 54, 55, 56, 57, 58, 9, 10, 59, 60, 61, 62, 63, 64, 65, 66, 67, 68, 27, 69, 70, 71, 72, 73, 74, 75, 76, 14, 13, 77, 78, 79, 80, 81, 82, 83, 84, 85, 86, 87, 88, 89, 90, 91, 92, 93, 94, 95, 96, 97, 15, 98, 99, 100, 101, 102, 103, 104, 105, 106, 107, 108, 109, 110, 111, 112, 113, 114, 115, 116, 117, 118, 119, 120, 121, 122, 123, 29, 124, 125, 126, 127, 128, 129, 130, 131, 132, 133, 134, 135, 136, 137, 138, 139, 140, 141, 142, 143, 144, 145, 146, 147, 148, 149, 150, 151, 152, 153, 154, 155, 156, 157, 158, 159, 160, 161, 162, 272, 273, 274, 267, 268, 269, 270, 271, 275, 276, 277, 278, 279, 280] (by decide +kernel) (by decide +kernel)) (goodIn_sub (fun _ h => List.mem_append_left _ (List.mem_append_left _ (List.mem_append_right _ h))) (by decide +kernel))) (goodIn_sub (fun _ h => List.mem_append_left _ (List.mem_append_right _ h)) (by decide +kernel))) (goodIn_sub (fun _ h => List.mem_append_right _ h) (by decide +kernel))
set_option maxRecDepth 20000 in
theorem gL_law_L_act : GoodIn wsL_law (va_wsS RL 65 yL_act wsL_act) := goodIn_app (goodIn_of _ (by decide +kernel)) ggL_law_L_act
set_option maxRecDepth 20000 in
theorem ggL_law_L_below : GoodIn wsL_law wsL_below := goodIn_r _ [42, 43] (by decide +kernel) (by decide +kernel)
set_option maxRecDepth 20000 in
theorem gL_law_L_below : GoodIn wsL_law (va_wsS RL 15 yL_below wsL_below) := goodIn_app (goodIn_of _ (by decide +kernel)) ggL_law_L_below
set_option maxRecDepth 20000 in
theorem ggL_law_X2_thing : GoodIn wsL_law wsX2_thing := goodIn_ca (goodIn_r _ [193, 79, 80, 81, 2, 82, 83, 84, 53, 12, 102, 103, 104, 275, 276, 277, 267, 268, 269, 270, 271] (by decide +kernel) (by decide +kernel)) (goodIn_sub (fun _ h => List.mem_append_left _ (List.mem_append_right _ h)) (by decide +kernel))
set_option maxRecDepth 20000 in
theorem gL_law_X2_thing : GoodIn wsL_law (wsV RL 81 RX2 yX2_thing wsX2_thing) := goodIn_app (goodIn_of _ (by decide +kernel)) ggL_law_X2_thing
set_option maxRecDepth 20000 in
theorem ggL_law_X2_sum : GoodIn wsL_law wsX2_sum := goodIn_ca (goodIn_r _ [197, 83, 84, 79, 80, 81, 2, 82, 53, 12, 275, 276, 277, 267, 268, 269, 270, 271] (by decide +kernel) (by decide +kernel)) (goodIn_sub (fun _ h => List.mem_append_left _ (List.mem_append_right _ h)) (by decide +kernel))
set_option maxRecDepth 20000 in
theorem gL_law_X2_sum : GoodIn wsL_law (wsV RL 84 RX2 yX2_sum wsX2_sum) := goodIn_app (goodIn_of _ (by decide +kernel)) ggL_law_X2_sum
set_option maxRecDepth 20000 in
theorem ggL_law_X2_proof : GoodIn wsL_law wsX2_proof := goodIn_ca (goodIn_r _ [201, 83, 84, 79, 80, 81, 2, 82, 53, 12, 102, 103, 104, 202, 55, 203, 204, 60, 267, 268, 269, 270, 271, 275, 276, 277] (by decide +kernel) (by decide +kernel)) (goodIn_sub (fun _ h => List.mem_append_left _ (List.mem_append_right _ h)) (by decide +kernel))
set_option maxRecDepth 20000 in
theorem gL_law_X2_proof : GoodIn wsL_law (wsV RL 87 RX2 yX2_proof wsX2_proof) := goodIn_app (goodIn_of _ (by decide +kernel)) ggL_law_X2_proof
set_option maxRecDepth 20000 in
theorem ggL_law_X2_comes : GoodIn wsL_law wsX2_comes := goodIn_ca (goodIn_ca (goodIn_r _ [208, 102, 103, 2, 104, 83, 84, 158, 159, 160, 161, 162, 209, 210, 211, 111, 61, 62, 212, 213, 214, 112, 63, 64] (by decide +kernel) (by decide +kernel)) (goodIn_sub (fun _ h => List.mem_append_left _ (List.mem_append_right _ h)) (by decide +kernel))) (goodIn_sub (fun _ h => List.mem_append_right _ h) (by decide +kernel))
set_option maxRecDepth 20000 in
theorem gL_law_X2_comes : GoodIn wsL_law (wsV RL 90 RX2 yX2_comes wsX2_comes) := goodIn_app (goodIn_of _ (by decide +kernel)) ggL_law_X2_comes
set_option maxRecDepth 20000 in
theorem ggL_law_X2_told : GoodIn wsL_law wsX2_told := goodIn_ca (goodIn_r _ [218, 79, 80, 81, 2, 82, 83, 84, 53, 12, 167, 168, 169, 85, 55, 86, 87, 60, 219, 220, 221, 59, 222, 223, 224, 225, 226, 227, 228, 76, 14, 229, 230, 231, 232, 275, 276, 277, 267, 268, 269, 270, 271, 278, 279, 280] (by decide +kernel) (by decide +kernel)) (goodIn_sub (fun _ h => List.mem_append_left _ (List.mem_append_right _ h)) (by decide +kernel))
set_option maxRecDepth 20000 in
theorem gL_law_X2_told : GoodIn wsL_law (wsV RL 94 RX2 yX2_told wsX2_told) := goodIn_app (goodIn_of _ (by decide +kernel)) ggL_law_X2_told
set_option maxRecDepth 20000 in
theorem ggL_law_X2_differ : GoodIn wsL_law wsX2_differ := goodIn_ca (goodIn_r _ [236, 79, 80, 81, 2, 82, 83, 84, 53, 12, 128, 129, 130, 131, 132, 133, 134, 135, 136, 275, 276, 277, 267, 268, 269, 270, 271] (by decide +kernel) (by decide +kernel)) (goodIn_sub (fun _ h => List.mem_append_left _ (List.mem_append_right _ h)) (by decide +kernel))
set_option maxRecDepth 20000 in
theorem gL_law_X2_differ : GoodIn wsL_law (wsV RL 97 RX2 yX2_differ wsX2_differ) := goodIn_app (goodIn_of _ (by decide +kernel)) ggL_law_X2_differ
set_option maxRecDepth 20000 in
theorem ggL_law_X2_looks : GoodIn wsL_law wsX2_looks := goodIn_ca (goodIn_r _ [240, 79, 80, 81, 2, 82, 83, 84, 53, 12, 131, 132, 133, 134, 135, 136, 137, 138, 139, 140, 141, 142, 143, 275, 276, 277, 267, 268, 269, 270, 271] (by decide +kernel) (by decide +kernel)) (goodIn_sub (fun _ h => List.mem_append_left _ (List.mem_append_right _ h)) (by decide +kernel))
set_option maxRecDepth 20000 in
theorem gL_law_X2_looks : GoodIn wsL_law (wsV RL 100 RX2 yX2_looks wsX2_looks) := goodIn_app (goodIn_of _ (by decide +kernel)) ggL_law_X2_looks
set_option maxRecDepth 20000 in
theorem ggL_law_X2_mend : GoodIn wsL_law wsX2_mend := goodIn_ca (goodIn_r _ [127, 79, 80, 81, 2, 82, 83, 84, 53, 12, 128, 129, 130, 131, 132, 133, 134, 135, 136, 105, 55, 106, 107, 59, 108, 60, 109, 110, 111, 61, 62, 112, 63, 64, 137, 138, 139, 140, 141, 142, 143, 275, 276, 277, 267, 268, 269, 270, 271] (by decide +kernel) (by decide +kernel)) (goodIn_sub (fun _ h => List.mem_append_left _ (List.mem_append_right _ h)) (by decide +kernel))
set_option maxRecDepth 20000 in
theorem gL_law_X2_mend : GoodIn wsL_law (wsV RL 50 RX2 yX2_mend wsX2_mend) := goodIn_app (goodIn_of _ (by decide +kernel)) ggL_law_X2_mend
set_option maxRecDepth 20000 in
theorem ggL_law_X3_mend : GoodIn wsL_law wsX3_mend := goodIn_r _ [147, 148, 27, 149, 150, 151, 22, 152, 69, 70, 71, 120, 121, 122, 123, 29, 272, 273, 274] (by decide +kernel) (by decide +kernel)
set_option maxRecDepth 20000 in
theorem gL_law_X3_mend : GoodIn wsL_law (wsV RL 53 RX3 yX3_mend wsX3_mend) := goodIn_app (goodIn_of _ (by decide +kernel)) ggL_law_X3_mend
set_option maxRecDepth 20000 in
theorem ggL_law_X2_proves : GoodIn wsL_law wsX2_proves := goodIn_ca (goodIn_ca (goodIn_r _ [244, 186, 187, 188, 2, 189, 83, 84, 76, 14, 102, 103, 104, 158, 159, 160, 161, 162, 79, 80, 81, 82, 53, 12, 111, 61, 62, 202, 55, 203, 204, 60, 212, 213, 214, 112, 63, 64, 278, 279, 280, 267, 268, 269, 270, 271, 275, 276, 277] (by decide +kernel) (by decide +kernel)) (goodIn_sub (fun _ h => List.mem_append_left _ (List.mem_append_right _ h)) (by decide +kernel))) (goodIn_sub (fun _ h => List.mem_append_right _ h) (by decide +kernel))
set_option maxRecDepth 20000 in
theorem gL_law_X2_proves : GoodIn wsL_law (wsV RL 103 RX2 yX2_proves wsX2_proves) := goodIn_app (goodIn_of _ (by decide +kernel)) ggL_law_X2_proves
set_option maxRecDepth 20000 in
theorem ggL_law_X2_swapped : GoodIn wsL_law wsX2_swapped := goodIn_ca (goodIn_r _ [248, 15, 98, 99, 100, 101, 186, 187, 188, 2, 189, 83, 84, 76, 14, 79, 80, 81, 82, 53, 12, 85, 55, 86, 87, 60, 249, 250, 251, 252, 253, 109, 110, 111, 61, 62, 112, 63, 64, 278, 279, 280, 275, 276, 277, 267, 268, 269, 270, 271] (by decide +kernel) (by decide +kernel)) (goodIn_sub (fun _ h => List.mem_append_left _ (List.mem_append_right _ h)) (by decide +kernel))
set_option maxRecDepth 20000 in
theorem gL_law_X2_swapped : GoodIn wsL_law (wsV RL 106 RX2 yX2_swapped wsX2_swapped) := goodIn_app (goodIn_of _ (by decide +kernel)) ggL_law_X2_swapped
set_option maxRecDepth 20000 in
theorem ggS_0 : GoodIn wsL_law ([.code yX3_isSame cX3_isSame 13 (some .boolean)]) := goodIn_r _ [257] (by decide +kernel) (by decide +kernel)
set_option maxRecDepth 20000 in
theorem ggS_1 : GoodIn wsL_law (wsX3_isSame_r1) := goodIn_r _ [27, 4, 29, 28, 258, 66, 67, 22, 68, 69, 70, 71, 259, 191, 192, 2, 193, 79, 80, 81, 82, 83, 84, 53] (by decide +kernel) (by decide +kernel)
set_option maxRecDepth 20000 in
theorem ggS_2 : GoodIn wsL_law (wsX3_isSame_r2) := goodIn_r _ [12, 102, 103, 104, 260, 216, 217, 218, 167, 168, 169, 85, 55, 86, 87, 60, 219, 220, 221, 59, 222, 223, 224, 225] (by decide +kernel) (by decide +kernel)
set_option maxRecDepth 20000 in
theorem ggS_3 : GoodIn wsL_law (wsX3_isSame_r3) := goodIn_r _ [226, 227, 228, 76, 14, 229, 230, 231, 232, 261, 183, 184, 185, 186, 187, 188, 189, 262, 164, 165, 166, 170, 171, 172] (by decide +kernel) (by decide +kernel)
set_option maxRecDepth 20000 in
theorem ggS_4 : GoodIn wsL_law (wsX3_isSame_r4) := goodIn_r _ [173, 174, 175, 176, 177, 178, 179, 180, 181, 263, 264, 265, 266] (by decide +kernel) (by decide +kernel)
set_option maxRecDepth 20000 in
theorem ggS_5 : GoodIn wsL_law (wsX30) := goodIn_r _ [272, 273, 274] (by decide +kernel) (by decide +kernel)
set_option maxRecDepth 20000 in
theorem ggS_6 : GoodIn wsL_law (wsX00) := goodIn_r _ [275, 276, 277] (by decide +kernel) (by decide +kernel)
set_option maxRecDepth 20000 in
theorem ggS_7 : GoodIn wsL_law (wsX20) := goodIn_r _ [267, 268, 269, 270, 271] (by decide +kernel) (by decide +kernel)
set_option maxRecDepth 20000 in
theorem ggS_8 : GoodIn wsL_law (wsX10) := goodIn_r _ [278, 279, 280] (by decide +kernel) (by decide +kernel)
theorem ggL_law_X3_isSame : GoodIn wsL_law wsX3_isSame := goodIn_app (a := [.code yX3_isSame cX3_isSame 13 (some .boolean)]) ggS_0 (goodIn_app (goodIn_app (goodIn_app (goodIn_app (goodIn_app (goodIn_app ggS_1 (goodIn_app ggS_2 (goodIn_app ggS_3 ggS_4))) ggS_5) ggS_6) ggS_7) ggS_8) (goodIn_sub (fun _ h => List.mem_append_left _ (List.mem_append_right _ h)) (by decide +kernel)))
set_option maxRecDepth 20000 in
theorem gL_law_X3_isSame : GoodIn wsL_law (wsV RL 109 RX3 yX3_isSame wsX3_isSame) := goodIn_app (goodIn_of _ (by decide +kernel)) ggL_law_X3_isSame
theorem dL_law_0 : decode cL_law 0 = .ok (.new 26, 3) := by decide +kernel
theorem dL_law_3 : decode cL_law 3 = .ok (.dup, 1) := by decide +kernel
theorem dL_law_4 : decode cL_law 4 = .ok (.invokespecial 69, 3) := by decide +kernel
theorem dL_law_7 : decode cL_law 7 = .ok (.astore_n 1, 1) := by decide +kernel
theorem dL_law_8 : decode cL_law 8 = .ok (.aload_n 1, 1) := by decide +kernel
theorem dL_law_9 : decode cL_law 9 = .ok (.aload_n 0, 1) := by decide +kernel
theorem dL_law_10 : decode cL_law 10 = .ok (.invokestatic 70, 3) := by decide +kernel
theorem dL_law_13 : decode cL_law 13 = .ok (.astore_n 2, 1) := by decide +kernel
theorem dL_law_14 : decode cL_law 14 = .ok (.aload_n 2, 1) := by decide +kernel
theorem dL_law_15 : decode cL_law 15 = .ok (.ifnonnull 5, 3) := by decide +kernel
theorem dL_law_18 : decode cL_law 18 = .ok (.iconst 0, 1) := by decide +kernel
theorem dL_law_19 : decode cL_law 19 = .ok (.ireturn, 1) := by decide +kernel
theorem dL_law_20 : decode cL_law 20 = .ok (.iconst 0, 1) := by decide +kernel
theorem dL_law_21 : decode cL_law 21 = .ok (.istore_n 3, 1) := by decide +kernel
theorem dL_law_22 : decode cL_law 22 = .ok (.iload_n 3, 1) := by decide +kernel
theorem dL_law_23 : decode cL_law 23 = .ok (.bipush 20, 2) := by decide +kernel
theorem dL_law_25 : decode cL_law 25 = .ok (.if_icmp .ge 824, 3) := by decide +kernel
theorem dL_law_28 : decode cL_law 28 = .ok (.aload_n 0, 1) := by decide +kernel
theorem dL_law_29 : decode cL_law 29 = .ok (.iload_n 3, 1) := by decide +kernel
theorem dL_law_30 : decode cL_law 30 = .ok (.bipush 16, 2) := by decide +kernel
theorem dL_law_32 : decode cL_law 32 = .ok (.irem, 1) := by decide +kernel
theorem dL_law_33 : decode cL_law 33 = .ok (.invokestatic 61, 3) := by decide +kernel
theorem dL_law_36 : decode cL_law 36 = .ok (.sipush 227, 3) := by decide +kernel
theorem dL_law_39 : decode cL_law 39 = .ok (.iload_n 3, 1) := by decide +kernel
theorem dL_law_40 : decode cL_law 40 = .ok (.imul, 1) := by decide +kernel
theorem dL_law_41 : decode cL_law 41 = .ok (.iadd, 1) := by decide +kernel
theorem dL_law_42 : decode cL_law 42 = .ok (.istore 4, 2) := by decide +kernel
theorem dL_law_44 : decode cL_law 44 = .ok (.aload_n 1, 1) := by decide +kernel
theorem dL_law_45 : decode cL_law 45 = .ok (.iconst 1, 1) := by decide +kernel
theorem dL_law_46 : decode cL_law 46 = .ok (.invokevirtual 74, 3) := by decide +kernel
theorem dL_law_49 : decode cL_law 49 = .ok (.istore 5, 2) := by decide +kernel
theorem dL_law_51 : decode cL_law 51 = .ok (.iload 5, 2) := by decide +kernel
theorem dL_law_53 : decode cL_law 53 = .ok (.iconst 3, 1) := by decide +kernel
theorem dL_law_54 : decode cL_law 54 = .ok (.multianewarray 77 2, 4) := by decide +kernel
theorem dL_law_58 : decode cL_law 58 = .ok (.astore 6, 2) := by decide +kernel
theorem dL_law_60 : decode cL_law 60 = .ok (.iconst 0, 1) := by decide +kernel
theorem dL_law_61 : decode cL_law 61 = .ok (.istore 7, 2) := by decide +kernel
theorem dL_law_63 : decode cL_law 63 = .ok (.iload 7, 2) := by decide +kernel
theorem dL_law_65 : decode cL_law 65 = .ok (.iload 5, 2) := by decide +kernel
theorem dL_law_67 : decode cL_law 67 = .ok (.if_icmp .ge 40, 3) := by decide +kernel
theorem dL_law_70 : decode cL_law 70 = .ok (.iconst 0, 1) := by decide +kernel
theorem dL_law_71 : decode cL_law 71 = .ok (.istore 8, 2) := by decide +kernel
theorem dL_law_73 : decode cL_law 73 = .ok (.iload 8, 2) := by decide +kernel
theorem dL_law_75 : decode cL_law 75 = .ok (.iconst 3, 1) := by decide +kernel
theorem dL_law_76 : decode cL_law 76 = .ok (.if_icmp .ge 25, 3) := by decide +kernel
theorem dL_law_79 : decode cL_law 79 = .ok (.aload 6, 2) := by decide +kernel
theorem dL_law_81 : decode cL_law 81 = .ok (.iload 7, 2) := by decide +kernel
theorem dL_law_83 : decode cL_law 83 = .ok (.aaload, 1) := by decide +kernel
theorem dL_law_84 : decode cL_law 84 = .ok (.iload 8, 2) := by decide +kernel
theorem dL_law_86 : decode cL_law 86 = .ok (.aload_n 1, 1) := by decide +kernel
theorem dL_law_87 : decode cL_law 87 = .ok (.iload 7, 2) := by decide +kernel
theorem dL_law_89 : decode cL_law 89 = .ok (.iload 8, 2) := by decide +kernel
theorem dL_law_91 : decode cL_law 91 = .ok (.invokevirtual 78, 3) := by decide +kernel
theorem dL_law_94 : decode cL_law 94 = .ok (.iastore, 1) := by decide +kernel
theorem dL_law_95 : decode cL_law 95 = .ok (.iinc 8 1, 3) := by decide +kernel
theorem dL_law_98 : decode cL_law 98 = .ok (.goto (-25), 3) := by decide +kernel
theorem dL_law_101 : decode cL_law 101 = .ok (.iinc 7 1, 3) := by decide +kernel
theorem dL_law_104 : decode cL_law 104 = .ok (.goto (-41), 3) := by decide +kernel
theorem dL_law_107 : decode cL_law 107 = .ok (.aload_n 1, 1) := by decide +kernel
theorem dL_law_108 : decode cL_law 108 = .ok (.iconst 3, 1) := by decide +kernel
theorem dL_law_109 : decode cL_law 109 = .ok (.invokevirtual 74, 3) := by decide +kernel
theorem dL_law_112 : decode cL_law 112 = .ok (.istore 7, 2) := by decide +kernel
theorem dL_law_114 : decode cL_law 114 = .ok (.iconst 0, 1) := by decide +kernel
theorem dL_law_115 : decode cL_law 115 = .ok (.istore 8, 2) := by decide +kernel
theorem dL_law_117 : decode cL_law 117 = .ok (.iload 8, 2) := by decide +kernel
theorem dL_law_119 : decode cL_law 119 = .ok (.iconst 2, 1) := by decide +kernel
theorem dL_law_120 : decode cL_law 120 = .ok (.if_icmp .ge 33, 3) := by decide +kernel
theorem dL_law_123 : decode cL_law 123 = .ok (.aload_n 1, 1) := by decide +kernel
theorem dL_law_124 : decode cL_law 124 = .ok (.aload_n 2, 1) := by decide +kernel
theorem dL_law_125 : decode cL_law 125 = .ok (.iload 4, 2) := by decide +kernel
theorem dL_law_127 : decode cL_law 127 = .ok (.iconst 2, 1) := by decide +kernel
theorem dL_law_128 : decode cL_law 128 = .ok (.iload 8, 2) := by decide +kernel
theorem dL_law_130 : decode cL_law 130 = .ok (.imul, 1) := by decide +kernel
theorem dL_law_131 : decode cL_law 131 = .ok (.ishr, 1) := by decide +kernel
theorem dL_law_132 : decode cL_law 132 = .ok (.sipush 151, 3) := by decide +kernel
theorem dL_law_135 : decode cL_law 135 = .ok (.iload 8, 2) := by decide +kernel
theorem dL_law_137 : decode cL_law 137 = .ok (.imul, 1) := by decide +kernel
theorem dL_law_138 : decode cL_law 138 = .ok (.iadd, 1) := by decide +kernel
theorem dL_law_139 : decode cL_law 139 = .ok (.invokestatic 65, 3) := by decide +kernel
theorem dL_law_142 : decode cL_law 142 = .ok (.ifCond .ne 5, 3) := by decide +kernel
theorem dL_law_145 : decode cL_law 145 = .ok (.iconst 0, 1) := by decide +kernel
theorem dL_law_146 : decode cL_law 146 = .ok (.ireturn, 1) := by decide +kernel
theorem dL_law_147 : decode cL_law 147 = .ok (.iinc 8 1, 3) := by decide +kernel
theorem dL_law_150 : decode cL_law 150 = .ok (.goto (-33), 3) := by decide +kernel
theorem dL_law_153 : decode cL_law 153 = .ok (.aload_n 1, 1) := by decide +kernel
theorem dL_law_154 : decode cL_law 154 = .ok (.iconst 3, 1) := by decide +kernel
theorem dL_law_155 : decode cL_law 155 = .ok (.invokevirtual 74, 3) := by decide +kernel
theorem dL_law_158 : decode cL_law 158 = .ok (.iload 7, 2) := by decide +kernel
theorem dL_law_160 : decode cL_law 160 = .ok (.if_icmp .lt 13, 3) := by decide +kernel
theorem dL_law_163 : decode cL_law 163 = .ok (.aload_n 1, 1) := by decide +kernel
theorem dL_law_164 : decode cL_law 164 = .ok (.iconst 1, 1) := by decide +kernel
theorem dL_law_165 : decode cL_law 165 = .ok (.invokevirtual 74, 3) := by decide +kernel
theorem dL_law_168 : decode cL_law 168 = .ok (.iload 5, 2) := by decide +kernel
theorem dL_law_170 : decode cL_law 170 = .ok (.if_icmp .ge 5, 3) := by decide +kernel
theorem dL_law_173 : decode cL_law 173 = .ok (.iconst 0, 1) := by decide +kernel
theorem dL_law_174 : decode cL_law 174 = .ok (.ireturn, 1) := by decide +kernel
theorem dL_law_175 : decode cL_law 175 = .ok (.iconst 0, 1) := by decide +kernel
theorem dL_law_176 : decode cL_law 176 = .ok (.istore 8, 2) := by decide +kernel
theorem dL_law_178 : decode cL_law 178 = .ok (.iload 8, 2) := by decide +kernel
theorem dL_law_180 : decode cL_law 180 = .ok (.iload 5, 2) := by decide +kernel
theorem dL_law_182 : decode cL_law 182 = .ok (.if_icmp .ge 45, 3) := by decide +kernel
theorem dL_law_185 : decode cL_law 185 = .ok (.iconst 0, 1) := by decide +kernel
theorem dL_law_186 : decode cL_law 186 = .ok (.istore 9, 2) := by decide +kernel
theorem dL_law_188 : decode cL_law 188 = .ok (.iload 9, 2) := by decide +kernel
theorem dL_law_190 : decode cL_law 190 = .ok (.iconst 3, 1) := by decide +kernel
theorem dL_law_191 : decode cL_law 191 = .ok (.if_icmp .ge 30, 3) := by decide +kernel
theorem dL_law_194 : decode cL_law 194 = .ok (.aload_n 1, 1) := by decide +kernel
theorem dL_law_195 : decode cL_law 195 = .ok (.iload 8, 2) := by decide +kernel
theorem dL_law_197 : decode cL_law 197 = .ok (.iload 9, 2) := by decide +kernel
theorem dL_law_199 : decode cL_law 199 = .ok (.invokevirtual 78, 3) := by decide +kernel
theorem dL_law_202 : decode cL_law 202 = .ok (.aload 6, 2) := by decide +kernel
theorem dL_law_204 : decode cL_law 204 = .ok (.iload 8, 2) := by decide +kernel
theorem dL_law_206 : decode cL_law 206 = .ok (.aaload, 1) := by decide +kernel
theorem dL_law_207 : decode cL_law 207 = .ok (.iload 9, 2) := by decide +kernel
theorem dL_law_209 : decode cL_law 209 = .ok (.iaload, 1) := by decide +kernel
theorem dL_law_210 : decode cL_law 210 = .ok (.if_icmp .eq 5, 3) := by decide +kernel
theorem dL_law_213 : decode cL_law 213 = .ok (.iconst 0, 1) := by decide +kernel
theorem dL_law_214 : decode cL_law 214 = .ok (.ireturn, 1) := by decide +kernel
theorem dL_law_215 : decode cL_law 215 = .ok (.iinc 9 1, 3) := by decide +kernel
theorem dL_law_218 : decode cL_law 218 = .ok (.goto (-30), 3) := by decide +kernel
theorem dL_law_221 : decode cL_law 221 = .ok (.iinc 8 1, 3) := by decide +kernel
theorem dL_law_224 : decode cL_law 224 = .ok (.goto (-46), 3) := by decide +kernel
theorem dL_law_227 : decode cL_law 227 = .ok (.aload_n 1, 1) := by decide +kernel
theorem dL_law_228 : decode cL_law 228 = .ok (.iconst 0, 1) := by decide +kernel
theorem dL_law_229 : decode cL_law 229 = .ok (.invokevirtual 74, 3) := by decide +kernel
theorem dL_law_232 : decode cL_law 232 = .ok (.istore 8, 2) := by decide +kernel
theorem dL_law_234 : decode cL_law 234 = .ok (.iload 4, 2) := by decide +kernel
theorem dL_law_236 : decode cL_law 236 = .ok (.iconst 3, 1) := by decide +kernel
theorem dL_law_237 : decode cL_law 237 = .ok (.ishr, 1) := by decide +kernel
theorem dL_law_238 : decode cL_law 238 = .ok (.iload 8, 2) := by decide +kernel
theorem dL_law_240 : decode cL_law 240 = .ok (.invokestatic 15, 3) := by decide +kernel
theorem dL_law_243 : decode cL_law 243 = .ok (.istore 9, 2) := by decide +kernel
theorem dL_law_245 : decode cL_law 245 = .ok (.iload 4, 2) := by decide +kernel
theorem dL_law_247 : decode cL_law 247 = .ok (.iconst 5, 1) := by decide +kernel
theorem dL_law_248 : decode cL_law 248 = .ok (.ishr, 1) := by decide +kernel
theorem dL_law_249 : decode cL_law 249 = .ok (.iload 8, 2) := by decide +kernel
theorem dL_law_251 : decode cL_law 251 = .ok (.invokestatic 15, 3) := by decide +kernel
theorem dL_law_254 : decode cL_law 254 = .ok (.istore 10, 2) := by decide +kernel
theorem dL_law_256 : decode cL_law 256 = .ok (.iconst 1, 1) := by decide +kernel
theorem dL_law_257 : decode cL_law 257 = .ok (.istore 11, 2) := by decide +kernel
theorem dL_law_259 : decode cL_law 259 = .ok (.iload 11, 2) := by decide +kernel
theorem dL_law_261 : decode cL_law 261 = .ok (.bipush 32, 2) := by decide +kernel
theorem dL_law_263 : decode cL_law 263 = .ok (.if_icmp .ge 95, 3) := by decide +kernel
theorem dL_law_266 : decode cL_law 266 = .ok (.iload 11, 2) := by decide +kernel
theorem dL_law_268 : decode cL_law 268 = .ok (.bipush 15, 2) := by decide +kernel
theorem dL_law_270 : decode cL_law 270 = .ok (.if_icmp .le 29, 3) := by decide +kernel
theorem dL_law_273 : decode cL_law 273 = .ok (.bipush 37, 2) := by decide +kernel
theorem dL_law_275 : decode cL_law 275 = .ok (.aload_n 1, 1) := by decide +kernel
theorem dL_law_276 : decode cL_law 276 = .ok (.iload 9, 2) := by decide +kernel
theorem dL_law_278 : decode cL_law 278 = .ok (.iload 11, 2) := by decide +kernel
theorem dL_law_280 : decode cL_law 280 = .ok (.bipush 16, 2) := by decide +kernel
theorem dL_law_282 : decode cL_law 282 = .ok (.isub, 1) := by decide +kernel
theorem dL_law_283 : decode cL_law 283 = .ok (.invokevirtual 81, 3) := by decide +kernel
theorem dL_law_286 : decode cL_law 286 = .ok (.imul, 1) := by decide +kernel
theorem dL_law_287 : decode cL_law 287 = .ok (.bipush 101, 2) := by decide +kernel
theorem dL_law_289 : decode cL_law 289 = .ok (.iload 11, 2) := by decide +kernel
theorem dL_law_291 : decode cL_law 291 = .ok (.bipush 15, 2) := by decide +kernel
theorem dL_law_293 : decode cL_law 293 = .ok (.isub, 1) := by decide +kernel
theorem dL_law_294 : decode cL_law 294 = .ok (.imul, 1) := by decide +kernel
theorem dL_law_295 : decode cL_law 295 = .ok (.iadd, 1) := by decide +kernel
theorem dL_law_296 : decode cL_law 296 = .ok (.goto 35, 3) := by decide +kernel
theorem dL_law_299 : decode cL_law 299 = .ok (.bipush 61, 2) := by decide +kernel
theorem dL_law_301 : decode cL_law 301 = .ok (.aload_n 1, 1) := by decide +kernel
theorem dL_law_302 : decode cL_law 302 = .ok (.iload 9, 2) := by decide +kernel
theorem dL_law_304 : decode cL_law 304 = .ok (.iconst 2, 1) := by decide +kernel
theorem dL_law_305 : decode cL_law 305 = .ok (.iload 11, 2) := by decide +kernel
theorem dL_law_307 : decode cL_law 307 = .ok (.imul, 1) := by decide +kernel
theorem dL_law_308 : decode cL_law 308 = .ok (.invokevirtual 84, 3) := by decide +kernel
theorem dL_law_311 : decode cL_law 311 = .ok (.imul, 1) := by decide +kernel
theorem dL_law_312 : decode cL_law 312 = .ok (.bipush 89, 2) := by decide +kernel
theorem dL_law_314 : decode cL_law 314 = .ok (.aload_n 1, 1) := by decide +kernel
theorem dL_law_315 : decode cL_law 315 = .ok (.iload 9, 2) := by decide +kernel
theorem dL_law_317 : decode cL_law 317 = .ok (.iconst 2, 1) := by decide +kernel
theorem dL_law_318 : decode cL_law 318 = .ok (.iload 11, 2) := by decide +kernel
theorem dL_law_320 : decode cL_law 320 = .ok (.imul, 1) := by decide +kernel
theorem dL_law_321 : decode cL_law 321 = .ok (.iconst 1, 1) := by decide +kernel
theorem dL_law_322 : decode cL_law 322 = .ok (.iadd, 1) := by decide +kernel
theorem dL_law_323 : decode cL_law 323 = .ok (.invokevirtual 84, 3) := by decide +kernel
theorem dL_law_326 : decode cL_law 326 = .ok (.imul, 1) := by decide +kernel
theorem dL_law_327 : decode cL_law 327 = .ok (.iadd, 1) := by decide +kernel
theorem dL_law_328 : decode cL_law 328 = .ok (.iload 11, 2) := by decide +kernel
theorem dL_law_330 : decode cL_law 330 = .ok (.iadd, 1) := by decide +kernel
theorem dL_law_331 : decode cL_law 331 = .ok (.istore 12, 2) := by decide +kernel
theorem dL_law_333 : decode cL_law 333 = .ok (.aload_n 1, 1) := by decide +kernel
theorem dL_law_334 : decode cL_law 334 = .ok (.iload 9, 2) := by decide +kernel
theorem dL_law_336 : decode cL_law 336 = .ok (.iload 11, 2) := by decide +kernel
theorem dL_law_338 : decode cL_law 338 = .ok (.invokevirtual 84, 3) := by decide +kernel
theorem dL_law_341 : decode cL_law 341 = .ok (.iload 12, 2) := by decide +kernel
theorem dL_law_343 : decode cL_law 343 = .ok (.sipush 997, 3) := by decide +kernel
theorem dL_law_346 : decode cL_law 346 = .ok (.irem, 1) := by decide +kernel
theorem dL_law_347 : decode cL_law 347 = .ok (.if_icmp .eq 5, 3) := by decide +kernel
theorem dL_law_350 : decode cL_law 350 = .ok (.iconst 0, 1) := by decide +kernel
theorem dL_law_351 : decode cL_law 351 = .ok (.ireturn, 1) := by decide +kernel
theorem dL_law_352 : decode cL_law 352 = .ok (.iinc 11 1, 3) := by decide +kernel
theorem dL_law_355 : decode cL_law 355 = .ok (.goto (-96), 3) := by decide +kernel
theorem dL_law_358 : decode cL_law 358 = .ok (.iload 4, 2) := by decide +kernel
theorem dL_law_360 : decode cL_law 360 = .ok (.iconst 2, 1) := by decide +kernel
theorem dL_law_361 : decode cL_law 361 = .ok (.ishr, 1) := by decide +kernel
theorem dL_law_362 : decode cL_law 362 = .ok (.bipush 16, 2) := by decide +kernel
theorem dL_law_364 : decode cL_law 364 = .ok (.invokestatic 15, 3) := by decide +kernel
theorem dL_law_367 : decode cL_law 367 = .ok (.istore 11, 2) := by decide +kernel
theorem dL_law_369 : decode cL_law 369 = .ok (.aload_n 1, 1) := by decide +kernel
theorem dL_law_370 : decode cL_law 370 = .ok (.iload 11, 2) := by decide +kernel
theorem dL_law_372 : decode cL_law 372 = .ok (.aload_n 1, 1) := by decide +kernel
theorem dL_law_373 : decode cL_law 373 = .ok (.iload 9, 2) := by decide +kernel
theorem dL_law_375 : decode cL_law 375 = .ok (.iload 11, 2) := by decide +kernel
theorem dL_law_377 : decode cL_law 377 = .ok (.invokevirtual 81, 3) := by decide +kernel
theorem dL_law_380 : decode cL_law 380 = .ok (.aload_n 1, 1) := by decide +kernel
theorem dL_law_381 : decode cL_law 381 = .ok (.iload 9, 2) := by decide +kernel
theorem dL_law_383 : decode cL_law 383 = .ok (.iload 11, 2) := by decide +kernel
theorem dL_law_385 : decode cL_law 385 = .ok (.iconst 0, 1) := by decide +kernel
theorem dL_law_386 : decode cL_law 386 = .ok (.invokevirtual 87, 3) := by decide +kernel
theorem dL_law_389 : decode cL_law 389 = .ok (.aload_n 1, 1) := by decide +kernel
theorem dL_law_390 : decode cL_law 390 = .ok (.iload 9, 2) := by decide +kernel
theorem dL_law_392 : decode cL_law 392 = .ok (.iload 11, 2) := by decide +kernel
theorem dL_law_394 : decode cL_law 394 = .ok (.iconst 1, 1) := by decide +kernel
theorem dL_law_395 : decode cL_law 395 = .ok (.invokevirtual 87, 3) := by decide +kernel
theorem dL_law_398 : decode cL_law 398 = .ok (.aload_n 1, 1) := by decide +kernel
theorem dL_law_399 : decode cL_law 399 = .ok (.iload 9, 2) := by decide +kernel
theorem dL_law_401 : decode cL_law 401 = .ok (.iload 11, 2) := by decide +kernel
theorem dL_law_403 : decode cL_law 403 = .ok (.iconst 2, 1) := by decide +kernel
theorem dL_law_404 : decode cL_law 404 = .ok (.invokevirtual 87, 3) := by decide +kernel
theorem dL_law_407 : decode cL_law 407 = .ok (.aload_n 1, 1) := by decide +kernel
theorem dL_law_408 : decode cL_law 408 = .ok (.iload 9, 2) := by decide +kernel
theorem dL_law_410 : decode cL_law 410 = .ok (.iload 11, 2) := by decide +kernel
theorem dL_law_412 : decode cL_law 412 = .ok (.iconst 3, 1) := by decide +kernel
theorem dL_law_413 : decode cL_law 413 = .ok (.invokevirtual 87, 3) := by decide +kernel
theorem dL_law_416 : decode cL_law 416 = .ok (.invokevirtual 90, 3) := by decide +kernel
theorem dL_law_419 : decode cL_law 419 = .ok (.aload_n 1, 1) := by decide +kernel
theorem dL_law_420 : decode cL_law 420 = .ok (.iload 9, 2) := by decide +kernel
theorem dL_law_422 : decode cL_law 422 = .ok (.iconst 0, 1) := by decide +kernel
theorem dL_law_423 : decode cL_law 423 = .ok (.invokevirtual 94, 3) := by decide +kernel
theorem dL_law_426 : decode cL_law 426 = .ok (.if_icmp .eq 5, 3) := by decide +kernel
theorem dL_law_429 : decode cL_law 429 = .ok (.iconst 0, 1) := by decide +kernel
theorem dL_law_430 : decode cL_law 430 = .ok (.ireturn, 1) := by decide +kernel
theorem dL_law_431 : decode cL_law 431 = .ok (.aload_n 1, 1) := by decide +kernel
theorem dL_law_432 : decode cL_law 432 = .ok (.iload 9, 2) := by decide +kernel
theorem dL_law_434 : decode cL_law 434 = .ok (.iload 10, 2) := by decide +kernel
theorem dL_law_436 : decode cL_law 436 = .ok (.invokevirtual 97, 3) := by decide +kernel
theorem dL_law_439 : decode cL_law 439 = .ok (.istore 12, 2) := by decide +kernel
theorem dL_law_441 : decode cL_law 441 = .ok (.aload_n 1, 1) := by decide +kernel
theorem dL_law_442 : decode cL_law 442 = .ok (.iload 9, 2) := by decide +kernel
theorem dL_law_444 : decode cL_law 444 = .ok (.iload 10, 2) := by decide +kernel
theorem dL_law_446 : decode cL_law 446 = .ok (.invokevirtual 100, 3) := by decide +kernel
theorem dL_law_449 : decode cL_law 449 = .ok (.istore 13, 2) := by decide +kernel
theorem dL_law_451 : decode cL_law 451 = .ok (.iload 12, 2) := by decide +kernel
theorem dL_law_453 : decode cL_law 453 = .ok (.aload_n 1, 1) := by decide +kernel
theorem dL_law_454 : decode cL_law 454 = .ok (.iload 10, 2) := by decide +kernel
theorem dL_law_456 : decode cL_law 456 = .ok (.iload 9, 2) := by decide +kernel
theorem dL_law_458 : decode cL_law 458 = .ok (.invokevirtual 97, 3) := by decide +kernel
theorem dL_law_461 : decode cL_law 461 = .ok (.if_icmp .ne 66, 3) := by decide +kernel
theorem dL_law_464 : decode cL_law 464 = .ok (.iload 13, 2) := by decide +kernel
theorem dL_law_466 : decode cL_law 466 = .ok (.aload_n 1, 1) := by decide +kernel
theorem dL_law_467 : decode cL_law 467 = .ok (.iload 10, 2) := by decide +kernel
theorem dL_law_469 : decode cL_law 469 = .ok (.iload 9, 2) := by decide +kernel
theorem dL_law_471 : decode cL_law 471 = .ok (.invokevirtual 100, 3) := by decide +kernel
theorem dL_law_474 : decode cL_law 474 = .ok (.if_icmp .ne 53, 3) := by decide +kernel
theorem dL_law_477 : decode cL_law 477 = .ok (.iload 12, 2) := by decide +kernel
theorem dL_law_479 : decode cL_law 479 = .ok (.ifCond .ne 7, 3) := by decide +kernel
theorem dL_law_482 : decode cL_law 482 = .ok (.iconst 1, 1) := by decide +kernel
theorem dL_law_483 : decode cL_law 483 = .ok (.goto 4, 3) := by decide +kernel
theorem dL_law_486 : decode cL_law 486 = .ok (.iconst 0, 1) := by decide +kernel
theorem dL_law_487 : decode cL_law 487 = .ok (.aload_n 1, 1) := by decide +kernel
theorem dL_law_488 : decode cL_law 488 = .ok (.iload 9, 2) := by decide +kernel
theorem dL_law_490 : decode cL_law 490 = .ok (.iconst 0, 1) := by decide +kernel
theorem dL_law_491 : decode cL_law 491 = .ok (.invokevirtual 94, 3) := by decide +kernel
theorem dL_law_494 : decode cL_law 494 = .ok (.aload_n 1, 1) := by decide +kernel
theorem dL_law_495 : decode cL_law 495 = .ok (.iload 10, 2) := by decide +kernel
theorem dL_law_497 : decode cL_law 497 = .ok (.iconst 0, 1) := by decide +kernel
theorem dL_law_498 : decode cL_law 498 = .ok (.invokevirtual 94, 3) := by decide +kernel
theorem dL_law_501 : decode cL_law 501 = .ok (.if_icmp .ne 7, 3) := by decide +kernel
theorem dL_law_504 : decode cL_law 504 = .ok (.iconst 1, 1) := by decide +kernel
theorem dL_law_505 : decode cL_law 505 = .ok (.goto 4, 3) := by decide +kernel
theorem dL_law_508 : decode cL_law 508 = .ok (.iconst 0, 1) := by decide +kernel
theorem dL_law_509 : decode cL_law 509 = .ok (.if_icmp .ne 18, 3) := by decide +kernel
theorem dL_law_512 : decode cL_law 512 = .ok (.iload 13, 2) := by decide +kernel
theorem dL_law_514 : decode cL_law 514 = .ok (.iconst 2, 1) := by decide +kernel
theorem dL_law_515 : decode cL_law 515 = .ok (.irem, 1) := by decide +kernel
theorem dL_law_516 : decode cL_law 516 = .ok (.iconst 1, 1) := by decide +kernel
theorem dL_law_517 : decode cL_law 517 = .ok (.if_icmp .ne 10, 3) := by decide +kernel
theorem dL_law_520 : decode cL_law 520 = .ok (.iload 13, 2) := by decide +kernel
theorem dL_law_522 : decode cL_law 522 = .ok (.bipush 31, 2) := by decide +kernel
theorem dL_law_524 : decode cL_law 524 = .ok (.if_icmp .le 5, 3) := by decide +kernel
theorem dL_law_527 : decode cL_law 527 = .ok (.iconst 0, 1) := by decide +kernel
theorem dL_law_528 : decode cL_law 528 = .ok (.ireturn, 1) := by decide +kernel
theorem dL_law_529 : decode cL_law 529 = .ok (.iconst 0, 1) := by decide +kernel
theorem dL_law_530 : decode cL_law 530 = .ok (.istore 14, 2) := by decide +kernel
theorem dL_law_532 : decode cL_law 532 = .ok (.iload 14, 2) := by decide +kernel
theorem dL_law_534 : decode cL_law 534 = .ok (.bipush 16, 2) := by decide +kernel
theorem dL_law_536 : decode cL_law 536 = .ok (.if_icmp .ge 87, 3) := by decide +kernel
theorem dL_law_539 : decode cL_law 539 = .ok (.iconst 1, 1) := by decide +kernel
theorem dL_law_540 : decode cL_law 540 = .ok (.istore 15, 2) := by decide +kernel
theorem dL_law_542 : decode cL_law 542 = .ok (.bipush 16, 2) := by decide +kernel
theorem dL_law_544 : decode cL_law 544 = .ok (.iload 14, 2) := by decide +kernel
theorem dL_law_546 : decode cL_law 546 = .ok (.iadd, 1) := by decide +kernel
theorem dL_law_547 : decode cL_law 547 = .ok (.istore 16, 2) := by decide +kernel
theorem dL_law_549 : decode cL_law 549 = .ok (.iload 16, 2) := by decide +kernel
theorem dL_law_551 : decode cL_law 551 = .ok (.ifCond .le 43, 3) := by decide +kernel
theorem dL_law_554 : decode cL_law 554 = .ok (.iload 15, 2) := by decide +kernel
theorem dL_law_556 : decode cL_law 556 = .ok (.ifCond .eq 26, 3) := by decide +kernel
theorem dL_law_559 : decode cL_law 559 = .ok (.aload_n 1, 1) := by decide +kernel
theorem dL_law_560 : decode cL_law 560 = .ok (.iload 9, 2) := by decide +kernel
theorem dL_law_562 : decode cL_law 562 = .ok (.iload 16, 2) := by decide +kernel
theorem dL_law_564 : decode cL_law 564 = .ok (.invokevirtual 84, 3) := by decide +kernel
theorem dL_law_567 : decode cL_law 567 = .ok (.aload_n 1, 1) := by decide +kernel
theorem dL_law_568 : decode cL_law 568 = .ok (.iload 10, 2) := by decide +kernel
theorem dL_law_570 : decode cL_law 570 = .ok (.iload 16, 2) := by decide +kernel
theorem dL_law_572 : decode cL_law 572 = .ok (.invokevirtual 84, 3) := by decide +kernel
theorem dL_law_575 : decode cL_law 575 = .ok (.if_icmp .eq 7, 3) := by decide +kernel
theorem dL_law_578 : decode cL_law 578 = .ok (.iconst 1, 1) := by decide +kernel
theorem dL_law_579 : decode cL_law 579 = .ok (.goto 4, 3) := by decide +kernel
theorem dL_law_582 : decode cL_law 582 = .ok (.iconst 0, 1) := by decide +kernel
theorem dL_law_583 : decode cL_law 583 = .ok (.istore 15, 2) := by decide +kernel
theorem dL_law_585 : decode cL_law 585 = .ok (.iload 16, 2) := by decide +kernel
theorem dL_law_587 : decode cL_law 587 = .ok (.iconst 2, 1) := by decide +kernel
theorem dL_law_588 : decode cL_law 588 = .ok (.idiv, 1) := by decide +kernel
theorem dL_law_589 : decode cL_law 589 = .ok (.istore 16, 2) := by decide +kernel
theorem dL_law_591 : decode cL_law 591 = .ok (.goto (-42), 3) := by decide +kernel
theorem dL_law_594 : decode cL_law 594 = .ok (.iload 15, 2) := by decide +kernel
theorem dL_law_596 : decode cL_law 596 = .ok (.iload 12, 2) := by decide +kernel
theorem dL_law_598 : decode cL_law 598 = .ok (.iload 14, 2) := by decide +kernel
theorem dL_law_600 : decode cL_law 600 = .ok (.ishr, 1) := by decide +kernel
theorem dL_law_601 : decode cL_law 601 = .ok (.iconst 1, 1) := by decide +kernel
theorem dL_law_602 : decode cL_law 602 = .ok (.iand, 1) := by decide +kernel
theorem dL_law_603 : decode cL_law 603 = .ok (.iconst 1, 1) := by decide +kernel
theorem dL_law_604 : decode cL_law 604 = .ok (.if_icmp .ne 7, 3) := by decide +kernel
theorem dL_law_607 : decode cL_law 607 = .ok (.iconst 1, 1) := by decide +kernel
theorem dL_law_608 : decode cL_law 608 = .ok (.goto 4, 3) := by decide +kernel
theorem dL_law_611 : decode cL_law 611 = .ok (.iconst 0, 1) := by decide +kernel
theorem dL_law_612 : decode cL_law 612 = .ok (.if_icmp .eq 5, 3) := by decide +kernel
theorem dL_law_615 : decode cL_law 615 = .ok (.iconst 0, 1) := by decide +kernel
theorem dL_law_616 : decode cL_law 616 = .ok (.ireturn, 1) := by decide +kernel
theorem dL_law_617 : decode cL_law 617 = .ok (.iinc 14 1, 3) := by decide +kernel
theorem dL_law_620 : decode cL_law 620 = .ok (.goto (-88), 3) := by decide +kernel
theorem dL_law_623 : decode cL_law 623 = .ok (.iload_n 3, 1) := by decide +kernel
theorem dL_law_624 : decode cL_law 624 = .ok (.iconst 3, 1) := by decide +kernel
theorem dL_law_625 : decode cL_law 625 = .ok (.irem, 1) := by decide +kernel
theorem dL_law_626 : decode cL_law 626 = .ok (.iconst 2, 1) := by decide +kernel
theorem dL_law_627 : decode cL_law 627 = .ok (.if_icmp .ne 111, 3) := by decide +kernel
theorem dL_law_630 : decode cL_law 630 = .ok (.aload_n 1, 1) := by decide +kernel
theorem dL_law_631 : decode cL_law 631 = .ok (.iload 9, 2) := by decide +kernel
theorem dL_law_633 : decode cL_law 633 = .ok (.iload 10, 2) := by decide +kernel
theorem dL_law_635 : decode cL_law 635 = .ok (.invokevirtual 50, 3) := by decide +kernel
theorem dL_law_638 : decode cL_law 638 = .ok (.istore 14, 2) := by decide +kernel
theorem dL_law_640 : decode cL_law 640 = .ok (.iload 14, 2) := by decide +kernel
theorem dL_law_642 : decode cL_law 642 = .ok (.aload_n 2, 1) := by decide +kernel
theorem dL_law_643 : decode cL_law 643 = .ok (.iload 9, 2) := by decide +kernel
theorem dL_law_645 : decode cL_law 645 = .ok (.iload 10, 2) := by decide +kernel
theorem dL_law_647 : decode cL_law 647 = .ok (.invokevirtual 53, 3) := by decide +kernel
theorem dL_law_650 : decode cL_law 650 = .ok (.if_icmp .eq 5, 3) := by decide +kernel
theorem dL_law_653 : decode cL_law 653 = .ok (.iconst 0, 1) := by decide +kernel
theorem dL_law_654 : decode cL_law 654 = .ok (.ireturn, 1) := by decide +kernel
theorem dL_law_655 : decode cL_law 655 = .ok (.iconst 0, 1) := by decide +kernel
theorem dL_law_656 : decode cL_law 656 = .ok (.istore 15, 2) := by decide +kernel
theorem dL_law_658 : decode cL_law 658 = .ok (.iload 15, 2) := by decide +kernel
theorem dL_law_660 : decode cL_law 660 = .ok (.bipush 16, 2) := by decide +kernel
theorem dL_law_662 : decode cL_law 662 = .ok (.if_icmp .ge 41, 3) := by decide +kernel
theorem dL_law_665 : decode cL_law 665 = .ok (.iload 12, 2) := by decide +kernel
theorem dL_law_667 : decode cL_law 667 = .ok (.iload 15, 2) := by decide +kernel
theorem dL_law_669 : decode cL_law 669 = .ok (.ishr, 1) := by decide +kernel
theorem dL_law_670 : decode cL_law 670 = .ok (.iconst 1, 1) := by decide +kernel
theorem dL_law_671 : decode cL_law 671 = .ok (.iand, 1) := by decide +kernel
theorem dL_law_672 : decode cL_law 672 = .ok (.iconst 1, 1) := by decide +kernel
theorem dL_law_673 : decode cL_law 673 = .ok (.if_icmp .ne 24, 3) := by decide +kernel
theorem dL_law_676 : decode cL_law 676 = .ok (.aload_n 1, 1) := by decide +kernel
theorem dL_law_677 : decode cL_law 677 = .ok (.iload 10, 2) := by decide +kernel
theorem dL_law_679 : decode cL_law 679 = .ok (.iload 15, 2) := by decide +kernel
theorem dL_law_681 : decode cL_law 681 = .ok (.invokevirtual 81, 3) := by decide +kernel
theorem dL_law_684 : decode cL_law 684 = .ok (.aload_n 1, 1) := by decide +kernel
theorem dL_law_685 : decode cL_law 685 = .ok (.iload 9, 2) := by decide +kernel
theorem dL_law_687 : decode cL_law 687 = .ok (.iload 15, 2) := by decide +kernel
theorem dL_law_689 : decode cL_law 689 = .ok (.invokevirtual 81, 3) := by decide +kernel
theorem dL_law_692 : decode cL_law 692 = .ok (.if_icmp .eq 5, 3) := by decide +kernel
theorem dL_law_695 : decode cL_law 695 = .ok (.iconst 0, 1) := by decide +kernel
theorem dL_law_696 : decode cL_law 696 = .ok (.ireturn, 1) := by decide +kernel
theorem dL_law_697 : decode cL_law 697 = .ok (.iinc 15 1, 3) := by decide +kernel
theorem dL_law_700 : decode cL_law 700 = .ok (.goto (-42), 3) := by decide +kernel
theorem dL_law_703 : decode cL_law 703 = .ok (.iconst 0, 1) := by decide +kernel
theorem dL_law_704 : decode cL_law 704 = .ok (.istore 15, 2) := by decide +kernel
theorem dL_law_706 : decode cL_law 706 = .ok (.iload 15, 2) := by decide +kernel
theorem dL_law_708 : decode cL_law 708 = .ok (.bipush 16, 2) := by decide +kernel
theorem dL_law_710 : decode cL_law 710 = .ok (.if_icmp .ge 21, 3) := by decide +kernel
theorem dL_law_713 : decode cL_law 713 = .ok (.iload 14, 2) := by decide +kernel
theorem dL_law_715 : decode cL_law 715 = .ok (.iload 12, 2) := by decide +kernel
theorem dL_law_717 : decode cL_law 717 = .ok (.iload 15, 2) := by decide +kernel
theorem dL_law_719 : decode cL_law 719 = .ok (.ishr, 1) := by decide +kernel
theorem dL_law_720 : decode cL_law 720 = .ok (.iconst 1, 1) := by decide +kernel
theorem dL_law_721 : decode cL_law 721 = .ok (.iand, 1) := by decide +kernel
theorem dL_law_722 : decode cL_law 722 = .ok (.isub, 1) := by decide +kernel
theorem dL_law_723 : decode cL_law 723 = .ok (.istore 14, 2) := by decide +kernel
theorem dL_law_725 : decode cL_law 725 = .ok (.iinc 15 1, 3) := by decide +kernel
theorem dL_law_728 : decode cL_law 728 = .ok (.goto (-22), 3) := by decide +kernel
theorem dL_law_731 : decode cL_law 731 = .ok (.iload 14, 2) := by decide +kernel
theorem dL_law_733 : decode cL_law 733 = .ok (.ifCond .eq 5, 3) := by decide +kernel
theorem dL_law_736 : decode cL_law 736 = .ok (.iconst 0, 1) := by decide +kernel
theorem dL_law_737 : decode cL_law 737 = .ok (.ireturn, 1) := by decide +kernel
theorem dL_law_738 : decode cL_law 738 = .ok (.iconst 0, 1) := by decide +kernel
theorem dL_law_739 : decode cL_law 739 = .ok (.istore 14, 2) := by decide +kernel
theorem dL_law_741 : decode cL_law 741 = .ok (.iload 14, 2) := by decide +kernel
theorem dL_law_743 : decode cL_law 743 = .ok (.aload_n 1, 1) := by decide +kernel
theorem dL_law_744 : decode cL_law 744 = .ok (.iconst 1, 1) := by decide +kernel
theorem dL_law_745 : decode cL_law 745 = .ok (.invokevirtual 74, 3) := by decide +kernel
theorem dL_law_748 : decode cL_law 748 = .ok (.if_icmp .ge 95, 3) := by decide +kernel
theorem dL_law_751 : decode cL_law 751 = .ok (.aload_n 1, 1) := by decide +kernel
theorem dL_law_752 : decode cL_law 752 = .ok (.iload 14, 2) := by decide +kernel
theorem dL_law_754 : decode cL_law 754 = .ok (.iconst 0, 1) := by decide +kernel
theorem dL_law_755 : decode cL_law 755 = .ok (.invokevirtual 78, 3) := by decide +kernel
theorem dL_law_758 : decode cL_law 758 = .ok (.istore 15, 2) := by decide +kernel
theorem dL_law_760 : decode cL_law 760 = .ok (.aload_n 1, 1) := by decide +kernel
theorem dL_law_761 : decode cL_law 761 = .ok (.iload 15, 2) := by decide +kernel
theorem dL_law_763 : decode cL_law 763 = .ok (.iconst 0, 1) := by decide +kernel
theorem dL_law_764 : decode cL_law 764 = .ok (.invokevirtual 94, 3) := by decide +kernel
theorem dL_law_767 : decode cL_law 767 = .ok (.aload_n 1, 1) := by decide +kernel
theorem dL_law_768 : decode cL_law 768 = .ok (.iload 14, 2) := by decide +kernel
theorem dL_law_770 : decode cL_law 770 = .ok (.iconst 1, 1) := by decide +kernel
theorem dL_law_771 : decode cL_law 771 = .ok (.invokevirtual 78, 3) := by decide +kernel
theorem dL_law_774 : decode cL_law 774 = .ok (.if_icmp .ne 7, 3) := by decide +kernel
theorem dL_law_777 : decode cL_law 777 = .ok (.iconst 1, 1) := by decide +kernel
theorem dL_law_778 : decode cL_law 778 = .ok (.goto 4, 3) := by decide +kernel
theorem dL_law_781 : decode cL_law 781 = .ok (.iconst 0, 1) := by decide +kernel
theorem dL_law_782 : decode cL_law 782 = .ok (.istore 16, 2) := by decide +kernel
theorem dL_law_784 : decode cL_law 784 = .ok (.aload_n 1, 1) := by decide +kernel
theorem dL_law_785 : decode cL_law 785 = .ok (.iload 14, 2) := by decide +kernel
theorem dL_law_787 : decode cL_law 787 = .ok (.iload 11, 2) := by decide +kernel
theorem dL_law_789 : decode cL_law 789 = .ok (.aload_n 1, 1) := by decide +kernel
theorem dL_law_790 : decode cL_law 790 = .ok (.iload 15, 2) := by decide +kernel
theorem dL_law_792 : decode cL_law 792 = .ok (.iload 11, 2) := by decide +kernel
theorem dL_law_794 : decode cL_law 794 = .ok (.invokevirtual 81, 3) := by decide +kernel
theorem dL_law_797 : decode cL_law 797 = .ok (.invokevirtual 103, 3) := by decide +kernel
theorem dL_law_800 : decode cL_law 800 = .ok (.iload 16, 2) := by decide +kernel
theorem dL_law_802 : decode cL_law 802 = .ok (.if_icmp .ne 33, 3) := by decide +kernel
theorem dL_law_805 : decode cL_law 805 = .ok (.iload 16, 2) := by decide +kernel
theorem dL_law_807 : decode cL_law 807 = .ok (.ifCond .eq 13, 3) := by decide +kernel
theorem dL_law_810 : decode cL_law 810 = .ok (.aload_n 1, 1) := by decide +kernel
theorem dL_law_811 : decode cL_law 811 = .ok (.iload 14, 2) := by decide +kernel
theorem dL_law_813 : decode cL_law 813 = .ok (.invokevirtual 106, 3) := by decide +kernel
theorem dL_law_816 : decode cL_law 816 = .ok (.iconst (-1), 1) := by decide +kernel
theorem dL_law_817 : decode cL_law 817 = .ok (.if_icmp .ne 18, 3) := by decide +kernel
theorem dL_law_820 : decode cL_law 820 = .ok (.aload_n 1, 1) := by decide +kernel
theorem dL_law_821 : decode cL_law 821 = .ok (.iload 14, 2) := by decide +kernel
theorem dL_law_823 : decode cL_law 823 = .ok (.iconst 3, 1) := by decide +kernel
theorem dL_law_824 : decode cL_law 824 = .ok (.invokevirtual 78, 3) := by decide +kernel
theorem dL_law_827 : decode cL_law 827 = .ok (.ifCond .ne 10, 3) := by decide +kernel
theorem dL_law_830 : decode cL_law 830 = .ok (.iload 16, 2) := by decide +kernel
theorem dL_law_832 : decode cL_law 832 = .ok (.ifCond .ne 5, 3) := by decide +kernel
theorem dL_law_835 : decode cL_law 835 = .ok (.iconst 0, 1) := by decide +kernel
theorem dL_law_836 : decode cL_law 836 = .ok (.ireturn, 1) := by decide +kernel
theorem dL_law_837 : decode cL_law 837 = .ok (.iinc 14 1, 3) := by decide +kernel
theorem dL_law_840 : decode cL_law 840 = .ok (.goto (-99), 3) := by decide +kernel
theorem dL_law_843 : decode cL_law 843 = .ok (.iinc 3 1, 3) := by decide +kernel
theorem dL_law_846 : decode cL_law 846 = .ok (.goto (-824), 3) := by decide +kernel
theorem dL_law_849 : decode cL_law 849 = .ok (.aload_n 2, 1) := by decide +kernel
theorem dL_law_850 : decode cL_law 850 = .ok (.aload_n 1, 1) := by decide +kernel
theorem dL_law_851 : decode cL_law 851 = .ok (.invokevirtual 109, 3) := by decide +kernel
theorem dL_law_854 : decode cL_law 854 = .ok (.ireturn, 1) := by decide +kernel

