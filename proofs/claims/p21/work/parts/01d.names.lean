theorem dX5_miss_61 : decode cX5_miss 61 = .ok (.getfield 185, 3) := by decide +kernel
theorem dX5_miss_64 : decode cX5_miss 64 = .ok (.iload_n 2, 1) := by decide +kernel
theorem dX5_miss_65 : decode cX5_miss 65 = .ok (.iaload, 1) := by decide +kernel
theorem dX5_miss_66 : decode cX5_miss 66 = .ok (.isub, 1) := by decide +kernel
theorem dX5_miss_67 : decode cX5_miss 67 = .ok (.invokestatic 188, 3) := by decide +kernel
theorem dX5_miss_70 : decode cX5_miss 70 = .ok (.ireturn, 1) := by decide +kernel
set_option maxRecDepth 20000 in
theorem ggX5_tryOut_X3_becomeLike : GoodIn wsX5_tryOut wsX3_becomeLike := goodIn_r _ [7, 8, 9, 10, 11, 12, 13, 14, 15, 16, 17, 18, 19, 20, 21, 22, 23, 24, 25, 26, 27, 28, 29, 135, 136, 137, 138, 139, 140, 141, 142, 143, 144, 145, 146, 147, 148, 149, 150, 151, 152] (by decide +kernel) (by decide +kernel)
set_option maxRecDepth 20000 in
theorem gX5_tryOut_X3_becomeLike : GoodIn wsX5_tryOut (wsV RX5 194 RX3 yX3_becomeLike wsX3_becomeLike) := goodIn_app (goodIn_of _ (by decide +kernel)) ggX5_tryOut_X3_becomeLike
set_option maxRecDepth 20000 in
theorem ggX5_tryOut_X3_goThroughYear : GoodIn wsX5_tryOut wsX3_goThroughYear := goodIn_r _ [33, 8, 34, 35, 36, 6, 37, 10, 38, 13, 39, 11, 40, 41, 12, 42, 43, 44, 45, 20, 46, 47, 48, 49, 50, 14, 51, 52, 53, 54, 55, 56, 57, 58, 9, 59, 60, 61, 25, 62, 29, 27, 63, 64, 65, 66, 67, 68, 69, 70, 71, 72, 73, 74, 75, 76, 77, 78, 79, 80, 81, 82, 83, 84, 85, 86, 87, 88, 89, 90, 91, 92, 93, 94, 95, 96, 97, 98, 99, 100, 101, 102, 103, 104, 105, 106, 107, 108, 109, 110, 111, 112, 113, 114, 115, 116, 117, 118, 119, 120, 121, 122, 123, 124, 125, 19, 126, 127, 128, 129, 130, 21, 135, 136, 137, 138, 139, 140, 141, 142, 143, 144, 145, 146, 147, 148, 149, 150, 151, 152, 153, 154, 155, 156, 157] (by decide +kernel) (by decide +kernel)
set_option maxRecDepth 20000 in
theorem gX5_tryOut_X3_goThroughYear : GoodIn wsX5_tryOut (wsV RX5 104 RX3 yX3_goThroughYear wsX3_goThroughYear) := goodIn_app (goodIn_of _ (by decide +kernel)) ggX5_tryOut_X3_goThroughYear
theorem dX5_tryOut_0 : decode cX5_tryOut 0 = .ok (.aload_n 0, 1) := by decide +kernel
theorem dX5_tryOut_1 : decode cX5_tryOut 1 = .ok (.getfield 16, 3) := by decide +kernel
theorem dX5_tryOut_4 : decode cX5_tryOut 4 = .ok (.aload_n 0, 1) := by decide +kernel
theorem dX5_tryOut_5 : decode cX5_tryOut 5 = .ok (.getfield 10, 3) := by decide +kernel
theorem dX5_tryOut_8 : decode cX5_tryOut 8 = .ok (.invokevirtual 194, 3) := by decide +kernel
theorem dX5_tryOut_11 : decode cX5_tryOut 11 = .ok (.iconst 0, 1) := by decide +kernel
theorem dX5_tryOut_12 : decode cX5_tryOut 12 = .ok (.istore_n 2, 1) := by decide +kernel
theorem dX5_tryOut_13 : decode cX5_tryOut 13 = .ok (.iload_n 2, 1) := by decide +kernel
theorem dX5_tryOut_14 : decode cX5_tryOut 14 = .ok (.iload_n 1, 1) := by decide +kernel
theorem dX5_tryOut_15 : decode cX5_tryOut 15 = .ok (.if_icmp .ge 16, 3) := by decide +kernel
theorem dX5_tryOut_18 : decode cX5_tryOut 18 = .ok (.aload_n 0, 1) := by decide +kernel
theorem dX5_tryOut_19 : decode cX5_tryOut 19 = .ok (.getfield 16, 3) := by decide +kernel
theorem dX5_tryOut_22 : decode cX5_tryOut 22 = .ok (.invokevirtual 104, 3) := by decide +kernel
theorem dX5_tryOut_25 : decode cX5_tryOut 25 = .ok (.iinc 2 1, 3) := by decide +kernel
theorem dX5_tryOut_28 : decode cX5_tryOut 28 = .ok (.goto (-15), 3) := by decide +kernel
theorem dX5_tryOut_31 : decode cX5_tryOut 31 = .ok (.return_, 1) := by decide +kernel
theorem dX5_needNotTooLate_0 : decode cX5_needNotTooLate 0 = .ok (.aload_n 0, 1) := by decide +kernel
theorem dX5_needNotTooLate_1 : decode cX5_needNotTooLate 1 = .ok (.getfield 10, 3) := by decide +kernel
theorem dX5_needNotTooLate_4 : decode cX5_needNotTooLate 4 = .ok (.getfield 82, 3) := by decide +kernel
theorem dX5_needNotTooLate_7 : decode cX5_needNotTooLate 7 = .ok (.iload_n 1, 1) := by decide +kernel
theorem dX5_needNotTooLate_8 : decode cX5_needNotTooLate 8 = .ok (.iadd, 1) := by decide +kernel
theorem dX5_needNotTooLate_9 : decode cX5_needNotTooLate 9 = .ok (.bipush 60, 2) := by decide +kernel
theorem dX5_needNotTooLate_11 : decode cX5_needNotTooLate 11 = .ok (.if_icmp .le 13, 3) := by decide +kernel
theorem dX5_needNotTooLate_14 : decode cX5_needNotTooLate 14 = .ok (.new 54, 3) := by decide +kernel
theorem dX5_needNotTooLate_17 : decode cX5_needNotTooLate 17 = .ok (.dup, 1) := by decide +kernel
theorem dX5_needNotTooLate_18 : decode cX5_needNotTooLate 18 = .ok (.ldc 197, 2) := by decide +kernel
theorem dX5_needNotTooLate_20 : decode cX5_needNotTooLate 20 = .ok (.invokespecial 58, 3) := by decide +kernel
theorem dX5_needNotTooLate_23 : decode cX5_needNotTooLate 23 = .ok (.athrow, 1) := by decide +kernel
theorem dX5_needNotTooLate_24 : decode cX5_needNotTooLate 24 = .ok (.return_, 1) := by decide +kernel
theorem dX5_needCell_0 : decode cX5_needCell 0 = .ok (.iload_n 0, 1) := by decide +kernel
theorem dX5_needCell_1 : decode cX5_needCell 1 = .ok (.ifCond .lt 9, 3) := by decide +kernel
theorem dX5_needCell_4 : decode cX5_needCell 4 = .ok (.iload_n 0, 1) := by decide +kernel
theorem dX5_needCell_5 : decode cX5_needCell 5 = .ok (.bipush 12, 2) := by decide +kernel
theorem dX5_needCell_7 : decode cX5_needCell 7 = .ok (.if_icmp .lt 13, 3) := by decide +kernel
theorem dX5_needCell_10 : decode cX5_needCell 10 = .ok (.new 129, 3) := by decide +kernel
theorem dX5_needCell_13 : decode cX5_needCell 13 = .ok (.dup, 1) := by decide +kernel
theorem dX5_needCell_14 : decode cX5_needCell 14 = .ok (.ldc 199, 2) := by decide +kernel
theorem dX5_needCell_16 : decode cX5_needCell 16 = .ok (.invokespecial 133, 3) := by decide +kernel
theorem dX5_needCell_19 : decode cX5_needCell 19 = .ok (.athrow, 1) := by decide +kernel
theorem dX5_needCell_20 : decode cX5_needCell 20 = .ok (.return_, 1) := by decide +kernel
theorem dX5_needWithin_0 : decode cX5_needWithin 0 = .ok (.iload_n 0, 1) := by decide +kernel
theorem dX5_needWithin_1 : decode cX5_needWithin 1 = .ok (.iload_n 1, 1) := by decide +kernel
theorem dX5_needWithin_2 : decode cX5_needWithin 2 = .ok (.if_icmp .lt 8, 3) := by decide +kernel
theorem dX5_needWithin_5 : decode cX5_needWithin 5 = .ok (.iload_n 0, 1) := by decide +kernel
theorem dX5_needWithin_6 : decode cX5_needWithin 6 = .ok (.iload_n 2, 1) := by decide +kernel
theorem dX5_needWithin_7 : decode cX5_needWithin 7 = .ok (.if_icmp .le 13, 3) := by decide +kernel
theorem dX5_needWithin_10 : decode cX5_needWithin 10 = .ok (.new 118, 3) := by decide +kernel
theorem dX5_needWithin_13 : decode cX5_needWithin 13 = .ok (.dup, 1) := by decide +kernel
theorem dX5_needWithin_14 : decode cX5_needWithin 14 = .ok (.ldc 201, 2) := by decide +kernel
theorem dX5_needWithin_16 : decode cX5_needWithin 16 = .ok (.invokespecial 122, 3) := by decide +kernel
theorem dX5_needWithin_19 : decode cX5_needWithin 19 = .ok (.athrow, 1) := by decide +kernel
theorem dX5_needWithin_20 : decode cX5_needWithin 20 = .ok (.return_, 1) := by decide +kernel
theorem dJ9_floorDiv_7cf53_0 : decode cJ9_floorDiv_7cf53 0 = .ok (.iload_n 0, 1) := by decide +kernel
theorem dJ9_floorDiv_7cf53_1 : decode cJ9_floorDiv_7cf53 1 = .ok (.iload_n 1, 1) := by decide +kernel
theorem dJ9_floorDiv_7cf53_2 : decode cJ9_floorDiv_7cf53 2 = .ok (.idiv, 1) := by decide +kernel
theorem dJ9_floorDiv_7cf53_3 : decode cJ9_floorDiv_7cf53 3 = .ok (.istore_n 2, 1) := by decide +kernel
theorem dJ9_floorDiv_7cf53_4 : decode cJ9_floorDiv_7cf53 4 = .ok (.iload_n 0, 1) := by decide +kernel
theorem dJ9_floorDiv_7cf53_5 : decode cJ9_floorDiv_7cf53 5 = .ok (.iload_n 1, 1) := by decide +kernel
theorem dJ9_floorDiv_7cf53_6 : decode cJ9_floorDiv_7cf53 6 = .ok (.ixor, 1) := by decide +kernel
theorem dJ9_floorDiv_7cf53_7 : decode cJ9_floorDiv_7cf53 7 = .ok (.ifCond .ge 14, 3) := by decide +kernel
theorem dJ9_floorDiv_7cf53_10 : decode cJ9_floorDiv_7cf53 10 = .ok (.iload_n 2, 1) := by decide +kernel
theorem dJ9_floorDiv_7cf53_11 : decode cJ9_floorDiv_7cf53 11 = .ok (.iload_n 1, 1) := by decide +kernel
theorem dJ9_floorDiv_7cf53_12 : decode cJ9_floorDiv_7cf53 12 = .ok (.imul, 1) := by decide +kernel
theorem dJ9_floorDiv_7cf53_13 : decode cJ9_floorDiv_7cf53 13 = .ok (.iload_n 0, 1) := by decide +kernel
theorem dJ9_floorDiv_7cf53_14 : decode cJ9_floorDiv_7cf53 14 = .ok (.if_icmp .eq 7, 3) := by decide +kernel
theorem dJ9_floorDiv_7cf53_17 : decode cJ9_floorDiv_7cf53 17 = .ok (.iload_n 2, 1) := by decide +kernel
theorem dJ9_floorDiv_7cf53_18 : decode cJ9_floorDiv_7cf53 18 = .ok (.iconst 1, 1) := by decide +kernel
theorem dJ9_floorDiv_7cf53_19 : decode cJ9_floorDiv_7cf53 19 = .ok (.isub, 1) := by decide +kernel
theorem dJ9_floorDiv_7cf53_20 : decode cJ9_floorDiv_7cf53 20 = .ok (.ireturn, 1) := by decide +kernel
theorem dJ9_floorDiv_7cf53_21 : decode cJ9_floorDiv_7cf53 21 = .ok (.iload_n 2, 1) := by decide +kernel
theorem dJ9_floorDiv_7cf53_22 : decode cJ9_floorDiv_7cf53 22 = .ok (.ireturn, 1) := by decide +kernel
theorem dJ9_floorDiv_f86c9_0 : decode cJ9_floorDiv_f86c9 0 = .ok (.lload_n 0, 1) := by decide +kernel
theorem dJ9_floorDiv_f86c9_1 : decode cJ9_floorDiv_f86c9 1 = .ok (.lload_n 2, 1) := by decide +kernel
theorem dJ9_floorDiv_f86c9_2 : decode cJ9_floorDiv_f86c9 2 = .ok (.ldiv, 1) := by decide +kernel
theorem dJ9_floorDiv_f86c9_3 : decode cJ9_floorDiv_f86c9 3 = .ok (.lstore 4, 2) := by decide +kernel
theorem dJ9_floorDiv_f86c9_5 : decode cJ9_floorDiv_f86c9 5 = .ok (.lload_n 0, 1) := by decide +kernel
theorem dJ9_floorDiv_f86c9_6 : decode cJ9_floorDiv_f86c9 6 = .ok (.lload_n 2, 1) := by decide +kernel
theorem dJ9_floorDiv_f86c9_7 : decode cJ9_floorDiv_f86c9 7 = .ok (.lxor, 1) := by decide +kernel
theorem dJ9_floorDiv_f86c9_8 : decode cJ9_floorDiv_f86c9 8 = .ok (.lconst 0, 1) := by decide +kernel
theorem dJ9_floorDiv_f86c9_9 : decode cJ9_floorDiv_f86c9 9 = .ok (.lcmp, 1) := by decide +kernel
theorem dJ9_floorDiv_f86c9_10 : decode cJ9_floorDiv_f86c9 10 = .ok (.ifCond .ge 17, 3) := by decide +kernel
theorem dJ9_floorDiv_f86c9_13 : decode cJ9_floorDiv_f86c9 13 = .ok (.lload 4, 2) := by decide +kernel
theorem dJ9_floorDiv_f86c9_15 : decode cJ9_floorDiv_f86c9 15 = .ok (.lload_n 2, 1) := by decide +kernel
theorem dJ9_floorDiv_f86c9_16 : decode cJ9_floorDiv_f86c9 16 = .ok (.lmul, 1) := by decide +kernel
theorem dJ9_floorDiv_f86c9_17 : decode cJ9_floorDiv_f86c9 17 = .ok (.lload_n 0, 1) := by decide +kernel
theorem dJ9_floorDiv_f86c9_18 : decode cJ9_floorDiv_f86c9 18 = .ok (.lcmp, 1) := by decide +kernel
theorem dJ9_floorDiv_f86c9_19 : decode cJ9_floorDiv_f86c9 19 = .ok (.ifCond .eq 8, 3) := by decide +kernel
theorem dJ9_floorDiv_f86c9_22 : decode cJ9_floorDiv_f86c9 22 = .ok (.lload 4, 2) := by decide +kernel
theorem dJ9_floorDiv_f86c9_24 : decode cJ9_floorDiv_f86c9 24 = .ok (.lconst 1, 1) := by decide +kernel
theorem dJ9_floorDiv_f86c9_25 : decode cJ9_floorDiv_f86c9 25 = .ok (.lsub, 1) := by decide +kernel
theorem dJ9_floorDiv_f86c9_26 : decode cJ9_floorDiv_f86c9 26 = .ok (.lreturn, 1) := by decide +kernel
theorem dJ9_floorDiv_f86c9_27 : decode cJ9_floorDiv_f86c9 27 = .ok (.lload 4, 2) := by decide +kernel
theorem dJ9_floorDiv_f86c9_29 : decode cJ9_floorDiv_f86c9 29 = .ok (.lreturn, 1) := by decide +kernel
theorem dJ9_abs_0f7a4_0 : decode cJ9_abs_0f7a4 0 = .ok (.iload_n 0, 1) := by decide +kernel
theorem dJ9_abs_0f7a4_1 : decode cJ9_abs_0f7a4 1 = .ok (.ifCond .ge 8, 3) := by decide +kernel
theorem dJ9_abs_0f7a4_4 : decode cJ9_abs_0f7a4 4 = .ok (.iload_n 0, 1) := by decide +kernel
theorem dJ9_abs_0f7a4_5 : decode cJ9_abs_0f7a4 5 = .ok (.ineg, 1) := by decide +kernel
theorem dJ9_abs_0f7a4_6 : decode cJ9_abs_0f7a4 6 = .ok (.goto 4, 3) := by decide +kernel
theorem dJ9_abs_0f7a4_9 : decode cJ9_abs_0f7a4 9 = .ok (.iload_n 0, 1) := by decide +kernel
theorem dJ9_abs_0f7a4_10 : decode cJ9_abs_0f7a4 10 = .ok (.ireturn, 1) := by decide +kernel
theorem dJ9_min_7cf53_0 : decode cJ9_min_7cf53 0 = .ok (.iload_n 0, 1) := by decide +kernel
theorem dJ9_min_7cf53_1 : decode cJ9_min_7cf53 1 = .ok (.iload_n 1, 1) := by decide +kernel
theorem dJ9_min_7cf53_2 : decode cJ9_min_7cf53 2 = .ok (.if_icmp .gt 7, 3) := by decide +kernel
theorem dJ9_min_7cf53_5 : decode cJ9_min_7cf53 5 = .ok (.iload_n 0, 1) := by decide +kernel
theorem dJ9_min_7cf53_6 : decode cJ9_min_7cf53 6 = .ok (.goto 4, 3) := by decide +kernel
theorem dJ9_min_7cf53_9 : decode cJ9_min_7cf53 9 = .ok (.iload_n 1, 1) := by decide +kernel
theorem dJ9_min_7cf53_10 : decode cJ9_min_7cf53 10 = .ok (.ireturn, 1) := by decide +kernel
theorem dJ9_min_f86c9_0 : decode cJ9_min_f86c9 0 = .ok (.lload_n 0, 1) := by decide +kernel
theorem dJ9_min_f86c9_1 : decode cJ9_min_f86c9 1 = .ok (.lload_n 2, 1) := by decide +kernel
theorem dJ9_min_f86c9_2 : decode cJ9_min_f86c9 2 = .ok (.lcmp, 1) := by decide +kernel
theorem dJ9_min_f86c9_3 : decode cJ9_min_f86c9 3 = .ok (.ifCond .gt 7, 3) := by decide +kernel
theorem dJ9_min_f86c9_6 : decode cJ9_min_f86c9 6 = .ok (.lload_n 0, 1) := by decide +kernel
theorem dJ9_min_f86c9_7 : decode cJ9_min_f86c9 7 = .ok (.goto 4, 3) := by decide +kernel
theorem dJ9_min_f86c9_10 : decode cJ9_min_f86c9 10 = .ok (.lload_n 2, 1) := by decide +kernel
theorem dJ9_min_f86c9_11 : decode cJ9_min_f86c9 11 = .ok (.lreturn, 1) := by decide +kernel
theorem dL_drawn_0 : decode cL_drawn 0 = .ok (.iload_n 1, 1) := by decide +kernel
theorem dL_drawn_1 : decode cL_drawn 1 = .ok (.aload_n 0, 1) := by decide +kernel
theorem dL_drawn_2 : decode cL_drawn 2 = .ok (.arraylength, 1) := by decide +kernel
theorem dL_drawn_3 : decode cL_drawn 3 = .ok (.if_icmp .ge 9, 3) := by decide +kernel
theorem dL_drawn_6 : decode cL_drawn 6 = .ok (.aload_n 0, 1) := by decide +kernel
theorem dL_drawn_7 : decode cL_drawn 7 = .ok (.iload_n 1, 1) := by decide +kernel
theorem dL_drawn_8 : decode cL_drawn 8 = .ok (.iaload, 1) := by decide +kernel
theorem dL_drawn_9 : decode cL_drawn 9 = .ok (.goto 12, 3) := by decide +kernel
theorem dL_drawn_12 : decode cL_drawn 12 = .ok (.sipush 12919, 3) := by decide +kernel
theorem dL_drawn_15 : decode cL_drawn 15 = .ok (.iload_n 1, 1) := by decide +kernel
theorem dL_drawn_16 : decode cL_drawn 16 = .ok (.imul, 1) := by decide +kernel
theorem dL_drawn_17 : decode cL_drawn 17 = .ok (.sipush 10193, 3) := by decide +kernel
theorem dL_drawn_20 : decode cL_drawn 20 = .ok (.iadd, 1) := by decide +kernel
theorem dL_drawn_21 : decode cL_drawn 21 = .ok (.istore_n 2, 1) := by decide +kernel
theorem dL_drawn_22 : decode cL_drawn 22 = .ok (.iload_n 2, 1) := by decide +kernel
theorem dL_drawn_23 : decode cL_drawn 23 = .ok (.ldc 7, 2) := by decide +kernel
theorem dL_drawn_25 : decode cL_drawn 25 = .ok (.iand, 1) := by decide +kernel
theorem dL_drawn_26 : decode cL_drawn 26 = .ok (.ireturn, 1) := by decide +kernel
set_option maxRecDepth 20000 in
theorem ggL_does_X5_land : GoodIn wsL_does wsX5_land := goodIn_ca (goodIn_ca (goodIn_ca (goodIn_r _ [11, 12, 13, 14, 15, 16, 17, 18, 19, 20, 21, 10, 22, 23, 24, 25, 26, 27, 28, 29, 284, 285, 286, 287, 288, 289, 290, 291, 292, 293, 294, 295, 296, 297, 298, 299, 300, 301, 302, 303, 304, 305] (by decide +kernel) (by decide +kernel)) (goodIn_sub (fun _ h => List.mem_cons_of_mem _ (List.mem_append_left _ (List.mem_append_left _ (List.mem_append_right _ h)))) (by decide +kernel))) (goodIn_sub (fun _ h => List.mem_cons_of_mem _ (List.mem_append_left _ (List.mem_append_right _ h))) (by decide +kernel))) (goodIn_sub (fun _ h => List.mem_cons_of_mem _ (List.mem_append_right _ h)) (by decide +kernel))
set_option maxRecDepth 20000 in
theorem gL_does_X5_land : GoodIn wsL_does (wsV RL 8 RX5 yX5_land wsX5_land) := goodIn_app (goodIn_of _ (by decide +kernel)) ggL_does_X5_land
set_option maxRecDepth 20000 in
theorem ggL_does_X5_sea : GoodIn wsL_does wsX5_sea := goodIn_ca (goodIn_r _ [33, 14, 34, 25, 26, 10, 27, 28, 29, 284, 285, 286, 287, 288, 289, 290, 291, 292, 293, 294, 295, 296, 297, 298, 299, 300, 301, 302, 303] (by decide +kernel) (by decide +kernel)) (goodIn_sub (fun _ h => List.mem_cons_of_mem _ (List.mem_append_right _ h)) (by decide +kernel))
set_option maxRecDepth 20000 in
theorem gL_does_X5_sea : GoodIn wsL_does (wsV RL 14 RX5 yX5_sea wsX5_sea) := goodIn_app (goodIn_of _ (by decide +kernel)) ggL_does_X5_sea
set_option maxRecDepth 20000 in
theorem ggL_does_X5_ice : GoodIn wsL_does wsX5_ice := goodIn_ca (goodIn_ca (goodIn_ca (goodIn_r _ [38, 12, 13, 14, 15, 16, 39, 40, 41, 20, 21, 10, 22, 23, 24, 25, 26, 27, 28, 29, 42, 43, 44, 45, 46, 47, 48, 284, 285, 286, 287, 288, 289, 290, 291, 292, 293, 294, 295, 296, 297, 298, 299, 300, 301, 302, 303, 304, 305, 306, 307, 308, 309, 310] (by decide +kernel) (by decide +kernel)) (goodIn_sub (fun _ h => List.mem_cons_of_mem _ (List.mem_append_left _ (List.mem_append_left _ (List.mem_append_right _ h)))) (by decide +kernel))) (goodIn_sub (fun _ h => List.mem_cons_of_mem _ (List.mem_append_left _ (List.mem_append_right _ h))) (by decide +kernel))) (goodIn_sub (fun _ h => List.mem_cons_of_mem _ (List.mem_append_right _ h)) (by decide +kernel))
set_option maxRecDepth 20000 in
theorem gL_does_X5_ice : GoodIn wsL_does (wsV RL 18 RX5 yX5_ice wsX5_ice) := goodIn_app (goodIn_of _ (by decide +kernel)) ggL_does_X5_ice
set_option maxRecDepth 20000 in
theorem ggL_does_X5_pass : GoodIn wsL_does wsX5_pass := goodIn_ca (goodIn_ca (goodIn_r _ [52, 14, 53, 39, 25, 26, 10, 27, 28, 29, 54, 55, 56, 57, 12, 13, 58, 59, 60, 61, 62, 63, 64, 65, 66, 67, 68, 69, 70, 71, 72, 73, 74, 75, 76, 77, 78, 79, 80, 81, 82, 83, 84, 85, 86, 87, 88, 89, 90, 91, 92, 93, 94, 95, 96, 43, 44, 45, 46, 47, 48, 97, 98, 99, 100, 101, 102, 103, 104, 105, 106, 107, 108, 109, 110, 111, 112, 113, 114, 115, 116, 117, 118, 119, 120, 121, 122, 123, 124, 125, 126, 127, 128, 129, 130, 131, 132, 133, 134, 135, 136, 137, 138, 139, 140, 141, 142, 143, 144, 145, 146, 147, 148, 149, 150, 151, 152, 153, 154, 155, 156, 157, 158, 159, 160, 161, 162, 163, 164, 165, 166, 167, 168, 169, 170, 171, 172, 173, 174, 175, 176, 177, 178, 179, 180, 181, 182, 183, 184, 185, 284, 285, 286, 287, 288, 289, 290, 291, 292, 293, 294, 295, 296, 297, 298, 299, 300, 301, 302, 303, 304, 305, 306, 307, 308, 309, 310, 311, 312, 313, 314, 315, 316, 317] (by decide +kernel) (by decide +kernel)) (goodIn_sub (fun _ h => List.mem_cons_of_mem _ (List.mem_append_right _ h)) (by decide +kernel))) (goodIn_sub (fun _ h => List.mem_cons_of_mem _ (List.mem_append_left _ (List.mem_append_left _ (List.mem_append_right _ h)))) (by decide +kernel))
set_option maxRecDepth 20000 in
theorem gL_does_X5_pass : GoodIn wsL_does (wsV RL 21 RX5 yX5_pass wsX5_pass) := goodIn_app (goodIn_of _ (by decide +kernel)) ggL_does_X5_pass
set_option maxRecDepth 20000 in
theorem ggL_does_X5_cellIs : GoodIn wsL_does wsX5_cellIs := goodIn_ca (goodIn_ca (goodIn_r _ [189, 14, 20, 21, 10, 22, 23, 24, 25, 26, 27, 28, 29, 190, 191, 192, 61, 193, 86, 70, 71, 80, 166, 69, 160, 82, 83, 84, 85, 194, 195, 196, 197, 112, 198, 199, 78, 200, 91, 92, 93, 94, 95, 138, 139, 140, 141, 284, 285, 286, 287, 288, 289, 290, 291, 292, 293, 294, 295, 296, 297, 298, 299, 300, 301, 302, 303, 304, 305] (by decide +kernel) (by decide +kernel)) (goodIn_sub (fun _ h => List.mem_cons_of_mem _ (List.mem_append_left _ (List.mem_append_right _ h))) (by decide +kernel))) (goodIn_sub (fun _ h => List.mem_cons_of_mem _ (List.mem_append_right _ h)) (by decide +kernel))
set_option maxRecDepth 20000 in
theorem gL_does_X5_cellIs : GoodIn wsL_does (wsV RL 24 RX5 yX5_cellIs wsX5_cellIs) := goodIn_app (goodIn_of _ (by decide +kernel)) ggL_does_X5_cellIs
set_option maxRecDepth 20000 in
theorem ggL_does_X5_layer : GoodIn wsL_does wsX5_layer := goodIn_ca (goodIn_ca (goodIn_r _ [204, 14, 15, 20, 21, 10, 22, 23, 24, 25, 26, 27, 28, 29, 205, 103, 104, 45, 105, 47, 284, 285, 286, 287, 288, 289, 290, 291, 292, 293, 294, 295, 296, 297, 298, 299, 300, 301, 302, 303, 304, 305] (by decide +kernel) (by decide +kernel)) (goodIn_sub (fun _ h => List.mem_cons_of_mem _ (List.mem_append_left _ (List.mem_append_right _ h))) (by decide +kernel))) (goodIn_sub (fun _ h => List.mem_cons_of_mem _ (List.mem_append_right _ h)) (by decide +kernel))
set_option maxRecDepth 20000 in
theorem gL_does_X5_layer : GoodIn wsL_does (wsV RL 27 RX5 yX5_layer wsX5_layer) := goodIn_app (goodIn_of _ (by decide +kernel)) ggL_does_X5_layer
set_option maxRecDepth 20000 in
theorem ggL_does_X5_yearAt : GoodIn wsL_does wsX5_yearAt := goodIn_ca (goodIn_ca (goodIn_r _ [209, 28, 29, 14, 15, 20, 21, 10, 22, 23, 24, 210, 211, 212, 45, 213, 102, 103, 104, 105, 47, 284, 285, 286, 287, 288, 289, 290, 291, 292, 293, 294, 295, 296, 297, 298, 299, 300, 301, 302, 303, 304, 305] (by decide +kernel) (by decide +kernel)) (goodIn_sub (fun _ h => List.mem_cons_of_mem _ (List.mem_append_right _ h)) (by decide +kernel))) (goodIn_sub (fun _ h => List.mem_cons_of_mem _ (List.mem_append_left _ (List.mem_append_right _ h))) (by decide +kernel))
set_option maxRecDepth 20000 in
theorem gL_does_X5_yearAt : GoodIn wsL_does (wsV RL 30 RX5 yX5_yearAt wsX5_yearAt) := goodIn_app (goodIn_of _ (by decide +kernel)) ggL_does_X5_yearAt
set_option maxRecDepth 20000 in
theorem ggL_does_X5_common : GoodIn wsL_does wsX5_common := goodIn_ca (goodIn_r _ [217, 53, 218, 14, 15, 20, 21, 10, 22, 23, 24, 205, 103, 104, 45, 105, 47, 284, 285, 286, 287, 311, 312, 313, 314, 315, 316, 317, 288, 289, 290, 291, 292, 293, 294, 295, 296, 297, 298, 299, 300, 301, 302, 303, 304, 305] (by decide +kernel) (by decide +kernel)) (goodIn_sub (fun _ h => List.mem_cons_of_mem _ (List.mem_append_left _ (List.mem_append_right _ h))) (by decide +kernel))
set_option maxRecDepth 20000 in
theorem gL_does_X5_common : GoodIn wsL_does (wsV RL 33 RX5 yX5_common wsX5_common) := goodIn_app (goodIn_of _ (by decide +kernel)) ggL_does_X5_common
set_option maxRecDepth 20000 in
theorem ggL_does_X5_flood : GoodIn wsL_does wsX5_flood := goodIn_ca (goodIn_ca (goodIn_r _ [222, 23, 24, 53, 223, 224, 225, 226, 25, 26, 10, 27, 28, 29, 284, 285, 286, 287, 311, 312, 313, 314, 315, 316, 317] (by decide +kernel) (by decide +kernel)) (goodIn_sub (fun _ h => List.mem_cons_of_mem _ (List.mem_append_left _ (List.mem_append_right _ h))) (by decide +kernel))) (goodIn_sub (fun _ h => List.mem_cons_of_mem _ (List.mem_append_right _ h)) (by decide +kernel))
set_option maxRecDepth 20000 in
theorem gL_does_X5_flood : GoodIn wsL_does (wsV RL 36 RX5 yX5_flood wsX5_flood) := goodIn_app (goodIn_of _ (by decide +kernel)) ggL_does_X5_flood
set_option maxRecDepth 20000 in
theorem ggL_does_X5_front : GoodIn wsL_does wsX5_front := goodIn_ca (goodIn_r _ [230, 14, 39, 53, 231, 25, 26, 10, 27, 28, 29, 284, 285, 286, 287, 288, 289, 290, 291, 292, 293, 294, 295, 296, 297, 298, 299, 300, 301, 302, 303, 311, 312, 313, 314, 315, 316, 317] (by decide +kernel) (by decide +kernel)) (goodIn_sub (fun _ h => List.mem_cons_of_mem _ (List.mem_append_right _ h)) (by decide +kernel))
set_option maxRecDepth 20000 in
theorem gL_does_X5_front : GoodIn wsL_does (wsV RL 39 RX5 yX5_front wsX5_front) := goodIn_app (goodIn_of _ (by decide +kernel)) ggL_does_X5_front
set_option maxRecDepth 20000 in
theorem ggL_does_X5_total : GoodIn wsL_does wsX5_total := goodIn_ca (goodIn_r _ [235, 14, 15, 40, 236, 237, 238, 41, 25, 26, 10, 27, 28, 29, 239, 183, 184, 45, 185, 48, 240, 241, 242, 61, 243, 80, 284, 285, 286, 287, 288, 289, 290, 291, 292, 293, 294, 295, 296, 297, 298, 299, 300, 301, 302, 303, 306, 307, 308, 309, 310, 304, 305] (by decide +kernel) (by decide +kernel)) (goodIn_sub (fun _ h => List.mem_cons_of_mem _ (List.mem_append_right _ h)) (by decide +kernel))
set_option maxRecDepth 20000 in
theorem gL_does_X5_total : GoodIn wsL_does (wsV RL 42 RX5 yX5_total wsX5_total) := goodIn_app (goodIn_of _ (by decide +kernel)) ggL_does_X5_total
set_option maxRecDepth 20000 in
theorem ggL_does_X5_forecast : GoodIn wsL_does wsX5_forecast := goodIn_ca (goodIn_ca (goodIn_r _ [247, 12, 13, 248, 249, 250, 15, 39, 25, 26, 10, 27, 28, 29, 54, 55, 56, 57, 14, 251, 252, 253, 254, 255, 256, 257, 61, 258, 63, 95, 68, 72, 75, 70, 86, 259, 260, 261, 262, 160, 80, 166, 263, 264, 265, 45, 266, 48, 267, 47, 58, 59, 60, 62, 64, 65, 66, 67, 69, 71, 73, 74, 76, 77, 78, 79, 81, 82, 83, 84, 85, 87, 88, 89, 90, 91, 92, 93, 94, 96, 43, 44, 46, 97, 98, 99, 100, 101, 102, 103, 104, 105, 106, 107, 108, 109, 110, 111, 112, 113, 114, 115, 116, 117, 118, 119, 120, 121, 122, 123, 124, 125, 126, 127, 128, 129, 130, 131, 132, 133, 134, 135, 136, 137, 138, 139, 140, 141, 142, 143, 144, 145, 146, 147, 148, 149, 150, 151, 152, 153, 154, 155, 156, 157, 158, 159, 161, 162, 163, 164, 165, 239, 183, 184, 185, 268, 269, 270, 271, 272, 273, 274, 275, 284, 285, 286, 287, 318, 319, 320, 288, 289, 290, 291, 292, 293, 294, 295, 296, 297, 298, 299, 300, 301, 302, 303, 304, 305, 306, 307, 308, 309, 310] (by decide +kernel) (by decide +kernel)) (goodIn_sub (fun _ h => List.mem_cons_of_mem _ (List.mem_append_left _ (List.mem_append_left _ (List.mem_append_right _ h)))) (by decide +kernel))) (goodIn_sub (fun _ h => List.mem_cons_of_mem _ (List.mem_append_right _ h)) (by decide +kernel))
set_option maxRecDepth 20000 in
theorem gL_does_X5_forecast : GoodIn wsL_does (wsV RL 45 RX5 yX5_forecast wsX5_forecast) := goodIn_app (goodIn_of _ (by decide +kernel)) ggL_does_X5_forecast
set_option maxRecDepth 20000 in
theorem ggL_does_X5_miss : GoodIn wsL_does wsX5_miss := goodIn_ca (goodIn_r _ [279, 23, 24, 248, 249, 280, 14, 39, 281, 53, 282, 283, 199, 78, 200, 284, 285, 286, 287, 318, 319, 320, 288, 289, 290, 291, 292, 293, 294, 295, 296, 297, 298, 299, 300, 301, 302, 303, 311, 312, 313, 314, 315, 316, 317] (by decide +kernel) (by decide +kernel)) (goodIn_sub (fun _ h => List.mem_cons_of_mem _ (List.mem_append_left _ (List.mem_append_right _ h))) (by decide +kernel))
set_option maxRecDepth 20000 in
theorem gL_does_X5_miss : GoodIn wsL_does (wsV RL 48 RX5 yX5_miss wsX5_miss) := goodIn_app (goodIn_of _ (by decide +kernel)) ggL_does_X5_miss
theorem dL_does_0 : decode cL_does 0 = .ok (.iload_n 1, 1) := by decide +kernel
theorem dL_does_1 : decode cL_does 1 = .ok (.ifCond .ne 12, 3) := by decide +kernel
theorem dL_does_4 : decode cL_does 4 = .ok (.aload_n 0, 1) := by decide +kernel
theorem dL_does_5 : decode cL_does 5 = .ok (.iload_n 2, 1) := by decide +kernel
theorem dL_does_6 : decode cL_does 6 = .ok (.iload_n 3, 1) := by decide +kernel
theorem dL_does_7 : decode cL_does 7 = .ok (.invokevirtual 8, 3) := by decide +kernel
theorem dL_does_10 : decode cL_does 10 = .ok (.goto 163, 3) := by decide +kernel
theorem dL_does_13 : decode cL_does 13 = .ok (.iload_n 1, 1) := by decide +kernel
theorem dL_does_14 : decode cL_does 14 = .ok (.iconst 1, 1) := by decide +kernel
theorem dL_does_15 : decode cL_does 15 = .ok (.if_icmp .ne 11, 3) := by decide +kernel
theorem dL_does_18 : decode cL_does 18 = .ok (.aload_n 0, 1) := by decide +kernel
theorem dL_does_19 : decode cL_does 19 = .ok (.iload_n 2, 1) := by decide +kernel
theorem dL_does_20 : decode cL_does 20 = .ok (.invokevirtual 14, 3) := by decide +kernel
theorem dL_does_23 : decode cL_does 23 = .ok (.goto 150, 3) := by decide +kernel
theorem dL_does_26 : decode cL_does 26 = .ok (.iload_n 1, 1) := by decide +kernel
theorem dL_does_27 : decode cL_does 27 = .ok (.iconst 2, 1) := by decide +kernel
theorem dL_does_28 : decode cL_does 28 = .ok (.if_icmp .ne 12, 3) := by decide +kernel
theorem dL_does_31 : decode cL_does 31 = .ok (.aload_n 0, 1) := by decide +kernel
theorem dL_does_32 : decode cL_does 32 = .ok (.iload_n 2, 1) := by decide +kernel
theorem dL_does_33 : decode cL_does 33 = .ok (.iload_n 3, 1) := by decide +kernel
theorem dL_does_34 : decode cL_does 34 = .ok (.invokevirtual 18, 3) := by decide +kernel
theorem dL_does_37 : decode cL_does 37 = .ok (.goto 136, 3) := by decide +kernel
theorem dL_does_40 : decode cL_does 40 = .ok (.iload_n 1, 1) := by decide +kernel
theorem dL_does_41 : decode cL_does 41 = .ok (.iconst 3, 1) := by decide +kernel
theorem dL_does_42 : decode cL_does 42 = .ok (.if_icmp .ne 11, 3) := by decide +kernel
theorem dL_does_45 : decode cL_does 45 = .ok (.aload_n 0, 1) := by decide +kernel
theorem dL_does_46 : decode cL_does 46 = .ok (.iload_n 2, 1) := by decide +kernel
theorem dL_does_47 : decode cL_does 47 = .ok (.invokevirtual 21, 3) := by decide +kernel
theorem dL_does_50 : decode cL_does 50 = .ok (.goto 123, 3) := by decide +kernel
theorem dL_does_53 : decode cL_does 53 = .ok (.iload_n 1, 1) := by decide +kernel
theorem dL_does_54 : decode cL_does 54 = .ok (.iconst 4, 1) := by decide +kernel
theorem dL_does_55 : decode cL_does 55 = .ok (.if_icmp .ne 12, 3) := by decide +kernel
theorem dL_does_58 : decode cL_does 58 = .ok (.aload_n 0, 1) := by decide +kernel
theorem dL_does_59 : decode cL_does 59 = .ok (.iload_n 2, 1) := by decide +kernel
theorem dL_does_60 : decode cL_does 60 = .ok (.iload_n 3, 1) := by decide +kernel
theorem dL_does_61 : decode cL_does 61 = .ok (.invokevirtual 24, 3) := by decide +kernel
theorem dL_does_64 : decode cL_does 64 = .ok (.goto 109, 3) := by decide +kernel
theorem dL_does_67 : decode cL_does 67 = .ok (.iload_n 1, 1) := by decide +kernel
theorem dL_does_68 : decode cL_does 68 = .ok (.iconst 5, 1) := by decide +kernel
theorem dL_does_69 : decode cL_does 69 = .ok (.if_icmp .ne 12, 3) := by decide +kernel
theorem dL_does_72 : decode cL_does 72 = .ok (.aload_n 0, 1) := by decide +kernel
theorem dL_does_73 : decode cL_does 73 = .ok (.iload_n 2, 1) := by decide +kernel
theorem dL_does_74 : decode cL_does 74 = .ok (.iload_n 3, 1) := by decide +kernel
theorem dL_does_75 : decode cL_does 75 = .ok (.invokevirtual 27, 3) := by decide +kernel
theorem dL_does_78 : decode cL_does 78 = .ok (.goto 95, 3) := by decide +kernel
theorem dL_does_81 : decode cL_does 81 = .ok (.iload_n 1, 1) := by decide +kernel
theorem dL_does_82 : decode cL_does 82 = .ok (.bipush 6, 2) := by decide +kernel
theorem dL_does_84 : decode cL_does 84 = .ok (.if_icmp .ne 12, 3) := by decide +kernel
theorem dL_does_87 : decode cL_does 87 = .ok (.aload_n 0, 1) := by decide +kernel
theorem dL_does_88 : decode cL_does 88 = .ok (.iload_n 2, 1) := by decide +kernel
theorem dL_does_89 : decode cL_does 89 = .ok (.iload_n 3, 1) := by decide +kernel
theorem dL_does_90 : decode cL_does 90 = .ok (.invokevirtual 30, 3) := by decide +kernel
theorem dL_does_93 : decode cL_does 93 = .ok (.goto 80, 3) := by decide +kernel
theorem dL_does_96 : decode cL_does 96 = .ok (.iload_n 1, 1) := by decide +kernel
theorem dL_does_97 : decode cL_does 97 = .ok (.bipush 7, 2) := by decide +kernel
theorem dL_does_99 : decode cL_does 99 = .ok (.if_icmp .ne 12, 3) := by decide +kernel
theorem dL_does_102 : decode cL_does 102 = .ok (.aload_n 0, 1) := by decide +kernel
theorem dL_does_103 : decode cL_does 103 = .ok (.iload_n 2, 1) := by decide +kernel
theorem dL_does_104 : decode cL_does 104 = .ok (.iload_n 3, 1) := by decide +kernel
theorem dL_does_105 : decode cL_does 105 = .ok (.invokevirtual 33, 3) := by decide +kernel
theorem dL_does_108 : decode cL_does 108 = .ok (.goto 65, 3) := by decide +kernel
theorem dL_does_111 : decode cL_does 111 = .ok (.iload_n 1, 1) := by decide +kernel
theorem dL_does_112 : decode cL_does 112 = .ok (.bipush 8, 2) := by decide +kernel
theorem dL_does_114 : decode cL_does 114 = .ok (.if_icmp .ne 12, 3) := by decide +kernel
theorem dL_does_117 : decode cL_does 117 = .ok (.aload_n 0, 1) := by decide +kernel
theorem dL_does_118 : decode cL_does 118 = .ok (.iload_n 2, 1) := by decide +kernel
theorem dL_does_119 : decode cL_does 119 = .ok (.iload_n 3, 1) := by decide +kernel
theorem dL_does_120 : decode cL_does 120 = .ok (.invokevirtual 36, 3) := by decide +kernel
theorem dL_does_123 : decode cL_does 123 = .ok (.goto 50, 3) := by decide +kernel
theorem dL_does_126 : decode cL_does 126 = .ok (.iload_n 1, 1) := by decide +kernel
theorem dL_does_127 : decode cL_does 127 = .ok (.bipush 9, 2) := by decide +kernel
theorem dL_does_129 : decode cL_does 129 = .ok (.if_icmp .ne 11, 3) := by decide +kernel
theorem dL_does_132 : decode cL_does 132 = .ok (.aload_n 0, 1) := by decide +kernel
theorem dL_does_133 : decode cL_does 133 = .ok (.iload_n 2, 1) := by decide +kernel
theorem dL_does_134 : decode cL_does 134 = .ok (.invokevirtual 39, 3) := by decide +kernel
theorem dL_does_137 : decode cL_does 137 = .ok (.goto 36, 3) := by decide +kernel
theorem dL_does_140 : decode cL_does 140 = .ok (.iload_n 1, 1) := by decide +kernel
theorem dL_does_141 : decode cL_does 141 = .ok (.bipush 10, 2) := by decide +kernel
theorem dL_does_143 : decode cL_does 143 = .ok (.if_icmp .ne 11, 3) := by decide +kernel
theorem dL_does_146 : decode cL_does 146 = .ok (.aload_n 0, 1) := by decide +kernel
theorem dL_does_147 : decode cL_does 147 = .ok (.iload_n 2, 1) := by decide +kernel
theorem dL_does_148 : decode cL_does 148 = .ok (.invokevirtual 42, 3) := by decide +kernel
theorem dL_does_151 : decode cL_does 151 = .ok (.goto 22, 3) := by decide +kernel
theorem dL_does_154 : decode cL_does 154 = .ok (.iload_n 1, 1) := by decide +kernel
theorem dL_does_155 : decode cL_does 155 = .ok (.bipush 11, 2) := by decide +kernel
theorem dL_does_157 : decode cL_does 157 = .ok (.if_icmp .ne 11, 3) := by decide +kernel
theorem dL_does_160 : decode cL_does 160 = .ok (.aload_n 0, 1) := by decide +kernel
theorem dL_does_161 : decode cL_does 161 = .ok (.iload_n 2, 1) := by decide +kernel
theorem dL_does_162 : decode cL_does 162 = .ok (.invokevirtual 45, 3) := by decide +kernel
theorem dL_does_165 : decode cL_does 165 = .ok (.goto 8, 3) := by decide +kernel
theorem dL_does_168 : decode cL_does 168 = .ok (.aload_n 0, 1) := by decide +kernel
theorem dL_does_169 : decode cL_does 169 = .ok (.iload_n 2, 1) := by decide +kernel
theorem dL_does_170 : decode cL_does 170 = .ok (.invokevirtual 48, 3) := by decide +kernel
theorem dL_does_173 : decode cL_does 173 = .ok (.ireturn, 1) := by decide +kernel
theorem dL_does_174 : decode cL_does 174 = .ok (.astore 4, 2) := by decide +kernel
theorem dL_does_176 : decode cL_does 176 = .ok (.ldc 53, 2) := by decide +kernel
theorem dL_does_178 : decode cL_does 178 = .ok (.ireturn, 1) := by decide +kernel
theorem dL_does_179 : decode cL_does 179 = .ok (.astore 4, 2) := by decide +kernel
theorem dL_does_181 : decode cL_does 181 = .ok (.ldc 56, 2) := by decide +kernel
theorem dL_does_183 : decode cL_does 183 = .ok (.ireturn, 1) := by decide +kernel
theorem dL_does_184 : decode cL_does 184 = .ok (.astore 4, 2) := by decide +kernel
theorem dL_does_186 : decode cL_does 186 = .ok (.ldc 59, 2) := by decide +kernel
theorem dL_does_188 : decode cL_does 188 = .ok (.ireturn, 1) := by decide +kernel
set_option maxRecDepth 20000 in
theorem ggL_would_X5_would : GoodIn wsL_would wsX5_would := goodIn_ca (goodIn_ca (goodIn_ca (goodIn_r _ [11, 12, 13, 14, 10, 15, 16, 17, 18, 19, 20, 21, 22, 23, 24, 25, 26, 27, 28, 29, 30, 31, 32, 33, 34, 35, 36, 37, 38, 39, 40, 41, 42, 43, 44, 45, 46, 47, 48, 49, 50, 51, 52, 53, 54, 55, 56, 57, 58, 59, 60, 61, 62, 63, 64, 65, 66, 67, 68, 69, 70, 71, 72, 73, 74, 75, 76, 77, 78, 79, 80, 81, 82, 83, 84, 85, 86, 87, 88, 89, 90, 91, 92, 93, 94, 95, 96, 97, 98, 99, 100, 101, 102, 103, 104, 105, 106, 107, 108, 109, 110, 111, 112, 113, 114, 115, 116, 117, 118, 119, 120, 121, 122, 123, 124, 125, 126, 127, 128, 129, 130, 131, 132, 133, 134, 135, 136, 137, 138, 139, 140, 141, 142, 143, 144, 145, 146, 147, 148, 149, 150, 151, 152, 153, 154, 155, 156, 157, 158, 159, 160, 161, 162, 163, 164, 165, 166, 167, 168, 169, 170, 171, 172, 173, 174, 175, 176, 177, 178, 179, 180, 181, 182, 183, 184, 185, 186, 187, 188, 189, 190, 191, 192, 193, 194, 195, 196, 197, 198, 199, 200] (by decide +kernel) (by decide +kernel)) (goodIn_sub (fun _ h => List.mem_cons_of_mem _ (List.mem_append_left _ (List.mem_append_left _ (List.mem_append_right _ h)))) (by decide +kernel))) (goodIn_sub (fun _ h => List.mem_cons_of_mem _ (List.mem_append_left _ (List.mem_append_right _ h))) (by decide +kernel))) (goodIn_sub (fun _ h => List.mem_cons_of_mem _ (List.mem_append_right _ h)) (by decide +kernel))
set_option maxRecDepth 20000 in
theorem gL_would_X5_would : GoodIn wsL_would (wsV RL 60 RX5 yX5_would wsX5_would) := goodIn_app (goodIn_of _ (by decide +kernel)) ggL_would_X5_would
theorem dL_would_0 : decode cL_would 0 = .ok (.aload_n 0, 1) := by decide +kernel
theorem dL_would_1 : decode cL_would 1 = .ok (.iload_n 1, 1) := by decide +kernel
theorem dL_would_2 : decode cL_would 2 = .ok (.iload_n 2, 1) := by decide +kernel
theorem dL_would_3 : decode cL_would 3 = .ok (.iload_n 3, 1) := by decide +kernel
theorem dL_would_4 : decode cL_would 4 = .ok (.invokevirtual 60, 3) := by decide +kernel
theorem dL_would_7 : decode cL_would 7 = .ok (.ireturn, 1) := by decide +kernel
theorem dL_would_8 : decode cL_would 8 = .ok (.astore 4, 2) := by decide +kernel
theorem dL_would_10 : decode cL_would 10 = .ok (.ldc 53, 2) := by decide +kernel
theorem dL_would_12 : decode cL_would 12 = .ok (.ireturn, 1) := by decide +kernel
theorem dL_would_13 : decode cL_would 13 = .ok (.astore 4, 2) := by decide +kernel
theorem dL_would_15 : decode cL_would 15 = .ok (.ldc 56, 2) := by decide +kernel
theorem dL_would_17 : decode cL_would 17 = .ok (.ireturn, 1) := by decide +kernel
theorem dL_would_18 : decode cL_would 18 = .ok (.astore 4, 2) := by decide +kernel
theorem dL_would_20 : decode cL_would 20 = .ok (.ldc 59, 2) := by decide +kernel
theorem dL_would_22 : decode cL_would 22 = .ok (.ireturn, 1) := by decide +kernel
set_option maxRecDepth 20000 in
theorem ggL_climate_X5_climate : GoodIn wsL_climate wsX5_climate := goodIn_ca (goodIn_r _ [6, 7, 8, 9, 10, 11, 12, 5, 13, 14, 15, 16, 17, 18, 19, 20, 21, 22, 23, 24, 25, 26, 27, 28, 29, 30, 31, 32, 33, 34, 35] (by decide +kernel) (by decide +kernel)) (goodIn_sub (fun _ h => List.mem_cons_of_mem _ (List.mem_append_right _ h)) (by decide +kernel))
set_option maxRecDepth 20000 in
theorem gL_climate_X5_climate : GoodIn wsL_climate (wsV RL 64 RX5 yX5_climate wsX5_climate) := goodIn_app (goodIn_of _ (by decide +kernel)) ggL_climate_X5_climate
theorem dL_climate_0 : decode cL_climate 0 = .ok (.aload_n 0, 1) := by decide +kernel
theorem dL_climate_1 : decode cL_climate 1 = .ok (.iload_n 1, 1) := by decide +kernel
theorem dL_climate_2 : decode cL_climate 2 = .ok (.iload_n 2, 1) := by decide +kernel
theorem dL_climate_3 : decode cL_climate 3 = .ok (.iload_n 3, 1) := by decide +kernel
theorem dL_climate_4 : decode cL_climate 4 = .ok (.invokevirtual 64, 3) := by decide +kernel
theorem dL_climate_7 : decode cL_climate 7 = .ok (.goto 7, 3) := by decide +kernel
theorem dL_climate_10 : decode cL_climate 10 = .ok (.astore 4, 2) := by decide +kernel
theorem dL_climate_12 : decode cL_climate 12 = .ok (.iconst 0, 1) := by decide +kernel
theorem dL_climate_13 : decode cL_climate 13 = .ok (.ireturn, 1) := by decide +kernel
theorem dL_climate_14 : decode cL_climate 14 = .ok (.iconst 1, 1) := by decide +kernel
theorem dL_climate_15 : decode cL_climate 15 = .ok (.ireturn, 1) := by decide +kernel
set_option maxRecDepth 20000 in
theorem ggL_areAlike_X5_floods : GoodIn wsL_areAlike wsX5_floods := goodIn_r _ [5, 6, 7, 297, 298, 299, 300, 301, 302, 303, 304, 305, 306, 307] (by decide +kernel) (by decide +kernel)
set_option maxRecDepth 20000 in
theorem gL_areAlike_X5_floods : GoodIn wsL_areAlike (wsV RL 68 RX5 yX5_floods wsX5_floods) := goodIn_app (goodIn_of _ (by decide +kernel)) ggL_areAlike_X5_floods
set_option maxRecDepth 20000 in
theorem ggL_areAlike_X5_iceAnew : GoodIn wsL_areAlike wsX5_iceAnew := goodIn_r _ [11, 12, 13, 14, 15, 16, 17, 297, 298, 299, 300, 308, 309, 310, 311, 312, 313, 314, 315, 316, 317, 318, 319, 320, 321, 322, 323, 324, 325, 326, 327, 328] (by decide +kernel) (by decide +kernel)
set_option maxRecDepth 20000 in
theorem gL_areAlike_X5_iceAnew : GoodIn wsL_areAlike (wsV RL 72 RX5 yX5_iceAnew wsX5_iceAnew) := goodIn_app (goodIn_of _ (by decide +kernel)) ggL_areAlike_X5_iceAnew
set_option maxRecDepth 20000 in
theorem ggL_areAlike_L_does : GoodIn wsL_areAlike wsL_does := goodIn_ca (goodIn_ca (goodIn_ca (goodIn_r _ [21, 22, 23, 24, 25, 26, 27, 28, 29, 30, 4, 31, 32, 33, 12, 34, 35, 36, 37, 38, 39, 40, 41, 42, 43, 44, 45, 46, 47, 48, 49, 50, 51, 52, 53, 54, 55, 56, 57, 58, 13, 15, 59, 60, 61, 62, 63, 64, 65, 66, 67, 68, 69, 6, 70, 71, 72, 73, 74, 75, 76, 77, 78, 79, 80, 81, 82, 83, 84, 85, 86, 87, 88, 89, 90, 91, 92, 93, 94, 95, 96, 97, 98, 99, 100, 101, 102, 103, 104, 105, 106, 107, 108, 109, 110, 111, 112, 113, 114, 115, 116, 117, 118, 119, 120, 121, 122, 123, 124, 125, 126, 127, 128, 129, 130, 131, 132, 133, 134, 135, 136, 137, 138, 139, 140, 141, 142, 143, 144, 145, 146, 147, 148, 149, 150, 151, 152, 153, 154, 155, 156, 157, 158, 159, 160, 161, 162, 163, 164, 165, 166, 167, 168, 169, 170, 171, 172, 173, 174, 175, 176, 177, 178, 179, 180, 181, 182, 183, 184, 185, 186, 187, 188, 189, 190, 191, 192, 193, 194, 195, 196, 197, 198, 199, 200, 201, 202, 203, 204, 205, 206, 207, 208, 209, 210, 211, 212, 213, 214, 215, 216, 217, 218, 219, 220, 221, 222, 223, 224, 225, 226, 227, 228, 229, 230, 231, 232, 233, 234, 235, 236, 237, 238, 7, 239, 240, 241, 242, 243, 244, 245, 246, 247, 248, 249, 250, 251, 17, 14, 252, 253, 254, 255, 256, 257, 258, 259, 260, 261, 262, 263, 264, 265, 266, 267, 268, 269, 270, 271, 272, 273, 274, 275, 276, 277, 278, 279, 280, 281, 282, 283, 284, 285, 286, 287, 288, 289, 290, 291, 292, 293, 294, 295, 296, 297, 298, 299, 300, 308, 309, 310, 311, 312, 313, 314, 315, 316, 317, 318, 319, 320, 321, 322, 323, 329, 330, 324, 325, 326, 327, 328, 301, 302, 303, 304, 305, 306, 307, 331, 332, 333] (by decide +kernel) (by decide +kernel)) (goodIn_sub (fun _ h => List.mem_cons_of_mem _ (List.mem_append_left _ (List.mem_append_left _ (List.mem_append_right _ h)))) (by decide +kernel))) (goodIn_sub (fun _ h => List.mem_cons_of_mem _ (List.mem_append_left _ (List.mem_append_right _ h))) (by decide +kernel))) (goodIn_sub (fun _ h => List.mem_cons_of_mem _ (List.mem_append_right _ h)) (by decide +kernel))
set_option maxRecDepth 20000 in
theorem gL_areAlike_L_does : GoodIn wsL_areAlike (va_wsS RL 75 yL_does wsL_does) := goodIn_app (goodIn_of _ (by decide +kernel)) ggL_areAlike_L_does
theorem dL_areAlike_0 : decode cL_areAlike 0 = .ok (.aload_n 0, 1) := by decide +kernel
theorem dL_areAlike_1 : decode cL_areAlike 1 = .ok (.invokevirtual 68, 3) := by decide +kernel
theorem dL_areAlike_4 : decode cL_areAlike 4 = .ok (.aload_n 1, 1) := by decide +kernel
theorem dL_areAlike_5 : decode cL_areAlike 5 = .ok (.invokevirtual 68, 3) := by decide +kernel
theorem dL_areAlike_8 : decode cL_areAlike 8 = .ok (.if_icmp .ne 18, 3) := by decide +kernel
theorem dL_areAlike_11 : decode cL_areAlike 11 = .ok (.aload_n 0, 1) := by decide +kernel
theorem dL_areAlike_12 : decode cL_areAlike 12 = .ok (.invokevirtual 72, 3) := by decide +kernel
theorem dL_areAlike_15 : decode cL_areAlike 15 = .ok (.aload_n 1, 1) := by decide +kernel
theorem dL_areAlike_16 : decode cL_areAlike 16 = .ok (.invokevirtual 72, 3) := by decide +kernel
theorem dL_areAlike_19 : decode cL_areAlike 19 = .ok (.if_icmp .ne 7, 3) := by decide +kernel
theorem dL_areAlike_22 : decode cL_areAlike 22 = .ok (.iconst 1, 1) := by decide +kernel
theorem dL_areAlike_23 : decode cL_areAlike 23 = .ok (.goto 4, 3) := by decide +kernel
theorem dL_areAlike_26 : decode cL_areAlike 26 = .ok (.iconst 0, 1) := by decide +kernel
theorem dL_areAlike_27 : decode cL_areAlike 27 = .ok (.istore 4, 2) := by decide +kernel
theorem dL_areAlike_29 : decode cL_areAlike 29 = .ok (.iconst 0, 1) := by decide +kernel
theorem dL_areAlike_30 : decode cL_areAlike 30 = .ok (.istore 5, 2) := by decide +kernel
theorem dL_areAlike_32 : decode cL_areAlike 32 = .ok (.iload 5, 2) := by decide +kernel
theorem dL_areAlike_34 : decode cL_areAlike 34 = .ok (.bipush 12, 2) := by decide +kernel
theorem dL_areAlike_36 : decode cL_areAlike 36 = .ok (.if_icmp .ge 63, 3) := by decide +kernel
theorem dL_areAlike_39 : decode cL_areAlike 39 = .ok (.iload 4, 2) := by decide +kernel
theorem dL_areAlike_41 : decode cL_areAlike 41 = .ok (.ifCond .eq 58, 3) := by decide +kernel
theorem dL_areAlike_44 : decode cL_areAlike 44 = .ok (.iconst 0, 1) := by decide +kernel
theorem dL_areAlike_45 : decode cL_areAlike 45 = .ok (.istore 6, 2) := by decide +kernel
theorem dL_areAlike_47 : decode cL_areAlike 47 = .ok (.iload 6, 2) := by decide +kernel
theorem dL_areAlike_49 : decode cL_areAlike 49 = .ok (.bipush 10, 2) := by decide +kernel
theorem dL_areAlike_51 : decode cL_areAlike 51 = .ok (.if_icmp .ge 42, 3) := by decide +kernel
theorem dL_areAlike_54 : decode cL_areAlike 54 = .ok (.iload 4, 2) := by decide +kernel
theorem dL_areAlike_56 : decode cL_areAlike 56 = .ok (.ifCond .eq 37, 3) := by decide +kernel
theorem dL_areAlike_59 : decode cL_areAlike 59 = .ok (.aload_n 0, 1) := by decide +kernel
theorem dL_areAlike_60 : decode cL_areAlike 60 = .ok (.iconst 4, 1) := by decide +kernel
theorem dL_areAlike_61 : decode cL_areAlike 61 = .ok (.iload 5, 2) := by decide +kernel
theorem dL_areAlike_63 : decode cL_areAlike 63 = .ok (.iload 6, 2) := by decide +kernel
theorem dL_areAlike_65 : decode cL_areAlike 65 = .ok (.invokestatic 75, 3) := by decide +kernel
theorem dL_areAlike_68 : decode cL_areAlike 68 = .ok (.aload_n 1, 1) := by decide +kernel
theorem dL_areAlike_69 : decode cL_areAlike 69 = .ok (.iconst 4, 1) := by decide +kernel
theorem dL_areAlike_70 : decode cL_areAlike 70 = .ok (.iload 5, 2) := by decide +kernel
theorem dL_areAlike_72 : decode cL_areAlike 72 = .ok (.iload 6, 2) := by decide +kernel
theorem dL_areAlike_74 : decode cL_areAlike 74 = .ok (.invokestatic 75, 3) := by decide +kernel
theorem dL_areAlike_77 : decode cL_areAlike 77 = .ok (.if_icmp .ne 7, 3) := by decide +kernel
theorem dL_areAlike_80 : decode cL_areAlike 80 = .ok (.iconst 1, 1) := by decide +kernel
theorem dL_areAlike_81 : decode cL_areAlike 81 = .ok (.goto 4, 3) := by decide +kernel
theorem dL_areAlike_84 : decode cL_areAlike 84 = .ok (.iconst 0, 1) := by decide +kernel
theorem dL_areAlike_85 : decode cL_areAlike 85 = .ok (.istore 4, 2) := by decide +kernel
theorem dL_areAlike_87 : decode cL_areAlike 87 = .ok (.iinc 6 1, 3) := by decide +kernel
theorem dL_areAlike_90 : decode cL_areAlike 90 = .ok (.goto (-43), 3) := by decide +kernel
theorem dL_areAlike_93 : decode cL_areAlike 93 = .ok (.iinc 5 1, 3) := by decide +kernel
theorem dL_areAlike_96 : decode cL_areAlike 96 = .ok (.goto (-64), 3) := by decide +kernel
theorem dL_areAlike_99 : decode cL_areAlike 99 = .ok (.iconst 0, 1) := by decide +kernel
theorem dL_areAlike_100 : decode cL_areAlike 100 = .ok (.istore 5, 2) := by decide +kernel
theorem dL_areAlike_102 : decode cL_areAlike 102 = .ok (.iload 5, 2) := by decide +kernel
theorem dL_areAlike_104 : decode cL_areAlike 104 = .ok (.bipush 6, 2) := by decide +kernel
theorem dL_areAlike_106 : decode cL_areAlike 106 = .ok (.if_icmp .ge 42, 3) := by decide +kernel
theorem dL_areAlike_109 : decode cL_areAlike 109 = .ok (.iload 4, 2) := by decide +kernel
theorem dL_areAlike_111 : decode cL_areAlike 111 = .ok (.ifCond .eq 37, 3) := by decide +kernel
theorem dL_areAlike_114 : decode cL_areAlike 114 = .ok (.aload_n 0, 1) := by decide +kernel
theorem dL_areAlike_115 : decode cL_areAlike 115 = .ok (.bipush 10, 2) := by decide +kernel
theorem dL_areAlike_117 : decode cL_areAlike 117 = .ok (.iload 5, 2) := by decide +kernel
theorem dL_areAlike_119 : decode cL_areAlike 119 = .ok (.iconst 0, 1) := by decide +kernel
theorem dL_areAlike_120 : decode cL_areAlike 120 = .ok (.invokestatic 75, 3) := by decide +kernel
theorem dL_areAlike_123 : decode cL_areAlike 123 = .ok (.aload_n 1, 1) := by decide +kernel
theorem dL_areAlike_124 : decode cL_areAlike 124 = .ok (.bipush 10, 2) := by decide +kernel
theorem dL_areAlike_126 : decode cL_areAlike 126 = .ok (.iload 5, 2) := by decide +kernel
theorem dL_areAlike_128 : decode cL_areAlike 128 = .ok (.iconst 0, 1) := by decide +kernel
theorem dL_areAlike_129 : decode cL_areAlike 129 = .ok (.invokestatic 75, 3) := by decide +kernel
theorem dL_areAlike_132 : decode cL_areAlike 132 = .ok (.if_icmp .ne 7, 3) := by decide +kernel
theorem dL_areAlike_135 : decode cL_areAlike 135 = .ok (.iconst 1, 1) := by decide +kernel
theorem dL_areAlike_136 : decode cL_areAlike 136 = .ok (.goto 4, 3) := by decide +kernel
theorem dL_areAlike_139 : decode cL_areAlike 139 = .ok (.iconst 0, 1) := by decide +kernel
theorem dL_areAlike_140 : decode cL_areAlike 140 = .ok (.istore 4, 2) := by decide +kernel
theorem dL_areAlike_142 : decode cL_areAlike 142 = .ok (.iinc 5 1, 3) := by decide +kernel
theorem dL_areAlike_145 : decode cL_areAlike 145 = .ok (.goto (-43), 3) := by decide +kernel
theorem dL_areAlike_148 : decode cL_areAlike 148 = .ok (.iconst 0, 1) := by decide +kernel
theorem dL_areAlike_149 : decode cL_areAlike 149 = .ok (.istore 5, 2) := by decide +kernel
theorem dL_areAlike_151 : decode cL_areAlike 151 = .ok (.iload 5, 2) := by decide +kernel
theorem dL_areAlike_153 : decode cL_areAlike 153 = .ok (.iload_n 2, 1) := by decide +kernel
theorem dL_areAlike_154 : decode cL_areAlike 154 = .ok (.if_icmp .gt 67, 3) := by decide +kernel
theorem dL_areAlike_157 : decode cL_areAlike 157 = .ok (.iload 4, 2) := by decide +kernel
theorem dL_areAlike_159 : decode cL_areAlike 159 = .ok (.ifCond .eq 62, 3) := by decide +kernel
theorem dL_areAlike_162 : decode cL_areAlike 162 = .ok (.aload_n 0, 1) := by decide +kernel
theorem dL_areAlike_163 : decode cL_areAlike 163 = .ok (.iconst 5, 1) := by decide +kernel
theorem dL_areAlike_164 : decode cL_areAlike 164 = .ok (.iload_n 3, 1) := by decide +kernel
theorem dL_areAlike_165 : decode cL_areAlike 165 = .ok (.bipush 12, 2) := by decide +kernel
theorem dL_areAlike_167 : decode cL_areAlike 167 = .ok (.irem, 1) := by decide +kernel
theorem dL_areAlike_168 : decode cL_areAlike 168 = .ok (.iload 5, 2) := by decide +kernel
theorem dL_areAlike_170 : decode cL_areAlike 170 = .ok (.invokestatic 75, 3) := by decide +kernel
theorem dL_areAlike_173 : decode cL_areAlike 173 = .ok (.aload_n 1, 1) := by decide +kernel
theorem dL_areAlike_174 : decode cL_areAlike 174 = .ok (.iconst 5, 1) := by decide +kernel
theorem dL_areAlike_175 : decode cL_areAlike 175 = .ok (.iload_n 3, 1) := by decide +kernel
theorem dL_areAlike_176 : decode cL_areAlike 176 = .ok (.bipush 12, 2) := by decide +kernel
theorem dL_areAlike_178 : decode cL_areAlike 178 = .ok (.irem, 1) := by decide +kernel
theorem dL_areAlike_179 : decode cL_areAlike 179 = .ok (.iload 5, 2) := by decide +kernel
theorem dL_areAlike_181 : decode cL_areAlike 181 = .ok (.invokestatic 75, 3) := by decide +kernel
theorem dL_areAlike_184 : decode cL_areAlike 184 = .ok (.if_icmp .ne 28, 3) := by decide +kernel
theorem dL_areAlike_187 : decode cL_areAlike 187 = .ok (.aload_n 0, 1) := by decide +kernel
theorem dL_areAlike_188 : decode cL_areAlike 188 = .ok (.bipush 9, 2) := by decide +kernel
theorem dL_areAlike_190 : decode cL_areAlike 190 = .ok (.iload 5, 2) := by decide +kernel
theorem dL_areAlike_192 : decode cL_areAlike 192 = .ok (.iconst 0, 1) := by decide +kernel
theorem dL_areAlike_193 : decode cL_areAlike 193 = .ok (.invokestatic 75, 3) := by decide +kernel
theorem dL_areAlike_196 : decode cL_areAlike 196 = .ok (.aload_n 1, 1) := by decide +kernel
theorem dL_areAlike_197 : decode cL_areAlike 197 = .ok (.bipush 9, 2) := by decide +kernel
theorem dL_areAlike_199 : decode cL_areAlike 199 = .ok (.iload 5, 2) := by decide +kernel
theorem dL_areAlike_201 : decode cL_areAlike 201 = .ok (.iconst 0, 1) := by decide +kernel
theorem dL_areAlike_202 : decode cL_areAlike 202 = .ok (.invokestatic 75, 3) := by decide +kernel
theorem dL_areAlike_205 : decode cL_areAlike 205 = .ok (.if_icmp .ne 7, 3) := by decide +kernel
theorem dL_areAlike_208 : decode cL_areAlike 208 = .ok (.iconst 1, 1) := by decide +kernel
theorem dL_areAlike_209 : decode cL_areAlike 209 = .ok (.goto 4, 3) := by decide +kernel
theorem dL_areAlike_212 : decode cL_areAlike 212 = .ok (.iconst 0, 1) := by decide +kernel
theorem dL_areAlike_213 : decode cL_areAlike 213 = .ok (.istore 4, 2) := by decide +kernel
theorem dL_areAlike_215 : decode cL_areAlike 215 = .ok (.iinc 5 1, 3) := by decide +kernel
theorem dL_areAlike_218 : decode cL_areAlike 218 = .ok (.goto (-67), 3) := by decide +kernel
theorem dL_areAlike_221 : decode cL_areAlike 221 = .ok (.aload_n 0, 1) := by decide +kernel
theorem dL_areAlike_222 : decode cL_areAlike 222 = .ok (.invokevirtual 68, 3) := by decide +kernel
theorem dL_areAlike_225 : decode cL_areAlike 225 = .ok (.iconst 1, 1) := by decide +kernel
theorem dL_areAlike_226 : decode cL_areAlike 226 = .ok (.isub, 1) := by decide +kernel
theorem dL_areAlike_227 : decode cL_areAlike 227 = .ok (.istore 5, 2) := by decide +kernel
theorem dL_areAlike_229 : decode cL_areAlike 229 = .ok (.iload 5, 2) := by decide +kernel
theorem dL_areAlike_231 : decode cL_areAlike 231 = .ok (.ifCond .lt 95, 3) := by decide +kernel
theorem dL_areAlike_234 : decode cL_areAlike 234 = .ok (.iload 5, 2) := by decide +kernel
theorem dL_areAlike_236 : decode cL_areAlike 236 = .ok (.aload_n 0, 1) := by decide +kernel
theorem dL_areAlike_237 : decode cL_areAlike 237 = .ok (.invokevirtual 68, 3) := by decide +kernel
theorem dL_areAlike_240 : decode cL_areAlike 240 = .ok (.iconst 4, 1) := by decide +kernel
theorem dL_areAlike_241 : decode cL_areAlike 241 = .ok (.isub, 1) := by decide +kernel
theorem dL_areAlike_242 : decode cL_areAlike 242 = .ok (.if_icmp .le 84, 3) := by decide +kernel
theorem dL_areAlike_245 : decode cL_areAlike 245 = .ok (.iload 4, 2) := by decide +kernel
theorem dL_areAlike_247 : decode cL_areAlike 247 = .ok (.ifCond .eq 79, 3) := by decide +kernel
theorem dL_areAlike_250 : decode cL_areAlike 250 = .ok (.aload_n 0, 1) := by decide +kernel
theorem dL_areAlike_251 : decode cL_areAlike 251 = .ok (.bipush 8, 2) := by decide +kernel
theorem dL_areAlike_253 : decode cL_areAlike 253 = .ok (.iload 5, 2) := by decide +kernel
theorem dL_areAlike_255 : decode cL_areAlike 255 = .ok (.iconst 0, 1) := by decide +kernel
theorem dL_areAlike_256 : decode cL_areAlike 256 = .ok (.invokestatic 75, 3) := by decide +kernel
theorem dL_areAlike_259 : decode cL_areAlike 259 = .ok (.aload_n 1, 1) := by decide +kernel
theorem dL_areAlike_260 : decode cL_areAlike 260 = .ok (.bipush 8, 2) := by decide +kernel
theorem dL_areAlike_262 : decode cL_areAlike 262 = .ok (.iload 5, 2) := by decide +kernel
theorem dL_areAlike_264 : decode cL_areAlike 264 = .ok (.iconst 0, 1) := by decide +kernel
theorem dL_areAlike_265 : decode cL_areAlike 265 = .ok (.invokestatic 75, 3) := by decide +kernel
theorem dL_areAlike_268 : decode cL_areAlike 268 = .ok (.if_icmp .ne 49, 3) := by decide +kernel
theorem dL_areAlike_271 : decode cL_areAlike 271 = .ok (.aload_n 0, 1) := by decide +kernel
theorem dL_areAlike_272 : decode cL_areAlike 272 = .ok (.bipush 8, 2) := by decide +kernel
theorem dL_areAlike_274 : decode cL_areAlike 274 = .ok (.iload 5, 2) := by decide +kernel
theorem dL_areAlike_276 : decode cL_areAlike 276 = .ok (.iconst 1, 1) := by decide +kernel
theorem dL_areAlike_277 : decode cL_areAlike 277 = .ok (.invokestatic 75, 3) := by decide +kernel
theorem dL_areAlike_280 : decode cL_areAlike 280 = .ok (.aload_n 1, 1) := by decide +kernel
theorem dL_areAlike_281 : decode cL_areAlike 281 = .ok (.bipush 8, 2) := by decide +kernel
theorem dL_areAlike_283 : decode cL_areAlike 283 = .ok (.iload 5, 2) := by decide +kernel
theorem dL_areAlike_285 : decode cL_areAlike 285 = .ok (.iconst 1, 1) := by decide +kernel
theorem dL_areAlike_286 : decode cL_areAlike 286 = .ok (.invokestatic 75, 3) := by decide +kernel
theorem dL_areAlike_289 : decode cL_areAlike 289 = .ok (.if_icmp .ne 28, 3) := by decide +kernel
theorem dL_areAlike_292 : decode cL_areAlike 292 = .ok (.aload_n 0, 1) := by decide +kernel
theorem dL_areAlike_293 : decode cL_areAlike 293 = .ok (.bipush 8, 2) := by decide +kernel
theorem dL_areAlike_295 : decode cL_areAlike 295 = .ok (.iload 5, 2) := by decide +kernel
theorem dL_areAlike_297 : decode cL_areAlike 297 = .ok (.iconst 2, 1) := by decide +kernel
theorem dL_areAlike_298 : decode cL_areAlike 298 = .ok (.invokestatic 75, 3) := by decide +kernel
theorem dL_areAlike_301 : decode cL_areAlike 301 = .ok (.aload_n 1, 1) := by decide +kernel
theorem dL_areAlike_302 : decode cL_areAlike 302 = .ok (.bipush 8, 2) := by decide +kernel
theorem dL_areAlike_304 : decode cL_areAlike 304 = .ok (.iload 5, 2) := by decide +kernel
theorem dL_areAlike_306 : decode cL_areAlike 306 = .ok (.iconst 2, 1) := by decide +kernel
theorem dL_areAlike_307 : decode cL_areAlike 307 = .ok (.invokestatic 75, 3) := by decide +kernel
theorem dL_areAlike_310 : decode cL_areAlike 310 = .ok (.if_icmp .ne 7, 3) := by decide +kernel
theorem dL_areAlike_313 : decode cL_areAlike 313 = .ok (.iconst 1, 1) := by decide +kernel
theorem dL_areAlike_314 : decode cL_areAlike 314 = .ok (.goto 4, 3) := by decide +kernel
theorem dL_areAlike_317 : decode cL_areAlike 317 = .ok (.iconst 0, 1) := by decide +kernel
theorem dL_areAlike_318 : decode cL_areAlike 318 = .ok (.istore 4, 2) := by decide +kernel
theorem dL_areAlike_320 : decode cL_areAlike 320 = .ok (.iinc 5 (-1), 3) := by decide +kernel
theorem dL_areAlike_323 : decode cL_areAlike 323 = .ok (.goto (-94), 3) := by decide +kernel
theorem dL_areAlike_326 : decode cL_areAlike 326 = .ok (.iload 4, 2) := by decide +kernel
theorem dL_areAlike_328 : decode cL_areAlike 328 = .ok (.ifCond .eq 44, 3) := by decide +kernel
theorem dL_areAlike_331 : decode cL_areAlike 331 = .ok (.aload_n 0, 1) := by decide +kernel
theorem dL_areAlike_332 : decode cL_areAlike 332 = .ok (.bipush 7, 2) := by decide +kernel
theorem dL_areAlike_334 : decode cL_areAlike 334 = .ok (.iload_n 3, 1) := by decide +kernel
theorem dL_areAlike_335 : decode cL_areAlike 335 = .ok (.bipush 12, 2) := by decide +kernel
theorem dL_areAlike_337 : decode cL_areAlike 337 = .ok (.irem, 1) := by decide +kernel
theorem dL_areAlike_338 : decode cL_areAlike 338 = .ok (.iload_n 3, 1) := by decide +kernel
theorem dL_areAlike_339 : decode cL_areAlike 339 = .ok (.bipush 12, 2) := by decide +kernel
theorem dL_areAlike_341 : decode cL_areAlike 341 = .ok (.idiv, 1) := by decide +kernel
theorem dL_areAlike_342 : decode cL_areAlike 342 = .ok (.bipush 12, 2) := by decide +kernel
theorem dL_areAlike_344 : decode cL_areAlike 344 = .ok (.irem, 1) := by decide +kernel
theorem dL_areAlike_345 : decode cL_areAlike 345 = .ok (.invokestatic 75, 3) := by decide +kernel
theorem dL_areAlike_348 : decode cL_areAlike 348 = .ok (.aload_n 1, 1) := by decide +kernel
theorem dL_areAlike_349 : decode cL_areAlike 349 = .ok (.bipush 7, 2) := by decide +kernel
theorem dL_areAlike_351 : decode cL_areAlike 351 = .ok (.iload_n 3, 1) := by decide +kernel
theorem dL_areAlike_352 : decode cL_areAlike 352 = .ok (.bipush 12, 2) := by decide +kernel
theorem dL_areAlike_354 : decode cL_areAlike 354 = .ok (.irem, 1) := by decide +kernel
theorem dL_areAlike_355 : decode cL_areAlike 355 = .ok (.iload_n 3, 1) := by decide +kernel
theorem dL_areAlike_356 : decode cL_areAlike 356 = .ok (.bipush 12, 2) := by decide +kernel
theorem dL_areAlike_358 : decode cL_areAlike 358 = .ok (.idiv, 1) := by decide +kernel
theorem dL_areAlike_359 : decode cL_areAlike 359 = .ok (.bipush 12, 2) := by decide +kernel
theorem dL_areAlike_361 : decode cL_areAlike 361 = .ok (.irem, 1) := by decide +kernel
theorem dL_areAlike_362 : decode cL_areAlike 362 = .ok (.invokestatic 75, 3) := by decide +kernel
theorem dL_areAlike_365 : decode cL_areAlike 365 = .ok (.if_icmp .ne 7, 3) := by decide +kernel
theorem dL_areAlike_368 : decode cL_areAlike 368 = .ok (.iconst 1, 1) := by decide +kernel
theorem dL_areAlike_369 : decode cL_areAlike 369 = .ok (.goto 4, 3) := by decide +kernel
theorem dL_areAlike_372 : decode cL_areAlike 372 = .ok (.iconst 0, 1) := by decide +kernel
theorem dL_areAlike_373 : decode cL_areAlike 373 = .ok (.ireturn, 1) := by decide +kernel
set_option maxRecDepth 20000 in
theorem ggL_law_X5_init : GoodIn wsL_law wsX5_init := goodIn_r _ [6, 7, 8, 9, 10, 11, 12, 13, 14, 15, 16, 17, 18, 19, 20, 21, 22, 23, 24, 25, 26, 27, 28, 29, 30, 31, 32, 33, 34, 3, 35, 36, 37, 38, 39, 40, 41, 42, 43, 44, 45, 46, 47, 48, 49, 50, 51, 52, 53, 54, 55, 56, 57, 58, 59, 60, 61, 62, 63, 64, 65, 66, 67, 367, 368, 369, 370, 371, 372, 373, 374, 375, 376, 377, 378, 379, 380, 381, 382, 363, 364, 365, 366, 383, 384, 385, 386, 387, 388, 389, 390, 391, 392, 393, 394, 395, 396, 397, 398, 399] (by decide +kernel) (by decide +kernel)
set_option maxRecDepth 20000 in
theorem gL_law_X5_init : GoodIn wsL_law (wsX5_init) := ggL_law_X5_init
set_option maxRecDepth 20000 in
theorem ggL_law_L_drawn : GoodIn wsL_law wsL_drawn := goodIn_r _ [71, 72] (by decide +kernel) (by decide +kernel)
set_option maxRecDepth 20000 in
theorem gL_law_L_drawn : GoodIn wsL_law (va_wsS RL 82 yL_drawn wsL_drawn) := goodIn_app (goodIn_of _ (by decide +kernel)) ggL_law_L_drawn
set_option maxRecDepth 20000 in
theorem ggL_law_L_does : GoodIn wsL_law wsL_does := goodIn_ca (goodIn_ca (goodIn_ca (goodIn_r _ [75, 76, 77, 78, 79, 80, 81, 82, 83, 84, 2, 85, 86, 87, 13, 88, 89, 90, 91, 92, 93, 94, 95, 96, 97, 98, 99, 100, 101, 102, 103, 104, 105, 106, 107, 108, 109, 110, 111, 112, 113, 114, 115, 116, 117, 29, 118, 48, 47, 119, 120, 121, 122, 18, 123, 124, 125, 126, 127, 128, 129, 12, 130, 131, 132, 133, 134, 135, 136, 39, 30, 137, 138, 34, 139, 140, 141, 142, 143, 144, 37, 145, 146, 147, 148, 149, 35, 150, 151, 152, 153, 154, 155, 156, 157, 158, 159, 160, 161, 162, 163, 164, 165, 166, 167, 168, 169, 170, 171, 172, 173, 41, 40, 174, 175, 176, 177, 178, 179, 180, 181, 182, 183, 184, 185, 186, 187, 188, 189, 190, 191, 192, 193, 194, 195, 196, 197, 198, 199, 200, 201, 202, 203, 204, 205, 206, 42, 207, 208, 209, 210, 211, 212, 213, 214, 215, 216, 217, 218, 219, 36, 220, 221, 222, 223, 43, 38, 224, 225, 226, 17, 227, 58, 228, 229, 59, 230, 231, 232, 60, 61, 62, 233, 234, 235, 236, 237, 238, 239, 240, 241, 242, 243, 244, 245, 246, 247, 248, 249, 250, 251, 252, 253, 254, 255, 256, 257, 258, 259, 260, 261, 262, 263, 264, 265, 266, 267, 268, 269, 270, 271, 272, 273, 274, 275, 276, 277, 278, 279, 280, 281, 282, 283, 284, 285, 286, 287, 288, 289, 290, 291, 292, 293, 294, 295, 296, 297, 298, 22, 299, 14, 300, 301, 302, 303, 304, 305, 306, 307, 308, 309, 310, 311, 312, 313, 314, 315, 316, 317, 318, 319, 21, 320, 321, 66, 67, 322, 323, 324, 325, 326, 327, 328, 329, 363, 364, 365, 366, 367, 368, 369, 370, 371, 372, 373, 374, 375, 376, 377, 378, 379, 380, 381, 382, 393, 394, 395, 396, 397, 398, 399, 383, 384, 385, 386, 387, 388, 389, 390, 391, 392] (by decide +kernel) (by decide +kernel)) (goodIn_sub (fun _ h => List.mem_append_left _ (List.mem_append_left _ (List.mem_append_right _ h))) (by decide +kernel))) (goodIn_sub (fun _ h => List.mem_append_left _ (List.mem_append_right _ h)) (by decide +kernel))) (goodIn_sub (fun _ h => List.mem_append_right _ h) (by decide +kernel))
set_option maxRecDepth 20000 in
theorem gL_law_L_does : GoodIn wsL_law (va_wsS RL 75 yL_does wsL_does) := goodIn_app (goodIn_of _ (by decide +kernel)) ggL_law_L_does
set_option maxRecDepth 20000 in
theorem ggL_law_L_would : GoodIn wsL_law wsL_would := goodIn_ca (goodIn_ca (goodIn_ca (goodIn_r _ [332, 76, 77, 78, 79, 80, 81, 333, 334, 335, 2, 336, 14, 93, 94, 95, 96, 97, 98, 99, 100, 101, 102, 123, 124, 125, 126, 86, 87, 13, 112, 300, 301, 302, 303, 304, 305, 306, 12, 307, 131, 158, 136, 138, 140, 30, 35, 308, 309, 310, 311, 36, 37, 38, 312, 313, 314, 29, 315, 47, 316, 48, 127, 128, 129, 130, 132, 133, 134, 135, 39, 137, 34, 139, 141, 142, 143, 144, 145, 146, 147, 148, 149, 150, 151, 152, 153, 154, 155, 156, 157, 159, 116, 117, 118, 160, 161, 162, 163, 164, 165, 166, 167, 168, 169, 170, 171, 172, 173, 41, 40, 174, 175, 176, 177, 178, 179, 180, 181, 182, 183, 184, 185, 186, 187, 188, 189, 190, 191, 192, 193, 194, 195, 196, 197, 198, 199, 200, 201, 202, 203, 204, 205, 206, 42, 207, 208, 209, 210, 211, 212, 213, 214, 215, 216, 217, 218, 219, 220, 221, 222, 223, 43, 241, 242, 243, 244, 245, 246, 247, 248, 249, 250, 251, 363, 364, 365, 366, 367, 368, 369, 370, 371, 372, 373, 374, 375, 376, 377, 378, 379, 380, 381, 382, 393, 394, 395, 396, 397, 398, 399] (by decide +kernel) (by decide +kernel)) (goodIn_sub (fun _ h => List.mem_append_left _ (List.mem_append_right _ h)) (by decide +kernel))) (goodIn_sub (fun _ h => List.mem_append_right _ h) (by decide +kernel))) (goodIn_sub (fun _ h => List.mem_append_left _ (List.mem_append_left _ (List.mem_append_right _ h))) (by decide +kernel))
set_option maxRecDepth 20000 in
theorem gL_law_L_would : GoodIn wsL_law (va_wsS RL 86 yL_would wsL_would) := goodIn_app (goodIn_of _ (by decide +kernel)) ggL_law_L_would
set_option maxRecDepth 20000 in
theorem ggL_law_L_climate : GoodIn wsL_law wsL_climate := goodIn_ca (goodIn_r _ [339, 77, 340, 341, 342, 2, 343, 13, 344, 345, 346, 98, 99, 100, 101, 102, 363, 364, 365, 366, 367, 368, 369, 370, 371, 372, 373, 374, 375, 376, 377, 378, 379, 380, 381, 382] (by decide +kernel) (by decide +kernel)) (goodIn_sub (fun _ h => List.mem_append_right _ h) (by decide +kernel))
set_option maxRecDepth 20000 in
theorem gL_law_L_climate : GoodIn wsL_law (va_wsS RL 88 yL_climate wsL_climate) := goodIn_app (goodIn_of _ (by decide +kernel)) ggL_law_L_climate
set_option maxRecDepth 20000 in
theorem ggL_law_X5_ash : GoodIn wsL_law wsX5_ash := goodIn_r _ [350, 18, 269, 13, 112, 363, 364, 365, 366, 383, 384, 385, 386, 387, 388, 389, 367, 368, 369, 370, 371, 372, 373, 374, 375, 376, 377, 378, 379, 380, 381, 382] (by decide +kernel) (by decide +kernel)
set_option maxRecDepth 20000 in
theorem gL_law_X5_ash : GoodIn wsL_law (wsV RL 91 RX5 yX5_ash wsX5_ash) := goodIn_app (goodIn_of _ (by decide +kernel)) ggL_law_X5_ash
theorem goodIn_c1 {big a : List Cond} {c : Cond} (h : GoodIn big [c]) (ha : GoodIn big a) : GoodIn big (c :: a) := fun w hw => (List.mem_cons.mp hw).elim (fun e => h w (List.mem_cons.mpr (Or.inl e))) (ha w)
theorem ggL_law_L_areAlike_c : GoodIn wsL_law [.code yL_areAlike cL_areAlike 7 (some .boolean)] := goodIn_r _ [353] (by decide +kernel) (by decide +kernel)
set_option maxRecDepth 20000 in
theorem ggL_law_L_areAlike_wsL_areAlike_r1 : GoodIn wsL_law wsL_areAlike_r1 := goodIn_r _ [354, 355, 356, 2, 357, 18, 274, 358, 359, 360, 361, 13, 113, 289, 114, 362, 288, 73, 74, 70, 75, 76, 77, 78] (by decide +kernel) (by decide +kernel)
set_option maxRecDepth 20000 in
theorem ggL_law_L_areAlike_wsL_areAlike_r2 : GoodIn wsL_law wsL_areAlike_r2 := goodIn_r _ [79, 80, 81, 82, 83, 84, 85, 86, 87, 88, 89, 90, 91, 92, 93, 94, 95, 96, 97, 98, 99, 100, 101, 102] (by decide +kernel) (by decide +kernel)
set_option maxRecDepth 20000 in
theorem ggL_law_L_areAlike_wsL_areAlike_r3 : GoodIn wsL_law wsL_areAlike_r3 := goodIn_r _ [103, 104, 105, 106, 107, 108, 109, 110, 111, 112, 115, 116, 117, 29, 118, 48, 47, 119, 120, 121, 122, 123, 124, 125] (by decide +kernel) (by decide +kernel)
set_option maxRecDepth 20000 in
theorem ggL_law_L_areAlike_wsL_areAlike_r4 : GoodIn wsL_law wsL_areAlike_r4 := goodIn_r _ [126, 127, 128, 129, 12, 130, 131, 132, 133, 134, 135, 136, 39, 30, 137, 138, 34, 139, 140, 141, 142, 143, 144, 37] (by decide +kernel) (by decide +kernel)
set_option maxRecDepth 20000 in
theorem ggL_law_L_areAlike_wsL_areAlike_r5 : GoodIn wsL_law wsL_areAlike_r5 := goodIn_r _ [145, 146, 147, 148, 149, 35, 150, 151, 152, 153, 154, 155, 156, 157, 158, 159, 160, 161, 162, 163, 164, 165, 166, 167] (by decide +kernel) (by decide +kernel)
set_option maxRecDepth 20000 in
theorem ggL_law_L_areAlike_wsL_areAlike_r6 : GoodIn wsL_law wsL_areAlike_r6 := goodIn_r _ [168, 169, 170, 171, 172, 173, 41, 40, 174, 175, 176, 177, 178, 179, 180, 181, 182, 183, 184, 185, 186, 187, 188, 189] (by decide +kernel) (by decide +kernel)
set_option maxRecDepth 20000 in
theorem ggL_law_L_areAlike_wsL_areAlike_r7 : GoodIn wsL_law wsL_areAlike_r7 := goodIn_r _ [190, 191, 192, 193, 194, 195, 196, 197, 198, 199, 200, 201, 202, 203, 204, 205, 206, 42, 207, 208, 209, 210, 211, 212] (by decide +kernel) (by decide +kernel)
set_option maxRecDepth 20000 in
theorem ggL_law_L_areAlike_wsL_areAlike_r8 : GoodIn wsL_law wsL_areAlike_r8 := goodIn_r _ [213, 214, 215, 216, 217, 218, 219, 36, 220, 221, 222, 223, 43, 38, 224, 225, 226, 17, 227, 58, 228, 229, 59, 230] (by decide +kernel) (by decide +kernel)
set_option maxRecDepth 20000 in
theorem ggL_law_L_areAlike_wsL_areAlike_r9 : GoodIn wsL_law wsL_areAlike_r9 := goodIn_r _ [231, 232, 60, 61, 62, 233, 234, 235, 236, 237, 238, 239, 240, 241, 242, 243, 244, 245, 246, 247, 248, 249, 250, 251] (by decide +kernel) (by decide +kernel)
set_option maxRecDepth 20000 in
theorem ggL_law_L_areAlike_wsL_areAlike_r10 : GoodIn wsL_law wsL_areAlike_r10 := goodIn_r _ [252, 253, 254, 255, 256, 257, 258, 259, 260, 261, 262, 263, 264, 265, 266, 267, 268, 269, 270, 271, 272, 273, 275, 276] (by decide +kernel) (by decide +kernel)
set_option maxRecDepth 20000 in
theorem ggL_law_L_areAlike_wsL_areAlike_r11 : GoodIn wsL_law wsL_areAlike_r11 := goodIn_r _ [277, 278, 279, 280, 281, 282, 283, 284, 285, 286, 287, 290, 291, 292, 293, 294, 295, 296, 297, 298, 22, 299, 14, 300] (by decide +kernel) (by decide +kernel)
set_option maxRecDepth 20000 in
theorem ggL_law_L_areAlike_wsL_areAlike_r12 : GoodIn wsL_law wsL_areAlike_r12 := goodIn_r _ [301, 302, 303, 304, 305, 306, 307, 308, 309, 310, 311, 312, 313, 314, 315, 316, 317, 318, 319, 21, 320, 321, 66, 67] (by decide +kernel) (by decide +kernel)
set_option maxRecDepth 20000 in
theorem ggL_law_L_areAlike_wsL_areAlike_r13 : GoodIn wsL_law wsL_areAlike_r13 := goodIn_r _ [322, 323, 324, 325, 326, 327, 328, 329] (by decide +kernel) (by decide +kernel)
set_option maxRecDepth 20000 in
theorem ggL_law_L_areAlike_wsX50 : GoodIn wsL_law wsX50 := goodIn_r _ [363, 364, 365, 366] (by decide +kernel) (by decide +kernel)
set_option maxRecDepth 20000 in
theorem ggL_law_L_areAlike_wsX00 : GoodIn wsL_law wsX00 := goodIn_r _ [383, 384, 385, 386, 387, 388, 389] (by decide +kernel) (by decide +kernel)
set_option maxRecDepth 20000 in
theorem ggL_law_L_areAlike_wsX30 : GoodIn wsL_law wsX30 := goodIn_r _ [367, 368, 369, 370, 371, 372, 373, 374, 375, 376, 377, 378, 379, 380, 381, 382] (by decide +kernel) (by decide +kernel)
set_option maxRecDepth 20000 in
theorem ggL_law_L_areAlike_wsX40 : GoodIn wsL_law wsX40 := goodIn_r _ [395, 396, 397, 398, 399] (by decide +kernel) (by decide +kernel)
set_option maxRecDepth 20000 in
theorem ggL_law_L_areAlike_wsX10 : GoodIn wsL_law wsX10 := goodIn_r _ [393, 394] (by decide +kernel) (by decide +kernel)
set_option maxRecDepth 20000 in
theorem ggL_law_L_areAlike_wsX20 : GoodIn wsL_law wsX20 := goodIn_r _ [390, 391, 392] (by decide +kernel) (by decide +kernel)
set_option maxRecDepth 20000 in
theorem ggL_law_L_areAlike : GoodIn wsL_law wsL_areAlike := goodIn_ca (goodIn_ca (goodIn_ca (goodIn_c1 ggL_law_L_areAlike_c (goodIn_app (goodIn_app (goodIn_app (goodIn_app (goodIn_app (goodIn_app (goodIn_app ggL_law_L_areAlike_wsL_areAlike_r1 (goodIn_app ggL_law_L_areAlike_wsL_areAlike_r2 (goodIn_app ggL_law_L_areAlike_wsL_areAlike_r3 (goodIn_app ggL_law_L_areAlike_wsL_areAlike_r4 (goodIn_app ggL_law_L_areAlike_wsL_areAlike_r5 (goodIn_app ggL_law_L_areAlike_wsL_areAlike_r6 (goodIn_app ggL_law_L_areAlike_wsL_areAlike_r7 (goodIn_app ggL_law_L_areAlike_wsL_areAlike_r8 (goodIn_app ggL_law_L_areAlike_wsL_areAlike_r9 (goodIn_app ggL_law_L_areAlike_wsL_areAlike_r10 (goodIn_app ggL_law_L_areAlike_wsL_areAlike_r11 (goodIn_app ggL_law_L_areAlike_wsL_areAlike_r12 ggL_law_L_areAlike_wsL_areAlike_r13)))))))))))) ggL_law_L_areAlike_wsX50) ggL_law_L_areAlike_wsX00) ggL_law_L_areAlike_wsX30) ggL_law_L_areAlike_wsX40) ggL_law_L_areAlike_wsX10) ggL_law_L_areAlike_wsX20)) (goodIn_sub (fun _ h => List.mem_append_left _ (List.mem_append_left _ (List.mem_append_right _ h))) (by decide +kernel))) (goodIn_sub (fun _ h => List.mem_append_left _ (List.mem_append_right _ h)) (by decide +kernel))) (goodIn_sub (fun _ h => List.mem_append_right _ h) (by decide +kernel))
set_option maxRecDepth 20000 in
theorem gL_law_L_areAlike : GoodIn wsL_law (va_wsS RL 95 yL_areAlike wsL_areAlike) := goodIn_app (goodIn_of _ (by decide +kernel)) ggL_law_L_areAlike
theorem dL_law_0 : decode cL_law 0 = .ok (.new 9, 3) := by decide +kernel
theorem dL_law_3 : decode cL_law 3 = .ok (.dup, 1) := by decide +kernel
theorem dL_law_4 : decode cL_law 4 = .ok (.invokespecial 81, 3) := by decide +kernel
theorem dL_law_7 : decode cL_law 7 = .ok (.astore_n 1, 1) := by decide +kernel
theorem dL_law_8 : decode cL_law 8 = .ok (.new 9, 3) := by decide +kernel
theorem dL_law_11 : decode cL_law 11 = .ok (.dup, 1) := by decide +kernel
theorem dL_law_12 : decode cL_law 12 = .ok (.invokespecial 81, 3) := by decide +kernel
theorem dL_law_15 : decode cL_law 15 = .ok (.astore_n 2, 1) := by decide +kernel
theorem dL_law_16 : decode cL_law 16 = .ok (.iconst 0, 1) := by decide +kernel
theorem dL_law_17 : decode cL_law 17 = .ok (.istore_n 3, 1) := by decide +kernel
theorem dL_law_18 : decode cL_law 18 = .ok (.iconst 0, 1) := by decide +kernel
theorem dL_law_19 : decode cL_law 19 = .ok (.istore 4, 2) := by decide +kernel
theorem dL_law_21 : decode cL_law 21 = .ok (.iconst 1, 1) := by decide +kernel
theorem dL_law_22 : decode cL_law 22 = .ok (.istore 5, 2) := by decide +kernel
theorem dL_law_24 : decode cL_law 24 = .ok (.iconst 0, 1) := by decide +kernel
theorem dL_law_25 : decode cL_law 25 = .ok (.istore 6, 2) := by decide +kernel
theorem dL_law_27 : decode cL_law 27 = .ok (.iload 6, 2) := by decide +kernel
theorem dL_law_29 : decode cL_law 29 = .ok (.bipush 12, 2) := by decide +kernel
theorem dL_law_31 : decode cL_law 31 = .ok (.if_icmp .ge 89, 3) := by decide +kernel
theorem dL_law_34 : decode cL_law 34 = .ok (.iload 5, 2) := by decide +kernel
theorem dL_law_36 : decode cL_law 36 = .ok (.ifCond .eq 84, 3) := by decide +kernel
theorem dL_law_39 : decode cL_law 39 = .ok (.iload 6, 2) := by decide +kernel
theorem dL_law_41 : decode cL_law 41 = .ok (.bipush 8, 2) := by decide +kernel
theorem dL_law_43 : decode cL_law 43 = .ok (.if_icmp .ge 24, 3) := by decide +kernel
theorem dL_law_46 : decode cL_law 46 = .ok (.bipush 30, 2) := by decide +kernel
theorem dL_law_48 : decode cL_law 48 = .ok (.bipush 12, 2) := by decide +kernel
theorem dL_law_50 : decode cL_law 50 = .ok (.iload 6, 2) := by decide +kernel
theorem dL_law_52 : decode cL_law 52 = .ok (.isub, 1) := by decide +kernel
theorem dL_law_53 : decode cL_law 53 = .ok (.imul, 1) := by decide +kernel
theorem dL_law_54 : decode cL_law 54 = .ok (.aload_n 0, 1) := by decide +kernel
theorem dL_law_55 : decode cL_law 55 = .ok (.iload 6, 2) := by decide +kernel
theorem dL_law_57 : decode cL_law 57 = .ok (.invokestatic 82, 3) := by decide +kernel
theorem dL_law_60 : decode cL_law 60 = .ok (.bipush 60, 2) := by decide +kernel
theorem dL_law_62 : decode cL_law 62 = .ok (.irem, 1) := by decide +kernel
theorem dL_law_63 : decode cL_law 63 = .ok (.iadd, 1) := by decide +kernel
theorem dL_law_64 : decode cL_law 64 = .ok (.goto 13, 3) := by decide +kernel
theorem dL_law_67 : decode cL_law 67 = .ok (.aload_n 0, 1) := by decide +kernel
theorem dL_law_68 : decode cL_law 68 = .ok (.iload 6, 2) := by decide +kernel
theorem dL_law_70 : decode cL_law 70 = .ok (.invokestatic 82, 3) := by decide +kernel
theorem dL_law_73 : decode cL_law 73 = .ok (.sipush 160, 3) := by decide +kernel
theorem dL_law_76 : decode cL_law 76 = .ok (.irem, 1) := by decide +kernel
theorem dL_law_77 : decode cL_law 77 = .ok (.istore 7, 2) := by decide +kernel
theorem dL_law_79 : decode cL_law 79 = .ok (.aload_n 1, 1) := by decide +kernel
theorem dL_law_80 : decode cL_law 80 = .ok (.iconst 0, 1) := by decide +kernel
theorem dL_law_81 : decode cL_law 81 = .ok (.iload 6, 2) := by decide +kernel
theorem dL_law_83 : decode cL_law 83 = .ok (.iload 7, 2) := by decide +kernel
theorem dL_law_85 : decode cL_law 85 = .ok (.invokestatic 75, 3) := by decide +kernel
theorem dL_law_88 : decode cL_law 88 = .ok (.bipush 100, 2) := by decide +kernel
theorem dL_law_90 : decode cL_law 90 = .ok (.if_icmp .ne 21, 3) := by decide +kernel
theorem dL_law_93 : decode cL_law 93 = .ok (.aload_n 2, 1) := by decide +kernel
theorem dL_law_94 : decode cL_law 94 = .ok (.iconst 0, 1) := by decide +kernel
theorem dL_law_95 : decode cL_law 95 = .ok (.iload 6, 2) := by decide +kernel
theorem dL_law_97 : decode cL_law 97 = .ok (.iload 7, 2) := by decide +kernel
theorem dL_law_99 : decode cL_law 99 = .ok (.invokestatic 75, 3) := by decide +kernel
theorem dL_law_102 : decode cL_law 102 = .ok (.bipush 100, 2) := by decide +kernel
theorem dL_law_104 : decode cL_law 104 = .ok (.if_icmp .ne 7, 3) := by decide +kernel
theorem dL_law_107 : decode cL_law 107 = .ok (.iconst 1, 1) := by decide +kernel
theorem dL_law_108 : decode cL_law 108 = .ok (.goto 4, 3) := by decide +kernel
theorem dL_law_111 : decode cL_law 111 = .ok (.iconst 0, 1) := by decide +kernel
theorem dL_law_112 : decode cL_law 112 = .ok (.istore 5, 2) := by decide +kernel
theorem dL_law_114 : decode cL_law 114 = .ok (.iinc 6 1, 3) := by decide +kernel
theorem dL_law_117 : decode cL_law 117 = .ok (.goto (-90), 3) := by decide +kernel
theorem dL_law_120 : decode cL_law 120 = .ok (.bipush 12, 2) := by decide +kernel
theorem dL_law_122 : decode cL_law 122 = .ok (.istore 6, 2) := by decide +kernel
theorem dL_law_124 : decode cL_law 124 = .ok (.iload 6, 2) := by decide +kernel
theorem dL_law_126 : decode cL_law 126 = .ok (.bipush 50, 2) := by decide +kernel
theorem dL_law_128 : decode cL_law 128 = .ok (.if_icmp .ge 584, 3) := by decide +kernel
theorem dL_law_131 : decode cL_law 131 = .ok (.iload 5, 2) := by decide +kernel
theorem dL_law_133 : decode cL_law 133 = .ok (.ifCond .eq 579, 3) := by decide +kernel
theorem dL_law_136 : decode cL_law 136 = .ok (.aload_n 0, 1) := by decide +kernel
theorem dL_law_137 : decode cL_law 137 = .ok (.iload 6, 2) := by decide +kernel
theorem dL_law_139 : decode cL_law 139 = .ok (.invokestatic 82, 3) := by decide +kernel
theorem dL_law_142 : decode cL_law 142 = .ok (.istore 7, 2) := by decide +kernel
theorem dL_law_144 : decode cL_law 144 = .ok (.iload 7, 2) := by decide +kernel
theorem dL_law_146 : decode cL_law 146 = .ok (.bipush 12, 2) := by decide +kernel
theorem dL_law_148 : decode cL_law 148 = .ok (.idiv, 1) := by decide +kernel
theorem dL_law_149 : decode cL_law 149 = .ok (.istore 8, 2) := by decide +kernel
theorem dL_law_151 : decode cL_law 151 = .ok (.iload 6, 2) := by decide +kernel
theorem dL_law_153 : decode cL_law 153 = .ok (.bipush 16, 2) := by decide +kernel
theorem dL_law_155 : decode cL_law 155 = .ok (.if_icmp .ge 7, 3) := by decide +kernel
theorem dL_law_158 : decode cL_law 158 = .ok (.iconst 0, 1) := by decide +kernel
theorem dL_law_159 : decode cL_law 159 = .ok (.goto 8, 3) := by decide +kernel
theorem dL_law_162 : decode cL_law 162 = .ok (.iload 7, 2) := by decide +kernel
theorem dL_law_164 : decode cL_law 164 = .ok (.bipush 12, 2) := by decide +kernel
theorem dL_law_166 : decode cL_law 166 = .ok (.irem, 1) := by decide +kernel
theorem dL_law_167 : decode cL_law 167 = .ok (.istore 9, 2) := by decide +kernel
theorem dL_law_169 : decode cL_law 169 = .ok (.iload 9, 2) := by decide +kernel
theorem dL_law_171 : decode cL_law 171 = .ok (.iconst 4, 1) := by decide +kernel
theorem dL_law_172 : decode cL_law 172 = .ok (.if_icmp .ge 65, 3) := by decide +kernel
theorem dL_law_175 : decode cL_law 175 = .ok (.iconst 1, 1) := by decide +kernel
theorem dL_law_176 : decode cL_law 176 = .ok (.iload 8, 2) := by decide +kernel
theorem dL_law_178 : decode cL_law 178 = .ok (.bipush 12, 2) := by decide +kernel
theorem dL_law_180 : decode cL_law 180 = .ok (.idiv, 1) := by decide +kernel
theorem dL_law_181 : decode cL_law 181 = .ok (.iload 8, 2) := by decide +kernel
theorem dL_law_183 : decode cL_law 183 = .ok (.iconst 4, 1) := by decide +kernel
theorem dL_law_184 : decode cL_law 184 = .ok (.irem, 1) := by decide +kernel
theorem dL_law_185 : decode cL_law 185 = .ok (.ifCond .ne 9, 3) := by decide +kernel
theorem dL_law_188 : decode cL_law 188 = .ok (.sipush 999, 3) := by decide +kernel
theorem dL_law_191 : decode cL_law 191 = .ok (.goto 5, 3) := by decide +kernel
theorem dL_law_194 : decode cL_law 194 = .ok (.bipush 90, 2) := by decide +kernel
theorem dL_law_196 : decode cL_law 196 = .ok (.irem, 1) := by decide +kernel
theorem dL_law_197 : decode cL_law 197 = .ok (.iadd, 1) := by decide +kernel
theorem dL_law_198 : decode cL_law 198 = .ok (.istore 10, 2) := by decide +kernel
theorem dL_law_200 : decode cL_law 200 = .ok (.aload_n 1, 1) := by decide +kernel
theorem dL_law_201 : decode cL_law 201 = .ok (.iconst 2, 1) := by decide +kernel
theorem dL_law_202 : decode cL_law 202 = .ok (.iload 8, 2) := by decide +kernel
theorem dL_law_204 : decode cL_law 204 = .ok (.bipush 12, 2) := by decide +kernel
theorem dL_law_206 : decode cL_law 206 = .ok (.irem, 1) := by decide +kernel
theorem dL_law_207 : decode cL_law 207 = .ok (.iload 10, 2) := by decide +kernel
theorem dL_law_209 : decode cL_law 209 = .ok (.invokestatic 75, 3) := by decide +kernel
theorem dL_law_212 : decode cL_law 212 = .ok (.aload_n 2, 1) := by decide +kernel
theorem dL_law_213 : decode cL_law 213 = .ok (.iconst 2, 1) := by decide +kernel
theorem dL_law_214 : decode cL_law 214 = .ok (.iload 8, 2) := by decide +kernel
theorem dL_law_216 : decode cL_law 216 = .ok (.bipush 12, 2) := by decide +kernel
theorem dL_law_218 : decode cL_law 218 = .ok (.irem, 1) := by decide +kernel
theorem dL_law_219 : decode cL_law 219 = .ok (.iload 10, 2) := by decide +kernel
theorem dL_law_221 : decode cL_law 221 = .ok (.invokestatic 75, 3) := by decide +kernel
theorem dL_law_224 : decode cL_law 224 = .ok (.if_icmp .ne 7, 3) := by decide +kernel
theorem dL_law_227 : decode cL_law 227 = .ok (.iconst 1, 1) := by decide +kernel
theorem dL_law_228 : decode cL_law 228 = .ok (.goto 4, 3) := by decide +kernel
theorem dL_law_231 : decode cL_law 231 = .ok (.iconst 0, 1) := by decide +kernel
theorem dL_law_232 : decode cL_law 232 = .ok (.istore 5, 2) := by decide +kernel
theorem dL_law_234 : decode cL_law 234 = .ok (.goto 449, 3) := by decide +kernel
theorem dL_law_237 : decode cL_law 237 = .ok (.iload 9, 2) := by decide +kernel
theorem dL_law_239 : decode cL_law 239 = .ok (.bipush 8, 2) := by decide +kernel
theorem dL_law_241 : decode cL_law 241 = .ok (.if_icmp .ge 283, 3) := by decide +kernel
theorem dL_law_244 : decode cL_law 244 = .ok (.iload_n 3, 1) := by decide +kernel
theorem dL_law_245 : decode cL_law 245 = .ok (.bipush 56, 2) := by decide +kernel
theorem dL_law_247 : decode cL_law 247 = .ok (.if_icmp .ge 277, 3) := by decide +kernel
theorem dL_law_250 : decode cL_law 250 = .ok (.iconst 1, 1) := by decide +kernel
theorem dL_law_251 : decode cL_law 251 = .ok (.iload 8, 2) := by decide +kernel
theorem dL_law_253 : decode cL_law 253 = .ok (.bipush 60, 2) := by decide +kernel
theorem dL_law_255 : decode cL_law 255 = .ok (.iload_n 3, 1) := by decide +kernel
theorem dL_law_256 : decode cL_law 256 = .ok (.isub, 1) := by decide +kernel
theorem dL_law_257 : decode cL_law 257 = .ok (.bipush 7, 2) := by decide +kernel
theorem dL_law_259 : decode cL_law 259 = .ok (.if_icmp .ge 10, 3) := by decide +kernel
theorem dL_law_262 : decode cL_law 262 = .ok (.bipush 60, 2) := by decide +kernel
theorem dL_law_264 : decode cL_law 264 = .ok (.iload_n 3, 1) := by decide +kernel
theorem dL_law_265 : decode cL_law 265 = .ok (.isub, 1) := by decide +kernel
theorem dL_law_266 : decode cL_law 266 = .ok (.goto 5, 3) := by decide +kernel
theorem dL_law_269 : decode cL_law 269 = .ok (.bipush 7, 2) := by decide +kernel
theorem dL_law_271 : decode cL_law 271 = .ok (.irem, 1) := by decide +kernel
theorem dL_law_272 : decode cL_law 272 = .ok (.iadd, 1) := by decide +kernel
theorem dL_law_273 : decode cL_law 273 = .ok (.istore 10, 2) := by decide +kernel
theorem dL_law_275 : decode cL_law 275 = .ok (.iload 4, 2) := by decide +kernel
theorem dL_law_277 : decode cL_law 277 = .ok (.bipush 10, 2) := by decide +kernel
theorem dL_law_279 : decode cL_law 279 = .ok (.if_icmp .ge 7, 3) := by decide +kernel
theorem dL_law_282 : decode cL_law 282 = .ok (.iconst 1, 1) := by decide +kernel
theorem dL_law_283 : decode cL_law 283 = .ok (.goto 4, 3) := by decide +kernel
theorem dL_law_286 : decode cL_law 286 = .ok (.iconst 0, 1) := by decide +kernel
theorem dL_law_287 : decode cL_law 287 = .ok (.istore 11, 2) := by decide +kernel
theorem dL_law_289 : decode cL_law 289 = .ok (.iload 11, 2) := by decide +kernel
theorem dL_law_291 : decode cL_law 291 = .ok (.ifCond .eq 15, 3) := by decide +kernel
theorem dL_law_294 : decode cL_law 294 = .ok (.aload_n 1, 1) := by decide +kernel
theorem dL_law_295 : decode cL_law 295 = .ok (.bipush 11, 2) := by decide +kernel
theorem dL_law_297 : decode cL_law 297 = .ok (.iload 10, 2) := by decide +kernel
theorem dL_law_299 : decode cL_law 299 = .ok (.iconst 0, 1) := by decide +kernel
theorem dL_law_300 : decode cL_law 300 = .ok (.invokestatic 75, 3) := by decide +kernel
theorem dL_law_303 : decode cL_law 303 = .ok (.goto 4, 3) := by decide +kernel
theorem dL_law_306 : decode cL_law 306 = .ok (.iconst 0, 1) := by decide +kernel
theorem dL_law_307 : decode cL_law 307 = .ok (.istore 12, 2) := by decide +kernel
theorem dL_law_309 : decode cL_law 309 = .ok (.bipush 10, 2) := by decide +kernel
theorem dL_law_311 : decode cL_law 311 = .ok (.newarray .int, 2) := by decide +kernel
theorem dL_law_313 : decode cL_law 313 = .ok (.astore 13, 2) := by decide +kernel
theorem dL_law_315 : decode cL_law 315 = .ok (.iconst 0, 1) := by decide +kernel
theorem dL_law_316 : decode cL_law 316 = .ok (.istore 14, 2) := by decide +kernel
theorem dL_law_318 : decode cL_law 318 = .ok (.iload 14, 2) := by decide +kernel
theorem dL_law_320 : decode cL_law 320 = .ok (.bipush 10, 2) := by decide +kernel
theorem dL_law_322 : decode cL_law 322 = .ok (.if_icmp .ge 30, 3) := by decide +kernel
theorem dL_law_325 : decode cL_law 325 = .ok (.aload 13, 2) := by decide +kernel
theorem dL_law_327 : decode cL_law 327 = .ok (.iload 14, 2) := by decide +kernel
theorem dL_law_329 : decode cL_law 329 = .ok (.aload_n 1, 1) := by decide +kernel
theorem dL_law_330 : decode cL_law 330 = .ok (.iload 10, 2) := by decide +kernel
theorem dL_law_332 : decode cL_law 332 = .ok (.iload 8, 2) := by decide +kernel
theorem dL_law_334 : decode cL_law 334 = .ok (.bipush 7, 2) := by decide +kernel
theorem dL_law_336 : decode cL_law 336 = .ok (.idiv, 1) := by decide +kernel
theorem dL_law_337 : decode cL_law 337 = .ok (.bipush 12, 2) := by decide +kernel
theorem dL_law_339 : decode cL_law 339 = .ok (.irem, 1) := by decide +kernel
theorem dL_law_340 : decode cL_law 340 = .ok (.iload 14, 2) := by decide +kernel
theorem dL_law_342 : decode cL_law 342 = .ok (.invokestatic 86, 3) := by decide +kernel
theorem dL_law_345 : decode cL_law 345 = .ok (.iastore, 1) := by decide +kernel
theorem dL_law_346 : decode cL_law 346 = .ok (.iinc 14 1, 3) := by decide +kernel
theorem dL_law_349 : decode cL_law 349 = .ok (.goto (-31), 3) := by decide +kernel
theorem dL_law_352 : decode cL_law 352 = .ok (.iconst 0, 1) := by decide +kernel
theorem dL_law_353 : decode cL_law 353 = .ok (.istore 14, 2) := by decide +kernel
theorem dL_law_355 : decode cL_law 355 = .ok (.iload 14, 2) := by decide +kernel
theorem dL_law_357 : decode cL_law 357 = .ok (.iload 10, 2) := by decide +kernel
theorem dL_law_359 : decode cL_law 359 = .ok (.if_icmp .ge 37, 3) := by decide +kernel
theorem dL_law_362 : decode cL_law 362 = .ok (.iload 5, 2) := by decide +kernel
theorem dL_law_364 : decode cL_law 364 = .ok (.ifCond .eq 23, 3) := by decide +kernel
theorem dL_law_367 : decode cL_law 367 = .ok (.aload_n 2, 1) := by decide +kernel
theorem dL_law_368 : decode cL_law 368 = .ok (.iconst 3, 1) := by decide +kernel
theorem dL_law_369 : decode cL_law 369 = .ok (.iconst 1, 1) := by decide +kernel
theorem dL_law_370 : decode cL_law 370 = .ok (.iconst 0, 1) := by decide +kernel
theorem dL_law_371 : decode cL_law 371 = .ok (.invokestatic 75, 3) := by decide +kernel
theorem dL_law_374 : decode cL_law 374 = .ok (.iload_n 3, 1) := by decide +kernel
theorem dL_law_375 : decode cL_law 375 = .ok (.iload 14, 2) := by decide +kernel
theorem dL_law_377 : decode cL_law 377 = .ok (.iadd, 1) := by decide +kernel
theorem dL_law_378 : decode cL_law 378 = .ok (.iconst 1, 1) := by decide +kernel
theorem dL_law_379 : decode cL_law 379 = .ok (.iadd, 1) := by decide +kernel
theorem dL_law_380 : decode cL_law 380 = .ok (.if_icmp .ne 7, 3) := by decide +kernel
theorem dL_law_383 : decode cL_law 383 = .ok (.iconst 1, 1) := by decide +kernel
theorem dL_law_384 : decode cL_law 384 = .ok (.goto 4, 3) := by decide +kernel
theorem dL_law_387 : decode cL_law 387 = .ok (.iconst 0, 1) := by decide +kernel
theorem dL_law_388 : decode cL_law 388 = .ok (.istore 5, 2) := by decide +kernel
theorem dL_law_390 : decode cL_law 390 = .ok (.iinc 14 1, 3) := by decide +kernel
theorem dL_law_393 : decode cL_law 393 = .ok (.goto (-38), 3) := by decide +kernel
theorem dL_law_396 : decode cL_law 396 = .ok (.iload_n 3, 1) := by decide +kernel
theorem dL_law_397 : decode cL_law 397 = .ok (.iload 10, 2) := by decide +kernel
theorem dL_law_399 : decode cL_law 399 = .ok (.iadd, 1) := by decide +kernel
theorem dL_law_400 : decode cL_law 400 = .ok (.istore_n 3, 1) := by decide +kernel
theorem dL_law_401 : decode cL_law 401 = .ok (.iload 5, 2) := by decide +kernel
theorem dL_law_403 : decode cL_law 403 = .ok (.ifCond .eq 49, 3) := by decide +kernel
theorem dL_law_406 : decode cL_law 406 = .ok (.aload_n 1, 1) := by decide +kernel
theorem dL_law_407 : decode cL_law 407 = .ok (.iconst 3, 1) := by decide +kernel
theorem dL_law_408 : decode cL_law 408 = .ok (.iload 10, 2) := by decide +kernel
theorem dL_law_410 : decode cL_law 410 = .ok (.iconst 0, 1) := by decide +kernel
theorem dL_law_411 : decode cL_law 411 = .ok (.invokestatic 75, 3) := by decide +kernel
theorem dL_law_414 : decode cL_law 414 = .ok (.iload_n 3, 1) := by decide +kernel
theorem dL_law_415 : decode cL_law 415 = .ok (.if_icmp .ne 37, 3) := by decide +kernel
theorem dL_law_418 : decode cL_law 418 = .ok (.iload 11, 2) := by decide +kernel
theorem dL_law_420 : decode cL_law 420 = .ok (.ifCond .eq 28, 3) := by decide +kernel
theorem dL_law_423 : decode cL_law 423 = .ok (.aload_n 1, 1) := by decide +kernel
theorem dL_law_424 : decode cL_law 424 = .ok (.bipush 12, 2) := by decide +kernel
theorem dL_law_426 : decode cL_law 426 = .ok (.iload 4, 2) := by decide +kernel
theorem dL_law_428 : decode cL_law 428 = .ok (.iconst 0, 1) := by decide +kernel
theorem dL_law_429 : decode cL_law 429 = .ok (.invokestatic 75, 3) := by decide +kernel
theorem dL_law_432 : decode cL_law 432 = .ok (.ifCond .ne 20, 3) := by decide +kernel
theorem dL_law_435 : decode cL_law 435 = .ok (.aload_n 1, 1) := by decide +kernel
theorem dL_law_436 : decode cL_law 436 = .ok (.bipush 10, 2) := by decide +kernel
theorem dL_law_438 : decode cL_law 438 = .ok (.iconst 0, 1) := by decide +kernel
theorem dL_law_439 : decode cL_law 439 = .ok (.iconst 0, 1) := by decide +kernel
theorem dL_law_440 : decode cL_law 440 = .ok (.invokestatic 75, 3) := by decide +kernel
theorem dL_law_443 : decode cL_law 443 = .ok (.iload 12, 2) := by decide +kernel
theorem dL_law_445 : decode cL_law 445 = .ok (.if_icmp .ne 7, 3) := by decide +kernel
theorem dL_law_448 : decode cL_law 448 = .ok (.iconst 1, 1) := by decide +kernel
theorem dL_law_449 : decode cL_law 449 = .ok (.goto 4, 3) := by decide +kernel
theorem dL_law_452 : decode cL_law 452 = .ok (.iconst 0, 1) := by decide +kernel
theorem dL_law_453 : decode cL_law 453 = .ok (.istore 5, 2) := by decide +kernel
theorem dL_law_455 : decode cL_law 455 = .ok (.iconst 0, 1) := by decide +kernel
theorem dL_law_456 : decode cL_law 456 = .ok (.istore 14, 2) := by decide +kernel
theorem dL_law_458 : decode cL_law 458 = .ok (.iload 14, 2) := by decide +kernel
theorem dL_law_460 : decode cL_law 460 = .ok (.bipush 10, 2) := by decide +kernel
theorem dL_law_462 : decode cL_law 462 = .ok (.if_icmp .ge 44, 3) := by decide +kernel
theorem dL_law_465 : decode cL_law 465 = .ok (.iload 5, 2) := by decide +kernel
theorem dL_law_467 : decode cL_law 467 = .ok (.ifCond .eq 39, 3) := by decide +kernel
theorem dL_law_470 : decode cL_law 470 = .ok (.aload 13, 2) := by decide +kernel
theorem dL_law_472 : decode cL_law 472 = .ok (.iload 14, 2) := by decide +kernel
theorem dL_law_474 : decode cL_law 474 = .ok (.iaload, 1) := by decide +kernel
theorem dL_law_475 : decode cL_law 475 = .ok (.aload_n 1, 1) := by decide +kernel
theorem dL_law_476 : decode cL_law 476 = .ok (.iconst 4, 1) := by decide +kernel
theorem dL_law_477 : decode cL_law 477 = .ok (.iload 8, 2) := by decide +kernel
theorem dL_law_479 : decode cL_law 479 = .ok (.bipush 7, 2) := by decide +kernel
theorem dL_law_481 : decode cL_law 481 = .ok (.idiv, 1) := by decide +kernel
theorem dL_law_482 : decode cL_law 482 = .ok (.bipush 12, 2) := by decide +kernel
theorem dL_law_484 : decode cL_law 484 = .ok (.irem, 1) := by decide +kernel
theorem dL_law_485 : decode cL_law 485 = .ok (.iload 14, 2) := by decide +kernel
theorem dL_law_487 : decode cL_law 487 = .ok (.invokestatic 75, 3) := by decide +kernel
theorem dL_law_490 : decode cL_law 490 = .ok (.if_icmp .ne 7, 3) := by decide +kernel
theorem dL_law_493 : decode cL_law 493 = .ok (.iconst 1, 1) := by decide +kernel
theorem dL_law_494 : decode cL_law 494 = .ok (.goto 4, 3) := by decide +kernel
theorem dL_law_497 : decode cL_law 497 = .ok (.iconst 0, 1) := by decide +kernel
theorem dL_law_498 : decode cL_law 498 = .ok (.istore 5, 2) := by decide +kernel
theorem dL_law_500 : decode cL_law 500 = .ok (.iinc 14 1, 3) := by decide +kernel
theorem dL_law_503 : decode cL_law 503 = .ok (.goto (-45), 3) := by decide +kernel
theorem dL_law_506 : decode cL_law 506 = .ok (.iload 4, 2) := by decide +kernel
theorem dL_law_508 : decode cL_law 508 = .ok (.iload 11, 2) := by decide +kernel
theorem dL_law_510 : decode cL_law 510 = .ok (.ifCond .eq 7, 3) := by decide +kernel
theorem dL_law_513 : decode cL_law 513 = .ok (.iconst 1, 1) := by decide +kernel
theorem dL_law_514 : decode cL_law 514 = .ok (.goto 4, 3) := by decide +kernel
theorem dL_law_517 : decode cL_law 517 = .ok (.iconst 0, 1) := by decide +kernel
theorem dL_law_518 : decode cL_law 518 = .ok (.iadd, 1) := by decide +kernel
theorem dL_law_519 : decode cL_law 519 = .ok (.istore 4, 2) := by decide +kernel
theorem dL_law_521 : decode cL_law 521 = .ok (.goto 162, 3) := by decide +kernel
theorem dL_law_524 : decode cL_law 524 = .ok (.iload 9, 2) := by decide +kernel
theorem dL_law_526 : decode cL_law 526 = .ok (.bipush 10, 2) := by decide +kernel
theorem dL_law_528 : decode cL_law 528 = .ok (.if_icmp .ge 93, 3) := by decide +kernel
theorem dL_law_531 : decode cL_law 531 = .ok (.iload 8, 2) := by decide +kernel
theorem dL_law_533 : decode cL_law 533 = .ok (.iconst 3, 1) := by decide +kernel
theorem dL_law_534 : decode cL_law 534 = .ok (.irem, 1) := by decide +kernel
theorem dL_law_535 : decode cL_law 535 = .ok (.ifCond .ne 18, 3) := by decide +kernel
theorem dL_law_538 : decode cL_law 538 = .ok (.iload 8, 2) := by decide +kernel
theorem dL_law_540 : decode cL_law 540 = .ok (.iconst 3, 1) := by decide +kernel
theorem dL_law_541 : decode cL_law 541 = .ok (.idiv, 1) := by decide +kernel
theorem dL_law_542 : decode cL_law 542 = .ok (.sipush 601, 3) := by decide +kernel
theorem dL_law_545 : decode cL_law 545 = .ok (.irem, 1) := by decide +kernel
theorem dL_law_546 : decode cL_law 546 = .ok (.sipush 300, 3) := by decide +kernel
theorem dL_law_549 : decode cL_law 549 = .ok (.isub, 1) := by decide +kernel
theorem dL_law_550 : decode cL_law 550 = .ok (.goto 11, 3) := by decide +kernel
theorem dL_law_553 : decode cL_law 553 = .ok (.iload 8, 2) := by decide +kernel
theorem dL_law_555 : decode cL_law 555 = .ok (.iconst 3, 1) := by decide +kernel
theorem dL_law_556 : decode cL_law 556 = .ok (.idiv, 1) := by decide +kernel
theorem dL_law_557 : decode cL_law 557 = .ok (.sipush 300, 3) := by decide +kernel
theorem dL_law_560 : decode cL_law 560 = .ok (.irem, 1) := by decide +kernel
theorem dL_law_561 : decode cL_law 561 = .ok (.istore 10, 2) := by decide +kernel
theorem dL_law_563 : decode cL_law 563 = .ok (.aload_n 1, 1) := by decide +kernel
theorem dL_law_564 : decode cL_law 564 = .ok (.iload 10, 2) := by decide +kernel
theorem dL_law_566 : decode cL_law 566 = .ok (.iload 8, 2) := by decide +kernel
theorem dL_law_568 : decode cL_law 568 = .ok (.bipush 7, 2) := by decide +kernel
theorem dL_law_570 : decode cL_law 570 = .ok (.idiv, 1) := by decide +kernel
theorem dL_law_571 : decode cL_law 571 = .ok (.bipush 21, 2) := by decide +kernel
theorem dL_law_573 : decode cL_law 573 = .ok (.irem, 1) := by decide +kernel
theorem dL_law_574 : decode cL_law 574 = .ok (.iload 8, 2) := by decide +kernel
theorem dL_law_576 : decode cL_law 576 = .ok (.iconst 5, 1) := by decide +kernel
theorem dL_law_577 : decode cL_law 577 = .ok (.idiv, 1) := by decide +kernel
theorem dL_law_578 : decode cL_law 578 = .ok (.bipush 10, 2) := by decide +kernel
theorem dL_law_580 : decode cL_law 580 = .ok (.irem, 1) := by decide +kernel
theorem dL_law_581 : decode cL_law 581 = .ok (.invokestatic 88, 3) := by decide +kernel
theorem dL_law_584 : decode cL_law 584 = .ok (.ifCond .eq 31, 3) := by decide +kernel
theorem dL_law_587 : decode cL_law 587 = .ok (.aload_n 2, 1) := by decide +kernel
theorem dL_law_588 : decode cL_law 588 = .ok (.iload 10, 2) := by decide +kernel
theorem dL_law_590 : decode cL_law 590 = .ok (.iload 8, 2) := by decide +kernel
theorem dL_law_592 : decode cL_law 592 = .ok (.bipush 7, 2) := by decide +kernel
theorem dL_law_594 : decode cL_law 594 = .ok (.idiv, 1) := by decide +kernel
theorem dL_law_595 : decode cL_law 595 = .ok (.bipush 21, 2) := by decide +kernel
theorem dL_law_597 : decode cL_law 597 = .ok (.irem, 1) := by decide +kernel
theorem dL_law_598 : decode cL_law 598 = .ok (.iload 8, 2) := by decide +kernel
theorem dL_law_600 : decode cL_law 600 = .ok (.iconst 5, 1) := by decide +kernel
theorem dL_law_601 : decode cL_law 601 = .ok (.idiv, 1) := by decide +kernel
theorem dL_law_602 : decode cL_law 602 = .ok (.bipush 10, 2) := by decide +kernel
theorem dL_law_604 : decode cL_law 604 = .ok (.irem, 1) := by decide +kernel
theorem dL_law_605 : decode cL_law 605 = .ok (.invokestatic 88, 3) := by decide +kernel
theorem dL_law_608 : decode cL_law 608 = .ok (.ifCond .eq 7, 3) := by decide +kernel
theorem dL_law_611 : decode cL_law 611 = .ok (.iconst 1, 1) := by decide +kernel
theorem dL_law_612 : decode cL_law 612 = .ok (.goto 4, 3) := by decide +kernel
theorem dL_law_615 : decode cL_law 615 = .ok (.iconst 0, 1) := by decide +kernel
theorem dL_law_616 : decode cL_law 616 = .ok (.istore 5, 2) := by decide +kernel
theorem dL_law_618 : decode cL_law 618 = .ok (.goto 65, 3) := by decide +kernel
theorem dL_law_621 : decode cL_law 621 = .ok (.iload 9, 2) := by decide +kernel
theorem dL_law_623 : decode cL_law 623 = .ok (.bipush 10, 2) := by decide +kernel
theorem dL_law_625 : decode cL_law 625 = .ok (.if_icmp .ne 40, 3) := by decide +kernel
theorem dL_law_628 : decode cL_law 628 = .ok (.aload_n 1, 1) := by decide +kernel
theorem dL_law_629 : decode cL_law 629 = .ok (.iconst 1, 1) := by decide +kernel
theorem dL_law_630 : decode cL_law 630 = .ok (.iload 8, 2) := by decide +kernel
theorem dL_law_632 : decode cL_law 632 = .ok (.sipush 200, 3) := by decide +kernel
theorem dL_law_635 : decode cL_law 635 = .ok (.irem, 1) := by decide +kernel
theorem dL_law_636 : decode cL_law 636 = .ok (.iconst 0, 1) := by decide +kernel
theorem dL_law_637 : decode cL_law 637 = .ok (.invokestatic 75, 3) := by decide +kernel
theorem dL_law_640 : decode cL_law 640 = .ok (.aload_n 2, 1) := by decide +kernel
theorem dL_law_641 : decode cL_law 641 = .ok (.iconst 1, 1) := by decide +kernel
theorem dL_law_642 : decode cL_law 642 = .ok (.iload 8, 2) := by decide +kernel
theorem dL_law_644 : decode cL_law 644 = .ok (.sipush 200, 3) := by decide +kernel
theorem dL_law_647 : decode cL_law 647 = .ok (.irem, 1) := by decide +kernel
theorem dL_law_648 : decode cL_law 648 = .ok (.iconst 0, 1) := by decide +kernel
theorem dL_law_649 : decode cL_law 649 = .ok (.invokestatic 75, 3) := by decide +kernel
theorem dL_law_652 : decode cL_law 652 = .ok (.if_icmp .ne 7, 3) := by decide +kernel
theorem dL_law_655 : decode cL_law 655 = .ok (.iconst 1, 1) := by decide +kernel
theorem dL_law_656 : decode cL_law 656 = .ok (.goto 4, 3) := by decide +kernel
theorem dL_law_659 : decode cL_law 659 = .ok (.iconst 0, 1) := by decide +kernel
theorem dL_law_660 : decode cL_law 660 = .ok (.istore 5, 2) := by decide +kernel
theorem dL_law_662 : decode cL_law 662 = .ok (.goto 21, 3) := by decide +kernel
theorem dL_law_665 : decode cL_law 665 = .ok (.aload_n 1, 1) := by decide +kernel
theorem dL_law_666 : decode cL_law 666 = .ok (.invokevirtual 91, 3) := by decide +kernel
theorem dL_law_669 : decode cL_law 669 = .ok (.aload_n 2, 1) := by decide +kernel
theorem dL_law_670 : decode cL_law 670 = .ok (.invokevirtual 91, 3) := by decide +kernel
theorem dL_law_673 : decode cL_law 673 = .ok (.if_icmp .ne 7, 3) := by decide +kernel
theorem dL_law_676 : decode cL_law 676 = .ok (.iconst 1, 1) := by decide +kernel
theorem dL_law_677 : decode cL_law 677 = .ok (.goto 4, 3) := by decide +kernel
theorem dL_law_680 : decode cL_law 680 = .ok (.iconst 0, 1) := by decide +kernel
theorem dL_law_681 : decode cL_law 681 = .ok (.istore 5, 2) := by decide +kernel
theorem dL_law_683 : decode cL_law 683 = .ok (.iload 5, 2) := by decide +kernel
theorem dL_law_685 : decode cL_law 685 = .ok (.ifCond .eq 18, 3) := by decide +kernel
theorem dL_law_688 : decode cL_law 688 = .ok (.aload_n 1, 1) := by decide +kernel
theorem dL_law_689 : decode cL_law 689 = .ok (.aload_n 2, 1) := by decide +kernel
theorem dL_law_690 : decode cL_law 690 = .ok (.iload_n 3, 1) := by decide +kernel
theorem dL_law_691 : decode cL_law 691 = .ok (.iload 8, 2) := by decide +kernel
theorem dL_law_693 : decode cL_law 693 = .ok (.invokestatic 95, 3) := by decide +kernel
theorem dL_law_696 : decode cL_law 696 = .ok (.ifCond .eq 7, 3) := by decide +kernel
theorem dL_law_699 : decode cL_law 699 = .ok (.iconst 1, 1) := by decide +kernel
theorem dL_law_700 : decode cL_law 700 = .ok (.goto 4, 3) := by decide +kernel
theorem dL_law_703 : decode cL_law 703 = .ok (.iconst 0, 1) := by decide +kernel
theorem dL_law_704 : decode cL_law 704 = .ok (.istore 5, 2) := by decide +kernel
theorem dL_law_706 : decode cL_law 706 = .ok (.iinc 6 1, 3) := by decide +kernel
theorem dL_law_709 : decode cL_law 709 = .ok (.goto (-585), 3) := by decide +kernel
theorem dL_law_712 : decode cL_law 712 = .ok (.iload 5, 2) := by decide +kernel
theorem dL_law_714 : decode cL_law 714 = .ok (.ireturn, 1) := by decide +kernel
abbrev vwCl : List vw_C := [(RX0, TX0, 7), (RX1, TX1, 2), (RX2, TX2, 3), (RX3, TX3, 16), (RX4, TX4, 5), (RX5, TX5, 4)]
