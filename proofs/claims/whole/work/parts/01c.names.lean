theorem dX5_iceAnew_12 : decode cX5_iceAnew 12 = .ok (.aload_n 1, 1) := by decide +kernel
theorem dX5_iceAnew_13 : decode cX5_iceAnew 13 = .ok (.getfield 92, 3) := by decide +kernel
theorem dX5_iceAnew_16 : decode cX5_iceAnew 16 = .ok (.iadd, 1) := by decide +kernel
theorem dX5_iceAnew_17 : decode cX5_iceAnew 17 = .ok (.aload_n 1, 1) := by decide +kernel
theorem dX5_iceAnew_18 : decode cX5_iceAnew 18 = .ok (.getfield 162, 3) := by decide +kernel
theorem dX5_iceAnew_21 : decode cX5_iceAnew 21 = .ok (.isub, 1) := by decide +kernel
theorem dX5_iceAnew_22 : decode cX5_iceAnew 22 = .ok (.aload_n 1, 1) := by decide +kernel
theorem dX5_iceAnew_23 : decode cX5_iceAnew 23 = .ok (.getfield 156, 3) := by decide +kernel
theorem dX5_iceAnew_26 : decode cX5_iceAnew 26 = .ok (.isub, 1) := by decide +kernel
theorem dX5_iceAnew_27 : decode cX5_iceAnew 27 = .ok (.ireturn, 1) := by decide +kernel
set_option maxRecDepth 20000 in
theorem ggX5_would_X5_needCell : GoodIn wsX5_would wsX5_needCell := goodIn_ca (goodIn_r _ [5, 6, 7] (by decide +kernel) (by decide +kernel)) (goodIn_sub (fun _ h => List.mem_cons_of_mem _ (List.mem_append_left _ (List.mem_append_left _ (List.mem_append_right _ h)))) (by decide +kernel))
set_option maxRecDepth 20000 in
theorem gX5_would_X5_needCell : GoodIn wsX5_would (va_wsS RX5 33 yX5_needCell wsX5_needCell) := goodIn_app (goodIn_of _ (by decide +kernel)) ggX5_would_X5_needCell
set_option maxRecDepth 20000 in
theorem ggX5_would_X5_needWithin : GoodIn wsX5_would wsX5_needWithin := goodIn_ca (goodIn_r _ [10, 11, 12] (by decide +kernel) (by decide +kernel)) (goodIn_sub (fun _ h => List.mem_cons_of_mem _ (List.mem_append_left _ (List.mem_append_right _ h))) (by decide +kernel))
set_option maxRecDepth 20000 in
theorem gX5_would_X5_needWithin : GoodIn wsX5_would (va_wsS RX5 37 yX5_needWithin wsX5_needWithin) := goodIn_app (goodIn_of _ (by decide +kernel)) ggX5_would_X5_needWithin
set_option maxRecDepth 20000 in
theorem ggX5_would_X5_needNotTooLate : GoodIn wsX5_would wsX5_needNotTooLate := goodIn_ca (goodIn_r _ [16, 17, 18, 19, 20, 164, 165, 166, 167, 168, 169, 170, 171, 172, 173, 174, 175, 176, 177, 178, 179, 180, 181, 182, 183] (by decide +kernel) (by decide +kernel)) (goodIn_sub (fun _ h => List.mem_cons_of_mem _ (List.mem_append_right _ h)) (by decide +kernel))
set_option maxRecDepth 20000 in
theorem gX5_would_X5_needNotTooLate : GoodIn wsX5_would (wsV RX5 101 RX5 yX5_needNotTooLate wsX5_needNotTooLate) := goodIn_app (goodIn_of _ (by decide +kernel)) ggX5_would_X5_needNotTooLate
set_option maxRecDepth 20000 in
theorem ggX5_would_X5_tryOut : GoodIn wsX5_would wsX5_tryOut := goodIn_r _ [24, 1, 19, 25, 26, 27, 28, 29, 30, 31, 32, 33, 34, 35, 36, 37, 38, 39, 40, 41, 42, 43, 44, 45, 46, 47, 48, 49, 50, 51, 52, 53, 54, 55, 56, 57, 58, 59, 60, 61, 62, 63, 64, 65, 66, 67, 68, 69, 70, 71, 72, 73, 74, 75, 76, 77, 78, 79, 80, 81, 82, 83, 84, 85, 86, 87, 88, 89, 90, 91, 92, 93, 94, 95, 96, 97, 98, 99, 100, 101, 102, 103, 104, 105, 106, 107, 108, 109, 110, 111, 112, 113, 114, 115, 116, 117, 118, 119, 120, 121, 122, 123, 124, 125, 126, 127, 128, 129, 130, 131, 132, 133, 134, 135, 136, 137, 138, 139, 140, 141, 142, 143, 144, 145, 146, 147, 148, 149, 150, 151, 152, 164, 165, 166, 167, 168, 169, 170, 171, 172, 173, 174, 175, 176, 177, 178, 179, 180, 181, 182, 183, 184, 185, 186, 187, 188, 189, 190] (by decide +kernel) (by decide +kernel)
set_option maxRecDepth 20000 in
theorem gX5_would_X5_tryOut : GoodIn wsX5_would (wsV RX5 165 RX5 yX5_tryOut wsX5_tryOut) := goodIn_app (goodIn_of _ (by decide +kernel)) ggX5_would_X5_tryOut
set_option maxRecDepth 20000 in
theorem ggX5_would_X3_tellOf : GoodIn wsX5_would wsX3_tellOf := goodIn_r _ [156, 36, 35, 61, 42, 43, 60, 41, 69, 70, 71, 28, 72, 157, 158, 159, 160, 100, 161, 162, 66, 163, 77, 78, 79, 80, 31, 126, 127, 128, 129, 168, 169, 170, 171, 172, 173, 174, 175, 176, 177, 178, 179, 180, 181, 182, 183, 184, 185] (by decide +kernel) (by decide +kernel)
set_option maxRecDepth 20000 in
theorem gX5_would_X3_tellOf : GoodIn wsX5_would (wsV RX5 111 RX3 yX3_tellOf wsX3_tellOf) := goodIn_app (goodIn_of _ (by decide +kernel)) ggX5_would_X3_tellOf
theorem dX5_would_0 : decode cX5_would 0 = .ok (.iload_n 2, 1) := by decide +kernel
theorem dX5_would_1 : decode cX5_would 1 = .ok (.invokestatic 33, 3) := by decide +kernel
theorem dX5_would_4 : decode cX5_would 4 = .ok (.iload_n 1, 1) := by decide +kernel
theorem dX5_would_5 : decode cX5_would 5 = .ok (.iconst 1, 1) := by decide +kernel
theorem dX5_would_6 : decode cX5_would 6 = .ok (.bipush 20, 2) := by decide +kernel
theorem dX5_would_8 : decode cX5_would 8 = .ok (.invokestatic 37, 3) := by decide +kernel
theorem dX5_would_11 : decode cX5_would 11 = .ok (.iload_n 3, 1) := by decide +kernel
theorem dX5_would_12 : decode cX5_would 12 = .ok (.iconst 0, 1) := by decide +kernel
theorem dX5_would_13 : decode cX5_would 13 = .ok (.bipush 9, 2) := by decide +kernel
theorem dX5_would_15 : decode cX5_would 15 = .ok (.invokestatic 37, 3) := by decide +kernel
theorem dX5_would_18 : decode cX5_would 18 = .ok (.aload_n 0, 1) := by decide +kernel
theorem dX5_would_19 : decode cX5_would 19 = .ok (.iload_n 1, 1) := by decide +kernel
theorem dX5_would_20 : decode cX5_would 20 = .ok (.invokevirtual 101, 3) := by decide +kernel
theorem dX5_would_23 : decode cX5_would 23 = .ok (.aload_n 0, 1) := by decide +kernel
theorem dX5_would_24 : decode cX5_would 24 = .ok (.iload_n 1, 1) := by decide +kernel
theorem dX5_would_25 : decode cX5_would 25 = .ok (.invokevirtual 165, 3) := by decide +kernel
theorem dX5_would_28 : decode cX5_would 28 = .ok (.aload_n 0, 1) := by decide +kernel
theorem dX5_would_29 : decode cX5_would 29 = .ok (.getfield 16, 3) := by decide +kernel
theorem dX5_would_32 : decode cX5_would 32 = .ok (.iload_n 2, 1) := by decide +kernel
theorem dX5_would_33 : decode cX5_would 33 = .ok (.iload_n 3, 1) := by decide +kernel
theorem dX5_would_34 : decode cX5_would 34 = .ok (.invokevirtual 111, 3) := by decide +kernel
theorem dX5_would_37 : decode cX5_would 37 = .ok (.ireturn, 1) := by decide +kernel
set_option maxRecDepth 20000 in
theorem ggX5_forecast_X5_needWithin : GoodIn wsX5_forecast wsX5_needWithin := goodIn_ca (goodIn_r _ [11, 12, 13] (by decide +kernel) (by decide +kernel)) (goodIn_sub (fun _ h => List.mem_cons_of_mem _ (List.mem_append_right _ h)) (by decide +kernel))
set_option maxRecDepth 20000 in
theorem gX5_forecast_X5_needWithin : GoodIn wsX5_forecast (va_wsS RX5 37 yX5_needWithin wsX5_needWithin) := goodIn_app (goodIn_of _ (by decide +kernel)) ggX5_forecast_X5_needWithin
set_option maxRecDepth 20000 in
theorem ggX5_forecast_X5_needNotTooLate : GoodIn wsX5_forecast wsX5_needNotTooLate := goodIn_ca (goodIn_r _ [17, 1, 2, 18, 7, 163, 164, 165, 166, 170, 171, 172, 173, 174, 175, 176, 177, 178, 179, 180, 181, 182, 183, 184, 185] (by decide +kernel) (by decide +kernel)) (goodIn_sub (fun _ h => List.mem_cons_of_mem _ (List.mem_append_left _ (List.mem_append_right _ h))) (by decide +kernel))
set_option maxRecDepth 20000 in
theorem gX5_forecast_X5_needNotTooLate : GoodIn wsX5_forecast (wsV RX5 101 RX5 yX5_needNotTooLate wsX5_needNotTooLate) := goodIn_app (goodIn_of _ (by decide +kernel)) ggX5_forecast_X5_needNotTooLate
set_option maxRecDepth 20000 in
theorem ggX5_forecast_X5_tryOut : GoodIn wsX5_forecast wsX5_tryOut := goodIn_r _ [22, 5, 18, 23, 24, 25, 26, 27, 28, 29, 30, 31, 32, 33, 34, 35, 36, 37, 38, 39, 40, 41, 42, 43, 44, 45, 46, 47, 48, 49, 50, 51, 52, 53, 54, 55, 56, 57, 58, 59, 60, 61, 62, 63, 64, 65, 66, 67, 68, 69, 70, 71, 72, 73, 74, 75, 76, 77, 78, 79, 80, 81, 82, 83, 84, 85, 86, 87, 88, 89, 90, 91, 92, 93, 94, 95, 96, 97, 98, 99, 100, 101, 102, 103, 104, 105, 106, 107, 108, 109, 110, 111, 112, 113, 114, 115, 116, 117, 118, 119, 120, 121, 122, 123, 124, 125, 126, 127, 128, 129, 130, 131, 132, 133, 134, 135, 136, 137, 138, 139, 140, 141, 142, 143, 144, 145, 146, 147, 148, 149, 150, 163, 164, 165, 166, 170, 171, 172, 173, 174, 175, 176, 177, 178, 179, 180, 181, 182, 183, 184, 185, 186, 187, 188, 189, 190, 191, 192] (by decide +kernel) (by decide +kernel)
set_option maxRecDepth 20000 in
theorem gX5_forecast_X5_tryOut : GoodIn wsX5_forecast (wsV RX5 165 RX5 yX5_tryOut wsX5_tryOut) := goodIn_app (goodIn_of _ (by decide +kernel)) ggX5_forecast_X5_tryOut
set_option maxRecDepth 20000 in
theorem ggX5_forecast_X1_allIce : GoodIn wsX5_forecast wsX1_allIce := goodIn_r _ [154, 47, 186, 187] (by decide +kernel) (by decide +kernel)
set_option maxRecDepth 20000 in
theorem gX5_forecast_X1_allIce : GoodIn wsX5_forecast (wsV RX5 146 RX1 yX1_allIce wsX1_allIce) := goodIn_app (goodIn_of _ (by decide +kernel)) ggX5_forecast_X1_allIce
set_option maxRecDepth 20000 in
theorem ggX5_forecast_X2_keep : GoodIn wsX5_forecast wsX2_keep := goodIn_r _ [159, 160, 161, 162, 167, 168, 169] (by decide +kernel) (by decide +kernel)
set_option maxRecDepth 20000 in
theorem gX5_forecast_X2_keep : GoodIn wsX5_forecast (wsV RX5 173 RX2 yX2_keep wsX2_keep) := goodIn_app (goodIn_of _ (by decide +kernel)) ggX5_forecast_X2_keep
theorem dX5_forecast_0 : decode cX5_forecast 0 = .ok (.iload_n 1, 1) := by decide +kernel
theorem dX5_forecast_1 : decode cX5_forecast 1 = .ok (.iconst 1, 1) := by decide +kernel
theorem dX5_forecast_2 : decode cX5_forecast 2 = .ok (.bipush 20, 2) := by decide +kernel
theorem dX5_forecast_4 : decode cX5_forecast 4 = .ok (.invokestatic 37, 3) := by decide +kernel
theorem dX5_forecast_7 : decode cX5_forecast 7 = .ok (.aload_n 0, 1) := by decide +kernel
theorem dX5_forecast_8 : decode cX5_forecast 8 = .ok (.iload_n 1, 1) := by decide +kernel
theorem dX5_forecast_9 : decode cX5_forecast 9 = .ok (.invokevirtual 101, 3) := by decide +kernel
theorem dX5_forecast_12 : decode cX5_forecast 12 = .ok (.aload_n 0, 1) := by decide +kernel
theorem dX5_forecast_13 : decode cX5_forecast 13 = .ok (.getfield 29, 3) := by decide +kernel
theorem dX5_forecast_16 : decode cX5_forecast 16 = .ok (.getfield 168, 3) := by decide +kernel
theorem dX5_forecast_19 : decode cX5_forecast 19 = .ok (.bipush 10, 2) := by decide +kernel
theorem dX5_forecast_21 : decode cX5_forecast 21 = .ok (.if_icmp .lt 13, 3) := by decide +kernel
theorem dX5_forecast_24 : decode cX5_forecast 24 = .ok (.new 54, 3) := by decide +kernel
theorem dX5_forecast_27 : decode cX5_forecast 27 = .ok (.dup, 1) := by decide +kernel
theorem dX5_forecast_28 : decode cX5_forecast 28 = .ok (.ldc 171, 2) := by decide +kernel
theorem dX5_forecast_30 : decode cX5_forecast 30 = .ok (.invokespecial 58, 3) := by decide +kernel
theorem dX5_forecast_33 : decode cX5_forecast 33 = .ok (.athrow, 1) := by decide +kernel
theorem dX5_forecast_34 : decode cX5_forecast 34 = .ok (.aload_n 0, 1) := by decide +kernel
theorem dX5_forecast_35 : decode cX5_forecast 35 = .ok (.iload_n 1, 1) := by decide +kernel
theorem dX5_forecast_36 : decode cX5_forecast 36 = .ok (.invokevirtual 165, 3) := by decide +kernel
theorem dX5_forecast_39 : decode cX5_forecast 39 = .ok (.aload_n 0, 1) := by decide +kernel
theorem dX5_forecast_40 : decode cX5_forecast 40 = .ok (.getfield 16, 3) := by decide +kernel
theorem dX5_forecast_43 : decode cX5_forecast 43 = .ok (.getfield 41, 3) := by decide +kernel
theorem dX5_forecast_46 : decode cX5_forecast 46 = .ok (.invokevirtual 146, 3) := by decide +kernel
theorem dX5_forecast_49 : decode cX5_forecast 49 = .ok (.istore_n 2, 1) := by decide +kernel
theorem dX5_forecast_50 : decode cX5_forecast 50 = .ok (.aload_n 0, 1) := by decide +kernel
theorem dX5_forecast_51 : decode cX5_forecast 51 = .ok (.getfield 29, 3) := by decide +kernel
theorem dX5_forecast_54 : decode cX5_forecast 54 = .ok (.aload_n 0, 1) := by decide +kernel
theorem dX5_forecast_55 : decode cX5_forecast 55 = .ok (.getfield 16, 3) := by decide +kernel
theorem dX5_forecast_58 : decode cX5_forecast 58 = .ok (.getfield 82, 3) := by decide +kernel
theorem dX5_forecast_61 : decode cX5_forecast 61 = .ok (.iload_n 2, 1) := by decide +kernel
theorem dX5_forecast_62 : decode cX5_forecast 62 = .ok (.invokevirtual 173, 3) := by decide +kernel
theorem dX5_forecast_65 : decode cX5_forecast 65 = .ok (.iload_n 2, 1) := by decide +kernel
theorem dX5_forecast_66 : decode cX5_forecast 66 = .ok (.ireturn, 1) := by decide +kernel
theorem dX5_miss_0 : decode cX5_miss 0 = .ok (.iload_n 1, 1) := by decide +kernel
theorem dX5_miss_1 : decode cX5_miss 1 = .ok (.ifCond .lt 14, 3) := by decide +kernel
theorem dX5_miss_4 : decode cX5_miss 4 = .ok (.iload_n 1, 1) := by decide +kernel
theorem dX5_miss_5 : decode cX5_miss 5 = .ok (.aload_n 0, 1) := by decide +kernel
theorem dX5_miss_6 : decode cX5_miss 6 = .ok (.getfield 29, 3) := by decide +kernel
theorem dX5_miss_9 : decode cX5_miss 9 = .ok (.getfield 168, 3) := by decide +kernel
theorem dX5_miss_12 : decode cX5_miss 12 = .ok (.if_icmp .lt 13, 3) := by decide +kernel
theorem dX5_miss_15 : decode cX5_miss 15 = .ok (.new 129, 3) := by decide +kernel
theorem dX5_miss_18 : decode cX5_miss 18 = .ok (.dup, 1) := by decide +kernel
theorem dX5_miss_19 : decode cX5_miss 19 = .ok (.ldc 177, 2) := by decide +kernel
theorem dX5_miss_21 : decode cX5_miss 21 = .ok (.invokespecial 133, 3) := by decide +kernel
theorem dX5_miss_24 : decode cX5_miss 24 = .ok (.athrow, 1) := by decide +kernel
theorem dX5_miss_25 : decode cX5_miss 25 = .ok (.aload_n 0, 1) := by decide +kernel
theorem dX5_miss_26 : decode cX5_miss 26 = .ok (.getfield 29, 3) := by decide +kernel
theorem dX5_miss_29 : decode cX5_miss 29 = .ok (.getfield 179, 3) := by decide +kernel
theorem dX5_miss_32 : decode cX5_miss 32 = .ok (.iload_n 1, 1) := by decide +kernel
theorem dX5_miss_33 : decode cX5_miss 33 = .ok (.iaload, 1) := by decide +kernel
theorem dX5_miss_34 : decode cX5_miss 34 = .ok (.istore_n 2, 1) := by decide +kernel
theorem dX5_miss_35 : decode cX5_miss 35 = .ok (.iload_n 2, 1) := by decide +kernel
theorem dX5_miss_36 : decode cX5_miss 36 = .ok (.aload_n 0, 1) := by decide +kernel
theorem dX5_miss_37 : decode cX5_miss 37 = .ok (.getfield 10, 3) := by decide +kernel
theorem dX5_miss_40 : decode cX5_miss 40 = .ok (.getfield 82, 3) := by decide +kernel
theorem dX5_miss_43 : decode cX5_miss 43 = .ok (.if_icmp .le 5, 3) := by decide +kernel
theorem dX5_miss_46 : decode cX5_miss 46 = .ok (.iconst (-1), 1) := by decide +kernel
theorem dX5_miss_47 : decode cX5_miss 47 = .ok (.ireturn, 1) := by decide +kernel
theorem dX5_miss_48 : decode cX5_miss 48 = .ok (.aload_n 0, 1) := by decide +kernel
theorem dX5_miss_49 : decode cX5_miss 49 = .ok (.getfield 29, 3) := by decide +kernel
theorem dX5_miss_52 : decode cX5_miss 52 = .ok (.getfield 182, 3) := by decide +kernel
theorem dX5_miss_55 : decode cX5_miss 55 = .ok (.iload_n 1, 1) := by decide +kernel
theorem dX5_miss_56 : decode cX5_miss 56 = .ok (.iaload, 1) := by decide +kernel
theorem dX5_miss_57 : decode cX5_miss 57 = .ok (.aload_n 0, 1) := by decide +kernel
theorem dX5_miss_58 : decode cX5_miss 58 = .ok (.getfield 22, 3) := by decide +kernel
theorem dX5_miss_61 : decode cX5_miss 61 = .ok (.getfield 185, 3) := by decide +kernel
theorem dX5_miss_64 : decode cX5_miss 64 = .ok (.iload_n 2, 1) := by decide +kernel
theorem dX5_miss_65 : decode cX5_miss 65 = .ok (.iaload, 1) := by decide +kernel
theorem dX5_miss_66 : decode cX5_miss 66 = .ok (.isub, 1) := by decide +kernel
theorem dX5_miss_67 : decode cX5_miss 67 = .ok (.invokestatic 188, 3) := by decide +kernel
theorem dX5_miss_70 : decode cX5_miss 70 = .ok (.ireturn, 1) := by decide +kernel
set_option maxRecDepth 20000 in
theorem ggX5_tryOut_X3_becomeLike : GoodIn wsX5_tryOut wsX3_becomeLike := goodIn_r _ [7, 8, 9, 10, 11, 12, 13, 14, 15, 16, 17, 18, 19, 20, 21, 22, 23, 24, 25, 26, 27, 28, 29, 135, 136, 137, 138, 139, 140, 141, 142, 143, 144, 145, 146, 147, 148, 149, 150, 151, 152] (by decide +kernel) (by decide +kernel)
set_option maxRecDepth 20000 in
theorem gX5_tryOut_X3_becomeLike : GoodIn wsX5_tryOut (wsV RX5 194 RX3 yX3_becomeLike wsX3_becomeLike) := goodIn_app (goodIn_of _ (by decide +kernel)) ggX5_tryOut_X3_becomeLike
set_option maxRecDepth 20000 in
theorem ggX5_tryOut_X3_goThroughYear : GoodIn wsX5_tryOut wsX3_goThroughYear := goodIn_r _ [33, 8, 34, 35, 36, 6, 37, 10, 38, 13, 39, 11, 40, 41, 12, 42, 43, 44, 45, 20, 46, 47, 48, 49, 50, 14, 51, 52, 53, 54, 55, 56, 57, 58, 9, 59, 60, 61, 25, 62, 29, 27, 63, 64, 65, 66, 67, 68, 69, 70, 71, 72, 73, 74, 75, 76, 77, 78, 79, 80, 81, 82, 83, 84, 85, 86, 87, 88, 89, 90, 91, 92, 93, 94, 95, 96, 97, 98, 99, 100, 101, 102, 103, 104, 105, 106, 107, 108, 109, 110, 111, 112, 113, 114, 115, 116, 117, 118, 119, 120, 121, 122, 123, 124, 125, 19, 126, 127, 128, 129, 130, 21, 135, 136, 137, 138, 139, 140, 141, 142, 143, 144, 145, 146, 147, 148, 149, 150, 151, 152, 153, 154, 155, 156, 157] (by decide +kernel) (by decide +kernel)
set_option maxRecDepth 20000 in
theorem gX5_tryOut_X3_goThroughYear : GoodIn wsX5_tryOut (wsV RX5 104 RX3 yX3_goThroughYear wsX3_goThroughYear) := goodIn_app (goodIn_of _ (by decide +kernel)) ggX5_tryOut_X3_goThroughYear
theorem dX5_tryOut_0 : decode cX5_tryOut 0 = .ok (.aload_n 0, 1) := by decide +kernel
theorem dX5_tryOut_1 : decode cX5_tryOut 1 = .ok (.getfield 16, 3) := by decide +kernel
theorem dX5_tryOut_4 : decode cX5_tryOut 4 = .ok (.aload_n 0, 1) := by decide +kernel
theorem dX5_tryOut_5 : decode cX5_tryOut 5 = .ok (.getfield 10, 3) := by decide +kernel
theorem dX5_tryOut_8 : decode cX5_tryOut 8 = .ok (.invokevirtual 194, 3) := by decide +kernel
theorem dX5_tryOut_11 : decode cX5_tryOut 11 = .ok (.iconst 0, 1) := by decide +kernel
theorem dX5_tryOut_12 : decode cX5_tryOut 12 = .ok (.istore_n 2, 1) := by decide +kernel
theorem dX5_tryOut_13 : decode cX5_tryOut 13 = .ok (.iload_n 2, 1) := by decide +kernel
theorem dX5_tryOut_14 : decode cX5_tryOut 14 = .ok (.iload_n 1, 1) := by decide +kernel
theorem dX5_tryOut_15 : decode cX5_tryOut 15 = .ok (.if_icmp .ge 16, 3) := by decide +kernel
theorem dX5_tryOut_18 : decode cX5_tryOut 18 = .ok (.aload_n 0, 1) := by decide +kernel
theorem dX5_tryOut_19 : decode cX5_tryOut 19 = .ok (.getfield 16, 3) := by decide +kernel
theorem dX5_tryOut_22 : decode cX5_tryOut 22 = .ok (.invokevirtual 104, 3) := by decide +kernel
theorem dX5_tryOut_25 : decode cX5_tryOut 25 = .ok (.iinc 2 1, 3) := by decide +kernel
theorem dX5_tryOut_28 : decode cX5_tryOut 28 = .ok (.goto (-15), 3) := by decide +kernel
theorem dX5_tryOut_31 : decode cX5_tryOut 31 = .ok (.return_, 1) := by decide +kernel
theorem dX5_needNotTooLate_0 : decode cX5_needNotTooLate 0 = .ok (.aload_n 0, 1) := by decide +kernel
theorem dX5_needNotTooLate_1 : decode cX5_needNotTooLate 1 = .ok (.getfield 10, 3) := by decide +kernel
theorem dX5_needNotTooLate_4 : decode cX5_needNotTooLate 4 = .ok (.getfield 82, 3) := by decide +kernel
theorem dX5_needNotTooLate_7 : decode cX5_needNotTooLate 7 = .ok (.iload_n 1, 1) := by decide +kernel
theorem dX5_needNotTooLate_8 : decode cX5_needNotTooLate 8 = .ok (.iadd, 1) := by decide +kernel
theorem dX5_needNotTooLate_9 : decode cX5_needNotTooLate 9 = .ok (.bipush 60, 2) := by decide +kernel
theorem dX5_needNotTooLate_11 : decode cX5_needNotTooLate 11 = .ok (.if_icmp .le 13, 3) := by decide +kernel
theorem dX5_needNotTooLate_14 : decode cX5_needNotTooLate 14 = .ok (.new 54, 3) := by decide +kernel
theorem dX5_needNotTooLate_17 : decode cX5_needNotTooLate 17 = .ok (.dup, 1) := by decide +kernel
theorem dX5_needNotTooLate_18 : decode cX5_needNotTooLate 18 = .ok (.ldc 197, 2) := by decide +kernel
theorem dX5_needNotTooLate_20 : decode cX5_needNotTooLate 20 = .ok (.invokespecial 58, 3) := by decide +kernel
theorem dX5_needNotTooLate_23 : decode cX5_needNotTooLate 23 = .ok (.athrow, 1) := by decide +kernel
theorem dX5_needNotTooLate_24 : decode cX5_needNotTooLate 24 = .ok (.return_, 1) := by decide +kernel
theorem dX5_needCell_0 : decode cX5_needCell 0 = .ok (.iload_n 0, 1) := by decide +kernel
theorem dX5_needCell_1 : decode cX5_needCell 1 = .ok (.ifCond .lt 9, 3) := by decide +kernel
theorem dX5_needCell_4 : decode cX5_needCell 4 = .ok (.iload_n 0, 1) := by decide +kernel
theorem dX5_needCell_5 : decode cX5_needCell 5 = .ok (.bipush 12, 2) := by decide +kernel
theorem dX5_needCell_7 : decode cX5_needCell 7 = .ok (.if_icmp .lt 13, 3) := by decide +kernel
theorem dX5_needCell_10 : decode cX5_needCell 10 = .ok (.new 129, 3) := by decide +kernel
theorem dX5_needCell_13 : decode cX5_needCell 13 = .ok (.dup, 1) := by decide +kernel
theorem dX5_needCell_14 : decode cX5_needCell 14 = .ok (.ldc 199, 2) := by decide +kernel
theorem dX5_needCell_16 : decode cX5_needCell 16 = .ok (.invokespecial 133, 3) := by decide +kernel
theorem dX5_needCell_19 : decode cX5_needCell 19 = .ok (.athrow, 1) := by decide +kernel
theorem dX5_needCell_20 : decode cX5_needCell 20 = .ok (.return_, 1) := by decide +kernel
theorem dX5_needWithin_0 : decode cX5_needWithin 0 = .ok (.iload_n 0, 1) := by decide +kernel
theorem dX5_needWithin_1 : decode cX5_needWithin 1 = .ok (.iload_n 1, 1) := by decide +kernel
theorem dX5_needWithin_2 : decode cX5_needWithin 2 = .ok (.if_icmp .lt 8, 3) := by decide +kernel
theorem dX5_needWithin_5 : decode cX5_needWithin 5 = .ok (.iload_n 0, 1) := by decide +kernel
theorem dX5_needWithin_6 : decode cX5_needWithin 6 = .ok (.iload_n 2, 1) := by decide +kernel
theorem dX5_needWithin_7 : decode cX5_needWithin 7 = .ok (.if_icmp .le 13, 3) := by decide +kernel
theorem dX5_needWithin_10 : decode cX5_needWithin 10 = .ok (.new 118, 3) := by decide +kernel
theorem dX5_needWithin_13 : decode cX5_needWithin 13 = .ok (.dup, 1) := by decide +kernel
theorem dX5_needWithin_14 : decode cX5_needWithin 14 = .ok (.ldc 201, 2) := by decide +kernel
theorem dX5_needWithin_16 : decode cX5_needWithin 16 = .ok (.invokespecial 122, 3) := by decide +kernel
theorem dX5_needWithin_19 : decode cX5_needWithin 19 = .ok (.athrow, 1) := by decide +kernel
theorem dX5_needWithin_20 : decode cX5_needWithin 20 = .ok (.return_, 1) := by decide +kernel
theorem dX6_init_0 : decode cX6_init 0 = .ok (.aload_n 0, 1) := by decide +kernel
theorem dX6_init_1 : decode cX6_init 1 = .ok (.invokespecial 1, 3) := by decide +kernel
theorem dX6_init_4 : decode cX6_init 4 = .ok (.aload_n 0, 1) := by decide +kernel
theorem dX6_init_5 : decode cX6_init 5 = .ok (.sipush 1024, 3) := by decide +kernel
theorem dX6_init_8 : decode cX6_init 8 = .ok (.newarray .int, 2) := by decide +kernel
theorem dX6_init_10 : decode cX6_init 10 = .ok (.putfield 7, 3) := by decide +kernel
theorem dX6_init_13 : decode cX6_init 13 = .ok (.aload_n 0, 1) := by decide +kernel
theorem dX6_init_14 : decode cX6_init 14 = .ok (.sipush 1024, 3) := by decide +kernel
theorem dX6_init_17 : decode cX6_init 17 = .ok (.newarray .int, 2) := by decide +kernel
theorem dX6_init_19 : decode cX6_init 19 = .ok (.putfield 13, 3) := by decide +kernel
theorem dX6_init_22 : decode cX6_init 22 = .ok (.aload_n 0, 1) := by decide +kernel
theorem dX6_init_23 : decode cX6_init 23 = .ok (.bipush 61, 2) := by decide +kernel
theorem dX6_init_25 : decode cX6_init 25 = .ok (.newarray .boolean, 2) := by decide +kernel
theorem dX6_init_27 : decode cX6_init 27 = .ok (.putfield 16, 3) := by decide +kernel
theorem dX6_init_30 : decode cX6_init 30 = .ok (.aload_n 0, 1) := by decide +kernel
theorem dX6_init_31 : decode cX6_init 31 = .ok (.sipush 720, 3) := by decide +kernel
theorem dX6_init_34 : decode cX6_init 34 = .ok (.newarray .int, 2) := by decide +kernel
theorem dX6_init_36 : decode cX6_init 36 = .ok (.putfield 20, 3) := by decide +kernel
theorem dX6_init_39 : decode cX6_init 39 = .ok (.aload_n 0, 1) := by decide +kernel
theorem dX6_init_40 : decode cX6_init 40 = .ok (.sipush 720, 3) := by decide +kernel
theorem dX6_init_43 : decode cX6_init 43 = .ok (.newarray .int, 2) := by decide +kernel
theorem dX6_init_45 : decode cX6_init 45 = .ok (.putfield 23, 3) := by decide +kernel
theorem dX6_init_48 : decode cX6_init 48 = .ok (.aload_n 0, 1) := by decide +kernel
theorem dX6_init_49 : decode cX6_init 49 = .ok (.sipush 720, 3) := by decide +kernel
theorem dX6_init_52 : decode cX6_init 52 = .ok (.newarray .int, 2) := by decide +kernel
theorem dX6_init_54 : decode cX6_init 54 = .ok (.putfield 26, 3) := by decide +kernel
theorem dX6_init_57 : decode cX6_init 57 = .ok (.aload_n 0, 1) := by decide +kernel
theorem dX6_init_58 : decode cX6_init 58 = .ok (.bipush 10, 2) := by decide +kernel
theorem dX6_init_60 : decode cX6_init 60 = .ok (.newarray .int, 2) := by decide +kernel
theorem dX6_init_62 : decode cX6_init 62 = .ok (.putfield 29, 3) := by decide +kernel
theorem dX6_init_65 : decode cX6_init 65 = .ok (.aload_n 0, 1) := by decide +kernel
theorem dX6_init_66 : decode cX6_init 66 = .ok (.bipush 10, 2) := by decide +kernel
theorem dX6_init_68 : decode cX6_init 68 = .ok (.newarray .int, 2) := by decide +kernel
theorem dX6_init_70 : decode cX6_init 70 = .ok (.putfield 32, 3) := by decide +kernel
theorem dX6_init_73 : decode cX6_init 73 = .ok (.aload_n 0, 1) := by decide +kernel
theorem dX6_init_74 : decode cX6_init 74 = .ok (.bipush 10, 2) := by decide +kernel
theorem dX6_init_76 : decode cX6_init 76 = .ok (.newarray .int, 2) := by decide +kernel
theorem dX6_init_78 : decode cX6_init 78 = .ok (.putfield 35, 3) := by decide +kernel
theorem dX6_init_81 : decode cX6_init 81 = .ok (.aload_n 0, 1) := by decide +kernel
theorem dX6_init_82 : decode cX6_init 82 = .ok (.bipush 11, 2) := by decide +kernel
theorem dX6_init_84 : decode cX6_init 84 = .ok (.newarray .int, 2) := by decide +kernel
theorem dX6_init_86 : decode cX6_init 86 = .ok (.putfield 38, 3) := by decide +kernel
theorem dX6_init_89 : decode cX6_init 89 = .ok (.iconst 0, 1) := by decide +kernel
theorem dX6_init_90 : decode cX6_init 90 = .ok (.istore_n 1, 1) := by decide +kernel
theorem dX6_init_91 : decode cX6_init 91 = .ok (.iload_n 1, 1) := by decide +kernel
theorem dX6_init_92 : decode cX6_init 92 = .ok (.bipush 12, 2) := by decide +kernel
theorem dX6_init_94 : decode cX6_init 94 = .ok (.if_icmp .ge 30, 3) := by decide +kernel
theorem dX6_init_97 : decode cX6_init 97 = .ok (.aload_n 0, 1) := by decide +kernel
theorem dX6_init_98 : decode cX6_init 98 = .ok (.getfield 7, 3) := by decide +kernel
theorem dX6_init_101 : decode cX6_init 101 = .ok (.iconst 0, 1) := by decide +kernel
theorem dX6_init_102 : decode cX6_init 102 = .ok (.iload_n 1, 1) := by decide +kernel
theorem dX6_init_103 : decode cX6_init 103 = .ok (.iadd, 1) := by decide +kernel
theorem dX6_init_104 : decode cX6_init 104 = .ok (.bipush 100, 2) := by decide +kernel
theorem dX6_init_106 : decode cX6_init 106 = .ok (.iastore, 1) := by decide +kernel
theorem dX6_init_107 : decode cX6_init 107 = .ok (.aload_n 0, 1) := by decide +kernel
theorem dX6_init_108 : decode cX6_init 108 = .ok (.getfield 7, 3) := by decide +kernel
theorem dX6_init_111 : decode cX6_init 111 = .ok (.bipush 12, 2) := by decide +kernel
theorem dX6_init_113 : decode cX6_init 113 = .ok (.iload_n 1, 1) := by decide +kernel
theorem dX6_init_114 : decode cX6_init 114 = .ok (.iadd, 1) := by decide +kernel
theorem dX6_init_115 : decode cX6_init 115 = .ok (.bipush 100, 2) := by decide +kernel
theorem dX6_init_117 : decode cX6_init 117 = .ok (.iastore, 1) := by decide +kernel
theorem dX6_init_118 : decode cX6_init 118 = .ok (.iinc 1 1, 3) := by decide +kernel
theorem dX6_init_121 : decode cX6_init 121 = .ok (.goto (-30), 3) := by decide +kernel
theorem dX6_init_124 : decode cX6_init 124 = .ok (.aload_n 0, 1) := by decide +kernel
theorem dX6_init_125 : decode cX6_init 125 = .ok (.getfield 7, 3) := by decide +kernel
theorem dX6_init_128 : decode cX6_init 128 = .ok (.sipush 900, 3) := by decide +kernel
theorem dX6_init_131 : decode cX6_init 131 = .ok (.iconst (-1), 1) := by decide +kernel
theorem dX6_init_132 : decode cX6_init 132 = .ok (.iastore, 1) := by decide +kernel
theorem dX6_init_133 : decode cX6_init 133 = .ok (.return_, 1) := by decide +kernel
theorem dX6_thrown_0 : decode cX6_thrown 0 = .ok (.aload_n 0, 1) := by decide +kernel
theorem dX6_thrown_1 : decode cX6_thrown 1 = .ok (.getfield 41, 3) := by decide +kernel
theorem dX6_thrown_4 : decode cX6_thrown 4 = .ok (.ireturn, 1) := by decide +kernel
theorem dX6_asked_0 : decode cX6_asked 0 = .ok (.aload_n 0, 1) := by decide +kernel
theorem dX6_asked_1 : decode cX6_asked 1 = .ok (.iload_n 1, 1) := by decide +kernel
theorem dX6_asked_2 : decode cX6_asked 2 = .ok (.ifCond .eq 7, 3) := by decide +kernel
theorem dX6_asked_5 : decode cX6_asked 5 = .ok (.iconst 0, 1) := by decide +kernel
theorem dX6_asked_6 : decode cX6_asked 6 = .ok (.goto 4, 3) := by decide +kernel
theorem dX6_asked_9 : decode cX6_asked 9 = .ok (.iconst 1, 1) := by decide +kernel
theorem dX6_asked_10 : decode cX6_asked 10 = .ok (.putfield 41, 3) := by decide +kernel
theorem dX6_asked_13 : decode cX6_asked 13 = .ok (.iload_n 1, 1) := by decide +kernel
theorem dX6_asked_14 : decode cX6_asked 14 = .ok (.ireturn, 1) := by decide +kernel
theorem dX6_asked__0 : decode cX6_asked_ 0 = .ok (.aload_n 0, 1) := by decide +kernel
theorem dX6_asked__1 : decode cX6_asked_ 1 = .ok (.iload_n 1, 1) := by decide +kernel
theorem dX6_asked__2 : decode cX6_asked_ 2 = .ok (.ifCond .ne 7, 3) := by decide +kernel
theorem dX6_asked__5 : decode cX6_asked_ 5 = .ok (.iconst 1, 1) := by decide +kernel
theorem dX6_asked__6 : decode cX6_asked_ 6 = .ok (.goto 12, 3) := by decide +kernel
theorem dX6_asked__9 : decode cX6_asked_ 9 = .ok (.iload_n 2, 1) := by decide +kernel
theorem dX6_asked__10 : decode cX6_asked_ 10 = .ok (.ifCond .eq 7, 3) := by decide +kernel
theorem dX6_asked__13 : decode cX6_asked_ 13 = .ok (.iconst 0, 1) := by decide +kernel
theorem dX6_asked__14 : decode cX6_asked_ 14 = .ok (.goto 4, 3) := by decide +kernel
theorem dX6_asked__17 : decode cX6_asked_ 17 = .ok (.iconst 2, 1) := by decide +kernel
theorem dX6_asked__18 : decode cX6_asked_ 18 = .ok (.putfield 41, 3) := by decide +kernel
theorem dX6_asked__21 : decode cX6_asked_ 21 = .ok (.aload_n 0, 1) := by decide +kernel
theorem dX6_asked__22 : decode cX6_asked_ 22 = .ok (.getfield 41, 3) := by decide +kernel
theorem dX6_asked__25 : decode cX6_asked_ 25 = .ok (.ifCond .ne 7, 3) := by decide +kernel
theorem dX6_asked__28 : decode cX6_asked_ 28 = .ok (.iconst 1, 1) := by decide +kernel
theorem dX6_asked__29 : decode cX6_asked_ 29 = .ok (.goto 4, 3) := by decide +kernel
theorem dX6_asked__32 : decode cX6_asked_ 32 = .ok (.iconst 0, 1) := by decide +kernel
theorem dX6_asked__33 : decode cX6_asked_ 33 = .ok (.ireturn, 1) := by decide +kernel
theorem dX6_asked___0 : decode cX6_asked__ 0 = .ok (.aload_n 0, 1) := by decide +kernel
theorem dX6_asked___1 : decode cX6_asked__ 1 = .ok (.iload_n 1, 1) := by decide +kernel
theorem dX6_asked___2 : decode cX6_asked__ 2 = .ok (.ifCond .ne 7, 3) := by decide +kernel
theorem dX6_asked___5 : decode cX6_asked__ 5 = .ok (.iconst 1, 1) := by decide +kernel
theorem dX6_asked___6 : decode cX6_asked__ 6 = .ok (.goto 20, 3) := by decide +kernel
theorem dX6_asked___9 : decode cX6_asked__ 9 = .ok (.iload_n 2, 1) := by decide +kernel
theorem dX6_asked___10 : decode cX6_asked__ 10 = .ok (.ifCond .ne 7, 3) := by decide +kernel
theorem dX6_asked___13 : decode cX6_asked__ 13 = .ok (.iconst 2, 1) := by decide +kernel
theorem dX6_asked___14 : decode cX6_asked__ 14 = .ok (.goto 12, 3) := by decide +kernel
theorem dX6_asked___17 : decode cX6_asked__ 17 = .ok (.iload_n 3, 1) := by decide +kernel
theorem dX6_asked___18 : decode cX6_asked__ 18 = .ok (.ifCond .eq 7, 3) := by decide +kernel
theorem dX6_asked___21 : decode cX6_asked__ 21 = .ok (.iconst 0, 1) := by decide +kernel
theorem dX6_asked___22 : decode cX6_asked__ 22 = .ok (.goto 4, 3) := by decide +kernel
theorem dX6_asked___25 : decode cX6_asked__ 25 = .ok (.iconst 3, 1) := by decide +kernel
theorem dX6_asked___26 : decode cX6_asked__ 26 = .ok (.putfield 41, 3) := by decide +kernel
theorem dX6_asked___29 : decode cX6_asked__ 29 = .ok (.aload_n 0, 1) := by decide +kernel
theorem dX6_asked___30 : decode cX6_asked__ 30 = .ok (.getfield 41, 3) := by decide +kernel
theorem dX6_asked___33 : decode cX6_asked__ 33 = .ok (.ifCond .ne 7, 3) := by decide +kernel
theorem dX6_asked___36 : decode cX6_asked__ 36 = .ok (.iconst 1, 1) := by decide +kernel
theorem dX6_asked___37 : decode cX6_asked__ 37 = .ok (.goto 4, 3) := by decide +kernel
theorem dX6_asked___40 : decode cX6_asked__ 40 = .ok (.iconst 0, 1) := by decide +kernel
theorem dX6_asked___41 : decode cX6_asked__ 41 = .ok (.ireturn, 1) := by decide +kernel
theorem dX6_in_0 : decode cX6_in 0 = .ok (.iload_n 0, 1) := by decide +kernel
theorem dX6_in_1 : decode cX6_in 1 = .ok (.iload_n 1, 1) := by decide +kernel
theorem dX6_in_2 : decode cX6_in 2 = .ok (.if_icmp .lt 12, 3) := by decide +kernel
theorem dX6_in_5 : decode cX6_in 5 = .ok (.iload_n 0, 1) := by decide +kernel
theorem dX6_in_6 : decode cX6_in 6 = .ok (.iload_n 2, 1) := by decide +kernel
theorem dX6_in_7 : decode cX6_in 7 = .ok (.if_icmp .gt 7, 3) := by decide +kernel
theorem dX6_in_10 : decode cX6_in 10 = .ok (.iconst 1, 1) := by decide +kernel
theorem dX6_in_11 : decode cX6_in 11 = .ok (.goto 4, 3) := by decide +kernel
theorem dX6_in_14 : decode cX6_in 14 = .ok (.iconst 0, 1) := by decide +kernel
theorem dX6_in_15 : decode cX6_in 15 = .ok (.ireturn, 1) := by decide +kernel
set_option maxRecDepth 20000 in
theorem ggX6_isCell_X6_in : GoodIn wsX6_isCell wsX6_in := goodIn_r _ [4] (by decide +kernel) (by decide +kernel)
set_option maxRecDepth 20000 in
theorem gX6_isCell_X6_in : GoodIn wsX6_isCell (va_wsS RX6 45 yX6_in wsX6_in) := goodIn_app (goodIn_of _ (by decide +kernel)) ggX6_isCell_X6_in
theorem dX6_isCell_0 : decode cX6_isCell 0 = .ok (.iload_n 0, 1) := by decide +kernel
theorem dX6_isCell_1 : decode cX6_isCell 1 = .ok (.iconst 0, 1) := by decide +kernel
theorem dX6_isCell_2 : decode cX6_isCell 2 = .ok (.bipush 11, 2) := by decide +kernel
theorem dX6_isCell_4 : decode cX6_isCell 4 = .ok (.invokestatic 45, 3) := by decide +kernel
theorem dX6_isCell_7 : decode cX6_isCell 7 = .ok (.ireturn, 1) := by decide +kernel
theorem dX6_iceOf_0 : decode cX6_iceOf 0 = .ok (.iconst 0, 1) := by decide +kernel
theorem dX6_iceOf_1 : decode cX6_iceOf 1 = .ok (.istore_n 2, 1) := by decide +kernel
theorem dX6_iceOf_2 : decode cX6_iceOf 2 = .ok (.iconst 0, 1) := by decide +kernel
theorem dX6_iceOf_3 : decode cX6_iceOf 3 = .ok (.istore_n 3, 1) := by decide +kernel
theorem dX6_iceOf_4 : decode cX6_iceOf 4 = .ok (.iload_n 3, 1) := by decide +kernel
theorem dX6_iceOf_5 : decode cX6_iceOf 5 = .ok (.bipush 61, 2) := by decide +kernel
theorem dX6_iceOf_7 : decode cX6_iceOf 7 = .ok (.if_icmp .ge 26, 3) := by decide +kernel
theorem dX6_iceOf_10 : decode cX6_iceOf 10 = .ok (.iload_n 2, 1) := by decide +kernel
theorem dX6_iceOf_11 : decode cX6_iceOf 11 = .ok (.aload_n 0, 1) := by decide +kernel
theorem dX6_iceOf_12 : decode cX6_iceOf 12 = .ok (.getfield 7, 3) := by decide +kernel
theorem dX6_iceOf_15 : decode cX6_iceOf 15 = .ok (.bipush 100, 2) := by decide +kernel
theorem dX6_iceOf_17 : decode cX6_iceOf 17 = .ok (.bipush 61, 2) := by decide +kernel
theorem dX6_iceOf_19 : decode cX6_iceOf 19 = .ok (.iload_n 1, 1) := by decide +kernel
theorem dX6_iceOf_20 : decode cX6_iceOf 20 = .ok (.imul, 1) := by decide +kernel
theorem dX6_iceOf_21 : decode cX6_iceOf 21 = .ok (.iadd, 1) := by decide +kernel
theorem dX6_iceOf_22 : decode cX6_iceOf 22 = .ok (.iload_n 3, 1) := by decide +kernel
theorem dX6_iceOf_23 : decode cX6_iceOf 23 = .ok (.iadd, 1) := by decide +kernel
theorem dX6_iceOf_24 : decode cX6_iceOf 24 = .ok (.iaload, 1) := by decide +kernel
theorem dX6_iceOf_25 : decode cX6_iceOf 25 = .ok (.iadd, 1) := by decide +kernel
theorem dX6_iceOf_26 : decode cX6_iceOf 26 = .ok (.istore_n 2, 1) := by decide +kernel
theorem dX6_iceOf_27 : decode cX6_iceOf 27 = .ok (.iinc 3 1, 3) := by decide +kernel
theorem dX6_iceOf_30 : decode cX6_iceOf 30 = .ok (.goto (-26), 3) := by decide +kernel
theorem dX6_iceOf_33 : decode cX6_iceOf 33 = .ok (.iload_n 2, 1) := by decide +kernel
theorem dX6_iceOf_34 : decode cX6_iceOf 34 = .ok (.ireturn, 1) := by decide +kernel
set_option maxRecDepth 20000 in
theorem ggX6_allIce_X6_iceOf : GoodIn wsX6_allIce wsX6_iceOf := goodIn_r _ [5, 6, 7, 8, 9, 10, 11, 12, 13, 14, 15, 16, 17, 18, 19, 20, 21, 22] (by decide +kernel) (by decide +kernel)
set_option maxRecDepth 20000 in
theorem gX6_allIce_X6_iceOf : GoodIn wsX6_allIce (wsV RX6 49 RX6 yX6_iceOf wsX6_iceOf) := goodIn_app (goodIn_of _ (by decide +kernel)) ggX6_allIce_X6_iceOf
theorem dX6_allIce_0 : decode cX6_allIce 0 = .ok (.iconst 0, 1) := by decide +kernel
theorem dX6_allIce_1 : decode cX6_allIce 1 = .ok (.istore_n 1, 1) := by decide +kernel
theorem dX6_allIce_2 : decode cX6_allIce 2 = .ok (.iconst 0, 1) := by decide +kernel
theorem dX6_allIce_3 : decode cX6_allIce 3 = .ok (.istore_n 2, 1) := by decide +kernel
theorem dX6_allIce_4 : decode cX6_allIce 4 = .ok (.iload_n 2, 1) := by decide +kernel
theorem dX6_allIce_5 : decode cX6_allIce 5 = .ok (.bipush 12, 2) := by decide +kernel
theorem dX6_allIce_7 : decode cX6_allIce 7 = .ok (.if_icmp .ge 17, 3) := by decide +kernel
theorem dX6_allIce_10 : decode cX6_allIce 10 = .ok (.iload_n 1, 1) := by decide +kernel
theorem dX6_allIce_11 : decode cX6_allIce 11 = .ok (.aload_n 0, 1) := by decide +kernel
theorem dX6_allIce_12 : decode cX6_allIce 12 = .ok (.iload_n 2, 1) := by decide +kernel
theorem dX6_allIce_13 : decode cX6_allIce 13 = .ok (.invokevirtual 49, 3) := by decide +kernel
theorem dX6_allIce_16 : decode cX6_allIce 16 = .ok (.iadd, 1) := by decide +kernel
theorem dX6_allIce_17 : decode cX6_allIce 17 = .ok (.istore_n 1, 1) := by decide +kernel
theorem dX6_allIce_18 : decode cX6_allIce 18 = .ok (.iinc 2 1, 3) := by decide +kernel
theorem dX6_allIce_21 : decode cX6_allIce 21 = .ok (.goto (-17), 3) := by decide +kernel
theorem dX6_allIce_24 : decode cX6_allIce 24 = .ok (.iload_n 1, 1) := by decide +kernel
theorem dX6_allIce_25 : decode cX6_allIce 25 = .ok (.ireturn, 1) := by decide +kernel
set_option maxRecDepth 20000 in
theorem ggX6_surfaceOf_X6_iceOf : GoodIn wsX6_surfaceOf wsX6_iceOf := goodIn_r _ [6, 1, 7, 8, 9, 10, 11, 12, 13, 14, 15, 16, 17, 18, 19, 20, 21, 22] (by decide +kernel) (by decide +kernel)
set_option maxRecDepth 20000 in
theorem gX6_surfaceOf_X6_iceOf : GoodIn wsX6_surfaceOf (wsV RX6 49 RX6 yX6_iceOf wsX6_iceOf) := goodIn_app (goodIn_of _ (by decide +kernel)) ggX6_surfaceOf_X6_iceOf
theorem dX6_surfaceOf_0 : decode cX6_surfaceOf 0 = .ok (.aload_n 0, 1) := by decide +kernel
theorem dX6_surfaceOf_1 : decode cX6_surfaceOf 1 = .ok (.getfield 7, 3) := by decide +kernel
theorem dX6_surfaceOf_4 : decode cX6_surfaceOf 4 = .ok (.iconst 0, 1) := by decide +kernel
theorem dX6_surfaceOf_5 : decode cX6_surfaceOf 5 = .ok (.iload_n 1, 1) := by decide +kernel
theorem dX6_surfaceOf_6 : decode cX6_surfaceOf 6 = .ok (.iadd, 1) := by decide +kernel
theorem dX6_surfaceOf_7 : decode cX6_surfaceOf 7 = .ok (.iaload, 1) := by decide +kernel
theorem dX6_surfaceOf_8 : decode cX6_surfaceOf 8 = .ok (.aload_n 0, 1) := by decide +kernel
theorem dX6_surfaceOf_9 : decode cX6_surfaceOf 9 = .ok (.iload_n 1, 1) := by decide +kernel
theorem dX6_surfaceOf_10 : decode cX6_surfaceOf 10 = .ok (.invokevirtual 49, 3) := by decide +kernel
theorem dX6_surfaceOf_13 : decode cX6_surfaceOf 13 = .ok (.iadd, 1) := by decide +kernel
theorem dX6_surfaceOf_14 : decode cX6_surfaceOf 14 = .ok (.ireturn, 1) := by decide +kernel
theorem dX6_isInSea_0 : decode cX6_isInSea 0 = .ok (.aload_n 0, 1) := by decide +kernel
theorem dX6_isInSea_1 : decode cX6_isInSea 1 = .ok (.getfield 7, 3) := by decide +kernel
theorem dX6_isInSea_4 : decode cX6_isInSea 4 = .ok (.iconst 0, 1) := by decide +kernel
theorem dX6_isInSea_5 : decode cX6_isInSea 5 = .ok (.iload_n 1, 1) := by decide +kernel
theorem dX6_isInSea_6 : decode cX6_isInSea 6 = .ok (.iadd, 1) := by decide +kernel
theorem dX6_isInSea_7 : decode cX6_isInSea 7 = .ok (.iaload, 1) := by decide +kernel
theorem dX6_isInSea_8 : decode cX6_isInSea 8 = .ok (.aload_n 0, 1) := by decide +kernel
theorem dX6_isInSea_9 : decode cX6_isInSea 9 = .ok (.getfield 53, 3) := by decide +kernel
theorem dX6_isInSea_12 : decode cX6_isInSea 12 = .ok (.if_icmp .ge 7, 3) := by decide +kernel
theorem dX6_isInSea_15 : decode cX6_isInSea 15 = .ok (.iconst 1, 1) := by decide +kernel
theorem dX6_isInSea_16 : decode cX6_isInSea 16 = .ok (.goto 4, 3) := by decide +kernel
theorem dX6_isInSea_19 : decode cX6_isInSea 19 = .ok (.iconst 0, 1) := by decide +kernel
theorem dX6_isInSea_20 : decode cX6_isInSea 20 = .ok (.ireturn, 1) := by decide +kernel
set_option maxRecDepth 20000 in
theorem ggX6_potentialOf_X6_iceOf : GoodIn wsX6_potentialOf wsX6_iceOf := goodIn_r _ [6, 1, 7, 8, 9, 10, 11, 12, 13, 14, 15, 16, 17, 18, 19, 20, 21, 22] (by decide +kernel) (by decide +kernel)
set_option maxRecDepth 20000 in
theorem gX6_potentialOf_X6_iceOf : GoodIn wsX6_potentialOf (wsV RX6 49 RX6 yX6_iceOf wsX6_iceOf) := goodIn_app (goodIn_of _ (by decide +kernel)) ggX6_potentialOf_X6_iceOf
theorem dX6_potentialOf_0 : decode cX6_potentialOf 0 = .ok (.bipush 10, 2) := by decide +kernel
theorem dX6_potentialOf_2 : decode cX6_potentialOf 2 = .ok (.aload_n 0, 1) := by decide +kernel
theorem dX6_potentialOf_3 : decode cX6_potentialOf 3 = .ok (.getfield 7, 3) := by decide +kernel
theorem dX6_potentialOf_6 : decode cX6_potentialOf 6 = .ok (.iconst 0, 1) := by decide +kernel
theorem dX6_potentialOf_7 : decode cX6_potentialOf 7 = .ok (.iload_n 1, 1) := by decide +kernel
theorem dX6_potentialOf_8 : decode cX6_potentialOf 8 = .ok (.iadd, 1) := by decide +kernel
theorem dX6_potentialOf_9 : decode cX6_potentialOf 9 = .ok (.iaload, 1) := by decide +kernel
theorem dX6_potentialOf_10 : decode cX6_potentialOf 10 = .ok (.imul, 1) := by decide +kernel
theorem dX6_potentialOf_11 : decode cX6_potentialOf 11 = .ok (.bipush 9, 2) := by decide +kernel
theorem dX6_potentialOf_13 : decode cX6_potentialOf 13 = .ok (.aload_n 0, 1) := by decide +kernel
theorem dX6_potentialOf_14 : decode cX6_potentialOf 14 = .ok (.iload_n 1, 1) := by decide +kernel
theorem dX6_potentialOf_15 : decode cX6_potentialOf 15 = .ok (.invokevirtual 49, 3) := by decide +kernel
theorem dX6_potentialOf_18 : decode cX6_potentialOf 18 = .ok (.imul, 1) := by decide +kernel
theorem dX6_potentialOf_19 : decode cX6_potentialOf 19 = .ok (.iadd, 1) := by decide +kernel
theorem dX6_potentialOf_20 : decode cX6_potentialOf 20 = .ok (.ireturn, 1) := by decide +kernel
set_option maxRecDepth 20000 in
theorem ggX6_land_X6_isCell : GoodIn wsX6_land wsX6_isCell := goodIn_r _ [5, 6, 7, 4, 8] (by decide +kernel) (by decide +kernel)
set_option maxRecDepth 20000 in
theorem gX6_land_X6_isCell : GoodIn wsX6_land (va_wsS RX6 56 yX6_isCell wsX6_isCell) := goodIn_app (goodIn_of _ (by decide +kernel)) ggX6_land_X6_isCell
set_option maxRecDepth 20000 in
theorem ggX6_land_X6_in : GoodIn wsX6_land wsX6_in := goodIn_r _ [8] (by decide +kernel) (by decide +kernel)
set_option maxRecDepth 20000 in
theorem gX6_land_X6_in : GoodIn wsX6_land (va_wsS RX6 45 yX6_in wsX6_in) := goodIn_app (goodIn_of _ (by decide +kernel)) ggX6_land_X6_in
set_option maxRecDepth 20000 in
theorem ggX6_land_X6_iceOf : GoodIn wsX6_land wsX6_iceOf := goodIn_r _ [12, 1, 18, 19, 20, 21, 22, 23, 24, 25, 26, 27, 28, 29, 30, 31, 32, 33] (by decide +kernel) (by decide +kernel)
set_option maxRecDepth 20000 in
theorem gX6_land_X6_iceOf : GoodIn wsX6_land (wsV RX6 49 RX6 yX6_iceOf wsX6_iceOf) := goodIn_app (goodIn_of _ (by decide +kernel)) ggX6_land_X6_iceOf
set_option maxRecDepth 20000 in
theorem ggX6_land_X6_asked__ : GoodIn wsX6_land wsX6_asked__ := goodIn_r _ [16, 17, 18, 19, 20, 21, 22, 23, 24, 25, 26, 27, 28, 29, 30, 31, 32, 33] (by decide +kernel) (by decide +kernel)
set_option maxRecDepth 20000 in
theorem gX6_land_X6_asked__ : GoodIn wsX6_land (wsV RX6 60 RX6 yX6_asked__ wsX6_asked__) := goodIn_app (goodIn_of _ (by decide +kernel)) ggX6_land_X6_asked__
theorem dX6_land_0 : decode cX6_land 0 = .ok (.iload_n 1, 1) := by decide +kernel
theorem dX6_land_1 : decode cX6_land 1 = .ok (.invokestatic 56, 3) := by decide +kernel
theorem dX6_land_4 : decode cX6_land 4 = .ok (.istore_n 3, 1) := by decide +kernel
theorem dX6_land_5 : decode cX6_land 5 = .ok (.aload_n 0, 1) := by decide +kernel
theorem dX6_land_6 : decode cX6_land 6 = .ok (.iload_n 3, 1) := by decide +kernel
theorem dX6_land_7 : decode cX6_land 7 = .ok (.iload_n 2, 1) := by decide +kernel
theorem dX6_land_8 : decode cX6_land 8 = .ok (.iconst 0, 1) := by decide +kernel
theorem dX6_land_9 : decode cX6_land 9 = .ok (.sipush 500, 3) := by decide +kernel
theorem dX6_land_12 : decode cX6_land 12 = .ok (.invokestatic 45, 3) := by decide +kernel
theorem dX6_land_15 : decode cX6_land 15 = .ok (.iload_n 3, 1) := by decide +kernel
theorem dX6_land_16 : decode cX6_land 16 = .ok (.ifCond .eq 27, 3) := by decide +kernel
theorem dX6_land_19 : decode cX6_land 19 = .ok (.aload_n 0, 1) := by decide +kernel
theorem dX6_land_20 : decode cX6_land 20 = .ok (.iload_n 1, 1) := by decide +kernel
theorem dX6_land_21 : decode cX6_land 21 = .ok (.invokevirtual 49, 3) := by decide +kernel
theorem dX6_land_24 : decode cX6_land 24 = .ok (.ifCond .ne 19, 3) := by decide +kernel
theorem dX6_land_27 : decode cX6_land 27 = .ok (.aload_n 0, 1) := by decide +kernel
theorem dX6_land_28 : decode cX6_land 28 = .ok (.getfield 7, 3) := by decide +kernel
theorem dX6_land_31 : decode cX6_land 31 = .ok (.bipush 24, 2) := by decide +kernel
theorem dX6_land_33 : decode cX6_land 33 = .ok (.iload_n 1, 1) := by decide +kernel
theorem dX6_land_34 : decode cX6_land 34 = .ok (.iadd, 1) := by decide +kernel
theorem dX6_land_35 : decode cX6_land 35 = .ok (.iaload, 1) := by decide +kernel
theorem dX6_land_36 : decode cX6_land 36 = .ok (.ifCond .ne 7, 3) := by decide +kernel
theorem dX6_land_39 : decode cX6_land 39 = .ok (.iconst 1, 1) := by decide +kernel
theorem dX6_land_40 : decode cX6_land 40 = .ok (.goto 4, 3) := by decide +kernel
theorem dX6_land_43 : decode cX6_land 43 = .ok (.iconst 0, 1) := by decide +kernel
theorem dX6_land_44 : decode cX6_land 44 = .ok (.invokevirtual 60, 3) := by decide +kernel
theorem dX6_land_47 : decode cX6_land 47 = .ok (.ifCond .ne 5, 3) := by decide +kernel
theorem dX6_land_50 : decode cX6_land 50 = .ok (.iconst 0, 1) := by decide +kernel
theorem dX6_land_51 : decode cX6_land 51 = .ok (.ireturn, 1) := by decide +kernel
theorem dX6_land_52 : decode cX6_land 52 = .ok (.aload_n 0, 1) := by decide +kernel
theorem dX6_land_53 : decode cX6_land 53 = .ok (.getfield 7, 3) := by decide +kernel
theorem dX6_land_56 : decode cX6_land 56 = .ok (.iconst 0, 1) := by decide +kernel
theorem dX6_land_57 : decode cX6_land 57 = .ok (.iload_n 1, 1) := by decide +kernel
theorem dX6_land_58 : decode cX6_land 58 = .ok (.iadd, 1) := by decide +kernel
theorem dX6_land_59 : decode cX6_land 59 = .ok (.iaload, 1) := by decide +kernel
theorem dX6_land_60 : decode cX6_land 60 = .ok (.istore 4, 2) := by decide +kernel
theorem dX6_land_62 : decode cX6_land 62 = .ok (.aload_n 0, 1) := by decide +kernel
theorem dX6_land_63 : decode cX6_land 63 = .ok (.getfield 7, 3) := by decide +kernel
theorem dX6_land_66 : decode cX6_land 66 = .ok (.iconst 0, 1) := by decide +kernel
theorem dX6_land_67 : decode cX6_land 67 = .ok (.iload_n 1, 1) := by decide +kernel
theorem dX6_land_68 : decode cX6_land 68 = .ok (.iadd, 1) := by decide +kernel
theorem dX6_land_69 : decode cX6_land 69 = .ok (.iload_n 2, 1) := by decide +kernel
theorem dX6_land_70 : decode cX6_land 70 = .ok (.iastore, 1) := by decide +kernel
theorem dX6_land_71 : decode cX6_land 71 = .ok (.aload_n 0, 1) := by decide +kernel
theorem dX6_land_72 : decode cX6_land 72 = .ok (.getfield 7, 3) := by decide +kernel
theorem dX6_land_75 : decode cX6_land 75 = .ok (.bipush 12, 2) := by decide +kernel
theorem dX6_land_77 : decode cX6_land 77 = .ok (.iload_n 1, 1) := by decide +kernel
theorem dX6_land_78 : decode cX6_land 78 = .ok (.iadd, 1) := by decide +kernel
theorem dX6_land_79 : decode cX6_land 79 = .ok (.iload_n 2, 1) := by decide +kernel
theorem dX6_land_80 : decode cX6_land 80 = .ok (.iastore, 1) := by decide +kernel
theorem dX6_land_81 : decode cX6_land 81 = .ok (.iload 4, 2) := by decide +kernel
theorem dX6_land_83 : decode cX6_land 83 = .ok (.ireturn, 1) := by decide +kernel
set_option maxRecDepth 20000 in
theorem ggX6_sea_X6_in : GoodIn wsX6_sea wsX6_in := goodIn_r _ [5] (by decide +kernel) (by decide +kernel)
set_option maxRecDepth 20000 in
theorem gX6_sea_X6_in : GoodIn wsX6_sea (va_wsS RX6 45 yX6_in wsX6_in) := goodIn_app (goodIn_of _ (by decide +kernel)) ggX6_sea_X6_in
set_option maxRecDepth 20000 in
theorem ggX6_sea_X6_asked : GoodIn wsX6_sea wsX6_asked := goodIn_r _ [9, 10, 11, 12, 13, 14, 15, 16, 17, 18, 19, 20, 21, 22, 23, 24, 25, 26] (by decide +kernel) (by decide +kernel)
set_option maxRecDepth 20000 in
theorem gX6_sea_X6_asked : GoodIn wsX6_sea (wsV RX6 64 RX6 yX6_asked wsX6_asked) := goodIn_app (goodIn_of _ (by decide +kernel)) ggX6_sea_X6_asked
theorem dX6_sea_0 : decode cX6_sea 0 = .ok (.aload_n 0, 1) := by decide +kernel
theorem dX6_sea_1 : decode cX6_sea 1 = .ok (.iload_n 1, 1) := by decide +kernel
theorem dX6_sea_2 : decode cX6_sea 2 = .ok (.iconst 0, 1) := by decide +kernel
theorem dX6_sea_3 : decode cX6_sea 3 = .ok (.sipush 500, 3) := by decide +kernel
theorem dX6_sea_6 : decode cX6_sea 6 = .ok (.invokestatic 45, 3) := by decide +kernel
theorem dX6_sea_9 : decode cX6_sea 9 = .ok (.invokevirtual 64, 3) := by decide +kernel
theorem dX6_sea_12 : decode cX6_sea 12 = .ok (.ifCond .ne 5, 3) := by decide +kernel
theorem dX6_sea_15 : decode cX6_sea 15 = .ok (.iconst 0, 1) := by decide +kernel
theorem dX6_sea_16 : decode cX6_sea 16 = .ok (.ireturn, 1) := by decide +kernel
theorem dX6_sea_17 : decode cX6_sea 17 = .ok (.aload_n 0, 1) := by decide +kernel
theorem dX6_sea_18 : decode cX6_sea 18 = .ok (.getfield 53, 3) := by decide +kernel
theorem dX6_sea_21 : decode cX6_sea 21 = .ok (.istore_n 2, 1) := by decide +kernel
theorem dX6_sea_22 : decode cX6_sea 22 = .ok (.aload_n 0, 1) := by decide +kernel
theorem dX6_sea_23 : decode cX6_sea 23 = .ok (.iload_n 1, 1) := by decide +kernel
theorem dX6_sea_24 : decode cX6_sea 24 = .ok (.putfield 53, 3) := by decide +kernel
theorem dX6_sea_27 : decode cX6_sea 27 = .ok (.iload_n 2, 1) := by decide +kernel
theorem dX6_sea_28 : decode cX6_sea 28 = .ok (.ireturn, 1) := by decide +kernel
set_option maxRecDepth 20000 in
theorem ggX6_climate_X6_in : GoodIn wsX6_climate wsX6_in := goodIn_r _ [7] (by decide +kernel) (by decide +kernel)
set_option maxRecDepth 20000 in
theorem gX6_climate_X6_in : GoodIn wsX6_climate (va_wsS RX6 45 yX6_in wsX6_in) := goodIn_app (goodIn_of _ (by decide +kernel)) ggX6_climate_X6_in
set_option maxRecDepth 20000 in
theorem ggX6_climate_X6_asked : GoodIn wsX6_climate wsX6_asked := goodIn_r _ [11, 12, 13, 14, 15, 16, 17, 18, 19, 20, 21, 22, 23, 24, 25, 26, 27, 28] (by decide +kernel) (by decide +kernel)
set_option maxRecDepth 20000 in
theorem gX6_climate_X6_asked : GoodIn wsX6_climate (wsV RX6 64 RX6 yX6_asked wsX6_asked) := goodIn_app (goodIn_of _ (by decide +kernel)) ggX6_climate_X6_asked
theorem dX6_climate_0 : decode cX6_climate 0 = .ok (.aload_n 0, 1) := by decide +kernel
theorem dX6_climate_1 : decode cX6_climate 1 = .ok (.iload_n 1, 1) := by decide +kernel
theorem dX6_climate_2 : decode cX6_climate 2 = .ok (.sipush (-300), 3) := by decide +kernel
theorem dX6_climate_5 : decode cX6_climate 5 = .ok (.sipush 300, 3) := by decide +kernel
theorem dX6_climate_8 : decode cX6_climate 8 = .ok (.invokestatic 45, 3) := by decide +kernel
theorem dX6_climate_11 : decode cX6_climate 11 = .ok (.ifCond .eq 27, 3) := by decide +kernel
theorem dX6_climate_14 : decode cX6_climate 14 = .ok (.iload_n 2, 1) := by decide +kernel
theorem dX6_climate_15 : decode cX6_climate 15 = .ok (.iconst 0, 1) := by decide +kernel
theorem dX6_climate_16 : decode cX6_climate 16 = .ok (.bipush 20, 2) := by decide +kernel
theorem dX6_climate_18 : decode cX6_climate 18 = .ok (.invokestatic 45, 3) := by decide +kernel
theorem dX6_climate_21 : decode cX6_climate 21 = .ok (.ifCond .eq 17, 3) := by decide +kernel
theorem dX6_climate_24 : decode cX6_climate 24 = .ok (.iload_n 3, 1) := by decide +kernel
theorem dX6_climate_25 : decode cX6_climate 25 = .ok (.iconst 0, 1) := by decide +kernel
theorem dX6_climate_26 : decode cX6_climate 26 = .ok (.bipush 9, 2) := by decide +kernel
theorem dX6_climate_28 : decode cX6_climate 28 = .ok (.invokestatic 45, 3) := by decide +kernel
theorem dX6_climate_31 : decode cX6_climate 31 = .ok (.ifCond .eq 7, 3) := by decide +kernel
theorem dX6_climate_34 : decode cX6_climate 34 = .ok (.iconst 1, 1) := by decide +kernel
theorem dX6_climate_35 : decode cX6_climate 35 = .ok (.goto 4, 3) := by decide +kernel
theorem dX6_climate_38 : decode cX6_climate 38 = .ok (.iconst 0, 1) := by decide +kernel
theorem dX6_climate_39 : decode cX6_climate 39 = .ok (.invokevirtual 64, 3) := by decide +kernel
theorem dX6_climate_42 : decode cX6_climate 42 = .ok (.ifCond .eq 18, 3) := by decide +kernel
theorem dX6_climate_45 : decode cX6_climate 45 = .ok (.aload_n 0, 1) := by decide +kernel
theorem dX6_climate_46 : decode cX6_climate 46 = .ok (.iload_n 1, 1) := by decide +kernel
theorem dX6_climate_47 : decode cX6_climate 47 = .ok (.putfield 67, 3) := by decide +kernel
theorem dX6_climate_50 : decode cX6_climate 50 = .ok (.aload_n 0, 1) := by decide +kernel
theorem dX6_climate_51 : decode cX6_climate 51 = .ok (.iload_n 2, 1) := by decide +kernel
theorem dX6_climate_52 : decode cX6_climate 52 = .ok (.putfield 70, 3) := by decide +kernel
theorem dX6_climate_55 : decode cX6_climate 55 = .ok (.aload_n 0, 1) := by decide +kernel
theorem dX6_climate_56 : decode cX6_climate 56 = .ok (.iload_n 3, 1) := by decide +kernel
theorem dX6_climate_57 : decode cX6_climate 57 = .ok (.putfield 73, 3) := by decide +kernel
theorem dX6_climate_60 : decode cX6_climate 60 = .ok (.return_, 1) := by decide +kernel
set_option maxRecDepth 20000 in
theorem ggX6_ice_X6_isCell : GoodIn wsX6_ice wsX6_isCell := goodIn_r _ [5, 6, 7, 4, 8] (by decide +kernel) (by decide +kernel)
set_option maxRecDepth 20000 in
theorem gX6_ice_X6_isCell : GoodIn wsX6_ice (va_wsS RX6 56 yX6_isCell wsX6_isCell) := goodIn_app (goodIn_of _ (by decide +kernel)) ggX6_ice_X6_isCell
set_option maxRecDepth 20000 in
theorem ggX6_ice_X6_in : GoodIn wsX6_ice wsX6_in := goodIn_r _ [8] (by decide +kernel) (by decide +kernel)
set_option maxRecDepth 20000 in
theorem gX6_ice_X6_in : GoodIn wsX6_ice (va_wsS RX6 45 yX6_in wsX6_in) := goodIn_app (goodIn_of _ (by decide +kernel)) ggX6_ice_X6_in
set_option maxRecDepth 20000 in
theorem ggX6_ice_X6_iceOf : GoodIn wsX6_ice wsX6_iceOf := goodIn_r _ [12, 1, 18, 19, 20, 21, 22, 23, 24, 25, 26, 27, 28, 29, 30, 31, 32, 33] (by decide +kernel) (by decide +kernel)
set_option maxRecDepth 20000 in
theorem gX6_ice_X6_iceOf : GoodIn wsX6_ice (wsV RX6 49 RX6 yX6_iceOf wsX6_iceOf) := goodIn_app (goodIn_of _ (by decide +kernel)) ggX6_ice_X6_iceOf
set_option maxRecDepth 20000 in
theorem ggX6_ice_X6_asked__ : GoodIn wsX6_ice wsX6_asked__ := goodIn_r _ [16, 17, 18, 19, 20, 21, 22, 23, 24, 25, 26, 27, 28, 29, 30, 31, 32, 33] (by decide +kernel) (by decide +kernel)
set_option maxRecDepth 20000 in
theorem gX6_ice_X6_asked__ : GoodIn wsX6_ice (wsV RX6 60 RX6 yX6_asked__ wsX6_asked__) := goodIn_app (goodIn_of _ (by decide +kernel)) ggX6_ice_X6_asked__
theorem dX6_ice_0 : decode cX6_ice 0 = .ok (.iload_n 1, 1) := by decide +kernel
theorem dX6_ice_1 : decode cX6_ice 1 = .ok (.invokestatic 56, 3) := by decide +kernel
theorem dX6_ice_4 : decode cX6_ice 4 = .ok (.istore_n 3, 1) := by decide +kernel
theorem dX6_ice_5 : decode cX6_ice 5 = .ok (.iload_n 2, 1) := by decide +kernel
theorem dX6_ice_6 : decode cX6_ice 6 = .ok (.iconst 1, 1) := by decide +kernel
theorem dX6_ice_7 : decode cX6_ice 7 = .ok (.sipush 999, 3) := by decide +kernel
theorem dX6_ice_10 : decode cX6_ice 10 = .ok (.invokestatic 45, 3) := by decide +kernel
theorem dX6_ice_13 : decode cX6_ice 13 = .ok (.istore 4, 2) := by decide +kernel
theorem dX6_ice_15 : decode cX6_ice 15 = .ok (.aload_n 0, 1) := by decide +kernel
theorem dX6_ice_16 : decode cX6_ice 16 = .ok (.iload_n 3, 1) := by decide +kernel
theorem dX6_ice_17 : decode cX6_ice 17 = .ok (.iload 4, 2) := by decide +kernel
theorem dX6_ice_19 : decode cX6_ice 19 = .ok (.iload_n 3, 1) := by decide +kernel
theorem dX6_ice_20 : decode cX6_ice 20 = .ok (.ifCond .eq 25, 3) := by decide +kernel
theorem dX6_ice_23 : decode cX6_ice 23 = .ok (.iload 4, 2) := by decide +kernel
theorem dX6_ice_25 : decode cX6_ice 25 = .ok (.ifCond .eq 20, 3) := by decide +kernel
theorem dX6_ice_28 : decode cX6_ice 28 = .ok (.aload_n 0, 1) := by decide +kernel
theorem dX6_ice_29 : decode cX6_ice 29 = .ok (.iload_n 1, 1) := by decide +kernel
theorem dX6_ice_30 : decode cX6_ice 30 = .ok (.invokevirtual 49, 3) := by decide +kernel
theorem dX6_ice_33 : decode cX6_ice 33 = .ok (.iload_n 2, 1) := by decide +kernel
theorem dX6_ice_34 : decode cX6_ice 34 = .ok (.iadd, 1) := by decide +kernel
theorem dX6_ice_35 : decode cX6_ice 35 = .ok (.sipush 9999, 3) := by decide +kernel
theorem dX6_ice_38 : decode cX6_ice 38 = .ok (.if_icmp .gt 7, 3) := by decide +kernel
theorem dX6_ice_41 : decode cX6_ice 41 = .ok (.iconst 1, 1) := by decide +kernel
theorem dX6_ice_42 : decode cX6_ice 42 = .ok (.goto 4, 3) := by decide +kernel
theorem dX6_ice_45 : decode cX6_ice 45 = .ok (.iconst 0, 1) := by decide +kernel
theorem dX6_ice_46 : decode cX6_ice 46 = .ok (.invokevirtual 60, 3) := by decide +kernel
theorem dX6_ice_49 : decode cX6_ice 49 = .ok (.ifCond .ne 5, 3) := by decide +kernel
theorem dX6_ice_52 : decode cX6_ice 52 = .ok (.iconst 0, 1) := by decide +kernel
theorem dX6_ice_53 : decode cX6_ice 53 = .ok (.ireturn, 1) := by decide +kernel
theorem dX6_ice_54 : decode cX6_ice 54 = .ok (.aload_n 0, 1) := by decide +kernel
theorem dX6_ice_55 : decode cX6_ice 55 = .ok (.getfield 7, 3) := by decide +kernel
theorem dX6_ice_58 : decode cX6_ice 58 = .ok (.bipush 100, 2) := by decide +kernel
theorem dX6_ice_60 : decode cX6_ice 60 = .ok (.bipush 61, 2) := by decide +kernel
theorem dX6_ice_62 : decode cX6_ice 62 = .ok (.iload_n 1, 1) := by decide +kernel
theorem dX6_ice_63 : decode cX6_ice 63 = .ok (.imul, 1) := by decide +kernel
theorem dX6_ice_64 : decode cX6_ice 64 = .ok (.iadd, 1) := by decide +kernel
theorem dX6_ice_65 : decode cX6_ice 65 = .ok (.aload_n 0, 1) := by decide +kernel
theorem dX6_ice_66 : decode cX6_ice 66 = .ok (.getfield 7, 3) := by decide +kernel
theorem dX6_ice_69 : decode cX6_ice 69 = .ok (.bipush 89, 2) := by decide +kernel
theorem dX6_ice_71 : decode cX6_ice 71 = .ok (.iaload, 1) := by decide +kernel
theorem dX6_ice_72 : decode cX6_ice 72 = .ok (.iadd, 1) := by decide +kernel
theorem dX6_ice_73 : decode cX6_ice 73 = .ok (.dup2, 1) := by decide +kernel
theorem dX6_ice_74 : decode cX6_ice 74 = .ok (.iaload, 1) := by decide +kernel
theorem dX6_ice_75 : decode cX6_ice 75 = .ok (.iload_n 2, 1) := by decide +kernel
theorem dX6_ice_76 : decode cX6_ice 76 = .ok (.iadd, 1) := by decide +kernel
theorem dX6_ice_77 : decode cX6_ice 77 = .ok (.iastore, 1) := by decide +kernel
theorem dX6_ice_78 : decode cX6_ice 78 = .ok (.aload_n 0, 1) := by decide +kernel
theorem dX6_ice_79 : decode cX6_ice 79 = .ok (.getfield 7, 3) := by decide +kernel
theorem dX6_ice_82 : decode cX6_ice 82 = .ok (.bipush 87, 2) := by decide +kernel
theorem dX6_ice_84 : decode cX6_ice 84 = .ok (.dup2, 1) := by decide +kernel
theorem dX6_ice_85 : decode cX6_ice 85 = .ok (.iaload, 1) := by decide +kernel
theorem dX6_ice_86 : decode cX6_ice 86 = .ok (.iload_n 2, 1) := by decide +kernel
theorem dX6_ice_87 : decode cX6_ice 87 = .ok (.iadd, 1) := by decide +kernel
theorem dX6_ice_88 : decode cX6_ice 88 = .ok (.iastore, 1) := by decide +kernel
theorem dX6_ice_89 : decode cX6_ice 89 = .ok (.aload_n 0, 1) := by decide +kernel
theorem dX6_ice_90 : decode cX6_ice 90 = .ok (.iload_n 1, 1) := by decide +kernel
theorem dX6_ice_91 : decode cX6_ice 91 = .ok (.invokevirtual 49, 3) := by decide +kernel
theorem dX6_ice_94 : decode cX6_ice 94 = .ok (.ireturn, 1) := by decide +kernel
theorem dX6_ash_0 : decode cX6_ash 0 = .ok (.aload_n 0, 1) := by decide +kernel
theorem dX6_ash_1 : decode cX6_ash 1 = .ok (.iconst 0, 1) := by decide +kernel
theorem dX6_ash_2 : decode cX6_ash 2 = .ok (.putfield 41, 3) := by decide +kernel
theorem dX6_ash_5 : decode cX6_ash 5 = .ok (.aload_n 0, 1) := by decide +kernel
theorem dX6_ash_6 : decode cX6_ash 6 = .ok (.getfield 16, 3) := by decide +kernel
theorem dX6_ash_9 : decode cX6_ash 9 = .ok (.aload_n 0, 1) := by decide +kernel
theorem dX6_ash_10 : decode cX6_ash 10 = .ok (.getfield 7, 3) := by decide +kernel
theorem dX6_ash_13 : decode cX6_ash 13 = .ok (.bipush 89, 2) := by decide +kernel
theorem dX6_ash_15 : decode cX6_ash 15 = .ok (.iaload, 1) := by decide +kernel
theorem dX6_ash_16 : decode cX6_ash 16 = .ok (.baload, 1) := by decide +kernel
theorem dX6_ash_17 : decode cX6_ash 17 = .ok (.istore_n 1, 1) := by decide +kernel
theorem dX6_ash_18 : decode cX6_ash 18 = .ok (.aload_n 0, 1) := by decide +kernel
theorem dX6_ash_19 : decode cX6_ash 19 = .ok (.getfield 16, 3) := by decide +kernel
theorem dX6_ash_22 : decode cX6_ash 22 = .ok (.aload_n 0, 1) := by decide +kernel
theorem dX6_ash_23 : decode cX6_ash 23 = .ok (.getfield 7, 3) := by decide +kernel
theorem dX6_ash_26 : decode cX6_ash 26 = .ok (.bipush 89, 2) := by decide +kernel
theorem dX6_ash_28 : decode cX6_ash 28 = .ok (.iaload, 1) := by decide +kernel
theorem dX6_ash_29 : decode cX6_ash 29 = .ok (.iconst 1, 1) := by decide +kernel
theorem dX6_ash_30 : decode cX6_ash 30 = .ok (.bastore, 1) := by decide +kernel
theorem dX6_ash_31 : decode cX6_ash 31 = .ok (.iload_n 1, 1) := by decide +kernel
theorem dX6_ash_32 : decode cX6_ash 32 = .ok (.ireturn, 1) := by decide +kernel
set_option maxRecDepth 20000 in
theorem ggX6_snows_X6_iceOf : GoodIn wsX6_snows wsX6_iceOf := goodIn_r _ [9, 2, 19, 20, 21, 22, 23, 24, 25, 26, 27, 28, 29, 30, 31, 32, 33, 34] (by decide +kernel) (by decide +kernel)
set_option maxRecDepth 20000 in
theorem gX6_snows_X6_iceOf : GoodIn wsX6_snows (wsV RX6 49 RX6 yX6_iceOf wsX6_iceOf) := goodIn_app (goodIn_of _ (by decide +kernel)) ggX6_snows_X6_iceOf
set_option maxRecDepth 20000 in
theorem ggX6_snows_X6_surfaceOf : GoodIn wsX6_snows wsX6_surfaceOf := goodIn_r _ [13, 2, 5, 6, 7, 8, 9, 19, 20, 21, 22, 23, 24, 25, 26, 27, 28, 29, 30, 31, 32, 33, 34] (by decide +kernel) (by decide +kernel)
set_option maxRecDepth 20000 in
theorem gX6_snows_X6_surfaceOf : GoodIn wsX6_snows (wsV RX6 76 RX6 yX6_surfaceOf wsX6_surfaceOf) := goodIn_app (goodIn_of _ (by decide +kernel)) ggX6_snows_X6_surfaceOf
set_option maxRecDepth 20000 in
theorem ggX6_snows_X6_isInSea : GoodIn wsX6_snows wsX6_isInSea := goodIn_r _ [17, 2, 18, 19, 20, 21, 22, 23, 24, 25, 26, 27, 28, 29, 30, 31, 32, 33, 34] (by decide +kernel) (by decide +kernel)
set_option maxRecDepth 20000 in
theorem gX6_snows_X6_isInSea : GoodIn wsX6_snows (wsV RX6 79 RX6 yX6_isInSea wsX6_isInSea) := goodIn_app (goodIn_of _ (by decide +kernel)) ggX6_snows_X6_isInSea
theorem dX6_snows_0 : decode cX6_snows 0 = .ok (.iconst 0, 1) := by decide +kernel
theorem dX6_snows_1 : decode cX6_snows 1 = .ok (.istore_n 1, 1) := by decide +kernel
theorem dX6_snows_2 : decode cX6_snows 2 = .ok (.iload_n 1, 1) := by decide +kernel
theorem dX6_snows_3 : decode cX6_snows 3 = .ok (.bipush 12, 2) := by decide +kernel
theorem dX6_snows_5 : decode cX6_snows 5 = .ok (.if_icmp .ge 251, 3) := by decide +kernel
theorem dX6_snows_8 : decode cX6_snows 8 = .ok (.aload_n 0, 1) := by decide +kernel
theorem dX6_snows_9 : decode cX6_snows 9 = .ok (.iload_n 1, 1) := by decide +kernel
theorem dX6_snows_10 : decode cX6_snows 10 = .ok (.invokevirtual 49, 3) := by decide +kernel
theorem dX6_snows_13 : decode cX6_snows 13 = .ok (.istore_n 2, 1) := by decide +kernel
theorem dX6_snows_14 : decode cX6_snows 14 = .ok (.aload_n 0, 1) := by decide +kernel
theorem dX6_snows_15 : decode cX6_snows 15 = .ok (.getfield 67, 3) := by decide +kernel
theorem dX6_snows_18 : decode cX6_snows 18 = .ok (.aload_n 0, 1) := by decide +kernel
theorem dX6_snows_19 : decode cX6_snows 19 = .ok (.iload_n 1, 1) := by decide +kernel
theorem dX6_snows_20 : decode cX6_snows 20 = .ok (.invokevirtual 76, 3) := by decide +kernel
theorem dX6_snows_23 : decode cX6_snows 23 = .ok (.iconst 1, 1) := by decide +kernel
theorem dX6_snows_24 : decode cX6_snows 24 = .ok (.ishr, 1) := by decide +kernel
theorem dX6_snows_25 : decode cX6_snows 25 = .ok (.isub, 1) := by decide +kernel
theorem dX6_snows_26 : decode cX6_snows 26 = .ok (.istore_n 3, 1) := by decide +kernel
theorem dX6_snows_27 : decode cX6_snows 27 = .ok (.aload_n 0, 1) := by decide +kernel
theorem dX6_snows_28 : decode cX6_snows 28 = .ok (.getfield 7, 3) := by decide +kernel
theorem dX6_snows_31 : decode cX6_snows 31 = .ok (.bipush 48, 2) := by decide +kernel
theorem dX6_snows_33 : decode cX6_snows 33 = .ok (.iload_n 1, 1) := by decide +kernel
theorem dX6_snows_34 : decode cX6_snows 34 = .ok (.iadd, 1) := by decide +kernel
theorem dX6_snows_35 : decode cX6_snows 35 = .ok (.iload_n 3, 1) := by decide +kernel
theorem dX6_snows_36 : decode cX6_snows 36 = .ok (.ifCond .ge 22, 3) := by decide +kernel
theorem dX6_snows_39 : decode cX6_snows 39 = .ok (.iload_n 2, 1) := by decide +kernel
theorem dX6_snows_40 : decode cX6_snows 40 = .ok (.ifCond .gt 11, 3) := by decide +kernel
theorem dX6_snows_43 : decode cX6_snows 43 = .ok (.aload_n 0, 1) := by decide +kernel
theorem dX6_snows_44 : decode cX6_snows 44 = .ok (.iload_n 1, 1) := by decide +kernel
theorem dX6_snows_45 : decode cX6_snows 45 = .ok (.invokevirtual 79, 3) := by decide +kernel
theorem dX6_snows_48 : decode cX6_snows 48 = .ok (.ifCond .ne 10, 3) := by decide +kernel
theorem dX6_snows_51 : decode cX6_snows 51 = .ok (.aload_n 0, 1) := by decide +kernel
theorem dX6_snows_52 : decode cX6_snows 52 = .ok (.getfield 70, 3) := by decide +kernel
theorem dX6_snows_55 : decode cX6_snows 55 = .ok (.goto 4, 3) := by decide +kernel
theorem dX6_snows_58 : decode cX6_snows 58 = .ok (.iconst 0, 1) := by decide +kernel
theorem dX6_snows_59 : decode cX6_snows 59 = .ok (.iastore, 1) := by decide +kernel
theorem dX6_snows_60 : decode cX6_snows 60 = .ok (.aload_n 0, 1) := by decide +kernel
theorem dX6_snows_61 : decode cX6_snows 61 = .ok (.getfield 7, 3) := by decide +kernel
theorem dX6_snows_64 : decode cX6_snows 64 = .ok (.bipush 86, 2) := by decide +kernel
theorem dX6_snows_66 : decode cX6_snows 66 = .ok (.dup2, 1) := by decide +kernel
theorem dX6_snows_67 : decode cX6_snows 67 = .ok (.iaload, 1) := by decide +kernel
theorem dX6_snows_68 : decode cX6_snows 68 = .ok (.aload_n 0, 1) := by decide +kernel
theorem dX6_snows_69 : decode cX6_snows 69 = .ok (.getfield 7, 3) := by decide +kernel
theorem dX6_snows_72 : decode cX6_snows 72 = .ok (.bipush 48, 2) := by decide +kernel
theorem dX6_snows_74 : decode cX6_snows 74 = .ok (.iload_n 1, 1) := by decide +kernel
theorem dX6_snows_75 : decode cX6_snows 75 = .ok (.iadd, 1) := by decide +kernel
theorem dX6_snows_76 : decode cX6_snows 76 = .ok (.iaload, 1) := by decide +kernel
theorem dX6_snows_77 : decode cX6_snows 77 = .ok (.iadd, 1) := by decide +kernel
theorem dX6_snows_78 : decode cX6_snows 78 = .ok (.iastore, 1) := by decide +kernel
theorem dX6_snows_79 : decode cX6_snows 79 = .ok (.aload_n 0, 1) := by decide +kernel
theorem dX6_snows_80 : decode cX6_snows 80 = .ok (.getfield 7, 3) := by decide +kernel
theorem dX6_snows_83 : decode cX6_snows 83 = .ok (.bipush 100, 2) := by decide +kernel
theorem dX6_snows_85 : decode cX6_snows 85 = .ok (.bipush 61, 2) := by decide +kernel
theorem dX6_snows_87 : decode cX6_snows 87 = .ok (.iload_n 1, 1) := by decide +kernel
theorem dX6_snows_88 : decode cX6_snows 88 = .ok (.imul, 1) := by decide +kernel
theorem dX6_snows_89 : decode cX6_snows 89 = .ok (.iadd, 1) := by decide +kernel
theorem dX6_snows_90 : decode cX6_snows 90 = .ok (.aload_n 0, 1) := by decide +kernel
theorem dX6_snows_91 : decode cX6_snows 91 = .ok (.getfield 7, 3) := by decide +kernel
theorem dX6_snows_94 : decode cX6_snows 94 = .ok (.bipush 89, 2) := by decide +kernel
theorem dX6_snows_96 : decode cX6_snows 96 = .ok (.iaload, 1) := by decide +kernel
theorem dX6_snows_97 : decode cX6_snows 97 = .ok (.iadd, 1) := by decide +kernel
theorem dX6_snows_98 : decode cX6_snows 98 = .ok (.dup2, 1) := by decide +kernel
theorem dX6_snows_99 : decode cX6_snows 99 = .ok (.iaload, 1) := by decide +kernel
theorem dX6_snows_100 : decode cX6_snows 100 = .ok (.aload_n 0, 1) := by decide +kernel
theorem dX6_snows_101 : decode cX6_snows 101 = .ok (.getfield 7, 3) := by decide +kernel
theorem dX6_snows_104 : decode cX6_snows 104 = .ok (.bipush 48, 2) := by decide +kernel
theorem dX6_snows_106 : decode cX6_snows 106 = .ok (.iload_n 1, 1) := by decide +kernel
theorem dX6_snows_107 : decode cX6_snows 107 = .ok (.iadd, 1) := by decide +kernel
theorem dX6_snows_108 : decode cX6_snows 108 = .ok (.iaload, 1) := by decide +kernel
theorem dX6_snows_109 : decode cX6_snows 109 = .ok (.iadd, 1) := by decide +kernel
theorem dX6_snows_110 : decode cX6_snows 110 = .ok (.iastore, 1) := by decide +kernel
theorem dX6_snows_111 : decode cX6_snows 111 = .ok (.iload_n 3, 1) := by decide +kernel
theorem dX6_snows_112 : decode cX6_snows 112 = .ok (.ifCond .le 15, 3) := by decide +kernel
theorem dX6_snows_115 : decode cX6_snows 115 = .ok (.iload_n 3, 1) := by decide +kernel
theorem dX6_snows_116 : decode cX6_snows 116 = .ok (.aload_n 0, 1) := by decide +kernel
theorem dX6_snows_117 : decode cX6_snows 117 = .ok (.getfield 73, 3) := by decide +kernel
theorem dX6_snows_120 : decode cX6_snows 120 = .ok (.imul, 1) := by decide +kernel
theorem dX6_snows_121 : decode cX6_snows 121 = .ok (.bipush 10, 2) := by decide +kernel
theorem dX6_snows_123 : decode cX6_snows 123 = .ok (.idiv, 1) := by decide +kernel
theorem dX6_snows_124 : decode cX6_snows 124 = .ok (.goto 4, 3) := by decide +kernel
theorem dX6_snows_127 : decode cX6_snows 127 = .ok (.iconst 0, 1) := by decide +kernel
theorem dX6_snows_128 : decode cX6_snows 128 = .ok (.istore 4, 2) := by decide +kernel
theorem dX6_snows_130 : decode cX6_snows 130 = .ok (.iload 4, 2) := by decide +kernel
theorem dX6_snows_132 : decode cX6_snows 132 = .ok (.iload_n 2, 1) := by decide +kernel
theorem dX6_snows_133 : decode cX6_snows 133 = .ok (.if_icmp .ge 8, 3) := by decide +kernel
theorem dX6_snows_136 : decode cX6_snows 136 = .ok (.iload 4, 2) := by decide +kernel
theorem dX6_snows_138 : decode cX6_snows 138 = .ok (.goto 12, 3) := by decide +kernel
theorem dX6_snows_141 : decode cX6_snows 141 = .ok (.iload_n 3, 1) := by decide +kernel
theorem dX6_snows_142 : decode cX6_snows 142 = .ok (.ifCond .le 7, 3) := by decide +kernel
theorem dX6_snows_145 : decode cX6_snows 145 = .ok (.iload_n 2, 1) := by decide +kernel
theorem dX6_snows_146 : decode cX6_snows 146 = .ok (.goto 4, 3) := by decide +kernel
theorem dX6_snows_149 : decode cX6_snows 149 = .ok (.iconst 0, 1) := by decide +kernel
theorem dX6_snows_150 : decode cX6_snows 150 = .ok (.istore 4, 2) := by decide +kernel
theorem dX6_snows_152 : decode cX6_snows 152 = .ok (.aload_n 0, 1) := by decide +kernel
theorem dX6_snows_153 : decode cX6_snows 153 = .ok (.getfield 7, 3) := by decide +kernel
theorem dX6_snows_156 : decode cX6_snows 156 = .ok (.bipush 24, 2) := by decide +kernel
theorem dX6_snows_158 : decode cX6_snows 158 = .ok (.iload_n 1, 1) := by decide +kernel
theorem dX6_snows_159 : decode cX6_snows 159 = .ok (.iadd, 1) := by decide +kernel
theorem dX6_snows_160 : decode cX6_snows 160 = .ok (.dup2, 1) := by decide +kernel
theorem dX6_snows_161 : decode cX6_snows 161 = .ok (.iaload, 1) := by decide +kernel
theorem dX6_snows_162 : decode cX6_snows 162 = .ok (.iload 4, 2) := by decide +kernel
theorem dX6_snows_164 : decode cX6_snows 164 = .ok (.iadd, 1) := by decide +kernel
theorem dX6_snows_165 : decode cX6_snows 165 = .ok (.iastore, 1) := by decide +kernel
theorem dX6_snows_166 : decode cX6_snows 166 = .ok (.aload_n 0, 1) := by decide +kernel
theorem dX6_snows_167 : decode cX6_snows 167 = .ok (.getfield 7, 3) := by decide +kernel
theorem dX6_snows_170 : decode cX6_snows 170 = .ok (.bipush 88, 2) := by decide +kernel
theorem dX6_snows_172 : decode cX6_snows 172 = .ok (.dup2, 1) := by decide +kernel
theorem dX6_snows_173 : decode cX6_snows 173 = .ok (.iaload, 1) := by decide +kernel
theorem dX6_snows_174 : decode cX6_snows 174 = .ok (.iload 4, 2) := by decide +kernel
theorem dX6_snows_176 : decode cX6_snows 176 = .ok (.iadd, 1) := by decide +kernel
theorem dX6_snows_177 : decode cX6_snows 177 = .ok (.iastore, 1) := by decide +kernel
theorem dX6_snows_178 : decode cX6_snows 178 = .ok (.bipush 60, 2) := by decide +kernel
theorem dX6_snows_180 : decode cX6_snows 180 = .ok (.istore 5, 2) := by decide +kernel
theorem dX6_snows_182 : decode cX6_snows 182 = .ok (.iload 4, 2) := by decide +kernel
theorem dX6_snows_184 : decode cX6_snows 184 = .ok (.ifCond .le 66, 3) := by decide +kernel
theorem dX6_snows_187 : decode cX6_snows 187 = .ok (.bipush 100, 2) := by decide +kernel
theorem dX6_snows_189 : decode cX6_snows 189 = .ok (.bipush 61, 2) := by decide +kernel
theorem dX6_snows_191 : decode cX6_snows 191 = .ok (.iload_n 1, 1) := by decide +kernel
theorem dX6_snows_192 : decode cX6_snows 192 = .ok (.imul, 1) := by decide +kernel
theorem dX6_snows_193 : decode cX6_snows 193 = .ok (.iadd, 1) := by decide +kernel
theorem dX6_snows_194 : decode cX6_snows 194 = .ok (.iload 5, 2) := by decide +kernel
theorem dX6_snows_196 : decode cX6_snows 196 = .ok (.iadd, 1) := by decide +kernel
theorem dX6_snows_197 : decode cX6_snows 197 = .ok (.istore 6, 2) := by decide +kernel
theorem dX6_snows_199 : decode cX6_snows 199 = .ok (.aload_n 0, 1) := by decide +kernel
theorem dX6_snows_200 : decode cX6_snows 200 = .ok (.getfield 7, 3) := by decide +kernel
theorem dX6_snows_203 : decode cX6_snows 203 = .ok (.iload 6, 2) := by decide +kernel
theorem dX6_snows_205 : decode cX6_snows 205 = .ok (.iaload, 1) := by decide +kernel
theorem dX6_snows_206 : decode cX6_snows 206 = .ok (.iload 4, 2) := by decide +kernel
theorem dX6_snows_208 : decode cX6_snows 208 = .ok (.if_icmp .ge 13, 3) := by decide +kernel
theorem dX6_snows_211 : decode cX6_snows 211 = .ok (.aload_n 0, 1) := by decide +kernel
theorem dX6_snows_212 : decode cX6_snows 212 = .ok (.getfield 7, 3) := by decide +kernel
theorem dX6_snows_215 : decode cX6_snows 215 = .ok (.iload 6, 2) := by decide +kernel
theorem dX6_snows_217 : decode cX6_snows 217 = .ok (.iaload, 1) := by decide +kernel
theorem dX6_snows_218 : decode cX6_snows 218 = .ok (.goto 5, 3) := by decide +kernel
theorem dX6_snows_221 : decode cX6_snows 221 = .ok (.iload 4, 2) := by decide +kernel
theorem dX6_snows_223 : decode cX6_snows 223 = .ok (.istore 7, 2) := by decide +kernel
theorem dX6_snows_225 : decode cX6_snows 225 = .ok (.aload_n 0, 1) := by decide +kernel
theorem dX6_snows_226 : decode cX6_snows 226 = .ok (.getfield 7, 3) := by decide +kernel
theorem dX6_snows_229 : decode cX6_snows 229 = .ok (.iload 6, 2) := by decide +kernel
theorem dX6_snows_231 : decode cX6_snows 231 = .ok (.dup2, 1) := by decide +kernel
theorem dX6_snows_232 : decode cX6_snows 232 = .ok (.iaload, 1) := by decide +kernel
theorem dX6_snows_233 : decode cX6_snows 233 = .ok (.iload 7, 2) := by decide +kernel
theorem dX6_snows_235 : decode cX6_snows 235 = .ok (.isub, 1) := by decide +kernel
theorem dX6_snows_236 : decode cX6_snows 236 = .ok (.iastore, 1) := by decide +kernel
theorem dX6_snows_237 : decode cX6_snows 237 = .ok (.iload 4, 2) := by decide +kernel
theorem dX6_snows_239 : decode cX6_snows 239 = .ok (.iload 7, 2) := by decide +kernel
theorem dX6_snows_241 : decode cX6_snows 241 = .ok (.isub, 1) := by decide +kernel
theorem dX6_snows_242 : decode cX6_snows 242 = .ok (.istore 4, 2) := by decide +kernel
theorem dX6_snows_244 : decode cX6_snows 244 = .ok (.iinc 5 (-1), 3) := by decide +kernel
theorem dX6_snows_247 : decode cX6_snows 247 = .ok (.goto (-65), 3) := by decide +kernel
theorem dX6_snows_250 : decode cX6_snows 250 = .ok (.iinc 1 1, 3) := by decide +kernel
theorem dX6_snows_253 : decode cX6_snows 253 = .ok (.goto (-251), 3) := by decide +kernel
theorem dX6_snows_256 : decode cX6_snows 256 = .ok (.return_, 1) := by decide +kernel
set_option maxRecDepth 20000 in
theorem ggX6_flowOf_X6_iceOf : GoodIn wsX6_flowOf wsX6_iceOf := goodIn_r _ [8, 2, 13, 14, 15, 16, 17, 18, 19, 20, 21, 22, 23, 24, 25, 26, 27, 28] (by decide +kernel) (by decide +kernel)
set_option maxRecDepth 20000 in
theorem gX6_flowOf_X6_iceOf : GoodIn wsX6_flowOf (wsV RX6 49 RX6 yX6_iceOf wsX6_iceOf) := goodIn_app (goodIn_of _ (by decide +kernel)) ggX6_flowOf_X6_iceOf
set_option maxRecDepth 20000 in
theorem ggX6_flowOf_X6_surfaceOf : GoodIn wsX6_flowOf wsX6_surfaceOf := goodIn_r _ [12, 2, 4, 5, 6, 7, 8, 13, 14, 15, 16, 17, 18, 19, 20, 21, 22, 23, 24, 25, 26, 27, 28] (by decide +kernel) (by decide +kernel)
set_option maxRecDepth 20000 in
theorem gX6_flowOf_X6_surfaceOf : GoodIn wsX6_flowOf (wsV RX6 76 RX6 yX6_surfaceOf wsX6_surfaceOf) := goodIn_app (goodIn_of _ (by decide +kernel)) ggX6_flowOf_X6_surfaceOf
theorem dX6_flowOf_0 : decode cX6_flowOf 0 = .ok (.aload_n 0, 1) := by decide +kernel
theorem dX6_flowOf_1 : decode cX6_flowOf 1 = .ok (.iload_n 1, 1) := by decide +kernel
theorem dX6_flowOf_2 : decode cX6_flowOf 2 = .ok (.invokevirtual 49, 3) := by decide +kernel
theorem dX6_flowOf_5 : decode cX6_flowOf 5 = .ok (.istore_n 3, 1) := by decide +kernel
theorem dX6_flowOf_6 : decode cX6_flowOf 6 = .ok (.aload_n 0, 1) := by decide +kernel
theorem dX6_flowOf_7 : decode cX6_flowOf 7 = .ok (.iload_n 1, 1) := by decide +kernel
theorem dX6_flowOf_8 : decode cX6_flowOf 8 = .ok (.invokevirtual 76, 3) := by decide +kernel
theorem dX6_flowOf_11 : decode cX6_flowOf 11 = .ok (.aload_n 0, 1) := by decide +kernel
theorem dX6_flowOf_12 : decode cX6_flowOf 12 = .ok (.iload_n 2, 1) := by decide +kernel
theorem dX6_flowOf_13 : decode cX6_flowOf 13 = .ok (.invokevirtual 76, 3) := by decide +kernel
theorem dX6_flowOf_16 : decode cX6_flowOf 16 = .ok (.isub, 1) := by decide +kernel
theorem dX6_flowOf_17 : decode cX6_flowOf 17 = .ok (.i2l, 1) := by decide +kernel
theorem dX6_flowOf_18 : decode cX6_flowOf 18 = .ok (.iload_n 3, 1) := by decide +kernel
theorem dX6_flowOf_19 : decode cX6_flowOf 19 = .ok (.i2l, 1) := by decide +kernel
theorem dX6_flowOf_20 : decode cX6_flowOf 20 = .ok (.lmul, 1) := by decide +kernel
theorem dX6_flowOf_21 : decode cX6_flowOf 21 = .ok (.ldc2_w 82, 3) := by decide +kernel
theorem dX6_flowOf_24 : decode cX6_flowOf 24 = .ok (.ldiv, 1) := by decide +kernel
theorem dX6_flowOf_25 : decode cX6_flowOf 25 = .ok (.lstore 4, 2) := by decide +kernel
theorem dX6_flowOf_27 : decode cX6_flowOf 27 = .ok (.aload_n 0, 1) := by decide +kernel
theorem dX6_flowOf_28 : decode cX6_flowOf 28 = .ok (.getfield 7, 3) := by decide +kernel
theorem dX6_flowOf_31 : decode cX6_flowOf 31 = .ok (.bipush 24, 2) := by decide +kernel
theorem dX6_flowOf_33 : decode cX6_flowOf 33 = .ok (.iload_n 1, 1) := by decide +kernel
theorem dX6_flowOf_34 : decode cX6_flowOf 34 = .ok (.iadd, 1) := by decide +kernel
theorem dX6_flowOf_35 : decode cX6_flowOf 35 = .ok (.iaload, 1) := by decide +kernel
theorem dX6_flowOf_36 : decode cX6_flowOf 36 = .ok (.iconst 4, 1) := by decide +kernel
theorem dX6_flowOf_37 : decode cX6_flowOf 37 = .ok (.if_icmp .lt 12, 3) := by decide +kernel
theorem dX6_flowOf_40 : decode cX6_flowOf 40 = .ok (.ldc2_w 84, 3) := by decide +kernel
theorem dX6_flowOf_43 : decode cX6_flowOf 43 = .ok (.lload 4, 2) := by decide +kernel
theorem dX6_flowOf_45 : decode cX6_flowOf 45 = .ok (.lmul, 1) := by decide +kernel
theorem dX6_flowOf_46 : decode cX6_flowOf 46 = .ok (.goto 5, 3) := by decide +kernel
theorem dX6_flowOf_49 : decode cX6_flowOf 49 = .ok (.lload 4, 2) := by decide +kernel
theorem dX6_flowOf_51 : decode cX6_flowOf 51 = .ok (.lstore 4, 2) := by decide +kernel
theorem dX6_flowOf_53 : decode cX6_flowOf 53 = .ok (.lload 4, 2) := by decide +kernel
theorem dX6_flowOf_55 : decode cX6_flowOf 55 = .ok (.iload_n 3, 1) := by decide +kernel
theorem dX6_flowOf_56 : decode cX6_flowOf 56 = .ok (.iconst 4, 1) := by decide +kernel
theorem dX6_flowOf_57 : decode cX6_flowOf 57 = .ok (.idiv, 1) := by decide +kernel
theorem dX6_flowOf_58 : decode cX6_flowOf 58 = .ok (.i2l, 1) := by decide +kernel
theorem dX6_flowOf_59 : decode cX6_flowOf 59 = .ok (.lcmp, 1) := by decide +kernel
theorem dX6_flowOf_60 : decode cX6_flowOf 60 = .ok (.ifCond .ge 9, 3) := by decide +kernel
theorem dX6_flowOf_63 : decode cX6_flowOf 63 = .ok (.lload 4, 2) := by decide +kernel
theorem dX6_flowOf_65 : decode cX6_flowOf 65 = .ok (.l2i, 1) := by decide +kernel
theorem dX6_flowOf_66 : decode cX6_flowOf 66 = .ok (.goto 6, 3) := by decide +kernel
theorem dX6_flowOf_69 : decode cX6_flowOf 69 = .ok (.iload_n 3, 1) := by decide +kernel
theorem dX6_flowOf_70 : decode cX6_flowOf 70 = .ok (.iconst 4, 1) := by decide +kernel
theorem dX6_flowOf_71 : decode cX6_flowOf 71 = .ok (.idiv, 1) := by decide +kernel
theorem dX6_flowOf_72 : decode cX6_flowOf 72 = .ok (.ireturn, 1) := by decide +kernel
set_option maxRecDepth 20000 in
theorem ggX6_flows_X6_surfaceOf : GoodIn wsX6_flows wsX6_surfaceOf := goodIn_r _ [7, 1, 8, 9, 10, 6, 11, 18, 19, 20, 21, 22, 23, 24, 25, 26, 27, 28, 29, 30, 31, 32, 33] (by decide +kernel) (by decide +kernel)
set_option maxRecDepth 20000 in
theorem gX6_flows_X6_surfaceOf : GoodIn wsX6_flows (wsV RX6 76 RX6 yX6_surfaceOf wsX6_surfaceOf) := goodIn_app (goodIn_of _ (by decide +kernel)) ggX6_flows_X6_surfaceOf
set_option maxRecDepth 20000 in
theorem ggX6_flows_X6_flowOf : GoodIn wsX6_flows wsX6_flowOf := goodIn_r _ [15, 16, 1, 17, 8, 9, 10, 6, 11, 3, 4, 5, 7, 18, 19, 20, 21, 22, 23, 24, 25, 26, 27, 28, 29, 30, 31, 32, 33] (by decide +kernel) (by decide +kernel)
set_option maxRecDepth 20000 in
theorem gX6_flows_X6_flowOf : GoodIn wsX6_flows (wsV RX6 86 RX6 yX6_flowOf wsX6_flowOf) := goodIn_app (goodIn_of _ (by decide +kernel)) ggX6_flows_X6_flowOf
theorem dX6_flows_0 : decode cX6_flows 0 = .ok (.iconst 0, 1) := by decide +kernel
theorem dX6_flows_1 : decode cX6_flows 1 = .ok (.istore_n 1, 1) := by decide +kernel
theorem dX6_flows_2 : decode cX6_flows 2 = .ok (.iload_n 1, 1) := by decide +kernel
theorem dX6_flows_3 : decode cX6_flows 3 = .ok (.bipush 12, 2) := by decide +kernel
theorem dX6_flows_5 : decode cX6_flows 5 = .ok (.if_icmp .ge 29, 3) := by decide +kernel
theorem dX6_flows_8 : decode cX6_flows 8 = .ok (.aload_n 0, 1) := by decide +kernel
theorem dX6_flows_9 : decode cX6_flows 9 = .ok (.getfield 7, 3) := by decide +kernel
theorem dX6_flows_12 : decode cX6_flows 12 = .ok (.bipush 60, 2) := by decide +kernel
theorem dX6_flows_14 : decode cX6_flows 14 = .ok (.iload_n 1, 1) := by decide +kernel
theorem dX6_flows_15 : decode cX6_flows 15 = .ok (.iadd, 1) := by decide +kernel
theorem dX6_flows_16 : decode cX6_flows 16 = .ok (.iconst 0, 1) := by decide +kernel
theorem dX6_flows_17 : decode cX6_flows 17 = .ok (.iastore, 1) := by decide +kernel
theorem dX6_flows_18 : decode cX6_flows 18 = .ok (.aload_n 0, 1) := by decide +kernel
theorem dX6_flows_19 : decode cX6_flows 19 = .ok (.getfield 7, 3) := by decide +kernel
theorem dX6_flows_22 : decode cX6_flows 22 = .ok (.bipush 72, 2) := by decide +kernel
theorem dX6_flows_24 : decode cX6_flows 24 = .ok (.iload_n 1, 1) := by decide +kernel
theorem dX6_flows_25 : decode cX6_flows 25 = .ok (.iadd, 1) := by decide +kernel
theorem dX6_flows_26 : decode cX6_flows 26 = .ok (.iconst 0, 1) := by decide +kernel
theorem dX6_flows_27 : decode cX6_flows 27 = .ok (.iastore, 1) := by decide +kernel
theorem dX6_flows_28 : decode cX6_flows 28 = .ok (.iinc 1 1, 3) := by decide +kernel
theorem dX6_flows_31 : decode cX6_flows 31 = .ok (.goto (-29), 3) := by decide +kernel
theorem dX6_flows_34 : decode cX6_flows 34 = .ok (.iconst 0, 1) := by decide +kernel
theorem dX6_flows_35 : decode cX6_flows 35 = .ok (.istore_n 1, 1) := by decide +kernel
theorem dX6_flows_36 : decode cX6_flows 36 = .ok (.iload_n 1, 1) := by decide +kernel
theorem dX6_flows_37 : decode cX6_flows 37 = .ok (.bipush 11, 2) := by decide +kernel
theorem dX6_flows_39 : decode cX6_flows 39 = .ok (.if_icmp .ge 63, 3) := by decide +kernel
theorem dX6_flows_42 : decode cX6_flows 42 = .ok (.aload_n 0, 1) := by decide +kernel
theorem dX6_flows_43 : decode cX6_flows 43 = .ok (.iload_n 1, 1) := by decide +kernel
theorem dX6_flows_44 : decode cX6_flows 44 = .ok (.invokevirtual 76, 3) := by decide +kernel
theorem dX6_flows_47 : decode cX6_flows 47 = .ok (.istore_n 2, 1) := by decide +kernel
theorem dX6_flows_48 : decode cX6_flows 48 = .ok (.aload_n 0, 1) := by decide +kernel
theorem dX6_flows_49 : decode cX6_flows 49 = .ok (.iload_n 1, 1) := by decide +kernel
theorem dX6_flows_50 : decode cX6_flows 50 = .ok (.iconst 1, 1) := by decide +kernel
theorem dX6_flows_51 : decode cX6_flows 51 = .ok (.iadd, 1) := by decide +kernel
theorem dX6_flows_52 : decode cX6_flows 52 = .ok (.invokevirtual 76, 3) := by decide +kernel
theorem dX6_flows_55 : decode cX6_flows 55 = .ok (.istore_n 3, 1) := by decide +kernel
theorem dX6_flows_56 : decode cX6_flows 56 = .ok (.aload_n 0, 1) := by decide +kernel
theorem dX6_flows_57 : decode cX6_flows 57 = .ok (.getfield 38, 3) := by decide +kernel
theorem dX6_flows_60 : decode cX6_flows 60 = .ok (.iload_n 1, 1) := by decide +kernel
theorem dX6_flows_61 : decode cX6_flows 61 = .ok (.iload_n 2, 1) := by decide +kernel
theorem dX6_flows_62 : decode cX6_flows 62 = .ok (.iload_n 3, 1) := by decide +kernel
theorem dX6_flows_63 : decode cX6_flows 63 = .ok (.if_icmp .le 14, 3) := by decide +kernel
theorem dX6_flows_66 : decode cX6_flows 66 = .ok (.aload_n 0, 1) := by decide +kernel
theorem dX6_flows_67 : decode cX6_flows 67 = .ok (.iload_n 1, 1) := by decide +kernel
theorem dX6_flows_68 : decode cX6_flows 68 = .ok (.iload_n 1, 1) := by decide +kernel
theorem dX6_flows_69 : decode cX6_flows 69 = .ok (.iconst 1, 1) := by decide +kernel
theorem dX6_flows_70 : decode cX6_flows 70 = .ok (.iadd, 1) := by decide +kernel
theorem dX6_flows_71 : decode cX6_flows 71 = .ok (.invokevirtual 86, 3) := by decide +kernel
theorem dX6_flows_74 : decode cX6_flows 74 = .ok (.goto 21, 3) := by decide +kernel
theorem dX6_flows_77 : decode cX6_flows 77 = .ok (.iload_n 2, 1) := by decide +kernel
theorem dX6_flows_78 : decode cX6_flows 78 = .ok (.iload_n 3, 1) := by decide +kernel
theorem dX6_flows_79 : decode cX6_flows 79 = .ok (.if_icmp .ge 15, 3) := by decide +kernel
theorem dX6_flows_82 : decode cX6_flows 82 = .ok (.aload_n 0, 1) := by decide +kernel
theorem dX6_flows_83 : decode cX6_flows 83 = .ok (.iload_n 1, 1) := by decide +kernel
theorem dX6_flows_84 : decode cX6_flows 84 = .ok (.iconst 1, 1) := by decide +kernel
theorem dX6_flows_85 : decode cX6_flows 85 = .ok (.iadd, 1) := by decide +kernel
theorem dX6_flows_86 : decode cX6_flows 86 = .ok (.iload_n 1, 1) := by decide +kernel
theorem dX6_flows_87 : decode cX6_flows 87 = .ok (.invokevirtual 86, 3) := by decide +kernel
theorem dX6_flows_90 : decode cX6_flows 90 = .ok (.ineg, 1) := by decide +kernel
theorem dX6_flows_91 : decode cX6_flows 91 = .ok (.goto 4, 3) := by decide +kernel
theorem dX6_flows_94 : decode cX6_flows 94 = .ok (.iconst 0, 1) := by decide +kernel
theorem dX6_flows_95 : decode cX6_flows 95 = .ok (.iastore, 1) := by decide +kernel
theorem dX6_flows_96 : decode cX6_flows 96 = .ok (.iinc 1 1, 3) := by decide +kernel
theorem dX6_flows_99 : decode cX6_flows 99 = .ok (.goto (-63), 3) := by decide +kernel
theorem dX6_flows_102 : decode cX6_flows 102 = .ok (.iconst 0, 1) := by decide +kernel
theorem dX6_flows_103 : decode cX6_flows 103 = .ok (.istore_n 1, 1) := by decide +kernel
theorem dX6_flows_104 : decode cX6_flows 104 = .ok (.iload_n 1, 1) := by decide +kernel
theorem dX6_flows_105 : decode cX6_flows 105 = .ok (.bipush 11, 2) := by decide +kernel
theorem dX6_flows_107 : decode cX6_flows 107 = .ok (.if_icmp .ge 183, 3) := by decide +kernel
theorem dX6_flows_110 : decode cX6_flows 110 = .ok (.aload_n 0, 1) := by decide +kernel
theorem dX6_flows_111 : decode cX6_flows 111 = .ok (.getfield 38, 3) := by decide +kernel
theorem dX6_flows_114 : decode cX6_flows 114 = .ok (.iload_n 1, 1) := by decide +kernel
theorem dX6_flows_115 : decode cX6_flows 115 = .ok (.iaload, 1) := by decide +kernel
theorem dX6_flows_116 : decode cX6_flows 116 = .ok (.ifCond .ge 9, 3) := by decide +kernel
theorem dX6_flows_119 : decode cX6_flows 119 = .ok (.iload_n 1, 1) := by decide +kernel
theorem dX6_flows_120 : decode cX6_flows 120 = .ok (.iconst 1, 1) := by decide +kernel
theorem dX6_flows_121 : decode cX6_flows 121 = .ok (.iadd, 1) := by decide +kernel
theorem dX6_flows_122 : decode cX6_flows 122 = .ok (.goto 4, 3) := by decide +kernel
theorem dX6_flows_125 : decode cX6_flows 125 = .ok (.iload_n 1, 1) := by decide +kernel
theorem dX6_flows_126 : decode cX6_flows 126 = .ok (.istore_n 2, 1) := by decide +kernel
theorem dX6_flows_127 : decode cX6_flows 127 = .ok (.iconst 2, 1) := by decide +kernel
theorem dX6_flows_128 : decode cX6_flows 128 = .ok (.iload_n 1, 1) := by decide +kernel
theorem dX6_flows_129 : decode cX6_flows 129 = .ok (.imul, 1) := by decide +kernel
theorem dX6_flows_130 : decode cX6_flows 130 = .ok (.iconst 1, 1) := by decide +kernel
theorem dX6_flows_131 : decode cX6_flows 131 = .ok (.iadd, 1) := by decide +kernel
theorem dX6_flows_132 : decode cX6_flows 132 = .ok (.iload_n 2, 1) := by decide +kernel
theorem dX6_flows_133 : decode cX6_flows 133 = .ok (.isub, 1) := by decide +kernel
theorem dX6_flows_134 : decode cX6_flows 134 = .ok (.istore_n 3, 1) := by decide +kernel
theorem dX6_flows_135 : decode cX6_flows 135 = .ok (.aload_n 0, 1) := by decide +kernel
theorem dX6_flows_136 : decode cX6_flows 136 = .ok (.getfield 38, 3) := by decide +kernel
theorem dX6_flows_139 : decode cX6_flows 139 = .ok (.iload_n 1, 1) := by decide +kernel
theorem dX6_flows_140 : decode cX6_flows 140 = .ok (.iaload, 1) := by decide +kernel
theorem dX6_flows_141 : decode cX6_flows 141 = .ok (.ifCond .ge 13, 3) := by decide +kernel
theorem dX6_flows_144 : decode cX6_flows 144 = .ok (.aload_n 0, 1) := by decide +kernel
theorem dX6_flows_145 : decode cX6_flows 145 = .ok (.getfield 38, 3) := by decide +kernel
theorem dX6_flows_148 : decode cX6_flows 148 = .ok (.iload_n 1, 1) := by decide +kernel
theorem dX6_flows_149 : decode cX6_flows 149 = .ok (.iaload, 1) := by decide +kernel
theorem dX6_flows_150 : decode cX6_flows 150 = .ok (.ineg, 1) := by decide +kernel
theorem dX6_flows_151 : decode cX6_flows 151 = .ok (.goto 9, 3) := by decide +kernel
theorem dX6_flows_154 : decode cX6_flows 154 = .ok (.aload_n 0, 1) := by decide +kernel
theorem dX6_flows_155 : decode cX6_flows 155 = .ok (.getfield 38, 3) := by decide +kernel
theorem dX6_flows_158 : decode cX6_flows 158 = .ok (.iload_n 1, 1) := by decide +kernel
theorem dX6_flows_159 : decode cX6_flows 159 = .ok (.iaload, 1) := by decide +kernel
theorem dX6_flows_160 : decode cX6_flows 160 = .ok (.istore 4, 2) := by decide +kernel
theorem dX6_flows_162 : decode cX6_flows 162 = .ok (.aload_n 0, 1) := by decide +kernel
theorem dX6_flows_163 : decode cX6_flows 163 = .ok (.getfield 7, 3) := by decide +kernel
theorem dX6_flows_166 : decode cX6_flows 166 = .ok (.bipush 72, 2) := by decide +kernel
theorem dX6_flows_168 : decode cX6_flows 168 = .ok (.iload_n 2, 1) := by decide +kernel
theorem dX6_flows_169 : decode cX6_flows 169 = .ok (.iadd, 1) := by decide +kernel
theorem dX6_flows_170 : decode cX6_flows 170 = .ok (.dup2, 1) := by decide +kernel
theorem dX6_flows_171 : decode cX6_flows 171 = .ok (.iaload, 1) := by decide +kernel
theorem dX6_flows_172 : decode cX6_flows 172 = .ok (.iload 4, 2) := by decide +kernel
theorem dX6_flows_174 : decode cX6_flows 174 = .ok (.iadd, 1) := by decide +kernel
theorem dX6_flows_175 : decode cX6_flows 175 = .ok (.iastore, 1) := by decide +kernel
theorem dX6_flows_176 : decode cX6_flows 176 = .ok (.aload_n 0, 1) := by decide +kernel
theorem dX6_flows_177 : decode cX6_flows 177 = .ok (.getfield 7, 3) := by decide +kernel
theorem dX6_flows_180 : decode cX6_flows 180 = .ok (.bipush 60, 2) := by decide +kernel
theorem dX6_flows_182 : decode cX6_flows 182 = .ok (.iload_n 3, 1) := by decide +kernel
theorem dX6_flows_183 : decode cX6_flows 183 = .ok (.iadd, 1) := by decide +kernel
theorem dX6_flows_184 : decode cX6_flows 184 = .ok (.dup2, 1) := by decide +kernel
theorem dX6_flows_185 : decode cX6_flows 185 = .ok (.iaload, 1) := by decide +kernel
theorem dX6_flows_186 : decode cX6_flows 186 = .ok (.iload 4, 2) := by decide +kernel
theorem dX6_flows_188 : decode cX6_flows 188 = .ok (.iadd, 1) := by decide +kernel
theorem dX6_flows_189 : decode cX6_flows 189 = .ok (.iastore, 1) := by decide +kernel
theorem dX6_flows_190 : decode cX6_flows 190 = .ok (.iconst 0, 1) := by decide +kernel
theorem dX6_flows_191 : decode cX6_flows 191 = .ok (.istore 5, 2) := by decide +kernel
theorem dX6_flows_193 : decode cX6_flows 193 = .ok (.iload 4, 2) := by decide +kernel
theorem dX6_flows_195 : decode cX6_flows 195 = .ok (.ifCond .le 89, 3) := by decide +kernel
theorem dX6_flows_198 : decode cX6_flows 198 = .ok (.aload_n 0, 1) := by decide +kernel
theorem dX6_flows_199 : decode cX6_flows 199 = .ok (.getfield 7, 3) := by decide +kernel
theorem dX6_flows_202 : decode cX6_flows 202 = .ok (.bipush 100, 2) := by decide +kernel
theorem dX6_flows_204 : decode cX6_flows 204 = .ok (.bipush 61, 2) := by decide +kernel
theorem dX6_flows_206 : decode cX6_flows 206 = .ok (.iload_n 2, 1) := by decide +kernel
theorem dX6_flows_207 : decode cX6_flows 207 = .ok (.imul, 1) := by decide +kernel
theorem dX6_flows_208 : decode cX6_flows 208 = .ok (.iadd, 1) := by decide +kernel
theorem dX6_flows_209 : decode cX6_flows 209 = .ok (.iload 5, 2) := by decide +kernel
theorem dX6_flows_211 : decode cX6_flows 211 = .ok (.iadd, 1) := by decide +kernel
theorem dX6_flows_212 : decode cX6_flows 212 = .ok (.iaload, 1) := by decide +kernel
theorem dX6_flows_213 : decode cX6_flows 213 = .ok (.istore 6, 2) := by decide +kernel
theorem dX6_flows_215 : decode cX6_flows 215 = .ok (.iload 6, 2) := by decide +kernel
theorem dX6_flows_217 : decode cX6_flows 217 = .ok (.iload 4, 2) := by decide +kernel
theorem dX6_flows_219 : decode cX6_flows 219 = .ok (.if_icmp .ge 8, 3) := by decide +kernel
theorem dX6_flows_222 : decode cX6_flows 222 = .ok (.iload 6, 2) := by decide +kernel
theorem dX6_flows_224 : decode cX6_flows 224 = .ok (.goto 5, 3) := by decide +kernel
theorem dX6_flows_227 : decode cX6_flows 227 = .ok (.iload 4, 2) := by decide +kernel
theorem dX6_flows_229 : decode cX6_flows 229 = .ok (.istore 6, 2) := by decide +kernel
theorem dX6_flows_231 : decode cX6_flows 231 = .ok (.aload_n 0, 1) := by decide +kernel
theorem dX6_flows_232 : decode cX6_flows 232 = .ok (.getfield 7, 3) := by decide +kernel
theorem dX6_flows_235 : decode cX6_flows 235 = .ok (.bipush 100, 2) := by decide +kernel
theorem dX6_flows_237 : decode cX6_flows 237 = .ok (.bipush 61, 2) := by decide +kernel
theorem dX6_flows_239 : decode cX6_flows 239 = .ok (.iload_n 2, 1) := by decide +kernel
theorem dX6_flows_240 : decode cX6_flows 240 = .ok (.imul, 1) := by decide +kernel
theorem dX6_flows_241 : decode cX6_flows 241 = .ok (.iadd, 1) := by decide +kernel
theorem dX6_flows_242 : decode cX6_flows 242 = .ok (.iload 5, 2) := by decide +kernel
theorem dX6_flows_244 : decode cX6_flows 244 = .ok (.iadd, 1) := by decide +kernel
theorem dX6_flows_245 : decode cX6_flows 245 = .ok (.dup2, 1) := by decide +kernel
theorem dX6_flows_246 : decode cX6_flows 246 = .ok (.iaload, 1) := by decide +kernel
theorem dX6_flows_247 : decode cX6_flows 247 = .ok (.iload 6, 2) := by decide +kernel
theorem dX6_flows_249 : decode cX6_flows 249 = .ok (.isub, 1) := by decide +kernel
theorem dX6_flows_250 : decode cX6_flows 250 = .ok (.iastore, 1) := by decide +kernel
theorem dX6_flows_251 : decode cX6_flows 251 = .ok (.aload_n 0, 1) := by decide +kernel
theorem dX6_flows_252 : decode cX6_flows 252 = .ok (.getfield 7, 3) := by decide +kernel
theorem dX6_flows_255 : decode cX6_flows 255 = .ok (.bipush 100, 2) := by decide +kernel
theorem dX6_flows_257 : decode cX6_flows 257 = .ok (.bipush 61, 2) := by decide +kernel
theorem dX6_flows_259 : decode cX6_flows 259 = .ok (.iload_n 3, 1) := by decide +kernel
theorem dX6_flows_260 : decode cX6_flows 260 = .ok (.imul, 1) := by decide +kernel
theorem dX6_flows_261 : decode cX6_flows 261 = .ok (.iadd, 1) := by decide +kernel
theorem dX6_flows_262 : decode cX6_flows 262 = .ok (.iload 5, 2) := by decide +kernel
theorem dX6_flows_264 : decode cX6_flows 264 = .ok (.iadd, 1) := by decide +kernel
theorem dX6_flows_265 : decode cX6_flows 265 = .ok (.dup2, 1) := by decide +kernel
theorem dX6_flows_266 : decode cX6_flows 266 = .ok (.iaload, 1) := by decide +kernel
theorem dX6_flows_267 : decode cX6_flows 267 = .ok (.iload 6, 2) := by decide +kernel
theorem dX6_flows_269 : decode cX6_flows 269 = .ok (.iadd, 1) := by decide +kernel
theorem dX6_flows_270 : decode cX6_flows 270 = .ok (.iastore, 1) := by decide +kernel
theorem dX6_flows_271 : decode cX6_flows 271 = .ok (.iload 4, 2) := by decide +kernel
theorem dX6_flows_273 : decode cX6_flows 273 = .ok (.iload 6, 2) := by decide +kernel
theorem dX6_flows_275 : decode cX6_flows 275 = .ok (.isub, 1) := by decide +kernel
theorem dX6_flows_276 : decode cX6_flows 276 = .ok (.istore 4, 2) := by decide +kernel
theorem dX6_flows_278 : decode cX6_flows 278 = .ok (.iinc 5 1, 3) := by decide +kernel
theorem dX6_flows_281 : decode cX6_flows 281 = .ok (.goto (-88), 3) := by decide +kernel
theorem dX6_flows_284 : decode cX6_flows 284 = .ok (.iinc 1 1, 3) := by decide +kernel
theorem dX6_flows_287 : decode cX6_flows 287 = .ok (.goto (-183), 3) := by decide +kernel
theorem dX6_flows_290 : decode cX6_flows 290 = .ok (.return_, 1) := by decide +kernel
set_option maxRecDepth 20000 in
theorem ggX6_runs_X6_isInSea : GoodIn wsX6_runs wsX6_isInSea := goodIn_r _ [6, 1, 7, 16, 17, 18, 19, 20, 21, 22, 23, 24, 25, 26, 27, 28, 29, 30, 31] (by decide +kernel) (by decide +kernel)
set_option maxRecDepth 20000 in
theorem gX6_runs_X6_isInSea : GoodIn wsX6_runs (wsV RX6 79 RX6 yX6_isInSea wsX6_isInSea) := goodIn_app (goodIn_of _ (by decide +kernel)) ggX6_runs_X6_isInSea
set_option maxRecDepth 20000 in
theorem ggX6_runs_X6_potentialOf : GoodIn wsX6_runs wsX6_potentialOf := goodIn_r _ [11, 1, 12, 13, 14, 5, 15, 16, 17, 18, 19, 20, 21, 22, 23, 24, 25, 26, 27, 28, 29, 30, 31] (by decide +kernel) (by decide +kernel)
set_option maxRecDepth 20000 in
theorem gX6_runs_X6_potentialOf : GoodIn wsX6_runs (wsV RX6 90 RX6 yX6_potentialOf wsX6_potentialOf) := goodIn_app (goodIn_of _ (by decide +kernel)) ggX6_runs_X6_potentialOf
theorem dX6_runs_0 : decode cX6_runs 0 = .ok (.iconst 0, 1) := by decide +kernel
theorem dX6_runs_1 : decode cX6_runs 1 = .ok (.istore_n 1, 1) := by decide +kernel
theorem dX6_runs_2 : decode cX6_runs 2 = .ok (.iload_n 1, 1) := by decide +kernel
theorem dX6_runs_3 : decode cX6_runs 3 = .ok (.bipush 12, 2) := by decide +kernel
theorem dX6_runs_5 : decode cX6_runs 5 = .ok (.if_icmp .ge 145, 3) := by decide +kernel
theorem dX6_runs_8 : decode cX6_runs 8 = .ok (.aload_n 0, 1) := by decide +kernel
theorem dX6_runs_9 : decode cX6_runs 9 = .ok (.getfield 7, 3) := by decide +kernel
theorem dX6_runs_12 : decode cX6_runs 12 = .ok (.bipush 24, 2) := by decide +kernel
theorem dX6_runs_14 : decode cX6_runs 14 = .ok (.iload_n 1, 1) := by decide +kernel
theorem dX6_runs_15 : decode cX6_runs 15 = .ok (.iadd, 1) := by decide +kernel
theorem dX6_runs_16 : decode cX6_runs 16 = .ok (.iaload, 1) := by decide +kernel
theorem dX6_runs_17 : decode cX6_runs 17 = .ok (.istore_n 2, 1) := by decide +kernel
theorem dX6_runs_18 : decode cX6_runs 18 = .ok (.aload_n 0, 1) := by decide +kernel
theorem dX6_runs_19 : decode cX6_runs 19 = .ok (.iload_n 1, 1) := by decide +kernel
theorem dX6_runs_20 : decode cX6_runs 20 = .ok (.invokevirtual 79, 3) := by decide +kernel
theorem dX6_runs_23 : decode cX6_runs 23 = .ok (.ifCond .ne 9, 3) := by decide +kernel
theorem dX6_runs_26 : decode cX6_runs 26 = .ok (.iload_n 1, 1) := by decide +kernel
theorem dX6_runs_27 : decode cX6_runs 27 = .ok (.bipush 11, 2) := by decide +kernel
theorem dX6_runs_29 : decode cX6_runs 29 = .ok (.if_icmp .ne 7, 3) := by decide +kernel
theorem dX6_runs_32 : decode cX6_runs 32 = .ok (.iconst 1, 1) := by decide +kernel
theorem dX6_runs_33 : decode cX6_runs 33 = .ok (.goto 4, 3) := by decide +kernel
theorem dX6_runs_36 : decode cX6_runs 36 = .ok (.iconst 0, 1) := by decide +kernel
theorem dX6_runs_37 : decode cX6_runs 37 = .ok (.istore_n 3, 1) := by decide +kernel
theorem dX6_runs_38 : decode cX6_runs 38 = .ok (.iload_n 3, 1) := by decide +kernel
theorem dX6_runs_39 : decode cX6_runs 39 = .ok (.ifCond .eq 7, 3) := by decide +kernel
theorem dX6_runs_42 : decode cX6_runs 42 = .ok (.iload_n 1, 1) := by decide +kernel
theorem dX6_runs_43 : decode cX6_runs 43 = .ok (.goto 33, 3) := by decide +kernel
theorem dX6_runs_46 : decode cX6_runs 46 = .ok (.iload_n 1, 1) := by decide +kernel
theorem dX6_runs_47 : decode cX6_runs 47 = .ok (.ifCond .eq 20, 3) := by decide +kernel
theorem dX6_runs_50 : decode cX6_runs 50 = .ok (.aload_n 0, 1) := by decide +kernel
theorem dX6_runs_51 : decode cX6_runs 51 = .ok (.iload_n 1, 1) := by decide +kernel
theorem dX6_runs_52 : decode cX6_runs 52 = .ok (.iconst 1, 1) := by decide +kernel
theorem dX6_runs_53 : decode cX6_runs 53 = .ok (.iadd, 1) := by decide +kernel
theorem dX6_runs_54 : decode cX6_runs 54 = .ok (.invokevirtual 90, 3) := by decide +kernel
theorem dX6_runs_57 : decode cX6_runs 57 = .ok (.aload_n 0, 1) := by decide +kernel
theorem dX6_runs_58 : decode cX6_runs 58 = .ok (.iload_n 1, 1) := by decide +kernel
theorem dX6_runs_59 : decode cX6_runs 59 = .ok (.iconst 1, 1) := by decide +kernel
theorem dX6_runs_60 : decode cX6_runs 60 = .ok (.isub, 1) := by decide +kernel
theorem dX6_runs_61 : decode cX6_runs 61 = .ok (.invokevirtual 90, 3) := by decide +kernel
theorem dX6_runs_64 : decode cX6_runs 64 = .ok (.if_icmp .gt 9, 3) := by decide +kernel
theorem dX6_runs_67 : decode cX6_runs 67 = .ok (.iload_n 1, 1) := by decide +kernel
theorem dX6_runs_68 : decode cX6_runs 68 = .ok (.iconst 1, 1) := by decide +kernel
theorem dX6_runs_69 : decode cX6_runs 69 = .ok (.iadd, 1) := by decide +kernel
theorem dX6_runs_70 : decode cX6_runs 70 = .ok (.goto 6, 3) := by decide +kernel
theorem dX6_runs_73 : decode cX6_runs 73 = .ok (.iload_n 1, 1) := by decide +kernel
theorem dX6_runs_74 : decode cX6_runs 74 = .ok (.iconst 1, 1) := by decide +kernel
theorem dX6_runs_75 : decode cX6_runs 75 = .ok (.isub, 1) := by decide +kernel
theorem dX6_runs_76 : decode cX6_runs 76 = .ok (.istore 4, 2) := by decide +kernel
theorem dX6_runs_78 : decode cX6_runs 78 = .ok (.iload_n 3, 1) := by decide +kernel
theorem dX6_runs_79 : decode cX6_runs 79 = .ok (.ifCond .eq 27, 3) := by decide +kernel
theorem dX6_runs_82 : decode cX6_runs 82 = .ok (.aload_n 0, 1) := by decide +kernel
theorem dX6_runs_83 : decode cX6_runs 83 = .ok (.getfield 7, 3) := by decide +kernel
theorem dX6_runs_86 : decode cX6_runs 86 = .ok (.bipush 84, 2) := by decide +kernel
theorem dX6_runs_88 : decode cX6_runs 88 = .ok (.dup2, 1) := by decide +kernel
theorem dX6_runs_89 : decode cX6_runs 89 = .ok (.iaload, 1) := by decide +kernel
theorem dX6_runs_90 : decode cX6_runs 90 = .ok (.iload_n 2, 1) := by decide +kernel
theorem dX6_runs_91 : decode cX6_runs 91 = .ok (.iadd, 1) := by decide +kernel
theorem dX6_runs_92 : decode cX6_runs 92 = .ok (.iastore, 1) := by decide +kernel
theorem dX6_runs_93 : decode cX6_runs 93 = .ok (.aload_n 0, 1) := by decide +kernel
theorem dX6_runs_94 : decode cX6_runs 94 = .ok (.getfield 7, 3) := by decide +kernel
theorem dX6_runs_97 : decode cX6_runs 97 = .ok (.bipush 24, 2) := by decide +kernel
theorem dX6_runs_99 : decode cX6_runs 99 = .ok (.iload_n 1, 1) := by decide +kernel
theorem dX6_runs_100 : decode cX6_runs 100 = .ok (.iadd, 1) := by decide +kernel
theorem dX6_runs_101 : decode cX6_runs 101 = .ok (.iconst 0, 1) := by decide +kernel
theorem dX6_runs_102 : decode cX6_runs 102 = .ok (.iastore, 1) := by decide +kernel
theorem dX6_runs_103 : decode cX6_runs 103 = .ok (.goto 41, 3) := by decide +kernel
theorem dX6_runs_106 : decode cX6_runs 106 = .ok (.aload_n 0, 1) := by decide +kernel
theorem dX6_runs_107 : decode cX6_runs 107 = .ok (.iload 4, 2) := by decide +kernel
theorem dX6_runs_109 : decode cX6_runs 109 = .ok (.invokevirtual 90, 3) := by decide +kernel
theorem dX6_runs_112 : decode cX6_runs 112 = .ok (.aload_n 0, 1) := by decide +kernel
theorem dX6_runs_113 : decode cX6_runs 113 = .ok (.iload_n 1, 1) := by decide +kernel
theorem dX6_runs_114 : decode cX6_runs 114 = .ok (.invokevirtual 90, 3) := by decide +kernel
theorem dX6_runs_117 : decode cX6_runs 117 = .ok (.if_icmp .ge 27, 3) := by decide +kernel
theorem dX6_runs_120 : decode cX6_runs 120 = .ok (.aload_n 0, 1) := by decide +kernel
theorem dX6_runs_121 : decode cX6_runs 121 = .ok (.getfield 7, 3) := by decide +kernel
theorem dX6_runs_124 : decode cX6_runs 124 = .ok (.bipush 24, 2) := by decide +kernel
theorem dX6_runs_126 : decode cX6_runs 126 = .ok (.iload 4, 2) := by decide +kernel
theorem dX6_runs_128 : decode cX6_runs 128 = .ok (.iadd, 1) := by decide +kernel
theorem dX6_runs_129 : decode cX6_runs 129 = .ok (.dup2, 1) := by decide +kernel
theorem dX6_runs_130 : decode cX6_runs 130 = .ok (.iaload, 1) := by decide +kernel
theorem dX6_runs_131 : decode cX6_runs 131 = .ok (.iload_n 2, 1) := by decide +kernel
theorem dX6_runs_132 : decode cX6_runs 132 = .ok (.iadd, 1) := by decide +kernel
theorem dX6_runs_133 : decode cX6_runs 133 = .ok (.iastore, 1) := by decide +kernel
theorem dX6_runs_134 : decode cX6_runs 134 = .ok (.aload_n 0, 1) := by decide +kernel
theorem dX6_runs_135 : decode cX6_runs 135 = .ok (.getfield 7, 3) := by decide +kernel
theorem dX6_runs_138 : decode cX6_runs 138 = .ok (.bipush 24, 2) := by decide +kernel
theorem dX6_runs_140 : decode cX6_runs 140 = .ok (.iload_n 1, 1) := by decide +kernel
theorem dX6_runs_141 : decode cX6_runs 141 = .ok (.iadd, 1) := by decide +kernel
theorem dX6_runs_142 : decode cX6_runs 142 = .ok (.iconst 0, 1) := by decide +kernel
theorem dX6_runs_143 : decode cX6_runs 143 = .ok (.iastore, 1) := by decide +kernel
theorem dX6_runs_144 : decode cX6_runs 144 = .ok (.iinc 1 1, 3) := by decide +kernel
theorem dX6_runs_147 : decode cX6_runs 147 = .ok (.goto (-145), 3) := by decide +kernel
theorem dX6_runs_150 : decode cX6_runs 150 = .ok (.return_, 1) := by decide +kernel
set_option maxRecDepth 20000 in
theorem ggX6_least_X6_iceOf : GoodIn wsX6_least wsX6_iceOf := goodIn_r _ [5, 6, 7, 8, 9, 10, 11, 12, 13, 14, 15, 16, 17, 18, 19, 20, 21, 22] (by decide +kernel) (by decide +kernel)
set_option maxRecDepth 20000 in
theorem gX6_least_X6_iceOf : GoodIn wsX6_least (wsV RX6 49 RX6 yX6_iceOf wsX6_iceOf) := goodIn_app (goodIn_of _ (by decide +kernel)) ggX6_least_X6_iceOf
theorem dX6_least_0 : decode cX6_least 0 = .ok (.iload_n 1, 1) := by decide +kernel
theorem dX6_least_1 : decode cX6_least 1 = .ok (.ifCond .le 13, 3) := by decide +kernel
theorem dX6_least_4 : decode cX6_least 4 = .ok (.aload_n 0, 1) := by decide +kernel
theorem dX6_least_5 : decode cX6_least 5 = .ok (.iload_n 1, 1) := by decide +kernel
theorem dX6_least_6 : decode cX6_least 6 = .ok (.iconst 1, 1) := by decide +kernel
theorem dX6_least_7 : decode cX6_least 7 = .ok (.isub, 1) := by decide +kernel
theorem dX6_least_8 : decode cX6_least 8 = .ok (.invokevirtual 49, 3) := by decide +kernel
theorem dX6_least_11 : decode cX6_least 11 = .ok (.goto 4, 3) := by decide +kernel
theorem dX6_least_14 : decode cX6_least 14 = .ok (.iconst 0, 1) := by decide +kernel
theorem dX6_least_15 : decode cX6_least 15 = .ok (.istore_n 2, 1) := by decide +kernel
theorem dX6_least_16 : decode cX6_least 16 = .ok (.iload_n 1, 1) := by decide +kernel
theorem dX6_least_17 : decode cX6_least 17 = .ok (.bipush 11, 2) := by decide +kernel
theorem dX6_least_19 : decode cX6_least 19 = .ok (.if_icmp .ge 13, 3) := by decide +kernel
theorem dX6_least_22 : decode cX6_least 22 = .ok (.aload_n 0, 1) := by decide +kernel
theorem dX6_least_23 : decode cX6_least 23 = .ok (.iload_n 1, 1) := by decide +kernel
theorem dX6_least_24 : decode cX6_least 24 = .ok (.iconst 1, 1) := by decide +kernel
theorem dX6_least_25 : decode cX6_least 25 = .ok (.iadd, 1) := by decide +kernel
theorem dX6_least_26 : decode cX6_least 26 = .ok (.invokevirtual 49, 3) := by decide +kernel
theorem dX6_least_29 : decode cX6_least 29 = .ok (.goto 4, 3) := by decide +kernel
theorem dX6_least_32 : decode cX6_least 32 = .ok (.iconst 0, 1) := by decide +kernel
theorem dX6_least_33 : decode cX6_least 33 = .ok (.istore_n 3, 1) := by decide +kernel
theorem dX6_least_34 : decode cX6_least 34 = .ok (.iload_n 2, 1) := by decide +kernel
theorem dX6_least_35 : decode cX6_least 35 = .ok (.ifCond .ne 7, 3) := by decide +kernel
theorem dX6_least_38 : decode cX6_least 38 = .ok (.iload_n 3, 1) := by decide +kernel
theorem dX6_least_39 : decode cX6_least 39 = .ok (.goto 17, 3) := by decide +kernel
theorem dX6_least_42 : decode cX6_least 42 = .ok (.iload_n 3, 1) := by decide +kernel
theorem dX6_least_43 : decode cX6_least 43 = .ok (.ifCond .eq 8, 3) := by decide +kernel
theorem dX6_least_46 : decode cX6_least 46 = .ok (.iload_n 2, 1) := by decide +kernel
theorem dX6_least_47 : decode cX6_least 47 = .ok (.iload_n 3, 1) := by decide +kernel
theorem dX6_least_48 : decode cX6_least 48 = .ok (.if_icmp .ge 7, 3) := by decide +kernel
theorem dX6_least_51 : decode cX6_least 51 = .ok (.iload_n 2, 1) := by decide +kernel
theorem dX6_least_52 : decode cX6_least 52 = .ok (.goto 4, 3) := by decide +kernel
theorem dX6_least_55 : decode cX6_least 55 = .ok (.iload_n 3, 1) := by decide +kernel
theorem dX6_least_56 : decode cX6_least 56 = .ok (.ireturn, 1) := by decide +kernel
set_option maxRecDepth 20000 in
theorem ggX6_breaks_X6_least : GoodIn wsX6_breaks wsX6_least := goodIn_r _ [9, 10, 11, 12, 8, 13, 1, 14, 15, 16, 17, 18, 19, 20, 21, 22, 23, 24, 25, 26, 27, 28, 29] (by decide +kernel) (by decide +kernel)
set_option maxRecDepth 20000 in
theorem gX6_breaks_X6_least : GoodIn wsX6_breaks (wsV RX6 93 RX6 yX6_least wsX6_least) := goodIn_app (goodIn_of _ (by decide +kernel)) ggX6_breaks_X6_least
theorem dX6_breaks_0 : decode cX6_breaks 0 = .ok (.iconst 0, 1) := by decide +kernel
theorem dX6_breaks_1 : decode cX6_breaks 1 = .ok (.istore_n 1, 1) := by decide +kernel
theorem dX6_breaks_2 : decode cX6_breaks 2 = .ok (.iload_n 1, 1) := by decide +kernel
theorem dX6_breaks_3 : decode cX6_breaks 3 = .ok (.bipush 12, 2) := by decide +kernel
theorem dX6_breaks_5 : decode cX6_breaks 5 = .ok (.if_icmp .ge 123, 3) := by decide +kernel
theorem dX6_breaks_8 : decode cX6_breaks 8 = .ok (.aload_n 0, 1) := by decide +kernel
theorem dX6_breaks_9 : decode cX6_breaks 9 = .ok (.getfield 7, 3) := by decide +kernel
theorem dX6_breaks_12 : decode cX6_breaks 12 = .ok (.bipush 24, 2) := by decide +kernel
theorem dX6_breaks_14 : decode cX6_breaks 14 = .ok (.iload_n 1, 1) := by decide +kernel
theorem dX6_breaks_15 : decode cX6_breaks 15 = .ok (.iadd, 1) := by decide +kernel
theorem dX6_breaks_16 : decode cX6_breaks 16 = .ok (.iaload, 1) := by decide +kernel
theorem dX6_breaks_17 : decode cX6_breaks 17 = .ok (.istore_n 2, 1) := by decide +kernel
theorem dX6_breaks_18 : decode cX6_breaks 18 = .ok (.aload_n 0, 1) := by decide +kernel
theorem dX6_breaks_19 : decode cX6_breaks 19 = .ok (.iload_n 1, 1) := by decide +kernel
theorem dX6_breaks_20 : decode cX6_breaks 20 = .ok (.invokevirtual 93, 3) := by decide +kernel
theorem dX6_breaks_23 : decode cX6_breaks 23 = .ok (.istore_n 3, 1) := by decide +kernel
theorem dX6_breaks_24 : decode cX6_breaks 24 = .ok (.iload_n 2, 1) := by decide +kernel
theorem dX6_breaks_25 : decode cX6_breaks 25 = .ok (.bipush 10, 2) := by decide +kernel
theorem dX6_breaks_27 : decode cX6_breaks 27 = .ok (.if_icmp .lt 95, 3) := by decide +kernel
theorem dX6_breaks_30 : decode cX6_breaks 30 = .ok (.iload_n 3, 1) := by decide +kernel
theorem dX6_breaks_31 : decode cX6_breaks 31 = .ok (.ifCond .le 91, 3) := by decide +kernel
theorem dX6_breaks_34 : decode cX6_breaks 34 = .ok (.bipush 10, 2) := by decide +kernel
theorem dX6_breaks_36 : decode cX6_breaks 36 = .ok (.iload_n 2, 1) := by decide +kernel
theorem dX6_breaks_37 : decode cX6_breaks 37 = .ok (.imul, 1) := by decide +kernel
theorem dX6_breaks_38 : decode cX6_breaks 38 = .ok (.bipush 9, 2) := by decide +kernel
theorem dX6_breaks_40 : decode cX6_breaks 40 = .ok (.iload_n 3, 1) := by decide +kernel
theorem dX6_breaks_41 : decode cX6_breaks 41 = .ok (.imul, 1) := by decide +kernel
theorem dX6_breaks_42 : decode cX6_breaks 42 = .ok (.if_icmp .le 80, 3) := by decide +kernel
theorem dX6_breaks_45 : decode cX6_breaks 45 = .ok (.aload_n 0, 1) := by decide +kernel
theorem dX6_breaks_46 : decode cX6_breaks 46 = .ok (.getfield 20, 3) := by decide +kernel
theorem dX6_breaks_49 : decode cX6_breaks 49 = .ok (.aload_n 0, 1) := by decide +kernel
theorem dX6_breaks_50 : decode cX6_breaks 50 = .ok (.getfield 7, 3) := by decide +kernel
theorem dX6_breaks_53 : decode cX6_breaks 53 = .ok (.bipush 90, 2) := by decide +kernel
theorem dX6_breaks_55 : decode cX6_breaks 55 = .ok (.iaload, 1) := by decide +kernel
theorem dX6_breaks_56 : decode cX6_breaks 56 = .ok (.aload_n 0, 1) := by decide +kernel
theorem dX6_breaks_57 : decode cX6_breaks 57 = .ok (.getfield 7, 3) := by decide +kernel
theorem dX6_breaks_60 : decode cX6_breaks 60 = .ok (.bipush 89, 2) := by decide +kernel
theorem dX6_breaks_62 : decode cX6_breaks 62 = .ok (.iaload, 1) := by decide +kernel
theorem dX6_breaks_63 : decode cX6_breaks 63 = .ok (.iastore, 1) := by decide +kernel
theorem dX6_breaks_64 : decode cX6_breaks 64 = .ok (.aload_n 0, 1) := by decide +kernel
theorem dX6_breaks_65 : decode cX6_breaks 65 = .ok (.getfield 23, 3) := by decide +kernel
theorem dX6_breaks_68 : decode cX6_breaks 68 = .ok (.aload_n 0, 1) := by decide +kernel
theorem dX6_breaks_69 : decode cX6_breaks 69 = .ok (.getfield 7, 3) := by decide +kernel
theorem dX6_breaks_72 : decode cX6_breaks 72 = .ok (.bipush 90, 2) := by decide +kernel
theorem dX6_breaks_74 : decode cX6_breaks 74 = .ok (.iaload, 1) := by decide +kernel
theorem dX6_breaks_75 : decode cX6_breaks 75 = .ok (.iload_n 1, 1) := by decide +kernel
theorem dX6_breaks_76 : decode cX6_breaks 76 = .ok (.iastore, 1) := by decide +kernel
theorem dX6_breaks_77 : decode cX6_breaks 77 = .ok (.aload_n 0, 1) := by decide +kernel
theorem dX6_breaks_78 : decode cX6_breaks 78 = .ok (.getfield 26, 3) := by decide +kernel
theorem dX6_breaks_81 : decode cX6_breaks 81 = .ok (.aload_n 0, 1) := by decide +kernel
theorem dX6_breaks_82 : decode cX6_breaks 82 = .ok (.getfield 7, 3) := by decide +kernel
theorem dX6_breaks_85 : decode cX6_breaks 85 = .ok (.bipush 90, 2) := by decide +kernel
theorem dX6_breaks_87 : decode cX6_breaks 87 = .ok (.iaload, 1) := by decide +kernel
theorem dX6_breaks_88 : decode cX6_breaks 88 = .ok (.iload_n 2, 1) := by decide +kernel
theorem dX6_breaks_89 : decode cX6_breaks 89 = .ok (.iastore, 1) := by decide +kernel
theorem dX6_breaks_90 : decode cX6_breaks 90 = .ok (.aload_n 0, 1) := by decide +kernel
theorem dX6_breaks_91 : decode cX6_breaks 91 = .ok (.getfield 7, 3) := by decide +kernel
theorem dX6_breaks_94 : decode cX6_breaks 94 = .ok (.bipush 90, 2) := by decide +kernel
theorem dX6_breaks_96 : decode cX6_breaks 96 = .ok (.dup2, 1) := by decide +kernel
theorem dX6_breaks_97 : decode cX6_breaks 97 = .ok (.iaload, 1) := by decide +kernel
theorem dX6_breaks_98 : decode cX6_breaks 98 = .ok (.iconst 1, 1) := by decide +kernel
theorem dX6_breaks_99 : decode cX6_breaks 99 = .ok (.iadd, 1) := by decide +kernel
theorem dX6_breaks_100 : decode cX6_breaks 100 = .ok (.iastore, 1) := by decide +kernel
theorem dX6_breaks_101 : decode cX6_breaks 101 = .ok (.aload_n 0, 1) := by decide +kernel
theorem dX6_breaks_102 : decode cX6_breaks 102 = .ok (.getfield 7, 3) := by decide +kernel
theorem dX6_breaks_105 : decode cX6_breaks 105 = .ok (.bipush 84, 2) := by decide +kernel
theorem dX6_breaks_107 : decode cX6_breaks 107 = .ok (.dup2, 1) := by decide +kernel
theorem dX6_breaks_108 : decode cX6_breaks 108 = .ok (.iaload, 1) := by decide +kernel
theorem dX6_breaks_109 : decode cX6_breaks 109 = .ok (.iload_n 2, 1) := by decide +kernel
theorem dX6_breaks_110 : decode cX6_breaks 110 = .ok (.iadd, 1) := by decide +kernel
theorem dX6_breaks_111 : decode cX6_breaks 111 = .ok (.iastore, 1) := by decide +kernel
theorem dX6_breaks_112 : decode cX6_breaks 112 = .ok (.aload_n 0, 1) := by decide +kernel
theorem dX6_breaks_113 : decode cX6_breaks 113 = .ok (.getfield 7, 3) := by decide +kernel
theorem dX6_breaks_116 : decode cX6_breaks 116 = .ok (.bipush 24, 2) := by decide +kernel
theorem dX6_breaks_118 : decode cX6_breaks 118 = .ok (.iload_n 1, 1) := by decide +kernel
theorem dX6_breaks_119 : decode cX6_breaks 119 = .ok (.iadd, 1) := by decide +kernel
theorem dX6_breaks_120 : decode cX6_breaks 120 = .ok (.iconst 0, 1) := by decide +kernel
theorem dX6_breaks_121 : decode cX6_breaks 121 = .ok (.iastore, 1) := by decide +kernel
theorem dX6_breaks_122 : decode cX6_breaks 122 = .ok (.iinc 1 1, 3) := by decide +kernel
theorem dX6_breaks_125 : decode cX6_breaks 125 = .ok (.goto (-123), 3) := by decide +kernel
theorem dX6_breaks_128 : decode cX6_breaks 128 = .ok (.return_, 1) := by decide +kernel
set_option maxRecDepth 20000 in
theorem ggX6_calves_X6_iceOf : GoodIn wsX6_calves wsX6_iceOf := goodIn_r _ [7, 2, 12, 13, 14, 15, 16, 17, 18, 19, 20, 21, 22, 23, 24, 25, 26, 27] (by decide +kernel) (by decide +kernel)
set_option maxRecDepth 20000 in
theorem gX6_calves_X6_iceOf : GoodIn wsX6_calves (wsV RX6 49 RX6 yX6_iceOf wsX6_iceOf) := goodIn_app (goodIn_of _ (by decide +kernel)) ggX6_calves_X6_iceOf
set_option maxRecDepth 20000 in
theorem ggX6_calves_X6_isInSea : GoodIn wsX6_calves wsX6_isInSea := goodIn_r _ [11, 2, 1, 12, 13, 14, 15, 16, 17, 18, 19, 20, 21, 22, 23, 24, 25, 26, 27] (by decide +kernel) (by decide +kernel)
set_option maxRecDepth 20000 in
theorem gX6_calves_X6_isInSea : GoodIn wsX6_calves (wsV RX6 79 RX6 yX6_isInSea wsX6_isInSea) := goodIn_app (goodIn_of _ (by decide +kernel)) ggX6_calves_X6_isInSea
theorem dX6_calves_0 : decode cX6_calves 0 = .ok (.iconst 1, 1) := by decide +kernel
theorem dX6_calves_1 : decode cX6_calves 1 = .ok (.istore_n 1, 1) := by decide +kernel
theorem dX6_calves_2 : decode cX6_calves 2 = .ok (.bipush 11, 2) := by decide +kernel
theorem dX6_calves_4 : decode cX6_calves 4 = .ok (.istore_n 2, 1) := by decide +kernel
theorem dX6_calves_5 : decode cX6_calves 5 = .ok (.iload_n 2, 1) := by decide +kernel
theorem dX6_calves_6 : decode cX6_calves 6 = .ok (.ifCond .lt 107, 3) := by decide +kernel
theorem dX6_calves_9 : decode cX6_calves 9 = .ok (.iload_n 1, 1) := by decide +kernel
theorem dX6_calves_10 : decode cX6_calves 10 = .ok (.ifCond .eq 103, 3) := by decide +kernel
theorem dX6_calves_13 : decode cX6_calves 13 = .ok (.aload_n 0, 1) := by decide +kernel
theorem dX6_calves_14 : decode cX6_calves 14 = .ok (.iload_n 2, 1) := by decide +kernel
theorem dX6_calves_15 : decode cX6_calves 15 = .ok (.invokevirtual 49, 3) := by decide +kernel
theorem dX6_calves_18 : decode cX6_calves 18 = .ok (.istore_n 3, 1) := by decide +kernel
theorem dX6_calves_19 : decode cX6_calves 19 = .ok (.aload_n 0, 1) := by decide +kernel
theorem dX6_calves_20 : decode cX6_calves 20 = .ok (.iload_n 2, 1) := by decide +kernel
theorem dX6_calves_21 : decode cX6_calves 21 = .ok (.invokevirtual 79, 3) := by decide +kernel
theorem dX6_calves_24 : decode cX6_calves 24 = .ok (.ifCond .eq 34, 3) := by decide +kernel
theorem dX6_calves_27 : decode cX6_calves 27 = .ok (.iload_n 3, 1) := by decide +kernel
theorem dX6_calves_28 : decode cX6_calves 28 = .ok (.ifCond .eq 26, 3) := by decide +kernel
theorem dX6_calves_31 : decode cX6_calves 31 = .ok (.bipush 9, 2) := by decide +kernel
theorem dX6_calves_33 : decode cX6_calves 33 = .ok (.iload_n 3, 1) := by decide +kernel
theorem dX6_calves_34 : decode cX6_calves 34 = .ok (.imul, 1) := by decide +kernel
theorem dX6_calves_35 : decode cX6_calves 35 = .ok (.bipush 10, 2) := by decide +kernel
theorem dX6_calves_37 : decode cX6_calves 37 = .ok (.aload_n 0, 1) := by decide +kernel
theorem dX6_calves_38 : decode cX6_calves 38 = .ok (.getfield 53, 3) := by decide +kernel
theorem dX6_calves_41 : decode cX6_calves 41 = .ok (.aload_n 0, 1) := by decide +kernel
theorem dX6_calves_42 : decode cX6_calves 42 = .ok (.getfield 7, 3) := by decide +kernel
theorem dX6_calves_45 : decode cX6_calves 45 = .ok (.iconst 0, 1) := by decide +kernel
theorem dX6_calves_46 : decode cX6_calves 46 = .ok (.iload_n 2, 1) := by decide +kernel
theorem dX6_calves_47 : decode cX6_calves 47 = .ok (.iadd, 1) := by decide +kernel
theorem dX6_calves_48 : decode cX6_calves 48 = .ok (.iaload, 1) := by decide +kernel
theorem dX6_calves_49 : decode cX6_calves 49 = .ok (.isub, 1) := by decide +kernel
theorem dX6_calves_50 : decode cX6_calves 50 = .ok (.imul, 1) := by decide +kernel
theorem dX6_calves_51 : decode cX6_calves 51 = .ok (.if_icmp .ge 7, 3) := by decide +kernel
theorem dX6_calves_54 : decode cX6_calves 54 = .ok (.iconst 1, 1) := by decide +kernel
theorem dX6_calves_55 : decode cX6_calves 55 = .ok (.goto 4, 3) := by decide +kernel
theorem dX6_calves_58 : decode cX6_calves 58 = .ok (.iconst 0, 1) := by decide +kernel
theorem dX6_calves_59 : decode cX6_calves 59 = .ok (.istore_n 1, 1) := by decide +kernel
theorem dX6_calves_60 : decode cX6_calves 60 = .ok (.iload_n 1, 1) := by decide +kernel
theorem dX6_calves_61 : decode cX6_calves 61 = .ok (.ifCond .eq 46, 3) := by decide +kernel
theorem dX6_calves_64 : decode cX6_calves 64 = .ok (.aload_n 0, 1) := by decide +kernel
theorem dX6_calves_65 : decode cX6_calves 65 = .ok (.getfield 7, 3) := by decide +kernel
theorem dX6_calves_68 : decode cX6_calves 68 = .ok (.bipush 85, 2) := by decide +kernel
theorem dX6_calves_70 : decode cX6_calves 70 = .ok (.dup2, 1) := by decide +kernel
theorem dX6_calves_71 : decode cX6_calves 71 = .ok (.iaload, 1) := by decide +kernel
theorem dX6_calves_72 : decode cX6_calves 72 = .ok (.iload_n 3, 1) := by decide +kernel
theorem dX6_calves_73 : decode cX6_calves 73 = .ok (.iadd, 1) := by decide +kernel
theorem dX6_calves_74 : decode cX6_calves 74 = .ok (.iastore, 1) := by decide +kernel
theorem dX6_calves_75 : decode cX6_calves 75 = .ok (.iconst 0, 1) := by decide +kernel
theorem dX6_calves_76 : decode cX6_calves 76 = .ok (.istore 4, 2) := by decide +kernel
theorem dX6_calves_78 : decode cX6_calves 78 = .ok (.iload 4, 2) := by decide +kernel
theorem dX6_calves_80 : decode cX6_calves 80 = .ok (.bipush 61, 2) := by decide +kernel
theorem dX6_calves_82 : decode cX6_calves 82 = .ok (.if_icmp .ge 25, 3) := by decide +kernel
theorem dX6_calves_85 : decode cX6_calves 85 = .ok (.aload_n 0, 1) := by decide +kernel
theorem dX6_calves_86 : decode cX6_calves 86 = .ok (.getfield 7, 3) := by decide +kernel
theorem dX6_calves_89 : decode cX6_calves 89 = .ok (.bipush 100, 2) := by decide +kernel
theorem dX6_calves_91 : decode cX6_calves 91 = .ok (.bipush 61, 2) := by decide +kernel
theorem dX6_calves_93 : decode cX6_calves 93 = .ok (.iload_n 2, 1) := by decide +kernel
theorem dX6_calves_94 : decode cX6_calves 94 = .ok (.imul, 1) := by decide +kernel
theorem dX6_calves_95 : decode cX6_calves 95 = .ok (.iadd, 1) := by decide +kernel
theorem dX6_calves_96 : decode cX6_calves 96 = .ok (.iload 4, 2) := by decide +kernel
theorem dX6_calves_98 : decode cX6_calves 98 = .ok (.iadd, 1) := by decide +kernel
theorem dX6_calves_99 : decode cX6_calves 99 = .ok (.iconst 0, 1) := by decide +kernel
theorem dX6_calves_100 : decode cX6_calves 100 = .ok (.iastore, 1) := by decide +kernel
theorem dX6_calves_101 : decode cX6_calves 101 = .ok (.iinc 4 1, 3) := by decide +kernel
theorem dX6_calves_104 : decode cX6_calves 104 = .ok (.goto (-26), 3) := by decide +kernel
theorem dX6_calves_107 : decode cX6_calves 107 = .ok (.iinc 2 (-1), 3) := by decide +kernel
theorem dX6_calves_110 : decode cX6_calves 110 = .ok (.goto (-105), 3) := by decide +kernel
theorem dX6_calves_113 : decode cX6_calves 113 = .ok (.return_, 1) := by decide +kernel
set_option maxRecDepth 20000 in
theorem ggX6_ends_X6_iceOf : GoodIn wsX6_ends wsX6_iceOf := goodIn_r _ [6, 1, 7, 8, 9, 10, 11, 12, 13, 14, 15, 16, 17, 18, 19, 20, 21, 22] (by decide +kernel) (by decide +kernel)
set_option maxRecDepth 20000 in
theorem gX6_ends_X6_iceOf : GoodIn wsX6_ends (wsV RX6 49 RX6 yX6_iceOf wsX6_iceOf) := goodIn_app (goodIn_of _ (by decide +kernel)) ggX6_ends_X6_iceOf
theorem dX6_ends_0 : decode cX6_ends 0 = .ok (.iconst (-1), 1) := by decide +kernel
theorem dX6_ends_1 : decode cX6_ends 1 = .ok (.istore_n 1, 1) := by decide +kernel
theorem dX6_ends_2 : decode cX6_ends 2 = .ok (.iconst 0, 1) := by decide +kernel
theorem dX6_ends_3 : decode cX6_ends 3 = .ok (.istore_n 2, 1) := by decide +kernel
theorem dX6_ends_4 : decode cX6_ends 4 = .ok (.iload_n 2, 1) := by decide +kernel
theorem dX6_ends_5 : decode cX6_ends 5 = .ok (.bipush 12, 2) := by decide +kernel
theorem dX6_ends_7 : decode cX6_ends 7 = .ok (.if_icmp .ge 86, 3) := by decide +kernel
theorem dX6_ends_10 : decode cX6_ends 10 = .ok (.aload_n 0, 1) := by decide +kernel
theorem dX6_ends_11 : decode cX6_ends 11 = .ok (.iload_n 2, 1) := by decide +kernel
theorem dX6_ends_12 : decode cX6_ends 12 = .ok (.invokevirtual 49, 3) := by decide +kernel
theorem dX6_ends_15 : decode cX6_ends 15 = .ok (.istore_n 3, 1) := by decide +kernel
theorem dX6_ends_16 : decode cX6_ends 16 = .ok (.aload_n 0, 1) := by decide +kernel
theorem dX6_ends_17 : decode cX6_ends 17 = .ok (.getfield 7, 3) := by decide +kernel
theorem dX6_ends_20 : decode cX6_ends 20 = .ok (.bipush 12, 2) := by decide +kernel
theorem dX6_ends_22 : decode cX6_ends 22 = .ok (.iload_n 2, 1) := by decide +kernel
theorem dX6_ends_23 : decode cX6_ends 23 = .ok (.iadd, 1) := by decide +kernel
theorem dX6_ends_24 : decode cX6_ends 24 = .ok (.iaload, 1) := by decide +kernel
theorem dX6_ends_25 : decode cX6_ends 25 = .ok (.iload_n 3, 1) := by decide +kernel
theorem dX6_ends_26 : decode cX6_ends 26 = .ok (.iconst 3, 1) := by decide +kernel
theorem dX6_ends_27 : decode cX6_ends 27 = .ok (.idiv, 1) := by decide +kernel
theorem dX6_ends_28 : decode cX6_ends 28 = .ok (.isub, 1) := by decide +kernel
theorem dX6_ends_29 : decode cX6_ends 29 = .ok (.istore 4, 2) := by decide +kernel
theorem dX6_ends_31 : decode cX6_ends 31 = .ok (.aload_n 0, 1) := by decide +kernel
theorem dX6_ends_32 : decode cX6_ends 32 = .ok (.getfield 7, 3) := by decide +kernel
theorem dX6_ends_35 : decode cX6_ends 35 = .ok (.iconst 0, 1) := by decide +kernel
theorem dX6_ends_36 : decode cX6_ends 36 = .ok (.iload_n 2, 1) := by decide +kernel
theorem dX6_ends_37 : decode cX6_ends 37 = .ok (.iadd, 1) := by decide +kernel
theorem dX6_ends_38 : decode cX6_ends 38 = .ok (.dup2, 1) := by decide +kernel
theorem dX6_ends_39 : decode cX6_ends 39 = .ok (.iaload, 1) := by decide +kernel
theorem dX6_ends_40 : decode cX6_ends 40 = .ok (.iload 4, 2) := by decide +kernel
theorem dX6_ends_42 : decode cX6_ends 42 = .ok (.aload_n 0, 1) := by decide +kernel
theorem dX6_ends_43 : decode cX6_ends 43 = .ok (.getfield 7, 3) := by decide +kernel
theorem dX6_ends_46 : decode cX6_ends 46 = .ok (.iconst 0, 1) := by decide +kernel
theorem dX6_ends_47 : decode cX6_ends 47 = .ok (.iload_n 2, 1) := by decide +kernel
theorem dX6_ends_48 : decode cX6_ends 48 = .ok (.iadd, 1) := by decide +kernel
theorem dX6_ends_49 : decode cX6_ends 49 = .ok (.iaload, 1) := by decide +kernel
theorem dX6_ends_50 : decode cX6_ends 50 = .ok (.if_icmp .le 7, 3) := by decide +kernel
theorem dX6_ends_53 : decode cX6_ends 53 = .ok (.iconst 1, 1) := by decide +kernel
theorem dX6_ends_54 : decode cX6_ends 54 = .ok (.goto 21, 3) := by decide +kernel
theorem dX6_ends_57 : decode cX6_ends 57 = .ok (.iload 4, 2) := by decide +kernel
theorem dX6_ends_59 : decode cX6_ends 59 = .ok (.aload_n 0, 1) := by decide +kernel
theorem dX6_ends_60 : decode cX6_ends 60 = .ok (.getfield 7, 3) := by decide +kernel
theorem dX6_ends_63 : decode cX6_ends 63 = .ok (.iconst 0, 1) := by decide +kernel
theorem dX6_ends_64 : decode cX6_ends 64 = .ok (.iload_n 2, 1) := by decide +kernel
theorem dX6_ends_65 : decode cX6_ends 65 = .ok (.iadd, 1) := by decide +kernel
theorem dX6_ends_66 : decode cX6_ends 66 = .ok (.iaload, 1) := by decide +kernel
theorem dX6_ends_67 : decode cX6_ends 67 = .ok (.if_icmp .ge 7, 3) := by decide +kernel
theorem dX6_ends_70 : decode cX6_ends 70 = .ok (.iconst (-1), 1) := by decide +kernel
theorem dX6_ends_71 : decode cX6_ends 71 = .ok (.goto 4, 3) := by decide +kernel
theorem dX6_ends_74 : decode cX6_ends 74 = .ok (.iconst 0, 1) := by decide +kernel
theorem dX6_ends_75 : decode cX6_ends 75 = .ok (.iadd, 1) := by decide +kernel
theorem dX6_ends_76 : decode cX6_ends 76 = .ok (.iastore, 1) := by decide +kernel
theorem dX6_ends_77 : decode cX6_ends 77 = .ok (.iload_n 3, 1) := by decide +kernel
theorem dX6_ends_78 : decode cX6_ends 78 = .ok (.ifCond .le 7, 3) := by decide +kernel
theorem dX6_ends_81 : decode cX6_ends 81 = .ok (.iload_n 2, 1) := by decide +kernel
theorem dX6_ends_82 : decode cX6_ends 82 = .ok (.goto 4, 3) := by decide +kernel
theorem dX6_ends_85 : decode cX6_ends 85 = .ok (.iload_n 1, 1) := by decide +kernel
theorem dX6_ends_86 : decode cX6_ends 86 = .ok (.istore_n 1, 1) := by decide +kernel
theorem dX6_ends_87 : decode cX6_ends 87 = .ok (.iinc 2 1, 3) := by decide +kernel
theorem dX6_ends_90 : decode cX6_ends 90 = .ok (.goto (-86), 3) := by decide +kernel
theorem dX6_ends_93 : decode cX6_ends 93 = .ok (.aload_n 0, 1) := by decide +kernel
theorem dX6_ends_94 : decode cX6_ends 94 = .ok (.getfield 7, 3) := by decide +kernel
theorem dX6_ends_97 : decode cX6_ends 97 = .ok (.sipush 900, 3) := by decide +kernel
theorem dX6_ends_100 : decode cX6_ends 100 = .ok (.aload_n 0, 1) := by decide +kernel
theorem dX6_ends_101 : decode cX6_ends 101 = .ok (.getfield 7, 3) := by decide +kernel
theorem dX6_ends_104 : decode cX6_ends 104 = .ok (.bipush 89, 2) := by decide +kernel
theorem dX6_ends_106 : decode cX6_ends 106 = .ok (.iaload, 1) := by decide +kernel
theorem dX6_ends_107 : decode cX6_ends 107 = .ok (.iadd, 1) := by decide +kernel
theorem dX6_ends_108 : decode cX6_ends 108 = .ok (.iload_n 1, 1) := by decide +kernel
theorem dX6_ends_109 : decode cX6_ends 109 = .ok (.iastore, 1) := by decide +kernel
theorem dX6_ends_110 : decode cX6_ends 110 = .ok (.iload_n 1, 1) := by decide +kernel
theorem dX6_ends_111 : decode cX6_ends 111 = .ok (.iconst (-1), 1) := by decide +kernel
theorem dX6_ends_112 : decode cX6_ends 112 = .ok (.if_icmp .eq 16, 3) := by decide +kernel
theorem dX6_ends_115 : decode cX6_ends 115 = .ok (.aload_n 0, 1) := by decide +kernel
theorem dX6_ends_116 : decode cX6_ends 116 = .ok (.getfield 7, 3) := by decide +kernel
theorem dX6_ends_119 : decode cX6_ends 119 = .ok (.bipush 36, 2) := by decide +kernel
theorem dX6_ends_121 : decode cX6_ends 121 = .ok (.iload_n 1, 1) := by decide +kernel
theorem dX6_ends_122 : decode cX6_ends 122 = .ok (.iadd, 1) := by decide +kernel
theorem dX6_ends_123 : decode cX6_ends 123 = .ok (.dup2, 1) := by decide +kernel
theorem dX6_ends_124 : decode cX6_ends 124 = .ok (.iaload, 1) := by decide +kernel
theorem dX6_ends_125 : decode cX6_ends 125 = .ok (.iconst 1, 1) := by decide +kernel
theorem dX6_ends_126 : decode cX6_ends 126 = .ok (.iadd, 1) := by decide +kernel
theorem dX6_ends_127 : decode cX6_ends 127 = .ok (.iastore, 1) := by decide +kernel
theorem dX6_ends_128 : decode cX6_ends 128 = .ok (.return_, 1) := by decide +kernel
set_option maxRecDepth 20000 in
theorem ggX6_passes_X6_snows : GoodIn wsX6_passes wsX6_snows := goodIn_r _ [6, 7, 1, 8, 9, 10, 11, 12, 5, 13, 14, 15, 16, 17, 18, 19, 20, 21, 22, 61, 62, 63, 64, 65, 66, 67, 68, 69, 70, 71, 72, 73, 74, 75, 76] (by decide +kernel) (by decide +kernel)
set_option maxRecDepth 20000 in
theorem gX6_passes_X6_snows : GoodIn wsX6_passes (wsV RX6 96 RX6 yX6_snows wsX6_snows) := goodIn_app (goodIn_of _ (by decide +kernel)) ggX6_passes_X6_snows
set_option maxRecDepth 20000 in
theorem ggX6_passes_X6_flows : GoodIn wsX6_passes wsX6_flows := goodIn_r _ [26, 1, 27, 14, 15, 16, 5, 17, 10, 11, 12, 13, 28, 29, 30, 31, 32, 33, 61, 62, 63, 64, 65, 66, 67, 68, 69, 70, 71, 72, 73, 74, 75, 76] (by decide +kernel) (by decide +kernel)
set_option maxRecDepth 20000 in
theorem gX6_passes_X6_flows : GoodIn wsX6_passes (wsV RX6 99 RX6 yX6_flows wsX6_flows) := goodIn_app (goodIn_of _ (by decide +kernel)) ggX6_passes_X6_flows
set_option maxRecDepth 20000 in
theorem ggX6_passes_X6_runs : GoodIn wsX6_passes wsX6_runs := goodIn_r _ [37, 1, 18, 19, 20, 5, 21, 22, 38, 39, 40, 41, 10, 11, 12, 13, 61, 62, 63, 64, 65, 66, 67, 68, 69, 70, 71, 72, 73, 74, 75, 76] (by decide +kernel) (by decide +kernel)
set_option maxRecDepth 20000 in
theorem gX6_passes_X6_runs : GoodIn wsX6_passes (wsV RX6 101 RX6 yX6_runs wsX6_runs) := goodIn_app (goodIn_of _ (by decide +kernel)) ggX6_passes_X6_runs
set_option maxRecDepth 20000 in
theorem ggX6_passes_X6_breaks : GoodIn wsX6_passes wsX6_breaks := goodIn_r _ [45, 1, 46, 47, 48, 49, 50, 51, 5, 52, 10, 11, 12, 13, 61, 62, 63, 64, 65, 66, 67, 68, 69, 70, 71, 72, 73, 74, 75, 76] (by decide +kernel) (by decide +kernel)
set_option maxRecDepth 20000 in
theorem gX6_passes_X6_breaks : GoodIn wsX6_passes (wsV RX6 104 RX6 yX6_breaks wsX6_breaks) := goodIn_app (goodIn_of _ (by decide +kernel)) ggX6_passes_X6_breaks
set_option maxRecDepth 20000 in
theorem ggX6_passes_X6_calves : GoodIn wsX6_passes wsX6_calves := goodIn_r _ [56, 22, 1, 10, 11, 12, 5, 13, 18, 19, 20, 21, 61, 62, 63, 64, 65, 66, 67, 68, 69, 70, 71, 72, 73, 74, 75, 76] (by decide +kernel) (by decide +kernel)
set_option maxRecDepth 20000 in
theorem gX6_passes_X6_calves : GoodIn wsX6_passes (wsV RX6 107 RX6 yX6_calves wsX6_calves) := goodIn_app (goodIn_of _ (by decide +kernel)) ggX6_passes_X6_calves
set_option maxRecDepth 20000 in
theorem ggX6_passes_X6_ends : GoodIn wsX6_passes wsX6_ends := goodIn_r _ [60, 1, 10, 11, 12, 5, 13, 61, 62, 63, 64, 65, 66, 67, 68, 69, 70, 71, 72, 73, 74, 75, 76] (by decide +kernel) (by decide +kernel)
set_option maxRecDepth 20000 in
theorem gX6_passes_X6_ends : GoodIn wsX6_passes (wsV RX6 110 RX6 yX6_ends wsX6_ends) := goodIn_app (goodIn_of _ (by decide +kernel)) ggX6_passes_X6_ends
theorem dX6_passes_0 : decode cX6_passes 0 = .ok (.iconst 0, 1) := by decide +kernel
theorem dX6_passes_1 : decode cX6_passes 1 = .ok (.istore_n 2, 1) := by decide +kernel
theorem dX6_passes_2 : decode cX6_passes 2 = .ok (.iload_n 2, 1) := by decide +kernel
theorem dX6_passes_3 : decode cX6_passes 3 = .ok (.iload_n 1, 1) := by decide +kernel
theorem dX6_passes_4 : decode cX6_passes 4 = .ok (.if_icmp .ge 44, 3) := by decide +kernel
theorem dX6_passes_7 : decode cX6_passes 7 = .ok (.aload_n 0, 1) := by decide +kernel
theorem dX6_passes_8 : decode cX6_passes 8 = .ok (.getfield 7, 3) := by decide +kernel
theorem dX6_passes_11 : decode cX6_passes 11 = .ok (.bipush 89, 2) := by decide +kernel
theorem dX6_passes_13 : decode cX6_passes 13 = .ok (.dup2, 1) := by decide +kernel
theorem dX6_passes_14 : decode cX6_passes 14 = .ok (.iaload, 1) := by decide +kernel
theorem dX6_passes_15 : decode cX6_passes 15 = .ok (.iconst 1, 1) := by decide +kernel
theorem dX6_passes_16 : decode cX6_passes 16 = .ok (.iadd, 1) := by decide +kernel
theorem dX6_passes_17 : decode cX6_passes 17 = .ok (.iastore, 1) := by decide +kernel
theorem dX6_passes_18 : decode cX6_passes 18 = .ok (.aload_n 0, 1) := by decide +kernel
theorem dX6_passes_19 : decode cX6_passes 19 = .ok (.invokevirtual 96, 3) := by decide +kernel
theorem dX6_passes_22 : decode cX6_passes 22 = .ok (.aload_n 0, 1) := by decide +kernel
theorem dX6_passes_23 : decode cX6_passes 23 = .ok (.invokevirtual 99, 3) := by decide +kernel
theorem dX6_passes_26 : decode cX6_passes 26 = .ok (.aload_n 0, 1) := by decide +kernel
theorem dX6_passes_27 : decode cX6_passes 27 = .ok (.invokevirtual 101, 3) := by decide +kernel
theorem dX6_passes_30 : decode cX6_passes 30 = .ok (.aload_n 0, 1) := by decide +kernel
theorem dX6_passes_31 : decode cX6_passes 31 = .ok (.invokevirtual 104, 3) := by decide +kernel
theorem dX6_passes_34 : decode cX6_passes 34 = .ok (.aload_n 0, 1) := by decide +kernel
theorem dX6_passes_35 : decode cX6_passes 35 = .ok (.invokevirtual 107, 3) := by decide +kernel
theorem dX6_passes_38 : decode cX6_passes 38 = .ok (.aload_n 0, 1) := by decide +kernel
theorem dX6_passes_39 : decode cX6_passes 39 = .ok (.invokevirtual 110, 3) := by decide +kernel
theorem dX6_passes_42 : decode cX6_passes 42 = .ok (.iinc 2 1, 3) := by decide +kernel
theorem dX6_passes_45 : decode cX6_passes 45 = .ok (.goto (-43), 3) := by decide +kernel
theorem dX6_passes_48 : decode cX6_passes 48 = .ok (.return_, 1) := by decide +kernel
set_option maxRecDepth 20000 in
theorem ggX6_pass_X6_in : GoodIn wsX6_pass wsX6_in := goodIn_r _ [9] (by decide +kernel) (by decide +kernel)
set_option maxRecDepth 20000 in
theorem gX6_pass_X6_in : GoodIn wsX6_pass (va_wsS RX6 45 yX6_in wsX6_in) := goodIn_app (goodIn_of _ (by decide +kernel)) ggX6_pass_X6_in
set_option maxRecDepth 20000 in
theorem ggX6_pass_X6_asked_ : GoodIn wsX6_pass wsX6_asked_ := goodIn_r _ [13, 14, 81, 82, 83, 84, 85, 86, 87, 88, 89, 90, 91, 92, 93, 94, 95, 96] (by decide +kernel) (by decide +kernel)
set_option maxRecDepth 20000 in
theorem gX6_pass_X6_asked_ : GoodIn wsX6_pass (wsV RX6 113 RX6 yX6_asked_ wsX6_asked_) := goodIn_app (goodIn_of _ (by decide +kernel)) ggX6_pass_X6_asked_
set_option maxRecDepth 20000 in
theorem ggX6_pass_X6_passes : GoodIn wsX6_pass wsX6_passes := goodIn_r _ [18, 1, 19, 20, 21, 8, 22, 23, 24, 25, 26, 27, 28, 29, 30, 31, 32, 33, 34, 35, 36, 37, 38, 39, 40, 41, 42, 43, 44, 45, 46, 47, 48, 49, 50, 51, 52, 53, 54, 55, 56, 57, 58, 59, 60, 61, 62, 63, 64, 65, 66, 67, 68, 69, 70, 71, 72, 73, 74, 75, 76, 81, 82, 83, 84, 85, 86, 87, 88, 89, 90, 91, 92, 93, 94, 95, 96] (by decide +kernel) (by decide +kernel)
set_option maxRecDepth 20000 in
theorem gX6_pass_X6_passes : GoodIn wsX6_pass (wsV RX6 116 RX6 yX6_passes wsX6_passes) := goodIn_app (goodIn_of _ (by decide +kernel)) ggX6_pass_X6_passes
set_option maxRecDepth 20000 in
theorem ggX6_pass_X6_allIce : GoodIn wsX6_pass wsX6_allIce := goodIn_r _ [80, 26, 27, 28, 8, 29, 1, 81, 82, 83, 84, 85, 86, 87, 88, 89, 90, 91, 92, 93, 94, 95, 96] (by decide +kernel) (by decide +kernel)
set_option maxRecDepth 20000 in
theorem gX6_pass_X6_allIce : GoodIn wsX6_pass (wsV RX6 123 RX6 yX6_allIce wsX6_allIce) := goodIn_app (goodIn_of _ (by decide +kernel)) ggX6_pass_X6_allIce
theorem dX6_pass_0 : decode cX6_pass 0 = .ok (.iload_n 1, 1) := by decide +kernel
theorem dX6_pass_1 : decode cX6_pass 1 = .ok (.iconst 1, 1) := by decide +kernel
theorem dX6_pass_2 : decode cX6_pass 2 = .ok (.bipush 20, 2) := by decide +kernel
theorem dX6_pass_4 : decode cX6_pass 4 = .ok (.invokestatic 45, 3) := by decide +kernel
theorem dX6_pass_7 : decode cX6_pass 7 = .ok (.istore_n 2, 1) := by decide +kernel
theorem dX6_pass_8 : decode cX6_pass 8 = .ok (.aload_n 0, 1) := by decide +kernel
theorem dX6_pass_9 : decode cX6_pass 9 = .ok (.iload_n 2, 1) := by decide +kernel
theorem dX6_pass_10 : decode cX6_pass 10 = .ok (.iload_n 2, 1) := by decide +kernel
theorem dX6_pass_11 : decode cX6_pass 11 = .ok (.ifCond .eq 21, 3) := by decide +kernel
theorem dX6_pass_14 : decode cX6_pass 14 = .ok (.aload_n 0, 1) := by decide +kernel
theorem dX6_pass_15 : decode cX6_pass 15 = .ok (.getfield 7, 3) := by decide +kernel
theorem dX6_pass_18 : decode cX6_pass 18 = .ok (.bipush 89, 2) := by decide +kernel
theorem dX6_pass_20 : decode cX6_pass 20 = .ok (.iaload, 1) := by decide +kernel
theorem dX6_pass_21 : decode cX6_pass 21 = .ok (.iload_n 1, 1) := by decide +kernel
theorem dX6_pass_22 : decode cX6_pass 22 = .ok (.iadd, 1) := by decide +kernel
theorem dX6_pass_23 : decode cX6_pass 23 = .ok (.bipush 60, 2) := by decide +kernel
theorem dX6_pass_25 : decode cX6_pass 25 = .ok (.if_icmp .gt 7, 3) := by decide +kernel
theorem dX6_pass_28 : decode cX6_pass 28 = .ok (.iconst 1, 1) := by decide +kernel
theorem dX6_pass_29 : decode cX6_pass 29 = .ok (.goto 4, 3) := by decide +kernel
theorem dX6_pass_32 : decode cX6_pass 32 = .ok (.iconst 0, 1) := by decide +kernel
theorem dX6_pass_33 : decode cX6_pass 33 = .ok (.invokevirtual 113, 3) := by decide +kernel
theorem dX6_pass_36 : decode cX6_pass 36 = .ok (.ifCond .ne 5, 3) := by decide +kernel
theorem dX6_pass_39 : decode cX6_pass 39 = .ok (.iconst 0, 1) := by decide +kernel
theorem dX6_pass_40 : decode cX6_pass 40 = .ok (.ireturn, 1) := by decide +kernel
theorem dX6_pass_41 : decode cX6_pass 41 = .ok (.iconst 0, 1) := by decide +kernel
theorem dX6_pass_42 : decode cX6_pass 42 = .ok (.istore_n 3, 1) := by decide +kernel
theorem dX6_pass_43 : decode cX6_pass 43 = .ok (.iload_n 3, 1) := by decide +kernel
theorem dX6_pass_44 : decode cX6_pass 44 = .ok (.iload_n 1, 1) := by decide +kernel
theorem dX6_pass_45 : decode cX6_pass 45 = .ok (.if_icmp .ge 93, 3) := by decide +kernel
theorem dX6_pass_48 : decode cX6_pass 48 = .ok (.aload_n 0, 1) := by decide +kernel
theorem dX6_pass_49 : decode cX6_pass 49 = .ok (.iconst 1, 1) := by decide +kernel
theorem dX6_pass_50 : decode cX6_pass 50 = .ok (.invokevirtual 116, 3) := by decide +kernel
theorem dX6_pass_53 : decode cX6_pass 53 = .ok (.iconst 0, 1) := by decide +kernel
theorem dX6_pass_54 : decode cX6_pass 54 = .ok (.istore 4, 2) := by decide +kernel
theorem dX6_pass_56 : decode cX6_pass 56 = .ok (.iload 4, 2) := by decide +kernel
theorem dX6_pass_58 : decode cX6_pass 58 = .ok (.aload_n 0, 1) := by decide +kernel
theorem dX6_pass_59 : decode cX6_pass 59 = .ok (.getfield 120, 3) := by decide +kernel
theorem dX6_pass_62 : decode cX6_pass 62 = .ok (.if_icmp .ge 70, 3) := by decide +kernel
theorem dX6_pass_65 : decode cX6_pass 65 = .ok (.aload_n 0, 1) := by decide +kernel
theorem dX6_pass_66 : decode cX6_pass 66 = .ok (.invokevirtual 123, 3) := by decide +kernel
theorem dX6_pass_69 : decode cX6_pass 69 = .ok (.aload_n 0, 1) := by decide +kernel
theorem dX6_pass_70 : decode cX6_pass 70 = .ok (.getfield 32, 3) := by decide +kernel
theorem dX6_pass_73 : decode cX6_pass 73 = .ok (.iload 4, 2) := by decide +kernel
theorem dX6_pass_75 : decode cX6_pass 75 = .ok (.iaload, 1) := by decide +kernel
theorem dX6_pass_76 : decode cX6_pass 76 = .ok (.isub, 1) := by decide +kernel
theorem dX6_pass_77 : decode cX6_pass 77 = .ok (.istore 5, 2) := by decide +kernel
theorem dX6_pass_79 : decode cX6_pass 79 = .ok (.aload_n 0, 1) := by decide +kernel
theorem dX6_pass_80 : decode cX6_pass 80 = .ok (.getfield 35, 3) := by decide +kernel
theorem dX6_pass_83 : decode cX6_pass 83 = .ok (.iload 4, 2) := by decide +kernel
theorem dX6_pass_85 : decode cX6_pass 85 = .ok (.aload_n 0, 1) := by decide +kernel
theorem dX6_pass_86 : decode cX6_pass 86 = .ok (.getfield 29, 3) := by decide +kernel
theorem dX6_pass_89 : decode cX6_pass 89 = .ok (.iload 4, 2) := by decide +kernel
theorem dX6_pass_91 : decode cX6_pass 91 = .ok (.iaload, 1) := by decide +kernel
theorem dX6_pass_92 : decode cX6_pass 92 = .ok (.aload_n 0, 1) := by decide +kernel
theorem dX6_pass_93 : decode cX6_pass 93 = .ok (.getfield 7, 3) := by decide +kernel
theorem dX6_pass_96 : decode cX6_pass 96 = .ok (.bipush 89, 2) := by decide +kernel
theorem dX6_pass_98 : decode cX6_pass 98 = .ok (.iaload, 1) := by decide +kernel
theorem dX6_pass_99 : decode cX6_pass 99 = .ok (.if_icmp .ne 19, 3) := by decide +kernel
theorem dX6_pass_102 : decode cX6_pass 102 = .ok (.iload 5, 2) := by decide +kernel
theorem dX6_pass_104 : decode cX6_pass 104 = .ok (.ifCond .ge 9, 3) := by decide +kernel
theorem dX6_pass_107 : decode cX6_pass 107 = .ok (.iload 5, 2) := by decide +kernel
theorem dX6_pass_109 : decode cX6_pass 109 = .ok (.ineg, 1) := by decide +kernel
theorem dX6_pass_110 : decode cX6_pass 110 = .ok (.goto 15, 3) := by decide +kernel
theorem dX6_pass_113 : decode cX6_pass 113 = .ok (.iload 5, 2) := by decide +kernel
theorem dX6_pass_115 : decode cX6_pass 115 = .ok (.goto 10, 3) := by decide +kernel
theorem dX6_pass_118 : decode cX6_pass 118 = .ok (.aload_n 0, 1) := by decide +kernel
theorem dX6_pass_119 : decode cX6_pass 119 = .ok (.getfield 35, 3) := by decide +kernel
theorem dX6_pass_122 : decode cX6_pass 122 = .ok (.iload 4, 2) := by decide +kernel
theorem dX6_pass_124 : decode cX6_pass 124 = .ok (.iaload, 1) := by decide +kernel
theorem dX6_pass_125 : decode cX6_pass 125 = .ok (.iastore, 1) := by decide +kernel
theorem dX6_pass_126 : decode cX6_pass 126 = .ok (.iinc 4 1, 3) := by decide +kernel
theorem dX6_pass_129 : decode cX6_pass 129 = .ok (.goto (-73), 3) := by decide +kernel
theorem dX6_pass_132 : decode cX6_pass 132 = .ok (.iinc 3 1, 3) := by decide +kernel
theorem dX6_pass_135 : decode cX6_pass 135 = .ok (.goto (-92), 3) := by decide +kernel
theorem dX6_pass_138 : decode cX6_pass 138 = .ok (.aload_n 0, 1) := by decide +kernel
theorem dX6_pass_139 : decode cX6_pass 139 = .ok (.getfield 7, 3) := by decide +kernel
theorem dX6_pass_142 : decode cX6_pass 142 = .ok (.bipush 89, 2) := by decide +kernel
theorem dX6_pass_144 : decode cX6_pass 144 = .ok (.iaload, 1) := by decide +kernel
theorem dX6_pass_145 : decode cX6_pass 145 = .ok (.ireturn, 1) := by decide +kernel
set_option maxRecDepth 20000 in
theorem ggX6_tells_X6_iceOf : GoodIn wsX6_tells wsX6_iceOf := goodIn_r _ [6, 1, 20, 21, 22, 23, 24, 25, 26, 27, 28, 29, 30, 31, 32, 33, 34, 35] (by decide +kernel) (by decide +kernel)
set_option maxRecDepth 20000 in
theorem gX6_tells_X6_iceOf : GoodIn wsX6_tells (wsV RX6 49 RX6 yX6_iceOf wsX6_iceOf) := goodIn_app (goodIn_of _ (by decide +kernel)) ggX6_tells_X6_iceOf
set_option maxRecDepth 20000 in
theorem ggX6_tells_X6_surfaceOf : GoodIn wsX6_tells wsX6_surfaceOf := goodIn_r _ [10, 1, 2, 3, 4, 5, 6, 20, 21, 22, 23, 24, 25, 26, 27, 28, 29, 30, 31, 32, 33, 34, 35] (by decide +kernel) (by decide +kernel)
set_option maxRecDepth 20000 in
theorem gX6_tells_X6_surfaceOf : GoodIn wsX6_tells (wsV RX6 76 RX6 yX6_surfaceOf wsX6_surfaceOf) := goodIn_app (goodIn_of _ (by decide +kernel)) ggX6_tells_X6_surfaceOf
set_option maxRecDepth 20000 in
theorem ggX6_tells_X6_isInSea : GoodIn wsX6_tells wsX6_isInSea := goodIn_r _ [14, 1, 15, 20, 21, 22, 23, 24, 25, 26, 27, 28, 29, 30, 31, 32, 33, 34, 35] (by decide +kernel) (by decide +kernel)
set_option maxRecDepth 20000 in
theorem gX6_tells_X6_isInSea : GoodIn wsX6_tells (wsV RX6 79 RX6 yX6_isInSea wsX6_isInSea) := goodIn_app (goodIn_of _ (by decide +kernel)) ggX6_tells_X6_isInSea
set_option maxRecDepth 20000 in
theorem ggX6_tells_X6_potentialOf : GoodIn wsX6_tells wsX6_potentialOf := goodIn_r _ [19, 1, 2, 3, 4, 5, 6, 20, 21, 22, 23, 24, 25, 26, 27, 28, 29, 30, 31, 32, 33, 34, 35] (by decide +kernel) (by decide +kernel)
set_option maxRecDepth 20000 in
theorem gX6_tells_X6_potentialOf : GoodIn wsX6_tells (wsV RX6 90 RX6 yX6_potentialOf wsX6_potentialOf) := goodIn_app (goodIn_of _ (by decide +kernel)) ggX6_tells_X6_potentialOf
theorem dX6_tells_0 : decode cX6_tells 0 = .ok (.aload_n 0, 1) := by decide +kernel
theorem dX6_tells_1 : decode cX6_tells 1 = .ok (.getfield 7, 3) := by decide +kernel
theorem dX6_tells_4 : decode cX6_tells 4 = .ok (.bipush 60, 2) := by decide +kernel
theorem dX6_tells_6 : decode cX6_tells 6 = .ok (.iload_n 1, 1) := by decide +kernel
theorem dX6_tells_7 : decode cX6_tells 7 = .ok (.iadd, 1) := by decide +kernel
theorem dX6_tells_8 : decode cX6_tells 8 = .ok (.iaload, 1) := by decide +kernel
theorem dX6_tells_9 : decode cX6_tells 9 = .ok (.aload_n 0, 1) := by decide +kernel
theorem dX6_tells_10 : decode cX6_tells 10 = .ok (.getfield 7, 3) := by decide +kernel
theorem dX6_tells_13 : decode cX6_tells 13 = .ok (.bipush 72, 2) := by decide +kernel
theorem dX6_tells_15 : decode cX6_tells 15 = .ok (.iload_n 1, 1) := by decide +kernel
theorem dX6_tells_16 : decode cX6_tells 16 = .ok (.iadd, 1) := by decide +kernel
theorem dX6_tells_17 : decode cX6_tells 17 = .ok (.iaload, 1) := by decide +kernel
theorem dX6_tells_18 : decode cX6_tells 18 = .ok (.isub, 1) := by decide +kernel
theorem dX6_tells_19 : decode cX6_tells 19 = .ok (.istore_n 3, 1) := by decide +kernel
theorem dX6_tells_20 : decode cX6_tells 20 = .ok (.iload_n 3, 1) := by decide +kernel
theorem dX6_tells_21 : decode cX6_tells 21 = .ok (.iconst 5, 1) := by decide +kernel
theorem dX6_tells_22 : decode cX6_tells 22 = .ok (.if_icmp .ge 9, 3) := by decide +kernel
theorem dX6_tells_25 : decode cX6_tells 25 = .ok (.iload_n 3, 1) := by decide +kernel
theorem dX6_tells_26 : decode cX6_tells 26 = .ok (.bipush (-5), 2) := by decide +kernel
theorem dX6_tells_28 : decode cX6_tells 28 = .ok (.if_icmp .gt 7, 3) := by decide +kernel
theorem dX6_tells_31 : decode cX6_tells 31 = .ok (.iconst 1, 1) := by decide +kernel
theorem dX6_tells_32 : decode cX6_tells 32 = .ok (.goto 4, 3) := by decide +kernel
theorem dX6_tells_35 : decode cX6_tells 35 = .ok (.iconst 0, 1) := by decide +kernel
theorem dX6_tells_36 : decode cX6_tells 36 = .ok (.istore 4, 2) := by decide +kernel
theorem dX6_tells_38 : decode cX6_tells 38 = .ok (.iload_n 2, 1) := by decide +kernel
theorem dX6_tells_39 : decode cX6_tells 39 = .ok (.ifCond .ne 14, 3) := by decide +kernel
theorem dX6_tells_42 : decode cX6_tells 42 = .ok (.aload_n 0, 1) := by decide +kernel
theorem dX6_tells_43 : decode cX6_tells 43 = .ok (.getfield 7, 3) := by decide +kernel
theorem dX6_tells_46 : decode cX6_tells 46 = .ok (.iconst 0, 1) := by decide +kernel
theorem dX6_tells_47 : decode cX6_tells 47 = .ok (.iload_n 1, 1) := by decide +kernel
theorem dX6_tells_48 : decode cX6_tells 48 = .ok (.iadd, 1) := by decide +kernel
theorem dX6_tells_49 : decode cX6_tells 49 = .ok (.iaload, 1) := by decide +kernel
theorem dX6_tells_50 : decode cX6_tells 50 = .ok (.goto 158, 3) := by decide +kernel
theorem dX6_tells_53 : decode cX6_tells 53 = .ok (.iload_n 2, 1) := by decide +kernel
theorem dX6_tells_54 : decode cX6_tells 54 = .ok (.iconst 1, 1) := by decide +kernel
theorem dX6_tells_55 : decode cX6_tells 55 = .ok (.if_icmp .ne 11, 3) := by decide +kernel
theorem dX6_tells_58 : decode cX6_tells 58 = .ok (.aload_n 0, 1) := by decide +kernel
theorem dX6_tells_59 : decode cX6_tells 59 = .ok (.iload_n 1, 1) := by decide +kernel
theorem dX6_tells_60 : decode cX6_tells 60 = .ok (.invokevirtual 49, 3) := by decide +kernel
theorem dX6_tells_63 : decode cX6_tells 63 = .ok (.goto 145, 3) := by decide +kernel
theorem dX6_tells_66 : decode cX6_tells 66 = .ok (.iload_n 2, 1) := by decide +kernel
theorem dX6_tells_67 : decode cX6_tells 67 = .ok (.iconst 2, 1) := by decide +kernel
theorem dX6_tells_68 : decode cX6_tells 68 = .ok (.if_icmp .ne 15, 3) := by decide +kernel
theorem dX6_tells_71 : decode cX6_tells 71 = .ok (.aload_n 0, 1) := by decide +kernel
theorem dX6_tells_72 : decode cX6_tells 72 = .ok (.getfield 7, 3) := by decide +kernel
theorem dX6_tells_75 : decode cX6_tells 75 = .ok (.bipush 24, 2) := by decide +kernel
theorem dX6_tells_77 : decode cX6_tells 77 = .ok (.iload_n 1, 1) := by decide +kernel
theorem dX6_tells_78 : decode cX6_tells 78 = .ok (.iadd, 1) := by decide +kernel
theorem dX6_tells_79 : decode cX6_tells 79 = .ok (.iaload, 1) := by decide +kernel
theorem dX6_tells_80 : decode cX6_tells 80 = .ok (.goto 128, 3) := by decide +kernel
theorem dX6_tells_83 : decode cX6_tells 83 = .ok (.iload_n 2, 1) := by decide +kernel
theorem dX6_tells_84 : decode cX6_tells 84 = .ok (.iconst 3, 1) := by decide +kernel
theorem dX6_tells_85 : decode cX6_tells 85 = .ok (.if_icmp .ne 11, 3) := by decide +kernel
theorem dX6_tells_88 : decode cX6_tells 88 = .ok (.aload_n 0, 1) := by decide +kernel
theorem dX6_tells_89 : decode cX6_tells 89 = .ok (.iload_n 1, 1) := by decide +kernel
theorem dX6_tells_90 : decode cX6_tells 90 = .ok (.invokevirtual 76, 3) := by decide +kernel
theorem dX6_tells_93 : decode cX6_tells 93 = .ok (.goto 115, 3) := by decide +kernel
theorem dX6_tells_96 : decode cX6_tells 96 = .ok (.iload_n 2, 1) := by decide +kernel
theorem dX6_tells_97 : decode cX6_tells 97 = .ok (.iconst 4, 1) := by decide +kernel
theorem dX6_tells_98 : decode cX6_tells 98 = .ok (.if_icmp .ne 15, 3) := by decide +kernel
theorem dX6_tells_101 : decode cX6_tells 101 = .ok (.aload_n 0, 1) := by decide +kernel
theorem dX6_tells_102 : decode cX6_tells 102 = .ok (.getfield 7, 3) := by decide +kernel
theorem dX6_tells_105 : decode cX6_tells 105 = .ok (.bipush 36, 2) := by decide +kernel
theorem dX6_tells_107 : decode cX6_tells 107 = .ok (.iload_n 1, 1) := by decide +kernel
theorem dX6_tells_108 : decode cX6_tells 108 = .ok (.iadd, 1) := by decide +kernel
theorem dX6_tells_109 : decode cX6_tells 109 = .ok (.iaload, 1) := by decide +kernel
theorem dX6_tells_110 : decode cX6_tells 110 = .ok (.goto 98, 3) := by decide +kernel
theorem dX6_tells_113 : decode cX6_tells 113 = .ok (.iload_n 2, 1) := by decide +kernel
theorem dX6_tells_114 : decode cX6_tells 114 = .ok (.iconst 5, 1) := by decide +kernel
theorem dX6_tells_115 : decode cX6_tells 115 = .ok (.if_icmp .ne 16, 3) := by decide +kernel
theorem dX6_tells_118 : decode cX6_tells 118 = .ok (.iload 4, 2) := by decide +kernel
theorem dX6_tells_120 : decode cX6_tells 120 = .ok (.ifCond .eq 7, 3) := by decide +kernel
theorem dX6_tells_123 : decode cX6_tells 123 = .ok (.iconst 1, 1) := by decide +kernel
theorem dX6_tells_124 : decode cX6_tells 124 = .ok (.goto 84, 3) := by decide +kernel
theorem dX6_tells_127 : decode cX6_tells 127 = .ok (.iconst 0, 1) := by decide +kernel
theorem dX6_tells_128 : decode cX6_tells 128 = .ok (.goto 80, 3) := by decide +kernel
theorem dX6_tells_131 : decode cX6_tells 131 = .ok (.iload_n 2, 1) := by decide +kernel
theorem dX6_tells_132 : decode cX6_tells 132 = .ok (.bipush 6, 2) := by decide +kernel
theorem dX6_tells_134 : decode cX6_tells 134 = .ok (.if_icmp .ne 29, 3) := by decide +kernel
theorem dX6_tells_137 : decode cX6_tells 137 = .ok (.iload 4, 2) := by decide +kernel
theorem dX6_tells_139 : decode cX6_tells 139 = .ok (.ifCond .eq 20, 3) := by decide +kernel
theorem dX6_tells_142 : decode cX6_tells 142 = .ok (.aload_n 0, 1) := by decide +kernel
theorem dX6_tells_143 : decode cX6_tells 143 = .ok (.getfield 7, 3) := by decide +kernel
theorem dX6_tells_146 : decode cX6_tells 146 = .ok (.bipush 48, 2) := by decide +kernel
theorem dX6_tells_148 : decode cX6_tells 148 = .ok (.iload_n 1, 1) := by decide +kernel
theorem dX6_tells_149 : decode cX6_tells 149 = .ok (.iadd, 1) := by decide +kernel
theorem dX6_tells_150 : decode cX6_tells 150 = .ok (.iaload, 1) := by decide +kernel
theorem dX6_tells_151 : decode cX6_tells 151 = .ok (.iconst 3, 1) := by decide +kernel
theorem dX6_tells_152 : decode cX6_tells 152 = .ok (.if_icmp .lt 7, 3) := by decide +kernel
theorem dX6_tells_155 : decode cX6_tells 155 = .ok (.iconst 1, 1) := by decide +kernel
theorem dX6_tells_156 : decode cX6_tells 156 = .ok (.goto 52, 3) := by decide +kernel
theorem dX6_tells_159 : decode cX6_tells 159 = .ok (.iconst 0, 1) := by decide +kernel
theorem dX6_tells_160 : decode cX6_tells 160 = .ok (.goto 48, 3) := by decide +kernel
theorem dX6_tells_163 : decode cX6_tells 163 = .ok (.iload_n 2, 1) := by decide +kernel
theorem dX6_tells_164 : decode cX6_tells 164 = .ok (.bipush 7, 2) := by decide +kernel
theorem dX6_tells_166 : decode cX6_tells 166 = .ok (.if_icmp .ne 19, 3) := by decide +kernel
theorem dX6_tells_169 : decode cX6_tells 169 = .ok (.aload_n 0, 1) := by decide +kernel
theorem dX6_tells_170 : decode cX6_tells 170 = .ok (.iload_n 1, 1) := by decide +kernel
theorem dX6_tells_171 : decode cX6_tells 171 = .ok (.invokevirtual 79, 3) := by decide +kernel
theorem dX6_tells_174 : decode cX6_tells 174 = .ok (.ifCond .eq 7, 3) := by decide +kernel
theorem dX6_tells_177 : decode cX6_tells 177 = .ok (.iconst 1, 1) := by decide +kernel
theorem dX6_tells_178 : decode cX6_tells 178 = .ok (.goto 30, 3) := by decide +kernel
theorem dX6_tells_181 : decode cX6_tells 181 = .ok (.iconst 0, 1) := by decide +kernel
theorem dX6_tells_182 : decode cX6_tells 182 = .ok (.goto 26, 3) := by decide +kernel
theorem dX6_tells_185 : decode cX6_tells 185 = .ok (.iload_n 2, 1) := by decide +kernel
theorem dX6_tells_186 : decode cX6_tells 186 = .ok (.bipush 8, 2) := by decide +kernel
theorem dX6_tells_188 : decode cX6_tells 188 = .ok (.if_icmp .ne 15, 3) := by decide +kernel
theorem dX6_tells_191 : decode cX6_tells 191 = .ok (.aload_n 0, 1) := by decide +kernel
theorem dX6_tells_192 : decode cX6_tells 192 = .ok (.getfield 7, 3) := by decide +kernel
theorem dX6_tells_195 : decode cX6_tells 195 = .ok (.bipush 12, 2) := by decide +kernel
theorem dX6_tells_197 : decode cX6_tells 197 = .ok (.iload_n 1, 1) := by decide +kernel
theorem dX6_tells_198 : decode cX6_tells 198 = .ok (.iadd, 1) := by decide +kernel
theorem dX6_tells_199 : decode cX6_tells 199 = .ok (.iaload, 1) := by decide +kernel
theorem dX6_tells_200 : decode cX6_tells 200 = .ok (.goto 8, 3) := by decide +kernel
theorem dX6_tells_203 : decode cX6_tells 203 = .ok (.aload_n 0, 1) := by decide +kernel
theorem dX6_tells_204 : decode cX6_tells 204 = .ok (.iload_n 1, 1) := by decide +kernel
theorem dX6_tells_205 : decode cX6_tells 205 = .ok (.invokevirtual 90, 3) := by decide +kernel
theorem dX6_tells_208 : decode cX6_tells 208 = .ok (.ireturn, 1) := by decide +kernel
set_option maxRecDepth 20000 in
theorem ggX6_cellIs_X6_isCell : GoodIn wsX6_cellIs wsX6_isCell := goodIn_r _ [4, 5, 6, 3, 7] (by decide +kernel) (by decide +kernel)
set_option maxRecDepth 20000 in
theorem gX6_cellIs_X6_isCell : GoodIn wsX6_cellIs (va_wsS RX6 56 yX6_isCell wsX6_isCell) := goodIn_app (goodIn_of _ (by decide +kernel)) ggX6_cellIs_X6_isCell
set_option maxRecDepth 20000 in
theorem ggX6_cellIs_X6_in : GoodIn wsX6_cellIs wsX6_in := goodIn_r _ [7] (by decide +kernel) (by decide +kernel)
set_option maxRecDepth 20000 in
theorem gX6_cellIs_X6_in : GoodIn wsX6_cellIs (va_wsS RX6 45 yX6_in wsX6_in) := goodIn_app (goodIn_of _ (by decide +kernel)) ggX6_cellIs_X6_in
set_option maxRecDepth 20000 in
theorem ggX6_cellIs_X6_asked_ : GoodIn wsX6_cellIs wsX6_asked_ := goodIn_r _ [11, 12, 35, 36, 37, 38, 39, 40, 41, 42, 43, 44, 45, 46, 47, 48, 49, 50] (by decide +kernel) (by decide +kernel)
set_option maxRecDepth 20000 in
theorem gX6_cellIs_X6_asked_ : GoodIn wsX6_cellIs (wsV RX6 113 RX6 yX6_asked_ wsX6_asked_) := goodIn_app (goodIn_of _ (by decide +kernel)) ggX6_cellIs_X6_asked_
set_option maxRecDepth 20000 in
theorem ggX6_cellIs_X6_tells : GoodIn wsX6_cellIs wsX6_tells := goodIn_r _ [16, 17, 18, 19, 20, 3, 21, 22, 23, 24, 25, 26, 27, 28, 29, 30, 31, 32, 33, 34, 35, 36, 37, 38, 39, 40, 41, 42, 43, 44, 45, 46, 47, 48, 49, 50] (by decide +kernel) (by decide +kernel)
set_option maxRecDepth 20000 in
theorem gX6_cellIs_X6_tells : GoodIn wsX6_cellIs (wsV RX6 127 RX6 yX6_tells wsX6_tells) := goodIn_app (goodIn_of _ (by decide +kernel)) ggX6_cellIs_X6_tells
