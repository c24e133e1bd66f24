theorem dX6_cellIs_0 : decode cX6_cellIs 0 = .ok (.aload_n 0, 1) := by decide +kernel
theorem dX6_cellIs_1 : decode cX6_cellIs 1 = .ok (.iload_n 1, 1) := by decide +kernel
theorem dX6_cellIs_2 : decode cX6_cellIs 2 = .ok (.invokestatic 56, 3) := by decide +kernel
theorem dX6_cellIs_5 : decode cX6_cellIs 5 = .ok (.iload_n 2, 1) := by decide +kernel
theorem dX6_cellIs_6 : decode cX6_cellIs 6 = .ok (.iconst 0, 1) := by decide +kernel
theorem dX6_cellIs_7 : decode cX6_cellIs 7 = .ok (.bipush 9, 2) := by decide +kernel
theorem dX6_cellIs_9 : decode cX6_cellIs 9 = .ok (.invokestatic 45, 3) := by decide +kernel
theorem dX6_cellIs_12 : decode cX6_cellIs 12 = .ok (.invokevirtual 113, 3) := by decide +kernel
theorem dX6_cellIs_15 : decode cX6_cellIs 15 = .ok (.ifCond .eq 12, 3) := by decide +kernel
theorem dX6_cellIs_18 : decode cX6_cellIs 18 = .ok (.aload_n 0, 1) := by decide +kernel
theorem dX6_cellIs_19 : decode cX6_cellIs 19 = .ok (.iload_n 1, 1) := by decide +kernel
theorem dX6_cellIs_20 : decode cX6_cellIs 20 = .ok (.iload_n 2, 1) := by decide +kernel
theorem dX6_cellIs_21 : decode cX6_cellIs 21 = .ok (.invokevirtual 127, 3) := by decide +kernel
theorem dX6_cellIs_24 : decode cX6_cellIs 24 = .ok (.goto 4, 3) := by decide +kernel
theorem dX6_cellIs_27 : decode cX6_cellIs 27 = .ok (.iconst 0, 1) := by decide +kernel
theorem dX6_cellIs_28 : decode cX6_cellIs 28 = .ok (.ireturn, 1) := by decide +kernel
set_option maxRecDepth 20000 in
theorem ggX6_layer_X6_isCell : GoodIn wsX6_layer wsX6_isCell := goodIn_r _ [5, 6, 7, 4, 8] (by decide +kernel) (by decide +kernel)
set_option maxRecDepth 20000 in
theorem gX6_layer_X6_isCell : GoodIn wsX6_layer (va_wsS RX6 56 yX6_isCell wsX6_isCell) := goodIn_app (goodIn_of _ (by decide +kernel)) ggX6_layer_X6_isCell
set_option maxRecDepth 20000 in
theorem ggX6_layer_X6_in : GoodIn wsX6_layer wsX6_in := goodIn_r _ [8] (by decide +kernel) (by decide +kernel)
set_option maxRecDepth 20000 in
theorem gX6_layer_X6_in : GoodIn wsX6_layer (va_wsS RX6 45 yX6_in wsX6_in) := goodIn_app (goodIn_of _ (by decide +kernel)) ggX6_layer_X6_in
set_option maxRecDepth 20000 in
theorem ggX6_layer_X6_asked_ : GoodIn wsX6_layer wsX6_asked_ := goodIn_r _ [12, 13, 14, 15, 16, 17, 18, 19, 20, 21, 22, 23, 24, 25, 26, 27, 28, 29] (by decide +kernel) (by decide +kernel)
set_option maxRecDepth 20000 in
theorem gX6_layer_X6_asked_ : GoodIn wsX6_layer (wsV RX6 113 RX6 yX6_asked_ wsX6_asked_) := goodIn_app (goodIn_of _ (by decide +kernel)) ggX6_layer_X6_asked_
theorem dX6_layer_0 : decode cX6_layer 0 = .ok (.aload_n 0, 1) := by decide +kernel
theorem dX6_layer_1 : decode cX6_layer 1 = .ok (.iload_n 1, 1) := by decide +kernel
theorem dX6_layer_2 : decode cX6_layer 2 = .ok (.invokestatic 56, 3) := by decide +kernel
theorem dX6_layer_5 : decode cX6_layer 5 = .ok (.iload_n 2, 1) := by decide +kernel
theorem dX6_layer_6 : decode cX6_layer 6 = .ok (.iconst 0, 1) := by decide +kernel
theorem dX6_layer_7 : decode cX6_layer 7 = .ok (.bipush 60, 2) := by decide +kernel
theorem dX6_layer_9 : decode cX6_layer 9 = .ok (.invokestatic 45, 3) := by decide +kernel
theorem dX6_layer_12 : decode cX6_layer 12 = .ok (.invokevirtual 113, 3) := by decide +kernel
theorem dX6_layer_15 : decode cX6_layer 15 = .ok (.ifCond .eq 20, 3) := by decide +kernel
theorem dX6_layer_18 : decode cX6_layer 18 = .ok (.aload_n 0, 1) := by decide +kernel
theorem dX6_layer_19 : decode cX6_layer 19 = .ok (.getfield 7, 3) := by decide +kernel
theorem dX6_layer_22 : decode cX6_layer 22 = .ok (.bipush 100, 2) := by decide +kernel
theorem dX6_layer_24 : decode cX6_layer 24 = .ok (.bipush 61, 2) := by decide +kernel
theorem dX6_layer_26 : decode cX6_layer 26 = .ok (.iload_n 1, 1) := by decide +kernel
theorem dX6_layer_27 : decode cX6_layer 27 = .ok (.imul, 1) := by decide +kernel
theorem dX6_layer_28 : decode cX6_layer 28 = .ok (.iadd, 1) := by decide +kernel
theorem dX6_layer_29 : decode cX6_layer 29 = .ok (.iload_n 2, 1) := by decide +kernel
theorem dX6_layer_30 : decode cX6_layer 30 = .ok (.iadd, 1) := by decide +kernel
theorem dX6_layer_31 : decode cX6_layer 31 = .ok (.iaload, 1) := by decide +kernel
theorem dX6_layer_32 : decode cX6_layer 32 = .ok (.goto 4, 3) := by decide +kernel
theorem dX6_layer_35 : decode cX6_layer 35 = .ok (.iconst 0, 1) := by decide +kernel
theorem dX6_layer_36 : decode cX6_layer 36 = .ok (.ireturn, 1) := by decide +kernel
set_option maxRecDepth 20000 in
theorem ggX6_yearAt_X6_isCell : GoodIn wsX6_yearAt wsX6_isCell := goodIn_r _ [5, 6, 7, 4, 8] (by decide +kernel) (by decide +kernel)
set_option maxRecDepth 20000 in
theorem gX6_yearAt_X6_isCell : GoodIn wsX6_yearAt (va_wsS RX6 56 yX6_isCell wsX6_isCell) := goodIn_app (goodIn_of _ (by decide +kernel)) ggX6_yearAt_X6_isCell
set_option maxRecDepth 20000 in
theorem ggX6_yearAt_X6_asked_ : GoodIn wsX6_yearAt wsX6_asked_ := goodIn_r _ [12, 13, 14, 15, 16, 17, 18, 19, 20, 21, 22, 23, 24, 25, 26, 27, 28, 29] (by decide +kernel) (by decide +kernel)
set_option maxRecDepth 20000 in
theorem gX6_yearAt_X6_asked_ : GoodIn wsX6_yearAt (wsV RX6 113 RX6 yX6_asked_ wsX6_asked_) := goodIn_app (goodIn_of _ (by decide +kernel)) ggX6_yearAt_X6_asked_
theorem dX6_yearAt_0 : decode cX6_yearAt 0 = .ok (.aload_n 0, 1) := by decide +kernel
theorem dX6_yearAt_1 : decode cX6_yearAt 1 = .ok (.iload_n 1, 1) := by decide +kernel
theorem dX6_yearAt_2 : decode cX6_yearAt 2 = .ok (.invokestatic 56, 3) := by decide +kernel
theorem dX6_yearAt_5 : decode cX6_yearAt 5 = .ok (.iload_n 2, 1) := by decide +kernel
theorem dX6_yearAt_6 : decode cX6_yearAt 6 = .ok (.ifCond .lt 7, 3) := by decide +kernel
theorem dX6_yearAt_9 : decode cX6_yearAt 9 = .ok (.iconst 1, 1) := by decide +kernel
theorem dX6_yearAt_10 : decode cX6_yearAt 10 = .ok (.goto 4, 3) := by decide +kernel
theorem dX6_yearAt_13 : decode cX6_yearAt 13 = .ok (.iconst 0, 1) := by decide +kernel
theorem dX6_yearAt_14 : decode cX6_yearAt 14 = .ok (.invokevirtual 113, 3) := by decide +kernel
theorem dX6_yearAt_17 : decode cX6_yearAt 17 = .ok (.ifCond .ne 5, 3) := by decide +kernel
theorem dX6_yearAt_20 : decode cX6_yearAt 20 = .ok (.iconst 0, 1) := by decide +kernel
theorem dX6_yearAt_21 : decode cX6_yearAt 21 = .ok (.ireturn, 1) := by decide +kernel
theorem dX6_yearAt_22 : decode cX6_yearAt 22 = .ok (.iload_n 2, 1) := by decide +kernel
theorem dX6_yearAt_23 : decode cX6_yearAt 23 = .ok (.istore_n 3, 1) := by decide +kernel
theorem dX6_yearAt_24 : decode cX6_yearAt 24 = .ok (.bipush 60, 2) := by decide +kernel
theorem dX6_yearAt_26 : decode cX6_yearAt 26 = .ok (.istore 4, 2) := by decide +kernel
theorem dX6_yearAt_28 : decode cX6_yearAt 28 = .ok (.iload 4, 2) := by decide +kernel
theorem dX6_yearAt_30 : decode cX6_yearAt 30 = .ok (.ifCond .lt 49, 3) := by decide +kernel
theorem dX6_yearAt_33 : decode cX6_yearAt 33 = .ok (.iload_n 3, 1) := by decide +kernel
theorem dX6_yearAt_34 : decode cX6_yearAt 34 = .ok (.aload_n 0, 1) := by decide +kernel
theorem dX6_yearAt_35 : decode cX6_yearAt 35 = .ok (.getfield 7, 3) := by decide +kernel
theorem dX6_yearAt_38 : decode cX6_yearAt 38 = .ok (.bipush 100, 2) := by decide +kernel
theorem dX6_yearAt_40 : decode cX6_yearAt 40 = .ok (.bipush 61, 2) := by decide +kernel
theorem dX6_yearAt_42 : decode cX6_yearAt 42 = .ok (.iload_n 1, 1) := by decide +kernel
theorem dX6_yearAt_43 : decode cX6_yearAt 43 = .ok (.imul, 1) := by decide +kernel
theorem dX6_yearAt_44 : decode cX6_yearAt 44 = .ok (.iadd, 1) := by decide +kernel
theorem dX6_yearAt_45 : decode cX6_yearAt 45 = .ok (.iload 4, 2) := by decide +kernel
theorem dX6_yearAt_47 : decode cX6_yearAt 47 = .ok (.iadd, 1) := by decide +kernel
theorem dX6_yearAt_48 : decode cX6_yearAt 48 = .ok (.iaload, 1) := by decide +kernel
theorem dX6_yearAt_49 : decode cX6_yearAt 49 = .ok (.if_icmp .ge 6, 3) := by decide +kernel
theorem dX6_yearAt_52 : decode cX6_yearAt 52 = .ok (.iload 4, 2) := by decide +kernel
theorem dX6_yearAt_54 : decode cX6_yearAt 54 = .ok (.ireturn, 1) := by decide +kernel
theorem dX6_yearAt_55 : decode cX6_yearAt 55 = .ok (.iload_n 3, 1) := by decide +kernel
theorem dX6_yearAt_56 : decode cX6_yearAt 56 = .ok (.aload_n 0, 1) := by decide +kernel
theorem dX6_yearAt_57 : decode cX6_yearAt 57 = .ok (.getfield 7, 3) := by decide +kernel
theorem dX6_yearAt_60 : decode cX6_yearAt 60 = .ok (.bipush 100, 2) := by decide +kernel
theorem dX6_yearAt_62 : decode cX6_yearAt 62 = .ok (.bipush 61, 2) := by decide +kernel
theorem dX6_yearAt_64 : decode cX6_yearAt 64 = .ok (.iload_n 1, 1) := by decide +kernel
theorem dX6_yearAt_65 : decode cX6_yearAt 65 = .ok (.imul, 1) := by decide +kernel
theorem dX6_yearAt_66 : decode cX6_yearAt 66 = .ok (.iadd, 1) := by decide +kernel
theorem dX6_yearAt_67 : decode cX6_yearAt 67 = .ok (.iload 4, 2) := by decide +kernel
theorem dX6_yearAt_69 : decode cX6_yearAt 69 = .ok (.iadd, 1) := by decide +kernel
theorem dX6_yearAt_70 : decode cX6_yearAt 70 = .ok (.iaload, 1) := by decide +kernel
theorem dX6_yearAt_71 : decode cX6_yearAt 71 = .ok (.isub, 1) := by decide +kernel
theorem dX6_yearAt_72 : decode cX6_yearAt 72 = .ok (.istore_n 3, 1) := by decide +kernel
theorem dX6_yearAt_73 : decode cX6_yearAt 73 = .ok (.iinc 4 (-1), 3) := by decide +kernel
theorem dX6_yearAt_76 : decode cX6_yearAt 76 = .ok (.goto (-48), 3) := by decide +kernel
theorem dX6_yearAt_79 : decode cX6_yearAt 79 = .ok (.iconst (-1), 1) := by decide +kernel
theorem dX6_yearAt_80 : decode cX6_yearAt 80 = .ok (.ireturn, 1) := by decide +kernel
set_option maxRecDepth 20000 in
theorem ggX6_common_X6_isCell : GoodIn wsX6_common wsX6_isCell := goodIn_r _ [6, 7, 8, 5, 9] (by decide +kernel) (by decide +kernel)
set_option maxRecDepth 20000 in
theorem gX6_common_X6_isCell : GoodIn wsX6_common (va_wsS RX6 56 yX6_isCell wsX6_isCell) := goodIn_app (goodIn_of _ (by decide +kernel)) ggX6_common_X6_isCell
set_option maxRecDepth 20000 in
theorem ggX6_common_X6_asked : GoodIn wsX6_common wsX6_asked := goodIn_r _ [13, 14, 15, 16, 17, 18, 19, 20, 21, 22, 23, 24, 25, 26, 27, 28, 29, 30] (by decide +kernel) (by decide +kernel)
set_option maxRecDepth 20000 in
theorem gX6_common_X6_asked : GoodIn wsX6_common (wsV RX6 64 RX6 yX6_asked wsX6_asked) := goodIn_app (goodIn_of _ (by decide +kernel)) ggX6_common_X6_asked
theorem dX6_common_0 : decode cX6_common 0 = .ok (.aload_n 0, 1) := by decide +kernel
theorem dX6_common_1 : decode cX6_common 1 = .ok (.iload_n 1, 1) := by decide +kernel
theorem dX6_common_2 : decode cX6_common 2 = .ok (.invokestatic 56, 3) := by decide +kernel
theorem dX6_common_5 : decode cX6_common 5 = .ok (.ifCond .eq 14, 3) := by decide +kernel
theorem dX6_common_8 : decode cX6_common 8 = .ok (.iload_n 2, 1) := by decide +kernel
theorem dX6_common_9 : decode cX6_common 9 = .ok (.invokestatic 56, 3) := by decide +kernel
theorem dX6_common_12 : decode cX6_common 12 = .ok (.ifCond .eq 7, 3) := by decide +kernel
theorem dX6_common_15 : decode cX6_common 15 = .ok (.iconst 1, 1) := by decide +kernel
theorem dX6_common_16 : decode cX6_common 16 = .ok (.goto 4, 3) := by decide +kernel
theorem dX6_common_19 : decode cX6_common 19 = .ok (.iconst 0, 1) := by decide +kernel
theorem dX6_common_20 : decode cX6_common 20 = .ok (.invokevirtual 64, 3) := by decide +kernel
theorem dX6_common_23 : decode cX6_common 23 = .ok (.ifCond .ne 5, 3) := by decide +kernel
theorem dX6_common_26 : decode cX6_common 26 = .ok (.iconst 0, 1) := by decide +kernel
theorem dX6_common_27 : decode cX6_common 27 = .ok (.ireturn, 1) := by decide +kernel
theorem dX6_common_28 : decode cX6_common 28 = .ok (.iconst 0, 1) := by decide +kernel
theorem dX6_common_29 : decode cX6_common 29 = .ok (.istore_n 3, 1) := by decide +kernel
theorem dX6_common_30 : decode cX6_common 30 = .ok (.iconst 0, 1) := by decide +kernel
theorem dX6_common_31 : decode cX6_common 31 = .ok (.istore 4, 2) := by decide +kernel
theorem dX6_common_33 : decode cX6_common 33 = .ok (.iload 4, 2) := by decide +kernel
theorem dX6_common_35 : decode cX6_common 35 = .ok (.bipush 61, 2) := by decide +kernel
theorem dX6_common_37 : decode cX6_common 37 = .ok (.if_icmp .ge 63, 3) := by decide +kernel
theorem dX6_common_40 : decode cX6_common 40 = .ok (.iload_n 3, 1) := by decide +kernel
theorem dX6_common_41 : decode cX6_common 41 = .ok (.aload_n 0, 1) := by decide +kernel
theorem dX6_common_42 : decode cX6_common 42 = .ok (.getfield 16, 3) := by decide +kernel
theorem dX6_common_45 : decode cX6_common 45 = .ok (.iload 4, 2) := by decide +kernel
theorem dX6_common_47 : decode cX6_common 47 = .ok (.baload, 1) := by decide +kernel
theorem dX6_common_48 : decode cX6_common 48 = .ok (.ifCond .eq 43, 3) := by decide +kernel
theorem dX6_common_51 : decode cX6_common 51 = .ok (.aload_n 0, 1) := by decide +kernel
theorem dX6_common_52 : decode cX6_common 52 = .ok (.getfield 7, 3) := by decide +kernel
theorem dX6_common_55 : decode cX6_common 55 = .ok (.bipush 100, 2) := by decide +kernel
theorem dX6_common_57 : decode cX6_common 57 = .ok (.bipush 61, 2) := by decide +kernel
theorem dX6_common_59 : decode cX6_common 59 = .ok (.iload_n 1, 1) := by decide +kernel
theorem dX6_common_60 : decode cX6_common 60 = .ok (.imul, 1) := by decide +kernel
theorem dX6_common_61 : decode cX6_common 61 = .ok (.iadd, 1) := by decide +kernel
theorem dX6_common_62 : decode cX6_common 62 = .ok (.iload 4, 2) := by decide +kernel
theorem dX6_common_64 : decode cX6_common 64 = .ok (.iadd, 1) := by decide +kernel
theorem dX6_common_65 : decode cX6_common 65 = .ok (.iaload, 1) := by decide +kernel
theorem dX6_common_66 : decode cX6_common 66 = .ok (.ifCond .le 25, 3) := by decide +kernel
theorem dX6_common_69 : decode cX6_common 69 = .ok (.aload_n 0, 1) := by decide +kernel
theorem dX6_common_70 : decode cX6_common 70 = .ok (.getfield 7, 3) := by decide +kernel
theorem dX6_common_73 : decode cX6_common 73 = .ok (.bipush 100, 2) := by decide +kernel
theorem dX6_common_75 : decode cX6_common 75 = .ok (.bipush 61, 2) := by decide +kernel
theorem dX6_common_77 : decode cX6_common 77 = .ok (.iload_n 2, 1) := by decide +kernel
theorem dX6_common_78 : decode cX6_common 78 = .ok (.imul, 1) := by decide +kernel
theorem dX6_common_79 : decode cX6_common 79 = .ok (.iadd, 1) := by decide +kernel
theorem dX6_common_80 : decode cX6_common 80 = .ok (.iload 4, 2) := by decide +kernel
theorem dX6_common_82 : decode cX6_common 82 = .ok (.iadd, 1) := by decide +kernel
theorem dX6_common_83 : decode cX6_common 83 = .ok (.iaload, 1) := by decide +kernel
theorem dX6_common_84 : decode cX6_common 84 = .ok (.ifCond .le 7, 3) := by decide +kernel
theorem dX6_common_87 : decode cX6_common 87 = .ok (.iconst 1, 1) := by decide +kernel
theorem dX6_common_88 : decode cX6_common 88 = .ok (.goto 4, 3) := by decide +kernel
theorem dX6_common_91 : decode cX6_common 91 = .ok (.iconst 0, 1) := by decide +kernel
theorem dX6_common_92 : decode cX6_common 92 = .ok (.iadd, 1) := by decide +kernel
theorem dX6_common_93 : decode cX6_common 93 = .ok (.istore_n 3, 1) := by decide +kernel
theorem dX6_common_94 : decode cX6_common 94 = .ok (.iinc 4 1, 3) := by decide +kernel
theorem dX6_common_97 : decode cX6_common 97 = .ok (.goto (-64), 3) := by decide +kernel
theorem dX6_common_100 : decode cX6_common 100 = .ok (.iload_n 3, 1) := by decide +kernel
theorem dX6_common_101 : decode cX6_common 101 = .ok (.ireturn, 1) := by decide +kernel
theorem dX6_floods_0 : decode cX6_floods 0 = .ok (.aload_n 0, 1) := by decide +kernel
theorem dX6_floods_1 : decode cX6_floods 1 = .ok (.iconst 0, 1) := by decide +kernel
theorem dX6_floods_2 : decode cX6_floods 2 = .ok (.putfield 41, 3) := by decide +kernel
theorem dX6_floods_5 : decode cX6_floods 5 = .ok (.aload_n 0, 1) := by decide +kernel
theorem dX6_floods_6 : decode cX6_floods 6 = .ok (.getfield 7, 3) := by decide +kernel
theorem dX6_floods_9 : decode cX6_floods 9 = .ok (.bipush 90, 2) := by decide +kernel
theorem dX6_floods_11 : decode cX6_floods 11 = .ok (.iaload, 1) := by decide +kernel
theorem dX6_floods_12 : decode cX6_floods 12 = .ok (.ireturn, 1) := by decide +kernel
set_option maxRecDepth 20000 in
theorem ggX6_flood_X6_in : GoodIn wsX6_flood wsX6_in := goodIn_r _ [8] (by decide +kernel) (by decide +kernel)
set_option maxRecDepth 20000 in
theorem gX6_flood_X6_in : GoodIn wsX6_flood (va_wsS RX6 45 yX6_in wsX6_in) := goodIn_app (goodIn_of _ (by decide +kernel)) ggX6_flood_X6_in
set_option maxRecDepth 20000 in
theorem ggX6_flood_X6_asked_ : GoodIn wsX6_flood wsX6_asked_ := goodIn_r _ [12, 13, 14, 15, 16, 17, 18, 19, 20, 21, 22, 23, 24, 25, 26, 27, 28, 29] (by decide +kernel) (by decide +kernel)
set_option maxRecDepth 20000 in
theorem gX6_flood_X6_asked_ : GoodIn wsX6_flood (wsV RX6 113 RX6 yX6_asked_ wsX6_asked_) := goodIn_app (goodIn_of _ (by decide +kernel)) ggX6_flood_X6_asked_
theorem dX6_flood_0 : decode cX6_flood 0 = .ok (.aload_n 0, 1) := by decide +kernel
theorem dX6_flood_1 : decode cX6_flood 1 = .ok (.iload_n 1, 1) := by decide +kernel
theorem dX6_flood_2 : decode cX6_flood 2 = .ok (.iconst 0, 1) := by decide +kernel
theorem dX6_flood_3 : decode cX6_flood 3 = .ok (.aload_n 0, 1) := by decide +kernel
theorem dX6_flood_4 : decode cX6_flood 4 = .ok (.getfield 7, 3) := by decide +kernel
theorem dX6_flood_7 : decode cX6_flood 7 = .ok (.bipush 90, 2) := by decide +kernel
theorem dX6_flood_9 : decode cX6_flood 9 = .ok (.iaload, 1) := by decide +kernel
theorem dX6_flood_10 : decode cX6_flood 10 = .ok (.iconst 1, 1) := by decide +kernel
theorem dX6_flood_11 : decode cX6_flood 11 = .ok (.isub, 1) := by decide +kernel
theorem dX6_flood_12 : decode cX6_flood 12 = .ok (.invokestatic 45, 3) := by decide +kernel
theorem dX6_flood_15 : decode cX6_flood 15 = .ok (.iload_n 2, 1) := by decide +kernel
theorem dX6_flood_16 : decode cX6_flood 16 = .ok (.iconst 0, 1) := by decide +kernel
theorem dX6_flood_17 : decode cX6_flood 17 = .ok (.iconst 2, 1) := by decide +kernel
theorem dX6_flood_18 : decode cX6_flood 18 = .ok (.invokestatic 45, 3) := by decide +kernel
theorem dX6_flood_21 : decode cX6_flood 21 = .ok (.invokevirtual 113, 3) := by decide +kernel
theorem dX6_flood_24 : decode cX6_flood 24 = .ok (.ifCond .ne 5, 3) := by decide +kernel
theorem dX6_flood_27 : decode cX6_flood 27 = .ok (.iconst 0, 1) := by decide +kernel
theorem dX6_flood_28 : decode cX6_flood 28 = .ok (.ireturn, 1) := by decide +kernel
theorem dX6_flood_29 : decode cX6_flood 29 = .ok (.iload_n 2, 1) := by decide +kernel
theorem dX6_flood_30 : decode cX6_flood 30 = .ok (.ifCond .ne 12, 3) := by decide +kernel
theorem dX6_flood_33 : decode cX6_flood 33 = .ok (.aload_n 0, 1) := by decide +kernel
theorem dX6_flood_34 : decode cX6_flood 34 = .ok (.getfield 20, 3) := by decide +kernel
theorem dX6_flood_37 : decode cX6_flood 37 = .ok (.iload_n 1, 1) := by decide +kernel
theorem dX6_flood_38 : decode cX6_flood 38 = .ok (.iaload, 1) := by decide +kernel
theorem dX6_flood_39 : decode cX6_flood 39 = .ok (.goto 23, 3) := by decide +kernel
theorem dX6_flood_42 : decode cX6_flood 42 = .ok (.iload_n 2, 1) := by decide +kernel
theorem dX6_flood_43 : decode cX6_flood 43 = .ok (.iconst 1, 1) := by decide +kernel
theorem dX6_flood_44 : decode cX6_flood 44 = .ok (.if_icmp .ne 12, 3) := by decide +kernel
theorem dX6_flood_47 : decode cX6_flood 47 = .ok (.aload_n 0, 1) := by decide +kernel
theorem dX6_flood_48 : decode cX6_flood 48 = .ok (.getfield 23, 3) := by decide +kernel
theorem dX6_flood_51 : decode cX6_flood 51 = .ok (.iload_n 1, 1) := by decide +kernel
theorem dX6_flood_52 : decode cX6_flood 52 = .ok (.iaload, 1) := by decide +kernel
theorem dX6_flood_53 : decode cX6_flood 53 = .ok (.goto 9, 3) := by decide +kernel
theorem dX6_flood_56 : decode cX6_flood 56 = .ok (.aload_n 0, 1) := by decide +kernel
theorem dX6_flood_57 : decode cX6_flood 57 = .ok (.getfield 26, 3) := by decide +kernel
theorem dX6_flood_60 : decode cX6_flood 60 = .ok (.iload_n 1, 1) := by decide +kernel
theorem dX6_flood_61 : decode cX6_flood 61 = .ok (.iaload, 1) := by decide +kernel
theorem dX6_flood_62 : decode cX6_flood 62 = .ok (.ireturn, 1) := by decide +kernel
set_option maxRecDepth 20000 in
theorem ggX6_front_X6_in : GoodIn wsX6_front wsX6_in := goodIn_r _ [5] (by decide +kernel) (by decide +kernel)
set_option maxRecDepth 20000 in
theorem gX6_front_X6_in : GoodIn wsX6_front (va_wsS RX6 45 yX6_in wsX6_in) := goodIn_app (goodIn_of _ (by decide +kernel)) ggX6_front_X6_in
set_option maxRecDepth 20000 in
theorem ggX6_front_X6_asked : GoodIn wsX6_front wsX6_asked := goodIn_r _ [9, 10, 11, 12, 13, 14, 15, 16, 17, 18, 19, 20, 21, 22, 23, 24, 25, 26] (by decide +kernel) (by decide +kernel)
set_option maxRecDepth 20000 in
theorem gX6_front_X6_asked : GoodIn wsX6_front (wsV RX6 64 RX6 yX6_asked wsX6_asked) := goodIn_app (goodIn_of _ (by decide +kernel)) ggX6_front_X6_asked
theorem dX6_front_0 : decode cX6_front 0 = .ok (.aload_n 0, 1) := by decide +kernel
theorem dX6_front_1 : decode cX6_front 1 = .ok (.iload_n 1, 1) := by decide +kernel
theorem dX6_front_2 : decode cX6_front 2 = .ok (.iconst 0, 1) := by decide +kernel
theorem dX6_front_3 : decode cX6_front 3 = .ok (.aload_n 0, 1) := by decide +kernel
theorem dX6_front_4 : decode cX6_front 4 = .ok (.getfield 7, 3) := by decide +kernel
theorem dX6_front_7 : decode cX6_front 7 = .ok (.bipush 89, 2) := by decide +kernel
theorem dX6_front_9 : decode cX6_front 9 = .ok (.iaload, 1) := by decide +kernel
theorem dX6_front_10 : decode cX6_front 10 = .ok (.invokestatic 45, 3) := by decide +kernel
theorem dX6_front_13 : decode cX6_front 13 = .ok (.invokevirtual 64, 3) := by decide +kernel
theorem dX6_front_16 : decode cX6_front 16 = .ok (.ifCond .eq 16, 3) := by decide +kernel
theorem dX6_front_19 : decode cX6_front 19 = .ok (.aload_n 0, 1) := by decide +kernel
theorem dX6_front_20 : decode cX6_front 20 = .ok (.getfield 7, 3) := by decide +kernel
theorem dX6_front_23 : decode cX6_front 23 = .ok (.sipush 900, 3) := by decide +kernel
theorem dX6_front_26 : decode cX6_front 26 = .ok (.iload_n 1, 1) := by decide +kernel
theorem dX6_front_27 : decode cX6_front 27 = .ok (.iadd, 1) := by decide +kernel
theorem dX6_front_28 : decode cX6_front 28 = .ok (.iaload, 1) := by decide +kernel
theorem dX6_front_29 : decode cX6_front 29 = .ok (.goto 4, 3) := by decide +kernel
theorem dX6_front_32 : decode cX6_front 32 = .ok (.iconst 0, 1) := by decide +kernel
theorem dX6_front_33 : decode cX6_front 33 = .ok (.ireturn, 1) := by decide +kernel
set_option maxRecDepth 20000 in
theorem ggX6_total_X6_in : GoodIn wsX6_total wsX6_in := goodIn_r _ [5] (by decide +kernel) (by decide +kernel)
set_option maxRecDepth 20000 in
theorem gX6_total_X6_in : GoodIn wsX6_total (va_wsS RX6 45 yX6_in wsX6_in) := goodIn_app (goodIn_of _ (by decide +kernel)) ggX6_total_X6_in
set_option maxRecDepth 20000 in
theorem ggX6_total_X6_asked : GoodIn wsX6_total wsX6_asked := goodIn_r _ [9, 10, 19, 20, 21, 22, 23, 24, 25, 26, 27, 28, 29, 30, 31, 32, 33, 34] (by decide +kernel) (by decide +kernel)
set_option maxRecDepth 20000 in
theorem gX6_total_X6_asked : GoodIn wsX6_total (wsV RX6 64 RX6 yX6_asked wsX6_asked) := goodIn_app (goodIn_of _ (by decide +kernel)) ggX6_total_X6_asked
set_option maxRecDepth 20000 in
theorem ggX6_total_X6_allIce : GoodIn wsX6_total wsX6_allIce := goodIn_r _ [14, 15, 16, 17, 4, 18, 1, 19, 20, 21, 22, 23, 24, 25, 26, 27, 28, 29, 30, 31, 32, 33, 34] (by decide +kernel) (by decide +kernel)
set_option maxRecDepth 20000 in
theorem gX6_total_X6_allIce : GoodIn wsX6_total (wsV RX6 123 RX6 yX6_allIce wsX6_allIce) := goodIn_app (goodIn_of _ (by decide +kernel)) ggX6_total_X6_allIce
theorem dX6_total_0 : decode cX6_total 0 = .ok (.aload_n 0, 1) := by decide +kernel
theorem dX6_total_1 : decode cX6_total 1 = .ok (.iload_n 1, 1) := by decide +kernel
theorem dX6_total_2 : decode cX6_total 2 = .ok (.iconst 0, 1) := by decide +kernel
theorem dX6_total_3 : decode cX6_total 3 = .ok (.iconst 5, 1) := by decide +kernel
theorem dX6_total_4 : decode cX6_total 4 = .ok (.invokestatic 45, 3) := by decide +kernel
theorem dX6_total_7 : decode cX6_total 7 = .ok (.invokevirtual 64, 3) := by decide +kernel
theorem dX6_total_10 : decode cX6_total 10 = .ok (.ifCond .ne 5, 3) := by decide +kernel
theorem dX6_total_13 : decode cX6_total 13 = .ok (.iconst 0, 1) := by decide +kernel
theorem dX6_total_14 : decode cX6_total 14 = .ok (.ireturn, 1) := by decide +kernel
theorem dX6_total_15 : decode cX6_total 15 = .ok (.iconst 0, 1) := by decide +kernel
theorem dX6_total_16 : decode cX6_total 16 = .ok (.istore_n 2, 1) := by decide +kernel
theorem dX6_total_17 : decode cX6_total 17 = .ok (.iconst 0, 1) := by decide +kernel
theorem dX6_total_18 : decode cX6_total 18 = .ok (.istore_n 3, 1) := by decide +kernel
theorem dX6_total_19 : decode cX6_total 19 = .ok (.iload_n 3, 1) := by decide +kernel
theorem dX6_total_20 : decode cX6_total 20 = .ok (.bipush 12, 2) := by decide +kernel
theorem dX6_total_22 : decode cX6_total 22 = .ok (.if_icmp .ge 21, 3) := by decide +kernel
theorem dX6_total_25 : decode cX6_total 25 = .ok (.iload_n 2, 1) := by decide +kernel
theorem dX6_total_26 : decode cX6_total 26 = .ok (.aload_n 0, 1) := by decide +kernel
theorem dX6_total_27 : decode cX6_total 27 = .ok (.getfield 7, 3) := by decide +kernel
theorem dX6_total_30 : decode cX6_total 30 = .ok (.bipush 24, 2) := by decide +kernel
theorem dX6_total_32 : decode cX6_total 32 = .ok (.iload_n 3, 1) := by decide +kernel
theorem dX6_total_33 : decode cX6_total 33 = .ok (.iadd, 1) := by decide +kernel
theorem dX6_total_34 : decode cX6_total 34 = .ok (.iaload, 1) := by decide +kernel
theorem dX6_total_35 : decode cX6_total 35 = .ok (.iadd, 1) := by decide +kernel
theorem dX6_total_36 : decode cX6_total 36 = .ok (.istore_n 2, 1) := by decide +kernel
theorem dX6_total_37 : decode cX6_total 37 = .ok (.iinc 3 1, 3) := by decide +kernel
theorem dX6_total_40 : decode cX6_total 40 = .ok (.goto (-21), 3) := by decide +kernel
theorem dX6_total_43 : decode cX6_total 43 = .ok (.iload_n 1, 1) := by decide +kernel
theorem dX6_total_44 : decode cX6_total 44 = .ok (.ifCond .ne 10, 3) := by decide +kernel
theorem dX6_total_47 : decode cX6_total 47 = .ok (.aload_n 0, 1) := by decide +kernel
theorem dX6_total_48 : decode cX6_total 48 = .ok (.invokevirtual 123, 3) := by decide +kernel
theorem dX6_total_51 : decode cX6_total 51 = .ok (.goto 23, 3) := by decide +kernel
theorem dX6_total_54 : decode cX6_total 54 = .ok (.iload_n 1, 1) := by decide +kernel
theorem dX6_total_55 : decode cX6_total 55 = .ok (.iconst 1, 1) := by decide +kernel
theorem dX6_total_56 : decode cX6_total 56 = .ok (.if_icmp .ne 7, 3) := by decide +kernel
theorem dX6_total_59 : decode cX6_total 59 = .ok (.iload_n 2, 1) := by decide +kernel
theorem dX6_total_60 : decode cX6_total 60 = .ok (.goto 14, 3) := by decide +kernel
theorem dX6_total_63 : decode cX6_total 63 = .ok (.aload_n 0, 1) := by decide +kernel
theorem dX6_total_64 : decode cX6_total 64 = .ok (.getfield 7, 3) := by decide +kernel
theorem dX6_total_67 : decode cX6_total 67 = .ok (.bipush 84, 2) := by decide +kernel
theorem dX6_total_69 : decode cX6_total 69 = .ok (.iload_n 1, 1) := by decide +kernel
theorem dX6_total_70 : decode cX6_total 70 = .ok (.iadd, 1) := by decide +kernel
theorem dX6_total_71 : decode cX6_total 71 = .ok (.iconst 2, 1) := by decide +kernel
theorem dX6_total_72 : decode cX6_total 72 = .ok (.isub, 1) := by decide +kernel
theorem dX6_total_73 : decode cX6_total 73 = .ok (.iaload, 1) := by decide +kernel
theorem dX6_total_74 : decode cX6_total 74 = .ok (.ireturn, 1) := by decide +kernel
theorem dX6_iceAnew_0 : decode cX6_iceAnew 0 = .ok (.aload_n 0, 1) := by decide +kernel
theorem dX6_iceAnew_1 : decode cX6_iceAnew 1 = .ok (.iconst 0, 1) := by decide +kernel
theorem dX6_iceAnew_2 : decode cX6_iceAnew 2 = .ok (.putfield 41, 3) := by decide +kernel
theorem dX6_iceAnew_5 : decode cX6_iceAnew 5 = .ok (.aload_n 0, 1) := by decide +kernel
theorem dX6_iceAnew_6 : decode cX6_iceAnew 6 = .ok (.getfield 7, 3) := by decide +kernel
theorem dX6_iceAnew_9 : decode cX6_iceAnew 9 = .ok (.bipush 87, 2) := by decide +kernel
theorem dX6_iceAnew_11 : decode cX6_iceAnew 11 = .ok (.iaload, 1) := by decide +kernel
theorem dX6_iceAnew_12 : decode cX6_iceAnew 12 = .ok (.aload_n 0, 1) := by decide +kernel
theorem dX6_iceAnew_13 : decode cX6_iceAnew 13 = .ok (.getfield 7, 3) := by decide +kernel
theorem dX6_iceAnew_16 : decode cX6_iceAnew 16 = .ok (.bipush 86, 2) := by decide +kernel
theorem dX6_iceAnew_18 : decode cX6_iceAnew 18 = .ok (.iaload, 1) := by decide +kernel
theorem dX6_iceAnew_19 : decode cX6_iceAnew 19 = .ok (.iadd, 1) := by decide +kernel
theorem dX6_iceAnew_20 : decode cX6_iceAnew 20 = .ok (.aload_n 0, 1) := by decide +kernel
theorem dX6_iceAnew_21 : decode cX6_iceAnew 21 = .ok (.getfield 7, 3) := by decide +kernel
theorem dX6_iceAnew_24 : decode cX6_iceAnew 24 = .ok (.bipush 88, 2) := by decide +kernel
theorem dX6_iceAnew_26 : decode cX6_iceAnew 26 = .ok (.iaload, 1) := by decide +kernel
theorem dX6_iceAnew_27 : decode cX6_iceAnew 27 = .ok (.isub, 1) := by decide +kernel
theorem dX6_iceAnew_28 : decode cX6_iceAnew 28 = .ok (.aload_n 0, 1) := by decide +kernel
theorem dX6_iceAnew_29 : decode cX6_iceAnew 29 = .ok (.getfield 7, 3) := by decide +kernel
theorem dX6_iceAnew_32 : decode cX6_iceAnew 32 = .ok (.bipush 85, 2) := by decide +kernel
theorem dX6_iceAnew_34 : decode cX6_iceAnew 34 = .ok (.iaload, 1) := by decide +kernel
theorem dX6_iceAnew_35 : decode cX6_iceAnew 35 = .ok (.isub, 1) := by decide +kernel
theorem dX6_iceAnew_36 : decode cX6_iceAnew 36 = .ok (.ireturn, 1) := by decide +kernel
theorem dX6_keeps_0 : decode cX6_keeps 0 = .ok (.iconst 0, 1) := by decide +kernel
theorem dX6_keeps_1 : decode cX6_keeps 1 = .ok (.istore_n 2, 1) := by decide +kernel
theorem dX6_keeps_2 : decode cX6_keeps 2 = .ok (.iload_n 2, 1) := by decide +kernel
theorem dX6_keeps_3 : decode cX6_keeps 3 = .ok (.sipush 1024, 3) := by decide +kernel
theorem dX6_keeps_6 : decode cX6_keeps 6 = .ok (.if_icmp .ge 43, 3) := by decide +kernel
theorem dX6_keeps_9 : decode cX6_keeps 9 = .ok (.aload_n 0, 1) := by decide +kernel
theorem dX6_keeps_10 : decode cX6_keeps 10 = .ok (.getfield 7, 3) := by decide +kernel
theorem dX6_keeps_13 : decode cX6_keeps 13 = .ok (.iload_n 2, 1) := by decide +kernel
theorem dX6_keeps_14 : decode cX6_keeps 14 = .ok (.iaload, 1) := by decide +kernel
theorem dX6_keeps_15 : decode cX6_keeps 15 = .ok (.istore_n 3, 1) := by decide +kernel
theorem dX6_keeps_16 : decode cX6_keeps 16 = .ok (.aload_n 0, 1) := by decide +kernel
theorem dX6_keeps_17 : decode cX6_keeps 17 = .ok (.getfield 7, 3) := by decide +kernel
theorem dX6_keeps_20 : decode cX6_keeps 20 = .ok (.iload_n 2, 1) := by decide +kernel
theorem dX6_keeps_21 : decode cX6_keeps 21 = .ok (.iload_n 1, 1) := by decide +kernel
theorem dX6_keeps_22 : decode cX6_keeps 22 = .ok (.ifCond .eq 12, 3) := by decide +kernel
theorem dX6_keeps_25 : decode cX6_keeps 25 = .ok (.aload_n 0, 1) := by decide +kernel
theorem dX6_keeps_26 : decode cX6_keeps 26 = .ok (.getfield 13, 3) := by decide +kernel
theorem dX6_keeps_29 : decode cX6_keeps 29 = .ok (.iload_n 2, 1) := by decide +kernel
theorem dX6_keeps_30 : decode cX6_keeps 30 = .ok (.iaload, 1) := by decide +kernel
theorem dX6_keeps_31 : decode cX6_keeps 31 = .ok (.goto 4, 3) := by decide +kernel
theorem dX6_keeps_34 : decode cX6_keeps 34 = .ok (.iload_n 3, 1) := by decide +kernel
theorem dX6_keeps_35 : decode cX6_keeps 35 = .ok (.iastore, 1) := by decide +kernel
theorem dX6_keeps_36 : decode cX6_keeps 36 = .ok (.aload_n 0, 1) := by decide +kernel
theorem dX6_keeps_37 : decode cX6_keeps 37 = .ok (.getfield 13, 3) := by decide +kernel
theorem dX6_keeps_40 : decode cX6_keeps 40 = .ok (.iload_n 2, 1) := by decide +kernel
theorem dX6_keeps_41 : decode cX6_keeps 41 = .ok (.iload_n 3, 1) := by decide +kernel
theorem dX6_keeps_42 : decode cX6_keeps 42 = .ok (.iastore, 1) := by decide +kernel
theorem dX6_keeps_43 : decode cX6_keeps 43 = .ok (.iinc 2 1, 3) := by decide +kernel
theorem dX6_keeps_46 : decode cX6_keeps 46 = .ok (.goto (-44), 3) := by decide +kernel
theorem dX6_keeps_49 : decode cX6_keeps 49 = .ok (.return_, 1) := by decide +kernel
set_option maxRecDepth 20000 in
theorem ggX6_would_X6_in : GoodIn wsX6_would wsX6_in := goodIn_r _ [5] (by decide +kernel) (by decide +kernel)
set_option maxRecDepth 20000 in
theorem gX6_would_X6_in : GoodIn wsX6_would (va_wsS RX6 45 yX6_in wsX6_in) := goodIn_app (goodIn_of _ (by decide +kernel)) ggX6_would_X6_in
set_option maxRecDepth 20000 in
theorem ggX6_would_X6_isCell : GoodIn wsX6_would wsX6_isCell := goodIn_r _ [8, 2, 3, 4, 5] (by decide +kernel) (by decide +kernel)
set_option maxRecDepth 20000 in
theorem gX6_would_X6_isCell : GoodIn wsX6_would (va_wsS RX6 56 yX6_isCell wsX6_isCell) := goodIn_app (goodIn_of _ (by decide +kernel)) ggX6_would_X6_isCell
set_option maxRecDepth 20000 in
theorem ggX6_would_X6_asked__ : GoodIn wsX6_would wsX6_asked__ := goodIn_r _ [12, 13, 85, 86, 87, 88, 89, 90, 91, 92, 93, 94, 95, 96, 97, 98, 99, 100] (by decide +kernel) (by decide +kernel)
set_option maxRecDepth 20000 in
theorem gX6_would_X6_asked__ : GoodIn wsX6_would (wsV RX6 60 RX6 yX6_asked__ wsX6_asked__) := goodIn_app (goodIn_of _ (by decide +kernel)) ggX6_would_X6_asked__
set_option maxRecDepth 20000 in
theorem ggX6_would_X6_keeps : GoodIn wsX6_would wsX6_keeps := goodIn_r _ [17, 1, 18, 85, 86, 87, 88, 89, 90, 91, 92, 93, 94, 95, 96, 97, 98, 99, 100] (by decide +kernel) (by decide +kernel)
set_option maxRecDepth 20000 in
theorem gX6_would_X6_keeps : GoodIn wsX6_would (wsV RX6 130 RX6 yX6_keeps wsX6_keeps) := goodIn_app (goodIn_of _ (by decide +kernel)) ggX6_would_X6_keeps
set_option maxRecDepth 20000 in
theorem ggX6_would_X6_passes : GoodIn wsX6_would wsX6_passes := goodIn_r _ [22, 1, 23, 24, 25, 4, 26, 27, 28, 29, 30, 31, 32, 33, 34, 35, 36, 37, 38, 39, 40, 41, 42, 43, 44, 45, 46, 47, 48, 49, 50, 51, 52, 53, 54, 55, 56, 57, 58, 59, 60, 61, 62, 63, 64, 65, 66, 67, 68, 69, 70, 71, 72, 73, 74, 75, 76, 77, 78, 79, 80, 85, 86, 87, 88, 89, 90, 91, 92, 93, 94, 95, 96, 97, 98, 99, 100] (by decide +kernel) (by decide +kernel)
set_option maxRecDepth 20000 in
theorem gX6_would_X6_passes : GoodIn wsX6_would (wsV RX6 116 RX6 yX6_passes wsX6_passes) := goodIn_app (goodIn_of _ (by decide +kernel)) ggX6_would_X6_passes
set_option maxRecDepth 20000 in
theorem ggX6_would_X6_tells : GoodIn wsX6_would wsX6_tells := goodIn_r _ [84, 1, 30, 31, 32, 4, 33, 34, 35, 36, 37, 38, 39, 40, 41, 42, 58, 59, 60, 61, 85, 86, 87, 88, 89, 90, 91, 92, 93, 94, 95, 96, 97, 98, 99, 100] (by decide +kernel) (by decide +kernel)
set_option maxRecDepth 20000 in
theorem gX6_would_X6_tells : GoodIn wsX6_would (wsV RX6 127 RX6 yX6_tells wsX6_tells) := goodIn_app (goodIn_of _ (by decide +kernel)) ggX6_would_X6_tells
theorem dX6_would_0 : decode cX6_would 0 = .ok (.iload_n 1, 1) := by decide +kernel
theorem dX6_would_1 : decode cX6_would 1 = .ok (.iconst 1, 1) := by decide +kernel
theorem dX6_would_2 : decode cX6_would 2 = .ok (.bipush 20, 2) := by decide +kernel
theorem dX6_would_4 : decode cX6_would 4 = .ok (.invokestatic 45, 3) := by decide +kernel
theorem dX6_would_7 : decode cX6_would 7 = .ok (.ifCond .eq 17, 3) := by decide +kernel
theorem dX6_would_10 : decode cX6_would 10 = .ok (.iload_n 3, 1) := by decide +kernel
theorem dX6_would_11 : decode cX6_would 11 = .ok (.iconst 0, 1) := by decide +kernel
theorem dX6_would_12 : decode cX6_would 12 = .ok (.bipush 9, 2) := by decide +kernel
theorem dX6_would_14 : decode cX6_would 14 = .ok (.invokestatic 45, 3) := by decide +kernel
theorem dX6_would_17 : decode cX6_would 17 = .ok (.ifCond .eq 7, 3) := by decide +kernel
theorem dX6_would_20 : decode cX6_would 20 = .ok (.iconst 1, 1) := by decide +kernel
theorem dX6_would_21 : decode cX6_would 21 = .ok (.goto 4, 3) := by decide +kernel
theorem dX6_would_24 : decode cX6_would 24 = .ok (.iconst 0, 1) := by decide +kernel
theorem dX6_would_25 : decode cX6_would 25 = .ok (.istore 4, 2) := by decide +kernel
theorem dX6_would_27 : decode cX6_would 27 = .ok (.aload_n 0, 1) := by decide +kernel
theorem dX6_would_28 : decode cX6_would 28 = .ok (.iload_n 2, 1) := by decide +kernel
theorem dX6_would_29 : decode cX6_would 29 = .ok (.invokestatic 56, 3) := by decide +kernel
theorem dX6_would_32 : decode cX6_would 32 = .ok (.iload 4, 2) := by decide +kernel
theorem dX6_would_34 : decode cX6_would 34 = .ok (.iload 4, 2) := by decide +kernel
theorem dX6_would_36 : decode cX6_would 36 = .ok (.ifCond .eq 21, 3) := by decide +kernel
theorem dX6_would_39 : decode cX6_would 39 = .ok (.aload_n 0, 1) := by decide +kernel
theorem dX6_would_40 : decode cX6_would 40 = .ok (.getfield 7, 3) := by decide +kernel
theorem dX6_would_43 : decode cX6_would 43 = .ok (.bipush 89, 2) := by decide +kernel
theorem dX6_would_45 : decode cX6_would 45 = .ok (.iaload, 1) := by decide +kernel
theorem dX6_would_46 : decode cX6_would 46 = .ok (.iload_n 1, 1) := by decide +kernel
theorem dX6_would_47 : decode cX6_would 47 = .ok (.iadd, 1) := by decide +kernel
theorem dX6_would_48 : decode cX6_would 48 = .ok (.bipush 60, 2) := by decide +kernel
theorem dX6_would_50 : decode cX6_would 50 = .ok (.if_icmp .gt 7, 3) := by decide +kernel
theorem dX6_would_53 : decode cX6_would 53 = .ok (.iconst 1, 1) := by decide +kernel
theorem dX6_would_54 : decode cX6_would 54 = .ok (.goto 4, 3) := by decide +kernel
theorem dX6_would_57 : decode cX6_would 57 = .ok (.iconst 0, 1) := by decide +kernel
theorem dX6_would_58 : decode cX6_would 58 = .ok (.invokevirtual 60, 3) := by decide +kernel
theorem dX6_would_61 : decode cX6_would 61 = .ok (.ifCond .ne 5, 3) := by decide +kernel
theorem dX6_would_64 : decode cX6_would 64 = .ok (.iconst 0, 1) := by decide +kernel
theorem dX6_would_65 : decode cX6_would 65 = .ok (.ireturn, 1) := by decide +kernel
theorem dX6_would_66 : decode cX6_would 66 = .ok (.aload_n 0, 1) := by decide +kernel
theorem dX6_would_67 : decode cX6_would 67 = .ok (.iconst 0, 1) := by decide +kernel
theorem dX6_would_68 : decode cX6_would 68 = .ok (.invokevirtual 130, 3) := by decide +kernel
theorem dX6_would_71 : decode cX6_would 71 = .ok (.aload_n 0, 1) := by decide +kernel
theorem dX6_would_72 : decode cX6_would 72 = .ok (.iload_n 1, 1) := by decide +kernel
theorem dX6_would_73 : decode cX6_would 73 = .ok (.invokevirtual 116, 3) := by decide +kernel
theorem dX6_would_76 : decode cX6_would 76 = .ok (.aload_n 0, 1) := by decide +kernel
theorem dX6_would_77 : decode cX6_would 77 = .ok (.iload_n 2, 1) := by decide +kernel
theorem dX6_would_78 : decode cX6_would 78 = .ok (.iload_n 3, 1) := by decide +kernel
theorem dX6_would_79 : decode cX6_would 79 = .ok (.invokevirtual 127, 3) := by decide +kernel
theorem dX6_would_82 : decode cX6_would 82 = .ok (.istore 5, 2) := by decide +kernel
theorem dX6_would_84 : decode cX6_would 84 = .ok (.aload_n 0, 1) := by decide +kernel
theorem dX6_would_85 : decode cX6_would 85 = .ok (.iconst 1, 1) := by decide +kernel
theorem dX6_would_86 : decode cX6_would 86 = .ok (.invokevirtual 130, 3) := by decide +kernel
theorem dX6_would_89 : decode cX6_would 89 = .ok (.iload 5, 2) := by decide +kernel
theorem dX6_would_91 : decode cX6_would 91 = .ok (.ireturn, 1) := by decide +kernel
set_option maxRecDepth 20000 in
theorem ggX6_forecast_X6_in : GoodIn wsX6_forecast wsX6_in := goodIn_r _ [9] (by decide +kernel) (by decide +kernel)
set_option maxRecDepth 20000 in
theorem gX6_forecast_X6_in : GoodIn wsX6_forecast (va_wsS RX6 45 yX6_in wsX6_in) := goodIn_app (goodIn_of _ (by decide +kernel)) ggX6_forecast_X6_in
set_option maxRecDepth 20000 in
theorem ggX6_forecast_X6_asked_ : GoodIn wsX6_forecast wsX6_asked_ := goodIn_r _ [13, 14, 86, 87, 88, 89, 90, 91, 92, 93, 94, 95, 96, 97, 98, 99, 100, 101] (by decide +kernel) (by decide +kernel)
set_option maxRecDepth 20000 in
theorem gX6_forecast_X6_asked_ : GoodIn wsX6_forecast (wsV RX6 113 RX6 yX6_asked_ wsX6_asked_) := goodIn_app (goodIn_of _ (by decide +kernel)) ggX6_forecast_X6_asked_
set_option maxRecDepth 20000 in
theorem ggX6_forecast_X6_keeps : GoodIn wsX6_forecast wsX6_keeps := goodIn_r _ [18, 1, 19, 86, 87, 88, 89, 90, 91, 92, 93, 94, 95, 96, 97, 98, 99, 100, 101] (by decide +kernel) (by decide +kernel)
set_option maxRecDepth 20000 in
theorem gX6_forecast_X6_keeps : GoodIn wsX6_forecast (wsV RX6 130 RX6 yX6_keeps wsX6_keeps) := goodIn_app (goodIn_of _ (by decide +kernel)) ggX6_forecast_X6_keeps
set_option maxRecDepth 20000 in
theorem ggX6_forecast_X6_passes : GoodIn wsX6_forecast wsX6_passes := goodIn_r _ [23, 1, 24, 25, 26, 8, 27, 28, 29, 30, 31, 32, 33, 34, 35, 36, 37, 38, 39, 40, 41, 42, 43, 44, 45, 46, 47, 48, 49, 50, 51, 52, 53, 54, 55, 56, 57, 58, 59, 60, 61, 62, 63, 64, 65, 66, 67, 68, 69, 70, 71, 72, 73, 74, 75, 76, 77, 78, 79, 80, 81, 86, 87, 88, 89, 90, 91, 92, 93, 94, 95, 96, 97, 98, 99, 100, 101] (by decide +kernel) (by decide +kernel)
set_option maxRecDepth 20000 in
theorem gX6_forecast_X6_passes : GoodIn wsX6_forecast (wsV RX6 116 RX6 yX6_passes wsX6_passes) := goodIn_app (goodIn_of _ (by decide +kernel)) ggX6_forecast_X6_passes
set_option maxRecDepth 20000 in
theorem ggX6_forecast_X6_allIce : GoodIn wsX6_forecast wsX6_allIce := goodIn_r _ [85, 31, 32, 33, 8, 34, 1, 86, 87, 88, 89, 90, 91, 92, 93, 94, 95, 96, 97, 98, 99, 100, 101] (by decide +kernel) (by decide +kernel)
set_option maxRecDepth 20000 in
theorem gX6_forecast_X6_allIce : GoodIn wsX6_forecast (wsV RX6 123 RX6 yX6_allIce wsX6_allIce) := goodIn_app (goodIn_of _ (by decide +kernel)) ggX6_forecast_X6_allIce
theorem dX6_forecast_0 : decode cX6_forecast 0 = .ok (.iload_n 1, 1) := by decide +kernel
theorem dX6_forecast_1 : decode cX6_forecast 1 = .ok (.iconst 1, 1) := by decide +kernel
theorem dX6_forecast_2 : decode cX6_forecast 2 = .ok (.bipush 20, 2) := by decide +kernel
theorem dX6_forecast_4 : decode cX6_forecast 4 = .ok (.invokestatic 45, 3) := by decide +kernel
theorem dX6_forecast_7 : decode cX6_forecast 7 = .ok (.istore_n 2, 1) := by decide +kernel
theorem dX6_forecast_8 : decode cX6_forecast 8 = .ok (.aload_n 0, 1) := by decide +kernel
theorem dX6_forecast_9 : decode cX6_forecast 9 = .ok (.iload_n 2, 1) := by decide +kernel
theorem dX6_forecast_10 : decode cX6_forecast 10 = .ok (.iload_n 2, 1) := by decide +kernel
theorem dX6_forecast_11 : decode cX6_forecast 11 = .ok (.ifCond .eq 30, 3) := by decide +kernel
theorem dX6_forecast_14 : decode cX6_forecast 14 = .ok (.aload_n 0, 1) := by decide +kernel
theorem dX6_forecast_15 : decode cX6_forecast 15 = .ok (.getfield 7, 3) := by decide +kernel
theorem dX6_forecast_18 : decode cX6_forecast 18 = .ok (.bipush 89, 2) := by decide +kernel
theorem dX6_forecast_20 : decode cX6_forecast 20 = .ok (.iaload, 1) := by decide +kernel
theorem dX6_forecast_21 : decode cX6_forecast 21 = .ok (.iload_n 1, 1) := by decide +kernel
theorem dX6_forecast_22 : decode cX6_forecast 22 = .ok (.iadd, 1) := by decide +kernel
theorem dX6_forecast_23 : decode cX6_forecast 23 = .ok (.bipush 60, 2) := by decide +kernel
theorem dX6_forecast_25 : decode cX6_forecast 25 = .ok (.if_icmp .gt 16, 3) := by decide +kernel
theorem dX6_forecast_28 : decode cX6_forecast 28 = .ok (.aload_n 0, 1) := by decide +kernel
theorem dX6_forecast_29 : decode cX6_forecast 29 = .ok (.getfield 120, 3) := by decide +kernel
theorem dX6_forecast_32 : decode cX6_forecast 32 = .ok (.bipush 10, 2) := by decide +kernel
theorem dX6_forecast_34 : decode cX6_forecast 34 = .ok (.if_icmp .ge 7, 3) := by decide +kernel
theorem dX6_forecast_37 : decode cX6_forecast 37 = .ok (.iconst 1, 1) := by decide +kernel
theorem dX6_forecast_38 : decode cX6_forecast 38 = .ok (.goto 4, 3) := by decide +kernel
theorem dX6_forecast_41 : decode cX6_forecast 41 = .ok (.iconst 0, 1) := by decide +kernel
theorem dX6_forecast_42 : decode cX6_forecast 42 = .ok (.invokevirtual 113, 3) := by decide +kernel
theorem dX6_forecast_45 : decode cX6_forecast 45 = .ok (.ifCond .ne 5, 3) := by decide +kernel
theorem dX6_forecast_48 : decode cX6_forecast 48 = .ok (.iconst 0, 1) := by decide +kernel
theorem dX6_forecast_49 : decode cX6_forecast 49 = .ok (.ireturn, 1) := by decide +kernel
theorem dX6_forecast_50 : decode cX6_forecast 50 = .ok (.aload_n 0, 1) := by decide +kernel
theorem dX6_forecast_51 : decode cX6_forecast 51 = .ok (.getfield 29, 3) := by decide +kernel
theorem dX6_forecast_54 : decode cX6_forecast 54 = .ok (.aload_n 0, 1) := by decide +kernel
theorem dX6_forecast_55 : decode cX6_forecast 55 = .ok (.getfield 120, 3) := by decide +kernel
theorem dX6_forecast_58 : decode cX6_forecast 58 = .ok (.aload_n 0, 1) := by decide +kernel
theorem dX6_forecast_59 : decode cX6_forecast 59 = .ok (.getfield 7, 3) := by decide +kernel
theorem dX6_forecast_62 : decode cX6_forecast 62 = .ok (.bipush 89, 2) := by decide +kernel
theorem dX6_forecast_64 : decode cX6_forecast 64 = .ok (.iaload, 1) := by decide +kernel
theorem dX6_forecast_65 : decode cX6_forecast 65 = .ok (.iload_n 1, 1) := by decide +kernel
theorem dX6_forecast_66 : decode cX6_forecast 66 = .ok (.iadd, 1) := by decide +kernel
theorem dX6_forecast_67 : decode cX6_forecast 67 = .ok (.iastore, 1) := by decide +kernel
theorem dX6_forecast_68 : decode cX6_forecast 68 = .ok (.aload_n 0, 1) := by decide +kernel
theorem dX6_forecast_69 : decode cX6_forecast 69 = .ok (.iconst 0, 1) := by decide +kernel
theorem dX6_forecast_70 : decode cX6_forecast 70 = .ok (.invokevirtual 130, 3) := by decide +kernel
theorem dX6_forecast_73 : decode cX6_forecast 73 = .ok (.aload_n 0, 1) := by decide +kernel
theorem dX6_forecast_74 : decode cX6_forecast 74 = .ok (.iload_n 1, 1) := by decide +kernel
theorem dX6_forecast_75 : decode cX6_forecast 75 = .ok (.invokevirtual 116, 3) := by decide +kernel
theorem dX6_forecast_78 : decode cX6_forecast 78 = .ok (.aload_n 0, 1) := by decide +kernel
theorem dX6_forecast_79 : decode cX6_forecast 79 = .ok (.getfield 32, 3) := by decide +kernel
theorem dX6_forecast_82 : decode cX6_forecast 82 = .ok (.aload_n 0, 1) := by decide +kernel
theorem dX6_forecast_83 : decode cX6_forecast 83 = .ok (.getfield 120, 3) := by decide +kernel
theorem dX6_forecast_86 : decode cX6_forecast 86 = .ok (.aload_n 0, 1) := by decide +kernel
theorem dX6_forecast_87 : decode cX6_forecast 87 = .ok (.invokevirtual 123, 3) := by decide +kernel
theorem dX6_forecast_90 : decode cX6_forecast 90 = .ok (.iastore, 1) := by decide +kernel
theorem dX6_forecast_91 : decode cX6_forecast 91 = .ok (.aload_n 0, 1) := by decide +kernel
theorem dX6_forecast_92 : decode cX6_forecast 92 = .ok (.iconst 1, 1) := by decide +kernel
theorem dX6_forecast_93 : decode cX6_forecast 93 = .ok (.invokevirtual 130, 3) := by decide +kernel
theorem dX6_forecast_96 : decode cX6_forecast 96 = .ok (.aload_n 0, 1) := by decide +kernel
theorem dX6_forecast_97 : decode cX6_forecast 97 = .ok (.getfield 35, 3) := by decide +kernel
theorem dX6_forecast_100 : decode cX6_forecast 100 = .ok (.aload_n 0, 1) := by decide +kernel
theorem dX6_forecast_101 : decode cX6_forecast 101 = .ok (.getfield 120, 3) := by decide +kernel
theorem dX6_forecast_104 : decode cX6_forecast 104 = .ok (.iconst (-1), 1) := by decide +kernel
theorem dX6_forecast_105 : decode cX6_forecast 105 = .ok (.iastore, 1) := by decide +kernel
theorem dX6_forecast_106 : decode cX6_forecast 106 = .ok (.aload_n 0, 1) := by decide +kernel
theorem dX6_forecast_107 : decode cX6_forecast 107 = .ok (.dup, 1) := by decide +kernel
theorem dX6_forecast_108 : decode cX6_forecast 108 = .ok (.getfield 120, 3) := by decide +kernel
theorem dX6_forecast_111 : decode cX6_forecast 111 = .ok (.iconst 1, 1) := by decide +kernel
theorem dX6_forecast_112 : decode cX6_forecast 112 = .ok (.iadd, 1) := by decide +kernel
theorem dX6_forecast_113 : decode cX6_forecast 113 = .ok (.putfield 120, 3) := by decide +kernel
theorem dX6_forecast_116 : decode cX6_forecast 116 = .ok (.aload_n 0, 1) := by decide +kernel
theorem dX6_forecast_117 : decode cX6_forecast 117 = .ok (.getfield 32, 3) := by decide +kernel
theorem dX6_forecast_120 : decode cX6_forecast 120 = .ok (.aload_n 0, 1) := by decide +kernel
theorem dX6_forecast_121 : decode cX6_forecast 121 = .ok (.getfield 120, 3) := by decide +kernel
theorem dX6_forecast_124 : decode cX6_forecast 124 = .ok (.iconst 1, 1) := by decide +kernel
theorem dX6_forecast_125 : decode cX6_forecast 125 = .ok (.isub, 1) := by decide +kernel
theorem dX6_forecast_126 : decode cX6_forecast 126 = .ok (.iaload, 1) := by decide +kernel
theorem dX6_forecast_127 : decode cX6_forecast 127 = .ok (.ireturn, 1) := by decide +kernel
set_option maxRecDepth 20000 in
theorem ggX6_miss_X6_in : GoodIn wsX6_miss wsX6_in := goodIn_r _ [6] (by decide +kernel) (by decide +kernel)
set_option maxRecDepth 20000 in
theorem gX6_miss_X6_in : GoodIn wsX6_miss (va_wsS RX6 45 yX6_in wsX6_in) := goodIn_app (goodIn_of _ (by decide +kernel)) ggX6_miss_X6_in
set_option maxRecDepth 20000 in
theorem ggX6_miss_X6_asked : GoodIn wsX6_miss wsX6_asked := goodIn_r _ [10, 11, 12, 13, 14, 15, 16, 17, 18, 19, 20, 21, 22, 23, 24, 25, 26, 27] (by decide +kernel) (by decide +kernel)
set_option maxRecDepth 20000 in
theorem gX6_miss_X6_asked : GoodIn wsX6_miss (wsV RX6 64 RX6 yX6_asked wsX6_asked) := goodIn_app (goodIn_of _ (by decide +kernel)) ggX6_miss_X6_asked
theorem dX6_miss_0 : decode cX6_miss 0 = .ok (.aload_n 0, 1) := by decide +kernel
theorem dX6_miss_1 : decode cX6_miss 1 = .ok (.iload_n 1, 1) := by decide +kernel
theorem dX6_miss_2 : decode cX6_miss 2 = .ok (.iconst 0, 1) := by decide +kernel
theorem dX6_miss_3 : decode cX6_miss 3 = .ok (.aload_n 0, 1) := by decide +kernel
theorem dX6_miss_4 : decode cX6_miss 4 = .ok (.getfield 120, 3) := by decide +kernel
theorem dX6_miss_7 : decode cX6_miss 7 = .ok (.iconst 1, 1) := by decide +kernel
theorem dX6_miss_8 : decode cX6_miss 8 = .ok (.isub, 1) := by decide +kernel
theorem dX6_miss_9 : decode cX6_miss 9 = .ok (.invokestatic 45, 3) := by decide +kernel
theorem dX6_miss_12 : decode cX6_miss 12 = .ok (.invokevirtual 64, 3) := by decide +kernel
theorem dX6_miss_15 : decode cX6_miss 15 = .ok (.ifCond .eq 12, 3) := by decide +kernel
theorem dX6_miss_18 : decode cX6_miss 18 = .ok (.aload_n 0, 1) := by decide +kernel
theorem dX6_miss_19 : decode cX6_miss 19 = .ok (.getfield 35, 3) := by decide +kernel
theorem dX6_miss_22 : decode cX6_miss 22 = .ok (.iload_n 1, 1) := by decide +kernel
theorem dX6_miss_23 : decode cX6_miss 23 = .ok (.iaload, 1) := by decide +kernel
theorem dX6_miss_24 : decode cX6_miss 24 = .ok (.goto 4, 3) := by decide +kernel
theorem dX6_miss_27 : decode cX6_miss 27 = .ok (.iconst 0, 1) := by decide +kernel
theorem dX6_miss_28 : decode cX6_miss 28 = .ok (.ireturn, 1) := by decide +kernel
theorem dJ9_floorDiv_7cf53_0 : decode cJ9_floorDiv_7cf53 0 = .ok (.iload_n 0, 1) := by decide +kernel
theorem dJ9_floorDiv_7cf53_1 : decode cJ9_floorDiv_7cf53 1 = .ok (.iload_n 1, 1) := by decide +kernel
theorem dJ9_floorDiv_7cf53_2 : decode cJ9_floorDiv_7cf53 2 = .ok (.idiv, 1) := by decide +kernel
theorem dJ9_floorDiv_7cf53_3 : decode cJ9_floorDiv_7cf53 3 = .ok (.istore_n 2, 1) := by decide +kernel
theorem dJ9_floorDiv_7cf53_4 : decode cJ9_floorDiv_7cf53 4 = .ok (.iload_n 0, 1) := by decide +kernel
theorem dJ9_floorDiv_7cf53_5 : decode cJ9_floorDiv_7cf53 5 = .ok (.iload_n 1, 1) := by decide +kernel
theorem dJ9_floorDiv_7cf53_6 : decode cJ9_floorDiv_7cf53 6 = .ok (.ixor, 1) := by decide +kernel
theorem dJ9_floorDiv_7cf53_7 : decode cJ9_floorDiv_7cf53 7 = .ok (.ifCond .ge 14, 3) := by decide +kernel
theorem dJ9_floorDiv_7cf53_10 : decode cJ9_floorDiv_7cf53 10 = .ok (.iload_n 2, 1) := by decide +kernel
theorem dJ9_floorDiv_7cf53_11 : decode cJ9_floorDiv_7cf53 11 = .ok (.iload_n 1, 1) := by decide +kernel
theorem dJ9_floorDiv_7cf53_12 : decode cJ9_floorDiv_7cf53 12 = .ok (.imul, 1) := by decide +kernel
theorem dJ9_floorDiv_7cf53_13 : decode cJ9_floorDiv_7cf53 13 = .ok (.iload_n 0, 1) := by decide +kernel
theorem dJ9_floorDiv_7cf53_14 : decode cJ9_floorDiv_7cf53 14 = .ok (.if_icmp .eq 7, 3) := by decide +kernel
theorem dJ9_floorDiv_7cf53_17 : decode cJ9_floorDiv_7cf53 17 = .ok (.iload_n 2, 1) := by decide +kernel
theorem dJ9_floorDiv_7cf53_18 : decode cJ9_floorDiv_7cf53 18 = .ok (.iconst 1, 1) := by decide +kernel
theorem dJ9_floorDiv_7cf53_19 : decode cJ9_floorDiv_7cf53 19 = .ok (.isub, 1) := by decide +kernel
theorem dJ9_floorDiv_7cf53_20 : decode cJ9_floorDiv_7cf53 20 = .ok (.ireturn, 1) := by decide +kernel
theorem dJ9_floorDiv_7cf53_21 : decode cJ9_floorDiv_7cf53 21 = .ok (.iload_n 2, 1) := by decide +kernel
theorem dJ9_floorDiv_7cf53_22 : decode cJ9_floorDiv_7cf53 22 = .ok (.ireturn, 1) := by decide +kernel
theorem dJ9_floorDiv_f86c9_0 : decode cJ9_floorDiv_f86c9 0 = .ok (.lload_n 0, 1) := by decide +kernel
theorem dJ9_floorDiv_f86c9_1 : decode cJ9_floorDiv_f86c9 1 = .ok (.lload_n 2, 1) := by decide +kernel
theorem dJ9_floorDiv_f86c9_2 : decode cJ9_floorDiv_f86c9 2 = .ok (.ldiv, 1) := by decide +kernel
theorem dJ9_floorDiv_f86c9_3 : decode cJ9_floorDiv_f86c9 3 = .ok (.lstore 4, 2) := by decide +kernel
theorem dJ9_floorDiv_f86c9_5 : decode cJ9_floorDiv_f86c9 5 = .ok (.lload_n 0, 1) := by decide +kernel
theorem dJ9_floorDiv_f86c9_6 : decode cJ9_floorDiv_f86c9 6 = .ok (.lload_n 2, 1) := by decide +kernel
theorem dJ9_floorDiv_f86c9_7 : decode cJ9_floorDiv_f86c9 7 = .ok (.lxor, 1) := by decide +kernel
theorem dJ9_floorDiv_f86c9_8 : decode cJ9_floorDiv_f86c9 8 = .ok (.lconst 0, 1) := by decide +kernel
theorem dJ9_floorDiv_f86c9_9 : decode cJ9_floorDiv_f86c9 9 = .ok (.lcmp, 1) := by decide +kernel
theorem dJ9_floorDiv_f86c9_10 : decode cJ9_floorDiv_f86c9 10 = .ok (.ifCond .ge 17, 3) := by decide +kernel
theorem dJ9_floorDiv_f86c9_13 : decode cJ9_floorDiv_f86c9 13 = .ok (.lload 4, 2) := by decide +kernel
theorem dJ9_floorDiv_f86c9_15 : decode cJ9_floorDiv_f86c9 15 = .ok (.lload_n 2, 1) := by decide +kernel
theorem dJ9_floorDiv_f86c9_16 : decode cJ9_floorDiv_f86c9 16 = .ok (.lmul, 1) := by decide +kernel
theorem dJ9_floorDiv_f86c9_17 : decode cJ9_floorDiv_f86c9 17 = .ok (.lload_n 0, 1) := by decide +kernel
theorem dJ9_floorDiv_f86c9_18 : decode cJ9_floorDiv_f86c9 18 = .ok (.lcmp, 1) := by decide +kernel
theorem dJ9_floorDiv_f86c9_19 : decode cJ9_floorDiv_f86c9 19 = .ok (.ifCond .eq 8, 3) := by decide +kernel
theorem dJ9_floorDiv_f86c9_22 : decode cJ9_floorDiv_f86c9 22 = .ok (.lload 4, 2) := by decide +kernel
theorem dJ9_floorDiv_f86c9_24 : decode cJ9_floorDiv_f86c9 24 = .ok (.lconst 1, 1) := by decide +kernel
theorem dJ9_floorDiv_f86c9_25 : decode cJ9_floorDiv_f86c9 25 = .ok (.lsub, 1) := by decide +kernel
theorem dJ9_floorDiv_f86c9_26 : decode cJ9_floorDiv_f86c9 26 = .ok (.lreturn, 1) := by decide +kernel
theorem dJ9_floorDiv_f86c9_27 : decode cJ9_floorDiv_f86c9 27 = .ok (.lload 4, 2) := by decide +kernel
theorem dJ9_floorDiv_f86c9_29 : decode cJ9_floorDiv_f86c9 29 = .ok (.lreturn, 1) := by decide +kernel
theorem dJ9_abs_0f7a4_0 : decode cJ9_abs_0f7a4 0 = .ok (.iload_n 0, 1) := by decide +kernel
theorem dJ9_abs_0f7a4_1 : decode cJ9_abs_0f7a4 1 = .ok (.ifCond .ge 8, 3) := by decide +kernel
theorem dJ9_abs_0f7a4_4 : decode cJ9_abs_0f7a4 4 = .ok (.iload_n 0, 1) := by decide +kernel
theorem dJ9_abs_0f7a4_5 : decode cJ9_abs_0f7a4 5 = .ok (.ineg, 1) := by decide +kernel
theorem dJ9_abs_0f7a4_6 : decode cJ9_abs_0f7a4 6 = .ok (.goto 4, 3) := by decide +kernel
theorem dJ9_abs_0f7a4_9 : decode cJ9_abs_0f7a4 9 = .ok (.iload_n 0, 1) := by decide +kernel
theorem dJ9_abs_0f7a4_10 : decode cJ9_abs_0f7a4 10 = .ok (.ireturn, 1) := by decide +kernel
theorem dJ9_min_7cf53_0 : decode cJ9_min_7cf53 0 = .ok (.iload_n 0, 1) := by decide +kernel
theorem dJ9_min_7cf53_1 : decode cJ9_min_7cf53 1 = .ok (.iload_n 1, 1) := by decide +kernel
theorem dJ9_min_7cf53_2 : decode cJ9_min_7cf53 2 = .ok (.if_icmp .gt 7, 3) := by decide +kernel
theorem dJ9_min_7cf53_5 : decode cJ9_min_7cf53 5 = .ok (.iload_n 0, 1) := by decide +kernel
theorem dJ9_min_7cf53_6 : decode cJ9_min_7cf53 6 = .ok (.goto 4, 3) := by decide +kernel
theorem dJ9_min_7cf53_9 : decode cJ9_min_7cf53 9 = .ok (.iload_n 1, 1) := by decide +kernel
theorem dJ9_min_7cf53_10 : decode cJ9_min_7cf53 10 = .ok (.ireturn, 1) := by decide +kernel
theorem dJ9_min_f86c9_0 : decode cJ9_min_f86c9 0 = .ok (.lload_n 0, 1) := by decide +kernel
theorem dJ9_min_f86c9_1 : decode cJ9_min_f86c9 1 = .ok (.lload_n 2, 1) := by decide +kernel
theorem dJ9_min_f86c9_2 : decode cJ9_min_f86c9 2 = .ok (.lcmp, 1) := by decide +kernel
theorem dJ9_min_f86c9_3 : decode cJ9_min_f86c9 3 = .ok (.ifCond .gt 7, 3) := by decide +kernel
theorem dJ9_min_f86c9_6 : decode cJ9_min_f86c9 6 = .ok (.lload_n 0, 1) := by decide +kernel
theorem dJ9_min_f86c9_7 : decode cJ9_min_f86c9 7 = .ok (.goto 4, 3) := by decide +kernel
theorem dJ9_min_f86c9_10 : decode cJ9_min_f86c9 10 = .ok (.lload_n 2, 1) := by decide +kernel
theorem dJ9_min_f86c9_11 : decode cJ9_min_f86c9 11 = .ok (.lreturn, 1) := by decide +kernel
set_option maxRecDepth 20000 in
theorem ggL_land_X5_land : GoodIn wsL_land wsX5_land := goodIn_ca (goodIn_ca (goodIn_ca (goodIn_r _ [8, 9, 10, 11, 12, 13, 14, 15, 16, 17, 18, 7, 19, 20, 21, 22, 23, 24, 25, 26, 27, 28, 29, 30, 31, 32, 33, 34, 35, 36, 37, 38, 39, 40, 41, 42, 43, 44, 45, 46, 47, 48] (by decide +kernel) (by decide +kernel)) (goodIn_sub (fun _ h => List.mem_cons_of_mem _ (List.mem_append_left _ (List.mem_append_left _ (List.mem_append_right _ h)))) (by decide +kernel))) (goodIn_sub (fun _ h => List.mem_cons_of_mem _ (List.mem_append_left _ (List.mem_append_right _ h))) (by decide +kernel))) (goodIn_sub (fun _ h => List.mem_cons_of_mem _ (List.mem_append_right _ h)) (by decide +kernel))
set_option maxRecDepth 20000 in
theorem gL_land_X5_land : GoodIn wsL_land (wsV RL 7 RX5 yX5_land wsX5_land) := goodIn_app (goodIn_of _ (by decide +kernel)) ggL_land_X5_land
theorem dL_land_0 : decode cL_land 0 = .ok (.aload_n 3, 1) := by decide +kernel
theorem dL_land_1 : decode cL_land 1 = .ok (.iconst 0, 1) := by decide +kernel
theorem dL_land_2 : decode cL_land 2 = .ok (.aload_n 0, 1) := by decide +kernel
theorem dL_land_3 : decode cL_land 3 = .ok (.iload_n 1, 1) := by decide +kernel
theorem dL_land_4 : decode cL_land 4 = .ok (.iload_n 2, 1) := by decide +kernel
theorem dL_land_5 : decode cL_land 5 = .ok (.invokevirtual 7, 3) := by decide +kernel
theorem dL_land_8 : decode cL_land 8 = .ok (.i2l, 1) := by decide +kernel
theorem dL_land_9 : decode cL_land 9 = .ok (.lastore, 1) := by decide +kernel
theorem dL_land_10 : decode cL_land 10 = .ok (.goto 15, 3) := by decide +kernel
theorem dL_land_13 : decode cL_land 13 = .ok (.astore 4, 2) := by decide +kernel
theorem dL_land_15 : decode cL_land 15 = .ok (.iconst 1, 1) := by decide +kernel
theorem dL_land_16 : decode cL_land 16 = .ok (.ireturn, 1) := by decide +kernel
theorem dL_land_17 : decode cL_land 17 = .ok (.astore 4, 2) := by decide +kernel
theorem dL_land_19 : decode cL_land 19 = .ok (.iconst 2, 1) := by decide +kernel
theorem dL_land_20 : decode cL_land 20 = .ok (.ireturn, 1) := by decide +kernel
theorem dL_land_21 : decode cL_land 21 = .ok (.astore 4, 2) := by decide +kernel
theorem dL_land_23 : decode cL_land 23 = .ok (.iconst 3, 1) := by decide +kernel
theorem dL_land_24 : decode cL_land 24 = .ok (.ireturn, 1) := by decide +kernel
theorem dL_land_25 : decode cL_land 25 = .ok (.iconst 0, 1) := by decide +kernel
theorem dL_land_26 : decode cL_land 26 = .ok (.ireturn, 1) := by decide +kernel
set_option maxRecDepth 20000 in
theorem ggL_sea_X5_sea : GoodIn wsL_sea wsX5_sea := goodIn_ca (goodIn_r _ [6, 7, 8, 9, 10, 5, 11, 12, 13, 14, 15, 16, 17, 18, 19, 20, 21, 22, 23, 24, 25, 26, 27, 28, 29, 30, 31, 32, 33] (by decide +kernel) (by decide +kernel)) (goodIn_sub (fun _ h => List.mem_cons_of_mem _ (List.mem_append_right _ h)) (by decide +kernel))
set_option maxRecDepth 20000 in
theorem gL_sea_X5_sea : GoodIn wsL_sea (wsV RL 19 RX5 yX5_sea wsX5_sea) := goodIn_app (goodIn_of _ (by decide +kernel)) ggL_sea_X5_sea
theorem dL_sea_0 : decode cL_sea 0 = .ok (.aload_n 2, 1) := by decide +kernel
theorem dL_sea_1 : decode cL_sea 1 = .ok (.iconst 0, 1) := by decide +kernel
theorem dL_sea_2 : decode cL_sea 2 = .ok (.aload_n 0, 1) := by decide +kernel
theorem dL_sea_3 : decode cL_sea 3 = .ok (.iload_n 1, 1) := by decide +kernel
theorem dL_sea_4 : decode cL_sea 4 = .ok (.invokevirtual 19, 3) := by decide +kernel
theorem dL_sea_7 : decode cL_sea 7 = .ok (.i2l, 1) := by decide +kernel
theorem dL_sea_8 : decode cL_sea 8 = .ok (.lastore, 1) := by decide +kernel
theorem dL_sea_9 : decode cL_sea 9 = .ok (.goto 6, 3) := by decide +kernel
theorem dL_sea_12 : decode cL_sea 12 = .ok (.astore_n 3, 1) := by decide +kernel
theorem dL_sea_13 : decode cL_sea 13 = .ok (.iconst 1, 1) := by decide +kernel
theorem dL_sea_14 : decode cL_sea 14 = .ok (.ireturn, 1) := by decide +kernel
theorem dL_sea_15 : decode cL_sea 15 = .ok (.iconst 0, 1) := by decide +kernel
theorem dL_sea_16 : decode cL_sea 16 = .ok (.ireturn, 1) := by decide +kernel
set_option maxRecDepth 20000 in
theorem ggL_climate_X5_climate : GoodIn wsL_climate wsX5_climate := goodIn_ca (goodIn_r _ [6, 7, 8, 9, 10, 11, 12, 5, 13, 14, 15, 16, 17, 18, 19, 20, 21, 22, 23, 24, 25, 26, 27, 28, 29, 30, 31, 32, 33, 34, 35] (by decide +kernel) (by decide +kernel)) (goodIn_sub (fun _ h => List.mem_cons_of_mem _ (List.mem_append_right _ h)) (by decide +kernel))
set_option maxRecDepth 20000 in
theorem gL_climate_X5_climate : GoodIn wsL_climate (wsV RL 23 RX5 yX5_climate wsX5_climate) := goodIn_app (goodIn_of _ (by decide +kernel)) ggL_climate_X5_climate
theorem dL_climate_0 : decode cL_climate 0 = .ok (.aload_n 0, 1) := by decide +kernel
theorem dL_climate_1 : decode cL_climate 1 = .ok (.iload_n 1, 1) := by decide +kernel
theorem dL_climate_2 : decode cL_climate 2 = .ok (.iload_n 2, 1) := by decide +kernel
theorem dL_climate_3 : decode cL_climate 3 = .ok (.iload_n 3, 1) := by decide +kernel
theorem dL_climate_4 : decode cL_climate 4 = .ok (.invokevirtual 23, 3) := by decide +kernel
theorem dL_climate_7 : decode cL_climate 7 = .ok (.goto 7, 3) := by decide +kernel
theorem dL_climate_10 : decode cL_climate 10 = .ok (.astore 4, 2) := by decide +kernel
theorem dL_climate_12 : decode cL_climate 12 = .ok (.iconst 1, 1) := by decide +kernel
theorem dL_climate_13 : decode cL_climate 13 = .ok (.ireturn, 1) := by decide +kernel
theorem dL_climate_14 : decode cL_climate 14 = .ok (.iconst 0, 1) := by decide +kernel
theorem dL_climate_15 : decode cL_climate 15 = .ok (.ireturn, 1) := by decide +kernel
set_option maxRecDepth 20000 in
theorem ggL_ice_X5_ice : GoodIn wsL_ice wsX5_ice := goodIn_ca (goodIn_ca (goodIn_ca (goodIn_r _ [8, 9, 10, 11, 12, 13, 14, 15, 16, 17, 18, 7, 19, 20, 21, 22, 23, 24, 25, 26, 27, 28, 29, 30, 31, 32, 33, 34, 35, 36, 37, 38, 39, 40, 41, 42, 43, 44, 45, 46, 47, 48, 49, 50, 51, 52, 53, 54, 55, 56, 57, 58, 59, 60] (by decide +kernel) (by decide +kernel)) (goodIn_sub (fun _ h => List.mem_cons_of_mem _ (List.mem_append_left _ (List.mem_append_left _ (List.mem_append_right _ h)))) (by decide +kernel))) (goodIn_sub (fun _ h => List.mem_cons_of_mem _ (List.mem_append_left _ (List.mem_append_right _ h))) (by decide +kernel))) (goodIn_sub (fun _ h => List.mem_cons_of_mem _ (List.mem_append_right _ h)) (by decide +kernel))
set_option maxRecDepth 20000 in
theorem gL_ice_X5_ice : GoodIn wsL_ice (wsV RL 27 RX5 yX5_ice wsX5_ice) := goodIn_app (goodIn_of _ (by decide +kernel)) ggL_ice_X5_ice
theorem dL_ice_0 : decode cL_ice 0 = .ok (.aload_n 3, 1) := by decide +kernel
theorem dL_ice_1 : decode cL_ice 1 = .ok (.iconst 0, 1) := by decide +kernel
theorem dL_ice_2 : decode cL_ice 2 = .ok (.aload_n 0, 1) := by decide +kernel
theorem dL_ice_3 : decode cL_ice 3 = .ok (.iload_n 1, 1) := by decide +kernel
theorem dL_ice_4 : decode cL_ice 4 = .ok (.iload_n 2, 1) := by decide +kernel
theorem dL_ice_5 : decode cL_ice 5 = .ok (.invokevirtual 27, 3) := by decide +kernel
theorem dL_ice_8 : decode cL_ice 8 = .ok (.i2l, 1) := by decide +kernel
theorem dL_ice_9 : decode cL_ice 9 = .ok (.lastore, 1) := by decide +kernel
theorem dL_ice_10 : decode cL_ice 10 = .ok (.goto 15, 3) := by decide +kernel
theorem dL_ice_13 : decode cL_ice 13 = .ok (.astore 4, 2) := by decide +kernel
theorem dL_ice_15 : decode cL_ice 15 = .ok (.iconst 1, 1) := by decide +kernel
theorem dL_ice_16 : decode cL_ice 16 = .ok (.ireturn, 1) := by decide +kernel
theorem dL_ice_17 : decode cL_ice 17 = .ok (.astore 4, 2) := by decide +kernel
theorem dL_ice_19 : decode cL_ice 19 = .ok (.iconst 2, 1) := by decide +kernel
theorem dL_ice_20 : decode cL_ice 20 = .ok (.ireturn, 1) := by decide +kernel
theorem dL_ice_21 : decode cL_ice 21 = .ok (.astore 4, 2) := by decide +kernel
theorem dL_ice_23 : decode cL_ice 23 = .ok (.iconst 3, 1) := by decide +kernel
theorem dL_ice_24 : decode cL_ice 24 = .ok (.ireturn, 1) := by decide +kernel
theorem dL_ice_25 : decode cL_ice 25 = .ok (.iconst 0, 1) := by decide +kernel
theorem dL_ice_26 : decode cL_ice 26 = .ok (.ireturn, 1) := by decide +kernel
set_option maxRecDepth 20000 in
theorem ggL_pass_X5_pass : GoodIn wsL_pass wsX5_pass := goodIn_ca (goodIn_ca (goodIn_r _ [7, 8, 9, 10, 11, 12, 6, 13, 14, 15, 16, 17, 18, 19, 20, 21, 22, 23, 24, 25, 26, 27, 28, 29, 30, 31, 32, 33, 34, 35, 36, 37, 38, 39, 40, 41, 42, 43, 44, 45, 46, 47, 48, 49, 50, 51, 52, 53, 54, 55, 56, 57, 58, 59, 60, 61, 62, 63, 64, 65, 66, 67, 68, 69, 70, 71, 72, 73, 74, 75, 76, 77, 78, 79, 80, 81, 82, 83, 84, 85, 86, 87, 88, 89, 90, 91, 92, 93, 94, 95, 96, 97, 98, 99, 100, 101, 102, 103, 104, 105, 106, 107, 108, 109, 110, 111, 112, 113, 114, 115, 116, 117, 118, 119, 120, 121, 122, 123, 124, 125, 126, 127, 128, 129, 130, 131, 132, 133, 134, 135, 136, 137, 138, 139, 140, 141, 142, 143, 144, 145, 146, 147, 148, 149, 150, 151, 152, 153, 154, 155, 156, 157, 158, 159, 160, 161, 162, 163, 164, 165, 166, 167, 168, 169, 170, 171, 172, 173, 174, 175, 176, 177, 178, 179, 180, 181, 182, 183, 184, 185, 186, 187, 188, 189] (by decide +kernel) (by decide +kernel)) (goodIn_sub (fun _ h => List.mem_cons_of_mem _ (List.mem_append_left _ (List.mem_append_right _ h))) (by decide +kernel))) (goodIn_sub (fun _ h => List.mem_cons_of_mem _ (List.mem_append_right _ h)) (by decide +kernel))
set_option maxRecDepth 20000 in
theorem gL_pass_X5_pass : GoodIn wsL_pass (wsV RL 30 RX5 yX5_pass wsX5_pass) := goodIn_app (goodIn_of _ (by decide +kernel)) ggL_pass_X5_pass
theorem dL_pass_0 : decode cL_pass 0 = .ok (.aload_n 2, 1) := by decide +kernel
theorem dL_pass_1 : decode cL_pass 1 = .ok (.iconst 0, 1) := by decide +kernel
theorem dL_pass_2 : decode cL_pass 2 = .ok (.aload_n 0, 1) := by decide +kernel
theorem dL_pass_3 : decode cL_pass 3 = .ok (.iload_n 1, 1) := by decide +kernel
theorem dL_pass_4 : decode cL_pass 4 = .ok (.invokevirtual 30, 3) := by decide +kernel
theorem dL_pass_7 : decode cL_pass 7 = .ok (.i2l, 1) := by decide +kernel
theorem dL_pass_8 : decode cL_pass 8 = .ok (.lastore, 1) := by decide +kernel
theorem dL_pass_9 : decode cL_pass 9 = .ok (.goto 9, 3) := by decide +kernel
theorem dL_pass_12 : decode cL_pass 12 = .ok (.astore_n 3, 1) := by decide +kernel
theorem dL_pass_13 : decode cL_pass 13 = .ok (.iconst 1, 1) := by decide +kernel
theorem dL_pass_14 : decode cL_pass 14 = .ok (.ireturn, 1) := by decide +kernel
theorem dL_pass_15 : decode cL_pass 15 = .ok (.astore_n 3, 1) := by decide +kernel
theorem dL_pass_16 : decode cL_pass 16 = .ok (.iconst 2, 1) := by decide +kernel
theorem dL_pass_17 : decode cL_pass 17 = .ok (.ireturn, 1) := by decide +kernel
theorem dL_pass_18 : decode cL_pass 18 = .ok (.iconst 0, 1) := by decide +kernel
theorem dL_pass_19 : decode cL_pass 19 = .ok (.ireturn, 1) := by decide +kernel
set_option maxRecDepth 20000 in
theorem ggL_cellIs_X5_cellIs : GoodIn wsL_cellIs wsX5_cellIs := goodIn_ca (goodIn_ca (goodIn_r _ [7, 8, 9, 10, 6, 11, 12, 13, 14, 15, 16, 17, 18, 19, 20, 21, 22, 23, 24, 25, 26, 27, 28, 29, 30, 31, 32, 33, 34, 35, 36, 37, 38, 39, 40, 41, 42, 43, 44, 45, 46, 47, 48, 49, 50, 51, 52, 53, 54, 55, 56, 57, 58, 59, 60, 61, 62, 63, 64, 65, 66, 67, 68, 69, 70, 71, 72, 73, 74] (by decide +kernel) (by decide +kernel)) (goodIn_sub (fun _ h => List.mem_cons_of_mem _ (List.mem_append_left _ (List.mem_append_right _ h))) (by decide +kernel))) (goodIn_sub (fun _ h => List.mem_cons_of_mem _ (List.mem_append_right _ h)) (by decide +kernel))
set_option maxRecDepth 20000 in
theorem gL_cellIs_X5_cellIs : GoodIn wsL_cellIs (wsV RL 33 RX5 yX5_cellIs wsX5_cellIs) := goodIn_app (goodIn_of _ (by decide +kernel)) ggL_cellIs_X5_cellIs
theorem dL_cellIs_0 : decode cL_cellIs 0 = .ok (.aload_n 3, 1) := by decide +kernel
theorem dL_cellIs_1 : decode cL_cellIs 1 = .ok (.iconst 0, 1) := by decide +kernel
theorem dL_cellIs_2 : decode cL_cellIs 2 = .ok (.aload_n 0, 1) := by decide +kernel
theorem dL_cellIs_3 : decode cL_cellIs 3 = .ok (.iload_n 1, 1) := by decide +kernel
theorem dL_cellIs_4 : decode cL_cellIs 4 = .ok (.iload_n 2, 1) := by decide +kernel
theorem dL_cellIs_5 : decode cL_cellIs 5 = .ok (.invokevirtual 33, 3) := by decide +kernel
theorem dL_cellIs_8 : decode cL_cellIs 8 = .ok (.i2l, 1) := by decide +kernel
theorem dL_cellIs_9 : decode cL_cellIs 9 = .ok (.lastore, 1) := by decide +kernel
theorem dL_cellIs_10 : decode cL_cellIs 10 = .ok (.goto 11, 3) := by decide +kernel
theorem dL_cellIs_13 : decode cL_cellIs 13 = .ok (.astore 4, 2) := by decide +kernel
theorem dL_cellIs_15 : decode cL_cellIs 15 = .ok (.iconst 1, 1) := by decide +kernel
theorem dL_cellIs_16 : decode cL_cellIs 16 = .ok (.ireturn, 1) := by decide +kernel
theorem dL_cellIs_17 : decode cL_cellIs 17 = .ok (.astore 4, 2) := by decide +kernel
theorem dL_cellIs_19 : decode cL_cellIs 19 = .ok (.iconst 2, 1) := by decide +kernel
theorem dL_cellIs_20 : decode cL_cellIs 20 = .ok (.ireturn, 1) := by decide +kernel
theorem dL_cellIs_21 : decode cL_cellIs 21 = .ok (.iconst 0, 1) := by decide +kernel
theorem dL_cellIs_22 : decode cL_cellIs 22 = .ok (.ireturn, 1) := by decide +kernel
set_option maxRecDepth 20000 in
theorem ggL_layer_X5_layer : GoodIn wsL_layer wsX5_layer := goodIn_ca (goodIn_ca (goodIn_r _ [7, 8, 9, 10, 11, 6, 12, 13, 14, 15, 16, 17, 18, 19, 20, 21, 22, 23, 24, 25, 26, 27, 28, 29, 30, 31, 32, 33, 34, 35, 36, 37, 38, 39, 40, 41, 42, 43, 44, 45, 46, 47] (by decide +kernel) (by decide +kernel)) (goodIn_sub (fun _ h => List.mem_cons_of_mem _ (List.mem_append_left _ (List.mem_append_right _ h))) (by decide +kernel))) (goodIn_sub (fun _ h => List.mem_cons_of_mem _ (List.mem_append_right _ h)) (by decide +kernel))
set_option maxRecDepth 20000 in
theorem gL_layer_X5_layer : GoodIn wsL_layer (wsV RL 36 RX5 yX5_layer wsX5_layer) := goodIn_app (goodIn_of _ (by decide +kernel)) ggL_layer_X5_layer
theorem dL_layer_0 : decode cL_layer 0 = .ok (.aload_n 3, 1) := by decide +kernel
theorem dL_layer_1 : decode cL_layer 1 = .ok (.iconst 0, 1) := by decide +kernel
theorem dL_layer_2 : decode cL_layer 2 = .ok (.aload_n 0, 1) := by decide +kernel
theorem dL_layer_3 : decode cL_layer 3 = .ok (.iload_n 1, 1) := by decide +kernel
theorem dL_layer_4 : decode cL_layer 4 = .ok (.iload_n 2, 1) := by decide +kernel
theorem dL_layer_5 : decode cL_layer 5 = .ok (.invokevirtual 36, 3) := by decide +kernel
theorem dL_layer_8 : decode cL_layer 8 = .ok (.i2l, 1) := by decide +kernel
theorem dL_layer_9 : decode cL_layer 9 = .ok (.lastore, 1) := by decide +kernel
theorem dL_layer_10 : decode cL_layer 10 = .ok (.goto 11, 3) := by decide +kernel
theorem dL_layer_13 : decode cL_layer 13 = .ok (.astore 4, 2) := by decide +kernel
theorem dL_layer_15 : decode cL_layer 15 = .ok (.iconst 1, 1) := by decide +kernel
theorem dL_layer_16 : decode cL_layer 16 = .ok (.ireturn, 1) := by decide +kernel
theorem dL_layer_17 : decode cL_layer 17 = .ok (.astore 4, 2) := by decide +kernel
theorem dL_layer_19 : decode cL_layer 19 = .ok (.iconst 2, 1) := by decide +kernel
theorem dL_layer_20 : decode cL_layer 20 = .ok (.ireturn, 1) := by decide +kernel
theorem dL_layer_21 : decode cL_layer 21 = .ok (.iconst 0, 1) := by decide +kernel
theorem dL_layer_22 : decode cL_layer 22 = .ok (.ireturn, 1) := by decide +kernel
set_option maxRecDepth 20000 in
theorem ggL_yearAt_X5_yearAt : GoodIn wsL_yearAt wsX5_yearAt := goodIn_ca (goodIn_ca (goodIn_r _ [7, 8, 9, 10, 11, 12, 13, 6, 14, 15, 16, 17, 18, 19, 20, 21, 22, 23, 24, 25, 26, 27, 28, 29, 30, 31, 32, 33, 34, 35, 36, 37, 38, 39, 40, 41, 42, 43, 44, 45, 46, 47, 48] (by decide +kernel) (by decide +kernel)) (goodIn_sub (fun _ h => List.mem_cons_of_mem _ (List.mem_append_left _ (List.mem_append_right _ h))) (by decide +kernel))) (goodIn_sub (fun _ h => List.mem_cons_of_mem _ (List.mem_append_right _ h)) (by decide +kernel))
set_option maxRecDepth 20000 in
theorem gL_yearAt_X5_yearAt : GoodIn wsL_yearAt (wsV RL 39 RX5 yX5_yearAt wsX5_yearAt) := goodIn_app (goodIn_of _ (by decide +kernel)) ggL_yearAt_X5_yearAt
theorem dL_yearAt_0 : decode cL_yearAt 0 = .ok (.aload_n 3, 1) := by decide +kernel
theorem dL_yearAt_1 : decode cL_yearAt 1 = .ok (.iconst 0, 1) := by decide +kernel
theorem dL_yearAt_2 : decode cL_yearAt 2 = .ok (.aload_n 0, 1) := by decide +kernel
theorem dL_yearAt_3 : decode cL_yearAt 3 = .ok (.iload_n 1, 1) := by decide +kernel
theorem dL_yearAt_4 : decode cL_yearAt 4 = .ok (.iload_n 2, 1) := by decide +kernel
theorem dL_yearAt_5 : decode cL_yearAt 5 = .ok (.invokevirtual 39, 3) := by decide +kernel
theorem dL_yearAt_8 : decode cL_yearAt 8 = .ok (.i2l, 1) := by decide +kernel
theorem dL_yearAt_9 : decode cL_yearAt 9 = .ok (.lastore, 1) := by decide +kernel
theorem dL_yearAt_10 : decode cL_yearAt 10 = .ok (.goto 11, 3) := by decide +kernel
theorem dL_yearAt_13 : decode cL_yearAt 13 = .ok (.astore 4, 2) := by decide +kernel
theorem dL_yearAt_15 : decode cL_yearAt 15 = .ok (.iconst 1, 1) := by decide +kernel
theorem dL_yearAt_16 : decode cL_yearAt 16 = .ok (.ireturn, 1) := by decide +kernel
theorem dL_yearAt_17 : decode cL_yearAt 17 = .ok (.astore 4, 2) := by decide +kernel
theorem dL_yearAt_19 : decode cL_yearAt 19 = .ok (.iconst 2, 1) := by decide +kernel
theorem dL_yearAt_20 : decode cL_yearAt 20 = .ok (.ireturn, 1) := by decide +kernel
theorem dL_yearAt_21 : decode cL_yearAt 21 = .ok (.iconst 0, 1) := by decide +kernel
theorem dL_yearAt_22 : decode cL_yearAt 22 = .ok (.ireturn, 1) := by decide +kernel
set_option maxRecDepth 20000 in
theorem ggL_common_X5_common : GoodIn wsL_common wsX5_common := goodIn_ca (goodIn_r _ [6, 7, 8, 9, 10, 11, 12, 5, 13, 14, 15, 16, 17, 18, 19, 20, 21, 22, 23, 24, 25, 26, 27, 28, 29, 30, 31, 32, 33, 34, 35, 36, 37, 38, 39, 40, 41, 42, 43, 44, 45, 46, 47, 48, 49, 50] (by decide +kernel) (by decide +kernel)) (goodIn_sub (fun _ h => List.mem_cons_of_mem _ (List.mem_append_right _ h)) (by decide +kernel))
set_option maxRecDepth 20000 in
theorem gL_common_X5_common : GoodIn wsL_common (wsV RL 42 RX5 yX5_common wsX5_common) := goodIn_app (goodIn_of _ (by decide +kernel)) ggL_common_X5_common
theorem dL_common_0 : decode cL_common 0 = .ok (.aload_n 3, 1) := by decide +kernel
theorem dL_common_1 : decode cL_common 1 = .ok (.iconst 0, 1) := by decide +kernel
theorem dL_common_2 : decode cL_common 2 = .ok (.aload_n 0, 1) := by decide +kernel
theorem dL_common_3 : decode cL_common 3 = .ok (.iload_n 1, 1) := by decide +kernel
theorem dL_common_4 : decode cL_common 4 = .ok (.iload_n 2, 1) := by decide +kernel
theorem dL_common_5 : decode cL_common 5 = .ok (.invokevirtual 42, 3) := by decide +kernel
theorem dL_common_8 : decode cL_common 8 = .ok (.i2l, 1) := by decide +kernel
theorem dL_common_9 : decode cL_common 9 = .ok (.lastore, 1) := by decide +kernel
theorem dL_common_10 : decode cL_common 10 = .ok (.goto 7, 3) := by decide +kernel
theorem dL_common_13 : decode cL_common 13 = .ok (.astore 4, 2) := by decide +kernel
theorem dL_common_15 : decode cL_common 15 = .ok (.iconst 1, 1) := by decide +kernel
theorem dL_common_16 : decode cL_common 16 = .ok (.ireturn, 1) := by decide +kernel
theorem dL_common_17 : decode cL_common 17 = .ok (.iconst 0, 1) := by decide +kernel
theorem dL_common_18 : decode cL_common 18 = .ok (.ireturn, 1) := by decide +kernel
set_option maxRecDepth 20000 in
theorem ggL_flood_X5_flood : GoodIn wsL_flood wsX5_flood := goodIn_ca (goodIn_ca (goodIn_r _ [7, 8, 9, 10, 11, 12, 13, 14, 15, 16, 6, 17, 18, 19, 20, 21, 22, 23, 24, 25, 26, 27, 28, 29, 30] (by decide +kernel) (by decide +kernel)) (goodIn_sub (fun _ h => List.mem_cons_of_mem _ (List.mem_append_left _ (List.mem_append_right _ h))) (by decide +kernel))) (goodIn_sub (fun _ h => List.mem_cons_of_mem _ (List.mem_append_right _ h)) (by decide +kernel))
set_option maxRecDepth 20000 in
theorem gL_flood_X5_flood : GoodIn wsL_flood (wsV RL 45 RX5 yX5_flood wsX5_flood) := goodIn_app (goodIn_of _ (by decide +kernel)) ggL_flood_X5_flood
theorem dL_flood_0 : decode cL_flood 0 = .ok (.aload_n 3, 1) := by decide +kernel
theorem dL_flood_1 : decode cL_flood 1 = .ok (.iconst 0, 1) := by decide +kernel
theorem dL_flood_2 : decode cL_flood 2 = .ok (.aload_n 0, 1) := by decide +kernel
theorem dL_flood_3 : decode cL_flood 3 = .ok (.iload_n 1, 1) := by decide +kernel
theorem dL_flood_4 : decode cL_flood 4 = .ok (.iload_n 2, 1) := by decide +kernel
theorem dL_flood_5 : decode cL_flood 5 = .ok (.invokevirtual 45, 3) := by decide +kernel
theorem dL_flood_8 : decode cL_flood 8 = .ok (.i2l, 1) := by decide +kernel
theorem dL_flood_9 : decode cL_flood 9 = .ok (.lastore, 1) := by decide +kernel
theorem dL_flood_10 : decode cL_flood 10 = .ok (.goto 11, 3) := by decide +kernel
theorem dL_flood_13 : decode cL_flood 13 = .ok (.astore 4, 2) := by decide +kernel
theorem dL_flood_15 : decode cL_flood 15 = .ok (.iconst 1, 1) := by decide +kernel
theorem dL_flood_16 : decode cL_flood 16 = .ok (.ireturn, 1) := by decide +kernel
theorem dL_flood_17 : decode cL_flood 17 = .ok (.astore 4, 2) := by decide +kernel
theorem dL_flood_19 : decode cL_flood 19 = .ok (.iconst 2, 1) := by decide +kernel
theorem dL_flood_20 : decode cL_flood 20 = .ok (.ireturn, 1) := by decide +kernel
theorem dL_flood_21 : decode cL_flood 21 = .ok (.iconst 0, 1) := by decide +kernel
theorem dL_flood_22 : decode cL_flood 22 = .ok (.ireturn, 1) := by decide +kernel
set_option maxRecDepth 20000 in
theorem ggL_front_X5_front : GoodIn wsL_front wsX5_front := goodIn_ca (goodIn_r _ [6, 7, 8, 9, 10, 11, 12, 5, 13, 14, 15, 16, 17, 18, 19, 20, 21, 22, 23, 24, 25, 26, 27, 28, 29, 30, 31, 32, 33, 34, 35, 36, 37, 38, 39, 40, 41, 42] (by decide +kernel) (by decide +kernel)) (goodIn_sub (fun _ h => List.mem_cons_of_mem _ (List.mem_append_right _ h)) (by decide +kernel))
set_option maxRecDepth 20000 in
theorem gL_front_X5_front : GoodIn wsL_front (wsV RL 48 RX5 yX5_front wsX5_front) := goodIn_app (goodIn_of _ (by decide +kernel)) ggL_front_X5_front
theorem dL_front_0 : decode cL_front 0 = .ok (.aload_n 2, 1) := by decide +kernel
theorem dL_front_1 : decode cL_front 1 = .ok (.iconst 0, 1) := by decide +kernel
theorem dL_front_2 : decode cL_front 2 = .ok (.aload_n 0, 1) := by decide +kernel
theorem dL_front_3 : decode cL_front 3 = .ok (.iload_n 1, 1) := by decide +kernel
theorem dL_front_4 : decode cL_front 4 = .ok (.invokevirtual 48, 3) := by decide +kernel
theorem dL_front_7 : decode cL_front 7 = .ok (.i2l, 1) := by decide +kernel
theorem dL_front_8 : decode cL_front 8 = .ok (.lastore, 1) := by decide +kernel
theorem dL_front_9 : decode cL_front 9 = .ok (.goto 6, 3) := by decide +kernel
theorem dL_front_12 : decode cL_front 12 = .ok (.astore_n 3, 1) := by decide +kernel
theorem dL_front_13 : decode cL_front 13 = .ok (.iconst 1, 1) := by decide +kernel
theorem dL_front_14 : decode cL_front 14 = .ok (.ireturn, 1) := by decide +kernel
theorem dL_front_15 : decode cL_front 15 = .ok (.iconst 0, 1) := by decide +kernel
theorem dL_front_16 : decode cL_front 16 = .ok (.ireturn, 1) := by decide +kernel
set_option maxRecDepth 20000 in
theorem ggL_total_X5_total : GoodIn wsL_total wsX5_total := goodIn_ca (goodIn_r _ [6, 7, 8, 9, 10, 11, 12, 13, 14, 15, 5, 16, 17, 18, 19, 20, 21, 22, 23, 24, 25, 26, 27, 28, 29, 30, 31, 32, 33, 34, 35, 36, 37, 38, 39, 40, 41, 42, 43, 44, 45, 46, 47, 48, 49, 50, 51, 52, 53, 54, 55, 56, 57] (by decide +kernel) (by decide +kernel)) (goodIn_sub (fun _ h => List.mem_cons_of_mem _ (List.mem_append_right _ h)) (by decide +kernel))
set_option maxRecDepth 20000 in
theorem gL_total_X5_total : GoodIn wsL_total (wsV RL 51 RX5 yX5_total wsX5_total) := goodIn_app (goodIn_of _ (by decide +kernel)) ggL_total_X5_total
theorem dL_total_0 : decode cL_total 0 = .ok (.aload_n 2, 1) := by decide +kernel
theorem dL_total_1 : decode cL_total 1 = .ok (.iconst 0, 1) := by decide +kernel
theorem dL_total_2 : decode cL_total 2 = .ok (.aload_n 0, 1) := by decide +kernel
theorem dL_total_3 : decode cL_total 3 = .ok (.iload_n 1, 1) := by decide +kernel
theorem dL_total_4 : decode cL_total 4 = .ok (.invokevirtual 51, 3) := by decide +kernel
theorem dL_total_7 : decode cL_total 7 = .ok (.i2l, 1) := by decide +kernel
theorem dL_total_8 : decode cL_total 8 = .ok (.lastore, 1) := by decide +kernel
theorem dL_total_9 : decode cL_total 9 = .ok (.goto 6, 3) := by decide +kernel
theorem dL_total_12 : decode cL_total 12 = .ok (.astore_n 3, 1) := by decide +kernel
theorem dL_total_13 : decode cL_total 13 = .ok (.iconst 1, 1) := by decide +kernel
theorem dL_total_14 : decode cL_total 14 = .ok (.ireturn, 1) := by decide +kernel
theorem dL_total_15 : decode cL_total 15 = .ok (.iconst 0, 1) := by decide +kernel
theorem dL_total_16 : decode cL_total 16 = .ok (.ireturn, 1) := by decide +kernel
set_option maxRecDepth 20000 in
theorem ggL_would_X5_would : GoodIn wsL_would wsX5_would := goodIn_ca (goodIn_ca (goodIn_ca (goodIn_r _ [8, 9, 10, 11, 7, 12, 13, 14, 15, 16, 17, 18, 19, 20, 21, 22, 23, 24, 25, 26, 27, 28, 29, 30, 31, 32, 33, 34, 35, 36, 37, 38, 39, 40, 41, 42, 43, 44, 45, 46, 47, 48, 49, 50, 51, 52, 53, 54, 55, 56, 57, 58, 59, 60, 61, 62, 63, 64, 65, 66, 67, 68, 69, 70, 71, 72, 73, 74, 75, 76, 77, 78, 79, 80, 81, 82, 83, 84, 85, 86, 87, 88, 89, 90, 91, 92, 93, 94, 95, 96, 97, 98, 99, 100, 101, 102, 103, 104, 105, 106, 107, 108, 109, 110, 111, 112, 113, 114, 115, 116, 117, 118, 119, 120, 121, 122, 123, 124, 125, 126, 127, 128, 129, 130, 131, 132, 133, 134, 135, 136, 137, 138, 139, 140, 141, 142, 143, 144, 145, 146, 147, 148, 149, 150, 151, 152, 153, 154, 155, 156, 157, 158, 159, 160, 161, 162, 163, 164, 165, 166, 167, 168, 169, 170, 171, 172, 173, 174, 175, 176, 177, 178, 179, 180, 181, 182, 183, 184, 185, 186, 187, 188, 189, 190, 191, 192, 193, 194, 195, 196, 197] (by decide +kernel) (by decide +kernel)) (goodIn_sub (fun _ h => List.mem_cons_of_mem _ (List.mem_append_left _ (List.mem_append_left _ (List.mem_append_right _ h)))) (by decide +kernel))) (goodIn_sub (fun _ h => List.mem_cons_of_mem _ (List.mem_append_left _ (List.mem_append_right _ h))) (by decide +kernel))) (goodIn_sub (fun _ h => List.mem_cons_of_mem _ (List.mem_append_right _ h)) (by decide +kernel))
set_option maxRecDepth 20000 in
theorem gL_would_X5_would : GoodIn wsL_would (wsV RL 54 RX5 yX5_would wsX5_would) := goodIn_app (goodIn_of _ (by decide +kernel)) ggL_would_X5_would
theorem dL_would_0 : decode cL_would 0 = .ok (.aload 4, 2) := by decide +kernel
theorem dL_would_2 : decode cL_would 2 = .ok (.iconst 0, 1) := by decide +kernel
theorem dL_would_3 : decode cL_would 3 = .ok (.aload_n 0, 1) := by decide +kernel
theorem dL_would_4 : decode cL_would 4 = .ok (.iload_n 1, 1) := by decide +kernel
theorem dL_would_5 : decode cL_would 5 = .ok (.iload_n 2, 1) := by decide +kernel
theorem dL_would_6 : decode cL_would 6 = .ok (.iload_n 3, 1) := by decide +kernel
theorem dL_would_7 : decode cL_would 7 = .ok (.invokevirtual 54, 3) := by decide +kernel
theorem dL_would_10 : decode cL_would 10 = .ok (.i2l, 1) := by decide +kernel
theorem dL_would_11 : decode cL_would 11 = .ok (.lastore, 1) := by decide +kernel
theorem dL_would_12 : decode cL_would 12 = .ok (.goto 15, 3) := by decide +kernel
theorem dL_would_15 : decode cL_would 15 = .ok (.astore 5, 2) := by decide +kernel
theorem dL_would_17 : decode cL_would 17 = .ok (.iconst 1, 1) := by decide +kernel
theorem dL_would_18 : decode cL_would 18 = .ok (.ireturn, 1) := by decide +kernel
theorem dL_would_19 : decode cL_would 19 = .ok (.astore 5, 2) := by decide +kernel
theorem dL_would_21 : decode cL_would 21 = .ok (.iconst 2, 1) := by decide +kernel
theorem dL_would_22 : decode cL_would 22 = .ok (.ireturn, 1) := by decide +kernel
theorem dL_would_23 : decode cL_would 23 = .ok (.astore 5, 2) := by decide +kernel
theorem dL_would_25 : decode cL_would 25 = .ok (.iconst 3, 1) := by decide +kernel
theorem dL_would_26 : decode cL_would 26 = .ok (.ireturn, 1) := by decide +kernel
theorem dL_would_27 : decode cL_would 27 = .ok (.iconst 0, 1) := by decide +kernel
theorem dL_would_28 : decode cL_would 28 = .ok (.ireturn, 1) := by decide +kernel
set_option maxRecDepth 20000 in
theorem ggL_forecast_X5_forecast : GoodIn wsL_forecast wsX5_forecast := goodIn_ca (goodIn_ca (goodIn_r _ [7, 8, 9, 10, 11, 12, 13, 14, 15, 16, 6, 17, 18, 19, 20, 21, 22, 23, 24, 25, 26, 27, 28, 29, 30, 31, 32, 33, 34, 35, 36, 37, 38, 39, 40, 41, 42, 43, 44, 45, 46, 47, 48, 49, 50, 51, 52, 53, 54, 55, 56, 57, 58, 59, 60, 61, 62, 63, 64, 65, 66, 67, 68, 69, 70, 71, 72, 73, 74, 75, 76, 77, 78, 79, 80, 81, 82, 83, 84, 85, 86, 87, 88, 89, 90, 91, 92, 93, 94, 95, 96, 97, 98, 99, 100, 101, 102, 103, 104, 105, 106, 107, 108, 109, 110, 111, 112, 113, 114, 115, 116, 117, 118, 119, 120, 121, 122, 123, 124, 125, 126, 127, 128, 129, 130, 131, 132, 133, 134, 135, 136, 137, 138, 139, 140, 141, 142, 143, 144, 145, 146, 147, 148, 149, 150, 151, 152, 153, 154, 155, 156, 157, 158, 159, 160, 161, 162, 163, 164, 165, 166, 167, 168, 169, 170, 171, 172, 173, 174, 175, 176, 177, 178, 179, 180, 181, 182, 183, 184, 185, 186, 187, 188, 189, 190, 191, 192, 193, 194, 195, 196, 197, 198] (by decide +kernel) (by decide +kernel)) (goodIn_sub (fun _ h => List.mem_cons_of_mem _ (List.mem_append_left _ (List.mem_append_right _ h))) (by decide +kernel))) (goodIn_sub (fun _ h => List.mem_cons_of_mem _ (List.mem_append_right _ h)) (by decide +kernel))
set_option maxRecDepth 20000 in
theorem gL_forecast_X5_forecast : GoodIn wsL_forecast (wsV RL 58 RX5 yX5_forecast wsX5_forecast) := goodIn_app (goodIn_of _ (by decide +kernel)) ggL_forecast_X5_forecast
theorem dL_forecast_0 : decode cL_forecast 0 = .ok (.aload_n 2, 1) := by decide +kernel
theorem dL_forecast_1 : decode cL_forecast 1 = .ok (.iconst 0, 1) := by decide +kernel
theorem dL_forecast_2 : decode cL_forecast 2 = .ok (.aload_n 0, 1) := by decide +kernel
theorem dL_forecast_3 : decode cL_forecast 3 = .ok (.iload_n 1, 1) := by decide +kernel
theorem dL_forecast_4 : decode cL_forecast 4 = .ok (.invokevirtual 58, 3) := by decide +kernel
theorem dL_forecast_7 : decode cL_forecast 7 = .ok (.i2l, 1) := by decide +kernel
theorem dL_forecast_8 : decode cL_forecast 8 = .ok (.lastore, 1) := by decide +kernel
theorem dL_forecast_9 : decode cL_forecast 9 = .ok (.goto 9, 3) := by decide +kernel
theorem dL_forecast_12 : decode cL_forecast 12 = .ok (.astore_n 3, 1) := by decide +kernel
theorem dL_forecast_13 : decode cL_forecast 13 = .ok (.iconst 1, 1) := by decide +kernel
theorem dL_forecast_14 : decode cL_forecast 14 = .ok (.ireturn, 1) := by decide +kernel
theorem dL_forecast_15 : decode cL_forecast 15 = .ok (.astore_n 3, 1) := by decide +kernel
theorem dL_forecast_16 : decode cL_forecast 16 = .ok (.iconst 2, 1) := by decide +kernel
theorem dL_forecast_17 : decode cL_forecast 17 = .ok (.ireturn, 1) := by decide +kernel
theorem dL_forecast_18 : decode cL_forecast 18 = .ok (.iconst 0, 1) := by decide +kernel
theorem dL_forecast_19 : decode cL_forecast 19 = .ok (.ireturn, 1) := by decide +kernel
set_option maxRecDepth 20000 in
theorem ggL_miss_X5_miss : GoodIn wsL_miss wsX5_miss := goodIn_ca (goodIn_r _ [6, 7, 8, 9, 10, 11, 12, 13, 14, 15, 16, 17, 18, 19, 20, 21, 22, 23, 24, 25, 26, 27, 28, 29, 30, 31, 32, 33, 34, 35, 36, 37, 38, 39, 40, 41, 42, 43, 44, 45, 46, 47, 48, 49, 50] (by decide +kernel) (by decide +kernel)) (goodIn_sub (fun _ h => List.mem_cons_of_mem _ (List.mem_append_right _ h)) (by decide +kernel))
set_option maxRecDepth 20000 in
theorem gL_miss_X5_miss : GoodIn wsL_miss (wsV RL 61 RX5 yX5_miss wsX5_miss) := goodIn_app (goodIn_of _ (by decide +kernel)) ggL_miss_X5_miss
theorem dL_miss_0 : decode cL_miss 0 = .ok (.aload_n 2, 1) := by decide +kernel
theorem dL_miss_1 : decode cL_miss 1 = .ok (.iconst 0, 1) := by decide +kernel
theorem dL_miss_2 : decode cL_miss 2 = .ok (.aload_n 0, 1) := by decide +kernel
theorem dL_miss_3 : decode cL_miss 3 = .ok (.iload_n 1, 1) := by decide +kernel
theorem dL_miss_4 : decode cL_miss 4 = .ok (.invokevirtual 61, 3) := by decide +kernel
theorem dL_miss_7 : decode cL_miss 7 = .ok (.i2l, 1) := by decide +kernel
theorem dL_miss_8 : decode cL_miss 8 = .ok (.lastore, 1) := by decide +kernel
theorem dL_miss_9 : decode cL_miss 9 = .ok (.goto 6, 3) := by decide +kernel
theorem dL_miss_12 : decode cL_miss 12 = .ok (.astore_n 3, 1) := by decide +kernel
theorem dL_miss_13 : decode cL_miss 13 = .ok (.iconst 1, 1) := by decide +kernel
theorem dL_miss_14 : decode cL_miss 14 = .ok (.ireturn, 1) := by decide +kernel
theorem dL_miss_15 : decode cL_miss 15 = .ok (.iconst 0, 1) := by decide +kernel
theorem dL_miss_16 : decode cL_miss 16 = .ok (.ireturn, 1) := by decide +kernel
set_option maxRecDepth 20000 in
theorem ggL_law_X5_init : GoodIn wsL_law wsX5_init := goodIn_r _ [9, 10, 11, 12, 13, 14, 15, 16, 17, 18, 19, 20, 21, 22, 23, 24, 25, 26, 27, 28, 29, 30, 31, 32, 33, 34, 35, 36, 37, 38, 39, 40, 41, 42, 43, 44, 45, 46, 47, 48, 49, 50, 51, 52, 53, 54, 55, 56, 57, 58, 59, 60, 61, 62, 63, 64, 65, 66, 67, 68, 69, 70, 71, 593, 594, 595, 596, 597, 598, 599, 600, 601, 602, 603, 604, 605, 606, 607, 608, 573, 574, 575, 576, 609, 610, 611, 612, 613, 614, 615, 616, 617, 618, 619, 620, 621, 622, 623, 624, 625] (by decide +kernel) (by decide +kernel)
set_option maxRecDepth 20000 in
theorem gL_law_X5_init : GoodIn wsL_law (wsX5_init) := ggL_law_X5_init
set_option maxRecDepth 20000 in
theorem ggL_law_X6_init : GoodIn wsL_law wsX6_init := goodIn_r _ [74, 75, 11, 12, 38, 76, 77, 60, 78, 79, 80, 81, 82, 83, 84, 85, 577, 578, 579, 580, 581, 582, 583, 584, 585, 586, 587, 588, 589, 590, 591, 592] (by decide +kernel) (by decide +kernel)
set_option maxRecDepth 20000 in
theorem gL_law_X6_init : GoodIn wsL_law (wsX6_init) := ggL_law_X6_init
set_option maxRecDepth 20000 in
theorem ggL_law_L_land : GoodIn wsL_law wsL_land := goodIn_ca (goodIn_ca (goodIn_ca (goodIn_r _ [89, 90, 91, 92, 93, 94, 95, 2, 96, 97, 98, 16, 99, 100, 101, 102, 103, 104, 105, 106, 107, 108, 109, 110, 111, 112, 113, 573, 574, 575, 576, 593, 594, 595, 596, 597, 598, 599, 600, 601, 602, 603, 604, 605, 606, 607, 608, 619, 620] (by decide +kernel) (by decide +kernel)) (goodIn_sub (fun _ h => List.mem_append_left _ (List.mem_append_left _ (List.mem_append_right _ h))) (by decide +kernel))) (goodIn_sub (fun _ h => List.mem_append_left _ (List.mem_append_right _ h)) (by decide +kernel))) (goodIn_sub (fun _ h => List.mem_append_right _ h) (by decide +kernel))
set_option maxRecDepth 20000 in
theorem gL_law_L_land : GoodIn wsL_law (va_wsS RL 68 yL_land wsL_land) := goodIn_app (goodIn_of _ (by decide +kernel)) ggL_law_L_land
set_option maxRecDepth 20000 in
theorem ggL_law_X6_land : GoodIn wsL_law wsX6_land := goodIn_r _ [117, 76, 118, 119, 5, 120, 121, 122, 123, 124, 125, 126, 127, 128, 129, 130, 131, 132, 577, 578, 579, 580, 581, 582, 583, 584, 585, 586, 587, 588, 589, 590, 591, 592] (by decide +kernel) (by decide +kernel)
set_option maxRecDepth 20000 in
theorem gL_law_X6_land : GoodIn wsL_law (wsV RL 73 RX6 yX6_land wsX6_land) := goodIn_app (goodIn_of _ (by decide +kernel)) ggL_law_X6_land
set_option maxRecDepth 20000 in
theorem ggL_law_X6_thrown : GoodIn wsL_law wsX6_thrown := goodIn_r _ [136, 132, 577, 578, 579, 580, 581, 582, 583, 584, 585, 586, 587, 588, 589, 590, 591, 592] (by decide +kernel) (by decide +kernel)
set_option maxRecDepth 20000 in
theorem gL_law_X6_thrown : GoodIn wsL_law (wsV RL 74 RX6 yX6_thrown wsX6_thrown) := goodIn_app (goodIn_of _ (by decide +kernel)) ggL_law_X6_thrown
set_option maxRecDepth 20000 in
theorem ggL_law_L_sea : GoodIn wsL_law wsL_sea := goodIn_ca (goodIn_r _ [139, 91, 140, 141, 142, 2, 143, 16, 144, 109, 110, 111, 112, 113, 573, 574, 575, 576, 593, 594, 595, 596, 597, 598, 599, 600, 601, 602, 603, 604, 605, 606, 607, 608] (by decide +kernel) (by decide +kernel)) (goodIn_sub (fun _ h => List.mem_append_right _ h) (by decide +kernel))
set_option maxRecDepth 20000 in
theorem gL_law_L_sea : GoodIn wsL_law (va_wsS RL 78 yL_sea wsL_sea) := goodIn_app (goodIn_of _ (by decide +kernel)) ggL_law_L_sea
set_option maxRecDepth 20000 in
theorem ggL_law_X6_sea : GoodIn wsL_law wsX6_sea := goodIn_r _ [148, 149, 121, 122, 5, 123, 150, 151, 152, 153, 132, 577, 578, 579, 580, 581, 582, 583, 584, 585, 586, 587, 588, 589, 590, 591, 592] (by decide +kernel) (by decide +kernel)
set_option maxRecDepth 20000 in
theorem gL_law_X6_sea : GoodIn wsL_law (wsV RL 81 RX6 yX6_sea wsX6_sea) := goodIn_app (goodIn_of _ (by decide +kernel)) ggL_law_X6_sea
set_option maxRecDepth 20000 in
theorem ggL_law_L_climate : GoodIn wsL_law wsL_climate := goodIn_ca (goodIn_r _ [156, 91, 157, 158, 159, 2, 160, 16, 161, 162, 163, 109, 110, 111, 112, 113, 573, 574, 575, 576, 593, 594, 595, 596, 597, 598, 599, 600, 601, 602, 603, 604, 605, 606, 607, 608] (by decide +kernel) (by decide +kernel)) (goodIn_sub (fun _ h => List.mem_append_right _ h) (by decide +kernel))
set_option maxRecDepth 20000 in
theorem gL_law_L_climate : GoodIn wsL_law (va_wsS RL 82 yL_climate wsL_climate) := goodIn_app (goodIn_of _ (by decide +kernel)) ggL_law_L_climate
set_option maxRecDepth 20000 in
theorem ggL_law_X6_climate : GoodIn wsL_law wsX6_climate := goodIn_r _ [167, 168, 169, 170, 121, 122, 5, 123, 150, 151, 152, 153, 132, 577, 578, 579, 580, 581, 582, 583, 584, 585, 586, 587, 588, 589, 590, 591, 592] (by decide +kernel) (by decide +kernel)
set_option maxRecDepth 20000 in
theorem gL_law_X6_climate : GoodIn wsL_law (wsV RL 85 RX6 yX6_climate wsX6_climate) := goodIn_app (goodIn_of _ (by decide +kernel)) ggL_law_X6_climate
set_option maxRecDepth 20000 in
theorem ggL_law_L_ice : GoodIn wsL_law wsL_ice := goodIn_ca (goodIn_ca (goodIn_ca (goodIn_r _ [173, 90, 91, 92, 174, 175, 176, 2, 177, 97, 98, 16, 99, 100, 178, 179, 180, 104, 105, 106, 107, 108, 109, 110, 111, 112, 113, 181, 182, 183, 32, 184, 52, 51, 573, 574, 575, 576, 593, 594, 595, 596, 597, 598, 599, 600, 601, 602, 603, 604, 605, 606, 607, 608, 619, 620, 621, 622, 623, 624, 625] (by decide +kernel) (by decide +kernel)) (goodIn_sub (fun _ h => List.mem_append_left _ (List.mem_append_left _ (List.mem_append_right _ h))) (by decide +kernel))) (goodIn_sub (fun _ h => List.mem_append_left _ (List.mem_append_right _ h)) (by decide +kernel))) (goodIn_sub (fun _ h => List.mem_append_right _ h) (by decide +kernel))
set_option maxRecDepth 20000 in
theorem gL_law_L_ice : GoodIn wsL_law (va_wsS RL 86 yL_ice wsL_ice) := goodIn_app (goodIn_of _ (by decide +kernel)) ggL_law_L_ice
set_option maxRecDepth 20000 in
theorem ggL_law_X6_ice : GoodIn wsL_law wsX6_ice := goodIn_r _ [188, 76, 118, 119, 5, 120, 121, 122, 123, 124, 125, 126, 127, 128, 129, 130, 131, 132, 577, 578, 579, 580, 581, 582, 583, 584, 585, 586, 587, 588, 589, 590, 591, 592] (by decide +kernel) (by decide +kernel)
set_option maxRecDepth 20000 in
theorem gL_law_X6_ice : GoodIn wsL_law (wsV RL 88 RX6 yX6_ice wsX6_ice) := goodIn_app (goodIn_of _ (by decide +kernel)) ggL_law_X6_ice
set_option maxRecDepth 20000 in
theorem ggL_law_X5_ash : GoodIn wsL_law wsX5_ash := goodIn_r _ [192, 21, 193, 16, 178, 573, 574, 575, 576, 609, 610, 611, 612, 613, 614, 615, 593, 594, 595, 596, 597, 598, 599, 600, 601, 602, 603, 604, 605, 606, 607, 608] (by decide +kernel) (by decide +kernel)
set_option maxRecDepth 20000 in
theorem gL_law_X5_ash : GoodIn wsL_law (wsV RL 89 RX5 yX5_ash wsX5_ash) := goodIn_app (goodIn_of _ (by decide +kernel)) ggL_law_X5_ash
set_option maxRecDepth 20000 in
theorem ggL_law_X6_ash : GoodIn wsL_law wsX6_ash := goodIn_r _ [197, 132, 78, 76, 577, 578, 579, 580, 581, 582, 583, 584, 585, 586, 587, 588, 589, 590, 591, 592] (by decide +kernel) (by decide +kernel)
set_option maxRecDepth 20000 in
theorem gL_law_X6_ash : GoodIn wsL_law (wsV RL 93 RX6 yX6_ash wsX6_ash) := goodIn_app (goodIn_of _ (by decide +kernel)) ggL_law_X6_ash
set_option maxRecDepth 20000 in
theorem ggL_law_L_pass : GoodIn wsL_law wsL_pass := goodIn_ca (goodIn_ca (goodIn_r _ [200, 91, 92, 201, 202, 203, 2, 204, 16, 21, 178, 109, 110, 111, 112, 113, 205, 206, 207, 208, 97, 98, 209, 210, 211, 15, 212, 213, 214, 215, 216, 217, 218, 43, 33, 219, 220, 37, 221, 222, 223, 224, 225, 226, 41, 227, 228, 229, 230, 231, 39, 232, 233, 234, 235, 236, 237, 238, 239, 240, 241, 182, 183, 32, 184, 52, 51, 242, 243, 244, 245, 246, 247, 248, 249, 250, 251, 252, 253, 254, 255, 45, 44, 256, 257, 258, 259, 260, 261, 262, 263, 264, 265, 266, 267, 268, 269, 270, 271, 272, 273, 274, 275, 276, 277, 278, 279, 280, 281, 282, 283, 284, 285, 286, 287, 288, 46, 289, 290, 291, 292, 293, 294, 295, 296, 297, 298, 299, 300, 301, 40, 302, 303, 304, 305, 47, 42, 306, 307, 308, 20, 309, 62, 310, 311, 63, 312, 313, 314, 64, 65, 66, 315, 316, 317, 318, 573, 574, 575, 576, 593, 594, 595, 596, 597, 598, 599, 600, 601, 602, 603, 604, 605, 606, 607, 608, 619, 620, 621, 622, 623, 624, 625, 609, 610, 611, 612, 613, 614, 615] (by decide +kernel) (by decide +kernel)) (goodIn_sub (fun _ h => List.mem_append_right _ h) (by decide +kernel))) (goodIn_sub (fun _ h => List.mem_append_left _ (List.mem_append_left _ (List.mem_append_right _ h))) (by decide +kernel))
set_option maxRecDepth 20000 in
theorem gL_law_L_pass : GoodIn wsL_law (va_wsS RL 94 yL_pass wsL_pass) := goodIn_app (goodIn_of _ (by decide +kernel)) ggL_law_L_pass
set_option maxRecDepth 20000 in
theorem ggL_law_X6_pass : GoodIn wsL_law wsX6_pass := goodIn_r _ [322, 76, 323, 83, 84, 82, 121, 122, 5, 123, 324, 325, 326, 327, 132, 328, 329, 330, 331, 332, 333, 334, 335, 168, 169, 170, 124, 125, 126, 127, 336, 337, 338, 339, 340, 341, 342, 343, 149, 344, 345, 346, 347, 85, 348, 349, 350, 351, 352, 353, 354, 355, 356, 357, 358, 359, 360, 361, 362, 363, 364, 365, 79, 80, 81, 366, 367, 368, 369, 370, 371, 372, 373, 374, 375, 376, 377, 378, 379, 380, 381, 577, 578, 579, 580, 581, 582, 583, 584, 585, 586, 587, 588, 589, 590, 591, 592] (by decide +kernel) (by decide +kernel)
set_option maxRecDepth 20000 in
theorem gL_law_X6_pass : GoodIn wsL_law (wsV RL 96 RX6 yX6_pass wsX6_pass) := goodIn_app (goodIn_of _ (by decide +kernel)) ggL_law_X6_pass
set_option maxRecDepth 20000 in
theorem ggL_law_L_cellIs : GoodIn wsL_law wsL_cellIs := goodIn_ca (goodIn_ca (goodIn_r _ [384, 90, 91, 385, 386, 387, 2, 388, 16, 104, 105, 106, 107, 108, 109, 110, 111, 112, 113, 389, 390, 391, 15, 392, 39, 33, 219, 41, 42, 43, 40, 228, 229, 230, 231, 393, 394, 395, 396, 44, 397, 398, 225, 399, 236, 237, 238, 239, 240, 281, 282, 283, 284, 573, 574, 575, 576, 593, 594, 595, 596, 597, 598, 599, 600, 601, 602, 603, 604, 605, 606, 607, 608, 619, 620] (by decide +kernel) (by decide +kernel)) (goodIn_sub (fun _ h => List.mem_append_left _ (List.mem_append_right _ h)) (by decide +kernel))) (goodIn_sub (fun _ h => List.mem_append_right _ h) (by decide +kernel))
set_option maxRecDepth 20000 in
theorem gL_law_L_cellIs : GoodIn wsL_law (va_wsS RL 97 yL_cellIs wsL_cellIs) := goodIn_app (goodIn_of _ (by decide +kernel)) ggL_law_L_cellIs
set_option maxRecDepth 20000 in
theorem ggL_law_X6_cellIs : GoodIn wsL_law wsX6_cellIs := goodIn_r _ [403, 118, 119, 5, 120, 121, 122, 123, 324, 325, 326, 327, 132, 404, 405, 406, 407, 76, 124, 125, 126, 127, 336, 337, 338, 339, 340, 341, 342, 343, 149, 358, 359, 360, 361, 577, 578, 579, 580, 581, 582, 583, 584, 585, 586, 587, 588, 589, 590, 591, 592] (by decide +kernel) (by decide +kernel)
set_option maxRecDepth 20000 in
theorem gL_law_X6_cellIs : GoodIn wsL_law (wsV RL 99 RX6 yX6_cellIs wsX6_cellIs) := goodIn_app (goodIn_of _ (by decide +kernel)) ggL_law_X6_cellIs
set_option maxRecDepth 20000 in
theorem ggL_law_L_layer : GoodIn wsL_law wsL_layer := goodIn_ca (goodIn_ca (goodIn_r _ [410, 90, 91, 411, 412, 413, 2, 414, 16, 99, 104, 105, 106, 107, 108, 109, 110, 111, 112, 113, 415, 248, 249, 32, 250, 52, 573, 574, 575, 576, 593, 594, 595, 596, 597, 598, 599, 600, 601, 602, 603, 604, 605, 606, 607, 608, 619, 620] (by decide +kernel) (by decide +kernel)) (goodIn_sub (fun _ h => List.mem_append_left _ (List.mem_append_right _ h)) (by decide +kernel))) (goodIn_sub (fun _ h => List.mem_append_right _ h) (by decide +kernel))
set_option maxRecDepth 20000 in
theorem gL_law_L_layer : GoodIn wsL_law (va_wsS RL 100 yL_layer wsL_layer) := goodIn_app (goodIn_of _ (by decide +kernel)) ggL_law_L_layer
set_option maxRecDepth 20000 in
theorem ggL_law_X6_layer : GoodIn wsL_law wsX6_layer := goodIn_r _ [419, 76, 118, 119, 5, 120, 121, 122, 123, 324, 325, 326, 327, 132, 577, 578, 579, 580, 581, 582, 583, 584, 585, 586, 587, 588, 589, 590, 591, 592] (by decide +kernel) (by decide +kernel)
set_option maxRecDepth 20000 in
theorem gL_law_X6_layer : GoodIn wsL_law (wsV RL 102 RX6 yX6_layer wsX6_layer) := goodIn_app (goodIn_of _ (by decide +kernel)) ggL_law_X6_layer
set_option maxRecDepth 20000 in
theorem ggL_law_L_yearAt : GoodIn wsL_law wsL_yearAt := goodIn_ca (goodIn_ca (goodIn_r _ [422, 90, 91, 423, 424, 425, 2, 426, 112, 113, 16, 99, 104, 105, 106, 107, 108, 427, 428, 429, 32, 430, 247, 248, 249, 250, 52, 573, 574, 575, 576, 593, 594, 595, 596, 597, 598, 599, 600, 601, 602, 603, 604, 605, 606, 607, 608, 619, 620] (by decide +kernel) (by decide +kernel)) (goodIn_sub (fun _ h => List.mem_append_right _ h) (by decide +kernel))) (goodIn_sub (fun _ h => List.mem_append_left _ (List.mem_append_right _ h)) (by decide +kernel))
set_option maxRecDepth 20000 in
theorem gL_law_L_yearAt : GoodIn wsL_law (va_wsS RL 103 yL_yearAt wsL_yearAt) := goodIn_app (goodIn_of _ (by decide +kernel)) ggL_law_L_yearAt
set_option maxRecDepth 20000 in
theorem ggL_law_X6_yearAt : GoodIn wsL_law wsX6_yearAt := goodIn_r _ [434, 76, 118, 119, 5, 120, 121, 122, 123, 324, 325, 326, 327, 132, 577, 578, 579, 580, 581, 582, 583, 584, 585, 586, 587, 588, 589, 590, 591, 592] (by decide +kernel) (by decide +kernel)
set_option maxRecDepth 20000 in
theorem gL_law_X6_yearAt : GoodIn wsL_law (wsV RL 105 RX6 yX6_yearAt wsX6_yearAt) := goodIn_app (goodIn_of _ (by decide +kernel)) ggL_law_X6_yearAt
set_option maxRecDepth 20000 in
theorem ggL_law_L_common : GoodIn wsL_law wsL_common := goodIn_ca (goodIn_r _ [437, 90, 438, 439, 440, 2, 441, 21, 193, 16, 99, 104, 105, 106, 107, 108, 415, 248, 249, 32, 250, 52, 573, 574, 575, 576, 609, 610, 611, 612, 613, 614, 615, 593, 594, 595, 596, 597, 598, 599, 600, 601, 602, 603, 604, 605, 606, 607, 608, 619, 620] (by decide +kernel) (by decide +kernel)) (goodIn_sub (fun _ h => List.mem_append_left _ (List.mem_append_right _ h)) (by decide +kernel))
set_option maxRecDepth 20000 in
theorem gL_law_L_common : GoodIn wsL_law (va_wsS RL 106 yL_common wsL_common) := goodIn_app (goodIn_of _ (by decide +kernel)) ggL_law_L_common
set_option maxRecDepth 20000 in
theorem ggL_law_X6_common : GoodIn wsL_law wsX6_common := goodIn_r _ [445, 78, 76, 118, 119, 5, 120, 121, 122, 123, 150, 151, 152, 153, 132, 577, 578, 579, 580, 581, 582, 583, 584, 585, 586, 587, 588, 589, 590, 591, 592] (by decide +kernel) (by decide +kernel)
set_option maxRecDepth 20000 in
theorem gL_law_X6_common : GoodIn wsL_law (wsV RL 108 RX6 yX6_common wsX6_common) := goodIn_app (goodIn_of _ (by decide +kernel)) ggL_law_X6_common
set_option maxRecDepth 20000 in
theorem ggL_law_X5_floods : GoodIn wsL_law wsX5_floods := goodIn_r _ [449, 21, 450, 573, 574, 575, 576, 609, 610, 611, 612, 613, 614, 615] (by decide +kernel) (by decide +kernel)
set_option maxRecDepth 20000 in
theorem gL_law_X5_floods : GoodIn wsL_law (wsV RL 109 RX5 yX5_floods wsX5_floods) := goodIn_app (goodIn_of _ (by decide +kernel)) ggL_law_X5_floods
set_option maxRecDepth 20000 in
theorem ggL_law_X6_floods : GoodIn wsL_law wsX6_floods := goodIn_r _ [454, 132, 76, 577, 578, 579, 580, 581, 582, 583, 584, 585, 586, 587, 588, 589, 590, 591, 592] (by decide +kernel) (by decide +kernel)
set_option maxRecDepth 20000 in
theorem gL_law_X6_floods : GoodIn wsL_law (wsV RL 112 RX6 yX6_floods wsX6_floods) := goodIn_app (goodIn_of _ (by decide +kernel)) ggL_law_X6_floods
set_option maxRecDepth 20000 in
theorem ggL_law_L_flood : GoodIn wsL_law wsL_flood := goodIn_ca (goodIn_ca (goodIn_r _ [457, 90, 91, 458, 459, 460, 2, 461, 107, 108, 21, 450, 462, 463, 464, 109, 110, 111, 112, 113, 573, 574, 575, 576, 609, 610, 611, 612, 613, 614, 615] (by decide +kernel) (by decide +kernel)) (goodIn_sub (fun _ h => List.mem_append_left _ (List.mem_append_right _ h)) (by decide +kernel))) (goodIn_sub (fun _ h => List.mem_append_right _ h) (by decide +kernel))
set_option maxRecDepth 20000 in
theorem gL_law_L_flood : GoodIn wsL_law (va_wsS RL 113 yL_flood wsL_flood) := goodIn_app (goodIn_of _ (by decide +kernel)) ggL_law_L_flood
set_option maxRecDepth 20000 in
theorem ggL_law_X6_flood : GoodIn wsL_law wsX6_flood := goodIn_r _ [468, 76, 79, 80, 81, 121, 122, 5, 123, 324, 325, 326, 327, 132, 577, 578, 579, 580, 581, 582, 583, 584, 585, 586, 587, 588, 589, 590, 591, 592] (by decide +kernel) (by decide +kernel)
set_option maxRecDepth 20000 in
theorem gL_law_X6_flood : GoodIn wsL_law (wsV RL 115 RX6 yX6_flood wsX6_flood) := goodIn_app (goodIn_of _ (by decide +kernel)) ggL_law_X6_flood
set_option maxRecDepth 20000 in
theorem ggL_law_L_front : GoodIn wsL_law wsL_front := goodIn_ca (goodIn_r _ [471, 91, 472, 473, 474, 2, 475, 16, 178, 21, 476, 109, 110, 111, 112, 113, 573, 574, 575, 576, 593, 594, 595, 596, 597, 598, 599, 600, 601, 602, 603, 604, 605, 606, 607, 608, 609, 610, 611, 612, 613, 614, 615] (by decide +kernel) (by decide +kernel)) (goodIn_sub (fun _ h => List.mem_append_right _ h) (by decide +kernel))
set_option maxRecDepth 20000 in
theorem gL_law_L_front : GoodIn wsL_law (va_wsS RL 116 yL_front wsL_front) := goodIn_app (goodIn_of _ (by decide +kernel)) ggL_law_L_front
set_option maxRecDepth 20000 in
theorem ggL_law_X6_front : GoodIn wsL_law wsX6_front := goodIn_r _ [480, 76, 121, 122, 5, 123, 150, 151, 152, 153, 132, 577, 578, 579, 580, 581, 582, 583, 584, 585, 586, 587, 588, 589, 590, 591, 592] (by decide +kernel) (by decide +kernel)
set_option maxRecDepth 20000 in
theorem gL_law_X6_front : GoodIn wsL_law (wsV RL 118 RX6 yX6_front wsX6_front) := goodIn_app (goodIn_of _ (by decide +kernel)) ggL_law_X6_front
set_option maxRecDepth 20000 in
theorem ggL_law_L_total : GoodIn wsL_law wsL_total := goodIn_ca (goodIn_r _ [483, 91, 484, 485, 486, 2, 487, 16, 99, 179, 488, 489, 490, 180, 109, 110, 111, 112, 113, 491, 316, 317, 32, 318, 51, 492, 493, 494, 15, 495, 41, 573, 574, 575, 576, 593, 594, 595, 596, 597, 598, 599, 600, 601, 602, 603, 604, 605, 606, 607, 608, 621, 622, 623, 624, 625, 619, 620] (by decide +kernel) (by decide +kernel)) (goodIn_sub (fun _ h => List.mem_append_right _ h) (by decide +kernel))
set_option maxRecDepth 20000 in
theorem gL_law_L_total : GoodIn wsL_law (va_wsS RL 119 yL_total wsL_total) := goodIn_app (goodIn_of _ (by decide +kernel)) ggL_law_L_total
set_option maxRecDepth 20000 in
theorem ggL_law_X6_total : GoodIn wsL_law wsX6_total := goodIn_r _ [499, 76, 121, 122, 5, 123, 150, 151, 152, 153, 132, 378, 379, 380, 381, 124, 125, 126, 127, 577, 578, 579, 580, 581, 582, 583, 584, 585, 586, 587, 588, 589, 590, 591, 592] (by decide +kernel) (by decide +kernel)
set_option maxRecDepth 20000 in
theorem gL_law_X6_total : GoodIn wsL_law (wsV RL 121 RX6 yX6_total wsX6_total) := goodIn_app (goodIn_of _ (by decide +kernel)) ggL_law_X6_total
set_option maxRecDepth 20000 in
theorem ggL_law_X5_iceAnew : GoodIn wsL_law wsX5_iceAnew := goodIn_r _ [503, 16, 179, 490, 180, 504, 489, 573, 574, 575, 576, 593, 594, 595, 596, 597, 598, 599, 600, 601, 602, 603, 604, 605, 606, 607, 608, 621, 622, 623, 624, 625] (by decide +kernel) (by decide +kernel)
set_option maxRecDepth 20000 in
theorem gL_law_X5_iceAnew : GoodIn wsL_law (wsV RL 122 RX5 yX5_iceAnew wsX5_iceAnew) := goodIn_app (goodIn_of _ (by decide +kernel)) ggL_law_X5_iceAnew
set_option maxRecDepth 20000 in
theorem ggL_law_X6_iceAnew : GoodIn wsL_law wsX6_iceAnew := goodIn_r _ [508, 132, 76, 577, 578, 579, 580, 581, 582, 583, 584, 585, 586, 587, 588, 589, 590, 591, 592] (by decide +kernel) (by decide +kernel)
set_option maxRecDepth 20000 in
theorem gL_law_X6_iceAnew : GoodIn wsL_law (wsV RL 125 RX6 yX6_iceAnew wsX6_iceAnew) := goodIn_app (goodIn_of _ (by decide +kernel)) ggL_law_X6_iceAnew
set_option maxRecDepth 20000 in
theorem ggL_law_L_would : GoodIn wsL_law wsL_would := goodIn_ca (goodIn_ca (goodIn_ca (goodIn_r _ [511, 90, 91, 92, 512, 513, 514, 2, 515, 17, 104, 105, 106, 107, 108, 109, 110, 111, 112, 113, 205, 206, 207, 208, 97, 98, 16, 178, 516, 517, 518, 519, 520, 521, 522, 15, 523, 213, 240, 218, 220, 222, 33, 39, 524, 525, 526, 527, 40, 41, 42, 528, 529, 530, 32, 531, 51, 532, 52, 209, 210, 211, 212, 214, 215, 216, 217, 43, 219, 37, 221, 223, 224, 225, 226, 227, 228, 229, 230, 231, 232, 233, 234, 235, 236, 237, 238, 239, 241, 182, 183, 184, 242, 243, 244, 245, 246, 247, 248, 249, 250, 251, 252, 253, 254, 255, 45, 44, 256, 257, 258, 259, 260, 261, 262, 263, 264, 265, 266, 267, 268, 269, 270, 271, 272, 273, 274, 275, 276, 277, 278, 279, 280, 281, 282, 283, 284, 285, 286, 287, 288, 46, 289, 290, 291, 292, 293, 294, 295, 296, 297, 298, 299, 300, 301, 302, 303, 304, 305, 47, 389, 390, 391, 392, 393, 394, 395, 396, 397, 398, 399, 573, 574, 575, 576, 593, 594, 595, 596, 597, 598, 599, 600, 601, 602, 603, 604, 605, 606, 607, 608, 619, 620, 621, 622, 623, 624, 625] (by decide +kernel) (by decide +kernel)) (goodIn_sub (fun _ h => List.mem_append_left _ (List.mem_append_right _ h)) (by decide +kernel))) (goodIn_sub (fun _ h => List.mem_append_right _ h) (by decide +kernel))) (goodIn_sub (fun _ h => List.mem_append_left _ (List.mem_append_left _ (List.mem_append_right _ h))) (by decide +kernel))
set_option maxRecDepth 20000 in
theorem gL_law_L_would : GoodIn wsL_law (va_wsS RL 126 yL_would wsL_would) := goodIn_app (goodIn_of _ (by decide +kernel)) ggL_law_L_would
set_option maxRecDepth 20000 in
theorem ggL_law_X6_would : GoodIn wsL_law wsX6_would := goodIn_r _ [536, 76, 121, 122, 5, 123, 118, 119, 120, 128, 129, 130, 131, 132, 537, 538, 539, 540, 77, 328, 329, 330, 331, 332, 333, 334, 335, 168, 169, 170, 124, 125, 126, 127, 336, 337, 338, 339, 340, 341, 342, 343, 149, 344, 345, 346, 347, 85, 348, 349, 350, 351, 352, 353, 354, 355, 356, 357, 358, 359, 360, 361, 362, 363, 364, 365, 79, 80, 81, 366, 367, 368, 369, 370, 371, 372, 373, 374, 375, 376, 377, 404, 405, 406, 407, 577, 578, 579, 580, 581, 582, 583, 584, 585, 586, 587, 588, 589, 590, 591, 592] (by decide +kernel) (by decide +kernel)
set_option maxRecDepth 20000 in
theorem gL_law_X6_would : GoodIn wsL_law (wsV RL 129 RX6 yX6_would wsX6_would) := goodIn_app (goodIn_of _ (by decide +kernel)) ggL_law_X6_would
set_option maxRecDepth 20000 in
theorem ggL_law_L_forecast : GoodIn wsL_law wsL_forecast := goodIn_ca (goodIn_ca (goodIn_r _ [543, 91, 92, 544, 545, 546, 2, 547, 97, 98, 25, 548, 17, 99, 178, 109, 110, 111, 112, 113, 205, 206, 207, 208, 16, 516, 517, 518, 519, 520, 521, 522, 15, 523, 213, 240, 218, 220, 222, 33, 39, 524, 525, 526, 527, 40, 41, 42, 528, 529, 530, 32, 531, 51, 532, 52, 209, 210, 211, 212, 214, 215, 216, 217, 43, 219, 37, 221, 223, 224, 225, 226, 227, 228, 229, 230, 231, 232, 233, 234, 235, 236, 237, 238, 239, 241, 182, 183, 184, 242, 243, 244, 245, 246, 247, 248, 249, 250, 251, 252, 253, 254, 255, 45, 44, 256, 257, 258, 259, 260, 261, 262, 263, 264, 265, 266, 267, 268, 269, 270, 271, 272, 273, 274, 275, 276, 277, 278, 279, 280, 281, 282, 283, 284, 285, 286, 287, 288, 46, 289, 290, 291, 292, 293, 294, 295, 296, 297, 298, 299, 300, 301, 302, 303, 304, 305, 47, 491, 316, 317, 318, 549, 550, 551, 24, 552, 553, 70, 71, 573, 574, 575, 576, 616, 617, 618, 593, 594, 595, 596, 597, 598, 599, 600, 601, 602, 603, 604, 605, 606, 607, 608, 619, 620, 621, 622, 623, 624, 625] (by decide +kernel) (by decide +kernel)) (goodIn_sub (fun _ h => List.mem_append_left _ (List.mem_append_left _ (List.mem_append_right _ h))) (by decide +kernel))) (goodIn_sub (fun _ h => List.mem_append_right _ h) (by decide +kernel))
set_option maxRecDepth 20000 in
theorem gL_law_L_forecast : GoodIn wsL_law (va_wsS RL 130 yL_forecast wsL_forecast) := goodIn_app (goodIn_of _ (by decide +kernel)) ggL_law_L_forecast
set_option maxRecDepth 20000 in
theorem ggL_law_X6_forecast : GoodIn wsL_law wsX6_forecast := goodIn_r _ [557, 76, 323, 82, 83, 84, 121, 122, 5, 123, 324, 325, 326, 327, 132, 537, 538, 539, 540, 77, 328, 329, 330, 331, 332, 333, 334, 335, 168, 169, 170, 124, 125, 126, 127, 336, 337, 338, 339, 340, 341, 342, 343, 149, 344, 345, 346, 347, 85, 348, 349, 350, 351, 352, 353, 354, 355, 356, 357, 358, 359, 360, 361, 362, 363, 364, 365, 79, 80, 81, 366, 367, 368, 369, 370, 371, 372, 373, 374, 375, 376, 377, 378, 379, 380, 381, 577, 578, 579, 580, 581, 582, 583, 584, 585, 586, 587, 588, 589, 590, 591, 592] (by decide +kernel) (by decide +kernel)
set_option maxRecDepth 20000 in
theorem gL_law_X6_forecast : GoodIn wsL_law (wsV RL 132 RX6 yX6_forecast wsX6_forecast) := goodIn_app (goodIn_of _ (by decide +kernel)) ggL_law_X6_forecast
set_option maxRecDepth 20000 in
theorem ggL_law_L_miss : GoodIn wsL_law wsL_miss := goodIn_ca (goodIn_r _ [560, 90, 561, 562, 563, 2, 564, 107, 108, 25, 548, 565, 16, 178, 566, 21, 567, 568, 398, 225, 399, 573, 574, 575, 576, 616, 617, 618, 593, 594, 595, 596, 597, 598, 599, 600, 601, 602, 603, 604, 605, 606, 607, 608, 609, 610, 611, 612, 613, 614, 615] (by decide +kernel) (by decide +kernel)) (goodIn_sub (fun _ h => List.mem_append_left _ (List.mem_append_right _ h)) (by decide +kernel))
set_option maxRecDepth 20000 in
theorem gL_law_L_miss : GoodIn wsL_law (va_wsS RL 133 yL_miss wsL_miss) := goodIn_app (goodIn_of _ (by decide +kernel)) ggL_law_L_miss
set_option maxRecDepth 20000 in
theorem ggL_law_X6_miss : GoodIn wsL_law wsX6_miss := goodIn_r _ [572, 323, 84, 121, 122, 5, 123, 150, 151, 152, 153, 132, 577, 578, 579, 580, 581, 582, 583, 584, 585, 586, 587, 588, 589, 590, 591, 592] (by decide +kernel) (by decide +kernel)
set_option maxRecDepth 20000 in
theorem gL_law_X6_miss : GoodIn wsL_law (wsV RL 135 RX6 yX6_miss wsX6_miss) := goodIn_app (goodIn_of _ (by decide +kernel)) ggL_law_X6_miss
theorem dL_law_0 : decode cL_law 0 = .ok (.new 8, 3) := by decide +kernel
theorem dL_law_3 : decode cL_law 3 = .ok (.dup, 1) := by decide +kernel
theorem dL_law_4 : decode cL_law 4 = .ok (.invokespecial 64, 3) := by decide +kernel
theorem dL_law_7 : decode cL_law 7 = .ok (.astore_n 1, 1) := by decide +kernel
theorem dL_law_8 : decode cL_law 8 = .ok (.new 65, 3) := by decide +kernel
theorem dL_law_11 : decode cL_law 11 = .ok (.dup, 1) := by decide +kernel
theorem dL_law_12 : decode cL_law 12 = .ok (.invokespecial 67, 3) := by decide +kernel
theorem dL_law_15 : decode cL_law 15 = .ok (.astore_n 2, 1) := by decide +kernel
theorem dL_law_16 : decode cL_law 16 = .ok (.iconst 1, 1) := by decide +kernel
theorem dL_law_17 : decode cL_law 17 = .ok (.newarray .long, 2) := by decide +kernel
theorem dL_law_19 : decode cL_law 19 = .ok (.astore_n 3, 1) := by decide +kernel
theorem dL_law_20 : decode cL_law 20 = .ok (.iconst 0, 1) := by decide +kernel
theorem dL_law_21 : decode cL_law 21 = .ok (.istore 4, 2) := by decide +kernel
theorem dL_law_23 : decode cL_law 23 = .ok (.iload 4, 2) := by decide +kernel
theorem dL_law_25 : decode cL_law 25 = .ok (.aload_n 0, 1) := by decide +kernel
theorem dL_law_26 : decode cL_law 26 = .ok (.arraylength, 1) := by decide +kernel
theorem dL_law_27 : decode cL_law 27 = .ok (.iconst 4, 1) := by decide +kernel
theorem dL_law_28 : decode cL_law 28 = .ok (.isub, 1) := by decide +kernel
theorem dL_law_29 : decode cL_law 29 = .ok (.if_icmp .gt 1092, 3) := by decide +kernel
theorem dL_law_32 : decode cL_law 32 = .ok (.aload_n 0, 1) := by decide +kernel
theorem dL_law_33 : decode cL_law 33 = .ok (.iload 4, 2) := by decide +kernel
theorem dL_law_35 : decode cL_law 35 = .ok (.iaload, 1) := by decide +kernel
theorem dL_law_36 : decode cL_law 36 = .ok (.bipush 31, 2) := by decide +kernel
theorem dL_law_38 : decode cL_law 38 = .ok (.iand, 1) := by decide +kernel
theorem dL_law_39 : decode cL_law 39 = .ok (.tableswitch 1076 0 17 #[85, 153, 209, 269, 337, 350, 406, 474, 542, 610, 678, 691, 759, 815, 871, 884, 964, 1020], 85) := by decide +kernel
theorem dL_law_124 : decode cL_law 124 = .ok (.aload_n 1, 1) := by decide +kernel
theorem dL_law_125 : decode cL_law 125 = .ok (.aload_n 0, 1) := by decide +kernel
theorem dL_law_126 : decode cL_law 126 = .ok (.iload 4, 2) := by decide +kernel
theorem dL_law_128 : decode cL_law 128 = .ok (.iconst 1, 1) := by decide +kernel
theorem dL_law_129 : decode cL_law 129 = .ok (.iadd, 1) := by decide +kernel
theorem dL_law_130 : decode cL_law 130 = .ok (.iaload, 1) := by decide +kernel
theorem dL_law_131 : decode cL_law 131 = .ok (.aload_n 0, 1) := by decide +kernel
theorem dL_law_132 : decode cL_law 132 = .ok (.iload 4, 2) := by decide +kernel
theorem dL_law_134 : decode cL_law 134 = .ok (.iconst 2, 1) := by decide +kernel
theorem dL_law_135 : decode cL_law 135 = .ok (.iadd, 1) := by decide +kernel
theorem dL_law_136 : decode cL_law 136 = .ok (.iaload, 1) := by decide +kernel
theorem dL_law_137 : decode cL_law 137 = .ok (.aload_n 3, 1) := by decide +kernel
theorem dL_law_138 : decode cL_law 138 = .ok (.invokestatic 68, 3) := by decide +kernel
theorem dL_law_141 : decode cL_law 141 = .ok (.istore 5, 2) := by decide +kernel
theorem dL_law_143 : decode cL_law 143 = .ok (.aload_n 2, 1) := by decide +kernel
theorem dL_law_144 : decode cL_law 144 = .ok (.aload_n 0, 1) := by decide +kernel
theorem dL_law_145 : decode cL_law 145 = .ok (.iload 4, 2) := by decide +kernel
theorem dL_law_147 : decode cL_law 147 = .ok (.iconst 1, 1) := by decide +kernel
theorem dL_law_148 : decode cL_law 148 = .ok (.iadd, 1) := by decide +kernel
theorem dL_law_149 : decode cL_law 149 = .ok (.iaload, 1) := by decide +kernel
theorem dL_law_150 : decode cL_law 150 = .ok (.aload_n 0, 1) := by decide +kernel
theorem dL_law_151 : decode cL_law 151 = .ok (.iload 4, 2) := by decide +kernel
theorem dL_law_153 : decode cL_law 153 = .ok (.iconst 2, 1) := by decide +kernel
theorem dL_law_154 : decode cL_law 154 = .ok (.iadd, 1) := by decide +kernel
theorem dL_law_155 : decode cL_law 155 = .ok (.iaload, 1) := by decide +kernel
theorem dL_law_156 : decode cL_law 156 = .ok (.invokevirtual 73, 3) := by decide +kernel
theorem dL_law_159 : decode cL_law 159 = .ok (.istore 6, 2) := by decide +kernel
theorem dL_law_161 : decode cL_law 161 = .ok (.aload_n 2, 1) := by decide +kernel
theorem dL_law_162 : decode cL_law 162 = .ok (.invokevirtual 74, 3) := by decide +kernel
theorem dL_law_165 : decode cL_law 165 = .ok (.iload 5, 2) := by decide +kernel
theorem dL_law_167 : decode cL_law 167 = .ok (.if_icmp .eq 5, 3) := by decide +kernel
theorem dL_law_170 : decode cL_law 170 = .ok (.iconst 0, 1) := by decide +kernel
theorem dL_law_171 : decode cL_law 171 = .ok (.ireturn, 1) := by decide +kernel
theorem dL_law_172 : decode cL_law 172 = .ok (.iload 5, 2) := by decide +kernel
theorem dL_law_174 : decode cL_law 174 = .ok (.ifCond .ne 15, 3) := by decide +kernel
theorem dL_law_177 : decode cL_law 177 = .ok (.aload_n 3, 1) := by decide +kernel
theorem dL_law_178 : decode cL_law 178 = .ok (.iconst 0, 1) := by decide +kernel
theorem dL_law_179 : decode cL_law 179 = .ok (.laload, 1) := by decide +kernel
theorem dL_law_180 : decode cL_law 180 = .ok (.iload 6, 2) := by decide +kernel
theorem dL_law_182 : decode cL_law 182 = .ok (.i2l, 1) := by decide +kernel
theorem dL_law_183 : decode cL_law 183 = .ok (.lcmp, 1) := by decide +kernel
theorem dL_law_184 : decode cL_law 184 = .ok (.ifCond .eq 5, 3) := by decide +kernel
theorem dL_law_187 : decode cL_law 187 = .ok (.iconst 0, 1) := by decide +kernel
theorem dL_law_188 : decode cL_law 188 = .ok (.ireturn, 1) := by decide +kernel
theorem dL_law_189 : decode cL_law 189 = .ok (.goto 926, 3) := by decide +kernel
theorem dL_law_192 : decode cL_law 192 = .ok (.aload_n 1, 1) := by decide +kernel
theorem dL_law_193 : decode cL_law 193 = .ok (.aload_n 0, 1) := by decide +kernel
theorem dL_law_194 : decode cL_law 194 = .ok (.iload 4, 2) := by decide +kernel
theorem dL_law_196 : decode cL_law 196 = .ok (.iconst 1, 1) := by decide +kernel
theorem dL_law_197 : decode cL_law 197 = .ok (.iadd, 1) := by decide +kernel
theorem dL_law_198 : decode cL_law 198 = .ok (.iaload, 1) := by decide +kernel
theorem dL_law_199 : decode cL_law 199 = .ok (.aload_n 3, 1) := by decide +kernel
theorem dL_law_200 : decode cL_law 200 = .ok (.invokestatic 78, 3) := by decide +kernel
theorem dL_law_203 : decode cL_law 203 = .ok (.istore 5, 2) := by decide +kernel
theorem dL_law_205 : decode cL_law 205 = .ok (.aload_n 2, 1) := by decide +kernel
theorem dL_law_206 : decode cL_law 206 = .ok (.aload_n 0, 1) := by decide +kernel
theorem dL_law_207 : decode cL_law 207 = .ok (.iload 4, 2) := by decide +kernel
theorem dL_law_209 : decode cL_law 209 = .ok (.iconst 1, 1) := by decide +kernel
theorem dL_law_210 : decode cL_law 210 = .ok (.iadd, 1) := by decide +kernel
theorem dL_law_211 : decode cL_law 211 = .ok (.iaload, 1) := by decide +kernel
theorem dL_law_212 : decode cL_law 212 = .ok (.invokevirtual 81, 3) := by decide +kernel
theorem dL_law_215 : decode cL_law 215 = .ok (.istore 6, 2) := by decide +kernel
theorem dL_law_217 : decode cL_law 217 = .ok (.aload_n 2, 1) := by decide +kernel
theorem dL_law_218 : decode cL_law 218 = .ok (.invokevirtual 74, 3) := by decide +kernel
theorem dL_law_221 : decode cL_law 221 = .ok (.iload 5, 2) := by decide +kernel
theorem dL_law_223 : decode cL_law 223 = .ok (.if_icmp .eq 5, 3) := by decide +kernel
theorem dL_law_226 : decode cL_law 226 = .ok (.iconst 0, 1) := by decide +kernel
theorem dL_law_227 : decode cL_law 227 = .ok (.ireturn, 1) := by decide +kernel
theorem dL_law_228 : decode cL_law 228 = .ok (.iload 5, 2) := by decide +kernel
theorem dL_law_230 : decode cL_law 230 = .ok (.ifCond .ne 15, 3) := by decide +kernel
theorem dL_law_233 : decode cL_law 233 = .ok (.aload_n 3, 1) := by decide +kernel
theorem dL_law_234 : decode cL_law 234 = .ok (.iconst 0, 1) := by decide +kernel
theorem dL_law_235 : decode cL_law 235 = .ok (.laload, 1) := by decide +kernel
theorem dL_law_236 : decode cL_law 236 = .ok (.iload 6, 2) := by decide +kernel
theorem dL_law_238 : decode cL_law 238 = .ok (.i2l, 1) := by decide +kernel
theorem dL_law_239 : decode cL_law 239 = .ok (.lcmp, 1) := by decide +kernel
theorem dL_law_240 : decode cL_law 240 = .ok (.ifCond .eq 5, 3) := by decide +kernel
theorem dL_law_243 : decode cL_law 243 = .ok (.iconst 0, 1) := by decide +kernel
theorem dL_law_244 : decode cL_law 244 = .ok (.ireturn, 1) := by decide +kernel
theorem dL_law_245 : decode cL_law 245 = .ok (.goto 870, 3) := by decide +kernel
theorem dL_law_248 : decode cL_law 248 = .ok (.aload_n 1, 1) := by decide +kernel
theorem dL_law_249 : decode cL_law 249 = .ok (.aload_n 0, 1) := by decide +kernel
theorem dL_law_250 : decode cL_law 250 = .ok (.iload 4, 2) := by decide +kernel
theorem dL_law_252 : decode cL_law 252 = .ok (.iconst 1, 1) := by decide +kernel
theorem dL_law_253 : decode cL_law 253 = .ok (.iadd, 1) := by decide +kernel
theorem dL_law_254 : decode cL_law 254 = .ok (.iaload, 1) := by decide +kernel
theorem dL_law_255 : decode cL_law 255 = .ok (.aload_n 0, 1) := by decide +kernel
theorem dL_law_256 : decode cL_law 256 = .ok (.iload 4, 2) := by decide +kernel
theorem dL_law_258 : decode cL_law 258 = .ok (.iconst 2, 1) := by decide +kernel
theorem dL_law_259 : decode cL_law 259 = .ok (.iadd, 1) := by decide +kernel
theorem dL_law_260 : decode cL_law 260 = .ok (.iaload, 1) := by decide +kernel
theorem dL_law_261 : decode cL_law 261 = .ok (.aload_n 0, 1) := by decide +kernel
theorem dL_law_262 : decode cL_law 262 = .ok (.iload 4, 2) := by decide +kernel
theorem dL_law_264 : decode cL_law 264 = .ok (.iconst 3, 1) := by decide +kernel
theorem dL_law_265 : decode cL_law 265 = .ok (.iadd, 1) := by decide +kernel
theorem dL_law_266 : decode cL_law 266 = .ok (.iaload, 1) := by decide +kernel
theorem dL_law_267 : decode cL_law 267 = .ok (.invokestatic 82, 3) := by decide +kernel
theorem dL_law_270 : decode cL_law 270 = .ok (.istore 5, 2) := by decide +kernel
theorem dL_law_272 : decode cL_law 272 = .ok (.aload_n 2, 1) := by decide +kernel
theorem dL_law_273 : decode cL_law 273 = .ok (.aload_n 0, 1) := by decide +kernel
theorem dL_law_274 : decode cL_law 274 = .ok (.iload 4, 2) := by decide +kernel
theorem dL_law_276 : decode cL_law 276 = .ok (.iconst 1, 1) := by decide +kernel
theorem dL_law_277 : decode cL_law 277 = .ok (.iadd, 1) := by decide +kernel
theorem dL_law_278 : decode cL_law 278 = .ok (.iaload, 1) := by decide +kernel
theorem dL_law_279 : decode cL_law 279 = .ok (.aload_n 0, 1) := by decide +kernel
theorem dL_law_280 : decode cL_law 280 = .ok (.iload 4, 2) := by decide +kernel
theorem dL_law_282 : decode cL_law 282 = .ok (.iconst 2, 1) := by decide +kernel
theorem dL_law_283 : decode cL_law 283 = .ok (.iadd, 1) := by decide +kernel
theorem dL_law_284 : decode cL_law 284 = .ok (.iaload, 1) := by decide +kernel
theorem dL_law_285 : decode cL_law 285 = .ok (.aload_n 0, 1) := by decide +kernel
theorem dL_law_286 : decode cL_law 286 = .ok (.iload 4, 2) := by decide +kernel
theorem dL_law_288 : decode cL_law 288 = .ok (.iconst 3, 1) := by decide +kernel
theorem dL_law_289 : decode cL_law 289 = .ok (.iadd, 1) := by decide +kernel
theorem dL_law_290 : decode cL_law 290 = .ok (.iaload, 1) := by decide +kernel
theorem dL_law_291 : decode cL_law 291 = .ok (.invokevirtual 85, 3) := by decide +kernel
theorem dL_law_294 : decode cL_law 294 = .ok (.aload_n 2, 1) := by decide +kernel
theorem dL_law_295 : decode cL_law 295 = .ok (.invokevirtual 74, 3) := by decide +kernel
theorem dL_law_298 : decode cL_law 298 = .ok (.iload 5, 2) := by decide +kernel
theorem dL_law_300 : decode cL_law 300 = .ok (.if_icmp .eq 5, 3) := by decide +kernel
theorem dL_law_303 : decode cL_law 303 = .ok (.iconst 0, 1) := by decide +kernel
theorem dL_law_304 : decode cL_law 304 = .ok (.ireturn, 1) := by decide +kernel
theorem dL_law_305 : decode cL_law 305 = .ok (.goto 810, 3) := by decide +kernel
theorem dL_law_308 : decode cL_law 308 = .ok (.aload_n 1, 1) := by decide +kernel
theorem dL_law_309 : decode cL_law 309 = .ok (.aload_n 0, 1) := by decide +kernel
theorem dL_law_310 : decode cL_law 310 = .ok (.iload 4, 2) := by decide +kernel
theorem dL_law_312 : decode cL_law 312 = .ok (.iconst 1, 1) := by decide +kernel
theorem dL_law_313 : decode cL_law 313 = .ok (.iadd, 1) := by decide +kernel
theorem dL_law_314 : decode cL_law 314 = .ok (.iaload, 1) := by decide +kernel
theorem dL_law_315 : decode cL_law 315 = .ok (.aload_n 0, 1) := by decide +kernel
theorem dL_law_316 : decode cL_law 316 = .ok (.iload 4, 2) := by decide +kernel
theorem dL_law_318 : decode cL_law 318 = .ok (.iconst 2, 1) := by decide +kernel
theorem dL_law_319 : decode cL_law 319 = .ok (.iadd, 1) := by decide +kernel
theorem dL_law_320 : decode cL_law 320 = .ok (.iaload, 1) := by decide +kernel
theorem dL_law_321 : decode cL_law 321 = .ok (.aload_n 3, 1) := by decide +kernel
theorem dL_law_322 : decode cL_law 322 = .ok (.invokestatic 86, 3) := by decide +kernel
theorem dL_law_325 : decode cL_law 325 = .ok (.istore 5, 2) := by decide +kernel
theorem dL_law_327 : decode cL_law 327 = .ok (.aload_n 2, 1) := by decide +kernel
theorem dL_law_328 : decode cL_law 328 = .ok (.aload_n 0, 1) := by decide +kernel
theorem dL_law_329 : decode cL_law 329 = .ok (.iload 4, 2) := by decide +kernel
theorem dL_law_331 : decode cL_law 331 = .ok (.iconst 1, 1) := by decide +kernel
theorem dL_law_332 : decode cL_law 332 = .ok (.iadd, 1) := by decide +kernel
theorem dL_law_333 : decode cL_law 333 = .ok (.iaload, 1) := by decide +kernel
theorem dL_law_334 : decode cL_law 334 = .ok (.aload_n 0, 1) := by decide +kernel
theorem dL_law_335 : decode cL_law 335 = .ok (.iload 4, 2) := by decide +kernel
theorem dL_law_337 : decode cL_law 337 = .ok (.iconst 2, 1) := by decide +kernel
theorem dL_law_338 : decode cL_law 338 = .ok (.iadd, 1) := by decide +kernel
theorem dL_law_339 : decode cL_law 339 = .ok (.iaload, 1) := by decide +kernel
theorem dL_law_340 : decode cL_law 340 = .ok (.invokevirtual 88, 3) := by decide +kernel
theorem dL_law_343 : decode cL_law 343 = .ok (.istore 6, 2) := by decide +kernel
theorem dL_law_345 : decode cL_law 345 = .ok (.aload_n 2, 1) := by decide +kernel
theorem dL_law_346 : decode cL_law 346 = .ok (.invokevirtual 74, 3) := by decide +kernel
theorem dL_law_349 : decode cL_law 349 = .ok (.iload 5, 2) := by decide +kernel
theorem dL_law_351 : decode cL_law 351 = .ok (.if_icmp .eq 5, 3) := by decide +kernel
theorem dL_law_354 : decode cL_law 354 = .ok (.iconst 0, 1) := by decide +kernel
theorem dL_law_355 : decode cL_law 355 = .ok (.ireturn, 1) := by decide +kernel
theorem dL_law_356 : decode cL_law 356 = .ok (.iload 5, 2) := by decide +kernel
theorem dL_law_358 : decode cL_law 358 = .ok (.ifCond .ne 15, 3) := by decide +kernel
theorem dL_law_361 : decode cL_law 361 = .ok (.aload_n 3, 1) := by decide +kernel
theorem dL_law_362 : decode cL_law 362 = .ok (.iconst 0, 1) := by decide +kernel
theorem dL_law_363 : decode cL_law 363 = .ok (.laload, 1) := by decide +kernel
theorem dL_law_364 : decode cL_law 364 = .ok (.iload 6, 2) := by decide +kernel
theorem dL_law_366 : decode cL_law 366 = .ok (.i2l, 1) := by decide +kernel
theorem dL_law_367 : decode cL_law 367 = .ok (.lcmp, 1) := by decide +kernel
theorem dL_law_368 : decode cL_law 368 = .ok (.ifCond .eq 5, 3) := by decide +kernel
theorem dL_law_371 : decode cL_law 371 = .ok (.iconst 0, 1) := by decide +kernel
theorem dL_law_372 : decode cL_law 372 = .ok (.ireturn, 1) := by decide +kernel
theorem dL_law_373 : decode cL_law 373 = .ok (.goto 742, 3) := by decide +kernel
theorem dL_law_376 : decode cL_law 376 = .ok (.aload_n 1, 1) := by decide +kernel
theorem dL_law_377 : decode cL_law 377 = .ok (.invokevirtual 89, 3) := by decide +kernel
theorem dL_law_380 : decode cL_law 380 = .ok (.aload_n 2, 1) := by decide +kernel
theorem dL_law_381 : decode cL_law 381 = .ok (.invokevirtual 93, 3) := by decide +kernel
theorem dL_law_384 : decode cL_law 384 = .ok (.if_icmp .eq 731, 3) := by decide +kernel
theorem dL_law_387 : decode cL_law 387 = .ok (.iconst 0, 1) := by decide +kernel
theorem dL_law_388 : decode cL_law 388 = .ok (.ireturn, 1) := by decide +kernel
theorem dL_law_389 : decode cL_law 389 = .ok (.aload_n 1, 1) := by decide +kernel
theorem dL_law_390 : decode cL_law 390 = .ok (.aload_n 0, 1) := by decide +kernel
theorem dL_law_391 : decode cL_law 391 = .ok (.iload 4, 2) := by decide +kernel
theorem dL_law_393 : decode cL_law 393 = .ok (.iconst 1, 1) := by decide +kernel
theorem dL_law_394 : decode cL_law 394 = .ok (.iadd, 1) := by decide +kernel
theorem dL_law_395 : decode cL_law 395 = .ok (.iaload, 1) := by decide +kernel
theorem dL_law_396 : decode cL_law 396 = .ok (.aload_n 3, 1) := by decide +kernel
theorem dL_law_397 : decode cL_law 397 = .ok (.invokestatic 94, 3) := by decide +kernel
theorem dL_law_400 : decode cL_law 400 = .ok (.istore 5, 2) := by decide +kernel
theorem dL_law_402 : decode cL_law 402 = .ok (.aload_n 2, 1) := by decide +kernel
theorem dL_law_403 : decode cL_law 403 = .ok (.aload_n 0, 1) := by decide +kernel
theorem dL_law_404 : decode cL_law 404 = .ok (.iload 4, 2) := by decide +kernel
theorem dL_law_406 : decode cL_law 406 = .ok (.iconst 1, 1) := by decide +kernel
theorem dL_law_407 : decode cL_law 407 = .ok (.iadd, 1) := by decide +kernel
theorem dL_law_408 : decode cL_law 408 = .ok (.iaload, 1) := by decide +kernel
theorem dL_law_409 : decode cL_law 409 = .ok (.invokevirtual 96, 3) := by decide +kernel
theorem dL_law_412 : decode cL_law 412 = .ok (.istore 6, 2) := by decide +kernel
theorem dL_law_414 : decode cL_law 414 = .ok (.aload_n 2, 1) := by decide +kernel
theorem dL_law_415 : decode cL_law 415 = .ok (.invokevirtual 74, 3) := by decide +kernel
theorem dL_law_418 : decode cL_law 418 = .ok (.iload 5, 2) := by decide +kernel
theorem dL_law_420 : decode cL_law 420 = .ok (.if_icmp .eq 5, 3) := by decide +kernel
theorem dL_law_423 : decode cL_law 423 = .ok (.iconst 0, 1) := by decide +kernel
theorem dL_law_424 : decode cL_law 424 = .ok (.ireturn, 1) := by decide +kernel
theorem dL_law_425 : decode cL_law 425 = .ok (.iload 5, 2) := by decide +kernel
theorem dL_law_427 : decode cL_law 427 = .ok (.ifCond .ne 15, 3) := by decide +kernel
theorem dL_law_430 : decode cL_law 430 = .ok (.aload_n 3, 1) := by decide +kernel
theorem dL_law_431 : decode cL_law 431 = .ok (.iconst 0, 1) := by decide +kernel
theorem dL_law_432 : decode cL_law 432 = .ok (.laload, 1) := by decide +kernel
theorem dL_law_433 : decode cL_law 433 = .ok (.iload 6, 2) := by decide +kernel
theorem dL_law_435 : decode cL_law 435 = .ok (.i2l, 1) := by decide +kernel
theorem dL_law_436 : decode cL_law 436 = .ok (.lcmp, 1) := by decide +kernel
theorem dL_law_437 : decode cL_law 437 = .ok (.ifCond .eq 5, 3) := by decide +kernel
theorem dL_law_440 : decode cL_law 440 = .ok (.iconst 0, 1) := by decide +kernel
theorem dL_law_441 : decode cL_law 441 = .ok (.ireturn, 1) := by decide +kernel
theorem dL_law_442 : decode cL_law 442 = .ok (.goto 673, 3) := by decide +kernel
theorem dL_law_445 : decode cL_law 445 = .ok (.aload_n 1, 1) := by decide +kernel
theorem dL_law_446 : decode cL_law 446 = .ok (.aload_n 0, 1) := by decide +kernel
theorem dL_law_447 : decode cL_law 447 = .ok (.iload 4, 2) := by decide +kernel
theorem dL_law_449 : decode cL_law 449 = .ok (.iconst 1, 1) := by decide +kernel
theorem dL_law_450 : decode cL_law 450 = .ok (.iadd, 1) := by decide +kernel
theorem dL_law_451 : decode cL_law 451 = .ok (.iaload, 1) := by decide +kernel
theorem dL_law_452 : decode cL_law 452 = .ok (.aload_n 0, 1) := by decide +kernel
theorem dL_law_453 : decode cL_law 453 = .ok (.iload 4, 2) := by decide +kernel
theorem dL_law_455 : decode cL_law 455 = .ok (.iconst 2, 1) := by decide +kernel
theorem dL_law_456 : decode cL_law 456 = .ok (.iadd, 1) := by decide +kernel
theorem dL_law_457 : decode cL_law 457 = .ok (.iaload, 1) := by decide +kernel
theorem dL_law_458 : decode cL_law 458 = .ok (.aload_n 3, 1) := by decide +kernel
theorem dL_law_459 : decode cL_law 459 = .ok (.invokestatic 97, 3) := by decide +kernel
theorem dL_law_462 : decode cL_law 462 = .ok (.istore 5, 2) := by decide +kernel
theorem dL_law_464 : decode cL_law 464 = .ok (.aload_n 2, 1) := by decide +kernel
theorem dL_law_465 : decode cL_law 465 = .ok (.aload_n 0, 1) := by decide +kernel
theorem dL_law_466 : decode cL_law 466 = .ok (.iload 4, 2) := by decide +kernel
theorem dL_law_468 : decode cL_law 468 = .ok (.iconst 1, 1) := by decide +kernel
theorem dL_law_469 : decode cL_law 469 = .ok (.iadd, 1) := by decide +kernel
theorem dL_law_470 : decode cL_law 470 = .ok (.iaload, 1) := by decide +kernel
theorem dL_law_471 : decode cL_law 471 = .ok (.aload_n 0, 1) := by decide +kernel
theorem dL_law_472 : decode cL_law 472 = .ok (.iload 4, 2) := by decide +kernel
theorem dL_law_474 : decode cL_law 474 = .ok (.iconst 2, 1) := by decide +kernel
theorem dL_law_475 : decode cL_law 475 = .ok (.iadd, 1) := by decide +kernel
theorem dL_law_476 : decode cL_law 476 = .ok (.iaload, 1) := by decide +kernel
theorem dL_law_477 : decode cL_law 477 = .ok (.invokevirtual 99, 3) := by decide +kernel
theorem dL_law_480 : decode cL_law 480 = .ok (.istore 6, 2) := by decide +kernel
theorem dL_law_482 : decode cL_law 482 = .ok (.aload_n 2, 1) := by decide +kernel
theorem dL_law_483 : decode cL_law 483 = .ok (.invokevirtual 74, 3) := by decide +kernel
theorem dL_law_486 : decode cL_law 486 = .ok (.iload 5, 2) := by decide +kernel
theorem dL_law_488 : decode cL_law 488 = .ok (.if_icmp .eq 5, 3) := by decide +kernel
theorem dL_law_491 : decode cL_law 491 = .ok (.iconst 0, 1) := by decide +kernel
theorem dL_law_492 : decode cL_law 492 = .ok (.ireturn, 1) := by decide +kernel
theorem dL_law_493 : decode cL_law 493 = .ok (.iload 5, 2) := by decide +kernel
theorem dL_law_495 : decode cL_law 495 = .ok (.ifCond .ne 15, 3) := by decide +kernel
theorem dL_law_498 : decode cL_law 498 = .ok (.aload_n 3, 1) := by decide +kernel
theorem dL_law_499 : decode cL_law 499 = .ok (.iconst 0, 1) := by decide +kernel
theorem dL_law_500 : decode cL_law 500 = .ok (.laload, 1) := by decide +kernel
theorem dL_law_501 : decode cL_law 501 = .ok (.iload 6, 2) := by decide +kernel
theorem dL_law_503 : decode cL_law 503 = .ok (.i2l, 1) := by decide +kernel
theorem dL_law_504 : decode cL_law 504 = .ok (.lcmp, 1) := by decide +kernel
theorem dL_law_505 : decode cL_law 505 = .ok (.ifCond .eq 5, 3) := by decide +kernel
theorem dL_law_508 : decode cL_law 508 = .ok (.iconst 0, 1) := by decide +kernel
theorem dL_law_509 : decode cL_law 509 = .ok (.ireturn, 1) := by decide +kernel
theorem dL_law_510 : decode cL_law 510 = .ok (.goto 605, 3) := by decide +kernel
theorem dL_law_513 : decode cL_law 513 = .ok (.aload_n 1, 1) := by decide +kernel
theorem dL_law_514 : decode cL_law 514 = .ok (.aload_n 0, 1) := by decide +kernel
theorem dL_law_515 : decode cL_law 515 = .ok (.iload 4, 2) := by decide +kernel
theorem dL_law_517 : decode cL_law 517 = .ok (.iconst 1, 1) := by decide +kernel
theorem dL_law_518 : decode cL_law 518 = .ok (.iadd, 1) := by decide +kernel
theorem dL_law_519 : decode cL_law 519 = .ok (.iaload, 1) := by decide +kernel
theorem dL_law_520 : decode cL_law 520 = .ok (.aload_n 0, 1) := by decide +kernel
theorem dL_law_521 : decode cL_law 521 = .ok (.iload 4, 2) := by decide +kernel
theorem dL_law_523 : decode cL_law 523 = .ok (.iconst 2, 1) := by decide +kernel
theorem dL_law_524 : decode cL_law 524 = .ok (.iadd, 1) := by decide +kernel
theorem dL_law_525 : decode cL_law 525 = .ok (.iaload, 1) := by decide +kernel
theorem dL_law_526 : decode cL_law 526 = .ok (.aload_n 3, 1) := by decide +kernel
theorem dL_law_527 : decode cL_law 527 = .ok (.invokestatic 100, 3) := by decide +kernel
theorem dL_law_530 : decode cL_law 530 = .ok (.istore 5, 2) := by decide +kernel
theorem dL_law_532 : decode cL_law 532 = .ok (.aload_n 2, 1) := by decide +kernel
theorem dL_law_533 : decode cL_law 533 = .ok (.aload_n 0, 1) := by decide +kernel
theorem dL_law_534 : decode cL_law 534 = .ok (.iload 4, 2) := by decide +kernel
theorem dL_law_536 : decode cL_law 536 = .ok (.iconst 1, 1) := by decide +kernel
theorem dL_law_537 : decode cL_law 537 = .ok (.iadd, 1) := by decide +kernel
theorem dL_law_538 : decode cL_law 538 = .ok (.iaload, 1) := by decide +kernel
theorem dL_law_539 : decode cL_law 539 = .ok (.aload_n 0, 1) := by decide +kernel
theorem dL_law_540 : decode cL_law 540 = .ok (.iload 4, 2) := by decide +kernel
theorem dL_law_542 : decode cL_law 542 = .ok (.iconst 2, 1) := by decide +kernel
theorem dL_law_543 : decode cL_law 543 = .ok (.iadd, 1) := by decide +kernel
theorem dL_law_544 : decode cL_law 544 = .ok (.iaload, 1) := by decide +kernel
theorem dL_law_545 : decode cL_law 545 = .ok (.invokevirtual 102, 3) := by decide +kernel
theorem dL_law_548 : decode cL_law 548 = .ok (.istore 6, 2) := by decide +kernel
theorem dL_law_550 : decode cL_law 550 = .ok (.aload_n 2, 1) := by decide +kernel
theorem dL_law_551 : decode cL_law 551 = .ok (.invokevirtual 74, 3) := by decide +kernel
theorem dL_law_554 : decode cL_law 554 = .ok (.iload 5, 2) := by decide +kernel
theorem dL_law_556 : decode cL_law 556 = .ok (.if_icmp .eq 5, 3) := by decide +kernel
theorem dL_law_559 : decode cL_law 559 = .ok (.iconst 0, 1) := by decide +kernel
theorem dL_law_560 : decode cL_law 560 = .ok (.ireturn, 1) := by decide +kernel
theorem dL_law_561 : decode cL_law 561 = .ok (.iload 5, 2) := by decide +kernel
theorem dL_law_563 : decode cL_law 563 = .ok (.ifCond .ne 15, 3) := by decide +kernel
theorem dL_law_566 : decode cL_law 566 = .ok (.aload_n 3, 1) := by decide +kernel
theorem dL_law_567 : decode cL_law 567 = .ok (.iconst 0, 1) := by decide +kernel
theorem dL_law_568 : decode cL_law 568 = .ok (.laload, 1) := by decide +kernel
theorem dL_law_569 : decode cL_law 569 = .ok (.iload 6, 2) := by decide +kernel
theorem dL_law_571 : decode cL_law 571 = .ok (.i2l, 1) := by decide +kernel
theorem dL_law_572 : decode cL_law 572 = .ok (.lcmp, 1) := by decide +kernel
theorem dL_law_573 : decode cL_law 573 = .ok (.ifCond .eq 5, 3) := by decide +kernel
theorem dL_law_576 : decode cL_law 576 = .ok (.iconst 0, 1) := by decide +kernel
theorem dL_law_577 : decode cL_law 577 = .ok (.ireturn, 1) := by decide +kernel
theorem dL_law_578 : decode cL_law 578 = .ok (.goto 537, 3) := by decide +kernel
theorem dL_law_581 : decode cL_law 581 = .ok (.aload_n 1, 1) := by decide +kernel
theorem dL_law_582 : decode cL_law 582 = .ok (.aload_n 0, 1) := by decide +kernel
theorem dL_law_583 : decode cL_law 583 = .ok (.iload 4, 2) := by decide +kernel
theorem dL_law_585 : decode cL_law 585 = .ok (.iconst 1, 1) := by decide +kernel
theorem dL_law_586 : decode cL_law 586 = .ok (.iadd, 1) := by decide +kernel
theorem dL_law_587 : decode cL_law 587 = .ok (.iaload, 1) := by decide +kernel
theorem dL_law_588 : decode cL_law 588 = .ok (.aload_n 0, 1) := by decide +kernel
theorem dL_law_589 : decode cL_law 589 = .ok (.iload 4, 2) := by decide +kernel
theorem dL_law_591 : decode cL_law 591 = .ok (.iconst 2, 1) := by decide +kernel
theorem dL_law_592 : decode cL_law 592 = .ok (.iadd, 1) := by decide +kernel
theorem dL_law_593 : decode cL_law 593 = .ok (.iaload, 1) := by decide +kernel
theorem dL_law_594 : decode cL_law 594 = .ok (.aload_n 3, 1) := by decide +kernel
theorem dL_law_595 : decode cL_law 595 = .ok (.invokestatic 103, 3) := by decide +kernel
theorem dL_law_598 : decode cL_law 598 = .ok (.istore 5, 2) := by decide +kernel
theorem dL_law_600 : decode cL_law 600 = .ok (.aload_n 2, 1) := by decide +kernel
theorem dL_law_601 : decode cL_law 601 = .ok (.aload_n 0, 1) := by decide +kernel
theorem dL_law_602 : decode cL_law 602 = .ok (.iload 4, 2) := by decide +kernel
theorem dL_law_604 : decode cL_law 604 = .ok (.iconst 1, 1) := by decide +kernel
theorem dL_law_605 : decode cL_law 605 = .ok (.iadd, 1) := by decide +kernel
theorem dL_law_606 : decode cL_law 606 = .ok (.iaload, 1) := by decide +kernel
theorem dL_law_607 : decode cL_law 607 = .ok (.aload_n 0, 1) := by decide +kernel
theorem dL_law_608 : decode cL_law 608 = .ok (.iload 4, 2) := by decide +kernel
theorem dL_law_610 : decode cL_law 610 = .ok (.iconst 2, 1) := by decide +kernel
theorem dL_law_611 : decode cL_law 611 = .ok (.iadd, 1) := by decide +kernel
theorem dL_law_612 : decode cL_law 612 = .ok (.iaload, 1) := by decide +kernel
theorem dL_law_613 : decode cL_law 613 = .ok (.invokevirtual 105, 3) := by decide +kernel
theorem dL_law_616 : decode cL_law 616 = .ok (.istore 6, 2) := by decide +kernel
theorem dL_law_618 : decode cL_law 618 = .ok (.aload_n 2, 1) := by decide +kernel
theorem dL_law_619 : decode cL_law 619 = .ok (.invokevirtual 74, 3) := by decide +kernel
theorem dL_law_622 : decode cL_law 622 = .ok (.iload 5, 2) := by decide +kernel
theorem dL_law_624 : decode cL_law 624 = .ok (.if_icmp .eq 5, 3) := by decide +kernel
theorem dL_law_627 : decode cL_law 627 = .ok (.iconst 0, 1) := by decide +kernel
theorem dL_law_628 : decode cL_law 628 = .ok (.ireturn, 1) := by decide +kernel
theorem dL_law_629 : decode cL_law 629 = .ok (.iload 5, 2) := by decide +kernel
theorem dL_law_631 : decode cL_law 631 = .ok (.ifCond .ne 15, 3) := by decide +kernel
theorem dL_law_634 : decode cL_law 634 = .ok (.aload_n 3, 1) := by decide +kernel
theorem dL_law_635 : decode cL_law 635 = .ok (.iconst 0, 1) := by decide +kernel
theorem dL_law_636 : decode cL_law 636 = .ok (.laload, 1) := by decide +kernel
theorem dL_law_637 : decode cL_law 637 = .ok (.iload 6, 2) := by decide +kernel
theorem dL_law_639 : decode cL_law 639 = .ok (.i2l, 1) := by decide +kernel
theorem dL_law_640 : decode cL_law 640 = .ok (.lcmp, 1) := by decide +kernel
theorem dL_law_641 : decode cL_law 641 = .ok (.ifCond .eq 5, 3) := by decide +kernel
theorem dL_law_644 : decode cL_law 644 = .ok (.iconst 0, 1) := by decide +kernel
theorem dL_law_645 : decode cL_law 645 = .ok (.ireturn, 1) := by decide +kernel
theorem dL_law_646 : decode cL_law 646 = .ok (.goto 469, 3) := by decide +kernel
theorem dL_law_649 : decode cL_law 649 = .ok (.aload_n 1, 1) := by decide +kernel
theorem dL_law_650 : decode cL_law 650 = .ok (.aload_n 0, 1) := by decide +kernel
theorem dL_law_651 : decode cL_law 651 = .ok (.iload 4, 2) := by decide +kernel
theorem dL_law_653 : decode cL_law 653 = .ok (.iconst 1, 1) := by decide +kernel
theorem dL_law_654 : decode cL_law 654 = .ok (.iadd, 1) := by decide +kernel
theorem dL_law_655 : decode cL_law 655 = .ok (.iaload, 1) := by decide +kernel
theorem dL_law_656 : decode cL_law 656 = .ok (.aload_n 0, 1) := by decide +kernel
theorem dL_law_657 : decode cL_law 657 = .ok (.iload 4, 2) := by decide +kernel
theorem dL_law_659 : decode cL_law 659 = .ok (.iconst 2, 1) := by decide +kernel
theorem dL_law_660 : decode cL_law 660 = .ok (.iadd, 1) := by decide +kernel
theorem dL_law_661 : decode cL_law 661 = .ok (.iaload, 1) := by decide +kernel
theorem dL_law_662 : decode cL_law 662 = .ok (.aload_n 3, 1) := by decide +kernel
theorem dL_law_663 : decode cL_law 663 = .ok (.invokestatic 106, 3) := by decide +kernel
theorem dL_law_666 : decode cL_law 666 = .ok (.istore 5, 2) := by decide +kernel
theorem dL_law_668 : decode cL_law 668 = .ok (.aload_n 2, 1) := by decide +kernel
theorem dL_law_669 : decode cL_law 669 = .ok (.aload_n 0, 1) := by decide +kernel
theorem dL_law_670 : decode cL_law 670 = .ok (.iload 4, 2) := by decide +kernel
theorem dL_law_672 : decode cL_law 672 = .ok (.iconst 1, 1) := by decide +kernel
theorem dL_law_673 : decode cL_law 673 = .ok (.iadd, 1) := by decide +kernel
theorem dL_law_674 : decode cL_law 674 = .ok (.iaload, 1) := by decide +kernel
theorem dL_law_675 : decode cL_law 675 = .ok (.aload_n 0, 1) := by decide +kernel
theorem dL_law_676 : decode cL_law 676 = .ok (.iload 4, 2) := by decide +kernel
theorem dL_law_678 : decode cL_law 678 = .ok (.iconst 2, 1) := by decide +kernel
theorem dL_law_679 : decode cL_law 679 = .ok (.iadd, 1) := by decide +kernel
theorem dL_law_680 : decode cL_law 680 = .ok (.iaload, 1) := by decide +kernel
theorem dL_law_681 : decode cL_law 681 = .ok (.invokevirtual 108, 3) := by decide +kernel
theorem dL_law_684 : decode cL_law 684 = .ok (.istore 6, 2) := by decide +kernel
theorem dL_law_686 : decode cL_law 686 = .ok (.aload_n 2, 1) := by decide +kernel
theorem dL_law_687 : decode cL_law 687 = .ok (.invokevirtual 74, 3) := by decide +kernel
theorem dL_law_690 : decode cL_law 690 = .ok (.iload 5, 2) := by decide +kernel
theorem dL_law_692 : decode cL_law 692 = .ok (.if_icmp .eq 5, 3) := by decide +kernel
theorem dL_law_695 : decode cL_law 695 = .ok (.iconst 0, 1) := by decide +kernel
theorem dL_law_696 : decode cL_law 696 = .ok (.ireturn, 1) := by decide +kernel
theorem dL_law_697 : decode cL_law 697 = .ok (.iload 5, 2) := by decide +kernel
theorem dL_law_699 : decode cL_law 699 = .ok (.ifCond .ne 15, 3) := by decide +kernel
theorem dL_law_702 : decode cL_law 702 = .ok (.aload_n 3, 1) := by decide +kernel
theorem dL_law_703 : decode cL_law 703 = .ok (.iconst 0, 1) := by decide +kernel
theorem dL_law_704 : decode cL_law 704 = .ok (.laload, 1) := by decide +kernel
theorem dL_law_705 : decode cL_law 705 = .ok (.iload 6, 2) := by decide +kernel
theorem dL_law_707 : decode cL_law 707 = .ok (.i2l, 1) := by decide +kernel
theorem dL_law_708 : decode cL_law 708 = .ok (.lcmp, 1) := by decide +kernel
theorem dL_law_709 : decode cL_law 709 = .ok (.ifCond .eq 5, 3) := by decide +kernel
theorem dL_law_712 : decode cL_law 712 = .ok (.iconst 0, 1) := by decide +kernel
theorem dL_law_713 : decode cL_law 713 = .ok (.ireturn, 1) := by decide +kernel
theorem dL_law_714 : decode cL_law 714 = .ok (.goto 401, 3) := by decide +kernel
theorem dL_law_717 : decode cL_law 717 = .ok (.aload_n 1, 1) := by decide +kernel
theorem dL_law_718 : decode cL_law 718 = .ok (.invokevirtual 109, 3) := by decide +kernel
theorem dL_law_721 : decode cL_law 721 = .ok (.aload_n 2, 1) := by decide +kernel
theorem dL_law_722 : decode cL_law 722 = .ok (.invokevirtual 112, 3) := by decide +kernel
theorem dL_law_725 : decode cL_law 725 = .ok (.if_icmp .eq 390, 3) := by decide +kernel
theorem dL_law_728 : decode cL_law 728 = .ok (.iconst 0, 1) := by decide +kernel
theorem dL_law_729 : decode cL_law 729 = .ok (.ireturn, 1) := by decide +kernel
theorem dL_law_730 : decode cL_law 730 = .ok (.aload_n 1, 1) := by decide +kernel
theorem dL_law_731 : decode cL_law 731 = .ok (.aload_n 0, 1) := by decide +kernel
theorem dL_law_732 : decode cL_law 732 = .ok (.iload 4, 2) := by decide +kernel
theorem dL_law_734 : decode cL_law 734 = .ok (.iconst 1, 1) := by decide +kernel
theorem dL_law_735 : decode cL_law 735 = .ok (.iadd, 1) := by decide +kernel
theorem dL_law_736 : decode cL_law 736 = .ok (.iaload, 1) := by decide +kernel
theorem dL_law_737 : decode cL_law 737 = .ok (.aload_n 0, 1) := by decide +kernel
theorem dL_law_738 : decode cL_law 738 = .ok (.iload 4, 2) := by decide +kernel
theorem dL_law_740 : decode cL_law 740 = .ok (.iconst 2, 1) := by decide +kernel
theorem dL_law_741 : decode cL_law 741 = .ok (.iadd, 1) := by decide +kernel
theorem dL_law_742 : decode cL_law 742 = .ok (.iaload, 1) := by decide +kernel
theorem dL_law_743 : decode cL_law 743 = .ok (.aload_n 3, 1) := by decide +kernel
theorem dL_law_744 : decode cL_law 744 = .ok (.invokestatic 113, 3) := by decide +kernel
theorem dL_law_747 : decode cL_law 747 = .ok (.istore 5, 2) := by decide +kernel
theorem dL_law_749 : decode cL_law 749 = .ok (.aload_n 2, 1) := by decide +kernel
theorem dL_law_750 : decode cL_law 750 = .ok (.aload_n 0, 1) := by decide +kernel
theorem dL_law_751 : decode cL_law 751 = .ok (.iload 4, 2) := by decide +kernel
theorem dL_law_753 : decode cL_law 753 = .ok (.iconst 1, 1) := by decide +kernel
theorem dL_law_754 : decode cL_law 754 = .ok (.iadd, 1) := by decide +kernel
theorem dL_law_755 : decode cL_law 755 = .ok (.iaload, 1) := by decide +kernel
theorem dL_law_756 : decode cL_law 756 = .ok (.aload_n 0, 1) := by decide +kernel
theorem dL_law_757 : decode cL_law 757 = .ok (.iload 4, 2) := by decide +kernel
theorem dL_law_759 : decode cL_law 759 = .ok (.iconst 2, 1) := by decide +kernel
theorem dL_law_760 : decode cL_law 760 = .ok (.iadd, 1) := by decide +kernel
theorem dL_law_761 : decode cL_law 761 = .ok (.iaload, 1) := by decide +kernel
theorem dL_law_762 : decode cL_law 762 = .ok (.invokevirtual 115, 3) := by decide +kernel
theorem dL_law_765 : decode cL_law 765 = .ok (.istore 6, 2) := by decide +kernel
theorem dL_law_767 : decode cL_law 767 = .ok (.aload_n 2, 1) := by decide +kernel
theorem dL_law_768 : decode cL_law 768 = .ok (.invokevirtual 74, 3) := by decide +kernel
theorem dL_law_771 : decode cL_law 771 = .ok (.iload 5, 2) := by decide +kernel
theorem dL_law_773 : decode cL_law 773 = .ok (.if_icmp .eq 5, 3) := by decide +kernel
theorem dL_law_776 : decode cL_law 776 = .ok (.iconst 0, 1) := by decide +kernel
theorem dL_law_777 : decode cL_law 777 = .ok (.ireturn, 1) := by decide +kernel
theorem dL_law_778 : decode cL_law 778 = .ok (.iload 5, 2) := by decide +kernel
theorem dL_law_780 : decode cL_law 780 = .ok (.ifCond .ne 15, 3) := by decide +kernel
theorem dL_law_783 : decode cL_law 783 = .ok (.aload_n 3, 1) := by decide +kernel
theorem dL_law_784 : decode cL_law 784 = .ok (.iconst 0, 1) := by decide +kernel
theorem dL_law_785 : decode cL_law 785 = .ok (.laload, 1) := by decide +kernel
theorem dL_law_786 : decode cL_law 786 = .ok (.iload 6, 2) := by decide +kernel
theorem dL_law_788 : decode cL_law 788 = .ok (.i2l, 1) := by decide +kernel
theorem dL_law_789 : decode cL_law 789 = .ok (.lcmp, 1) := by decide +kernel
theorem dL_law_790 : decode cL_law 790 = .ok (.ifCond .eq 5, 3) := by decide +kernel
theorem dL_law_793 : decode cL_law 793 = .ok (.iconst 0, 1) := by decide +kernel
theorem dL_law_794 : decode cL_law 794 = .ok (.ireturn, 1) := by decide +kernel
theorem dL_law_795 : decode cL_law 795 = .ok (.goto 320, 3) := by decide +kernel
theorem dL_law_798 : decode cL_law 798 = .ok (.aload_n 1, 1) := by decide +kernel
theorem dL_law_799 : decode cL_law 799 = .ok (.aload_n 0, 1) := by decide +kernel
theorem dL_law_800 : decode cL_law 800 = .ok (.iload 4, 2) := by decide +kernel
theorem dL_law_802 : decode cL_law 802 = .ok (.iconst 1, 1) := by decide +kernel
theorem dL_law_803 : decode cL_law 803 = .ok (.iadd, 1) := by decide +kernel
theorem dL_law_804 : decode cL_law 804 = .ok (.iaload, 1) := by decide +kernel
theorem dL_law_805 : decode cL_law 805 = .ok (.aload_n 3, 1) := by decide +kernel
theorem dL_law_806 : decode cL_law 806 = .ok (.invokestatic 116, 3) := by decide +kernel
theorem dL_law_809 : decode cL_law 809 = .ok (.istore 5, 2) := by decide +kernel
theorem dL_law_811 : decode cL_law 811 = .ok (.aload_n 2, 1) := by decide +kernel
theorem dL_law_812 : decode cL_law 812 = .ok (.aload_n 0, 1) := by decide +kernel
theorem dL_law_813 : decode cL_law 813 = .ok (.iload 4, 2) := by decide +kernel
theorem dL_law_815 : decode cL_law 815 = .ok (.iconst 1, 1) := by decide +kernel
theorem dL_law_816 : decode cL_law 816 = .ok (.iadd, 1) := by decide +kernel
theorem dL_law_817 : decode cL_law 817 = .ok (.iaload, 1) := by decide +kernel
theorem dL_law_818 : decode cL_law 818 = .ok (.invokevirtual 118, 3) := by decide +kernel
theorem dL_law_821 : decode cL_law 821 = .ok (.istore 6, 2) := by decide +kernel
theorem dL_law_823 : decode cL_law 823 = .ok (.aload_n 2, 1) := by decide +kernel
theorem dL_law_824 : decode cL_law 824 = .ok (.invokevirtual 74, 3) := by decide +kernel
theorem dL_law_827 : decode cL_law 827 = .ok (.iload 5, 2) := by decide +kernel
theorem dL_law_829 : decode cL_law 829 = .ok (.if_icmp .eq 5, 3) := by decide +kernel
theorem dL_law_832 : decode cL_law 832 = .ok (.iconst 0, 1) := by decide +kernel
theorem dL_law_833 : decode cL_law 833 = .ok (.ireturn, 1) := by decide +kernel
theorem dL_law_834 : decode cL_law 834 = .ok (.iload 5, 2) := by decide +kernel
theorem dL_law_836 : decode cL_law 836 = .ok (.ifCond .ne 15, 3) := by decide +kernel
theorem dL_law_839 : decode cL_law 839 = .ok (.aload_n 3, 1) := by decide +kernel
theorem dL_law_840 : decode cL_law 840 = .ok (.iconst 0, 1) := by decide +kernel
theorem dL_law_841 : decode cL_law 841 = .ok (.laload, 1) := by decide +kernel
theorem dL_law_842 : decode cL_law 842 = .ok (.iload 6, 2) := by decide +kernel
theorem dL_law_844 : decode cL_law 844 = .ok (.i2l, 1) := by decide +kernel
theorem dL_law_845 : decode cL_law 845 = .ok (.lcmp, 1) := by decide +kernel
theorem dL_law_846 : decode cL_law 846 = .ok (.ifCond .eq 5, 3) := by decide +kernel
theorem dL_law_849 : decode cL_law 849 = .ok (.iconst 0, 1) := by decide +kernel
theorem dL_law_850 : decode cL_law 850 = .ok (.ireturn, 1) := by decide +kernel
theorem dL_law_851 : decode cL_law 851 = .ok (.goto 264, 3) := by decide +kernel
theorem dL_law_854 : decode cL_law 854 = .ok (.aload_n 1, 1) := by decide +kernel
theorem dL_law_855 : decode cL_law 855 = .ok (.aload_n 0, 1) := by decide +kernel
theorem dL_law_856 : decode cL_law 856 = .ok (.iload 4, 2) := by decide +kernel
theorem dL_law_858 : decode cL_law 858 = .ok (.iconst 1, 1) := by decide +kernel
theorem dL_law_859 : decode cL_law 859 = .ok (.iadd, 1) := by decide +kernel
theorem dL_law_860 : decode cL_law 860 = .ok (.iaload, 1) := by decide +kernel
theorem dL_law_861 : decode cL_law 861 = .ok (.aload_n 3, 1) := by decide +kernel
theorem dL_law_862 : decode cL_law 862 = .ok (.invokestatic 119, 3) := by decide +kernel
theorem dL_law_865 : decode cL_law 865 = .ok (.istore 5, 2) := by decide +kernel
theorem dL_law_867 : decode cL_law 867 = .ok (.aload_n 2, 1) := by decide +kernel
theorem dL_law_868 : decode cL_law 868 = .ok (.aload_n 0, 1) := by decide +kernel
theorem dL_law_869 : decode cL_law 869 = .ok (.iload 4, 2) := by decide +kernel
theorem dL_law_871 : decode cL_law 871 = .ok (.iconst 1, 1) := by decide +kernel
theorem dL_law_872 : decode cL_law 872 = .ok (.iadd, 1) := by decide +kernel
theorem dL_law_873 : decode cL_law 873 = .ok (.iaload, 1) := by decide +kernel
theorem dL_law_874 : decode cL_law 874 = .ok (.invokevirtual 121, 3) := by decide +kernel
theorem dL_law_877 : decode cL_law 877 = .ok (.istore 6, 2) := by decide +kernel
theorem dL_law_879 : decode cL_law 879 = .ok (.aload_n 2, 1) := by decide +kernel
theorem dL_law_880 : decode cL_law 880 = .ok (.invokevirtual 74, 3) := by decide +kernel
theorem dL_law_883 : decode cL_law 883 = .ok (.iload 5, 2) := by decide +kernel
theorem dL_law_885 : decode cL_law 885 = .ok (.if_icmp .eq 5, 3) := by decide +kernel
theorem dL_law_888 : decode cL_law 888 = .ok (.iconst 0, 1) := by decide +kernel
theorem dL_law_889 : decode cL_law 889 = .ok (.ireturn, 1) := by decide +kernel
theorem dL_law_890 : decode cL_law 890 = .ok (.iload 5, 2) := by decide +kernel
theorem dL_law_892 : decode cL_law 892 = .ok (.ifCond .ne 15, 3) := by decide +kernel
theorem dL_law_895 : decode cL_law 895 = .ok (.aload_n 3, 1) := by decide +kernel
theorem dL_law_896 : decode cL_law 896 = .ok (.iconst 0, 1) := by decide +kernel
theorem dL_law_897 : decode cL_law 897 = .ok (.laload, 1) := by decide +kernel
theorem dL_law_898 : decode cL_law 898 = .ok (.iload 6, 2) := by decide +kernel
theorem dL_law_900 : decode cL_law 900 = .ok (.i2l, 1) := by decide +kernel
theorem dL_law_901 : decode cL_law 901 = .ok (.lcmp, 1) := by decide +kernel
theorem dL_law_902 : decode cL_law 902 = .ok (.ifCond .eq 5, 3) := by decide +kernel
theorem dL_law_905 : decode cL_law 905 = .ok (.iconst 0, 1) := by decide +kernel
theorem dL_law_906 : decode cL_law 906 = .ok (.ireturn, 1) := by decide +kernel
theorem dL_law_907 : decode cL_law 907 = .ok (.goto 208, 3) := by decide +kernel
theorem dL_law_910 : decode cL_law 910 = .ok (.aload_n 1, 1) := by decide +kernel
theorem dL_law_911 : decode cL_law 911 = .ok (.invokevirtual 122, 3) := by decide +kernel
theorem dL_law_914 : decode cL_law 914 = .ok (.aload_n 2, 1) := by decide +kernel
theorem dL_law_915 : decode cL_law 915 = .ok (.invokevirtual 125, 3) := by decide +kernel
theorem dL_law_918 : decode cL_law 918 = .ok (.if_icmp .eq 197, 3) := by decide +kernel
theorem dL_law_921 : decode cL_law 921 = .ok (.iconst 0, 1) := by decide +kernel
theorem dL_law_922 : decode cL_law 922 = .ok (.ireturn, 1) := by decide +kernel
theorem dL_law_923 : decode cL_law 923 = .ok (.aload_n 1, 1) := by decide +kernel
theorem dL_law_924 : decode cL_law 924 = .ok (.aload_n 0, 1) := by decide +kernel
theorem dL_law_925 : decode cL_law 925 = .ok (.iload 4, 2) := by decide +kernel
theorem dL_law_927 : decode cL_law 927 = .ok (.iconst 1, 1) := by decide +kernel
theorem dL_law_928 : decode cL_law 928 = .ok (.iadd, 1) := by decide +kernel
theorem dL_law_929 : decode cL_law 929 = .ok (.iaload, 1) := by decide +kernel
theorem dL_law_930 : decode cL_law 930 = .ok (.aload_n 0, 1) := by decide +kernel
theorem dL_law_931 : decode cL_law 931 = .ok (.iload 4, 2) := by decide +kernel
theorem dL_law_933 : decode cL_law 933 = .ok (.iconst 2, 1) := by decide +kernel
theorem dL_law_934 : decode cL_law 934 = .ok (.iadd, 1) := by decide +kernel
theorem dL_law_935 : decode cL_law 935 = .ok (.iaload, 1) := by decide +kernel
theorem dL_law_936 : decode cL_law 936 = .ok (.aload_n 0, 1) := by decide +kernel
theorem dL_law_937 : decode cL_law 937 = .ok (.iload 4, 2) := by decide +kernel
theorem dL_law_939 : decode cL_law 939 = .ok (.iconst 3, 1) := by decide +kernel
theorem dL_law_940 : decode cL_law 940 = .ok (.iadd, 1) := by decide +kernel
theorem dL_law_941 : decode cL_law 941 = .ok (.iaload, 1) := by decide +kernel
theorem dL_law_942 : decode cL_law 942 = .ok (.aload_n 3, 1) := by decide +kernel
theorem dL_law_943 : decode cL_law 943 = .ok (.invokestatic 126, 3) := by decide +kernel
theorem dL_law_946 : decode cL_law 946 = .ok (.istore 5, 2) := by decide +kernel
theorem dL_law_948 : decode cL_law 948 = .ok (.aload_n 2, 1) := by decide +kernel
theorem dL_law_949 : decode cL_law 949 = .ok (.aload_n 0, 1) := by decide +kernel
theorem dL_law_950 : decode cL_law 950 = .ok (.iload 4, 2) := by decide +kernel
theorem dL_law_952 : decode cL_law 952 = .ok (.iconst 1, 1) := by decide +kernel
theorem dL_law_953 : decode cL_law 953 = .ok (.iadd, 1) := by decide +kernel
theorem dL_law_954 : decode cL_law 954 = .ok (.iaload, 1) := by decide +kernel
theorem dL_law_955 : decode cL_law 955 = .ok (.aload_n 0, 1) := by decide +kernel
theorem dL_law_956 : decode cL_law 956 = .ok (.iload 4, 2) := by decide +kernel
theorem dL_law_958 : decode cL_law 958 = .ok (.iconst 2, 1) := by decide +kernel
theorem dL_law_959 : decode cL_law 959 = .ok (.iadd, 1) := by decide +kernel
theorem dL_law_960 : decode cL_law 960 = .ok (.iaload, 1) := by decide +kernel
theorem dL_law_961 : decode cL_law 961 = .ok (.aload_n 0, 1) := by decide +kernel
theorem dL_law_962 : decode cL_law 962 = .ok (.iload 4, 2) := by decide +kernel
theorem dL_law_964 : decode cL_law 964 = .ok (.iconst 3, 1) := by decide +kernel
theorem dL_law_965 : decode cL_law 965 = .ok (.iadd, 1) := by decide +kernel
theorem dL_law_966 : decode cL_law 966 = .ok (.iaload, 1) := by decide +kernel
theorem dL_law_967 : decode cL_law 967 = .ok (.invokevirtual 129, 3) := by decide +kernel
theorem dL_law_970 : decode cL_law 970 = .ok (.istore 6, 2) := by decide +kernel
theorem dL_law_972 : decode cL_law 972 = .ok (.aload_n 2, 1) := by decide +kernel
theorem dL_law_973 : decode cL_law 973 = .ok (.invokevirtual 74, 3) := by decide +kernel
theorem dL_law_976 : decode cL_law 976 = .ok (.iload 5, 2) := by decide +kernel
theorem dL_law_978 : decode cL_law 978 = .ok (.if_icmp .eq 5, 3) := by decide +kernel
theorem dL_law_981 : decode cL_law 981 = .ok (.iconst 0, 1) := by decide +kernel
theorem dL_law_982 : decode cL_law 982 = .ok (.ireturn, 1) := by decide +kernel
theorem dL_law_983 : decode cL_law 983 = .ok (.iload 5, 2) := by decide +kernel
theorem dL_law_985 : decode cL_law 985 = .ok (.ifCond .ne 15, 3) := by decide +kernel
theorem dL_law_988 : decode cL_law 988 = .ok (.aload_n 3, 1) := by decide +kernel
theorem dL_law_989 : decode cL_law 989 = .ok (.iconst 0, 1) := by decide +kernel
theorem dL_law_990 : decode cL_law 990 = .ok (.laload, 1) := by decide +kernel
theorem dL_law_991 : decode cL_law 991 = .ok (.iload 6, 2) := by decide +kernel
theorem dL_law_993 : decode cL_law 993 = .ok (.i2l, 1) := by decide +kernel
theorem dL_law_994 : decode cL_law 994 = .ok (.lcmp, 1) := by decide +kernel
theorem dL_law_995 : decode cL_law 995 = .ok (.ifCond .eq 5, 3) := by decide +kernel
theorem dL_law_998 : decode cL_law 998 = .ok (.iconst 0, 1) := by decide +kernel
theorem dL_law_999 : decode cL_law 999 = .ok (.ireturn, 1) := by decide +kernel
theorem dL_law_1000 : decode cL_law 1000 = .ok (.goto 115, 3) := by decide +kernel
theorem dL_law_1003 : decode cL_law 1003 = .ok (.aload_n 1, 1) := by decide +kernel
theorem dL_law_1004 : decode cL_law 1004 = .ok (.aload_n 0, 1) := by decide +kernel
theorem dL_law_1005 : decode cL_law 1005 = .ok (.iload 4, 2) := by decide +kernel
theorem dL_law_1007 : decode cL_law 1007 = .ok (.iconst 1, 1) := by decide +kernel
theorem dL_law_1008 : decode cL_law 1008 = .ok (.iadd, 1) := by decide +kernel
theorem dL_law_1009 : decode cL_law 1009 = .ok (.iaload, 1) := by decide +kernel
theorem dL_law_1010 : decode cL_law 1010 = .ok (.aload_n 3, 1) := by decide +kernel
theorem dL_law_1011 : decode cL_law 1011 = .ok (.invokestatic 130, 3) := by decide +kernel
theorem dL_law_1014 : decode cL_law 1014 = .ok (.istore 5, 2) := by decide +kernel
theorem dL_law_1016 : decode cL_law 1016 = .ok (.aload_n 2, 1) := by decide +kernel
theorem dL_law_1017 : decode cL_law 1017 = .ok (.aload_n 0, 1) := by decide +kernel
theorem dL_law_1018 : decode cL_law 1018 = .ok (.iload 4, 2) := by decide +kernel
theorem dL_law_1020 : decode cL_law 1020 = .ok (.iconst 1, 1) := by decide +kernel
theorem dL_law_1021 : decode cL_law 1021 = .ok (.iadd, 1) := by decide +kernel
theorem dL_law_1022 : decode cL_law 1022 = .ok (.iaload, 1) := by decide +kernel
theorem dL_law_1023 : decode cL_law 1023 = .ok (.invokevirtual 132, 3) := by decide +kernel
theorem dL_law_1026 : decode cL_law 1026 = .ok (.istore 6, 2) := by decide +kernel
theorem dL_law_1028 : decode cL_law 1028 = .ok (.aload_n 2, 1) := by decide +kernel
theorem dL_law_1029 : decode cL_law 1029 = .ok (.invokevirtual 74, 3) := by decide +kernel
theorem dL_law_1032 : decode cL_law 1032 = .ok (.iload 5, 2) := by decide +kernel
theorem dL_law_1034 : decode cL_law 1034 = .ok (.if_icmp .eq 5, 3) := by decide +kernel
theorem dL_law_1037 : decode cL_law 1037 = .ok (.iconst 0, 1) := by decide +kernel
theorem dL_law_1038 : decode cL_law 1038 = .ok (.ireturn, 1) := by decide +kernel
theorem dL_law_1039 : decode cL_law 1039 = .ok (.iload 5, 2) := by decide +kernel
theorem dL_law_1041 : decode cL_law 1041 = .ok (.ifCond .ne 15, 3) := by decide +kernel
theorem dL_law_1044 : decode cL_law 1044 = .ok (.aload_n 3, 1) := by decide +kernel
theorem dL_law_1045 : decode cL_law 1045 = .ok (.iconst 0, 1) := by decide +kernel
theorem dL_law_1046 : decode cL_law 1046 = .ok (.laload, 1) := by decide +kernel
theorem dL_law_1047 : decode cL_law 1047 = .ok (.iload 6, 2) := by decide +kernel
theorem dL_law_1049 : decode cL_law 1049 = .ok (.i2l, 1) := by decide +kernel
theorem dL_law_1050 : decode cL_law 1050 = .ok (.lcmp, 1) := by decide +kernel
theorem dL_law_1051 : decode cL_law 1051 = .ok (.ifCond .eq 5, 3) := by decide +kernel
theorem dL_law_1054 : decode cL_law 1054 = .ok (.iconst 0, 1) := by decide +kernel
theorem dL_law_1055 : decode cL_law 1055 = .ok (.ireturn, 1) := by decide +kernel
theorem dL_law_1056 : decode cL_law 1056 = .ok (.goto 59, 3) := by decide +kernel
theorem dL_law_1059 : decode cL_law 1059 = .ok (.aload_n 1, 1) := by decide +kernel
theorem dL_law_1060 : decode cL_law 1060 = .ok (.aload_n 0, 1) := by decide +kernel
theorem dL_law_1061 : decode cL_law 1061 = .ok (.iload 4, 2) := by decide +kernel
theorem dL_law_1063 : decode cL_law 1063 = .ok (.iconst 1, 1) := by decide +kernel
theorem dL_law_1064 : decode cL_law 1064 = .ok (.iadd, 1) := by decide +kernel
theorem dL_law_1065 : decode cL_law 1065 = .ok (.iaload, 1) := by decide +kernel
theorem dL_law_1066 : decode cL_law 1066 = .ok (.aload_n 3, 1) := by decide +kernel
theorem dL_law_1067 : decode cL_law 1067 = .ok (.invokestatic 133, 3) := by decide +kernel
theorem dL_law_1070 : decode cL_law 1070 = .ok (.istore 5, 2) := by decide +kernel
theorem dL_law_1072 : decode cL_law 1072 = .ok (.aload_n 2, 1) := by decide +kernel
theorem dL_law_1073 : decode cL_law 1073 = .ok (.aload_n 0, 1) := by decide +kernel
theorem dL_law_1074 : decode cL_law 1074 = .ok (.iload 4, 2) := by decide +kernel
theorem dL_law_1076 : decode cL_law 1076 = .ok (.iconst 1, 1) := by decide +kernel
theorem dL_law_1077 : decode cL_law 1077 = .ok (.iadd, 1) := by decide +kernel
theorem dL_law_1078 : decode cL_law 1078 = .ok (.iaload, 1) := by decide +kernel
theorem dL_law_1079 : decode cL_law 1079 = .ok (.invokevirtual 135, 3) := by decide +kernel
theorem dL_law_1082 : decode cL_law 1082 = .ok (.istore 6, 2) := by decide +kernel
theorem dL_law_1084 : decode cL_law 1084 = .ok (.aload_n 2, 1) := by decide +kernel
theorem dL_law_1085 : decode cL_law 1085 = .ok (.invokevirtual 74, 3) := by decide +kernel
theorem dL_law_1088 : decode cL_law 1088 = .ok (.iload 5, 2) := by decide +kernel
theorem dL_law_1090 : decode cL_law 1090 = .ok (.if_icmp .eq 5, 3) := by decide +kernel
theorem dL_law_1093 : decode cL_law 1093 = .ok (.iconst 0, 1) := by decide +kernel
theorem dL_law_1094 : decode cL_law 1094 = .ok (.ireturn, 1) := by decide +kernel
theorem dL_law_1095 : decode cL_law 1095 = .ok (.iload 5, 2) := by decide +kernel
theorem dL_law_1097 : decode cL_law 1097 = .ok (.ifCond .ne 15, 3) := by decide +kernel
theorem dL_law_1100 : decode cL_law 1100 = .ok (.aload_n 3, 1) := by decide +kernel
theorem dL_law_1101 : decode cL_law 1101 = .ok (.iconst 0, 1) := by decide +kernel
theorem dL_law_1102 : decode cL_law 1102 = .ok (.laload, 1) := by decide +kernel
theorem dL_law_1103 : decode cL_law 1103 = .ok (.iload 6, 2) := by decide +kernel
theorem dL_law_1105 : decode cL_law 1105 = .ok (.i2l, 1) := by decide +kernel
theorem dL_law_1106 : decode cL_law 1106 = .ok (.lcmp, 1) := by decide +kernel
theorem dL_law_1107 : decode cL_law 1107 = .ok (.ifCond .eq 5, 3) := by decide +kernel
theorem dL_law_1110 : decode cL_law 1110 = .ok (.iconst 0, 1) := by decide +kernel
theorem dL_law_1111 : decode cL_law 1111 = .ok (.ireturn, 1) := by decide +kernel
theorem dL_law_1112 : decode cL_law 1112 = .ok (.goto 3, 3) := by decide +kernel
theorem dL_law_1115 : decode cL_law 1115 = .ok (.iinc 4 4, 3) := by decide +kernel
theorem dL_law_1118 : decode cL_law 1118 = .ok (.goto (-1095), 3) := by decide +kernel
theorem dL_law_1121 : decode cL_law 1121 = .ok (.iconst 1, 1) := by decide +kernel
theorem dL_law_1122 : decode cL_law 1122 = .ok (.ireturn, 1) := by decide +kernel
abbrev vwCl : List vw_C := [(RX0, TX0, 7), (RX1, TX1, 2), (RX2, TX2, 3), (RX3, TX3, 16), (RX4, TX4, 5), (RX5, TX5, 4), (RX6, TX6, 16)]
