theorem dX3_givenBy_25 : decode cX3_givenBy 25 = .ok (.iaload, 1) := by decide +kernel
theorem dX3_givenBy_26 : decode cX3_givenBy 26 = .ok (.iconst 4, 1) := by decide +kernel
theorem dX3_givenBy_27 : decode cX3_givenBy 27 = .ok (.if_icmp .lt 9, 3) := by decide +kernel
theorem dX3_givenBy_30 : decode cX3_givenBy 30 = .ok (.lload_n 3, 1) := by decide +kernel
theorem dX3_givenBy_31 : decode cX3_givenBy 31 = .ok (.ldc2_w 158, 3) := by decide +kernel
theorem dX3_givenBy_34 : decode cX3_givenBy 34 = .ok (.lmul, 1) := by decide +kernel
theorem dX3_givenBy_35 : decode cX3_givenBy 35 = .ok (.lstore_n 3, 1) := by decide +kernel
theorem dX3_givenBy_36 : decode cX3_givenBy 36 = .ok (.lload_n 3, 1) := by decide +kernel
theorem dX3_givenBy_37 : decode cX3_givenBy 37 = .ok (.aload_n 0, 1) := by decide +kernel
theorem dX3_givenBy_38 : decode cX3_givenBy 38 = .ok (.getfield 12, 3) := by decide +kernel
theorem dX3_givenBy_41 : decode cX3_givenBy 41 = .ok (.getfield 101, 3) := by decide +kernel
theorem dX3_givenBy_44 : decode cX3_givenBy 44 = .ok (.iload_n 1, 1) := by decide +kernel
theorem dX3_givenBy_45 : decode cX3_givenBy 45 = .ok (.iaload, 1) := by decide +kernel
theorem dX3_givenBy_46 : decode cX3_givenBy 46 = .ok (.iconst 4, 1) := by decide +kernel
theorem dX3_givenBy_47 : decode cX3_givenBy 47 = .ok (.invokestatic 123, 3) := by decide +kernel
theorem dX3_givenBy_50 : decode cX3_givenBy 50 = .ok (.i2l, 1) := by decide +kernel
theorem dX3_givenBy_51 : decode cX3_givenBy 51 = .ok (.invokestatic 160, 3) := by decide +kernel
theorem dX3_givenBy_54 : decode cX3_givenBy 54 = .ok (.l2i, 1) := by decide +kernel
theorem dX3_givenBy_55 : decode cX3_givenBy 55 = .ok (.ireturn, 1) := by decide +kernel
set_option maxRecDepth 20000 in
theorem ggX3_runOff_X3_standsInSea : GoodIn wsX3_runOff wsX3_standsInSea := goodIn_r _ [8, 9, 10, 17, 18, 19, 20, 21, 22, 23, 24, 25, 26, 27, 28, 29, 30, 31, 32] (by decide +kernel) (by decide +kernel)
set_option maxRecDepth 20000 in
theorem gX3_runOff_X3_standsInSea : GoodIn wsX3_runOff (wsV RX3 112 RX3 yX3_standsInSea wsX3_standsInSea) := goodIn_app (goodIn_of _ (by decide +kernel)) ggX3_runOff_X3_standsInSea
set_option maxRecDepth 20000 in
theorem ggX3_runOff_X3_potential : GoodIn wsX3_runOff wsX3_potential := goodIn_r _ [14, 9, 15, 16, 17, 18, 19, 20, 21, 22, 23, 24, 25, 26, 27, 28, 29, 30, 31, 32, 38, 39] (by decide +kernel) (by decide +kernel)
set_option maxRecDepth 20000 in
theorem gX3_runOff_X3_potential : GoodIn wsX3_runOff (wsV RX3 115 RX3 yX3_potential wsX3_potential) := goodIn_app (goodIn_of _ (by decide +kernel)) ggX3_runOff_X3_potential
theorem dX3_runOff_0 : decode cX3_runOff 0 = .ok (.iload_n 1, 1) := by decide +kernel
theorem dX3_runOff_1 : decode cX3_runOff 1 = .ok (.bipush 11, 2) := by decide +kernel
theorem dX3_runOff_3 : decode cX3_runOff 3 = .ok (.if_icmp .eq 11, 3) := by decide +kernel
theorem dX3_runOff_6 : decode cX3_runOff 6 = .ok (.aload_n 0, 1) := by decide +kernel
theorem dX3_runOff_7 : decode cX3_runOff 7 = .ok (.iload_n 1, 1) := by decide +kernel
theorem dX3_runOff_8 : decode cX3_runOff 8 = .ok (.invokevirtual 112, 3) := by decide +kernel
theorem dX3_runOff_11 : decode cX3_runOff 11 = .ok (.ifCond .eq 29, 3) := by decide +kernel
theorem dX3_runOff_14 : decode cX3_runOff 14 = .ok (.aload_n 0, 1) := by decide +kernel
theorem dX3_runOff_15 : decode cX3_runOff 15 = .ok (.getfield 21, 3) := by decide +kernel
theorem dX3_runOff_18 : decode cX3_runOff 18 = .ok (.dup, 1) := by decide +kernel
theorem dX3_runOff_19 : decode cX3_runOff 19 = .ok (.getfield 162, 3) := by decide +kernel
theorem dX3_runOff_22 : decode cX3_runOff 22 = .ok (.aload_n 0, 1) := by decide +kernel
theorem dX3_runOff_23 : decode cX3_runOff 23 = .ok (.getfield 32, 3) := by decide +kernel
theorem dX3_runOff_26 : decode cX3_runOff 26 = .ok (.iload_n 1, 1) := by decide +kernel
theorem dX3_runOff_27 : decode cX3_runOff 27 = .ok (.iaload, 1) := by decide +kernel
theorem dX3_runOff_28 : decode cX3_runOff 28 = .ok (.iadd, 1) := by decide +kernel
theorem dX3_runOff_29 : decode cX3_runOff 29 = .ok (.putfield 162, 3) := by decide +kernel
theorem dX3_runOff_32 : decode cX3_runOff 32 = .ok (.aload_n 0, 1) := by decide +kernel
theorem dX3_runOff_33 : decode cX3_runOff 33 = .ok (.getfield 32, 3) := by decide +kernel
theorem dX3_runOff_36 : decode cX3_runOff 36 = .ok (.iload_n 1, 1) := by decide +kernel
theorem dX3_runOff_37 : decode cX3_runOff 37 = .ok (.iconst 0, 1) := by decide +kernel
theorem dX3_runOff_38 : decode cX3_runOff 38 = .ok (.iastore, 1) := by decide +kernel
theorem dX3_runOff_39 : decode cX3_runOff 39 = .ok (.return_, 1) := by decide +kernel
theorem dX3_runOff_40 : decode cX3_runOff 40 = .ok (.iload_n 1, 1) := by decide +kernel
theorem dX3_runOff_41 : decode cX3_runOff 41 = .ok (.iconst 1, 1) := by decide +kernel
theorem dX3_runOff_42 : decode cX3_runOff 42 = .ok (.iadd, 1) := by decide +kernel
theorem dX3_runOff_43 : decode cX3_runOff 43 = .ok (.istore_n 2, 1) := by decide +kernel
theorem dX3_runOff_44 : decode cX3_runOff 44 = .ok (.iload_n 1, 1) := by decide +kernel
theorem dX3_runOff_45 : decode cX3_runOff 45 = .ok (.ifCond .le 22, 3) := by decide +kernel
theorem dX3_runOff_48 : decode cX3_runOff 48 = .ok (.aload_n 0, 1) := by decide +kernel
theorem dX3_runOff_49 : decode cX3_runOff 49 = .ok (.iload_n 1, 1) := by decide +kernel
theorem dX3_runOff_50 : decode cX3_runOff 50 = .ok (.iconst 1, 1) := by decide +kernel
theorem dX3_runOff_51 : decode cX3_runOff 51 = .ok (.isub, 1) := by decide +kernel
theorem dX3_runOff_52 : decode cX3_runOff 52 = .ok (.invokevirtual 115, 3) := by decide +kernel
theorem dX3_runOff_55 : decode cX3_runOff 55 = .ok (.aload_n 0, 1) := by decide +kernel
theorem dX3_runOff_56 : decode cX3_runOff 56 = .ok (.iload_n 2, 1) := by decide +kernel
theorem dX3_runOff_57 : decode cX3_runOff 57 = .ok (.invokevirtual 115, 3) := by decide +kernel
theorem dX3_runOff_60 : decode cX3_runOff 60 = .ok (.if_icmp .ge 7, 3) := by decide +kernel
theorem dX3_runOff_63 : decode cX3_runOff 63 = .ok (.iload_n 1, 1) := by decide +kernel
theorem dX3_runOff_64 : decode cX3_runOff 64 = .ok (.iconst 1, 1) := by decide +kernel
theorem dX3_runOff_65 : decode cX3_runOff 65 = .ok (.isub, 1) := by decide +kernel
theorem dX3_runOff_66 : decode cX3_runOff 66 = .ok (.istore_n 2, 1) := by decide +kernel
theorem dX3_runOff_67 : decode cX3_runOff 67 = .ok (.aload_n 0, 1) := by decide +kernel
theorem dX3_runOff_68 : decode cX3_runOff 68 = .ok (.iload_n 2, 1) := by decide +kernel
theorem dX3_runOff_69 : decode cX3_runOff 69 = .ok (.invokevirtual 115, 3) := by decide +kernel
theorem dX3_runOff_72 : decode cX3_runOff 72 = .ok (.aload_n 0, 1) := by decide +kernel
theorem dX3_runOff_73 : decode cX3_runOff 73 = .ok (.iload_n 1, 1) := by decide +kernel
theorem dX3_runOff_74 : decode cX3_runOff 74 = .ok (.invokevirtual 115, 3) := by decide +kernel
theorem dX3_runOff_77 : decode cX3_runOff 77 = .ok (.if_icmp .ge 25, 3) := by decide +kernel
theorem dX3_runOff_80 : decode cX3_runOff 80 = .ok (.aload_n 0, 1) := by decide +kernel
theorem dX3_runOff_81 : decode cX3_runOff 81 = .ok (.getfield 32, 3) := by decide +kernel
theorem dX3_runOff_84 : decode cX3_runOff 84 = .ok (.iload_n 2, 1) := by decide +kernel
theorem dX3_runOff_85 : decode cX3_runOff 85 = .ok (.dup2, 1) := by decide +kernel
theorem dX3_runOff_86 : decode cX3_runOff 86 = .ok (.iaload, 1) := by decide +kernel
theorem dX3_runOff_87 : decode cX3_runOff 87 = .ok (.aload_n 0, 1) := by decide +kernel
theorem dX3_runOff_88 : decode cX3_runOff 88 = .ok (.getfield 32, 3) := by decide +kernel
theorem dX3_runOff_91 : decode cX3_runOff 91 = .ok (.iload_n 1, 1) := by decide +kernel
theorem dX3_runOff_92 : decode cX3_runOff 92 = .ok (.iaload, 1) := by decide +kernel
theorem dX3_runOff_93 : decode cX3_runOff 93 = .ok (.iadd, 1) := by decide +kernel
theorem dX3_runOff_94 : decode cX3_runOff 94 = .ok (.iastore, 1) := by decide +kernel
theorem dX3_runOff_95 : decode cX3_runOff 95 = .ok (.aload_n 0, 1) := by decide +kernel
theorem dX3_runOff_96 : decode cX3_runOff 96 = .ok (.getfield 32, 3) := by decide +kernel
theorem dX3_runOff_99 : decode cX3_runOff 99 = .ok (.iload_n 1, 1) := by decide +kernel
theorem dX3_runOff_100 : decode cX3_runOff 100 = .ok (.iconst 0, 1) := by decide +kernel
theorem dX3_runOff_101 : decode cX3_runOff 101 = .ok (.iastore, 1) := by decide +kernel
theorem dX3_runOff_102 : decode cX3_runOff 102 = .ok (.return_, 1) := by decide +kernel
set_option maxRecDepth 20000 in
theorem ggX3_breakOut_X3_leastIceBeside : GoodIn wsX3_breakOut wsX3_leastIceBeside := goodIn_r _ [9, 10, 11, 12, 13, 14, 15, 16, 17, 18, 19, 20, 21, 22, 23, 24, 25, 26, 27, 28, 29, 30, 31, 37, 38] (by decide +kernel) (by decide +kernel)
set_option maxRecDepth 20000 in
theorem gX3_breakOut_X3_leastIceBeside : GoodIn wsX3_breakOut (wsV RX3 165 RX3 yX3_leastIceBeside wsX3_leastIceBeside) := goodIn_app (goodIn_of _ (by decide +kernel)) ggX3_breakOut_X3_leastIceBeside
theorem dX3_breakOut_0 : decode cX3_breakOut 0 = .ok (.aload_n 0, 1) := by decide +kernel
theorem dX3_breakOut_1 : decode cX3_breakOut 1 = .ok (.getfield 47, 3) := by decide +kernel
theorem dX3_breakOut_4 : decode cX3_breakOut 4 = .ok (.iload_n 1, 1) := by decide +kernel
theorem dX3_breakOut_5 : decode cX3_breakOut 5 = .ok (.iconst 0, 1) := by decide +kernel
theorem dX3_breakOut_6 : decode cX3_breakOut 6 = .ok (.iastore, 1) := by decide +kernel
theorem dX3_breakOut_7 : decode cX3_breakOut 7 = .ok (.aload_n 0, 1) := by decide +kernel
theorem dX3_breakOut_8 : decode cX3_breakOut 8 = .ok (.iload_n 1, 1) := by decide +kernel
theorem dX3_breakOut_9 : decode cX3_breakOut 9 = .ok (.invokevirtual 165, 3) := by decide +kernel
theorem dX3_breakOut_12 : decode cX3_breakOut 12 = .ok (.istore_n 2, 1) := by decide +kernel
theorem dX3_breakOut_13 : decode cX3_breakOut 13 = .ok (.aload_n 0, 1) := by decide +kernel
theorem dX3_breakOut_14 : decode cX3_breakOut 14 = .ok (.getfield 32, 3) := by decide +kernel
theorem dX3_breakOut_17 : decode cX3_breakOut 17 = .ok (.iload_n 1, 1) := by decide +kernel
theorem dX3_breakOut_18 : decode cX3_breakOut 18 = .ok (.iaload, 1) := by decide +kernel
theorem dX3_breakOut_19 : decode cX3_breakOut 19 = .ok (.bipush 10, 2) := by decide +kernel
theorem dX3_breakOut_21 : decode cX3_breakOut 21 = .ok (.if_icmp .lt 60, 3) := by decide +kernel
theorem dX3_breakOut_24 : decode cX3_breakOut 24 = .ok (.iload_n 2, 1) := by decide +kernel
theorem dX3_breakOut_25 : decode cX3_breakOut 25 = .ok (.ifCond .le 56, 3) := by decide +kernel
theorem dX3_breakOut_28 : decode cX3_breakOut 28 = .ok (.bipush 10, 2) := by decide +kernel
theorem dX3_breakOut_30 : decode cX3_breakOut 30 = .ok (.aload_n 0, 1) := by decide +kernel
theorem dX3_breakOut_31 : decode cX3_breakOut 31 = .ok (.getfield 32, 3) := by decide +kernel
theorem dX3_breakOut_34 : decode cX3_breakOut 34 = .ok (.iload_n 1, 1) := by decide +kernel
theorem dX3_breakOut_35 : decode cX3_breakOut 35 = .ok (.iaload, 1) := by decide +kernel
theorem dX3_breakOut_36 : decode cX3_breakOut 36 = .ok (.imul, 1) := by decide +kernel
theorem dX3_breakOut_37 : decode cX3_breakOut 37 = .ok (.bipush 9, 2) := by decide +kernel
theorem dX3_breakOut_39 : decode cX3_breakOut 39 = .ok (.iload_n 2, 1) := by decide +kernel
theorem dX3_breakOut_40 : decode cX3_breakOut 40 = .ok (.imul, 1) := by decide +kernel
theorem dX3_breakOut_41 : decode cX3_breakOut 41 = .ok (.if_icmp .le 40, 3) := by decide +kernel
theorem dX3_breakOut_44 : decode cX3_breakOut 44 = .ok (.aload_n 0, 1) := by decide +kernel
theorem dX3_breakOut_45 : decode cX3_breakOut 45 = .ok (.getfield 47, 3) := by decide +kernel
theorem dX3_breakOut_48 : decode cX3_breakOut 48 = .ok (.iload_n 1, 1) := by decide +kernel
theorem dX3_breakOut_49 : decode cX3_breakOut 49 = .ok (.aload_n 0, 1) := by decide +kernel
theorem dX3_breakOut_50 : decode cX3_breakOut 50 = .ok (.getfield 32, 3) := by decide +kernel
theorem dX3_breakOut_53 : decode cX3_breakOut 53 = .ok (.iload_n 1, 1) := by decide +kernel
theorem dX3_breakOut_54 : decode cX3_breakOut 54 = .ok (.iaload, 1) := by decide +kernel
theorem dX3_breakOut_55 : decode cX3_breakOut 55 = .ok (.iastore, 1) := by decide +kernel
theorem dX3_breakOut_56 : decode cX3_breakOut 56 = .ok (.aload_n 0, 1) := by decide +kernel
theorem dX3_breakOut_57 : decode cX3_breakOut 57 = .ok (.getfield 21, 3) := by decide +kernel
theorem dX3_breakOut_60 : decode cX3_breakOut 60 = .ok (.dup, 1) := by decide +kernel
theorem dX3_breakOut_61 : decode cX3_breakOut 61 = .ok (.getfield 162, 3) := by decide +kernel
theorem dX3_breakOut_64 : decode cX3_breakOut 64 = .ok (.aload_n 0, 1) := by decide +kernel
theorem dX3_breakOut_65 : decode cX3_breakOut 65 = .ok (.getfield 32, 3) := by decide +kernel
theorem dX3_breakOut_68 : decode cX3_breakOut 68 = .ok (.iload_n 1, 1) := by decide +kernel
theorem dX3_breakOut_69 : decode cX3_breakOut 69 = .ok (.iaload, 1) := by decide +kernel
theorem dX3_breakOut_70 : decode cX3_breakOut 70 = .ok (.iadd, 1) := by decide +kernel
theorem dX3_breakOut_71 : decode cX3_breakOut 71 = .ok (.putfield 162, 3) := by decide +kernel
theorem dX3_breakOut_74 : decode cX3_breakOut 74 = .ok (.aload_n 0, 1) := by decide +kernel
theorem dX3_breakOut_75 : decode cX3_breakOut 75 = .ok (.getfield 32, 3) := by decide +kernel
theorem dX3_breakOut_78 : decode cX3_breakOut 78 = .ok (.iload_n 1, 1) := by decide +kernel
theorem dX3_breakOut_79 : decode cX3_breakOut 79 = .ok (.iconst 0, 1) := by decide +kernel
theorem dX3_breakOut_80 : decode cX3_breakOut 80 = .ok (.iastore, 1) := by decide +kernel
theorem dX3_breakOut_81 : decode cX3_breakOut 81 = .ok (.return_, 1) := by decide +kernel
theorem dX3_leastIceBeside_0 : decode cX3_leastIceBeside 0 = .ok (.iload_n 1, 1) := by decide +kernel
theorem dX3_leastIceBeside_1 : decode cX3_leastIceBeside 1 = .ok (.ifCond .le 17, 3) := by decide +kernel
theorem dX3_leastIceBeside_4 : decode cX3_leastIceBeside 4 = .ok (.aload_n 0, 1) := by decide +kernel
theorem dX3_leastIceBeside_5 : decode cX3_leastIceBeside 5 = .ok (.getfield 12, 3) := by decide +kernel
theorem dX3_leastIceBeside_8 : decode cX3_leastIceBeside 8 = .ok (.getfield 101, 3) := by decide +kernel
theorem dX3_leastIceBeside_11 : decode cX3_leastIceBeside 11 = .ok (.iload_n 1, 1) := by decide +kernel
theorem dX3_leastIceBeside_12 : decode cX3_leastIceBeside 12 = .ok (.iconst 1, 1) := by decide +kernel
theorem dX3_leastIceBeside_13 : decode cX3_leastIceBeside 13 = .ok (.isub, 1) := by decide +kernel
theorem dX3_leastIceBeside_14 : decode cX3_leastIceBeside 14 = .ok (.iaload, 1) := by decide +kernel
theorem dX3_leastIceBeside_15 : decode cX3_leastIceBeside 15 = .ok (.goto 4, 3) := by decide +kernel
theorem dX3_leastIceBeside_18 : decode cX3_leastIceBeside 18 = .ok (.iconst 0, 1) := by decide +kernel
theorem dX3_leastIceBeside_19 : decode cX3_leastIceBeside 19 = .ok (.istore_n 2, 1) := by decide +kernel
theorem dX3_leastIceBeside_20 : decode cX3_leastIceBeside 20 = .ok (.iload_n 1, 1) := by decide +kernel
theorem dX3_leastIceBeside_21 : decode cX3_leastIceBeside 21 = .ok (.bipush 11, 2) := by decide +kernel
theorem dX3_leastIceBeside_23 : decode cX3_leastIceBeside 23 = .ok (.if_icmp .ge 17, 3) := by decide +kernel
theorem dX3_leastIceBeside_26 : decode cX3_leastIceBeside 26 = .ok (.aload_n 0, 1) := by decide +kernel
theorem dX3_leastIceBeside_27 : decode cX3_leastIceBeside 27 = .ok (.getfield 12, 3) := by decide +kernel
theorem dX3_leastIceBeside_30 : decode cX3_leastIceBeside 30 = .ok (.getfield 101, 3) := by decide +kernel
theorem dX3_leastIceBeside_33 : decode cX3_leastIceBeside 33 = .ok (.iload_n 1, 1) := by decide +kernel
theorem dX3_leastIceBeside_34 : decode cX3_leastIceBeside 34 = .ok (.iconst 1, 1) := by decide +kernel
theorem dX3_leastIceBeside_35 : decode cX3_leastIceBeside 35 = .ok (.iadd, 1) := by decide +kernel
theorem dX3_leastIceBeside_36 : decode cX3_leastIceBeside 36 = .ok (.iaload, 1) := by decide +kernel
theorem dX3_leastIceBeside_37 : decode cX3_leastIceBeside 37 = .ok (.goto 4, 3) := by decide +kernel
theorem dX3_leastIceBeside_40 : decode cX3_leastIceBeside 40 = .ok (.iconst 0, 1) := by decide +kernel
theorem dX3_leastIceBeside_41 : decode cX3_leastIceBeside 41 = .ok (.istore_n 3, 1) := by decide +kernel
theorem dX3_leastIceBeside_42 : decode cX3_leastIceBeside 42 = .ok (.iload_n 2, 1) := by decide +kernel
theorem dX3_leastIceBeside_43 : decode cX3_leastIceBeside 43 = .ok (.ifCond .ne 5, 3) := by decide +kernel
theorem dX3_leastIceBeside_46 : decode cX3_leastIceBeside 46 = .ok (.iload_n 3, 1) := by decide +kernel
theorem dX3_leastIceBeside_47 : decode cX3_leastIceBeside 47 = .ok (.ireturn, 1) := by decide +kernel
theorem dX3_leastIceBeside_48 : decode cX3_leastIceBeside 48 = .ok (.iload_n 3, 1) := by decide +kernel
theorem dX3_leastIceBeside_49 : decode cX3_leastIceBeside 49 = .ok (.ifCond .ne 7, 3) := by decide +kernel
theorem dX3_leastIceBeside_52 : decode cX3_leastIceBeside 52 = .ok (.iload_n 2, 1) := by decide +kernel
theorem dX3_leastIceBeside_53 : decode cX3_leastIceBeside 53 = .ok (.goto 8, 3) := by decide +kernel
theorem dX3_leastIceBeside_56 : decode cX3_leastIceBeside 56 = .ok (.iload_n 2, 1) := by decide +kernel
theorem dX3_leastIceBeside_57 : decode cX3_leastIceBeside 57 = .ok (.iload_n 3, 1) := by decide +kernel
theorem dX3_leastIceBeside_58 : decode cX3_leastIceBeside 58 = .ok (.invokestatic 134, 3) := by decide +kernel
theorem dX3_leastIceBeside_61 : decode cX3_leastIceBeside 61 = .ok (.ireturn, 1) := by decide +kernel
set_option maxRecDepth 20000 in
theorem ggX3_calve_X3_standsInSea : GoodIn wsX3_calve wsX3_standsInSea := goodIn_r _ [11, 4, 3, 31, 32, 33, 34, 35, 36, 37, 38, 39, 40, 41, 42, 43, 44, 45, 46] (by decide +kernel) (by decide +kernel)
set_option maxRecDepth 20000 in
theorem gX3_calve_X3_standsInSea : GoodIn wsX3_calve (wsV RX3 112 RX3 yX3_standsInSea wsX3_standsInSea) := goodIn_app (goodIn_of _ (by decide +kernel)) ggX3_calve_X3_standsInSea
set_option maxRecDepth 20000 in
theorem ggX3_calve_X1_takeLatest : GoodIn wsX3_calve wsX1_takeLatest := goodIn_r _ [16, 17, 18, 19, 20, 21, 22, 23, 15, 24, 25, 26, 27, 28, 29, 30, 47, 48] (by decide +kernel) (by decide +kernel)
set_option maxRecDepth 20000 in
theorem gX3_calve_X1_takeLatest : GoodIn wsX3_calve (wsV RX3 137 RX1 yX1_takeLatest wsX1_takeLatest) := goodIn_app (goodIn_of _ (by decide +kernel)) ggX3_calve_X1_takeLatest
theorem dX3_calve_0 : decode cX3_calve 0 = .ok (.bipush 11, 2) := by decide +kernel
theorem dX3_calve_2 : decode cX3_calve 2 = .ok (.istore_n 1, 1) := by decide +kernel
theorem dX3_calve_3 : decode cX3_calve 3 = .ok (.iload_n 1, 1) := by decide +kernel
theorem dX3_calve_4 : decode cX3_calve 4 = .ok (.ifCond .lt 85, 3) := by decide +kernel
theorem dX3_calve_7 : decode cX3_calve 7 = .ok (.aload_n 0, 1) := by decide +kernel
theorem dX3_calve_8 : decode cX3_calve 8 = .ok (.getfield 12, 3) := by decide +kernel
theorem dX3_calve_11 : decode cX3_calve 11 = .ok (.getfield 101, 3) := by decide +kernel
theorem dX3_calve_14 : decode cX3_calve 14 = .ok (.iload_n 1, 1) := by decide +kernel
theorem dX3_calve_15 : decode cX3_calve 15 = .ok (.iaload, 1) := by decide +kernel
theorem dX3_calve_16 : decode cX3_calve 16 = .ok (.istore_n 2, 1) := by decide +kernel
theorem dX3_calve_17 : decode cX3_calve 17 = .ok (.bipush 9, 2) := by decide +kernel
theorem dX3_calve_19 : decode cX3_calve 19 = .ok (.iload_n 2, 1) := by decide +kernel
theorem dX3_calve_20 : decode cX3_calve 20 = .ok (.imul, 1) := by decide +kernel
theorem dX3_calve_21 : decode cX3_calve 21 = .ok (.bipush 10, 2) := by decide +kernel
theorem dX3_calve_23 : decode cX3_calve 23 = .ok (.aload_n 0, 1) := by decide +kernel
theorem dX3_calve_24 : decode cX3_calve 24 = .ok (.getfield 57, 3) := by decide +kernel
theorem dX3_calve_27 : decode cX3_calve 27 = .ok (.aload_n 0, 1) := by decide +kernel
theorem dX3_calve_28 : decode cX3_calve 28 = .ok (.getfield 25, 3) := by decide +kernel
theorem dX3_calve_31 : decode cX3_calve 31 = .ok (.iload_n 1, 1) := by decide +kernel
theorem dX3_calve_32 : decode cX3_calve 32 = .ok (.iaload, 1) := by decide +kernel
theorem dX3_calve_33 : decode cX3_calve 33 = .ok (.isub, 1) := by decide +kernel
theorem dX3_calve_34 : decode cX3_calve 34 = .ok (.imul, 1) := by decide +kernel
theorem dX3_calve_35 : decode cX3_calve 35 = .ok (.if_icmp .lt 7, 3) := by decide +kernel
theorem dX3_calve_38 : decode cX3_calve 38 = .ok (.iconst 1, 1) := by decide +kernel
theorem dX3_calve_39 : decode cX3_calve 39 = .ok (.goto 4, 3) := by decide +kernel
theorem dX3_calve_42 : decode cX3_calve 42 = .ok (.iconst 0, 1) := by decide +kernel
theorem dX3_calve_43 : decode cX3_calve 43 = .ok (.istore_n 3, 1) := by decide +kernel
theorem dX3_calve_44 : decode cX3_calve 44 = .ok (.aload_n 0, 1) := by decide +kernel
theorem dX3_calve_45 : decode cX3_calve 45 = .ok (.iload_n 1, 1) := by decide +kernel
theorem dX3_calve_46 : decode cX3_calve 46 = .ok (.invokevirtual 112, 3) := by decide +kernel
theorem dX3_calve_49 : decode cX3_calve 49 = .ok (.ifCond .eq 11, 3) := by decide +kernel
theorem dX3_calve_52 : decode cX3_calve 52 = .ok (.iload_n 2, 1) := by decide +kernel
theorem dX3_calve_53 : decode cX3_calve 53 = .ok (.ifCond .le 8, 3) := by decide +kernel
theorem dX3_calve_56 : decode cX3_calve 56 = .ok (.iload_n 3, 1) := by decide +kernel
theorem dX3_calve_57 : decode cX3_calve 57 = .ok (.ifCond .eq 4, 3) := by decide +kernel
theorem dX3_calve_60 : decode cX3_calve 60 = .ok (.return_, 1) := by decide +kernel
theorem dX3_calve_61 : decode cX3_calve 61 = .ok (.aload_n 0, 1) := by decide +kernel
theorem dX3_calve_62 : decode cX3_calve 62 = .ok (.getfield 21, 3) := by decide +kernel
theorem dX3_calve_65 : decode cX3_calve 65 = .ok (.dup, 1) := by decide +kernel
theorem dX3_calve_66 : decode cX3_calve 66 = .ok (.getfield 168, 3) := by decide +kernel
theorem dX3_calve_69 : decode cX3_calve 69 = .ok (.iload_n 2, 1) := by decide +kernel
theorem dX3_calve_70 : decode cX3_calve 70 = .ok (.iadd, 1) := by decide +kernel
theorem dX3_calve_71 : decode cX3_calve 71 = .ok (.putfield 168, 3) := by decide +kernel
theorem dX3_calve_74 : decode cX3_calve 74 = .ok (.aload_n 0, 1) := by decide +kernel
theorem dX3_calve_75 : decode cX3_calve 75 = .ok (.getfield 12, 3) := by decide +kernel
theorem dX3_calve_78 : decode cX3_calve 78 = .ok (.iload_n 1, 1) := by decide +kernel
theorem dX3_calve_79 : decode cX3_calve 79 = .ok (.iload_n 2, 1) := by decide +kernel
theorem dX3_calve_80 : decode cX3_calve 80 = .ok (.invokevirtual 137, 3) := by decide +kernel
theorem dX3_calve_83 : decode cX3_calve 83 = .ok (.iinc 1 (-1), 3) := by decide +kernel
theorem dX3_calve_86 : decode cX3_calve 86 = .ok (.goto (-83), 3) := by decide +kernel
theorem dX3_calve_89 : decode cX3_calve 89 = .ok (.return_, 1) := by decide +kernel
set_option maxRecDepth 20000 in
theorem ggX3_moveBed_J9_floorDiv_7cf53 : GoodIn wsX3_moveBed wsJ9_floorDiv_7cf53 := goodIn_r _ [8] (by decide +kernel) (by decide +kernel)
set_option maxRecDepth 20000 in
theorem gX3_moveBed_J9_floorDiv_7cf53 : GoodIn wsX3_moveBed (va_wsS RX3 123 yJ9_floorDiv_7cf53 wsJ9_floorDiv_7cf53) := goodIn_app (goodIn_of _ (by decide +kernel)) ggX3_moveBed_J9_floorDiv_7cf53
theorem dX3_moveBed_0 : decode cX3_moveBed 0 = .ok (.aload_n 0, 1) := by decide +kernel
theorem dX3_moveBed_1 : decode cX3_moveBed 1 = .ok (.getfield 29, 3) := by decide +kernel
theorem dX3_moveBed_4 : decode cX3_moveBed 4 = .ok (.iload_n 1, 1) := by decide +kernel
theorem dX3_moveBed_5 : decode cX3_moveBed 5 = .ok (.iaload, 1) := by decide +kernel
theorem dX3_moveBed_6 : decode cX3_moveBed 6 = .ok (.aload_n 0, 1) := by decide +kernel
theorem dX3_moveBed_7 : decode cX3_moveBed 7 = .ok (.getfield 12, 3) := by decide +kernel
theorem dX3_moveBed_10 : decode cX3_moveBed 10 = .ok (.getfield 101, 3) := by decide +kernel
theorem dX3_moveBed_13 : decode cX3_moveBed 13 = .ok (.iload_n 1, 1) := by decide +kernel
theorem dX3_moveBed_14 : decode cX3_moveBed 14 = .ok (.iaload, 1) := by decide +kernel
theorem dX3_moveBed_15 : decode cX3_moveBed 15 = .ok (.iconst 3, 1) := by decide +kernel
theorem dX3_moveBed_16 : decode cX3_moveBed 16 = .ok (.invokestatic 123, 3) := by decide +kernel
theorem dX3_moveBed_19 : decode cX3_moveBed 19 = .ok (.isub, 1) := by decide +kernel
theorem dX3_moveBed_20 : decode cX3_moveBed 20 = .ok (.istore_n 2, 1) := by decide +kernel
theorem dX3_moveBed_21 : decode cX3_moveBed 21 = .ok (.aload_n 0, 1) := by decide +kernel
theorem dX3_moveBed_22 : decode cX3_moveBed 22 = .ok (.getfield 25, 3) := by decide +kernel
theorem dX3_moveBed_25 : decode cX3_moveBed 25 = .ok (.iload_n 1, 1) := by decide +kernel
theorem dX3_moveBed_26 : decode cX3_moveBed 26 = .ok (.iaload, 1) := by decide +kernel
theorem dX3_moveBed_27 : decode cX3_moveBed 27 = .ok (.iload_n 2, 1) := by decide +kernel
theorem dX3_moveBed_28 : decode cX3_moveBed 28 = .ok (.if_icmp .ge 16, 3) := by decide +kernel
theorem dX3_moveBed_31 : decode cX3_moveBed 31 = .ok (.aload_n 0, 1) := by decide +kernel
theorem dX3_moveBed_32 : decode cX3_moveBed 32 = .ok (.getfield 25, 3) := by decide +kernel
theorem dX3_moveBed_35 : decode cX3_moveBed 35 = .ok (.iload_n 1, 1) := by decide +kernel
theorem dX3_moveBed_36 : decode cX3_moveBed 36 = .ok (.dup2, 1) := by decide +kernel
theorem dX3_moveBed_37 : decode cX3_moveBed 37 = .ok (.iaload, 1) := by decide +kernel
theorem dX3_moveBed_38 : decode cX3_moveBed 38 = .ok (.iconst 1, 1) := by decide +kernel
theorem dX3_moveBed_39 : decode cX3_moveBed 39 = .ok (.iadd, 1) := by decide +kernel
theorem dX3_moveBed_40 : decode cX3_moveBed 40 = .ok (.iastore, 1) := by decide +kernel
theorem dX3_moveBed_41 : decode cX3_moveBed 41 = .ok (.goto 23, 3) := by decide +kernel
theorem dX3_moveBed_44 : decode cX3_moveBed 44 = .ok (.aload_n 0, 1) := by decide +kernel
theorem dX3_moveBed_45 : decode cX3_moveBed 45 = .ok (.getfield 25, 3) := by decide +kernel
theorem dX3_moveBed_48 : decode cX3_moveBed 48 = .ok (.iload_n 1, 1) := by decide +kernel
theorem dX3_moveBed_49 : decode cX3_moveBed 49 = .ok (.iaload, 1) := by decide +kernel
theorem dX3_moveBed_50 : decode cX3_moveBed 50 = .ok (.iload_n 2, 1) := by decide +kernel
theorem dX3_moveBed_51 : decode cX3_moveBed 51 = .ok (.if_icmp .le 13, 3) := by decide +kernel
theorem dX3_moveBed_54 : decode cX3_moveBed 54 = .ok (.aload_n 0, 1) := by decide +kernel
theorem dX3_moveBed_55 : decode cX3_moveBed 55 = .ok (.getfield 25, 3) := by decide +kernel
theorem dX3_moveBed_58 : decode cX3_moveBed 58 = .ok (.iload_n 1, 1) := by decide +kernel
theorem dX3_moveBed_59 : decode cX3_moveBed 59 = .ok (.dup2, 1) := by decide +kernel
theorem dX3_moveBed_60 : decode cX3_moveBed 60 = .ok (.iaload, 1) := by decide +kernel
theorem dX3_moveBed_61 : decode cX3_moveBed 61 = .ok (.iconst 1, 1) := by decide +kernel
theorem dX3_moveBed_62 : decode cX3_moveBed 62 = .ok (.isub, 1) := by decide +kernel
theorem dX3_moveBed_63 : decode cX3_moveBed 63 = .ok (.iastore, 1) := by decide +kernel
theorem dX3_moveBed_64 : decode cX3_moveBed 64 = .ok (.return_, 1) := by decide +kernel
theorem dX3_markFront_0 : decode cX3_markFront 0 = .ok (.aload_n 0, 1) := by decide +kernel
theorem dX3_markFront_1 : decode cX3_markFront 1 = .ok (.iconst (-1), 1) := by decide +kernel
theorem dX3_markFront_2 : decode cX3_markFront 2 = .ok (.putfield 50, 3) := by decide +kernel
theorem dX3_markFront_5 : decode cX3_markFront 5 = .ok (.iconst 0, 1) := by decide +kernel
theorem dX3_markFront_6 : decode cX3_markFront 6 = .ok (.istore_n 1, 1) := by decide +kernel
theorem dX3_markFront_7 : decode cX3_markFront 7 = .ok (.iload_n 1, 1) := by decide +kernel
theorem dX3_markFront_8 : decode cX3_markFront 8 = .ok (.bipush 12, 2) := by decide +kernel
theorem dX3_markFront_10 : decode cX3_markFront 10 = .ok (.if_icmp .ge 26, 3) := by decide +kernel
theorem dX3_markFront_13 : decode cX3_markFront 13 = .ok (.aload_n 0, 1) := by decide +kernel
theorem dX3_markFront_14 : decode cX3_markFront 14 = .ok (.getfield 12, 3) := by decide +kernel
theorem dX3_markFront_17 : decode cX3_markFront 17 = .ok (.getfield 101, 3) := by decide +kernel
theorem dX3_markFront_20 : decode cX3_markFront 20 = .ok (.iload_n 1, 1) := by decide +kernel
theorem dX3_markFront_21 : decode cX3_markFront 21 = .ok (.iaload, 1) := by decide +kernel
theorem dX3_markFront_22 : decode cX3_markFront 22 = .ok (.ifCond .le 8, 3) := by decide +kernel
theorem dX3_markFront_25 : decode cX3_markFront 25 = .ok (.aload_n 0, 1) := by decide +kernel
theorem dX3_markFront_26 : decode cX3_markFront 26 = .ok (.iload_n 1, 1) := by decide +kernel
theorem dX3_markFront_27 : decode cX3_markFront 27 = .ok (.putfield 50, 3) := by decide +kernel
theorem dX3_markFront_30 : decode cX3_markFront 30 = .ok (.iinc 1 1, 3) := by decide +kernel
theorem dX3_markFront_33 : decode cX3_markFront 33 = .ok (.goto (-26), 3) := by decide +kernel
theorem dX3_markFront_36 : decode cX3_markFront 36 = .ok (.aload_n 0, 1) := by decide +kernel
theorem dX3_markFront_37 : decode cX3_markFront 37 = .ok (.getfield 50, 3) := by decide +kernel
theorem dX3_markFront_40 : decode cX3_markFront 40 = .ok (.ifCond .lt 16, 3) := by decide +kernel
theorem dX3_markFront_43 : decode cX3_markFront 43 = .ok (.aload_n 0, 1) := by decide +kernel
theorem dX3_markFront_44 : decode cX3_markFront 44 = .ok (.getfield 35, 3) := by decide +kernel
theorem dX3_markFront_47 : decode cX3_markFront 47 = .ok (.aload_n 0, 1) := by decide +kernel
theorem dX3_markFront_48 : decode cX3_markFront 48 = .ok (.getfield 50, 3) := by decide +kernel
theorem dX3_markFront_51 : decode cX3_markFront 51 = .ok (.dup2, 1) := by decide +kernel
theorem dX3_markFront_52 : decode cX3_markFront 52 = .ok (.iaload, 1) := by decide +kernel
theorem dX3_markFront_53 : decode cX3_markFront 53 = .ok (.iconst 1, 1) := by decide +kernel
theorem dX3_markFront_54 : decode cX3_markFront 54 = .ok (.iadd, 1) := by decide +kernel
theorem dX3_markFront_55 : decode cX3_markFront 55 = .ok (.iastore, 1) := by decide +kernel
theorem dX3_markFront_56 : decode cX3_markFront 56 = .ok (.return_, 1) := by decide +kernel
theorem dX4_init_0 : decode cX4_init 0 = .ok (.aload_n 0, 1) := by decide +kernel
theorem dX4_init_1 : decode cX4_init 1 = .ok (.invokespecial 1, 3) := by decide +kernel
theorem dX4_init_4 : decode cX4_init 4 = .ok (.return_, 1) := by decide +kernel
set_option maxRecDepth 20000 in
theorem ggX5_init_X3_init : GoodIn wsX5_init wsX3_init := goodIn_r _ [19, 20, 2, 3, 21, 22, 23, 24, 25, 26, 27, 28, 29, 30, 31, 32, 33, 34, 35, 36, 37, 38, 39, 40, 41, 42, 43, 44, 45, 46, 93, 94, 63, 64, 65, 66, 67, 68, 69, 70, 71, 72, 73, 74, 75, 76, 77, 78, 95, 96, 97, 98, 99] (by decide +kernel) (by decide +kernel)
set_option maxRecDepth 20000 in
theorem gX5_init_X3_init : GoodIn wsX5_init (wsX3_init) := ggX5_init_X3_init
set_option maxRecDepth 20000 in
theorem ggX5_init_X0_init : GoodIn wsX5_init wsX0_init := goodIn_r _ [49, 50, 2, 3, 51, 52, 29, 53, 54, 55, 56, 57, 83, 84, 85, 86, 87, 88, 89] (by decide +kernel) (by decide +kernel)
set_option maxRecDepth 20000 in
theorem gX5_init_X0_init : GoodIn wsX5_init (wsX0_init) := ggX5_init_X0_init
set_option maxRecDepth 20000 in
theorem ggX5_init_X2_init : GoodIn wsX5_init wsX2_init := goodIn_r _ [59, 60, 2, 3, 29, 61, 62, 90, 91, 92] (by decide +kernel) (by decide +kernel)
set_option maxRecDepth 20000 in
theorem gX5_init_X2_init_n28 : GoodIn wsX5_init (wsX2_init) := ggX5_init_X2_init
theorem dX5_init_0 : decode cX5_init 0 = .ok (.aload_n 0, 1) := by decide +kernel
theorem dX5_init_1 : decode cX5_init 1 = .ok (.invokespecial 1, 3) := by decide +kernel
theorem dX5_init_4 : decode cX5_init 4 = .ok (.aload_n 0, 1) := by decide +kernel
theorem dX5_init_5 : decode cX5_init 5 = .ok (.new 7, 3) := by decide +kernel
theorem dX5_init_8 : decode cX5_init 8 = .ok (.dup, 1) := by decide +kernel
theorem dX5_init_9 : decode cX5_init 9 = .ok (.invokespecial 9, 3) := by decide +kernel
theorem dX5_init_12 : decode cX5_init 12 = .ok (.putfield 10, 3) := by decide +kernel
theorem dX5_init_15 : decode cX5_init 15 = .ok (.aload_n 0, 1) := by decide +kernel
theorem dX5_init_16 : decode cX5_init 16 = .ok (.new 7, 3) := by decide +kernel
theorem dX5_init_19 : decode cX5_init 19 = .ok (.dup, 1) := by decide +kernel
theorem dX5_init_20 : decode cX5_init 20 = .ok (.invokespecial 9, 3) := by decide +kernel
theorem dX5_init_23 : decode cX5_init 23 = .ok (.putfield 16, 3) := by decide +kernel
theorem dX5_init_26 : decode cX5_init 26 = .ok (.aload_n 0, 1) := by decide +kernel
theorem dX5_init_27 : decode cX5_init 27 = .ok (.new 19, 3) := by decide +kernel
theorem dX5_init_30 : decode cX5_init 30 = .ok (.dup, 1) := by decide +kernel
theorem dX5_init_31 : decode cX5_init 31 = .ok (.invokespecial 21, 3) := by decide +kernel
theorem dX5_init_34 : decode cX5_init 34 = .ok (.putfield 22, 3) := by decide +kernel
theorem dX5_init_37 : decode cX5_init 37 = .ok (.aload_n 0, 1) := by decide +kernel
theorem dX5_init_38 : decode cX5_init 38 = .ok (.new 26, 3) := by decide +kernel
theorem dX5_init_41 : decode cX5_init 41 = .ok (.dup, 1) := by decide +kernel
theorem dX5_init_42 : decode cX5_init 42 = .ok (.invokespecial 28, 3) := by decide +kernel
theorem dX5_init_45 : decode cX5_init 45 = .ok (.putfield 29, 3) := by decide +kernel
theorem dX5_init_48 : decode cX5_init 48 = .ok (.return_, 1) := by decide +kernel
set_option maxRecDepth 20000 in
theorem ggX5_land_X5_needCell : GoodIn wsX5_land wsX5_needCell := goodIn_ca (goodIn_r _ [12, 13, 14] (by decide +kernel) (by decide +kernel)) (goodIn_sub (fun _ h => List.mem_cons_of_mem _ (List.mem_append_left _ (List.mem_append_right _ h))) (by decide +kernel))
set_option maxRecDepth 20000 in
theorem gX5_land_X5_needCell : GoodIn wsX5_land (va_wsS RX5 33 yX5_needCell wsX5_needCell) := goodIn_app (goodIn_of _ (by decide +kernel)) ggX5_land_X5_needCell
set_option maxRecDepth 20000 in
theorem ggX5_land_X5_needWithin : GoodIn wsX5_land wsX5_needWithin := goodIn_ca (goodIn_r _ [17, 18, 19] (by decide +kernel) (by decide +kernel)) (goodIn_sub (fun _ h => List.mem_cons_of_mem _ (List.mem_append_right _ h)) (by decide +kernel))
set_option maxRecDepth 20000 in
theorem gX5_land_X5_needWithin : GoodIn wsX5_land (va_wsS RX5 37 yX5_needWithin wsX5_needWithin) := goodIn_app (goodIn_of _ (by decide +kernel)) ggX5_land_X5_needWithin
theorem dX5_land_0 : decode cX5_land 0 = .ok (.iload_n 1, 1) := by decide +kernel
theorem dX5_land_1 : decode cX5_land 1 = .ok (.invokestatic 33, 3) := by decide +kernel
theorem dX5_land_4 : decode cX5_land 4 = .ok (.iload_n 2, 1) := by decide +kernel
theorem dX5_land_5 : decode cX5_land 5 = .ok (.iconst 0, 1) := by decide +kernel
theorem dX5_land_6 : decode cX5_land 6 = .ok (.sipush 500, 3) := by decide +kernel
theorem dX5_land_9 : decode cX5_land 9 = .ok (.invokestatic 37, 3) := by decide +kernel
theorem dX5_land_12 : decode cX5_land 12 = .ok (.aload_n 0, 1) := by decide +kernel
theorem dX5_land_13 : decode cX5_land 13 = .ok (.getfield 10, 3) := by decide +kernel
theorem dX5_land_16 : decode cX5_land 16 = .ok (.getfield 41, 3) := by decide +kernel
theorem dX5_land_19 : decode cX5_land 19 = .ok (.getfield 45, 3) := by decide +kernel
theorem dX5_land_22 : decode cX5_land 22 = .ok (.iload_n 1, 1) := by decide +kernel
theorem dX5_land_23 : decode cX5_land 23 = .ok (.iaload, 1) := by decide +kernel
theorem dX5_land_24 : decode cX5_land 24 = .ok (.ifCond .gt 15, 3) := by decide +kernel
theorem dX5_land_27 : decode cX5_land 27 = .ok (.aload_n 0, 1) := by decide +kernel
theorem dX5_land_28 : decode cX5_land 28 = .ok (.getfield 10, 3) := by decide +kernel
theorem dX5_land_31 : decode cX5_land 31 = .ok (.getfield 51, 3) := by decide +kernel
theorem dX5_land_34 : decode cX5_land 34 = .ok (.iload_n 1, 1) := by decide +kernel
theorem dX5_land_35 : decode cX5_land 35 = .ok (.iaload, 1) := by decide +kernel
theorem dX5_land_36 : decode cX5_land 36 = .ok (.ifCond .le 13, 3) := by decide +kernel
theorem dX5_land_39 : decode cX5_land 39 = .ok (.new 54, 3) := by decide +kernel
theorem dX5_land_42 : decode cX5_land 42 = .ok (.dup, 1) := by decide +kernel
theorem dX5_land_43 : decode cX5_land 43 = .ok (.ldc 56, 2) := by decide +kernel
theorem dX5_land_45 : decode cX5_land 45 = .ok (.invokespecial 58, 3) := by decide +kernel
theorem dX5_land_48 : decode cX5_land 48 = .ok (.athrow, 1) := by decide +kernel
theorem dX5_land_49 : decode cX5_land 49 = .ok (.aload_n 0, 1) := by decide +kernel
theorem dX5_land_50 : decode cX5_land 50 = .ok (.getfield 10, 3) := by decide +kernel
theorem dX5_land_53 : decode cX5_land 53 = .ok (.getfield 61, 3) := by decide +kernel
theorem dX5_land_56 : decode cX5_land 56 = .ok (.iload_n 1, 1) := by decide +kernel
theorem dX5_land_57 : decode cX5_land 57 = .ok (.iaload, 1) := by decide +kernel
theorem dX5_land_58 : decode cX5_land 58 = .ok (.istore_n 3, 1) := by decide +kernel
theorem dX5_land_59 : decode cX5_land 59 = .ok (.aload_n 0, 1) := by decide +kernel
theorem dX5_land_60 : decode cX5_land 60 = .ok (.getfield 10, 3) := by decide +kernel
theorem dX5_land_63 : decode cX5_land 63 = .ok (.getfield 61, 3) := by decide +kernel
theorem dX5_land_66 : decode cX5_land 66 = .ok (.iload_n 1, 1) := by decide +kernel
theorem dX5_land_67 : decode cX5_land 67 = .ok (.iload_n 2, 1) := by decide +kernel
theorem dX5_land_68 : decode cX5_land 68 = .ok (.iastore, 1) := by decide +kernel
theorem dX5_land_69 : decode cX5_land 69 = .ok (.aload_n 0, 1) := by decide +kernel
theorem dX5_land_70 : decode cX5_land 70 = .ok (.getfield 10, 3) := by decide +kernel
theorem dX5_land_73 : decode cX5_land 73 = .ok (.getfield 64, 3) := by decide +kernel
theorem dX5_land_76 : decode cX5_land 76 = .ok (.iload_n 1, 1) := by decide +kernel
theorem dX5_land_77 : decode cX5_land 77 = .ok (.iload_n 2, 1) := by decide +kernel
theorem dX5_land_78 : decode cX5_land 78 = .ok (.iastore, 1) := by decide +kernel
theorem dX5_land_79 : decode cX5_land 79 = .ok (.iload_n 3, 1) := by decide +kernel
theorem dX5_land_80 : decode cX5_land 80 = .ok (.ireturn, 1) := by decide +kernel
set_option maxRecDepth 20000 in
theorem ggX5_sea_X5_needWithin : GoodIn wsX5_sea wsX5_needWithin := goodIn_ca (goodIn_r _ [6, 7, 8] (by decide +kernel) (by decide +kernel)) (goodIn_sub (fun _ h => List.mem_cons_of_mem _ (List.mem_append_right _ h)) (by decide +kernel))
set_option maxRecDepth 20000 in
theorem gX5_sea_X5_needWithin : GoodIn wsX5_sea (va_wsS RX5 37 yX5_needWithin wsX5_needWithin) := goodIn_app (goodIn_of _ (by decide +kernel)) ggX5_sea_X5_needWithin
theorem dX5_sea_0 : decode cX5_sea 0 = .ok (.iload_n 1, 1) := by decide +kernel
theorem dX5_sea_1 : decode cX5_sea 1 = .ok (.iconst 0, 1) := by decide +kernel
theorem dX5_sea_2 : decode cX5_sea 2 = .ok (.sipush 500, 3) := by decide +kernel
theorem dX5_sea_5 : decode cX5_sea 5 = .ok (.invokestatic 37, 3) := by decide +kernel
theorem dX5_sea_8 : decode cX5_sea 8 = .ok (.aload_n 0, 1) := by decide +kernel
theorem dX5_sea_9 : decode cX5_sea 9 = .ok (.getfield 10, 3) := by decide +kernel
theorem dX5_sea_12 : decode cX5_sea 12 = .ok (.getfield 67, 3) := by decide +kernel
theorem dX5_sea_15 : decode cX5_sea 15 = .ok (.istore_n 2, 1) := by decide +kernel
theorem dX5_sea_16 : decode cX5_sea 16 = .ok (.aload_n 0, 1) := by decide +kernel
theorem dX5_sea_17 : decode cX5_sea 17 = .ok (.getfield 10, 3) := by decide +kernel
theorem dX5_sea_20 : decode cX5_sea 20 = .ok (.iload_n 1, 1) := by decide +kernel
theorem dX5_sea_21 : decode cX5_sea 21 = .ok (.putfield 67, 3) := by decide +kernel
theorem dX5_sea_24 : decode cX5_sea 24 = .ok (.iload_n 2, 1) := by decide +kernel
theorem dX5_sea_25 : decode cX5_sea 25 = .ok (.ireturn, 1) := by decide +kernel
set_option maxRecDepth 20000 in
theorem ggX5_climate_X5_needWithin : GoodIn wsX5_climate wsX5_needWithin := goodIn_ca (goodIn_r _ [8, 9, 10] (by decide +kernel) (by decide +kernel)) (goodIn_sub (fun _ h => List.mem_cons_of_mem _ (List.mem_append_right _ h)) (by decide +kernel))
set_option maxRecDepth 20000 in
theorem gX5_climate_X5_needWithin : GoodIn wsX5_climate (va_wsS RX5 37 yX5_needWithin wsX5_needWithin) := goodIn_app (goodIn_of _ (by decide +kernel)) ggX5_climate_X5_needWithin
theorem dX5_climate_0 : decode cX5_climate 0 = .ok (.iload_n 1, 1) := by decide +kernel
theorem dX5_climate_1 : decode cX5_climate 1 = .ok (.sipush (-300), 3) := by decide +kernel
theorem dX5_climate_4 : decode cX5_climate 4 = .ok (.sipush 300, 3) := by decide +kernel
theorem dX5_climate_7 : decode cX5_climate 7 = .ok (.invokestatic 37, 3) := by decide +kernel
theorem dX5_climate_10 : decode cX5_climate 10 = .ok (.iload_n 2, 1) := by decide +kernel
theorem dX5_climate_11 : decode cX5_climate 11 = .ok (.iconst 0, 1) := by decide +kernel
theorem dX5_climate_12 : decode cX5_climate 12 = .ok (.bipush 20, 2) := by decide +kernel
theorem dX5_climate_14 : decode cX5_climate 14 = .ok (.invokestatic 37, 3) := by decide +kernel
theorem dX5_climate_17 : decode cX5_climate 17 = .ok (.iload_n 3, 1) := by decide +kernel
theorem dX5_climate_18 : decode cX5_climate 18 = .ok (.iconst 0, 1) := by decide +kernel
theorem dX5_climate_19 : decode cX5_climate 19 = .ok (.bipush 9, 2) := by decide +kernel
theorem dX5_climate_21 : decode cX5_climate 21 = .ok (.invokestatic 37, 3) := by decide +kernel
theorem dX5_climate_24 : decode cX5_climate 24 = .ok (.aload_n 0, 1) := by decide +kernel
theorem dX5_climate_25 : decode cX5_climate 25 = .ok (.getfield 10, 3) := by decide +kernel
theorem dX5_climate_28 : decode cX5_climate 28 = .ok (.iload_n 1, 1) := by decide +kernel
theorem dX5_climate_29 : decode cX5_climate 29 = .ok (.putfield 71, 3) := by decide +kernel
theorem dX5_climate_32 : decode cX5_climate 32 = .ok (.aload_n 0, 1) := by decide +kernel
theorem dX5_climate_33 : decode cX5_climate 33 = .ok (.getfield 10, 3) := by decide +kernel
theorem dX5_climate_36 : decode cX5_climate 36 = .ok (.iload_n 2, 1) := by decide +kernel
theorem dX5_climate_37 : decode cX5_climate 37 = .ok (.putfield 74, 3) := by decide +kernel
theorem dX5_climate_40 : decode cX5_climate 40 = .ok (.aload_n 0, 1) := by decide +kernel
theorem dX5_climate_41 : decode cX5_climate 41 = .ok (.getfield 10, 3) := by decide +kernel
theorem dX5_climate_44 : decode cX5_climate 44 = .ok (.iload_n 3, 1) := by decide +kernel
theorem dX5_climate_45 : decode cX5_climate 45 = .ok (.putfield 77, 3) := by decide +kernel
theorem dX5_climate_48 : decode cX5_climate 48 = .ok (.return_, 1) := by decide +kernel
set_option maxRecDepth 20000 in
theorem ggX5_ice_X5_needCell : GoodIn wsX5_ice wsX5_needCell := goodIn_ca (goodIn_r _ [12, 13, 14] (by decide +kernel) (by decide +kernel)) (goodIn_sub (fun _ h => List.mem_cons_of_mem _ (List.mem_append_left _ (List.mem_append_right _ h))) (by decide +kernel))
set_option maxRecDepth 20000 in
theorem gX5_ice_X5_needCell : GoodIn wsX5_ice (va_wsS RX5 33 yX5_needCell wsX5_needCell) := goodIn_app (goodIn_of _ (by decide +kernel)) ggX5_ice_X5_needCell
set_option maxRecDepth 20000 in
theorem ggX5_ice_X5_needWithin : GoodIn wsX5_ice wsX5_needWithin := goodIn_ca (goodIn_r _ [17, 18, 19] (by decide +kernel) (by decide +kernel)) (goodIn_sub (fun _ h => List.mem_cons_of_mem _ (List.mem_append_right _ h)) (by decide +kernel))
set_option maxRecDepth 20000 in
theorem gX5_ice_X5_needWithin : GoodIn wsX5_ice (va_wsS RX5 37 yX5_needWithin wsX5_needWithin) := goodIn_app (goodIn_of _ (by decide +kernel)) ggX5_ice_X5_needWithin
set_option maxRecDepth 20000 in
theorem ggX5_ice_X1_lay : GoodIn wsX5_ice wsX1_lay := goodIn_r _ [24, 25, 26, 47, 48] (by decide +kernel) (by decide +kernel)
set_option maxRecDepth 20000 in
theorem gX5_ice_X1_lay : GoodIn wsX5_ice (wsV RX5 85 RX1 yX1_lay wsX1_lay) := goodIn_app (goodIn_of _ (by decide +kernel)) ggX5_ice_X1_lay
theorem dX5_ice_0 : decode cX5_ice 0 = .ok (.iload_n 1, 1) := by decide +kernel
theorem dX5_ice_1 : decode cX5_ice 1 = .ok (.invokestatic 33, 3) := by decide +kernel
theorem dX5_ice_4 : decode cX5_ice 4 = .ok (.iload_n 2, 1) := by decide +kernel
theorem dX5_ice_5 : decode cX5_ice 5 = .ok (.iconst 1, 1) := by decide +kernel
theorem dX5_ice_6 : decode cX5_ice 6 = .ok (.sipush 999, 3) := by decide +kernel
theorem dX5_ice_9 : decode cX5_ice 9 = .ok (.invokestatic 37, 3) := by decide +kernel
theorem dX5_ice_12 : decode cX5_ice 12 = .ok (.aload_n 0, 1) := by decide +kernel
theorem dX5_ice_13 : decode cX5_ice 13 = .ok (.getfield 10, 3) := by decide +kernel
theorem dX5_ice_16 : decode cX5_ice 16 = .ok (.getfield 41, 3) := by decide +kernel
theorem dX5_ice_19 : decode cX5_ice 19 = .ok (.getfield 45, 3) := by decide +kernel
theorem dX5_ice_22 : decode cX5_ice 22 = .ok (.iload_n 1, 1) := by decide +kernel
theorem dX5_ice_23 : decode cX5_ice 23 = .ok (.iaload, 1) := by decide +kernel
theorem dX5_ice_24 : decode cX5_ice 24 = .ok (.iload_n 2, 1) := by decide +kernel
theorem dX5_ice_25 : decode cX5_ice 25 = .ok (.iadd, 1) := by decide +kernel
theorem dX5_ice_26 : decode cX5_ice 26 = .ok (.sipush 9999, 3) := by decide +kernel
theorem dX5_ice_29 : decode cX5_ice 29 = .ok (.if_icmp .le 13, 3) := by decide +kernel
theorem dX5_ice_32 : decode cX5_ice 32 = .ok (.new 54, 3) := by decide +kernel
theorem dX5_ice_35 : decode cX5_ice 35 = .ok (.dup, 1) := by decide +kernel
theorem dX5_ice_36 : decode cX5_ice 36 = .ok (.ldc 80, 2) := by decide +kernel
theorem dX5_ice_38 : decode cX5_ice 38 = .ok (.invokespecial 58, 3) := by decide +kernel
theorem dX5_ice_41 : decode cX5_ice 41 = .ok (.athrow, 1) := by decide +kernel
theorem dX5_ice_42 : decode cX5_ice 42 = .ok (.aload_n 0, 1) := by decide +kernel
theorem dX5_ice_43 : decode cX5_ice 43 = .ok (.getfield 10, 3) := by decide +kernel
theorem dX5_ice_46 : decode cX5_ice 46 = .ok (.getfield 41, 3) := by decide +kernel
theorem dX5_ice_49 : decode cX5_ice 49 = .ok (.iload_n 1, 1) := by decide +kernel
theorem dX5_ice_50 : decode cX5_ice 50 = .ok (.aload_n 0, 1) := by decide +kernel
theorem dX5_ice_51 : decode cX5_ice 51 = .ok (.getfield 10, 3) := by decide +kernel
theorem dX5_ice_54 : decode cX5_ice 54 = .ok (.getfield 82, 3) := by decide +kernel
theorem dX5_ice_57 : decode cX5_ice 57 = .ok (.iload_n 2, 1) := by decide +kernel
theorem dX5_ice_58 : decode cX5_ice 58 = .ok (.invokevirtual 85, 3) := by decide +kernel
theorem dX5_ice_61 : decode cX5_ice 61 = .ok (.aload_n 0, 1) := by decide +kernel
theorem dX5_ice_62 : decode cX5_ice 62 = .ok (.getfield 10, 3) := by decide +kernel
theorem dX5_ice_65 : decode cX5_ice 65 = .ok (.getfield 88, 3) := by decide +kernel
theorem dX5_ice_68 : decode cX5_ice 68 = .ok (.dup, 1) := by decide +kernel
theorem dX5_ice_69 : decode cX5_ice 69 = .ok (.getfield 92, 3) := by decide +kernel
theorem dX5_ice_72 : decode cX5_ice 72 = .ok (.iload_n 2, 1) := by decide +kernel
theorem dX5_ice_73 : decode cX5_ice 73 = .ok (.iadd, 1) := by decide +kernel
theorem dX5_ice_74 : decode cX5_ice 74 = .ok (.putfield 92, 3) := by decide +kernel
theorem dX5_ice_77 : decode cX5_ice 77 = .ok (.aload_n 0, 1) := by decide +kernel
theorem dX5_ice_78 : decode cX5_ice 78 = .ok (.getfield 10, 3) := by decide +kernel
theorem dX5_ice_81 : decode cX5_ice 81 = .ok (.getfield 41, 3) := by decide +kernel
theorem dX5_ice_84 : decode cX5_ice 84 = .ok (.getfield 45, 3) := by decide +kernel
theorem dX5_ice_87 : decode cX5_ice 87 = .ok (.iload_n 1, 1) := by decide +kernel
theorem dX5_ice_88 : decode cX5_ice 88 = .ok (.iaload, 1) := by decide +kernel
theorem dX5_ice_89 : decode cX5_ice 89 = .ok (.ireturn, 1) := by decide +kernel
theorem dX5_ash_0 : decode cX5_ash 0 = .ok (.aload_n 0, 1) := by decide +kernel
theorem dX5_ash_1 : decode cX5_ash 1 = .ok (.getfield 22, 3) := by decide +kernel
theorem dX5_ash_4 : decode cX5_ash 4 = .ok (.getfield 97, 3) := by decide +kernel
theorem dX5_ash_7 : decode cX5_ash 7 = .ok (.aload_n 0, 1) := by decide +kernel
theorem dX5_ash_8 : decode cX5_ash 8 = .ok (.getfield 10, 3) := by decide +kernel
theorem dX5_ash_11 : decode cX5_ash 11 = .ok (.getfield 82, 3) := by decide +kernel
theorem dX5_ash_14 : decode cX5_ash 14 = .ok (.baload, 1) := by decide +kernel
theorem dX5_ash_15 : decode cX5_ash 15 = .ok (.istore_n 1, 1) := by decide +kernel
theorem dX5_ash_16 : decode cX5_ash 16 = .ok (.aload_n 0, 1) := by decide +kernel
theorem dX5_ash_17 : decode cX5_ash 17 = .ok (.getfield 22, 3) := by decide +kernel
theorem dX5_ash_20 : decode cX5_ash 20 = .ok (.getfield 97, 3) := by decide +kernel
theorem dX5_ash_23 : decode cX5_ash 23 = .ok (.aload_n 0, 1) := by decide +kernel
theorem dX5_ash_24 : decode cX5_ash 24 = .ok (.getfield 10, 3) := by decide +kernel
theorem dX5_ash_27 : decode cX5_ash 27 = .ok (.getfield 82, 3) := by decide +kernel
theorem dX5_ash_30 : decode cX5_ash 30 = .ok (.iconst 1, 1) := by decide +kernel
theorem dX5_ash_31 : decode cX5_ash 31 = .ok (.bastore, 1) := by decide +kernel
theorem dX5_ash_32 : decode cX5_ash 32 = .ok (.iload_n 1, 1) := by decide +kernel
theorem dX5_ash_33 : decode cX5_ash 33 = .ok (.ireturn, 1) := by decide +kernel
set_option maxRecDepth 20000 in
theorem ggX5_pass_X5_needWithin : GoodIn wsX5_pass wsX5_needWithin := goodIn_ca (goodIn_r _ [7, 8, 9] (by decide +kernel) (by decide +kernel)) (goodIn_sub (fun _ h => List.mem_cons_of_mem _ (List.mem_append_left _ (List.mem_append_right _ h))) (by decide +kernel))
set_option maxRecDepth 20000 in
theorem gX5_pass_X5_needWithin : GoodIn wsX5_pass (va_wsS RX5 37 yX5_needWithin wsX5_needWithin) := goodIn_app (goodIn_of _ (by decide +kernel)) ggX5_pass_X5_needWithin
set_option maxRecDepth 20000 in
theorem ggX5_pass_X5_needNotTooLate : GoodIn wsX5_pass wsX5_needNotTooLate := goodIn_ca (goodIn_r _ [13, 14, 15, 1, 3, 150, 151, 152, 153, 154, 155, 156, 157, 158, 159, 160, 161, 162, 163, 164, 165, 166, 167, 168, 169] (by decide +kernel) (by decide +kernel)) (goodIn_sub (fun _ h => List.mem_cons_of_mem _ (List.mem_append_right _ h)) (by decide +kernel))
set_option maxRecDepth 20000 in
theorem gX5_pass_X5_needNotTooLate : GoodIn wsX5_pass (wsV RX5 101 RX5 yX5_needNotTooLate wsX5_needNotTooLate) := goodIn_app (goodIn_of _ (by decide +kernel)) ggX5_pass_X5_needNotTooLate
set_option maxRecDepth 20000 in
theorem ggX5_pass_X3_goThroughYear : GoodIn wsX5_pass wsX3_goThroughYear := goodIn_r _ [20, 21, 22, 23, 24, 19, 25, 26, 27, 28, 29, 30, 31, 32, 33, 34, 35, 36, 37, 38, 39, 40, 41, 42, 43, 44, 45, 46, 47, 48, 49, 50, 51, 52, 53, 54, 55, 56, 57, 58, 59, 60, 61, 62, 63, 64, 65, 66, 67, 68, 69, 70, 71, 72, 73, 74, 75, 76, 77, 78, 79, 80, 81, 82, 83, 84, 85, 86, 87, 88, 89, 90, 91, 92, 93, 94, 95, 96, 97, 98, 99, 100, 101, 102, 103, 104, 105, 106, 107, 108, 109, 110, 111, 112, 113, 114, 115, 116, 117, 118, 119, 120, 121, 122, 123, 124, 125, 126, 127, 128, 129, 130, 154, 155, 156, 157, 158, 159, 160, 161, 162, 163, 164, 165, 166, 167, 168, 169, 170, 171, 172, 173, 174, 175, 176] (by decide +kernel) (by decide +kernel)
set_option maxRecDepth 20000 in
theorem gX5_pass_X3_goThroughYear : GoodIn wsX5_pass (wsV RX5 104 RX3 yX3_goThroughYear wsX3_goThroughYear) := goodIn_app (goodIn_of _ (by decide +kernel)) ggX5_pass_X3_goThroughYear
set_option maxRecDepth 20000 in
theorem ggX5_pass_X0_note : GoodIn wsX5_pass wsX0_note := goodIn_r _ [135, 136, 137, 138, 139, 140, 141, 142, 143, 144, 145, 146, 147, 148, 57, 149, 60, 177, 178, 179, 180, 181, 182, 183, 154, 155, 156, 157, 158, 159, 160, 161, 162, 163, 164, 165, 166, 167, 168, 169, 170, 171] (by decide +kernel) (by decide +kernel)
set_option maxRecDepth 20000 in
theorem gX5_pass_X0_note : GoodIn wsX5_pass (wsV RX5 107 RX0 yX0_note wsX0_note) := goodIn_app (goodIn_of _ (by decide +kernel)) ggX5_pass_X0_note
theorem dX5_pass_0 : decode cX5_pass 0 = .ok (.iload_n 1, 1) := by decide +kernel
theorem dX5_pass_1 : decode cX5_pass 1 = .ok (.iconst 1, 1) := by decide +kernel
theorem dX5_pass_2 : decode cX5_pass 2 = .ok (.bipush 20, 2) := by decide +kernel
theorem dX5_pass_4 : decode cX5_pass 4 = .ok (.invokestatic 37, 3) := by decide +kernel
theorem dX5_pass_7 : decode cX5_pass 7 = .ok (.aload_n 0, 1) := by decide +kernel
theorem dX5_pass_8 : decode cX5_pass 8 = .ok (.iload_n 1, 1) := by decide +kernel
theorem dX5_pass_9 : decode cX5_pass 9 = .ok (.invokevirtual 101, 3) := by decide +kernel
theorem dX5_pass_12 : decode cX5_pass 12 = .ok (.iconst 0, 1) := by decide +kernel
theorem dX5_pass_13 : decode cX5_pass 13 = .ok (.istore_n 2, 1) := by decide +kernel
theorem dX5_pass_14 : decode cX5_pass 14 = .ok (.iload_n 2, 1) := by decide +kernel
theorem dX5_pass_15 : decode cX5_pass 15 = .ok (.iload_n 1, 1) := by decide +kernel
theorem dX5_pass_16 : decode cX5_pass 16 = .ok (.if_icmp .ge 27, 3) := by decide +kernel
theorem dX5_pass_19 : decode cX5_pass 19 = .ok (.aload_n 0, 1) := by decide +kernel
theorem dX5_pass_20 : decode cX5_pass 20 = .ok (.getfield 10, 3) := by decide +kernel
theorem dX5_pass_23 : decode cX5_pass 23 = .ok (.invokevirtual 104, 3) := by decide +kernel
theorem dX5_pass_26 : decode cX5_pass 26 = .ok (.aload_n 0, 1) := by decide +kernel
theorem dX5_pass_27 : decode cX5_pass 27 = .ok (.getfield 22, 3) := by decide +kernel
theorem dX5_pass_30 : decode cX5_pass 30 = .ok (.aload_n 0, 1) := by decide +kernel
theorem dX5_pass_31 : decode cX5_pass 31 = .ok (.getfield 10, 3) := by decide +kernel
theorem dX5_pass_34 : decode cX5_pass 34 = .ok (.invokevirtual 107, 3) := by decide +kernel
theorem dX5_pass_37 : decode cX5_pass 37 = .ok (.iinc 2 1, 3) := by decide +kernel
theorem dX5_pass_40 : decode cX5_pass 40 = .ok (.goto (-26), 3) := by decide +kernel
theorem dX5_pass_43 : decode cX5_pass 43 = .ok (.aload_n 0, 1) := by decide +kernel
theorem dX5_pass_44 : decode cX5_pass 44 = .ok (.getfield 10, 3) := by decide +kernel
theorem dX5_pass_47 : decode cX5_pass 47 = .ok (.getfield 82, 3) := by decide +kernel
theorem dX5_pass_50 : decode cX5_pass 50 = .ok (.ireturn, 1) := by decide +kernel
set_option maxRecDepth 20000 in
theorem ggX5_cellIs_X5_needCell : GoodIn wsX5_cellIs wsX5_needCell := goodIn_ca (goodIn_r _ [5, 6, 7] (by decide +kernel) (by decide +kernel)) (goodIn_sub (fun _ h => List.mem_cons_of_mem _ (List.mem_append_left _ (List.mem_append_right _ h))) (by decide +kernel))
set_option maxRecDepth 20000 in
theorem gX5_cellIs_X5_needCell : GoodIn wsX5_cellIs (va_wsS RX5 33 yX5_needCell wsX5_needCell) := goodIn_app (goodIn_of _ (by decide +kernel)) ggX5_cellIs_X5_needCell
set_option maxRecDepth 20000 in
theorem ggX5_cellIs_X5_needWithin : GoodIn wsX5_cellIs wsX5_needWithin := goodIn_ca (goodIn_r _ [10, 11, 12] (by decide +kernel) (by decide +kernel)) (goodIn_sub (fun _ h => List.mem_cons_of_mem _ (List.mem_append_right _ h)) (by decide +kernel))
set_option maxRecDepth 20000 in
theorem gX5_cellIs_X5_needWithin : GoodIn wsX5_cellIs (va_wsS RX5 37 yX5_needWithin wsX5_needWithin) := goodIn_app (goodIn_of _ (by decide +kernel)) ggX5_cellIs_X5_needWithin
set_option maxRecDepth 20000 in
theorem ggX5_cellIs_X3_tellOf : GoodIn wsX5_cellIs wsX3_tellOf := goodIn_r _ [17, 18, 19, 20, 21, 22, 23, 24, 25, 26, 27, 16, 28, 29, 30, 31, 32, 33, 34, 35, 36, 37, 38, 39, 40, 41, 42, 43, 44, 45, 46, 51, 52, 53, 54, 55, 56, 57, 58, 59, 60, 61, 62, 63, 64, 65, 66, 67, 68] (by decide +kernel) (by decide +kernel)
set_option maxRecDepth 20000 in
theorem gX5_cellIs_X3_tellOf : GoodIn wsX5_cellIs (wsV RX5 111 RX3 yX3_tellOf wsX3_tellOf) := goodIn_app (goodIn_of _ (by decide +kernel)) ggX5_cellIs_X3_tellOf
theorem dX5_cellIs_0 : decode cX5_cellIs 0 = .ok (.iload_n 1, 1) := by decide +kernel
theorem dX5_cellIs_1 : decode cX5_cellIs 1 = .ok (.invokestatic 33, 3) := by decide +kernel
theorem dX5_cellIs_4 : decode cX5_cellIs 4 = .ok (.iload_n 2, 1) := by decide +kernel
theorem dX5_cellIs_5 : decode cX5_cellIs 5 = .ok (.iconst 0, 1) := by decide +kernel
theorem dX5_cellIs_6 : decode cX5_cellIs 6 = .ok (.bipush 9, 2) := by decide +kernel
theorem dX5_cellIs_8 : decode cX5_cellIs 8 = .ok (.invokestatic 37, 3) := by decide +kernel
theorem dX5_cellIs_11 : decode cX5_cellIs 11 = .ok (.aload_n 0, 1) := by decide +kernel
theorem dX5_cellIs_12 : decode cX5_cellIs 12 = .ok (.getfield 10, 3) := by decide +kernel
theorem dX5_cellIs_15 : decode cX5_cellIs 15 = .ok (.iload_n 1, 1) := by decide +kernel
theorem dX5_cellIs_16 : decode cX5_cellIs 16 = .ok (.iload_n 2, 1) := by decide +kernel
theorem dX5_cellIs_17 : decode cX5_cellIs 17 = .ok (.invokevirtual 111, 3) := by decide +kernel
theorem dX5_cellIs_20 : decode cX5_cellIs 20 = .ok (.ireturn, 1) := by decide +kernel
set_option maxRecDepth 20000 in
theorem ggX5_layer_X5_needCell : GoodIn wsX5_layer wsX5_needCell := goodIn_ca (goodIn_r _ [6, 7, 8] (by decide +kernel) (by decide +kernel)) (goodIn_sub (fun _ h => List.mem_cons_of_mem _ (List.mem_append_left _ (List.mem_append_right _ h))) (by decide +kernel))
set_option maxRecDepth 20000 in
theorem gX5_layer_X5_needCell : GoodIn wsX5_layer (va_wsS RX5 33 yX5_needCell wsX5_needCell) := goodIn_app (goodIn_of _ (by decide +kernel)) ggX5_layer_X5_needCell
set_option maxRecDepth 20000 in
theorem ggX5_layer_X5_needWithin : GoodIn wsX5_layer wsX5_needWithin := goodIn_ca (goodIn_r _ [11, 12, 13] (by decide +kernel) (by decide +kernel)) (goodIn_sub (fun _ h => List.mem_cons_of_mem _ (List.mem_append_right _ h)) (by decide +kernel))
set_option maxRecDepth 20000 in
theorem gX5_layer_X5_needWithin : GoodIn wsX5_layer (va_wsS RX5 37 yX5_needWithin wsX5_needWithin) := goodIn_app (goodIn_of _ (by decide +kernel)) ggX5_layer_X5_needWithin
set_option maxRecDepth 20000 in
theorem ggX5_layer_X1_unitsOf : GoodIn wsX5_layer wsX1_unitsOf := goodIn_r _ [18, 19, 40, 41] (by decide +kernel) (by decide +kernel)
set_option maxRecDepth 20000 in
theorem gX5_layer_X1_unitsOf : GoodIn wsX5_layer (wsV RX5 115 RX1 yX1_unitsOf wsX1_unitsOf) := goodIn_app (goodIn_of _ (by decide +kernel)) ggX5_layer_X1_unitsOf
theorem dX5_layer_0 : decode cX5_layer 0 = .ok (.iload_n 1, 1) := by decide +kernel
theorem dX5_layer_1 : decode cX5_layer 1 = .ok (.invokestatic 33, 3) := by decide +kernel
theorem dX5_layer_4 : decode cX5_layer 4 = .ok (.iload_n 2, 1) := by decide +kernel
theorem dX5_layer_5 : decode cX5_layer 5 = .ok (.iconst 0, 1) := by decide +kernel
theorem dX5_layer_6 : decode cX5_layer 6 = .ok (.bipush 60, 2) := by decide +kernel
theorem dX5_layer_8 : decode cX5_layer 8 = .ok (.invokestatic 37, 3) := by decide +kernel
theorem dX5_layer_11 : decode cX5_layer 11 = .ok (.aload_n 0, 1) := by decide +kernel
theorem dX5_layer_12 : decode cX5_layer 12 = .ok (.getfield 10, 3) := by decide +kernel
theorem dX5_layer_15 : decode cX5_layer 15 = .ok (.getfield 41, 3) := by decide +kernel
theorem dX5_layer_18 : decode cX5_layer 18 = .ok (.iload_n 1, 1) := by decide +kernel
theorem dX5_layer_19 : decode cX5_layer 19 = .ok (.iload_n 2, 1) := by decide +kernel
theorem dX5_layer_20 : decode cX5_layer 20 = .ok (.invokevirtual 115, 3) := by decide +kernel
theorem dX5_layer_23 : decode cX5_layer 23 = .ok (.ireturn, 1) := by decide +kernel
set_option maxRecDepth 20000 in
theorem ggX5_yearAt_X5_needCell : GoodIn wsX5_yearAt wsX5_needCell := goodIn_ca (goodIn_r _ [8, 9, 10] (by decide +kernel) (by decide +kernel)) (goodIn_sub (fun _ h => List.mem_cons_of_mem _ (List.mem_append_right _ h)) (by decide +kernel))
set_option maxRecDepth 20000 in
theorem gX5_yearAt_X5_needCell : GoodIn wsX5_yearAt (va_wsS RX5 33 yX5_needCell wsX5_needCell) := goodIn_app (goodIn_of _ (by decide +kernel)) ggX5_yearAt_X5_needCell
set_option maxRecDepth 20000 in
theorem ggX5_yearAt_X1_yearBelow : GoodIn wsX5_yearAt wsX1_yearBelow := goodIn_r _ [15, 16, 17, 18, 14, 19, 20, 41, 42] (by decide +kernel) (by decide +kernel)
set_option maxRecDepth 20000 in
theorem gX5_yearAt_X1_yearBelow : GoodIn wsX5_yearAt (wsV RX5 123 RX1 yX1_yearBelow wsX1_yearBelow) := goodIn_app (goodIn_of _ (by decide +kernel)) ggX5_yearAt_X1_yearBelow
theorem dX5_yearAt_0 : decode cX5_yearAt 0 = .ok (.iload_n 1, 1) := by decide +kernel
theorem dX5_yearAt_1 : decode cX5_yearAt 1 = .ok (.invokestatic 33, 3) := by decide +kernel
theorem dX5_yearAt_4 : decode cX5_yearAt 4 = .ok (.iload_n 2, 1) := by decide +kernel
theorem dX5_yearAt_5 : decode cX5_yearAt 5 = .ok (.ifCond .ge 13, 3) := by decide +kernel
theorem dX5_yearAt_8 : decode cX5_yearAt 8 = .ok (.new 118, 3) := by decide +kernel
theorem dX5_yearAt_11 : decode cX5_yearAt 11 = .ok (.dup, 1) := by decide +kernel
theorem dX5_yearAt_12 : decode cX5_yearAt 12 = .ok (.ldc 120, 2) := by decide +kernel
theorem dX5_yearAt_14 : decode cX5_yearAt 14 = .ok (.invokespecial 122, 3) := by decide +kernel
theorem dX5_yearAt_17 : decode cX5_yearAt 17 = .ok (.athrow, 1) := by decide +kernel
theorem dX5_yearAt_18 : decode cX5_yearAt 18 = .ok (.aload_n 0, 1) := by decide +kernel
theorem dX5_yearAt_19 : decode cX5_yearAt 19 = .ok (.getfield 10, 3) := by decide +kernel
theorem dX5_yearAt_22 : decode cX5_yearAt 22 = .ok (.getfield 41, 3) := by decide +kernel
theorem dX5_yearAt_25 : decode cX5_yearAt 25 = .ok (.iload_n 1, 1) := by decide +kernel
theorem dX5_yearAt_26 : decode cX5_yearAt 26 = .ok (.iload_n 2, 1) := by decide +kernel
theorem dX5_yearAt_27 : decode cX5_yearAt 27 = .ok (.invokevirtual 123, 3) := by decide +kernel
theorem dX5_yearAt_30 : decode cX5_yearAt 30 = .ok (.ireturn, 1) := by decide +kernel
set_option maxRecDepth 20000 in
theorem ggX5_common_X5_needCell : GoodIn wsX5_common wsX5_needCell := goodIn_ca (goodIn_r _ [8, 9, 10] (by decide +kernel) (by decide +kernel)) (goodIn_sub (fun _ h => List.mem_cons_of_mem _ (List.mem_append_right _ h)) (by decide +kernel))
set_option maxRecDepth 20000 in
theorem gX5_common_X5_needCell : GoodIn wsX5_common (va_wsS RX5 33 yX5_needCell wsX5_needCell) := goodIn_app (goodIn_of _ (by decide +kernel)) ggX5_common_X5_needCell
set_option maxRecDepth 20000 in
theorem ggX5_common_X1_unitsOf : GoodIn wsX5_common wsX1_unitsOf := goodIn_r _ [15, 16, 44, 45] (by decide +kernel) (by decide +kernel)
set_option maxRecDepth 20000 in
theorem gX5_common_X1_unitsOf : GoodIn wsX5_common (wsV RX5 115 RX1 yX1_unitsOf wsX1_unitsOf) := goodIn_app (goodIn_of _ (by decide +kernel)) ggX5_common_X1_unitsOf
theorem dX5_common_0 : decode cX5_common 0 = .ok (.iload_n 1, 1) := by decide +kernel
theorem dX5_common_1 : decode cX5_common 1 = .ok (.invokestatic 33, 3) := by decide +kernel
theorem dX5_common_4 : decode cX5_common 4 = .ok (.iload_n 2, 1) := by decide +kernel
theorem dX5_common_5 : decode cX5_common 5 = .ok (.invokestatic 33, 3) := by decide +kernel
theorem dX5_common_8 : decode cX5_common 8 = .ok (.iconst 0, 1) := by decide +kernel
theorem dX5_common_9 : decode cX5_common 9 = .ok (.istore_n 3, 1) := by decide +kernel
theorem dX5_common_10 : decode cX5_common 10 = .ok (.iconst 0, 1) := by decide +kernel
theorem dX5_common_11 : decode cX5_common 11 = .ok (.istore 4, 2) := by decide +kernel
theorem dX5_common_13 : decode cX5_common 13 = .ok (.iload 4, 2) := by decide +kernel
theorem dX5_common_15 : decode cX5_common 15 = .ok (.bipush 61, 2) := by decide +kernel
theorem dX5_common_17 : decode cX5_common 17 = .ok (.if_icmp .ge 57, 3) := by decide +kernel
theorem dX5_common_20 : decode cX5_common 20 = .ok (.aload_n 0, 1) := by decide +kernel
theorem dX5_common_21 : decode cX5_common 21 = .ok (.getfield 22, 3) := by decide +kernel
theorem dX5_common_24 : decode cX5_common 24 = .ok (.getfield 97, 3) := by decide +kernel
theorem dX5_common_27 : decode cX5_common 27 = .ok (.iload 4, 2) := by decide +kernel
theorem dX5_common_29 : decode cX5_common 29 = .ok (.baload, 1) := by decide +kernel
theorem dX5_common_30 : decode cX5_common 30 = .ok (.ifCond .eq 38, 3) := by decide +kernel
theorem dX5_common_33 : decode cX5_common 33 = .ok (.aload_n 0, 1) := by decide +kernel
theorem dX5_common_34 : decode cX5_common 34 = .ok (.getfield 10, 3) := by decide +kernel
theorem dX5_common_37 : decode cX5_common 37 = .ok (.getfield 41, 3) := by decide +kernel
theorem dX5_common_40 : decode cX5_common 40 = .ok (.iload_n 1, 1) := by decide +kernel
theorem dX5_common_41 : decode cX5_common 41 = .ok (.iload 4, 2) := by decide +kernel
theorem dX5_common_43 : decode cX5_common 43 = .ok (.invokevirtual 115, 3) := by decide +kernel
theorem dX5_common_46 : decode cX5_common 46 = .ok (.ifCond .le 22, 3) := by decide +kernel
theorem dX5_common_49 : decode cX5_common 49 = .ok (.aload_n 0, 1) := by decide +kernel
theorem dX5_common_50 : decode cX5_common 50 = .ok (.getfield 10, 3) := by decide +kernel
theorem dX5_common_53 : decode cX5_common 53 = .ok (.getfield 41, 3) := by decide +kernel
theorem dX5_common_56 : decode cX5_common 56 = .ok (.iload_n 2, 1) := by decide +kernel
theorem dX5_common_57 : decode cX5_common 57 = .ok (.iload 4, 2) := by decide +kernel
theorem dX5_common_59 : decode cX5_common 59 = .ok (.invokevirtual 115, 3) := by decide +kernel
theorem dX5_common_62 : decode cX5_common 62 = .ok (.ifCond .le 6, 3) := by decide +kernel
theorem dX5_common_65 : decode cX5_common 65 = .ok (.iinc 3 1, 3) := by decide +kernel
theorem dX5_common_68 : decode cX5_common 68 = .ok (.iinc 4 1, 3) := by decide +kernel
theorem dX5_common_71 : decode cX5_common 71 = .ok (.goto (-58), 3) := by decide +kernel
theorem dX5_common_74 : decode cX5_common 74 = .ok (.iload_n 3, 1) := by decide +kernel
theorem dX5_common_75 : decode cX5_common 75 = .ok (.ireturn, 1) := by decide +kernel
theorem dX5_floods_0 : decode cX5_floods 0 = .ok (.aload_n 0, 1) := by decide +kernel
theorem dX5_floods_1 : decode cX5_floods 1 = .ok (.getfield 22, 3) := by decide +kernel
theorem dX5_floods_4 : decode cX5_floods 4 = .ok (.getfield 126, 3) := by decide +kernel
theorem dX5_floods_7 : decode cX5_floods 7 = .ok (.ireturn, 1) := by decide +kernel
set_option maxRecDepth 20000 in
theorem ggX5_flood_X5_needWithin : GoodIn wsX5_flood wsX5_needWithin := goodIn_ca (goodIn_r _ [11, 12, 13] (by decide +kernel) (by decide +kernel)) (goodIn_sub (fun _ h => List.mem_cons_of_mem _ (List.mem_append_right _ h)) (by decide +kernel))
set_option maxRecDepth 20000 in
theorem gX5_flood_X5_needWithin : GoodIn wsX5_flood (va_wsS RX5 37 yX5_needWithin wsX5_needWithin) := goodIn_app (goodIn_of _ (by decide +kernel)) ggX5_flood_X5_needWithin
theorem dX5_flood_0 : decode cX5_flood 0 = .ok (.iload_n 1, 1) := by decide +kernel
theorem dX5_flood_1 : decode cX5_flood 1 = .ok (.ifCond .lt 14, 3) := by decide +kernel
theorem dX5_flood_4 : decode cX5_flood 4 = .ok (.iload_n 1, 1) := by decide +kernel
theorem dX5_flood_5 : decode cX5_flood 5 = .ok (.aload_n 0, 1) := by decide +kernel
theorem dX5_flood_6 : decode cX5_flood 6 = .ok (.getfield 22, 3) := by decide +kernel
theorem dX5_flood_9 : decode cX5_flood 9 = .ok (.getfield 126, 3) := by decide +kernel
theorem dX5_flood_12 : decode cX5_flood 12 = .ok (.if_icmp .lt 13, 3) := by decide +kernel
theorem dX5_flood_15 : decode cX5_flood 15 = .ok (.new 129, 3) := by decide +kernel
theorem dX5_flood_18 : decode cX5_flood 18 = .ok (.dup, 1) := by decide +kernel
theorem dX5_flood_19 : decode cX5_flood 19 = .ok (.ldc 131, 2) := by decide +kernel
theorem dX5_flood_21 : decode cX5_flood 21 = .ok (.invokespecial 133, 3) := by decide +kernel
theorem dX5_flood_24 : decode cX5_flood 24 = .ok (.athrow, 1) := by decide +kernel
theorem dX5_flood_25 : decode cX5_flood 25 = .ok (.iload_n 2, 1) := by decide +kernel
theorem dX5_flood_26 : decode cX5_flood 26 = .ok (.iconst 0, 1) := by decide +kernel
theorem dX5_flood_27 : decode cX5_flood 27 = .ok (.iconst 2, 1) := by decide +kernel
theorem dX5_flood_28 : decode cX5_flood 28 = .ok (.invokestatic 37, 3) := by decide +kernel
theorem dX5_flood_31 : decode cX5_flood 31 = .ok (.iload_n 2, 1) := by decide +kernel
theorem dX5_flood_32 : decode cX5_flood 32 = .ok (.lookupswitch 48 #[(0, 28), (1, 38)], 28) := by decide +kernel
theorem dX5_flood_60 : decode cX5_flood 60 = .ok (.aload_n 0, 1) := by decide +kernel
theorem dX5_flood_61 : decode cX5_flood 61 = .ok (.getfield 22, 3) := by decide +kernel
theorem dX5_flood_64 : decode cX5_flood 64 = .ok (.getfield 134, 3) := by decide +kernel
theorem dX5_flood_67 : decode cX5_flood 67 = .ok (.iload_n 1, 1) := by decide +kernel
theorem dX5_flood_68 : decode cX5_flood 68 = .ok (.iaload, 1) := by decide +kernel
theorem dX5_flood_69 : decode cX5_flood 69 = .ok (.ireturn, 1) := by decide +kernel
theorem dX5_flood_70 : decode cX5_flood 70 = .ok (.aload_n 0, 1) := by decide +kernel
theorem dX5_flood_71 : decode cX5_flood 71 = .ok (.getfield 22, 3) := by decide +kernel
theorem dX5_flood_74 : decode cX5_flood 74 = .ok (.getfield 137, 3) := by decide +kernel
theorem dX5_flood_77 : decode cX5_flood 77 = .ok (.iload_n 1, 1) := by decide +kernel
theorem dX5_flood_78 : decode cX5_flood 78 = .ok (.iaload, 1) := by decide +kernel
theorem dX5_flood_79 : decode cX5_flood 79 = .ok (.ireturn, 1) := by decide +kernel
theorem dX5_flood_80 : decode cX5_flood 80 = .ok (.aload_n 0, 1) := by decide +kernel
theorem dX5_flood_81 : decode cX5_flood 81 = .ok (.getfield 22, 3) := by decide +kernel
theorem dX5_flood_84 : decode cX5_flood 84 = .ok (.getfield 140, 3) := by decide +kernel
theorem dX5_flood_87 : decode cX5_flood 87 = .ok (.iload_n 1, 1) := by decide +kernel
theorem dX5_flood_88 : decode cX5_flood 88 = .ok (.iaload, 1) := by decide +kernel
theorem dX5_flood_89 : decode cX5_flood 89 = .ok (.ireturn, 1) := by decide +kernel
set_option maxRecDepth 20000 in
theorem ggX5_front_X5_needWithin : GoodIn wsX5_front wsX5_needWithin := goodIn_ca (goodIn_r _ [8, 9, 10] (by decide +kernel) (by decide +kernel)) (goodIn_sub (fun _ h => List.mem_cons_of_mem _ (List.mem_append_right _ h)) (by decide +kernel))
set_option maxRecDepth 20000 in
theorem gX5_front_X5_needWithin : GoodIn wsX5_front (va_wsS RX5 37 yX5_needWithin wsX5_needWithin) := goodIn_app (goodIn_of _ (by decide +kernel)) ggX5_front_X5_needWithin
theorem dX5_front_0 : decode cX5_front 0 = .ok (.iload_n 1, 1) := by decide +kernel
theorem dX5_front_1 : decode cX5_front 1 = .ok (.iconst 0, 1) := by decide +kernel
theorem dX5_front_2 : decode cX5_front 2 = .ok (.aload_n 0, 1) := by decide +kernel
theorem dX5_front_3 : decode cX5_front 3 = .ok (.getfield 10, 3) := by decide +kernel
theorem dX5_front_6 : decode cX5_front 6 = .ok (.getfield 82, 3) := by decide +kernel
theorem dX5_front_9 : decode cX5_front 9 = .ok (.invokestatic 37, 3) := by decide +kernel
theorem dX5_front_12 : decode cX5_front 12 = .ok (.aload_n 0, 1) := by decide +kernel
theorem dX5_front_13 : decode cX5_front 13 = .ok (.getfield 22, 3) := by decide +kernel
theorem dX5_front_16 : decode cX5_front 16 = .ok (.getfield 143, 3) := by decide +kernel
theorem dX5_front_19 : decode cX5_front 19 = .ok (.iload_n 1, 1) := by decide +kernel
theorem dX5_front_20 : decode cX5_front 20 = .ok (.iaload, 1) := by decide +kernel
theorem dX5_front_21 : decode cX5_front 21 = .ok (.ireturn, 1) := by decide +kernel
set_option maxRecDepth 20000 in
theorem ggX5_total_X5_needWithin : GoodIn wsX5_total wsX5_needWithin := goodIn_ca (goodIn_r _ [11, 12, 13] (by decide +kernel) (by decide +kernel)) (goodIn_sub (fun _ h => List.mem_cons_of_mem _ (List.mem_append_right _ h)) (by decide +kernel))
set_option maxRecDepth 20000 in
theorem gX5_total_X5_needWithin : GoodIn wsX5_total (va_wsS RX5 37 yX5_needWithin wsX5_needWithin) := goodIn_app (goodIn_of _ (by decide +kernel)) ggX5_total_X5_needWithin
set_option maxRecDepth 20000 in
theorem ggX5_total_X1_allIce : GoodIn wsX5_total wsX1_allIce := goodIn_r _ [18, 19, 51, 52] (by decide +kernel) (by decide +kernel)
set_option maxRecDepth 20000 in
theorem gX5_total_X1_allIce : GoodIn wsX5_total (wsV RX5 146 RX1 yX1_allIce wsX1_allIce) := goodIn_app (goodIn_of _ (by decide +kernel)) ggX5_total_X1_allIce
set_option maxRecDepth 20000 in
theorem ggX5_total_X3_allWater : GoodIn wsX5_total wsX3_allWater := goodIn_r _ [24, 25, 30, 31, 32, 33, 34, 35, 36, 37, 38, 39, 40, 41, 42, 43, 44, 45] (by decide +kernel) (by decide +kernel)
set_option maxRecDepth 20000 in
theorem gX5_total_X3_allWater : GoodIn wsX5_total (wsV RX5 150 RX3 yX3_allWater wsX3_allWater) := goodIn_app (goodIn_of _ (by decide +kernel)) ggX5_total_X3_allWater
theorem dX5_total_0 : decode cX5_total 0 = .ok (.iload_n 1, 1) := by decide +kernel
theorem dX5_total_1 : decode cX5_total 1 = .ok (.iconst 0, 1) := by decide +kernel
theorem dX5_total_2 : decode cX5_total 2 = .ok (.iconst 5, 1) := by decide +kernel
theorem dX5_total_3 : decode cX5_total 3 = .ok (.invokestatic 37, 3) := by decide +kernel
theorem dX5_total_6 : decode cX5_total 6 = .ok (.iload_n 1, 1) := by decide +kernel
theorem dX5_total_7 : decode cX5_total 7 = .ok (.tableswitch 85 0 4 #[33, 44, 52, 63, 74], 33) := by decide +kernel
theorem dX5_total_40 : decode cX5_total 40 = .ok (.aload_n 0, 1) := by decide +kernel
theorem dX5_total_41 : decode cX5_total 41 = .ok (.getfield 10, 3) := by decide +kernel
theorem dX5_total_44 : decode cX5_total 44 = .ok (.getfield 41, 3) := by decide +kernel
theorem dX5_total_47 : decode cX5_total 47 = .ok (.invokevirtual 146, 3) := by decide +kernel
theorem dX5_total_50 : decode cX5_total 50 = .ok (.ireturn, 1) := by decide +kernel
theorem dX5_total_51 : decode cX5_total 51 = .ok (.aload_n 0, 1) := by decide +kernel
theorem dX5_total_52 : decode cX5_total 52 = .ok (.getfield 10, 3) := by decide +kernel
theorem dX5_total_55 : decode cX5_total 55 = .ok (.invokevirtual 150, 3) := by decide +kernel
theorem dX5_total_58 : decode cX5_total 58 = .ok (.ireturn, 1) := by decide +kernel
theorem dX5_total_59 : decode cX5_total 59 = .ok (.aload_n 0, 1) := by decide +kernel
theorem dX5_total_60 : decode cX5_total 60 = .ok (.getfield 10, 3) := by decide +kernel
theorem dX5_total_63 : decode cX5_total 63 = .ok (.getfield 88, 3) := by decide +kernel
theorem dX5_total_66 : decode cX5_total 66 = .ok (.getfield 153, 3) := by decide +kernel
theorem dX5_total_69 : decode cX5_total 69 = .ok (.ireturn, 1) := by decide +kernel
theorem dX5_total_70 : decode cX5_total 70 = .ok (.aload_n 0, 1) := by decide +kernel
theorem dX5_total_71 : decode cX5_total 71 = .ok (.getfield 10, 3) := by decide +kernel
theorem dX5_total_74 : decode cX5_total 74 = .ok (.getfield 88, 3) := by decide +kernel
theorem dX5_total_77 : decode cX5_total 77 = .ok (.getfield 156, 3) := by decide +kernel
theorem dX5_total_80 : decode cX5_total 80 = .ok (.ireturn, 1) := by decide +kernel
theorem dX5_total_81 : decode cX5_total 81 = .ok (.aload_n 0, 1) := by decide +kernel
theorem dX5_total_82 : decode cX5_total 82 = .ok (.getfield 10, 3) := by decide +kernel
theorem dX5_total_85 : decode cX5_total 85 = .ok (.getfield 88, 3) := by decide +kernel
theorem dX5_total_88 : decode cX5_total 88 = .ok (.getfield 159, 3) := by decide +kernel
theorem dX5_total_91 : decode cX5_total 91 = .ok (.ireturn, 1) := by decide +kernel
theorem dX5_total_92 : decode cX5_total 92 = .ok (.aload_n 0, 1) := by decide +kernel
theorem dX5_total_93 : decode cX5_total 93 = .ok (.getfield 10, 3) := by decide +kernel
theorem dX5_total_96 : decode cX5_total 96 = .ok (.getfield 88, 3) := by decide +kernel
theorem dX5_total_99 : decode cX5_total 99 = .ok (.getfield 92, 3) := by decide +kernel
theorem dX5_total_102 : decode cX5_total 102 = .ok (.ireturn, 1) := by decide +kernel
theorem dX5_iceAnew_0 : decode cX5_iceAnew 0 = .ok (.aload_n 0, 1) := by decide +kernel
theorem dX5_iceAnew_1 : decode cX5_iceAnew 1 = .ok (.getfield 10, 3) := by decide +kernel
theorem dX5_iceAnew_4 : decode cX5_iceAnew 4 = .ok (.getfield 88, 3) := by decide +kernel
theorem dX5_iceAnew_7 : decode cX5_iceAnew 7 = .ok (.astore_n 1, 1) := by decide +kernel
theorem dX5_iceAnew_8 : decode cX5_iceAnew 8 = .ok (.aload_n 1, 1) := by decide +kernel
theorem dX5_iceAnew_9 : decode cX5_iceAnew 9 = .ok (.getfield 159, 3) := by decide +kernel
theorem dX5_iceAnew_12 : decode cX5_iceAnew 12 = .ok (.aload_n 1, 1) := by decide +kernel
theorem dX5_iceAnew_13 : decode cX5_iceAnew 13 = .ok (.getfield 92, 3) := by decide +kernel
theorem dX5_iceAnew_16 : decode cX5_iceAnew 16 = .ok (.iadd, 1) := by decide +kernel
theorem dX5_iceAnew_17 : decode cX5_iceAnew 17 = .ok (.aload_n 1, 1) := by decide +kernel
theorem dX5_iceAnew_18 : decode cX5_iceAnew 18 = .ok (.getfield 162, 3) := by decide +kernel
theorem dX5_iceAnew_21 : decode cX5_iceAnew 21 = .ok (.isub, 1) := by decide +kernel
theorem dX5_iceAnew_22 : decode cX5_iceAnew 22 = .ok (.aload_n 1, 1) := by decide +kernel
theorem dX5_iceAnew_23 : decode cX5_iceAnew 23 = .ok (.getfield 156, 3) := by decide +kernel
theorem dX5_iceAnew_26 : decode cX5_iceAnew 26 = .ok (.isub, 1) := by decide +kernel
theorem dX5_iceAnew_27 : decode cX5_iceAnew 27 = .ok (.ireturn, 1) := by decide +kernel
set_option maxRecDepth 20000 in
theorem ggX5_would_X5_needCell : GoodIn wsX5_would wsX5_needCell := goodIn_ca (goodIn_r _ [5, 6, 7] (by decide +kernel) (by decide +kernel)) (goodIn_sub (fun _ h => List.mem_cons_of_mem _ (List.mem_append_left _ (List.mem_append_left _ (List.mem_append_right _ h)))) (by decide +kernel))
set_option maxRecDepth 20000 in
theorem gX5_would_X5_needCell : GoodIn wsX5_would (va_wsS RX5 33 yX5_needCell wsX5_needCell) := goodIn_app (goodIn_of _ (by decide +kernel)) ggX5_would_X5_needCell
set_option maxRecDepth 20000 in
theorem ggX5_would_X5_needWithin : GoodIn wsX5_would wsX5_needWithin := goodIn_ca (goodIn_r _ [10, 11, 12] (by decide +kernel) (by decide +kernel)) (goodIn_sub (fun _ h => List.mem_cons_of_mem _ (List.mem_append_left _ (List.mem_append_right _ h))) (by decide +kernel))
set_option maxRecDepth 20000 in
theorem gX5_would_X5_needWithin : GoodIn wsX5_would (va_wsS RX5 37 yX5_needWithin wsX5_needWithin) := goodIn_app (goodIn_of _ (by decide +kernel)) ggX5_would_X5_needWithin
set_option maxRecDepth 20000 in
theorem ggX5_would_X5_needNotTooLate : GoodIn wsX5_would wsX5_needNotTooLate := goodIn_ca (goodIn_r _ [16, 17, 18, 19, 20, 164, 165, 166, 167, 168, 169, 170, 171, 172, 173, 174, 175, 176, 177, 178, 179, 180, 181, 182, 183] (by decide +kernel) (by decide +kernel)) (goodIn_sub (fun _ h => List.mem_cons_of_mem _ (List.mem_append_right _ h)) (by decide +kernel))
set_option maxRecDepth 20000 in
theorem gX5_would_X5_needNotTooLate : GoodIn wsX5_would (wsV RX5 101 RX5 yX5_needNotTooLate wsX5_needNotTooLate) := goodIn_app (goodIn_of _ (by decide +kernel)) ggX5_would_X5_needNotTooLate
set_option maxRecDepth 20000 in
theorem ggX5_would_X5_tryOut : GoodIn wsX5_would wsX5_tryOut := goodIn_r _ [24, 1, 19, 25, 26, 27, 28, 29, 30, 31, 32, 33, 34, 35, 36, 37, 38, 39, 40, 41, 42, 43, 44, 45, 46, 47, 48, 49, 50, 51, 52, 53, 54, 55, 56, 57, 58, 59, 60, 61, 62, 63, 64, 65, 66, 67, 68, 69, 70, 71, 72, 73, 74, 75, 76, 77, 78, 79, 80, 81, 82, 83, 84, 85, 86, 87, 88, 89, 90, 91, 92, 93, 94, 95, 96, 97, 98, 99, 100, 101, 102, 103, 104, 105, 106, 107, 108, 109, 110, 111, 112, 113, 114, 115, 116, 117, 118, 119, 120, 121, 122, 123, 124, 125, 126, 127, 128, 129, 130, 131, 132, 133, 134, 135, 136, 137, 138, 139, 140, 141, 142, 143, 144, 145, 146, 147, 148, 149, 150, 151, 152, 164, 165, 166, 167, 168, 169, 170, 171, 172, 173, 174, 175, 176, 177, 178, 179, 180, 181, 182, 183, 184, 185, 186, 187, 188, 189, 190] (by decide +kernel) (by decide +kernel)
set_option maxRecDepth 20000 in
theorem gX5_would_X5_tryOut : GoodIn wsX5_would (wsV RX5 165 RX5 yX5_tryOut wsX5_tryOut) := goodIn_app (goodIn_of _ (by decide +kernel)) ggX5_would_X5_tryOut
set_option maxRecDepth 20000 in
theorem ggX5_would_X3_tellOf : GoodIn wsX5_would wsX3_tellOf := goodIn_r _ [156, 36, 35, 61, 42, 43, 60, 41, 69, 70, 71, 28, 72, 157, 158, 159, 160, 100, 161, 162, 66, 163, 77, 78, 79, 80, 31, 126, 127, 128, 129, 168, 169, 170, 171, 172, 173, 174, 175, 176, 177, 178, 179, 180, 181, 182, 183, 184, 185] (by decide +kernel) (by decide +kernel)
set_option maxRecDepth 20000 in
theorem gX5_would_X3_tellOf : GoodIn wsX5_would (wsV RX5 111 RX3 yX3_tellOf wsX3_tellOf) := goodIn_app (goodIn_of _ (by decide +kernel)) ggX5_would_X3_tellOf
theorem dX5_would_0 : decode cX5_would 0 = .ok (.iload_n 2, 1) := by decide +kernel
theorem dX5_would_1 : decode cX5_would 1 = .ok (.invokestatic 33, 3) := by decide +kernel
theorem dX5_would_4 : decode cX5_would 4 = .ok (.iload_n 1, 1) := by decide +kernel
theorem dX5_would_5 : decode cX5_would 5 = .ok (.iconst 1, 1) := by decide +kernel
theorem dX5_would_6 : decode cX5_would 6 = .ok (.bipush 20, 2) := by decide +kernel
theorem dX5_would_8 : decode cX5_would 8 = .ok (.invokestatic 37, 3) := by decide +kernel
theorem dX5_would_11 : decode cX5_would 11 = .ok (.iload_n 3, 1) := by decide +kernel
theorem dX5_would_12 : decode cX5_would 12 = .ok (.iconst 0, 1) := by decide +kernel
theorem dX5_would_13 : decode cX5_would 13 = .ok (.bipush 9, 2) := by decide +kernel
theorem dX5_would_15 : decode cX5_would 15 = .ok (.invokestatic 37, 3) := by decide +kernel
theorem dX5_would_18 : decode cX5_would 18 = .ok (.aload_n 0, 1) := by decide +kernel
theorem dX5_would_19 : decode cX5_would 19 = .ok (.iload_n 1, 1) := by decide +kernel
theorem dX5_would_20 : decode cX5_would 20 = .ok (.invokevirtual 101, 3) := by decide +kernel
theorem dX5_would_23 : decode cX5_would 23 = .ok (.aload_n 0, 1) := by decide +kernel
theorem dX5_would_24 : decode cX5_would 24 = .ok (.iload_n 1, 1) := by decide +kernel
theorem dX5_would_25 : decode cX5_would 25 = .ok (.invokevirtual 165, 3) := by decide +kernel
theorem dX5_would_28 : decode cX5_would 28 = .ok (.aload_n 0, 1) := by decide +kernel
theorem dX5_would_29 : decode cX5_would 29 = .ok (.getfield 16, 3) := by decide +kernel
theorem dX5_would_32 : decode cX5_would 32 = .ok (.iload_n 2, 1) := by decide +kernel
theorem dX5_would_33 : decode cX5_would 33 = .ok (.iload_n 3, 1) := by decide +kernel
theorem dX5_would_34 : decode cX5_would 34 = .ok (.invokevirtual 111, 3) := by decide +kernel
theorem dX5_would_37 : decode cX5_would 37 = .ok (.ireturn, 1) := by decide +kernel
set_option maxRecDepth 20000 in
theorem ggX5_forecast_X5_needWithin : GoodIn wsX5_forecast wsX5_needWithin := goodIn_ca (goodIn_r _ [11, 12, 13] (by decide +kernel) (by decide +kernel)) (goodIn_sub (fun _ h => List.mem_cons_of_mem _ (List.mem_append_right _ h)) (by decide +kernel))
set_option maxRecDepth 20000 in
theorem gX5_forecast_X5_needWithin : GoodIn wsX5_forecast (va_wsS RX5 37 yX5_needWithin wsX5_needWithin) := goodIn_app (goodIn_of _ (by decide +kernel)) ggX5_forecast_X5_needWithin
set_option maxRecDepth 20000 in
theorem ggX5_forecast_X5_needNotTooLate : GoodIn wsX5_forecast wsX5_needNotTooLate := goodIn_ca (goodIn_r _ [17, 1, 2, 18, 7, 163, 164, 165, 166, 170, 171, 172, 173, 174, 175, 176, 177, 178, 179, 180, 181, 182, 183, 184, 185] (by decide +kernel) (by decide +kernel)) (goodIn_sub (fun _ h => List.mem_cons_of_mem _ (List.mem_append_left _ (List.mem_append_right _ h))) (by decide +kernel))
set_option maxRecDepth 20000 in
theorem gX5_forecast_X5_needNotTooLate : GoodIn wsX5_forecast (wsV RX5 101 RX5 yX5_needNotTooLate wsX5_needNotTooLate) := goodIn_app (goodIn_of _ (by decide +kernel)) ggX5_forecast_X5_needNotTooLate
set_option maxRecDepth 20000 in
theorem ggX5_forecast_X5_tryOut : GoodIn wsX5_forecast wsX5_tryOut := goodIn_r _ [22, 5, 18, 23, 24, 25, 26, 27, 28, 29, 30, 31, 32, 33, 34, 35, 36, 37, 38, 39, 40, 41, 42, 43, 44, 45, 46, 47, 48, 49, 50, 51, 52, 53, 54, 55, 56, 57, 58, 59, 60, 61, 62, 63, 64, 65, 66, 67, 68, 69, 70, 71, 72, 73, 74, 75, 76, 77, 78, 79, 80, 81, 82, 83, 84, 85, 86, 87, 88, 89, 90, 91, 92, 93, 94, 95, 96, 97, 98, 99, 100, 101, 102, 103, 104, 105, 106, 107, 108, 109, 110, 111, 112, 113, 114, 115, 116, 117, 118, 119, 120, 121, 122, 123, 124, 125, 126, 127, 128, 129, 130, 131, 132, 133, 134, 135, 136, 137, 138, 139, 140, 141, 142, 143, 144, 145, 146, 147, 148, 149, 150, 163, 164, 165, 166, 170, 171, 172, 173, 174, 175, 176, 177, 178, 179, 180, 181, 182, 183, 184, 185, 186, 187, 188, 189, 190, 191, 192] (by decide +kernel) (by decide +kernel)
set_option maxRecDepth 20000 in
theorem gX5_forecast_X5_tryOut : GoodIn wsX5_forecast (wsV RX5 165 RX5 yX5_tryOut wsX5_tryOut) := goodIn_app (goodIn_of _ (by decide +kernel)) ggX5_forecast_X5_tryOut
set_option maxRecDepth 20000 in
theorem ggX5_forecast_X1_allIce : GoodIn wsX5_forecast wsX1_allIce := goodIn_r _ [154, 47, 186, 187] (by decide +kernel) (by decide +kernel)
set_option maxRecDepth 20000 in
theorem gX5_forecast_X1_allIce : GoodIn wsX5_forecast (wsV RX5 146 RX1 yX1_allIce wsX1_allIce) := goodIn_app (goodIn_of _ (by decide +kernel)) ggX5_forecast_X1_allIce
set_option maxRecDepth 20000 in
theorem ggX5_forecast_X2_keep : GoodIn wsX5_forecast wsX2_keep := goodIn_r _ [159, 160, 161, 162, 167, 168, 169] (by decide +kernel) (by decide +kernel)
set_option maxRecDepth 20000 in
theorem gX5_forecast_X2_keep : GoodIn wsX5_forecast (wsV RX5 173 RX2 yX2_keep wsX2_keep) := goodIn_app (goodIn_of _ (by decide +kernel)) ggX5_forecast_X2_keep
theorem dX5_forecast_0 : decode cX5_forecast 0 = .ok (.iload_n 1, 1) := by decide +kernel
theorem dX5_forecast_1 : decode cX5_forecast 1 = .ok (.iconst 1, 1) := by decide +kernel
theorem dX5_forecast_2 : decode cX5_forecast 2 = .ok (.bipush 20, 2) := by decide +kernel
theorem dX5_forecast_4 : decode cX5_forecast 4 = .ok (.invokestatic 37, 3) := by decide +kernel
theorem dX5_forecast_7 : decode cX5_forecast 7 = .ok (.aload_n 0, 1) := by decide +kernel
theorem dX5_forecast_8 : decode cX5_forecast 8 = .ok (.iload_n 1, 1) := by decide +kernel
theorem dX5_forecast_9 : decode cX5_forecast 9 = .ok (.invokevirtual 101, 3) := by decide +kernel
theorem dX5_forecast_12 : decode cX5_forecast 12 = .ok (.aload_n 0, 1) := by decide +kernel
theorem dX5_forecast_13 : decode cX5_forecast 13 = .ok (.getfield 29, 3) := by decide +kernel
theorem dX5_forecast_16 : decode cX5_forecast 16 = .ok (.getfield 168, 3) := by decide +kernel
theorem dX5_forecast_19 : decode cX5_forecast 19 = .ok (.bipush 10, 2) := by decide +kernel
theorem dX5_forecast_21 : decode cX5_forecast 21 = .ok (.if_icmp .lt 13, 3) := by decide +kernel
theorem dX5_forecast_24 : decode cX5_forecast 24 = .ok (.new 54, 3) := by decide +kernel
theorem dX5_forecast_27 : decode cX5_forecast 27 = .ok (.dup, 1) := by decide +kernel
theorem dX5_forecast_28 : decode cX5_forecast 28 = .ok (.ldc 171, 2) := by decide +kernel
theorem dX5_forecast_30 : decode cX5_forecast 30 = .ok (.invokespecial 58, 3) := by decide +kernel
theorem dX5_forecast_33 : decode cX5_forecast 33 = .ok (.athrow, 1) := by decide +kernel
theorem dX5_forecast_34 : decode cX5_forecast 34 = .ok (.aload_n 0, 1) := by decide +kernel
theorem dX5_forecast_35 : decode cX5_forecast 35 = .ok (.iload_n 1, 1) := by decide +kernel
theorem dX5_forecast_36 : decode cX5_forecast 36 = .ok (.invokevirtual 165, 3) := by decide +kernel
theorem dX5_forecast_39 : decode cX5_forecast 39 = .ok (.aload_n 0, 1) := by decide +kernel
theorem dX5_forecast_40 : decode cX5_forecast 40 = .ok (.getfield 16, 3) := by decide +kernel
theorem dX5_forecast_43 : decode cX5_forecast 43 = .ok (.getfield 41, 3) := by decide +kernel
theorem dX5_forecast_46 : decode cX5_forecast 46 = .ok (.invokevirtual 146, 3) := by decide +kernel
theorem dX5_forecast_49 : decode cX5_forecast 49 = .ok (.istore_n 2, 1) := by decide +kernel
theorem dX5_forecast_50 : decode cX5_forecast 50 = .ok (.aload_n 0, 1) := by decide +kernel
theorem dX5_forecast_51 : decode cX5_forecast 51 = .ok (.getfield 29, 3) := by decide +kernel
theorem dX5_forecast_54 : decode cX5_forecast 54 = .ok (.aload_n 0, 1) := by decide +kernel
theorem dX5_forecast_55 : decode cX5_forecast 55 = .ok (.getfield 16, 3) := by decide +kernel
theorem dX5_forecast_58 : decode cX5_forecast 58 = .ok (.getfield 82, 3) := by decide +kernel
theorem dX5_forecast_61 : decode cX5_forecast 61 = .ok (.iload_n 2, 1) := by decide +kernel
theorem dX5_forecast_62 : decode cX5_forecast 62 = .ok (.invokevirtual 173, 3) := by decide +kernel
theorem dX5_forecast_65 : decode cX5_forecast 65 = .ok (.iload_n 2, 1) := by decide +kernel
theorem dX5_forecast_66 : decode cX5_forecast 66 = .ok (.ireturn, 1) := by decide +kernel
theorem dX5_miss_0 : decode cX5_miss 0 = .ok (.iload_n 1, 1) := by decide +kernel
theorem dX5_miss_1 : decode cX5_miss 1 = .ok (.ifCond .lt 14, 3) := by decide +kernel
theorem dX5_miss_4 : decode cX5_miss 4 = .ok (.iload_n 1, 1) := by decide +kernel
theorem dX5_miss_5 : decode cX5_miss 5 = .ok (.aload_n 0, 1) := by decide +kernel
theorem dX5_miss_6 : decode cX5_miss 6 = .ok (.getfield 29, 3) := by decide +kernel
theorem dX5_miss_9 : decode cX5_miss 9 = .ok (.getfield 168, 3) := by decide +kernel
theorem dX5_miss_12 : decode cX5_miss 12 = .ok (.if_icmp .lt 13, 3) := by decide +kernel
theorem dX5_miss_15 : decode cX5_miss 15 = .ok (.new 129, 3) := by decide +kernel
theorem dX5_miss_18 : decode cX5_miss 18 = .ok (.dup, 1) := by decide +kernel
theorem dX5_miss_19 : decode cX5_miss 19 = .ok (.ldc 177, 2) := by decide +kernel
theorem dX5_miss_21 : decode cX5_miss 21 = .ok (.invokespecial 133, 3) := by decide +kernel
theorem dX5_miss_24 : decode cX5_miss 24 = .ok (.athrow, 1) := by decide +kernel
theorem dX5_miss_25 : decode cX5_miss 25 = .ok (.aload_n 0, 1) := by decide +kernel
theorem dX5_miss_26 : decode cX5_miss 26 = .ok (.getfield 29, 3) := by decide +kernel
theorem dX5_miss_29 : decode cX5_miss 29 = .ok (.getfield 179, 3) := by decide +kernel
theorem dX5_miss_32 : decode cX5_miss 32 = .ok (.iload_n 1, 1) := by decide +kernel
theorem dX5_miss_33 : decode cX5_miss 33 = .ok (.iaload, 1) := by decide +kernel
theorem dX5_miss_34 : decode cX5_miss 34 = .ok (.istore_n 2, 1) := by decide +kernel
theorem dX5_miss_35 : decode cX5_miss 35 = .ok (.iload_n 2, 1) := by decide +kernel
theorem dX5_miss_36 : decode cX5_miss 36 = .ok (.aload_n 0, 1) := by decide +kernel
theorem dX5_miss_37 : decode cX5_miss 37 = .ok (.getfield 10, 3) := by decide +kernel
theorem dX5_miss_40 : decode cX5_miss 40 = .ok (.getfield 82, 3) := by decide +kernel
theorem dX5_miss_43 : decode cX5_miss 43 = .ok (.if_icmp .le 5, 3) := by decide +kernel
theorem dX5_miss_46 : decode cX5_miss 46 = .ok (.iconst (-1), 1) := by decide +kernel
theorem dX5_miss_47 : decode cX5_miss 47 = .ok (.ireturn, 1) := by decide +kernel
theorem dX5_miss_48 : decode cX5_miss 48 = .ok (.aload_n 0, 1) := by decide +kernel
theorem dX5_miss_49 : decode cX5_miss 49 = .ok (.getfield 29, 3) := by decide +kernel
theorem dX5_miss_52 : decode cX5_miss 52 = .ok (.getfield 182, 3) := by decide +kernel
theorem dX5_miss_55 : decode cX5_miss 55 = .ok (.iload_n 1, 1) := by decide +kernel
theorem dX5_miss_56 : decode cX5_miss 56 = .ok (.iaload, 1) := by decide +kernel
theorem dX5_miss_57 : decode cX5_miss 57 = .ok (.aload_n 0, 1) := by decide +kernel
theorem dX5_miss_58 : decode cX5_miss 58 = .ok (.getfield 22, 3) := by decide +kernel
