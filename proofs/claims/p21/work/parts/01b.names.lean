theorem wsL_law_x0 : ∀ w ∈ (vx_atS RX5 58 "java/lang/IllegalStateException" ["java/lang/RuntimeException", "java/lang/Exception"]).filter goodWord, w ∈ lw_tbl := by decide +kernel
theorem wsL_law_x1 : ∀ w ∈ (vx_atS RX5 133 "java/lang/IndexOutOfBoundsException" ["java/lang/RuntimeException", "java/lang/Exception"]).filter goodWord, w ∈ lw_tbl := by decide +kernel
theorem wsL_law_x2 : ∀ w ∈ (vx_atS RX5 122 "java/lang/IllegalArgumentException" ["java/lang/RuntimeException", "java/lang/Exception"]).filter goodWord, w ∈ lw_tbl := by decide +kernel
theorem wsL_law_in : ∀ w ∈ wsL_law, w ∈ lw_tbl := fun w h => (List.mem_append.mp h).elim (fun h => (List.mem_append.mp h).elim (fun h => (List.mem_append.mp h).elim (fun h => wsL_law_in0 w h) (fun h => wsL_law_x0 w h)) (fun h => wsL_law_x1 w h)) (fun h => wsL_law_x2 w h)
theorem inlX0 : ∀ w ∈ wsX00, w ∈ wsL_law := fun _ h => List.mem_append_left _ (List.mem_append_left _ (List.mem_append_left _ (List.mem_append_left _ (List.mem_append_left _ (List.mem_append_left _ (List.mem_append_left _ (List.mem_append_right _ h)))))))
theorem inX0 : ∀ w ∈ wsX00, w ∈ lw_tbl := fun w h => wsL_law_in w (inlX0 w h)
theorem inlX1 : ∀ w ∈ wsX10, w ∈ wsL_law := fun _ h => List.mem_append_left _ (List.mem_append_left _ (List.mem_append_left _ (List.mem_append_left _ (List.mem_append_left _ (List.mem_append_right _ h)))))
theorem inX1 : ∀ w ∈ wsX10, w ∈ lw_tbl := fun w h => wsL_law_in w (inlX1 w h)
theorem inlX2 : ∀ w ∈ wsX20, w ∈ wsL_law := fun _ h => List.mem_append_left _ (List.mem_append_left _ (List.mem_append_left _ (List.mem_append_left _ (List.mem_append_left _ (List.mem_append_left _ (List.mem_append_right _ h))))))
theorem inX2 : ∀ w ∈ wsX20, w ∈ lw_tbl := fun w h => wsL_law_in w (inlX2 w h)
theorem inlX3 : ∀ w ∈ wsX30, w ∈ wsL_law := fun _ h => List.mem_append_left _ (List.mem_append_left _ (List.mem_append_left _ (List.mem_append_left _ (List.mem_append_left _ (List.mem_append_left _ (List.mem_append_left _ (List.mem_append_left _ (List.mem_append_right _ h))))))))
theorem inX3 : ∀ w ∈ wsX30, w ∈ lw_tbl := fun w h => wsL_law_in w (inlX3 w h)
theorem inlX4 : ∀ w ∈ wsX40, w ∈ wsL_law := fun _ h => List.mem_append_left _ (List.mem_append_left _ (List.mem_append_left _ (List.mem_append_left _ (List.mem_append_right _ h))))
theorem inX4 : ∀ w ∈ wsX40, w ∈ lw_tbl := fun w h => wsL_law_in w (inlX4 w h)
theorem inlX5 : ∀ w ∈ wsX50, w ∈ wsL_law := fun _ h => List.mem_append_left _ (List.mem_append_left _ (List.mem_append_left _ (List.mem_append_left _ (List.mem_append_left _ (List.mem_append_left _ (List.mem_append_left _ (List.mem_append_left _ (List.mem_append_left _ (List.mem_append_right _ h)))))))))
theorem inX5 : ∀ w ∈ wsX50, w ∈ lw_tbl := fun w h => wsL_law_in w (inlX5 w h)
theorem inX6 : ∀ w ∈ wsX60, w ∈ lw_tbl := by decide +kernel
theorem inJ9 : ∀ w ∈ wsJ90, w ∈ lw_tbl := by decide +kernel
theorem inJ0 : ∀ w ∈ wsJ00, w ∈ lw_tbl := by decide +kernel
theorem inJ10 : ∀ w ∈ wsJ100, w ∈ lw_tbl := by decide +kernel
theorem dX0_init_0 : decode cX0_init 0 = .ok (.aload_n 0, 1) := by decide +kernel
theorem dX0_init_1 : decode cX0_init 1 = .ok (.invokespecial 3, 3) := by decide +kernel
theorem dX0_init_4 : decode cX0_init 4 = .ok (.aload_n 0, 1) := by decide +kernel
theorem dX0_init_5 : decode cX0_init 5 = .ok (.bipush 61, 2) := by decide +kernel
theorem dX0_init_7 : decode cX0_init 7 = .ok (.newarray .boolean, 2) := by decide +kernel
theorem dX0_init_9 : decode cX0_init 9 = .ok (.putfield 9, 3) := by decide +kernel
theorem dX0_init_12 : decode cX0_init 12 = .ok (.aload_n 0, 1) := by decide +kernel
theorem dX0_init_13 : decode cX0_init 13 = .ok (.bipush 61, 2) := by decide +kernel
theorem dX0_init_15 : decode cX0_init 15 = .ok (.newarray .int, 2) := by decide +kernel
theorem dX0_init_17 : decode cX0_init 17 = .ok (.putfield 15, 3) := by decide +kernel
theorem dX0_init_20 : decode cX0_init 20 = .ok (.aload_n 0, 1) := by decide +kernel
theorem dX0_init_21 : decode cX0_init 21 = .ok (.bipush 61, 2) := by decide +kernel
theorem dX0_init_23 : decode cX0_init 23 = .ok (.newarray .int, 2) := by decide +kernel
theorem dX0_init_25 : decode cX0_init 25 = .ok (.putfield 19, 3) := by decide +kernel
theorem dX0_init_28 : decode cX0_init 28 = .ok (.aload_n 0, 1) := by decide +kernel
theorem dX0_init_29 : decode cX0_init 29 = .ok (.sipush 720, 3) := by decide +kernel
theorem dX0_init_32 : decode cX0_init 32 = .ok (.newarray .int, 2) := by decide +kernel
theorem dX0_init_34 : decode cX0_init 34 = .ok (.putfield 22, 3) := by decide +kernel
theorem dX0_init_37 : decode cX0_init 37 = .ok (.aload_n 0, 1) := by decide +kernel
theorem dX0_init_38 : decode cX0_init 38 = .ok (.sipush 720, 3) := by decide +kernel
theorem dX0_init_41 : decode cX0_init 41 = .ok (.newarray .int, 2) := by decide +kernel
theorem dX0_init_43 : decode cX0_init 43 = .ok (.putfield 25, 3) := by decide +kernel
theorem dX0_init_46 : decode cX0_init 46 = .ok (.aload_n 0, 1) := by decide +kernel
theorem dX0_init_47 : decode cX0_init 47 = .ok (.sipush 720, 3) := by decide +kernel
theorem dX0_init_50 : decode cX0_init 50 = .ok (.newarray .int, 2) := by decide +kernel
theorem dX0_init_52 : decode cX0_init 52 = .ok (.putfield 28, 3) := by decide +kernel
theorem dX0_init_55 : decode cX0_init 55 = .ok (.aload_n 0, 1) := by decide +kernel
theorem dX0_init_56 : decode cX0_init 56 = .ok (.getfield 15, 3) := by decide +kernel
theorem dX0_init_59 : decode cX0_init 59 = .ok (.iconst 0, 1) := by decide +kernel
theorem dX0_init_60 : decode cX0_init 60 = .ok (.iconst (-1), 1) := by decide +kernel
theorem dX0_init_61 : decode cX0_init 61 = .ok (.iastore, 1) := by decide +kernel
theorem dX0_init_62 : decode cX0_init 62 = .ok (.return_, 1) := by decide +kernel
set_option maxRecDepth 20000 in
theorem ggX0_note_X1_allIce : GoodIn wsX0_note wsX1_allIce := goodIn_r _ [15, 16, 40, 41] (by decide +kernel) (by decide +kernel)
set_option maxRecDepth 20000 in
theorem gX0_note_X1_allIce : GoodIn wsX0_note (wsV RX0 44 RX1 yX1_allIce wsX1_allIce) := goodIn_app (goodIn_of _ (by decide +kernel)) ggX0_note_X1_allIce
theorem dX0_note_0 : decode cX0_note 0 = .ok (.aload_n 0, 1) := by decide +kernel
theorem dX0_note_1 : decode cX0_note 1 = .ok (.getfield 15, 3) := by decide +kernel
theorem dX0_note_4 : decode cX0_note 4 = .ok (.aload_n 1, 1) := by decide +kernel
theorem dX0_note_5 : decode cX0_note 5 = .ok (.getfield 31, 3) := by decide +kernel
theorem dX0_note_8 : decode cX0_note 8 = .ok (.aload_n 1, 1) := by decide +kernel
theorem dX0_note_9 : decode cX0_note 9 = .ok (.getfield 37, 3) := by decide +kernel
theorem dX0_note_12 : decode cX0_note 12 = .ok (.iastore, 1) := by decide +kernel
theorem dX0_note_13 : decode cX0_note 13 = .ok (.aload_n 0, 1) := by decide +kernel
theorem dX0_note_14 : decode cX0_note 14 = .ok (.getfield 19, 3) := by decide +kernel
theorem dX0_note_17 : decode cX0_note 17 = .ok (.aload_n 1, 1) := by decide +kernel
theorem dX0_note_18 : decode cX0_note 18 = .ok (.getfield 31, 3) := by decide +kernel
theorem dX0_note_21 : decode cX0_note 21 = .ok (.aload_n 1, 1) := by decide +kernel
theorem dX0_note_22 : decode cX0_note 22 = .ok (.getfield 40, 3) := by decide +kernel
theorem dX0_note_25 : decode cX0_note 25 = .ok (.invokevirtual 44, 3) := by decide +kernel
theorem dX0_note_28 : decode cX0_note 28 = .ok (.iastore, 1) := by decide +kernel
theorem dX0_note_29 : decode cX0_note 29 = .ok (.iconst 0, 1) := by decide +kernel
theorem dX0_note_30 : decode cX0_note 30 = .ok (.istore_n 2, 1) := by decide +kernel
theorem dX0_note_31 : decode cX0_note 31 = .ok (.iload_n 2, 1) := by decide +kernel
theorem dX0_note_32 : decode cX0_note 32 = .ok (.bipush 12, 2) := by decide +kernel
theorem dX0_note_34 : decode cX0_note 34 = .ok (.if_icmp .ge 76, 3) := by decide +kernel
theorem dX0_note_37 : decode cX0_note 37 = .ok (.aload_n 1, 1) := by decide +kernel
theorem dX0_note_38 : decode cX0_note 38 = .ok (.getfield 50, 3) := by decide +kernel
theorem dX0_note_41 : decode cX0_note 41 = .ok (.iload_n 2, 1) := by decide +kernel
theorem dX0_note_42 : decode cX0_note 42 = .ok (.iaload, 1) := by decide +kernel
theorem dX0_note_43 : decode cX0_note 43 = .ok (.ifCond .le 61, 3) := by decide +kernel
theorem dX0_note_46 : decode cX0_note 46 = .ok (.aload_n 0, 1) := by decide +kernel
theorem dX0_note_47 : decode cX0_note 47 = .ok (.getfield 53, 3) := by decide +kernel
theorem dX0_note_50 : decode cX0_note 50 = .ok (.sipush 720, 3) := by decide +kernel
theorem dX0_note_53 : decode cX0_note 53 = .ok (.if_icmp .ge 51, 3) := by decide +kernel
theorem dX0_note_56 : decode cX0_note 56 = .ok (.aload_n 0, 1) := by decide +kernel
theorem dX0_note_57 : decode cX0_note 57 = .ok (.getfield 22, 3) := by decide +kernel
theorem dX0_note_60 : decode cX0_note 60 = .ok (.aload_n 0, 1) := by decide +kernel
theorem dX0_note_61 : decode cX0_note 61 = .ok (.getfield 53, 3) := by decide +kernel
theorem dX0_note_64 : decode cX0_note 64 = .ok (.aload_n 1, 1) := by decide +kernel
theorem dX0_note_65 : decode cX0_note 65 = .ok (.getfield 31, 3) := by decide +kernel
theorem dX0_note_68 : decode cX0_note 68 = .ok (.iastore, 1) := by decide +kernel
theorem dX0_note_69 : decode cX0_note 69 = .ok (.aload_n 0, 1) := by decide +kernel
theorem dX0_note_70 : decode cX0_note 70 = .ok (.getfield 25, 3) := by decide +kernel
theorem dX0_note_73 : decode cX0_note 73 = .ok (.aload_n 0, 1) := by decide +kernel
theorem dX0_note_74 : decode cX0_note 74 = .ok (.getfield 53, 3) := by decide +kernel
theorem dX0_note_77 : decode cX0_note 77 = .ok (.iload_n 2, 1) := by decide +kernel
theorem dX0_note_78 : decode cX0_note 78 = .ok (.iastore, 1) := by decide +kernel
theorem dX0_note_79 : decode cX0_note 79 = .ok (.aload_n 0, 1) := by decide +kernel
theorem dX0_note_80 : decode cX0_note 80 = .ok (.getfield 28, 3) := by decide +kernel
theorem dX0_note_83 : decode cX0_note 83 = .ok (.aload_n 0, 1) := by decide +kernel
theorem dX0_note_84 : decode cX0_note 84 = .ok (.getfield 53, 3) := by decide +kernel
theorem dX0_note_87 : decode cX0_note 87 = .ok (.aload_n 1, 1) := by decide +kernel
theorem dX0_note_88 : decode cX0_note 88 = .ok (.getfield 50, 3) := by decide +kernel
theorem dX0_note_91 : decode cX0_note 91 = .ok (.iload_n 2, 1) := by decide +kernel
theorem dX0_note_92 : decode cX0_note 92 = .ok (.iaload, 1) := by decide +kernel
theorem dX0_note_93 : decode cX0_note 93 = .ok (.iastore, 1) := by decide +kernel
theorem dX0_note_94 : decode cX0_note 94 = .ok (.aload_n 0, 1) := by decide +kernel
theorem dX0_note_95 : decode cX0_note 95 = .ok (.dup, 1) := by decide +kernel
theorem dX0_note_96 : decode cX0_note 96 = .ok (.getfield 53, 3) := by decide +kernel
theorem dX0_note_99 : decode cX0_note 99 = .ok (.iconst 1, 1) := by decide +kernel
theorem dX0_note_100 : decode cX0_note 100 = .ok (.iadd, 1) := by decide +kernel
theorem dX0_note_101 : decode cX0_note 101 = .ok (.putfield 53, 3) := by decide +kernel
theorem dX0_note_104 : decode cX0_note 104 = .ok (.iinc 2 1, 3) := by decide +kernel
theorem dX0_note_107 : decode cX0_note 107 = .ok (.goto (-76), 3) := by decide +kernel
theorem dX0_note_110 : decode cX0_note 110 = .ok (.return_, 1) := by decide +kernel
theorem dX1_init_0 : decode cX1_init 0 = .ok (.aload_n 0, 1) := by decide +kernel
theorem dX1_init_1 : decode cX1_init 1 = .ok (.invokespecial 3, 3) := by decide +kernel
theorem dX1_init_4 : decode cX1_init 4 = .ok (.aload_n 0, 1) := by decide +kernel
theorem dX1_init_5 : decode cX1_init 5 = .ok (.bipush 12, 2) := by decide +kernel
theorem dX1_init_7 : decode cX1_init 7 = .ok (.newarray .int, 2) := by decide +kernel
theorem dX1_init_9 : decode cX1_init 9 = .ok (.putfield 9, 3) := by decide +kernel
theorem dX1_init_12 : decode cX1_init 12 = .ok (.aload_n 0, 1) := by decide +kernel
theorem dX1_init_13 : decode cX1_init 13 = .ok (.sipush 732, 3) := by decide +kernel
theorem dX1_init_16 : decode cX1_init 16 = .ok (.newarray .int, 2) := by decide +kernel
theorem dX1_init_18 : decode cX1_init 18 = .ok (.putfield 15, 3) := by decide +kernel
theorem dX1_init_21 : decode cX1_init 21 = .ok (.return_, 1) := by decide +kernel
theorem dX1_becomeLike_0 : decode cX1_becomeLike 0 = .ok (.aload_n 1, 1) := by decide +kernel
theorem dX1_becomeLike_1 : decode cX1_becomeLike 1 = .ok (.getfield 9, 3) := by decide +kernel
theorem dX1_becomeLike_4 : decode cX1_becomeLike 4 = .ok (.iconst 0, 1) := by decide +kernel
theorem dX1_becomeLike_5 : decode cX1_becomeLike 5 = .ok (.aload_n 0, 1) := by decide +kernel
theorem dX1_becomeLike_6 : decode cX1_becomeLike 6 = .ok (.getfield 9, 3) := by decide +kernel
theorem dX1_becomeLike_9 : decode cX1_becomeLike 9 = .ok (.iconst 0, 1) := by decide +kernel
theorem dX1_becomeLike_10 : decode cX1_becomeLike 10 = .ok (.bipush 12, 2) := by decide +kernel
theorem dX1_becomeLike_12 : decode cX1_becomeLike 12 = .ok (.invokestatic 18, 3) := by decide +kernel
theorem dX1_becomeLike_15 : decode cX1_becomeLike 15 = .ok (.aload_n 1, 1) := by decide +kernel
theorem dX1_becomeLike_16 : decode cX1_becomeLike 16 = .ok (.getfield 15, 3) := by decide +kernel
theorem dX1_becomeLike_19 : decode cX1_becomeLike 19 = .ok (.iconst 0, 1) := by decide +kernel
theorem dX1_becomeLike_20 : decode cX1_becomeLike 20 = .ok (.aload_n 0, 1) := by decide +kernel
theorem dX1_becomeLike_21 : decode cX1_becomeLike 21 = .ok (.getfield 15, 3) := by decide +kernel
theorem dX1_becomeLike_24 : decode cX1_becomeLike 24 = .ok (.iconst 0, 1) := by decide +kernel
theorem dX1_becomeLike_25 : decode cX1_becomeLike 25 = .ok (.sipush 732, 3) := by decide +kernel
theorem dX1_becomeLike_28 : decode cX1_becomeLike 28 = .ok (.invokestatic 18, 3) := by decide +kernel
theorem dX1_becomeLike_31 : decode cX1_becomeLike 31 = .ok (.return_, 1) := by decide +kernel
theorem dX1_unitsOf_0 : decode cX1_unitsOf 0 = .ok (.aload_n 0, 1) := by decide +kernel
theorem dX1_unitsOf_1 : decode cX1_unitsOf 1 = .ok (.getfield 15, 3) := by decide +kernel
theorem dX1_unitsOf_4 : decode cX1_unitsOf 4 = .ok (.iload_n 1, 1) := by decide +kernel
theorem dX1_unitsOf_5 : decode cX1_unitsOf 5 = .ok (.bipush 61, 2) := by decide +kernel
theorem dX1_unitsOf_7 : decode cX1_unitsOf 7 = .ok (.imul, 1) := by decide +kernel
theorem dX1_unitsOf_8 : decode cX1_unitsOf 8 = .ok (.iload_n 2, 1) := by decide +kernel
theorem dX1_unitsOf_9 : decode cX1_unitsOf 9 = .ok (.iadd, 1) := by decide +kernel
theorem dX1_unitsOf_10 : decode cX1_unitsOf 10 = .ok (.iaload, 1) := by decide +kernel
theorem dX1_unitsOf_11 : decode cX1_unitsOf 11 = .ok (.ireturn, 1) := by decide +kernel
theorem dX1_allIce_0 : decode cX1_allIce 0 = .ok (.iconst 0, 1) := by decide +kernel
theorem dX1_allIce_1 : decode cX1_allIce 1 = .ok (.istore_n 1, 1) := by decide +kernel
theorem dX1_allIce_2 : decode cX1_allIce 2 = .ok (.iconst 0, 1) := by decide +kernel
theorem dX1_allIce_3 : decode cX1_allIce 3 = .ok (.istore_n 2, 1) := by decide +kernel
theorem dX1_allIce_4 : decode cX1_allIce 4 = .ok (.iload_n 2, 1) := by decide +kernel
theorem dX1_allIce_5 : decode cX1_allIce 5 = .ok (.bipush 12, 2) := by decide +kernel
theorem dX1_allIce_7 : decode cX1_allIce 7 = .ok (.if_icmp .ge 18, 3) := by decide +kernel
theorem dX1_allIce_10 : decode cX1_allIce 10 = .ok (.iload_n 1, 1) := by decide +kernel
theorem dX1_allIce_11 : decode cX1_allIce 11 = .ok (.aload_n 0, 1) := by decide +kernel
theorem dX1_allIce_12 : decode cX1_allIce 12 = .ok (.getfield 9, 3) := by decide +kernel
theorem dX1_allIce_15 : decode cX1_allIce 15 = .ok (.iload_n 2, 1) := by decide +kernel
theorem dX1_allIce_16 : decode cX1_allIce 16 = .ok (.iaload, 1) := by decide +kernel
theorem dX1_allIce_17 : decode cX1_allIce 17 = .ok (.iadd, 1) := by decide +kernel
theorem dX1_allIce_18 : decode cX1_allIce 18 = .ok (.istore_n 1, 1) := by decide +kernel
theorem dX1_allIce_19 : decode cX1_allIce 19 = .ok (.iinc 2 1, 3) := by decide +kernel
theorem dX1_allIce_22 : decode cX1_allIce 22 = .ok (.goto (-18), 3) := by decide +kernel
theorem dX1_allIce_25 : decode cX1_allIce 25 = .ok (.iload_n 1, 1) := by decide +kernel
theorem dX1_allIce_26 : decode cX1_allIce 26 = .ok (.ireturn, 1) := by decide +kernel
theorem dX1_lay_0 : decode cX1_lay 0 = .ok (.aload_n 0, 1) := by decide +kernel
theorem dX1_lay_1 : decode cX1_lay 1 = .ok (.getfield 15, 3) := by decide +kernel
theorem dX1_lay_4 : decode cX1_lay 4 = .ok (.iload_n 1, 1) := by decide +kernel
theorem dX1_lay_5 : decode cX1_lay 5 = .ok (.bipush 61, 2) := by decide +kernel
theorem dX1_lay_7 : decode cX1_lay 7 = .ok (.imul, 1) := by decide +kernel
theorem dX1_lay_8 : decode cX1_lay 8 = .ok (.iload_n 2, 1) := by decide +kernel
theorem dX1_lay_9 : decode cX1_lay 9 = .ok (.iadd, 1) := by decide +kernel
theorem dX1_lay_10 : decode cX1_lay 10 = .ok (.dup2, 1) := by decide +kernel
theorem dX1_lay_11 : decode cX1_lay 11 = .ok (.iaload, 1) := by decide +kernel
theorem dX1_lay_12 : decode cX1_lay 12 = .ok (.iload_n 3, 1) := by decide +kernel
theorem dX1_lay_13 : decode cX1_lay 13 = .ok (.iadd, 1) := by decide +kernel
theorem dX1_lay_14 : decode cX1_lay 14 = .ok (.iastore, 1) := by decide +kernel
theorem dX1_lay_15 : decode cX1_lay 15 = .ok (.aload_n 0, 1) := by decide +kernel
theorem dX1_lay_16 : decode cX1_lay 16 = .ok (.getfield 9, 3) := by decide +kernel
theorem dX1_lay_19 : decode cX1_lay 19 = .ok (.iload_n 1, 1) := by decide +kernel
theorem dX1_lay_20 : decode cX1_lay 20 = .ok (.dup2, 1) := by decide +kernel
theorem dX1_lay_21 : decode cX1_lay 21 = .ok (.iaload, 1) := by decide +kernel
theorem dX1_lay_22 : decode cX1_lay 22 = .ok (.iload_n 3, 1) := by decide +kernel
theorem dX1_lay_23 : decode cX1_lay 23 = .ok (.iadd, 1) := by decide +kernel
theorem dX1_lay_24 : decode cX1_lay 24 = .ok (.iastore, 1) := by decide +kernel
theorem dX1_lay_25 : decode cX1_lay 25 = .ok (.return_, 1) := by decide +kernel
set_option maxRecDepth 20000 in
theorem ggX1_takeLatest_X1_unitsOf : GoodIn wsX1_takeLatest wsX1_unitsOf := goodIn_r _ [9, 10, 16, 17] (by decide +kernel) (by decide +kernel)
set_option maxRecDepth 20000 in
theorem gX1_takeLatest_X1_unitsOf : GoodIn wsX1_takeLatest (wsV RX1 24 RX1 yX1_unitsOf wsX1_unitsOf) := goodIn_app (goodIn_of _ (by decide +kernel)) ggX1_takeLatest_X1_unitsOf
set_option maxRecDepth 20000 in
theorem ggX1_takeLatest_X1_lay : GoodIn wsX1_takeLatest wsX1_lay := goodIn_r _ [14, 10, 15, 16, 17] (by decide +kernel) (by decide +kernel)
set_option maxRecDepth 20000 in
theorem gX1_takeLatest_X1_lay : GoodIn wsX1_takeLatest (wsV RX1 33 RX1 yX1_lay wsX1_lay) := goodIn_app (goodIn_of _ (by decide +kernel)) ggX1_takeLatest_X1_lay
theorem dX1_takeLatest_0 : decode cX1_takeLatest 0 = .ok (.iload_n 2, 1) := by decide +kernel
theorem dX1_takeLatest_1 : decode cX1_takeLatest 1 = .ok (.istore_n 3, 1) := by decide +kernel
theorem dX1_takeLatest_2 : decode cX1_takeLatest 2 = .ok (.bipush 60, 2) := by decide +kernel
theorem dX1_takeLatest_4 : decode cX1_takeLatest 4 = .ok (.istore 4, 2) := by decide +kernel
theorem dX1_takeLatest_6 : decode cX1_takeLatest 6 = .ok (.iload 4, 2) := by decide +kernel
theorem dX1_takeLatest_8 : decode cX1_takeLatest 8 = .ok (.ifCond .lt 41, 3) := by decide +kernel
theorem dX1_takeLatest_11 : decode cX1_takeLatest 11 = .ok (.iload_n 3, 1) := by decide +kernel
theorem dX1_takeLatest_12 : decode cX1_takeLatest 12 = .ok (.ifCond .le 37, 3) := by decide +kernel
theorem dX1_takeLatest_15 : decode cX1_takeLatest 15 = .ok (.iload_n 3, 1) := by decide +kernel
theorem dX1_takeLatest_16 : decode cX1_takeLatest 16 = .ok (.aload_n 0, 1) := by decide +kernel
theorem dX1_takeLatest_17 : decode cX1_takeLatest 17 = .ok (.iload_n 1, 1) := by decide +kernel
theorem dX1_takeLatest_18 : decode cX1_takeLatest 18 = .ok (.iload 4, 2) := by decide +kernel
theorem dX1_takeLatest_20 : decode cX1_takeLatest 20 = .ok (.invokevirtual 24, 3) := by decide +kernel
theorem dX1_takeLatest_23 : decode cX1_takeLatest 23 = .ok (.invokestatic 28, 3) := by decide +kernel
theorem dX1_takeLatest_26 : decode cX1_takeLatest 26 = .ok (.istore 5, 2) := by decide +kernel
theorem dX1_takeLatest_28 : decode cX1_takeLatest 28 = .ok (.aload_n 0, 1) := by decide +kernel
theorem dX1_takeLatest_29 : decode cX1_takeLatest 29 = .ok (.iload_n 1, 1) := by decide +kernel
theorem dX1_takeLatest_30 : decode cX1_takeLatest 30 = .ok (.iload 4, 2) := by decide +kernel
theorem dX1_takeLatest_32 : decode cX1_takeLatest 32 = .ok (.iload 5, 2) := by decide +kernel
theorem dX1_takeLatest_34 : decode cX1_takeLatest 34 = .ok (.ineg, 1) := by decide +kernel
theorem dX1_takeLatest_35 : decode cX1_takeLatest 35 = .ok (.invokevirtual 33, 3) := by decide +kernel
theorem dX1_takeLatest_38 : decode cX1_takeLatest 38 = .ok (.iload_n 3, 1) := by decide +kernel
theorem dX1_takeLatest_39 : decode cX1_takeLatest 39 = .ok (.iload 5, 2) := by decide +kernel
theorem dX1_takeLatest_41 : decode cX1_takeLatest 41 = .ok (.isub, 1) := by decide +kernel
theorem dX1_takeLatest_42 : decode cX1_takeLatest 42 = .ok (.istore_n 3, 1) := by decide +kernel
theorem dX1_takeLatest_43 : decode cX1_takeLatest 43 = .ok (.iinc 4 (-1), 3) := by decide +kernel
theorem dX1_takeLatest_46 : decode cX1_takeLatest 46 = .ok (.goto (-40), 3) := by decide +kernel
theorem dX1_takeLatest_49 : decode cX1_takeLatest 49 = .ok (.return_, 1) := by decide +kernel
set_option maxRecDepth 20000 in
theorem ggX1_carryEarliest_X1_unitsOf : GoodIn wsX1_carryEarliest wsX1_unitsOf := goodIn_r _ [9, 10, 16, 17] (by decide +kernel) (by decide +kernel)
set_option maxRecDepth 20000 in
theorem gX1_carryEarliest_X1_unitsOf : GoodIn wsX1_carryEarliest (wsV RX1 24 RX1 yX1_unitsOf wsX1_unitsOf) := goodIn_app (goodIn_of _ (by decide +kernel)) ggX1_carryEarliest_X1_unitsOf
set_option maxRecDepth 20000 in
theorem ggX1_carryEarliest_X1_lay : GoodIn wsX1_carryEarliest wsX1_lay := goodIn_r _ [14, 10, 15, 16, 17] (by decide +kernel) (by decide +kernel)
set_option maxRecDepth 20000 in
theorem gX1_carryEarliest_X1_lay : GoodIn wsX1_carryEarliest (wsV RX1 33 RX1 yX1_lay wsX1_lay) := goodIn_app (goodIn_of _ (by decide +kernel)) ggX1_carryEarliest_X1_lay
theorem dX1_carryEarliest_0 : decode cX1_carryEarliest 0 = .ok (.iload_n 3, 1) := by decide +kernel
theorem dX1_carryEarliest_1 : decode cX1_carryEarliest 1 = .ok (.istore 4, 2) := by decide +kernel
theorem dX1_carryEarliest_3 : decode cX1_carryEarliest 3 = .ok (.iconst 0, 1) := by decide +kernel
theorem dX1_carryEarliest_4 : decode cX1_carryEarliest 4 = .ok (.istore 5, 2) := by decide +kernel
theorem dX1_carryEarliest_6 : decode cX1_carryEarliest 6 = .ok (.iload 5, 2) := by decide +kernel
theorem dX1_carryEarliest_8 : decode cX1_carryEarliest 8 = .ok (.bipush 61, 2) := by decide +kernel
theorem dX1_carryEarliest_10 : decode cX1_carryEarliest 10 = .ok (.if_icmp .ge 54, 3) := by decide +kernel
theorem dX1_carryEarliest_13 : decode cX1_carryEarliest 13 = .ok (.iload 4, 2) := by decide +kernel
theorem dX1_carryEarliest_15 : decode cX1_carryEarliest 15 = .ok (.ifCond .le 49, 3) := by decide +kernel
theorem dX1_carryEarliest_18 : decode cX1_carryEarliest 18 = .ok (.iload 4, 2) := by decide +kernel
theorem dX1_carryEarliest_20 : decode cX1_carryEarliest 20 = .ok (.aload_n 0, 1) := by decide +kernel
theorem dX1_carryEarliest_21 : decode cX1_carryEarliest 21 = .ok (.iload_n 1, 1) := by decide +kernel
theorem dX1_carryEarliest_22 : decode cX1_carryEarliest 22 = .ok (.iload 5, 2) := by decide +kernel
theorem dX1_carryEarliest_24 : decode cX1_carryEarliest 24 = .ok (.invokevirtual 24, 3) := by decide +kernel
theorem dX1_carryEarliest_27 : decode cX1_carryEarliest 27 = .ok (.invokestatic 28, 3) := by decide +kernel
theorem dX1_carryEarliest_30 : decode cX1_carryEarliest 30 = .ok (.istore 6, 2) := by decide +kernel
theorem dX1_carryEarliest_32 : decode cX1_carryEarliest 32 = .ok (.aload_n 0, 1) := by decide +kernel
theorem dX1_carryEarliest_33 : decode cX1_carryEarliest 33 = .ok (.iload_n 1, 1) := by decide +kernel
theorem dX1_carryEarliest_34 : decode cX1_carryEarliest 34 = .ok (.iload 5, 2) := by decide +kernel
theorem dX1_carryEarliest_36 : decode cX1_carryEarliest 36 = .ok (.iload 6, 2) := by decide +kernel
theorem dX1_carryEarliest_38 : decode cX1_carryEarliest 38 = .ok (.ineg, 1) := by decide +kernel
theorem dX1_carryEarliest_39 : decode cX1_carryEarliest 39 = .ok (.invokevirtual 33, 3) := by decide +kernel
theorem dX1_carryEarliest_42 : decode cX1_carryEarliest 42 = .ok (.aload_n 0, 1) := by decide +kernel
theorem dX1_carryEarliest_43 : decode cX1_carryEarliest 43 = .ok (.iload_n 2, 1) := by decide +kernel
theorem dX1_carryEarliest_44 : decode cX1_carryEarliest 44 = .ok (.iload 5, 2) := by decide +kernel
theorem dX1_carryEarliest_46 : decode cX1_carryEarliest 46 = .ok (.iload 6, 2) := by decide +kernel
theorem dX1_carryEarliest_48 : decode cX1_carryEarliest 48 = .ok (.invokevirtual 33, 3) := by decide +kernel
theorem dX1_carryEarliest_51 : decode cX1_carryEarliest 51 = .ok (.iload 4, 2) := by decide +kernel
theorem dX1_carryEarliest_53 : decode cX1_carryEarliest 53 = .ok (.iload 6, 2) := by decide +kernel
theorem dX1_carryEarliest_55 : decode cX1_carryEarliest 55 = .ok (.isub, 1) := by decide +kernel
theorem dX1_carryEarliest_56 : decode cX1_carryEarliest 56 = .ok (.istore 4, 2) := by decide +kernel
theorem dX1_carryEarliest_58 : decode cX1_carryEarliest 58 = .ok (.iinc 5 1, 3) := by decide +kernel
theorem dX1_carryEarliest_61 : decode cX1_carryEarliest 61 = .ok (.goto (-55), 3) := by decide +kernel
theorem dX1_carryEarliest_64 : decode cX1_carryEarliest 64 = .ok (.return_, 1) := by decide +kernel
set_option maxRecDepth 20000 in
theorem ggX1_yearBelow_X1_unitsOf : GoodIn wsX1_yearBelow wsX1_unitsOf := goodIn_r _ [5, 6, 7, 8] (by decide +kernel) (by decide +kernel)
set_option maxRecDepth 20000 in
theorem gX1_yearBelow_X1_unitsOf : GoodIn wsX1_yearBelow (wsV RX1 24 RX1 yX1_unitsOf wsX1_unitsOf) := goodIn_app (goodIn_of _ (by decide +kernel)) ggX1_yearBelow_X1_unitsOf
theorem dX1_yearBelow_0 : decode cX1_yearBelow 0 = .ok (.iload_n 2, 1) := by decide +kernel
theorem dX1_yearBelow_1 : decode cX1_yearBelow 1 = .ok (.istore_n 3, 1) := by decide +kernel
theorem dX1_yearBelow_2 : decode cX1_yearBelow 2 = .ok (.bipush 60, 2) := by decide +kernel
theorem dX1_yearBelow_4 : decode cX1_yearBelow 4 = .ok (.istore 4, 2) := by decide +kernel
theorem dX1_yearBelow_6 : decode cX1_yearBelow 6 = .ok (.iload 4, 2) := by decide +kernel
theorem dX1_yearBelow_8 : decode cX1_yearBelow 8 = .ok (.ifCond .lt 32, 3) := by decide +kernel
theorem dX1_yearBelow_11 : decode cX1_yearBelow 11 = .ok (.aload_n 0, 1) := by decide +kernel
theorem dX1_yearBelow_12 : decode cX1_yearBelow 12 = .ok (.iload_n 1, 1) := by decide +kernel
theorem dX1_yearBelow_13 : decode cX1_yearBelow 13 = .ok (.iload 4, 2) := by decide +kernel
theorem dX1_yearBelow_15 : decode cX1_yearBelow 15 = .ok (.invokevirtual 24, 3) := by decide +kernel
theorem dX1_yearBelow_18 : decode cX1_yearBelow 18 = .ok (.istore 5, 2) := by decide +kernel
theorem dX1_yearBelow_20 : decode cX1_yearBelow 20 = .ok (.iload_n 3, 1) := by decide +kernel
theorem dX1_yearBelow_21 : decode cX1_yearBelow 21 = .ok (.iload 5, 2) := by decide +kernel
theorem dX1_yearBelow_23 : decode cX1_yearBelow 23 = .ok (.if_icmp .ge 6, 3) := by decide +kernel
theorem dX1_yearBelow_26 : decode cX1_yearBelow 26 = .ok (.iload 4, 2) := by decide +kernel
theorem dX1_yearBelow_28 : decode cX1_yearBelow 28 = .ok (.ireturn, 1) := by decide +kernel
theorem dX1_yearBelow_29 : decode cX1_yearBelow 29 = .ok (.iload_n 3, 1) := by decide +kernel
theorem dX1_yearBelow_30 : decode cX1_yearBelow 30 = .ok (.iload 5, 2) := by decide +kernel
theorem dX1_yearBelow_32 : decode cX1_yearBelow 32 = .ok (.isub, 1) := by decide +kernel
theorem dX1_yearBelow_33 : decode cX1_yearBelow 33 = .ok (.istore_n 3, 1) := by decide +kernel
theorem dX1_yearBelow_34 : decode cX1_yearBelow 34 = .ok (.iinc 4 (-1), 3) := by decide +kernel
theorem dX1_yearBelow_37 : decode cX1_yearBelow 37 = .ok (.goto (-31), 3) := by decide +kernel
theorem dX1_yearBelow_40 : decode cX1_yearBelow 40 = .ok (.iconst (-1), 1) := by decide +kernel
theorem dX1_yearBelow_41 : decode cX1_yearBelow 41 = .ok (.ireturn, 1) := by decide +kernel
theorem dX2_init_0 : decode cX2_init 0 = .ok (.aload_n 0, 1) := by decide +kernel
theorem dX2_init_1 : decode cX2_init 1 = .ok (.invokespecial 3, 3) := by decide +kernel
theorem dX2_init_4 : decode cX2_init 4 = .ok (.aload_n 0, 1) := by decide +kernel
theorem dX2_init_5 : decode cX2_init 5 = .ok (.bipush 10, 2) := by decide +kernel
theorem dX2_init_7 : decode cX2_init 7 = .ok (.newarray .int, 2) := by decide +kernel
theorem dX2_init_9 : decode cX2_init 9 = .ok (.putfield 9, 3) := by decide +kernel
theorem dX2_init_12 : decode cX2_init 12 = .ok (.aload_n 0, 1) := by decide +kernel
theorem dX2_init_13 : decode cX2_init 13 = .ok (.bipush 10, 2) := by decide +kernel
theorem dX2_init_15 : decode cX2_init 15 = .ok (.newarray .int, 2) := by decide +kernel
theorem dX2_init_17 : decode cX2_init 17 = .ok (.putfield 15, 3) := by decide +kernel
theorem dX2_init_20 : decode cX2_init 20 = .ok (.return_, 1) := by decide +kernel
theorem dX2_keep_0 : decode cX2_keep 0 = .ok (.aload_n 0, 1) := by decide +kernel
theorem dX2_keep_1 : decode cX2_keep 1 = .ok (.getfield 18, 3) := by decide +kernel
theorem dX2_keep_4 : decode cX2_keep 4 = .ok (.bipush 10, 2) := by decide +kernel
theorem dX2_keep_6 : decode cX2_keep 6 = .ok (.if_icmp .ge 33, 3) := by decide +kernel
theorem dX2_keep_9 : decode cX2_keep 9 = .ok (.aload_n 0, 1) := by decide +kernel
theorem dX2_keep_10 : decode cX2_keep 10 = .ok (.getfield 9, 3) := by decide +kernel
theorem dX2_keep_13 : decode cX2_keep 13 = .ok (.aload_n 0, 1) := by decide +kernel
theorem dX2_keep_14 : decode cX2_keep 14 = .ok (.getfield 18, 3) := by decide +kernel
theorem dX2_keep_17 : decode cX2_keep 17 = .ok (.iload_n 1, 1) := by decide +kernel
theorem dX2_keep_18 : decode cX2_keep 18 = .ok (.iastore, 1) := by decide +kernel
theorem dX2_keep_19 : decode cX2_keep 19 = .ok (.aload_n 0, 1) := by decide +kernel
theorem dX2_keep_20 : decode cX2_keep 20 = .ok (.getfield 15, 3) := by decide +kernel
theorem dX2_keep_23 : decode cX2_keep 23 = .ok (.aload_n 0, 1) := by decide +kernel
theorem dX2_keep_24 : decode cX2_keep 24 = .ok (.getfield 18, 3) := by decide +kernel
theorem dX2_keep_27 : decode cX2_keep 27 = .ok (.iload_n 2, 1) := by decide +kernel
theorem dX2_keep_28 : decode cX2_keep 28 = .ok (.iastore, 1) := by decide +kernel
theorem dX2_keep_29 : decode cX2_keep 29 = .ok (.aload_n 0, 1) := by decide +kernel
theorem dX2_keep_30 : decode cX2_keep 30 = .ok (.dup, 1) := by decide +kernel
theorem dX2_keep_31 : decode cX2_keep 31 = .ok (.getfield 18, 3) := by decide +kernel
theorem dX2_keep_34 : decode cX2_keep 34 = .ok (.iconst 1, 1) := by decide +kernel
theorem dX2_keep_35 : decode cX2_keep 35 = .ok (.iadd, 1) := by decide +kernel
theorem dX2_keep_36 : decode cX2_keep 36 = .ok (.putfield 18, 3) := by decide +kernel
theorem dX2_keep_39 : decode cX2_keep 39 = .ok (.return_, 1) := by decide +kernel
set_option maxRecDepth 20000 in
theorem ggX3_init_X1_init : GoodIn wsX3_init wsX1_init := goodIn_r _ [23, 24, 2, 3, 12, 25, 26, 30, 31] (by decide +kernel) (by decide +kernel)
set_option maxRecDepth 20000 in
theorem gX3_init_X1_init_n11 : GoodIn wsX3_init (wsX1_init) := ggX3_init_X1_init
set_option maxRecDepth 20000 in
theorem ggX3_init_X4_init : GoodIn wsX3_init wsX4_init := goodIn_r _ [28, 29, 2, 3] (by decide +kernel) (by decide +kernel)
set_option maxRecDepth 20000 in
theorem gX3_init_X4_init_n20 : GoodIn wsX3_init (wsX4_init) := ggX3_init_X4_init
theorem dX3_init_0 : decode cX3_init 0 = .ok (.aload_n 0, 1) := by decide +kernel
theorem dX3_init_1 : decode cX3_init 1 = .ok (.invokespecial 3, 3) := by decide +kernel
theorem dX3_init_4 : decode cX3_init 4 = .ok (.aload_n 0, 1) := by decide +kernel
theorem dX3_init_5 : decode cX3_init 5 = .ok (.new 9, 3) := by decide +kernel
theorem dX3_init_8 : decode cX3_init 8 = .ok (.dup, 1) := by decide +kernel
theorem dX3_init_9 : decode cX3_init 9 = .ok (.invokespecial 11, 3) := by decide +kernel
theorem dX3_init_12 : decode cX3_init 12 = .ok (.putfield 12, 3) := by decide +kernel
theorem dX3_init_15 : decode cX3_init 15 = .ok (.aload_n 0, 1) := by decide +kernel
theorem dX3_init_16 : decode cX3_init 16 = .ok (.new 18, 3) := by decide +kernel
theorem dX3_init_19 : decode cX3_init 19 = .ok (.dup, 1) := by decide +kernel
theorem dX3_init_20 : decode cX3_init 20 = .ok (.invokespecial 20, 3) := by decide +kernel
theorem dX3_init_23 : decode cX3_init 23 = .ok (.putfield 21, 3) := by decide +kernel
theorem dX3_init_26 : decode cX3_init 26 = .ok (.aload_n 0, 1) := by decide +kernel
theorem dX3_init_27 : decode cX3_init 27 = .ok (.bipush 12, 2) := by decide +kernel
theorem dX3_init_29 : decode cX3_init 29 = .ok (.newarray .int, 2) := by decide +kernel
theorem dX3_init_31 : decode cX3_init 31 = .ok (.putfield 25, 3) := by decide +kernel
theorem dX3_init_34 : decode cX3_init 34 = .ok (.aload_n 0, 1) := by decide +kernel
theorem dX3_init_35 : decode cX3_init 35 = .ok (.bipush 12, 2) := by decide +kernel
theorem dX3_init_37 : decode cX3_init 37 = .ok (.newarray .int, 2) := by decide +kernel
theorem dX3_init_39 : decode cX3_init 39 = .ok (.putfield 29, 3) := by decide +kernel
theorem dX3_init_42 : decode cX3_init 42 = .ok (.aload_n 0, 1) := by decide +kernel
theorem dX3_init_43 : decode cX3_init 43 = .ok (.bipush 12, 2) := by decide +kernel
theorem dX3_init_45 : decode cX3_init 45 = .ok (.newarray .int, 2) := by decide +kernel
theorem dX3_init_47 : decode cX3_init 47 = .ok (.putfield 32, 3) := by decide +kernel
theorem dX3_init_50 : decode cX3_init 50 = .ok (.aload_n 0, 1) := by decide +kernel
theorem dX3_init_51 : decode cX3_init 51 = .ok (.bipush 12, 2) := by decide +kernel
theorem dX3_init_53 : decode cX3_init 53 = .ok (.newarray .int, 2) := by decide +kernel
theorem dX3_init_55 : decode cX3_init 55 = .ok (.putfield 35, 3) := by decide +kernel
theorem dX3_init_58 : decode cX3_init 58 = .ok (.aload_n 0, 1) := by decide +kernel
theorem dX3_init_59 : decode cX3_init 59 = .ok (.bipush 12, 2) := by decide +kernel
theorem dX3_init_61 : decode cX3_init 61 = .ok (.newarray .int, 2) := by decide +kernel
theorem dX3_init_63 : decode cX3_init 63 = .ok (.putfield 38, 3) := by decide +kernel
theorem dX3_init_66 : decode cX3_init 66 = .ok (.aload_n 0, 1) := by decide +kernel
theorem dX3_init_67 : decode cX3_init 67 = .ok (.bipush 12, 2) := by decide +kernel
theorem dX3_init_69 : decode cX3_init 69 = .ok (.newarray .int, 2) := by decide +kernel
theorem dX3_init_71 : decode cX3_init 71 = .ok (.putfield 41, 3) := by decide +kernel
theorem dX3_init_74 : decode cX3_init 74 = .ok (.aload_n 0, 1) := by decide +kernel
theorem dX3_init_75 : decode cX3_init 75 = .ok (.bipush 11, 2) := by decide +kernel
theorem dX3_init_77 : decode cX3_init 77 = .ok (.newarray .int, 2) := by decide +kernel
theorem dX3_init_79 : decode cX3_init 79 = .ok (.putfield 44, 3) := by decide +kernel
theorem dX3_init_82 : decode cX3_init 82 = .ok (.aload_n 0, 1) := by decide +kernel
theorem dX3_init_83 : decode cX3_init 83 = .ok (.bipush 12, 2) := by decide +kernel
theorem dX3_init_85 : decode cX3_init 85 = .ok (.newarray .int, 2) := by decide +kernel
theorem dX3_init_87 : decode cX3_init 87 = .ok (.putfield 47, 3) := by decide +kernel
theorem dX3_init_90 : decode cX3_init 90 = .ok (.aload_n 0, 1) := by decide +kernel
theorem dX3_init_91 : decode cX3_init 91 = .ok (.iconst (-1), 1) := by decide +kernel
theorem dX3_init_92 : decode cX3_init 92 = .ok (.putfield 50, 3) := by decide +kernel
theorem dX3_init_95 : decode cX3_init 95 = .ok (.iconst 0, 1) := by decide +kernel
theorem dX3_init_96 : decode cX3_init 96 = .ok (.istore_n 1, 1) := by decide +kernel
theorem dX3_init_97 : decode cX3_init 97 = .ok (.iload_n 1, 1) := by decide +kernel
theorem dX3_init_98 : decode cX3_init 98 = .ok (.bipush 12, 2) := by decide +kernel
theorem dX3_init_100 : decode cX3_init 100 = .ok (.if_icmp .ge 25, 3) := by decide +kernel
theorem dX3_init_103 : decode cX3_init 103 = .ok (.aload_n 0, 1) := by decide +kernel
theorem dX3_init_104 : decode cX3_init 104 = .ok (.getfield 25, 3) := by decide +kernel
theorem dX3_init_107 : decode cX3_init 107 = .ok (.iload_n 1, 1) := by decide +kernel
theorem dX3_init_108 : decode cX3_init 108 = .ok (.bipush 100, 2) := by decide +kernel
theorem dX3_init_110 : decode cX3_init 110 = .ok (.iastore, 1) := by decide +kernel
theorem dX3_init_111 : decode cX3_init 111 = .ok (.aload_n 0, 1) := by decide +kernel
theorem dX3_init_112 : decode cX3_init 112 = .ok (.getfield 29, 3) := by decide +kernel
theorem dX3_init_115 : decode cX3_init 115 = .ok (.iload_n 1, 1) := by decide +kernel
theorem dX3_init_116 : decode cX3_init 116 = .ok (.bipush 100, 2) := by decide +kernel
theorem dX3_init_118 : decode cX3_init 118 = .ok (.iastore, 1) := by decide +kernel
theorem dX3_init_119 : decode cX3_init 119 = .ok (.iinc 1 1, 3) := by decide +kernel
theorem dX3_init_122 : decode cX3_init 122 = .ok (.goto (-25), 3) := by decide +kernel
theorem dX3_init_125 : decode cX3_init 125 = .ok (.return_, 1) := by decide +kernel
set_option maxRecDepth 20000 in
theorem ggX3_becomeLike_X1_becomeLike : GoodIn wsX3_becomeLike wsX1_becomeLike := goodIn_r _ [19, 20, 21, 9, 10, 11, 22, 39, 40] (by decide +kernel) (by decide +kernel)
set_option maxRecDepth 20000 in
theorem gX3_becomeLike_X1_becomeLike : GoodIn wsX3_becomeLike (wsV RX3 69 RX1 yX1_becomeLike wsX1_becomeLike) := goodIn_app (goodIn_of _ (by decide +kernel)) ggX3_becomeLike_X1_becomeLike
theorem dX3_becomeLike_0 : decode cX3_becomeLike 0 = .ok (.aload_n 0, 1) := by decide +kernel
theorem dX3_becomeLike_1 : decode cX3_becomeLike 1 = .ok (.aload_n 1, 1) := by decide +kernel
theorem dX3_becomeLike_2 : decode cX3_becomeLike 2 = .ok (.getfield 54, 3) := by decide +kernel
theorem dX3_becomeLike_5 : decode cX3_becomeLike 5 = .ok (.putfield 54, 3) := by decide +kernel
theorem dX3_becomeLike_8 : decode cX3_becomeLike 8 = .ok (.aload_n 0, 1) := by decide +kernel
theorem dX3_becomeLike_9 : decode cX3_becomeLike 9 = .ok (.aload_n 1, 1) := by decide +kernel
theorem dX3_becomeLike_10 : decode cX3_becomeLike 10 = .ok (.getfield 57, 3) := by decide +kernel
theorem dX3_becomeLike_13 : decode cX3_becomeLike 13 = .ok (.putfield 57, 3) := by decide +kernel
theorem dX3_becomeLike_16 : decode cX3_becomeLike 16 = .ok (.aload_n 0, 1) := by decide +kernel
theorem dX3_becomeLike_17 : decode cX3_becomeLike 17 = .ok (.aload_n 1, 1) := by decide +kernel
theorem dX3_becomeLike_18 : decode cX3_becomeLike 18 = .ok (.getfield 60, 3) := by decide +kernel
theorem dX3_becomeLike_21 : decode cX3_becomeLike 21 = .ok (.putfield 60, 3) := by decide +kernel
theorem dX3_becomeLike_24 : decode cX3_becomeLike 24 = .ok (.aload_n 0, 1) := by decide +kernel
theorem dX3_becomeLike_25 : decode cX3_becomeLike 25 = .ok (.aload_n 1, 1) := by decide +kernel
theorem dX3_becomeLike_26 : decode cX3_becomeLike 26 = .ok (.getfield 63, 3) := by decide +kernel
theorem dX3_becomeLike_29 : decode cX3_becomeLike 29 = .ok (.putfield 63, 3) := by decide +kernel
theorem dX3_becomeLike_32 : decode cX3_becomeLike 32 = .ok (.aload_n 0, 1) := by decide +kernel
theorem dX3_becomeLike_33 : decode cX3_becomeLike 33 = .ok (.aload_n 1, 1) := by decide +kernel
theorem dX3_becomeLike_34 : decode cX3_becomeLike 34 = .ok (.getfield 66, 3) := by decide +kernel
theorem dX3_becomeLike_37 : decode cX3_becomeLike 37 = .ok (.putfield 66, 3) := by decide +kernel
theorem dX3_becomeLike_40 : decode cX3_becomeLike 40 = .ok (.aload_n 0, 1) := by decide +kernel
theorem dX3_becomeLike_41 : decode cX3_becomeLike 41 = .ok (.getfield 12, 3) := by decide +kernel
theorem dX3_becomeLike_44 : decode cX3_becomeLike 44 = .ok (.aload_n 1, 1) := by decide +kernel
theorem dX3_becomeLike_45 : decode cX3_becomeLike 45 = .ok (.getfield 12, 3) := by decide +kernel
theorem dX3_becomeLike_48 : decode cX3_becomeLike 48 = .ok (.invokevirtual 69, 3) := by decide +kernel
theorem dX3_becomeLike_51 : decode cX3_becomeLike 51 = .ok (.aload_n 1, 1) := by decide +kernel
theorem dX3_becomeLike_52 : decode cX3_becomeLike 52 = .ok (.getfield 25, 3) := by decide +kernel
theorem dX3_becomeLike_55 : decode cX3_becomeLike 55 = .ok (.iconst 0, 1) := by decide +kernel
theorem dX3_becomeLike_56 : decode cX3_becomeLike 56 = .ok (.aload_n 0, 1) := by decide +kernel
theorem dX3_becomeLike_57 : decode cX3_becomeLike 57 = .ok (.getfield 25, 3) := by decide +kernel
theorem dX3_becomeLike_60 : decode cX3_becomeLike 60 = .ok (.iconst 0, 1) := by decide +kernel
theorem dX3_becomeLike_61 : decode cX3_becomeLike 61 = .ok (.bipush 12, 2) := by decide +kernel
theorem dX3_becomeLike_63 : decode cX3_becomeLike 63 = .ok (.invokestatic 73, 3) := by decide +kernel
theorem dX3_becomeLike_66 : decode cX3_becomeLike 66 = .ok (.aload_n 1, 1) := by decide +kernel
theorem dX3_becomeLike_67 : decode cX3_becomeLike 67 = .ok (.getfield 29, 3) := by decide +kernel
theorem dX3_becomeLike_70 : decode cX3_becomeLike 70 = .ok (.iconst 0, 1) := by decide +kernel
theorem dX3_becomeLike_71 : decode cX3_becomeLike 71 = .ok (.aload_n 0, 1) := by decide +kernel
theorem dX3_becomeLike_72 : decode cX3_becomeLike 72 = .ok (.getfield 29, 3) := by decide +kernel
theorem dX3_becomeLike_75 : decode cX3_becomeLike 75 = .ok (.iconst 0, 1) := by decide +kernel
theorem dX3_becomeLike_76 : decode cX3_becomeLike 76 = .ok (.bipush 12, 2) := by decide +kernel
theorem dX3_becomeLike_78 : decode cX3_becomeLike 78 = .ok (.invokestatic 73, 3) := by decide +kernel
theorem dX3_becomeLike_81 : decode cX3_becomeLike 81 = .ok (.aload_n 1, 1) := by decide +kernel
theorem dX3_becomeLike_82 : decode cX3_becomeLike 82 = .ok (.getfield 32, 3) := by decide +kernel
theorem dX3_becomeLike_85 : decode cX3_becomeLike 85 = .ok (.iconst 0, 1) := by decide +kernel
theorem dX3_becomeLike_86 : decode cX3_becomeLike 86 = .ok (.aload_n 0, 1) := by decide +kernel
theorem dX3_becomeLike_87 : decode cX3_becomeLike 87 = .ok (.getfield 32, 3) := by decide +kernel
theorem dX3_becomeLike_90 : decode cX3_becomeLike 90 = .ok (.iconst 0, 1) := by decide +kernel
theorem dX3_becomeLike_91 : decode cX3_becomeLike 91 = .ok (.bipush 12, 2) := by decide +kernel
theorem dX3_becomeLike_93 : decode cX3_becomeLike 93 = .ok (.invokestatic 73, 3) := by decide +kernel
theorem dX3_becomeLike_96 : decode cX3_becomeLike 96 = .ok (.aload_n 1, 1) := by decide +kernel
theorem dX3_becomeLike_97 : decode cX3_becomeLike 97 = .ok (.getfield 35, 3) := by decide +kernel
theorem dX3_becomeLike_100 : decode cX3_becomeLike 100 = .ok (.iconst 0, 1) := by decide +kernel
theorem dX3_becomeLike_101 : decode cX3_becomeLike 101 = .ok (.aload_n 0, 1) := by decide +kernel
theorem dX3_becomeLike_102 : decode cX3_becomeLike 102 = .ok (.getfield 35, 3) := by decide +kernel
theorem dX3_becomeLike_105 : decode cX3_becomeLike 105 = .ok (.iconst 0, 1) := by decide +kernel
theorem dX3_becomeLike_106 : decode cX3_becomeLike 106 = .ok (.bipush 12, 2) := by decide +kernel
theorem dX3_becomeLike_108 : decode cX3_becomeLike 108 = .ok (.invokestatic 73, 3) := by decide +kernel
theorem dX3_becomeLike_111 : decode cX3_becomeLike 111 = .ok (.return_, 1) := by decide +kernel
set_option maxRecDepth 20000 in
theorem ggX3_goThroughYear_X3_snowOrMelt : GoodIn wsX3_goThroughYear wsX3_snowOrMelt := goodIn_r _ [6, 7, 8, 9, 10, 11, 1, 12, 13, 14, 15, 16, 17, 18, 19, 20, 21, 22, 23, 5, 24, 25, 26, 27, 28, 29, 30, 31, 32, 33, 34, 35, 36, 37, 38, 39, 40, 41, 42, 43, 44, 45, 46, 47, 48, 49, 50, 51, 112, 113, 114, 115, 116, 117, 118, 119, 120, 121, 122, 123, 124, 125, 126, 127, 128, 129, 130, 131, 132, 133, 134] (by decide +kernel) (by decide +kernel)
set_option maxRecDepth 20000 in
theorem gX3_goThroughYear_X3_snowOrMelt : GoodIn wsX3_goThroughYear (wsV RX3 79 RX3 yX3_snowOrMelt wsX3_snowOrMelt) := goodIn_app (goodIn_of _ (by decide +kernel)) ggX3_goThroughYear_X3_snowOrMelt
set_option maxRecDepth 20000 in
theorem ggX3_goThroughYear_X3_flow : GoodIn wsX3_goThroughYear wsX3_flow := goodIn_r _ [55, 56, 57, 9, 58, 59, 60, 5, 61, 21, 22, 23, 24, 25, 10, 62, 63, 64, 65, 66, 19, 67, 68, 69, 17, 70, 71, 72, 28, 73, 26, 27, 29, 74, 75, 76, 38, 77, 46, 16, 18, 47, 48, 49, 50, 40, 51, 36, 37, 39, 41, 112, 113, 114, 115, 116, 117, 118, 119, 120, 121, 122, 123, 124, 125, 126, 127, 128, 129] (by decide +kernel) (by decide +kernel)
set_option maxRecDepth 20000 in
theorem gX3_goThroughYear_X3_flow : GoodIn wsX3_goThroughYear (wsV RX3 83 RX3 yX3_flow wsX3_flow) := goodIn_app (goodIn_of _ (by decide +kernel)) ggX3_goThroughYear_X3_flow
set_option maxRecDepth 20000 in
theorem ggX3_goThroughYear_X3_runOff : GoodIn wsX3_goThroughYear wsX3_runOff := goodIn_r _ [81, 12, 82, 19, 30, 31, 32, 5, 33, 25, 34, 83, 84, 85, 86, 9, 10, 112, 113, 114, 115, 116, 117, 118, 119, 120, 121, 122, 123, 124, 125, 126, 127, 130, 131, 132, 133, 134, 128, 129] (by decide +kernel) (by decide +kernel)
set_option maxRecDepth 20000 in
theorem gX3_goThroughYear_X3_runOff : GoodIn wsX3_goThroughYear (wsV RX3 86 RX3 yX3_runOff wsX3_runOff) := goodIn_app (goodIn_of _ (by decide +kernel)) ggX3_goThroughYear_X3_runOff
set_option maxRecDepth 20000 in
theorem ggX3_goThroughYear_X3_breakOut : GoodIn wsX3_goThroughYear wsX3_breakOut := goodIn_r _ [90, 91, 19, 12, 82, 92, 93, 94, 5, 95, 9, 10, 15, 16, 17, 18, 112, 113, 114, 115, 116, 117, 118, 119, 120, 121, 122, 123, 124, 125, 126, 127, 130, 131, 132, 133, 134, 128, 129] (by decide +kernel) (by decide +kernel)
set_option maxRecDepth 20000 in
theorem gX3_goThroughYear_X3_breakOut : GoodIn wsX3_goThroughYear (wsV RX3 89 RX3 yX3_breakOut wsX3_breakOut) := goodIn_app (goodIn_of _ (by decide +kernel)) ggX3_goThroughYear_X3_breakOut
set_option maxRecDepth 20000 in
theorem ggX3_goThroughYear_X3_calve : GoodIn wsX3_goThroughYear wsX3_calve := goodIn_r _ [99, 9, 10, 34, 25, 12, 100, 30, 31, 32, 5, 33, 42, 43, 44, 38, 45, 46, 16, 17, 18, 47, 48, 49, 50, 40, 51, 36, 37, 39, 41, 112, 113, 114, 115, 116, 117, 118, 119, 120, 121, 122, 123, 124, 125, 126, 127, 128, 129, 130, 131, 132, 133, 134] (by decide +kernel) (by decide +kernel)
set_option maxRecDepth 20000 in
theorem gX3_goThroughYear_X3_calve : GoodIn wsX3_goThroughYear (wsV RX3 92 RX3 yX3_calve wsX3_calve) := goodIn_app (goodIn_of _ (by decide +kernel)) ggX3_goThroughYear_X3_calve
set_option maxRecDepth 20000 in
theorem ggX3_goThroughYear_X3_moveBed : GoodIn wsX3_goThroughYear wsX3_moveBed := goodIn_r _ [104, 105, 9, 10, 25, 26, 27, 28, 29, 112, 113, 114, 115, 116, 117, 118, 119, 120, 121, 122, 123, 124, 125, 126, 127, 128, 129] (by decide +kernel) (by decide +kernel)
set_option maxRecDepth 20000 in
theorem gX3_goThroughYear_X3_moveBed : GoodIn wsX3_goThroughYear (wsV RX3 95 RX3 yX3_moveBed wsX3_moveBed) := goodIn_app (goodIn_of _ (by decide +kernel)) ggX3_goThroughYear_X3_moveBed
set_option maxRecDepth 20000 in
theorem ggX3_goThroughYear_X3_markFront : GoodIn wsX3_goThroughYear wsX3_markFront := goodIn_r _ [109, 110, 9, 10, 111, 112, 113, 114, 115, 116, 117, 118, 119, 120, 121, 122, 123, 124, 125, 126, 127, 128, 129] (by decide +kernel) (by decide +kernel)
set_option maxRecDepth 20000 in
theorem gX3_goThroughYear_X3_markFront : GoodIn wsX3_goThroughYear (wsV RX3 98 RX3 yX3_markFront wsX3_markFront) := goodIn_app (goodIn_of _ (by decide +kernel)) ggX3_goThroughYear_X3_markFront
theorem dX3_goThroughYear_0 : decode cX3_goThroughYear 0 = .ok (.aload_n 0, 1) := by decide +kernel
theorem dX3_goThroughYear_1 : decode cX3_goThroughYear 1 = .ok (.dup, 1) := by decide +kernel
theorem dX3_goThroughYear_2 : decode cX3_goThroughYear 2 = .ok (.getfield 54, 3) := by decide +kernel
theorem dX3_goThroughYear_5 : decode cX3_goThroughYear 5 = .ok (.iconst 1, 1) := by decide +kernel
theorem dX3_goThroughYear_6 : decode cX3_goThroughYear 6 = .ok (.iadd, 1) := by decide +kernel
theorem dX3_goThroughYear_7 : decode cX3_goThroughYear 7 = .ok (.putfield 54, 3) := by decide +kernel
theorem dX3_goThroughYear_10 : decode cX3_goThroughYear 10 = .ok (.iconst 0, 1) := by decide +kernel
theorem dX3_goThroughYear_11 : decode cX3_goThroughYear 11 = .ok (.istore_n 1, 1) := by decide +kernel
theorem dX3_goThroughYear_12 : decode cX3_goThroughYear 12 = .ok (.iload_n 1, 1) := by decide +kernel
theorem dX3_goThroughYear_13 : decode cX3_goThroughYear 13 = .ok (.bipush 12, 2) := by decide +kernel
theorem dX3_goThroughYear_15 : decode cX3_goThroughYear 15 = .ok (.if_icmp .ge 14, 3) := by decide +kernel
theorem dX3_goThroughYear_18 : decode cX3_goThroughYear 18 = .ok (.aload_n 0, 1) := by decide +kernel
theorem dX3_goThroughYear_19 : decode cX3_goThroughYear 19 = .ok (.iload_n 1, 1) := by decide +kernel
theorem dX3_goThroughYear_20 : decode cX3_goThroughYear 20 = .ok (.invokevirtual 79, 3) := by decide +kernel
theorem dX3_goThroughYear_23 : decode cX3_goThroughYear 23 = .ok (.iinc 1 1, 3) := by decide +kernel
theorem dX3_goThroughYear_26 : decode cX3_goThroughYear 26 = .ok (.goto (-14), 3) := by decide +kernel
theorem dX3_goThroughYear_29 : decode cX3_goThroughYear 29 = .ok (.aload_n 0, 1) := by decide +kernel
theorem dX3_goThroughYear_30 : decode cX3_goThroughYear 30 = .ok (.invokevirtual 83, 3) := by decide +kernel
theorem dX3_goThroughYear_33 : decode cX3_goThroughYear 33 = .ok (.iconst 0, 1) := by decide +kernel
theorem dX3_goThroughYear_34 : decode cX3_goThroughYear 34 = .ok (.istore_n 1, 1) := by decide +kernel
theorem dX3_goThroughYear_35 : decode cX3_goThroughYear 35 = .ok (.iload_n 1, 1) := by decide +kernel
theorem dX3_goThroughYear_36 : decode cX3_goThroughYear 36 = .ok (.bipush 12, 2) := by decide +kernel
theorem dX3_goThroughYear_38 : decode cX3_goThroughYear 38 = .ok (.if_icmp .ge 14, 3) := by decide +kernel
theorem dX3_goThroughYear_41 : decode cX3_goThroughYear 41 = .ok (.aload_n 0, 1) := by decide +kernel
theorem dX3_goThroughYear_42 : decode cX3_goThroughYear 42 = .ok (.iload_n 1, 1) := by decide +kernel
theorem dX3_goThroughYear_43 : decode cX3_goThroughYear 43 = .ok (.invokevirtual 86, 3) := by decide +kernel
theorem dX3_goThroughYear_46 : decode cX3_goThroughYear 46 = .ok (.iinc 1 1, 3) := by decide +kernel
theorem dX3_goThroughYear_49 : decode cX3_goThroughYear 49 = .ok (.goto (-14), 3) := by decide +kernel
theorem dX3_goThroughYear_52 : decode cX3_goThroughYear 52 = .ok (.iconst 0, 1) := by decide +kernel
theorem dX3_goThroughYear_53 : decode cX3_goThroughYear 53 = .ok (.istore_n 1, 1) := by decide +kernel
theorem dX3_goThroughYear_54 : decode cX3_goThroughYear 54 = .ok (.iload_n 1, 1) := by decide +kernel
theorem dX3_goThroughYear_55 : decode cX3_goThroughYear 55 = .ok (.bipush 12, 2) := by decide +kernel
theorem dX3_goThroughYear_57 : decode cX3_goThroughYear 57 = .ok (.if_icmp .ge 14, 3) := by decide +kernel
theorem dX3_goThroughYear_60 : decode cX3_goThroughYear 60 = .ok (.aload_n 0, 1) := by decide +kernel
theorem dX3_goThroughYear_61 : decode cX3_goThroughYear 61 = .ok (.iload_n 1, 1) := by decide +kernel
theorem dX3_goThroughYear_62 : decode cX3_goThroughYear 62 = .ok (.invokevirtual 89, 3) := by decide +kernel
theorem dX3_goThroughYear_65 : decode cX3_goThroughYear 65 = .ok (.iinc 1 1, 3) := by decide +kernel
theorem dX3_goThroughYear_68 : decode cX3_goThroughYear 68 = .ok (.goto (-14), 3) := by decide +kernel
theorem dX3_goThroughYear_71 : decode cX3_goThroughYear 71 = .ok (.aload_n 0, 1) := by decide +kernel
theorem dX3_goThroughYear_72 : decode cX3_goThroughYear 72 = .ok (.invokevirtual 92, 3) := by decide +kernel
theorem dX3_goThroughYear_75 : decode cX3_goThroughYear 75 = .ok (.iconst 0, 1) := by decide +kernel
theorem dX3_goThroughYear_76 : decode cX3_goThroughYear 76 = .ok (.istore_n 1, 1) := by decide +kernel
theorem dX3_goThroughYear_77 : decode cX3_goThroughYear 77 = .ok (.iload_n 1, 1) := by decide +kernel
theorem dX3_goThroughYear_78 : decode cX3_goThroughYear 78 = .ok (.bipush 12, 2) := by decide +kernel
theorem dX3_goThroughYear_80 : decode cX3_goThroughYear 80 = .ok (.if_icmp .ge 14, 3) := by decide +kernel
theorem dX3_goThroughYear_83 : decode cX3_goThroughYear 83 = .ok (.aload_n 0, 1) := by decide +kernel
theorem dX3_goThroughYear_84 : decode cX3_goThroughYear 84 = .ok (.iload_n 1, 1) := by decide +kernel
theorem dX3_goThroughYear_85 : decode cX3_goThroughYear 85 = .ok (.invokevirtual 95, 3) := by decide +kernel
theorem dX3_goThroughYear_88 : decode cX3_goThroughYear 88 = .ok (.iinc 1 1, 3) := by decide +kernel
theorem dX3_goThroughYear_91 : decode cX3_goThroughYear 91 = .ok (.goto (-14), 3) := by decide +kernel
theorem dX3_goThroughYear_94 : decode cX3_goThroughYear 94 = .ok (.aload_n 0, 1) := by decide +kernel
theorem dX3_goThroughYear_95 : decode cX3_goThroughYear 95 = .ok (.invokevirtual 98, 3) := by decide +kernel
theorem dX3_goThroughYear_98 : decode cX3_goThroughYear 98 = .ok (.return_, 1) := by decide +kernel
set_option maxRecDepth 20000 in
theorem ggX3_tellOf_X3_surface : GoodIn wsX3_tellOf wsX3_surface := goodIn_r _ [12, 1, 2, 3, 31, 32, 33, 34, 35, 36, 37, 38, 39, 40, 41, 42, 43, 44, 45, 46, 47, 48] (by decide +kernel) (by decide +kernel)
set_option maxRecDepth 20000 in
theorem gX3_tellOf_X3_surface : GoodIn wsX3_tellOf (wsV RX3 104 RX3 yX3_surface wsX3_surface) := goodIn_app (goodIn_of _ (by decide +kernel)) ggX3_tellOf_X3_surface
set_option maxRecDepth 20000 in
theorem ggX3_tellOf_X3_hasCrevasse : GoodIn wsX3_tellOf wsX3_hasCrevasse := goodIn_r _ [16, 17, 18, 19, 20, 21, 31, 32, 33, 34, 35, 36, 37, 38, 39, 40, 41, 42, 43, 44, 45, 46] (by decide +kernel) (by decide +kernel)
set_option maxRecDepth 20000 in
theorem gX3_tellOf_X3_hasCrevasse : GoodIn wsX3_tellOf (wsV RX3 108 RX3 yX3_hasCrevasse wsX3_hasCrevasse) := goodIn_app (goodIn_of _ (by decide +kernel)) ggX3_tellOf_X3_hasCrevasse
set_option maxRecDepth 20000 in
theorem ggX3_tellOf_X3_standsInSea : GoodIn wsX3_tellOf wsX3_standsInSea := goodIn_r _ [25, 1, 26, 31, 32, 33, 34, 35, 36, 37, 38, 39, 40, 41, 42, 43, 44, 45, 46] (by decide +kernel) (by decide +kernel)
set_option maxRecDepth 20000 in
theorem gX3_tellOf_X3_standsInSea : GoodIn wsX3_tellOf (wsV RX3 112 RX3 yX3_standsInSea wsX3_standsInSea) := goodIn_app (goodIn_of _ (by decide +kernel)) ggX3_tellOf_X3_standsInSea
set_option maxRecDepth 20000 in
theorem ggX3_tellOf_X3_potential : GoodIn wsX3_tellOf wsX3_potential := goodIn_r _ [30, 1, 2, 3, 31, 32, 33, 34, 35, 36, 37, 38, 39, 40, 41, 42, 43, 44, 45, 46, 47, 48] (by decide +kernel) (by decide +kernel)
set_option maxRecDepth 20000 in
theorem gX3_tellOf_X3_potential : GoodIn wsX3_tellOf (wsV RX3 115 RX3 yX3_potential wsX3_potential) := goodIn_app (goodIn_of _ (by decide +kernel)) ggX3_tellOf_X3_potential
theorem dX3_tellOf_0 : decode cX3_tellOf 0 = .ok (.iload_n 2, 1) := by decide +kernel
theorem dX3_tellOf_1 : decode cX3_tellOf 1 = .ok (.tableswitch 147 0 8 #[51, 58, 68, 75, 81, 88, 102, 126, 140], 51) := by decide +kernel
theorem dX3_tellOf_52 : decode cX3_tellOf 52 = .ok (.aload_n 0, 1) := by decide +kernel
theorem dX3_tellOf_53 : decode cX3_tellOf 53 = .ok (.getfield 25, 3) := by decide +kernel
theorem dX3_tellOf_56 : decode cX3_tellOf 56 = .ok (.iload_n 1, 1) := by decide +kernel
theorem dX3_tellOf_57 : decode cX3_tellOf 57 = .ok (.iaload, 1) := by decide +kernel
theorem dX3_tellOf_58 : decode cX3_tellOf 58 = .ok (.ireturn, 1) := by decide +kernel
theorem dX3_tellOf_59 : decode cX3_tellOf 59 = .ok (.aload_n 0, 1) := by decide +kernel
theorem dX3_tellOf_60 : decode cX3_tellOf 60 = .ok (.getfield 12, 3) := by decide +kernel
theorem dX3_tellOf_63 : decode cX3_tellOf 63 = .ok (.getfield 101, 3) := by decide +kernel
theorem dX3_tellOf_66 : decode cX3_tellOf 66 = .ok (.iload_n 1, 1) := by decide +kernel
theorem dX3_tellOf_67 : decode cX3_tellOf 67 = .ok (.iaload, 1) := by decide +kernel
theorem dX3_tellOf_68 : decode cX3_tellOf 68 = .ok (.ireturn, 1) := by decide +kernel
theorem dX3_tellOf_69 : decode cX3_tellOf 69 = .ok (.aload_n 0, 1) := by decide +kernel
theorem dX3_tellOf_70 : decode cX3_tellOf 70 = .ok (.getfield 32, 3) := by decide +kernel
theorem dX3_tellOf_73 : decode cX3_tellOf 73 = .ok (.iload_n 1, 1) := by decide +kernel
theorem dX3_tellOf_74 : decode cX3_tellOf 74 = .ok (.iaload, 1) := by decide +kernel
theorem dX3_tellOf_75 : decode cX3_tellOf 75 = .ok (.ireturn, 1) := by decide +kernel
theorem dX3_tellOf_76 : decode cX3_tellOf 76 = .ok (.aload_n 0, 1) := by decide +kernel
theorem dX3_tellOf_77 : decode cX3_tellOf 77 = .ok (.iload_n 1, 1) := by decide +kernel
theorem dX3_tellOf_78 : decode cX3_tellOf 78 = .ok (.invokevirtual 104, 3) := by decide +kernel
theorem dX3_tellOf_81 : decode cX3_tellOf 81 = .ok (.ireturn, 1) := by decide +kernel
theorem dX3_tellOf_82 : decode cX3_tellOf 82 = .ok (.aload_n 0, 1) := by decide +kernel
theorem dX3_tellOf_83 : decode cX3_tellOf 83 = .ok (.getfield 35, 3) := by decide +kernel
theorem dX3_tellOf_86 : decode cX3_tellOf 86 = .ok (.iload_n 1, 1) := by decide +kernel
theorem dX3_tellOf_87 : decode cX3_tellOf 87 = .ok (.iaload, 1) := by decide +kernel
theorem dX3_tellOf_88 : decode cX3_tellOf 88 = .ok (.ireturn, 1) := by decide +kernel
theorem dX3_tellOf_89 : decode cX3_tellOf 89 = .ok (.aload_n 0, 1) := by decide +kernel
theorem dX3_tellOf_90 : decode cX3_tellOf 90 = .ok (.iload_n 1, 1) := by decide +kernel
theorem dX3_tellOf_91 : decode cX3_tellOf 91 = .ok (.invokevirtual 108, 3) := by decide +kernel
theorem dX3_tellOf_94 : decode cX3_tellOf 94 = .ok (.ifCond .eq 7, 3) := by decide +kernel
theorem dX3_tellOf_97 : decode cX3_tellOf 97 = .ok (.iconst 1, 1) := by decide +kernel
theorem dX3_tellOf_98 : decode cX3_tellOf 98 = .ok (.goto 4, 3) := by decide +kernel
theorem dX3_tellOf_101 : decode cX3_tellOf 101 = .ok (.iconst 0, 1) := by decide +kernel
theorem dX3_tellOf_102 : decode cX3_tellOf 102 = .ok (.ireturn, 1) := by decide +kernel
theorem dX3_tellOf_103 : decode cX3_tellOf 103 = .ok (.aload_n 0, 1) := by decide +kernel
theorem dX3_tellOf_104 : decode cX3_tellOf 104 = .ok (.iload_n 1, 1) := by decide +kernel
theorem dX3_tellOf_105 : decode cX3_tellOf 105 = .ok (.invokevirtual 108, 3) := by decide +kernel
theorem dX3_tellOf_108 : decode cX3_tellOf 108 = .ok (.ifCond .eq 17, 3) := by decide +kernel
theorem dX3_tellOf_111 : decode cX3_tellOf 111 = .ok (.aload_n 0, 1) := by decide +kernel
theorem dX3_tellOf_112 : decode cX3_tellOf 112 = .ok (.getfield 38, 3) := by decide +kernel
theorem dX3_tellOf_115 : decode cX3_tellOf 115 = .ok (.iload_n 1, 1) := by decide +kernel
theorem dX3_tellOf_116 : decode cX3_tellOf 116 = .ok (.iaload, 1) := by decide +kernel
theorem dX3_tellOf_117 : decode cX3_tellOf 117 = .ok (.iconst 3, 1) := by decide +kernel
theorem dX3_tellOf_118 : decode cX3_tellOf 118 = .ok (.if_icmp .lt 7, 3) := by decide +kernel
theorem dX3_tellOf_121 : decode cX3_tellOf 121 = .ok (.iconst 1, 1) := by decide +kernel
theorem dX3_tellOf_122 : decode cX3_tellOf 122 = .ok (.goto 4, 3) := by decide +kernel
theorem dX3_tellOf_125 : decode cX3_tellOf 125 = .ok (.iconst 0, 1) := by decide +kernel
theorem dX3_tellOf_126 : decode cX3_tellOf 126 = .ok (.ireturn, 1) := by decide +kernel
theorem dX3_tellOf_127 : decode cX3_tellOf 127 = .ok (.aload_n 0, 1) := by decide +kernel
theorem dX3_tellOf_128 : decode cX3_tellOf 128 = .ok (.iload_n 1, 1) := by decide +kernel
theorem dX3_tellOf_129 : decode cX3_tellOf 129 = .ok (.invokevirtual 112, 3) := by decide +kernel
theorem dX3_tellOf_132 : decode cX3_tellOf 132 = .ok (.ifCond .eq 7, 3) := by decide +kernel
theorem dX3_tellOf_135 : decode cX3_tellOf 135 = .ok (.iconst 1, 1) := by decide +kernel
theorem dX3_tellOf_136 : decode cX3_tellOf 136 = .ok (.goto 4, 3) := by decide +kernel
theorem dX3_tellOf_139 : decode cX3_tellOf 139 = .ok (.iconst 0, 1) := by decide +kernel
theorem dX3_tellOf_140 : decode cX3_tellOf 140 = .ok (.ireturn, 1) := by decide +kernel
theorem dX3_tellOf_141 : decode cX3_tellOf 141 = .ok (.aload_n 0, 1) := by decide +kernel
theorem dX3_tellOf_142 : decode cX3_tellOf 142 = .ok (.getfield 29, 3) := by decide +kernel
theorem dX3_tellOf_145 : decode cX3_tellOf 145 = .ok (.iload_n 1, 1) := by decide +kernel
theorem dX3_tellOf_146 : decode cX3_tellOf 146 = .ok (.iaload, 1) := by decide +kernel
theorem dX3_tellOf_147 : decode cX3_tellOf 147 = .ok (.ireturn, 1) := by decide +kernel
theorem dX3_tellOf_148 : decode cX3_tellOf 148 = .ok (.aload_n 0, 1) := by decide +kernel
theorem dX3_tellOf_149 : decode cX3_tellOf 149 = .ok (.iload_n 1, 1) := by decide +kernel
theorem dX3_tellOf_150 : decode cX3_tellOf 150 = .ok (.invokevirtual 115, 3) := by decide +kernel
theorem dX3_tellOf_153 : decode cX3_tellOf 153 = .ok (.ireturn, 1) := by decide +kernel
theorem dX3_allWater_0 : decode cX3_allWater 0 = .ok (.iconst 0, 1) := by decide +kernel
theorem dX3_allWater_1 : decode cX3_allWater 1 = .ok (.istore_n 1, 1) := by decide +kernel
theorem dX3_allWater_2 : decode cX3_allWater 2 = .ok (.iconst 0, 1) := by decide +kernel
theorem dX3_allWater_3 : decode cX3_allWater 3 = .ok (.istore_n 2, 1) := by decide +kernel
theorem dX3_allWater_4 : decode cX3_allWater 4 = .ok (.iload_n 2, 1) := by decide +kernel
theorem dX3_allWater_5 : decode cX3_allWater 5 = .ok (.bipush 12, 2) := by decide +kernel
theorem dX3_allWater_7 : decode cX3_allWater 7 = .ok (.if_icmp .ge 18, 3) := by decide +kernel
theorem dX3_allWater_10 : decode cX3_allWater 10 = .ok (.iload_n 1, 1) := by decide +kernel
theorem dX3_allWater_11 : decode cX3_allWater 11 = .ok (.aload_n 0, 1) := by decide +kernel
theorem dX3_allWater_12 : decode cX3_allWater 12 = .ok (.getfield 32, 3) := by decide +kernel
theorem dX3_allWater_15 : decode cX3_allWater 15 = .ok (.iload_n 2, 1) := by decide +kernel
theorem dX3_allWater_16 : decode cX3_allWater 16 = .ok (.iaload, 1) := by decide +kernel
theorem dX3_allWater_17 : decode cX3_allWater 17 = .ok (.iadd, 1) := by decide +kernel
theorem dX3_allWater_18 : decode cX3_allWater 18 = .ok (.istore_n 1, 1) := by decide +kernel
theorem dX3_allWater_19 : decode cX3_allWater 19 = .ok (.iinc 2 1, 3) := by decide +kernel
theorem dX3_allWater_22 : decode cX3_allWater 22 = .ok (.goto (-18), 3) := by decide +kernel
theorem dX3_allWater_25 : decode cX3_allWater 25 = .ok (.iload_n 1, 1) := by decide +kernel
theorem dX3_allWater_26 : decode cX3_allWater 26 = .ok (.ireturn, 1) := by decide +kernel
theorem dX3_surface_0 : decode cX3_surface 0 = .ok (.aload_n 0, 1) := by decide +kernel
theorem dX3_surface_1 : decode cX3_surface 1 = .ok (.getfield 25, 3) := by decide +kernel
theorem dX3_surface_4 : decode cX3_surface 4 = .ok (.iload_n 1, 1) := by decide +kernel
theorem dX3_surface_5 : decode cX3_surface 5 = .ok (.iaload, 1) := by decide +kernel
theorem dX3_surface_6 : decode cX3_surface 6 = .ok (.aload_n 0, 1) := by decide +kernel
theorem dX3_surface_7 : decode cX3_surface 7 = .ok (.getfield 12, 3) := by decide +kernel
theorem dX3_surface_10 : decode cX3_surface 10 = .ok (.getfield 101, 3) := by decide +kernel
theorem dX3_surface_13 : decode cX3_surface 13 = .ok (.iload_n 1, 1) := by decide +kernel
theorem dX3_surface_14 : decode cX3_surface 14 = .ok (.iaload, 1) := by decide +kernel
theorem dX3_surface_15 : decode cX3_surface 15 = .ok (.iadd, 1) := by decide +kernel
theorem dX3_surface_16 : decode cX3_surface 16 = .ok (.ireturn, 1) := by decide +kernel
theorem dX3_potential_0 : decode cX3_potential 0 = .ok (.bipush 10, 2) := by decide +kernel
theorem dX3_potential_2 : decode cX3_potential 2 = .ok (.aload_n 0, 1) := by decide +kernel
theorem dX3_potential_3 : decode cX3_potential 3 = .ok (.getfield 25, 3) := by decide +kernel
theorem dX3_potential_6 : decode cX3_potential 6 = .ok (.iload_n 1, 1) := by decide +kernel
theorem dX3_potential_7 : decode cX3_potential 7 = .ok (.iaload, 1) := by decide +kernel
theorem dX3_potential_8 : decode cX3_potential 8 = .ok (.imul, 1) := by decide +kernel
theorem dX3_potential_9 : decode cX3_potential 9 = .ok (.bipush 9, 2) := by decide +kernel
theorem dX3_potential_11 : decode cX3_potential 11 = .ok (.aload_n 0, 1) := by decide +kernel
theorem dX3_potential_12 : decode cX3_potential 12 = .ok (.getfield 12, 3) := by decide +kernel
theorem dX3_potential_15 : decode cX3_potential 15 = .ok (.getfield 101, 3) := by decide +kernel
theorem dX3_potential_18 : decode cX3_potential 18 = .ok (.iload_n 1, 1) := by decide +kernel
theorem dX3_potential_19 : decode cX3_potential 19 = .ok (.iaload, 1) := by decide +kernel
theorem dX3_potential_20 : decode cX3_potential 20 = .ok (.imul, 1) := by decide +kernel
theorem dX3_potential_21 : decode cX3_potential 21 = .ok (.iadd, 1) := by decide +kernel
theorem dX3_potential_22 : decode cX3_potential 22 = .ok (.ireturn, 1) := by decide +kernel
theorem dX3_standsInSea_0 : decode cX3_standsInSea 0 = .ok (.aload_n 0, 1) := by decide +kernel
theorem dX3_standsInSea_1 : decode cX3_standsInSea 1 = .ok (.getfield 25, 3) := by decide +kernel
theorem dX3_standsInSea_4 : decode cX3_standsInSea 4 = .ok (.iload_n 1, 1) := by decide +kernel
theorem dX3_standsInSea_5 : decode cX3_standsInSea 5 = .ok (.iaload, 1) := by decide +kernel
theorem dX3_standsInSea_6 : decode cX3_standsInSea 6 = .ok (.aload_n 0, 1) := by decide +kernel
theorem dX3_standsInSea_7 : decode cX3_standsInSea 7 = .ok (.getfield 57, 3) := by decide +kernel
theorem dX3_standsInSea_10 : decode cX3_standsInSea 10 = .ok (.if_icmp .ge 7, 3) := by decide +kernel
theorem dX3_standsInSea_13 : decode cX3_standsInSea 13 = .ok (.iconst 1, 1) := by decide +kernel
theorem dX3_standsInSea_14 : decode cX3_standsInSea 14 = .ok (.goto 4, 3) := by decide +kernel
theorem dX3_standsInSea_17 : decode cX3_standsInSea 17 = .ok (.iconst 0, 1) := by decide +kernel
theorem dX3_standsInSea_18 : decode cX3_standsInSea 18 = .ok (.ireturn, 1) := by decide +kernel
theorem dX3_hasCrevasse_0 : decode cX3_hasCrevasse 0 = .ok (.aload_n 0, 1) := by decide +kernel
theorem dX3_hasCrevasse_1 : decode cX3_hasCrevasse 1 = .ok (.getfield 41, 3) := by decide +kernel
theorem dX3_hasCrevasse_4 : decode cX3_hasCrevasse 4 = .ok (.iload_n 1, 1) := by decide +kernel
theorem dX3_hasCrevasse_5 : decode cX3_hasCrevasse 5 = .ok (.iaload, 1) := by decide +kernel
theorem dX3_hasCrevasse_6 : decode cX3_hasCrevasse 6 = .ok (.invokestatic 118, 3) := by decide +kernel
theorem dX3_hasCrevasse_9 : decode cX3_hasCrevasse 9 = .ok (.iconst 5, 1) := by decide +kernel
theorem dX3_hasCrevasse_10 : decode cX3_hasCrevasse 10 = .ok (.if_icmp .lt 7, 3) := by decide +kernel
theorem dX3_hasCrevasse_13 : decode cX3_hasCrevasse 13 = .ok (.iconst 1, 1) := by decide +kernel
theorem dX3_hasCrevasse_14 : decode cX3_hasCrevasse 14 = .ok (.goto 4, 3) := by decide +kernel
theorem dX3_hasCrevasse_17 : decode cX3_hasCrevasse 17 = .ok (.iconst 0, 1) := by decide +kernel
theorem dX3_hasCrevasse_18 : decode cX3_hasCrevasse 18 = .ok (.ireturn, 1) := by decide +kernel
set_option maxRecDepth 20000 in
theorem ggX3_snowOrMelt_X3_surface : GoodIn wsX3_snowOrMelt wsX3_surface := goodIn_r _ [20, 21, 3, 4, 48, 49, 50, 51, 52, 53, 54, 55, 56, 57, 58, 59, 60, 61, 62, 63, 64, 65] (by decide +kernel) (by decide +kernel)
set_option maxRecDepth 20000 in
theorem gX3_snowOrMelt_X3_surface : GoodIn wsX3_snowOrMelt (wsV RX3 104 RX3 yX3_surface wsX3_surface) := goodIn_app (goodIn_of _ (by decide +kernel)) ggX3_snowOrMelt_X3_surface
set_option maxRecDepth 20000 in
theorem ggX3_snowOrMelt_J9_floorDiv_7cf53 : GoodIn wsX3_snowOrMelt wsJ9_floorDiv_7cf53 := goodIn_r _ [25] (by decide +kernel) (by decide +kernel)
set_option maxRecDepth 20000 in
theorem gX3_snowOrMelt_J9_floorDiv_7cf53 : GoodIn wsX3_snowOrMelt (va_wsS RX3 123 yJ9_floorDiv_7cf53 wsJ9_floorDiv_7cf53) := goodIn_app (goodIn_of _ (by decide +kernel)) ggX3_snowOrMelt_J9_floorDiv_7cf53
set_option maxRecDepth 20000 in
theorem ggX3_snowOrMelt_X3_standsInSea : GoodIn wsX3_snowOrMelt wsX3_standsInSea := goodIn_r _ [29, 21, 30, 48, 49, 50, 51, 52, 53, 54, 55, 56, 57, 58, 59, 60, 61, 62, 63] (by decide +kernel) (by decide +kernel)
set_option maxRecDepth 20000 in
theorem gX3_snowOrMelt_X3_standsInSea : GoodIn wsX3_snowOrMelt (wsV RX3 112 RX3 yX3_standsInSea wsX3_standsInSea) := goodIn_app (goodIn_of _ (by decide +kernel)) ggX3_snowOrMelt_X3_standsInSea
set_option maxRecDepth 20000 in
theorem ggX3_snowOrMelt_X1_lay : GoodIn wsX3_snowOrMelt wsX1_lay := goodIn_r _ [35, 36, 37, 64, 65] (by decide +kernel) (by decide +kernel)
set_option maxRecDepth 20000 in
theorem gX3_snowOrMelt_X1_lay : GoodIn wsX3_snowOrMelt (wsV RX3 127 RX1 yX1_lay wsX1_lay) := goodIn_app (goodIn_of _ (by decide +kernel)) ggX3_snowOrMelt_X1_lay
set_option maxRecDepth 20000 in
theorem ggX3_snowOrMelt_X1_takeLatest : GoodIn wsX3_snowOrMelt wsX1_takeLatest := goodIn_r _ [41, 42, 11, 12, 13, 43, 44, 45, 34, 46, 36, 47, 32, 33, 35, 37, 64, 65] (by decide +kernel) (by decide +kernel)
set_option maxRecDepth 20000 in
theorem gX3_snowOrMelt_X1_takeLatest : GoodIn wsX3_snowOrMelt (wsV RX3 137 RX1 yX1_takeLatest wsX1_takeLatest) := goodIn_app (goodIn_of _ (by decide +kernel)) ggX3_snowOrMelt_X1_takeLatest
theorem dX3_snowOrMelt_0 : decode cX3_snowOrMelt 0 = .ok (.aload_n 0, 1) := by decide +kernel
theorem dX3_snowOrMelt_1 : decode cX3_snowOrMelt 1 = .ok (.getfield 60, 3) := by decide +kernel
theorem dX3_snowOrMelt_4 : decode cX3_snowOrMelt 4 = .ok (.aload_n 0, 1) := by decide +kernel
theorem dX3_snowOrMelt_5 : decode cX3_snowOrMelt 5 = .ok (.iload_n 1, 1) := by decide +kernel
theorem dX3_snowOrMelt_6 : decode cX3_snowOrMelt 6 = .ok (.invokevirtual 104, 3) := by decide +kernel
theorem dX3_snowOrMelt_9 : decode cX3_snowOrMelt 9 = .ok (.iconst 2, 1) := by decide +kernel
theorem dX3_snowOrMelt_10 : decode cX3_snowOrMelt 10 = .ok (.invokestatic 123, 3) := by decide +kernel
theorem dX3_snowOrMelt_13 : decode cX3_snowOrMelt 13 = .ok (.isub, 1) := by decide +kernel
theorem dX3_snowOrMelt_14 : decode cX3_snowOrMelt 14 = .ok (.istore_n 2, 1) := by decide +kernel
theorem dX3_snowOrMelt_15 : decode cX3_snowOrMelt 15 = .ok (.aload_n 0, 1) := by decide +kernel
theorem dX3_snowOrMelt_16 : decode cX3_snowOrMelt 16 = .ok (.getfield 38, 3) := by decide +kernel
theorem dX3_snowOrMelt_19 : decode cX3_snowOrMelt 19 = .ok (.iload_n 1, 1) := by decide +kernel
theorem dX3_snowOrMelt_20 : decode cX3_snowOrMelt 20 = .ok (.iconst 0, 1) := by decide +kernel
theorem dX3_snowOrMelt_21 : decode cX3_snowOrMelt 21 = .ok (.iastore, 1) := by decide +kernel
theorem dX3_snowOrMelt_22 : decode cX3_snowOrMelt 22 = .ok (.iload_n 2, 1) := by decide +kernel
theorem dX3_snowOrMelt_23 : decode cX3_snowOrMelt 23 = .ok (.ifCond .ge 68, 3) := by decide +kernel
theorem dX3_snowOrMelt_26 : decode cX3_snowOrMelt 26 = .ok (.aload_n 0, 1) := by decide +kernel
theorem dX3_snowOrMelt_27 : decode cX3_snowOrMelt 27 = .ok (.getfield 12, 3) := by decide +kernel
theorem dX3_snowOrMelt_30 : decode cX3_snowOrMelt 30 = .ok (.getfield 101, 3) := by decide +kernel
theorem dX3_snowOrMelt_33 : decode cX3_snowOrMelt 33 = .ok (.iload_n 1, 1) := by decide +kernel
theorem dX3_snowOrMelt_34 : decode cX3_snowOrMelt 34 = .ok (.iaload, 1) := by decide +kernel
theorem dX3_snowOrMelt_35 : decode cX3_snowOrMelt 35 = .ok (.ifCond .gt 11, 3) := by decide +kernel
theorem dX3_snowOrMelt_38 : decode cX3_snowOrMelt 38 = .ok (.aload_n 0, 1) := by decide +kernel
theorem dX3_snowOrMelt_39 : decode cX3_snowOrMelt 39 = .ok (.iload_n 1, 1) := by decide +kernel
theorem dX3_snowOrMelt_40 : decode cX3_snowOrMelt 40 = .ok (.invokevirtual 112, 3) := by decide +kernel
theorem dX3_snowOrMelt_43 : decode cX3_snowOrMelt 43 = .ok (.ifCond .ne 48, 3) := by decide +kernel
theorem dX3_snowOrMelt_46 : decode cX3_snowOrMelt 46 = .ok (.aload_n 0, 1) := by decide +kernel
theorem dX3_snowOrMelt_47 : decode cX3_snowOrMelt 47 = .ok (.getfield 38, 3) := by decide +kernel
theorem dX3_snowOrMelt_50 : decode cX3_snowOrMelt 50 = .ok (.iload_n 1, 1) := by decide +kernel
theorem dX3_snowOrMelt_51 : decode cX3_snowOrMelt 51 = .ok (.aload_n 0, 1) := by decide +kernel
theorem dX3_snowOrMelt_52 : decode cX3_snowOrMelt 52 = .ok (.getfield 63, 3) := by decide +kernel
theorem dX3_snowOrMelt_55 : decode cX3_snowOrMelt 55 = .ok (.iastore, 1) := by decide +kernel
theorem dX3_snowOrMelt_56 : decode cX3_snowOrMelt 56 = .ok (.aload_n 0, 1) := by decide +kernel
theorem dX3_snowOrMelt_57 : decode cX3_snowOrMelt 57 = .ok (.getfield 12, 3) := by decide +kernel
theorem dX3_snowOrMelt_60 : decode cX3_snowOrMelt 60 = .ok (.iload_n 1, 1) := by decide +kernel
theorem dX3_snowOrMelt_61 : decode cX3_snowOrMelt 61 = .ok (.aload_n 0, 1) := by decide +kernel
theorem dX3_snowOrMelt_62 : decode cX3_snowOrMelt 62 = .ok (.getfield 54, 3) := by decide +kernel
theorem dX3_snowOrMelt_65 : decode cX3_snowOrMelt 65 = .ok (.aload_n 0, 1) := by decide +kernel
theorem dX3_snowOrMelt_66 : decode cX3_snowOrMelt 66 = .ok (.getfield 63, 3) := by decide +kernel
theorem dX3_snowOrMelt_69 : decode cX3_snowOrMelt 69 = .ok (.invokevirtual 127, 3) := by decide +kernel
theorem dX3_snowOrMelt_72 : decode cX3_snowOrMelt 72 = .ok (.aload_n 0, 1) := by decide +kernel
theorem dX3_snowOrMelt_73 : decode cX3_snowOrMelt 73 = .ok (.getfield 21, 3) := by decide +kernel
theorem dX3_snowOrMelt_76 : decode cX3_snowOrMelt 76 = .ok (.dup, 1) := by decide +kernel
theorem dX3_snowOrMelt_77 : decode cX3_snowOrMelt 77 = .ok (.getfield 131, 3) := by decide +kernel
theorem dX3_snowOrMelt_80 : decode cX3_snowOrMelt 80 = .ok (.aload_n 0, 1) := by decide +kernel
theorem dX3_snowOrMelt_81 : decode cX3_snowOrMelt 81 = .ok (.getfield 63, 3) := by decide +kernel
theorem dX3_snowOrMelt_84 : decode cX3_snowOrMelt 84 = .ok (.iadd, 1) := by decide +kernel
theorem dX3_snowOrMelt_85 : decode cX3_snowOrMelt 85 = .ok (.putfield 131, 3) := by decide +kernel
theorem dX3_snowOrMelt_88 : decode cX3_snowOrMelt 88 = .ok (.goto 63, 3) := by decide +kernel
theorem dX3_snowOrMelt_91 : decode cX3_snowOrMelt 91 = .ok (.iload_n 2, 1) := by decide +kernel
theorem dX3_snowOrMelt_92 : decode cX3_snowOrMelt 92 = .ok (.ifCond .le 59, 3) := by decide +kernel
theorem dX3_snowOrMelt_95 : decode cX3_snowOrMelt 95 = .ok (.iload_n 2, 1) := by decide +kernel
theorem dX3_snowOrMelt_96 : decode cX3_snowOrMelt 96 = .ok (.aload_n 0, 1) := by decide +kernel
theorem dX3_snowOrMelt_97 : decode cX3_snowOrMelt 97 = .ok (.getfield 66, 3) := by decide +kernel
theorem dX3_snowOrMelt_100 : decode cX3_snowOrMelt 100 = .ok (.imul, 1) := by decide +kernel
theorem dX3_snowOrMelt_101 : decode cX3_snowOrMelt 101 = .ok (.bipush 10, 2) := by decide +kernel
theorem dX3_snowOrMelt_103 : decode cX3_snowOrMelt 103 = .ok (.invokestatic 123, 3) := by decide +kernel
theorem dX3_snowOrMelt_106 : decode cX3_snowOrMelt 106 = .ok (.aload_n 0, 1) := by decide +kernel
theorem dX3_snowOrMelt_107 : decode cX3_snowOrMelt 107 = .ok (.getfield 12, 3) := by decide +kernel
theorem dX3_snowOrMelt_110 : decode cX3_snowOrMelt 110 = .ok (.getfield 101, 3) := by decide +kernel
theorem dX3_snowOrMelt_113 : decode cX3_snowOrMelt 113 = .ok (.iload_n 1, 1) := by decide +kernel
theorem dX3_snowOrMelt_114 : decode cX3_snowOrMelt 114 = .ok (.iaload, 1) := by decide +kernel
theorem dX3_snowOrMelt_115 : decode cX3_snowOrMelt 115 = .ok (.invokestatic 134, 3) := by decide +kernel
theorem dX3_snowOrMelt_118 : decode cX3_snowOrMelt 118 = .ok (.istore_n 3, 1) := by decide +kernel
theorem dX3_snowOrMelt_119 : decode cX3_snowOrMelt 119 = .ok (.aload_n 0, 1) := by decide +kernel
theorem dX3_snowOrMelt_120 : decode cX3_snowOrMelt 120 = .ok (.getfield 12, 3) := by decide +kernel
theorem dX3_snowOrMelt_123 : decode cX3_snowOrMelt 123 = .ok (.iload_n 1, 1) := by decide +kernel
theorem dX3_snowOrMelt_124 : decode cX3_snowOrMelt 124 = .ok (.iload_n 3, 1) := by decide +kernel
theorem dX3_snowOrMelt_125 : decode cX3_snowOrMelt 125 = .ok (.invokevirtual 137, 3) := by decide +kernel
theorem dX3_snowOrMelt_128 : decode cX3_snowOrMelt 128 = .ok (.aload_n 0, 1) := by decide +kernel
theorem dX3_snowOrMelt_129 : decode cX3_snowOrMelt 129 = .ok (.getfield 32, 3) := by decide +kernel
theorem dX3_snowOrMelt_132 : decode cX3_snowOrMelt 132 = .ok (.iload_n 1, 1) := by decide +kernel
theorem dX3_snowOrMelt_133 : decode cX3_snowOrMelt 133 = .ok (.dup2, 1) := by decide +kernel
theorem dX3_snowOrMelt_134 : decode cX3_snowOrMelt 134 = .ok (.iaload, 1) := by decide +kernel
theorem dX3_snowOrMelt_135 : decode cX3_snowOrMelt 135 = .ok (.iload_n 3, 1) := by decide +kernel
theorem dX3_snowOrMelt_136 : decode cX3_snowOrMelt 136 = .ok (.iadd, 1) := by decide +kernel
theorem dX3_snowOrMelt_137 : decode cX3_snowOrMelt 137 = .ok (.iastore, 1) := by decide +kernel
theorem dX3_snowOrMelt_138 : decode cX3_snowOrMelt 138 = .ok (.aload_n 0, 1) := by decide +kernel
theorem dX3_snowOrMelt_139 : decode cX3_snowOrMelt 139 = .ok (.getfield 21, 3) := by decide +kernel
theorem dX3_snowOrMelt_142 : decode cX3_snowOrMelt 142 = .ok (.dup, 1) := by decide +kernel
theorem dX3_snowOrMelt_143 : decode cX3_snowOrMelt 143 = .ok (.getfield 141, 3) := by decide +kernel
theorem dX3_snowOrMelt_146 : decode cX3_snowOrMelt 146 = .ok (.iload_n 3, 1) := by decide +kernel
theorem dX3_snowOrMelt_147 : decode cX3_snowOrMelt 147 = .ok (.iadd, 1) := by decide +kernel
theorem dX3_snowOrMelt_148 : decode cX3_snowOrMelt 148 = .ok (.putfield 141, 3) := by decide +kernel
theorem dX3_snowOrMelt_151 : decode cX3_snowOrMelt 151 = .ok (.return_, 1) := by decide +kernel
set_option maxRecDepth 20000 in
theorem ggX3_flow_X3_givenToNext : GoodIn wsX3_flow wsX3_givenToNext := goodIn_r _ [8, 9, 10, 11, 7, 12, 13, 3, 14, 15, 16, 17, 18, 19, 20, 21, 22, 23, 24, 25, 26, 27, 28, 29, 30, 31, 32, 51, 52, 53, 54, 55, 56, 57, 58, 59, 60, 61, 62, 63, 64, 65, 66, 67, 68] (by decide +kernel) (by decide +kernel)
set_option maxRecDepth 20000 in
theorem gX3_flow_X3_givenToNext : GoodIn wsX3_flow (wsV RX3 144 RX3 yX3_givenToNext wsX3_givenToNext) := goodIn_app (goodIn_of _ (by decide +kernel)) ggX3_flow_X3_givenToNext
set_option maxRecDepth 20000 in
theorem ggX3_flow_X1_carryEarliest : GoodIn wsX3_flow wsX1_carryEarliest := goodIn_r _ [37, 38, 39, 24, 40, 41, 42, 43, 36, 44, 45, 46, 47, 48, 49, 50, 67, 68] (by decide +kernel) (by decide +kernel)
set_option maxRecDepth 20000 in
theorem gX3_flow_X1_carryEarliest : GoodIn wsX3_flow (wsV RX3 147 RX1 yX1_carryEarliest wsX1_carryEarliest) := goodIn_app (goodIn_of _ (by decide +kernel)) ggX3_flow_X1_carryEarliest
theorem dX3_flow_0 : decode cX3_flow 0 = .ok (.iconst 0, 1) := by decide +kernel
theorem dX3_flow_1 : decode cX3_flow 1 = .ok (.istore_n 1, 1) := by decide +kernel
theorem dX3_flow_2 : decode cX3_flow 2 = .ok (.iload_n 1, 1) := by decide +kernel
theorem dX3_flow_3 : decode cX3_flow 3 = .ok (.bipush 11, 2) := by decide +kernel
theorem dX3_flow_5 : decode cX3_flow 5 = .ok (.if_icmp .ge 20, 3) := by decide +kernel
theorem dX3_flow_8 : decode cX3_flow 8 = .ok (.aload_n 0, 1) := by decide +kernel
theorem dX3_flow_9 : decode cX3_flow 9 = .ok (.getfield 44, 3) := by decide +kernel
theorem dX3_flow_12 : decode cX3_flow 12 = .ok (.iload_n 1, 1) := by decide +kernel
theorem dX3_flow_13 : decode cX3_flow 13 = .ok (.aload_n 0, 1) := by decide +kernel
theorem dX3_flow_14 : decode cX3_flow 14 = .ok (.iload_n 1, 1) := by decide +kernel
theorem dX3_flow_15 : decode cX3_flow 15 = .ok (.invokevirtual 144, 3) := by decide +kernel
theorem dX3_flow_18 : decode cX3_flow 18 = .ok (.iastore, 1) := by decide +kernel
theorem dX3_flow_19 : decode cX3_flow 19 = .ok (.iinc 1 1, 3) := by decide +kernel
theorem dX3_flow_22 : decode cX3_flow 22 = .ok (.goto (-20), 3) := by decide +kernel
theorem dX3_flow_25 : decode cX3_flow 25 = .ok (.iconst 0, 1) := by decide +kernel
theorem dX3_flow_26 : decode cX3_flow 26 = .ok (.istore_n 1, 1) := by decide +kernel
theorem dX3_flow_27 : decode cX3_flow 27 = .ok (.iload_n 1, 1) := by decide +kernel
theorem dX3_flow_28 : decode cX3_flow 28 = .ok (.bipush 12, 2) := by decide +kernel
theorem dX3_flow_30 : decode cX3_flow 30 = .ok (.if_icmp .ge 16, 3) := by decide +kernel
theorem dX3_flow_33 : decode cX3_flow 33 = .ok (.aload_n 0, 1) := by decide +kernel
theorem dX3_flow_34 : decode cX3_flow 34 = .ok (.getfield 41, 3) := by decide +kernel
theorem dX3_flow_37 : decode cX3_flow 37 = .ok (.iload_n 1, 1) := by decide +kernel
theorem dX3_flow_38 : decode cX3_flow 38 = .ok (.iconst 0, 1) := by decide +kernel
theorem dX3_flow_39 : decode cX3_flow 39 = .ok (.iastore, 1) := by decide +kernel
theorem dX3_flow_40 : decode cX3_flow 40 = .ok (.iinc 1 1, 3) := by decide +kernel
theorem dX3_flow_43 : decode cX3_flow 43 = .ok (.goto (-16), 3) := by decide +kernel
theorem dX3_flow_46 : decode cX3_flow 46 = .ok (.iconst 0, 1) := by decide +kernel
theorem dX3_flow_47 : decode cX3_flow 47 = .ok (.istore_n 1, 1) := by decide +kernel
theorem dX3_flow_48 : decode cX3_flow 48 = .ok (.iload_n 1, 1) := by decide +kernel
theorem dX3_flow_49 : decode cX3_flow 49 = .ok (.bipush 11, 2) := by decide +kernel
theorem dX3_flow_51 : decode cX3_flow 51 = .ok (.if_icmp .ge 74, 3) := by decide +kernel
theorem dX3_flow_54 : decode cX3_flow 54 = .ok (.aload_n 0, 1) := by decide +kernel
theorem dX3_flow_55 : decode cX3_flow 55 = .ok (.getfield 44, 3) := by decide +kernel
theorem dX3_flow_58 : decode cX3_flow 58 = .ok (.iload_n 1, 1) := by decide +kernel
theorem dX3_flow_59 : decode cX3_flow 59 = .ok (.iaload, 1) := by decide +kernel
theorem dX3_flow_60 : decode cX3_flow 60 = .ok (.istore_n 2, 1) := by decide +kernel
theorem dX3_flow_61 : decode cX3_flow 61 = .ok (.aload_n 0, 1) := by decide +kernel
theorem dX3_flow_62 : decode cX3_flow 62 = .ok (.getfield 41, 3) := by decide +kernel
theorem dX3_flow_65 : decode cX3_flow 65 = .ok (.iload_n 1, 1) := by decide +kernel
theorem dX3_flow_66 : decode cX3_flow 66 = .ok (.dup2, 1) := by decide +kernel
theorem dX3_flow_67 : decode cX3_flow 67 = .ok (.iaload, 1) := by decide +kernel
theorem dX3_flow_68 : decode cX3_flow 68 = .ok (.iload_n 2, 1) := by decide +kernel
theorem dX3_flow_69 : decode cX3_flow 69 = .ok (.isub, 1) := by decide +kernel
theorem dX3_flow_70 : decode cX3_flow 70 = .ok (.iastore, 1) := by decide +kernel
theorem dX3_flow_71 : decode cX3_flow 71 = .ok (.aload_n 0, 1) := by decide +kernel
theorem dX3_flow_72 : decode cX3_flow 72 = .ok (.getfield 41, 3) := by decide +kernel
theorem dX3_flow_75 : decode cX3_flow 75 = .ok (.iload_n 1, 1) := by decide +kernel
theorem dX3_flow_76 : decode cX3_flow 76 = .ok (.iconst 1, 1) := by decide +kernel
theorem dX3_flow_77 : decode cX3_flow 77 = .ok (.iadd, 1) := by decide +kernel
theorem dX3_flow_78 : decode cX3_flow 78 = .ok (.dup2, 1) := by decide +kernel
theorem dX3_flow_79 : decode cX3_flow 79 = .ok (.iaload, 1) := by decide +kernel
theorem dX3_flow_80 : decode cX3_flow 80 = .ok (.iload_n 2, 1) := by decide +kernel
theorem dX3_flow_81 : decode cX3_flow 81 = .ok (.iadd, 1) := by decide +kernel
theorem dX3_flow_82 : decode cX3_flow 82 = .ok (.iastore, 1) := by decide +kernel
theorem dX3_flow_83 : decode cX3_flow 83 = .ok (.iload_n 2, 1) := by decide +kernel
theorem dX3_flow_84 : decode cX3_flow 84 = .ok (.ifCond .le 18, 3) := by decide +kernel
theorem dX3_flow_87 : decode cX3_flow 87 = .ok (.aload_n 0, 1) := by decide +kernel
theorem dX3_flow_88 : decode cX3_flow 88 = .ok (.getfield 12, 3) := by decide +kernel
theorem dX3_flow_91 : decode cX3_flow 91 = .ok (.iload_n 1, 1) := by decide +kernel
theorem dX3_flow_92 : decode cX3_flow 92 = .ok (.iload_n 1, 1) := by decide +kernel
theorem dX3_flow_93 : decode cX3_flow 93 = .ok (.iconst 1, 1) := by decide +kernel
theorem dX3_flow_94 : decode cX3_flow 94 = .ok (.iadd, 1) := by decide +kernel
theorem dX3_flow_95 : decode cX3_flow 95 = .ok (.iload_n 2, 1) := by decide +kernel
theorem dX3_flow_96 : decode cX3_flow 96 = .ok (.invokevirtual 147, 3) := by decide +kernel
theorem dX3_flow_99 : decode cX3_flow 99 = .ok (.goto 20, 3) := by decide +kernel
theorem dX3_flow_102 : decode cX3_flow 102 = .ok (.iload_n 2, 1) := by decide +kernel
theorem dX3_flow_103 : decode cX3_flow 103 = .ok (.ifCond .ge 16, 3) := by decide +kernel
theorem dX3_flow_106 : decode cX3_flow 106 = .ok (.aload_n 0, 1) := by decide +kernel
theorem dX3_flow_107 : decode cX3_flow 107 = .ok (.getfield 12, 3) := by decide +kernel
theorem dX3_flow_110 : decode cX3_flow 110 = .ok (.iload_n 1, 1) := by decide +kernel
theorem dX3_flow_111 : decode cX3_flow 111 = .ok (.iconst 1, 1) := by decide +kernel
theorem dX3_flow_112 : decode cX3_flow 112 = .ok (.iadd, 1) := by decide +kernel
theorem dX3_flow_113 : decode cX3_flow 113 = .ok (.iload_n 1, 1) := by decide +kernel
theorem dX3_flow_114 : decode cX3_flow 114 = .ok (.iload_n 2, 1) := by decide +kernel
theorem dX3_flow_115 : decode cX3_flow 115 = .ok (.ineg, 1) := by decide +kernel
theorem dX3_flow_116 : decode cX3_flow 116 = .ok (.invokevirtual 147, 3) := by decide +kernel
theorem dX3_flow_119 : decode cX3_flow 119 = .ok (.iinc 1 1, 3) := by decide +kernel
theorem dX3_flow_122 : decode cX3_flow 122 = .ok (.goto (-74), 3) := by decide +kernel
theorem dX3_flow_125 : decode cX3_flow 125 = .ok (.return_, 1) := by decide +kernel
set_option maxRecDepth 20000 in
theorem ggX3_givenToNext_X3_surface : GoodIn wsX3_givenToNext wsX3_surface := goodIn_r _ [5, 6, 7, 8, 27, 28, 29, 30, 31, 32, 33, 34, 35, 36, 37, 38, 39, 40, 41, 42, 43, 44] (by decide +kernel) (by decide +kernel)
set_option maxRecDepth 20000 in
theorem gX3_givenToNext_X3_surface : GoodIn wsX3_givenToNext (wsV RX3 104 RX3 yX3_surface wsX3_surface) := goodIn_app (goodIn_of _ (by decide +kernel)) ggX3_givenToNext_X3_surface
set_option maxRecDepth 20000 in
theorem ggX3_givenToNext_X3_givenBy : GoodIn wsX3_givenToNext wsX3_givenBy := goodIn_r _ [12, 7, 8, 13, 14, 15, 16, 17, 18, 19, 20, 21, 22, 23, 24, 25, 26, 27, 28, 29, 30, 31, 32, 33, 34, 35, 36, 37, 38, 39, 40, 41, 42, 43, 44] (by decide +kernel) (by decide +kernel)
set_option maxRecDepth 20000 in
theorem gX3_givenToNext_X3_givenBy : GoodIn wsX3_givenToNext (wsV RX3 150 RX3 yX3_givenBy wsX3_givenBy) := goodIn_app (goodIn_of _ (by decide +kernel)) ggX3_givenToNext_X3_givenBy
theorem dX3_givenToNext_0 : decode cX3_givenToNext 0 = .ok (.aload_n 0, 1) := by decide +kernel
theorem dX3_givenToNext_1 : decode cX3_givenToNext 1 = .ok (.iload_n 1, 1) := by decide +kernel
theorem dX3_givenToNext_2 : decode cX3_givenToNext 2 = .ok (.invokevirtual 104, 3) := by decide +kernel
theorem dX3_givenToNext_5 : decode cX3_givenToNext 5 = .ok (.aload_n 0, 1) := by decide +kernel
theorem dX3_givenToNext_6 : decode cX3_givenToNext 6 = .ok (.iload_n 1, 1) := by decide +kernel
theorem dX3_givenToNext_7 : decode cX3_givenToNext 7 = .ok (.iconst 1, 1) := by decide +kernel
theorem dX3_givenToNext_8 : decode cX3_givenToNext 8 = .ok (.iadd, 1) := by decide +kernel
theorem dX3_givenToNext_9 : decode cX3_givenToNext 9 = .ok (.invokevirtual 104, 3) := by decide +kernel
theorem dX3_givenToNext_12 : decode cX3_givenToNext 12 = .ok (.isub, 1) := by decide +kernel
theorem dX3_givenToNext_13 : decode cX3_givenToNext 13 = .ok (.istore_n 2, 1) := by decide +kernel
theorem dX3_givenToNext_14 : decode cX3_givenToNext 14 = .ok (.iload_n 2, 1) := by decide +kernel
theorem dX3_givenToNext_15 : decode cX3_givenToNext 15 = .ok (.ifCond .le 10, 3) := by decide +kernel
theorem dX3_givenToNext_18 : decode cX3_givenToNext 18 = .ok (.aload_n 0, 1) := by decide +kernel
theorem dX3_givenToNext_19 : decode cX3_givenToNext 19 = .ok (.iload_n 1, 1) := by decide +kernel
theorem dX3_givenToNext_20 : decode cX3_givenToNext 20 = .ok (.iload_n 2, 1) := by decide +kernel
theorem dX3_givenToNext_21 : decode cX3_givenToNext 21 = .ok (.invokevirtual 150, 3) := by decide +kernel
theorem dX3_givenToNext_24 : decode cX3_givenToNext 24 = .ok (.ireturn, 1) := by decide +kernel
theorem dX3_givenToNext_25 : decode cX3_givenToNext 25 = .ok (.aload_n 0, 1) := by decide +kernel
theorem dX3_givenToNext_26 : decode cX3_givenToNext 26 = .ok (.iload_n 1, 1) := by decide +kernel
theorem dX3_givenToNext_27 : decode cX3_givenToNext 27 = .ok (.iconst 1, 1) := by decide +kernel
theorem dX3_givenToNext_28 : decode cX3_givenToNext 28 = .ok (.iadd, 1) := by decide +kernel
theorem dX3_givenToNext_29 : decode cX3_givenToNext 29 = .ok (.iload_n 2, 1) := by decide +kernel
theorem dX3_givenToNext_30 : decode cX3_givenToNext 30 = .ok (.ineg, 1) := by decide +kernel
theorem dX3_givenToNext_31 : decode cX3_givenToNext 31 = .ok (.invokevirtual 150, 3) := by decide +kernel
theorem dX3_givenToNext_34 : decode cX3_givenToNext 34 = .ok (.ineg, 1) := by decide +kernel
theorem dX3_givenToNext_35 : decode cX3_givenToNext 35 = .ok (.ireturn, 1) := by decide +kernel
set_option maxRecDepth 20000 in
theorem ggX3_givenBy_J9_floorDiv_f86c9 : GoodIn wsX3_givenBy wsJ9_floorDiv_f86c9 := goodIn_r _ [13] (by decide +kernel) (by decide +kernel)
set_option maxRecDepth 20000 in
theorem gX3_givenBy_J9_floorDiv_f86c9 : GoodIn wsX3_givenBy (va_wsS RX3 155 yJ9_floorDiv_f86c9 wsJ9_floorDiv_f86c9) := goodIn_app (goodIn_of _ (by decide +kernel)) ggX3_givenBy_J9_floorDiv_f86c9
set_option maxRecDepth 20000 in
theorem ggX3_givenBy_J9_floorDiv_7cf53 : GoodIn wsX3_givenBy wsJ9_floorDiv_7cf53 := goodIn_r _ [16] (by decide +kernel) (by decide +kernel)
set_option maxRecDepth 20000 in
theorem gX3_givenBy_J9_floorDiv_7cf53 : GoodIn wsX3_givenBy (va_wsS RX3 123 yJ9_floorDiv_7cf53 wsJ9_floorDiv_7cf53) := goodIn_app (goodIn_of _ (by decide +kernel)) ggX3_givenBy_J9_floorDiv_7cf53
theorem dX3_givenBy_0 : decode cX3_givenBy 0 = .ok (.iload_n 2, 1) := by decide +kernel
theorem dX3_givenBy_1 : decode cX3_givenBy 1 = .ok (.i2l, 1) := by decide +kernel
theorem dX3_givenBy_2 : decode cX3_givenBy 2 = .ok (.aload_n 0, 1) := by decide +kernel
theorem dX3_givenBy_3 : decode cX3_givenBy 3 = .ok (.getfield 12, 3) := by decide +kernel
theorem dX3_givenBy_6 : decode cX3_givenBy 6 = .ok (.getfield 101, 3) := by decide +kernel
theorem dX3_givenBy_9 : decode cX3_givenBy 9 = .ok (.iload_n 1, 1) := by decide +kernel
theorem dX3_givenBy_10 : decode cX3_givenBy 10 = .ok (.iaload, 1) := by decide +kernel
theorem dX3_givenBy_11 : decode cX3_givenBy 11 = .ok (.i2l, 1) := by decide +kernel
theorem dX3_givenBy_12 : decode cX3_givenBy 12 = .ok (.lmul, 1) := by decide +kernel
theorem dX3_givenBy_13 : decode cX3_givenBy 13 = .ok (.ldc2_w 153, 3) := by decide +kernel
theorem dX3_givenBy_16 : decode cX3_givenBy 16 = .ok (.invokestatic 155, 3) := by decide +kernel
theorem dX3_givenBy_19 : decode cX3_givenBy 19 = .ok (.lstore_n 3, 1) := by decide +kernel
theorem dX3_givenBy_20 : decode cX3_givenBy 20 = .ok (.aload_n 0, 1) := by decide +kernel
theorem dX3_givenBy_21 : decode cX3_givenBy 21 = .ok (.getfield 32, 3) := by decide +kernel
theorem dX3_givenBy_24 : decode cX3_givenBy 24 = .ok (.iload_n 1, 1) := by decide +kernel
