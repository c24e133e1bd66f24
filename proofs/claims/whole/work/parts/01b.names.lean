theorem wsL_law_x0 : ∀ w ∈ (vx_atS RX5 58 "java/lang/IllegalStateException" ["java/lang/RuntimeException", "java/lang/Exception"]).filter goodWord, w ∈ lw_tbl := by decide +kernel
theorem wsL_law_x1 : ∀ w ∈ (vx_atS RX5 133 "java/lang/IndexOutOfBoundsException" ["java/lang/RuntimeException", "java/lang/Exception"]).filter goodWord, w ∈ lw_tbl := by decide +kernel
theorem wsL_law_x2 : ∀ w ∈ (vx_atS RX5 122 "java/lang/IllegalArgumentException" ["java/lang/RuntimeException", "java/lang/Exception"]).filter goodWord, w ∈ lw_tbl := by decide +kernel
theorem wsL_law_in : ∀ w ∈ wsL_law, w ∈ lw_tbl := fun w h => (List.mem_append.mp h).elim (fun h => (List.mem_append.mp h).elim (fun h => (List.mem_append.mp h).elim (fun h => wsL_law_in0 w h) (fun h => wsL_law_x0 w h)) (fun h => wsL_law_x1 w h)) (fun h => wsL_law_x2 w h)
theorem inlX0 : ∀ w ∈ wsX00, w ∈ wsL_law := fun _ h => List.mem_append_left _ (List.mem_append_left _ (List.mem_append_left _ (List.mem_append_left _ (List.mem_append_left _ (List.mem_append_left _ (List.mem_append_left _ (List.mem_append_right _ h)))))))
theorem inX0 : ∀ w ∈ wsX00, w ∈ lw_tbl := fun w h => wsL_law_in w (inlX0 w h)
theorem inlX1 : ∀ w ∈ wsX10, w ∈ wsL_law := fun _ h => List.mem_append_left _ (List.mem_append_left _ (List.mem_append_left _ (List.mem_append_left _ (List.mem_append_left _ (List.mem_append_right _ h)))))
theorem inX1 : ∀ w ∈ wsX10, w ∈ lw_tbl := fun w h => wsL_law_in w (inlX1 w h)
theorem inlX2 : ∀ w ∈ wsX20, w ∈ wsL_law := fun _ h => List.mem_append_left _ (List.mem_append_left _ (List.mem_append_left _ (List.mem_append_left _ (List.mem_append_left _ (List.mem_append_left _ (List.mem_append_right _ h))))))
theorem inX2 : ∀ w ∈ wsX20, w ∈ lw_tbl := fun w h => wsL_law_in w (inlX2 w h)
theorem inlX3 : ∀ w ∈ wsX30, w ∈ wsL_law := fun _ h => List.mem_append_left _ (List.mem_append_left _ (List.mem_append_left _ (List.mem_append_left _ (List.mem_append_left _ (List.mem_append_left _ (List.mem_append_left _ (List.mem_append_left _ (List.mem_append_right _ h))))))))
theorem inX3 : ∀ w ∈ wsX30, w ∈ lw_tbl := fun w h => wsL_law_in w (inlX3 w h)
theorem inlX4 : ∀ w ∈ wsX40, w ∈ wsL_law := fun _ h => List.mem_append_left _ (List.mem_append_left _ (List.mem_append_left _ (List.mem_append_left _ (List.mem_append_right _ h))))
theorem inX4 : ∀ w ∈ wsX40, w ∈ lw_tbl := fun w h => wsL_law_in w (inlX4 w h)
theorem inlX5 : ∀ w ∈ wsX50, w ∈ wsL_law := fun _ h => List.mem_append_left _ (List.mem_append_left _ (List.mem_append_left _ (List.mem_append_left _ (List.mem_append_left _ (List.mem_append_left _ (List.mem_append_left _ (List.mem_append_left _ (List.mem_append_left _ (List.mem_append_left _ (List.mem_append_right _ h))))))))))
theorem inX5 : ∀ w ∈ wsX50, w ∈ lw_tbl := fun w h => wsL_law_in w (inlX5 w h)
theorem inlX6 : ∀ w ∈ wsX60, w ∈ wsL_law := fun _ h => List.mem_append_left _ (List.mem_append_left _ (List.mem_append_left _ (List.mem_append_left _ (List.mem_append_left _ (List.mem_append_left _ (List.mem_append_left _ (List.mem_append_left _ (List.mem_append_left _ (List.mem_append_right _ h)))))))))
theorem inX6 : ∀ w ∈ wsX60, w ∈ lw_tbl := fun w h => wsL_law_in w (inlX6 w h)
theorem inJ9 : ∀ w ∈ wsJ90, w ∈ lw_tbl := by decide +kernel
theorem inJ0 : ∀ w ∈ wsJ00, w ∈ lw_tbl := by decide +kernel
theorem inJ10 : ∀ w ∈ wsJ100, w ∈ lw_tbl := by decide +kernel
theorem dX0_init_0 : decode cX0_init 0 = .ok (.aload_n 0, 1) := by decide +kernel
theorem dX0_init_1 : decode cX0_init 1 = .ok (.invokespecial 3, 3) := by decide +kernel
theorem dX0_init_4 : decode cX0_init 4 = .ok (.aload_n 0, 1) := by decide +kernel
theorem dX0_init_5 : decode cX0_init 5 = .ok (.bipush 61, 2) := by decide +kernel
theorem dX0_init_7 : decode cX0_init 7 = .ok (.newarray .boolean, 2) := by decide +kernel
theorem dX0_init_9 : decode cX0_init 9 = .ok (.putfield 9, 3) := by decide +kernel
theorem dX0_init_12 : decode cX0_init 12 = .ok (.aload_n 0, 1) := by decide +kernel
theorem dX0_init_13 : decode cX0_init 13 = .ok (.bipush 61, 2) := by decide +kernel
theorem dX0_init_15 : decode cX0_init 15 = .ok (.newarray .int, 2) := by decide +kernel
theorem dX0_init_17 : decode cX0_init 17 = .ok (.putfield 15, 3) := by decide +kernel
theorem dX0_init_20 : decode cX0_init 20 = .ok (.aload_n 0, 1) := by decide +kernel
theorem dX0_init_21 : decode cX0_init 21 = .ok (.bipush 61, 2) := by decide +kernel
theorem dX0_init_23 : decode cX0_init 23 = .ok (.newarray .int, 2) := by decide +kernel
theorem dX0_init_25 : decode cX0_init 25 = .ok (.putfield 19, 3) := by decide +kernel
theorem dX0_init_28 : decode cX0_init 28 = .ok (.aload_n 0, 1) := by decide +kernel
theorem dX0_init_29 : decode cX0_init 29 = .ok (.sipush 720, 3) := by decide +kernel
theorem dX0_init_32 : decode cX0_init 32 = .ok (.newarray .int, 2) := by decide +kernel
theorem dX0_init_34 : decode cX0_init 34 = .ok (.putfield 22, 3) := by decide +kernel
theorem dX0_init_37 : decode cX0_init 37 = .ok (.aload_n 0, 1) := by decide +kernel
theorem dX0_init_38 : decode cX0_init 38 = .ok (.sipush 720, 3) := by decide +kernel
theorem dX0_init_41 : decode cX0_init 41 = .ok (.newarray .int, 2) := by decide +kernel
theorem dX0_init_43 : decode cX0_init 43 = .ok (.putfield 25, 3) := by decide +kernel
theorem dX0_init_46 : decode cX0_init 46 = .ok (.aload_n 0, 1) := by decide +kernel
theorem dX0_init_47 : decode cX0_init 47 = .ok (.sipush 720, 3) := by decide +kernel
theorem dX0_init_50 : decode cX0_init 50 = .ok (.newarray .int, 2) := by decide +kernel
theorem dX0_init_52 : decode cX0_init 52 = .ok (.putfield 28, 3) := by decide +kernel
theorem dX0_init_55 : decode cX0_init 55 = .ok (.aload_n 0, 1) := by decide +kernel
theorem dX0_init_56 : decode cX0_init 56 = .ok (.getfield 15, 3) := by decide +kernel
theorem dX0_init_59 : decode cX0_init 59 = .ok (.iconst 0, 1) := by decide +kernel
theorem dX0_init_60 : decode cX0_init 60 = .ok (.iconst (-1), 1) := by decide +kernel
theorem dX0_init_61 : decode cX0_init 61 = .ok (.iastore, 1) := by decide +kernel
theorem dX0_init_62 : decode cX0_init 62 = .ok (.return_, 1) := by decide +kernel
set_option maxRecDepth 20000 in
theorem ggX0_note_X1_allIce : GoodIn wsX0_note wsX1_allIce := goodIn_r _ [15, 16, 40, 41] (by decide +kernel) (by decide +kernel)
set_option maxRecDepth 20000 in
theorem gX0_note_X1_allIce : GoodIn wsX0_note (wsV RX0 44 RX1 yX1_allIce wsX1_allIce) := goodIn_app (goodIn_of _ (by decide +kernel)) ggX0_note_X1_allIce
theorem dX0_note_0 : decode cX0_note 0 = .ok (.aload_n 0, 1) := by decide +kernel
theorem dX0_note_1 : decode cX0_note 1 = .ok (.getfield 15, 3) := by decide +kernel
theorem dX0_note_4 : decode cX0_note 4 = .ok (.aload_n 1, 1) := by decide +kernel
theorem dX0_note_5 : decode cX0_note 5 = .ok (.getfield 31, 3) := by decide +kernel
theorem dX0_note_8 : decode cX0_note 8 = .ok (.aload_n 1, 1) := by decide +kernel
theorem dX0_note_9 : decode cX0_note 9 = .ok (.getfield 37, 3) := by decide +kernel
theorem dX0_note_12 : decode cX0_note 12 = .ok (.iastore, 1) := by decide +kernel
theorem dX0_note_13 : decode cX0_note 13 = .ok (.aload_n 0, 1) := by decide +kernel
theorem dX0_note_14 : decode cX0_note 14 = .ok (.getfield 19, 3) := by decide +kernel
theorem dX0_note_17 : decode cX0_note 17 = .ok (.aload_n 1, 1) := by decide +kernel
theorem dX0_note_18 : decode cX0_note 18 = .ok (.getfield 31, 3) := by decide +kernel
theorem dX0_note_21 : decode cX0_note 21 = .ok (.aload_n 1, 1) := by decide +kernel
theorem dX0_note_22 : decode cX0_note 22 = .ok (.getfield 40, 3) := by decide +kernel
theorem dX0_note_25 : decode cX0_note 25 = .ok (.invokevirtual 44, 3) := by decide +kernel
theorem dX0_note_28 : decode cX0_note 28 = .ok (.iastore, 1) := by decide +kernel
theorem dX0_note_29 : decode cX0_note 29 = .ok (.iconst 0, 1) := by decide +kernel
theorem dX0_note_30 : decode cX0_note 30 = .ok (.istore_n 2, 1) := by decide +kernel
theorem dX0_note_31 : decode cX0_note 31 = .ok (.iload_n 2, 1) := by decide +kernel
theorem dX0_note_32 : decode cX0_note 32 = .ok (.bipush 12, 2) := by decide +kernel
theorem dX0_note_34 : decode cX0_note 34 = .ok (.if_icmp .ge 76, 3) := by decide +kernel
theorem dX0_note_37 : decode cX0_note 37 = .ok (.aload_n 1, 1) := by decide +kernel
theorem dX0_note_38 : decode cX0_note 38 = .ok (.getfield 50, 3) := by decide +kernel
theorem dX0_note_41 : decode cX0_note 41 = .ok (.iload_n 2, 1) := by decide +kernel
theorem dX0_note_42 : decode cX0_note 42 = .ok (.iaload, 1) := by decide +kernel
theorem dX0_note_43 : decode cX0_note 43 = .ok (.ifCond .le 61, 3) := by decide +kernel
theorem dX0_note_46 : decode cX0_note 46 = .ok (.aload_n 0, 1) := by decide +kernel
theorem dX0_note_47 : decode cX0_note 47 = .ok (.getfield 53, 3) := by decide +kernel
theorem dX0_note_50 : decode cX0_note 50 = .ok (.sipush 720, 3) := by decide +kernel
theorem dX0_note_53 : decode cX0_note 53 = .ok (.if_icmp .ge 51, 3) := by decide +kernel
theorem dX0_note_56 : decode cX0_note 56 = .ok (.aload_n 0, 1) := by decide +kernel
theorem dX0_note_57 : decode cX0_note 57 = .ok (.getfield 22, 3) := by decide +kernel
theorem dX0_note_60 : decode cX0_note 60 = .ok (.aload_n 0, 1) := by decide +kernel
theorem dX0_note_61 : decode cX0_note 61 = .ok (.getfield 53, 3) := by decide +kernel
theorem dX0_note_64 : decode cX0_note 64 = .ok (.aload_n 1, 1) := by decide +kernel
theorem dX0_note_65 : decode cX0_note 65 = .ok (.getfield 31, 3) := by decide +kernel
theorem dX0_note_68 : decode cX0_note 68 = .ok (.iastore, 1) := by decide +kernel
theorem dX0_note_69 : decode cX0_note 69 = .ok (.aload_n 0, 1) := by decide +kernel
theorem dX0_note_70 : decode cX0_note 70 = .ok (.getfield 25, 3) := by decide +kernel
theorem dX0_note_73 : decode cX0_note 73 = .ok (.aload_n 0, 1) := by decide +kernel
theorem dX0_note_74 : decode cX0_note 74 = .ok (.getfield 53, 3) := by decide +kernel
theorem dX0_note_77 : decode cX0_note 77 = .ok (.iload_n 2, 1) := by decide +kernel
theorem dX0_note_78 : decode cX0_note 78 = .ok (.iastore, 1) := by decide +kernel
theorem dX0_note_79 : decode cX0_note 79 = .ok (.aload_n 0, 1) := by decide +kernel
theorem dX0_note_80 : decode cX0_note 80 = .ok (.getfield 28, 3) := by decide +kernel
theorem dX0_note_83 : decode cX0_note 83 = .ok (.aload_n 0, 1) := by decide +kernel
theorem dX0_note_84 : decode cX0_note 84 = .ok (.getfield 53, 3) := by decide +kernel
theorem dX0_note_87 : decode cX0_note 87 = .ok (.aload_n 1, 1) := by decide +kernel
theorem dX0_note_88 : decode cX0_note 88 = .ok (.getfield 50, 3) := by decide +kernel
theorem dX0_note_91 : decode cX0_note 91 = .ok (.iload_n 2, 1) := by decide +kernel
theorem dX0_note_92 : decode cX0_note 92 = .ok (.iaload, 1) := by decide +kernel
theorem dX0_note_93 : decode cX0_note 93 = .ok (.iastore, 1) := by decide +kernel
theorem dX0_note_94 : decode cX0_note 94 = .ok (.aload_n 0, 1) := by decide +kernel
theorem dX0_note_95 : decode cX0_note 95 = .ok (.dup, 1) := by decide +kernel
theorem dX0_note_96 : decode cX0_note 96 = .ok (.getfield 53, 3) := by decide +kernel
theorem dX0_note_99 : decode cX0_note 99 = .ok (.iconst 1, 1) := by decide +kernel
theorem dX0_note_100 : decode cX0_note 100 = .ok (.iadd, 1) := by decide +kernel
theorem dX0_note_101 : decode cX0_note 101 = .ok (.putfield 53, 3) := by decide +kernel
theorem dX0_note_104 : decode cX0_note 104 = .ok (.iinc 2 1, 3) := by decide +kernel
theorem dX0_note_107 : decode cX0_note 107 = .ok (.goto (-76), 3) := by decide +kernel
theorem dX0_note_110 : decode cX0_note 110 = .ok (.return_, 1) := by decide +kernel
theorem dX1_init_0 : decode cX1_init 0 = .ok (.aload_n 0, 1) := by decide +kernel
theorem dX1_init_1 : decode cX1_init 1 = .ok (.invokespecial 3, 3) := by decide +kernel
theorem dX1_init_4 : decode cX1_init 4 = .ok (.aload_n 0, 1) := by decide +kernel
theorem dX1_init_5 : decode cX1_init 5 = .ok (.bipush 12, 2) := by decide +kernel
theorem dX1_init_7 : decode cX1_init 7 = .ok (.newarray .int, 2) := by decide +kernel
theorem dX1_init_9 : decode cX1_init 9 = .ok (.putfield 9, 3) := by decide +kernel
theorem dX1_init_12 : decode cX1_init 12 = .ok (.aload_n 0, 1) := by decide +kernel
theorem dX1_init_13 : decode cX1_init 13 = .ok (.sipush 732, 3) := by decide +kernel
theorem dX1_init_16 : decode cX1_init 16 = .ok (.newarray .int, 2) := by decide +kernel
theorem dX1_init_18 : decode cX1_init 18 = .ok (.putfield 15, 3) := by decide +kernel
theorem dX1_init_21 : decode cX1_init 21 = .ok (.return_, 1) := by decide +kernel
theorem dX1_becomeLike_0 : decode cX1_becomeLike 0 = .ok (.aload_n 1, 1) := by decide +kernel
theorem dX1_becomeLike_1 : decode cX1_becomeLike 1 = .ok (.getfield 9, 3) := by decide +kernel
theorem dX1_becomeLike_4 : decode cX1_becomeLike 4 = .ok (.iconst 0, 1) := by decide +kernel
theorem dX1_becomeLike_5 : decode cX1_becomeLike 5 = .ok (.aload_n 0, 1) := by decide +kernel
theorem dX1_becomeLike_6 : decode cX1_becomeLike 6 = .ok (.getfield 9, 3) := by decide +kernel
theorem dX1_becomeLike_9 : decode cX1_becomeLike 9 = .ok (.iconst 0, 1) := by decide +kernel
theorem dX1_becomeLike_10 : decode cX1_becomeLike 10 = .ok (.bipush 12, 2) := by decide +kernel
theorem dX1_becomeLike_12 : decode cX1_becomeLike 12 = .ok (.invokestatic 18, 3) := by decide +kernel
theorem dX1_becomeLike_15 : decode cX1_becomeLike 15 = .ok (.aload_n 1, 1) := by decide +kernel
theorem dX1_becomeLike_16 : decode cX1_becomeLike 16 = .ok (.getfield 15, 3) := by decide +kernel
theorem dX1_becomeLike_19 : decode cX1_becomeLike 19 = .ok (.iconst 0, 1) := by decide +kernel
theorem dX1_becomeLike_20 : decode cX1_becomeLike 20 = .ok (.aload_n 0, 1) := by decide +kernel
theorem dX1_becomeLike_21 : decode cX1_becomeLike 21 = .ok (.getfield 15, 3) := by decide +kernel
theorem dX1_becomeLike_24 : decode cX1_becomeLike 24 = .ok (.iconst 0, 1) := by decide +kernel
theorem dX1_becomeLike_25 : decode cX1_becomeLike 25 = .ok (.sipush 732, 3) := by decide +kernel
theorem dX1_becomeLike_28 : decode cX1_becomeLike 28 = .ok (.invokestatic 18, 3) := by decide +kernel
theorem dX1_becomeLike_31 : decode cX1_becomeLike 31 = .ok (.return_, 1) := by decide +kernel
theorem dX1_unitsOf_0 : decode cX1_unitsOf 0 = .ok (.aload_n 0, 1) := by decide +kernel
theorem dX1_unitsOf_1 : decode cX1_unitsOf 1 = .ok (.getfield 15, 3) := by decide +kernel
theorem dX1_unitsOf_4 : decode cX1_unitsOf 4 = .ok (.iload_n 1, 1) := by decide +kernel
theorem dX1_unitsOf_5 : decode cX1_unitsOf 5 = .ok (.bipush 61, 2) := by decide +kernel
theorem dX1_unitsOf_7 : decode cX1_unitsOf 7 = .ok (.imul, 1) := by decide +kernel
theorem dX1_unitsOf_8 : decode cX1_unitsOf 8 = .ok (.iload_n 2, 1) := by decide +kernel
theorem dX1_unitsOf_9 : decode cX1_unitsOf 9 = .ok (.iadd, 1) := by decide +kernel
theorem dX1_unitsOf_10 : decode cX1_unitsOf 10 = .ok (.iaload, 1) := by decide +kernel
theorem dX1_unitsOf_11 : decode cX1_unitsOf 11 = .ok (.ireturn, 1) := by decide +kernel
theorem dX1_allIce_0 : decode cX1_allIce 0 = .ok (.iconst 0, 1) := by decide +kernel
theorem dX1_allIce_1 : decode cX1_allIce 1 = .ok (.istore_n 1, 1) := by decide +kernel
theorem dX1_allIce_2 : decode cX1_allIce 2 = .ok (.iconst 0, 1) := by decide +kernel
theorem dX1_allIce_3 : decode cX1_allIce 3 = .ok (.istore_n 2, 1) := by decide +kernel
theorem dX1_allIce_4 : decode cX1_allIce 4 = .ok (.iload_n 2, 1) := by decide +kernel
theorem dX1_allIce_5 : decode cX1_allIce 5 = .ok (.bipush 12, 2) := by decide +kernel
theorem dX1_allIce_7 : decode cX1_allIce 7 = .ok (.if_icmp .ge 18, 3) := by decide +kernel
theorem dX1_allIce_10 : decode cX1_allIce 10 = .ok (.iload_n 1, 1) := by decide +kernel
theorem dX1_allIce_11 : decode cX1_allIce 11 = .ok (.aload_n 0, 1) := by decide +kernel
theorem dX1_allIce_12 : decode cX1_allIce 12 = .ok (.getfield 9, 3) := by decide +kernel
theorem dX1_allIce_15 : decode cX1_allIce 15 = .ok (.iload_n 2, 1) := by decide +kernel
theorem dX1_allIce_16 : decode cX1_allIce 16 = .ok (.iaload, 1) := by decide +kernel
theorem dX1_allIce_17 : decode cX1_allIce 17 = .ok (.iadd, 1) := by decide +kernel
theorem dX1_allIce_18 : decode cX1_allIce 18 = .ok (.istore_n 1, 1) := by decide +kernel
theorem dX1_allIce_19 : decode cX1_allIce 19 = .ok (.iinc 2 1, 3) := by decide +kernel
theorem dX1_allIce_22 : decode cX1_allIce 22 = .ok (.goto (-18), 3) := by decide +kernel
theorem dX1_allIce_25 : decode cX1_allIce 25 = .ok (.iload_n 1, 1) := by decide +kernel
theorem dX1_allIce_26 : decode cX1_allIce 26 = .ok (.ireturn, 1) := by decide +kernel
theorem dX1_lay_0 : decode cX1_lay 0 = .ok (.aload_n 0, 1) := by decide +kernel
theorem dX1_lay_1 : decode cX1_lay 1 = .ok (.getfield 15, 3) := by decide +kernel
theorem dX1_lay_4 : decode cX1_lay 4 = .ok (.iload_n 1, 1) := by decide +kernel
theorem dX1_lay_5 : decode cX1_lay 5 = .ok (.bipush 61, 2) := by decide +kernel
theorem dX1_lay_7 : decode cX1_lay 7 = .ok (.imul, 1) := by decide +kernel
theorem dX1_lay_8 : decode cX1_lay 8 = .ok (.iload_n 2, 1) := by decide +kernel
theorem dX1_lay_9 : decode cX1_lay 9 = .ok (.iadd, 1) := by decide +kernel
theorem dX1_lay_10 : decode cX1_lay 10 = .ok (.dup2, 1) := by decide +kernel
theorem dX1_lay_11 : decode cX1_lay 11 = .ok (.iaload, 1) := by decide +kernel
theorem dX1_lay_12 : decode cX1_lay 12 = .ok (.iload_n 3, 1) := by decide +kernel
theorem dX1_lay_13 : decode cX1_lay 13 = .ok (.iadd, 1) := by decide +kernel
theorem dX1_lay_14 : decode cX1_lay 14 = .ok (.iastore, 1) := by decide +kernel
theorem dX1_lay_15 : decode cX1_lay 15 = .ok (.aload_n 0, 1) := by decide +kernel
theorem dX1_lay_16 : decode cX1_lay 16 = .ok (.getfield 9, 3) := by decide +kernel
theorem dX1_lay_19 : decode cX1_lay 19 = .ok (.iload_n 1, 1) := by decide +kernel
theorem dX1_lay_20 : decode cX1_lay 20 = .ok (.dup2, 1) := by decide +kernel
theorem dX1_lay_21 : decode cX1_lay 21 = .ok (.iaload, 1) := by decide +kernel
theorem dX1_lay_22 : decode cX1_lay 22 = .ok (.iload_n 3, 1) := by decide +kernel
theorem dX1_lay_23 : decode cX1_lay 23 = .ok (.iadd, 1) := by decide +kernel
theorem dX1_lay_24 : decode cX1_lay 24 = .ok (.iastore, 1) := by decide +kernel
theorem dX1_lay_25 : decode cX1_lay 25 = .ok (.return_, 1) := by decide +kernel
set_option maxRecDepth 20000 in
theorem ggX1_takeLatest_X1_unitsOf : GoodIn wsX1_takeLatest wsX1_unitsOf := goodIn_r _ [9, 10, 16, 17] (by decide +kernel) (by decide +kernel)
set_option maxRecDepth 20000 in
theorem gX1_takeLatest_X1_unitsOf : GoodIn wsX1_takeLatest (wsV RX1 24 RX1 yX1_unitsOf wsX1_unitsOf) := goodIn_app (goodIn_of _ (by decide +kernel)) ggX1_takeLatest_X1_unitsOf
set_option maxRecDepth 20000 in
theorem ggX1_takeLatest_X1_lay : GoodIn wsX1_takeLatest wsX1_lay := goodIn_r _ [14, 10, 15, 16, 17] (by decide +kernel) (by decide +kernel)
set_option maxRecDepth 20000 in
theorem gX1_takeLatest_X1_lay : GoodIn wsX1_takeLatest (wsV RX1 33 RX1 yX1_lay wsX1_lay) := goodIn_app (goodIn_of _ (by decide +kernel)) ggX1_takeLatest_X1_lay
theorem dX1_takeLatest_0 : decode cX1_takeLatest 0 = .ok (.iload_n 2, 1) := by decide +kernel
theorem dX1_takeLatest_1 : decode cX1_takeLatest 1 = .ok (.istore_n 3, 1) := by decide +kernel
theorem dX1_takeLatest_2 : decode cX1_takeLatest 2 = .ok (.bipush 60, 2) := by decide +kernel
theorem dX1_takeLatest_4 : decode cX1_takeLatest 4 = .ok (.istore 4, 2) := by decide +kernel
theorem dX1_takeLatest_6 : decode cX1_takeLatest 6 = .ok (.iload 4, 2) := by decide +kernel
theorem dX1_takeLatest_8 : decode cX1_takeLatest 8 = .ok (.ifCond .lt 41, 3) := by decide +kernel
theorem dX1_takeLatest_11 : decode cX1_takeLatest 11 = .ok (.iload_n 3, 1) := by decide +kernel
theorem dX1_takeLatest_12 : decode cX1_takeLatest 12 = .ok (.ifCond .le 37, 3) := by decide +kernel
theorem dX1_takeLatest_15 : decode cX1_takeLatest 15 = .ok (.iload_n 3, 1) := by decide +kernel
theorem dX1_takeLatest_16 : decode cX1_takeLatest 16 = .ok (.aload_n 0, 1) := by decide +kernel
theorem dX1_takeLatest_17 : decode cX1_takeLatest 17 = .ok (.iload_n 1, 1) := by decide +kernel
theorem dX1_takeLatest_18 : decode cX1_takeLatest 18 = .ok (.iload 4, 2) := by decide +kernel
theorem dX1_takeLatest_20 : decode cX1_takeLatest 20 = .ok (.invokevirtual 24, 3) := by decide +kernel
theorem dX1_takeLatest_23 : decode cX1_takeLatest 23 = .ok (.invokestatic 28, 3) := by decide +kernel
theorem dX1_takeLatest_26 : decode cX1_takeLatest 26 = .ok (.istore 5, 2) := by decide +kernel
theorem dX1_takeLatest_28 : decode cX1_takeLatest 28 = .ok (.aload_n 0, 1) := by decide +kernel
theorem dX1_takeLatest_29 : decode cX1_takeLatest 29 = .ok (.iload_n 1, 1) := by decide +kernel
theorem dX1_takeLatest_30 : decode cX1_takeLatest 30 = .ok (.iload 4, 2) := by decide +kernel
theorem dX1_takeLatest_32 : decode cX1_takeLatest 32 = .ok (.iload 5, 2) := by decide +kernel
theorem dX1_takeLatest_34 : decode cX1_takeLatest 34 = .ok (.ineg, 1) := by decide +kernel
theorem dX1_takeLatest_35 : decode cX1_takeLatest 35 = .ok (.invokevirtual 33, 3) := by decide +kernel
theorem dX1_takeLatest_38 : decode cX1_takeLatest 38 = .ok (.iload_n 3, 1) := by decide +kernel
theorem dX1_takeLatest_39 : decode cX1_takeLatest 39 = .ok (.iload 5, 2) := by decide +kernel
theorem dX1_takeLatest_41 : decode cX1_takeLatest 41 = .ok (.isub, 1) := by decide +kernel
theorem dX1_takeLatest_42 : decode cX1_takeLatest 42 = .ok (.istore_n 3, 1) := by decide +kernel
theorem dX1_takeLatest_43 : decode cX1_takeLatest 43 = .ok (.iinc 4 (-1), 3) := by decide +kernel
theorem dX1_takeLatest_46 : decode cX1_takeLatest 46 = .ok (.goto (-40), 3) := by decide +kernel
theorem dX1_takeLatest_49 : decode cX1_takeLatest 49 = .ok (.return_, 1) := by decide +kernel
set_option maxRecDepth 20000 in
theorem ggX1_carryEarliest_X1_unitsOf : GoodIn wsX1_carryEarliest wsX1_unitsOf := goodIn_r _ [9, 10, 16, 17] (by decide +kernel) (by decide +kernel)
set_option maxRecDepth 20000 in
theorem gX1_carryEarliest_X1_unitsOf : GoodIn wsX1_carryEarliest (wsV RX1 24 RX1 yX1_unitsOf wsX1_unitsOf) := goodIn_app (goodIn_of _ (by decide +kernel)) ggX1_carryEarliest_X1_unitsOf
set_option maxRecDepth 20000 in
theorem ggX1_carryEarliest_X1_lay : GoodIn wsX1_carryEarliest wsX1_lay := goodIn_r _ [14, 10, 15, 16, 17] (by decide +kernel) (by decide +kernel)
set_option maxRecDepth 20000 in
theorem gX1_carryEarliest_X1_lay : GoodIn wsX1_carryEarliest (wsV RX1 33 RX1 yX1_lay wsX1_lay) := goodIn_app (goodIn_of _ (by decide +kernel)) ggX1_carryEarliest_X1_lay
theorem dX1_carryEarliest_0 : decode cX1_carryEarliest 0 = .ok (.iload_n 3, 1) := by decide +kernel
theorem dX1_carryEarliest_1 : decode cX1_carryEarliest 1 = .ok (.istore 4, 2) := by decide +kernel
theorem dX1_carryEarliest_3 : decode cX1_carryEarliest 3 = .ok (.iconst 0, 1) := by decide +kernel
theorem dX1_carryEarliest_4 : decode cX1_carryEarliest 4 = .ok (.istore 5, 2) := by decide +kernel
theorem dX1_carryEarliest_6 : decode cX1_carryEarliest 6 = .ok (.iload 5, 2) := by decide +kernel
theorem dX1_carryEarliest_8 : decode cX1_carryEarliest 8 = .ok (.bipush 61, 2) := by decide +kernel
theorem dX1_carryEarliest_10 : decode cX1_carryEarliest 10 = .ok (.if_icmp .ge 54, 3) := by decide +kernel
theorem dX1_carryEarliest_13 : decode cX1_carryEarliest 13 = .ok (.iload 4, 2) := by decide +kernel
theorem dX1_carryEarliest_15 : decode cX1_carryEarliest 15 = .ok (.ifCond .le 49, 3) := by decide +kernel
theorem dX1_carryEarliest_18 : decode cX1_carryEarliest 18 = .ok (.iload 4, 2) := by decide +kernel
theorem dX1_carryEarliest_20 : decode cX1_carryEarliest 20 = .ok (.aload_n 0, 1) := by decide +kernel
theorem dX1_carryEarliest_21 : decode cX1_carryEarliest 21 = .ok (.iload_n 1, 1) := by decide +kernel
theorem dX1_carryEarliest_22 : decode cX1_carryEarliest 22 = .ok (.iload 5, 2) := by decide +kernel
theorem dX1_carryEarliest_24 : decode cX1_carryEarliest 24 = .ok (.invokevirtual 24, 3) := by decide +kernel
theorem dX1_carryEarliest_27 : decode cX1_carryEarliest 27 = .ok (.invokestatic 28, 3) := by decide +kernel
theorem dX1_carryEarliest_30 : decode cX1_carryEarliest 30 = .ok (.istore 6, 2) := by decide +kernel
theorem dX1_carryEarliest_32 : decode cX1_carryEarliest 32 = .ok (.aload_n 0, 1) := by decide +kernel
theorem dX1_carryEarliest_33 : decode cX1_carryEarliest 33 = .ok (.iload_n 1, 1) := by decide +kernel
theorem dX1_carryEarliest_34 : decode cX1_carryEarliest 34 = .ok (.iload 5, 2) := by decide +kernel
theorem dX1_carryEarliest_36 : decode cX1_carryEarliest 36 = .ok (.iload 6, 2) := by decide +kernel
theorem dX1_carryEarliest_38 : decode cX1_carryEarliest 38 = .ok (.ineg, 1) := by decide +kernel
theorem dX1_carryEarliest_39 : decode cX1_carryEarliest 39 = .ok (.invokevirtual 33, 3) := by decide +kernel
theorem dX1_carryEarliest_42 : decode cX1_carryEarliest 42 = .ok (.aload_n 0, 1) := by decide +kernel
theorem dX1_carryEarliest_43 : decode cX1_carryEarliest 43 = .ok (.iload_n 2, 1) := by decide +kernel
theorem dX1_carryEarliest_44 : decode cX1_carryEarliest 44 = .ok (.iload 5, 2) := by decide +kernel
theorem dX1_carryEarliest_46 : decode cX1_carryEarliest 46 = .ok (.iload 6, 2) := by decide +kernel
theorem dX1_carryEarliest_48 : decode cX1_carryEarliest 48 = .ok (.invokevirtual 33, 3) := by decide +kernel
theorem dX1_carryEarliest_51 : decode cX1_carryEarliest 51 = .ok (.iload 4, 2) := by decide +kernel
theorem dX1_carryEarliest_53 : decode cX1_carryEarliest 53 = .ok (.iload 6, 2) := by decide +kernel
theorem dX1_carryEarliest_55 : decode cX1_carryEarliest 55 = .ok (.isub, 1) := by decide +kernel
theorem dX1_carryEarliest_56 : decode cX1_carryEarliest 56 = .ok (.istore 4, 2) := by decide +kernel
theorem dX1_carryEarliest_58 : decode cX1_carryEarliest 58 = .ok (.iinc 5 1, 3) := by decide +kernel
theorem dX1_carryEarliest_61 : decode cX1_carryEarliest 61 = .ok (.goto (-55), 3) := by decide +kernel
theorem dX1_carryEarliest_64 : decode cX1_carryEarliest 64 = .ok (.return_, 1) := by decide +kernel
set_option maxRecDepth 20000 in
theorem ggX1_yearBelow_X1_unitsOf : GoodIn wsX1_yearBelow wsX1_unitsOf := goodIn_r _ [5, 6, 7, 8] (by decide +kernel) (by decide +kernel)
set_option maxRecDepth 20000 in
theorem gX1_yearBelow_X1_unitsOf : GoodIn wsX1_yearBelow (wsV RX1 24 RX1 yX1_unitsOf wsX1_unitsOf) := goodIn_app (goodIn_of _ (by decide +kernel)) ggX1_yearBelow_X1_unitsOf
theorem dX1_yearBelow_0 : decode cX1_yearBelow 0 = .ok (.iload_n 2, 1) := by decide +kernel
theorem dX1_yearBelow_1 : decode cX1_yearBelow 1 = .ok (.istore_n 3, 1) := by decide +kernel
theorem dX1_yearBelow_2 : decode cX1_yearBelow 2 = .ok (.bipush 60, 2) := by decide +kernel
theorem dX1_yearBelow_4 : decode cX1_yearBelow 4 = .ok (.istore 4, 2) := by decide +kernel
theorem dX1_yearBelow_6 : decode cX1_yearBelow 6 = .ok (.iload 4, 2) := by decide +kernel
theorem dX1_yearBelow_8 : decode cX1_yearBelow 8 = .ok (.ifCond .lt 32, 3) := by decide +kernel
theorem dX1_yearBelow_11 : decode cX1_yearBelow 11 = .ok (.aload_n 0, 1) := by decide +kernel
theorem dX1_yearBelow_12 : decode cX1_yearBelow 12 = .ok (.iload_n 1, 1) := by decide +kernel
theorem dX1_yearBelow_13 : decode cX1_yearBelow 13 = .ok (.iload 4, 2) := by decide +kernel
theorem dX1_yearBelow_15 : decode cX1_yearBelow 15 = .ok (.invokevirtual 24, 3) := by decide +kernel
theorem dX1_yearBelow_18 : decode cX1_yearBelow 18 = .ok (.istore 5, 2) := by decide +kernel
theorem dX1_yearBelow_20 : decode cX1_yearBelow 20 = .ok (.iload_n 3, 1) := by decide +kernel
theorem dX1_yearBelow_21 : decode cX1_yearBelow 21 = .ok (.iload 5, 2) := by decide +kernel
theorem dX1_yearBelow_23 : decode cX1_yearBelow 23 = .ok (.if_icmp .ge 6, 3) := by decide +kernel
theorem dX1_yearBelow_26 : decode cX1_yearBelow 26 = .ok (.iload 4, 2) := by decide +kernel
theorem dX1_yearBelow_28 : decode cX1_yearBelow 28 = .ok (.ireturn, 1) := by decide +kernel
theorem dX1_yearBelow_29 : decode cX1_yearBelow 29 = .ok (.iload_n 3, 1) := by decide +kernel
theorem dX1_yearBelow_30 : decode cX1_yearBelow 30 = .ok (.iload 5, 2) := by decide +kernel
theorem dX1_yearBelow_32 : decode cX1_yearBelow 32 = .ok (.isub, 1) := by decide +kernel
theorem dX1_yearBelow_33 : decode cX1_yearBelow 33 = .ok (.istore_n 3, 1) := by decide +kernel
theorem dX1_yearBelow_34 : decode cX1_yearBelow 34 = .ok (.iinc 4 (-1), 3) := by decide +kernel
theorem dX1_yearBelow_37 : decode cX1_yearBelow 37 = .ok (.goto (-31), 3) := by decide +kernel
theorem dX1_yearBelow_40 : decode cX1_yearBelow 40 = .ok (.iconst (-1), 1) := by decide +kernel
theorem dX1_yearBelow_41 : decode cX1_yearBelow 41 = .ok (.ireturn, 1) := by decide +kernel
theorem dX2_init_0 : decode cX2_init 0 = .ok (.aload_n 0, 1) := by decide +kernel
theorem dX2_init_1 : decode cX2_init 1 = .ok (.invokespecial 3, 3) := by decide +kernel
theorem dX2_init_4 : decode cX2_init 4 = .ok (.aload_n 0, 1) := by decide +kernel
theorem dX2_init_5 : decode cX2_init 5 = .ok (.bipush 10, 2) := by decide +kernel
theorem dX2_init_7 : decode cX2_init 7 = .ok (.newarray .int, 2) := by decide +kernel
theorem dX2_init_9 : decode cX2_init 9 = .ok (.putfield 9, 3) := by decide +kernel
theorem dX2_init_12 : decode cX2_init 12 = .ok (.aload_n 0, 1) := by decide +kernel
theorem dX2_init_13 : decode cX2_init 13 = .ok (.bipush 10, 2) := by decide +kernel
theorem dX2_init_15 : decode cX2_init 15 = .ok (.newarray .int, 2) := by decide +kernel
theorem dX2_init_17 : decode cX2_init 17 = .ok (.putfield 15, 3) := by decide +kernel
theorem dX2_init_20 : decode cX2_init 20 = .ok (.return_, 1) := by decide +kernel
theorem dX2_keep_0 : decode cX2_keep 0 = .ok (.aload_n 0, 1) := by decide +kernel
theorem dX2_keep_1 : decode cX2_keep 1 = .ok (.getfield 18, 3) := by decide +kernel
theorem dX2_keep_4 : decode cX2_keep 4 = .ok (.bipush 10, 2) := by decide +kernel
theorem dX2_keep_6 : decode cX2_keep 6 = .ok (.if_icmp .ge 33, 3) := by decide +kernel
theorem dX2_keep_9 : decode cX2_keep 9 = .ok (.aload_n 0, 1) := by decide +kernel
theorem dX2_keep_10 : decode cX2_keep 10 = .ok (.getfield 9, 3) := by decide +kernel
theorem dX2_keep_13 : decode cX2_keep 13 = .ok (.aload_n 0, 1) := by decide +kernel
theorem dX2_keep_14 : decode cX2_keep 14 = .ok (.getfield 18, 3) := by decide +kernel
theorem dX2_keep_17 : decode cX2_keep 17 = .ok (.iload_n 1, 1) := by decide +kernel
theorem dX2_keep_18 : decode cX2_keep 18 = .ok (.iastore, 1) := by decide +kernel
theorem dX2_keep_19 : decode cX2_keep 19 = .ok (.aload_n 0, 1) := by decide +kernel
theorem dX2_keep_20 : decode cX2_keep 20 = .ok (.getfield 15, 3) := by decide +kernel
theorem dX2_keep_23 : decode cX2_keep 23 = .ok (.aload_n 0, 1) := by decide +kernel
theorem dX2_keep_24 : decode cX2_keep 24 = .ok (.getfield 18, 3) := by decide +kernel
theorem dX2_keep_27 : decode cX2_keep 27 = .ok (.iload_n 2, 1) := by decide +kernel
theorem dX2_keep_28 : decode cX2_keep 28 = .ok (.iastore, 1) := by decide +kernel
theorem dX2_keep_29 : decode cX2_keep 29 = .ok (.aload_n 0, 1) := by decide +kernel
theorem dX2_keep_30 : decode cX2_keep 30 = .ok (.dup, 1) := by decide +kernel
theorem dX2_keep_31 : decode cX2_keep 31 = .ok (.getfield 18, 3) := by decide +kernel
theorem dX2_keep_34 : decode cX2_keep 34 = .ok (.iconst 1, 1) := by decide +kernel
theorem dX2_keep_35 : decode cX2_keep 35 = .ok (.iadd, 1) := by decide +kernel
theorem dX2_keep_36 : decode cX2_keep 36 = .ok (.putfield 18, 3) := by decide +kernel
theorem dX2_keep_39 : decode cX2_keep 39 = .ok (.return_, 1) := by decide +kernel
set_option maxRecDepth 20000 in
theorem ggX3_init_X1_init : GoodIn wsX3_init wsX1_init := goodIn_r _ [23, 24, 2, 3, 12, 25, 26, 30, 31] (by decide +kernel) (by decide +kernel)
set_option maxRecDepth 20000 in
theorem gX3_init_X1_init_n11 : GoodIn wsX3_init (wsX1_init) := ggX3_init_X1_init
set_option maxRecDepth 20000 in
theorem ggX3_init_X4_init : GoodIn wsX3_init wsX4_init := goodIn_r _ [28, 29, 2, 3] (by decide +kernel) (by decide +kernel)
set_option maxRecDepth 20000 in
theorem gX3_init_X4_init_n20 : GoodIn wsX3_init (wsX4_init) := ggX3_init_X4_init
theorem dX3_init_0 : decode cX3_init 0 = .ok (.aload_n 0, 1) := by decide +kernel
theorem dX3_init_1 : decode cX3_init 1 = .ok (.invokespecial 3, 3) := by decide +kernel
theorem dX3_init_4 : decode cX3_init 4 = .ok (.aload_n 0, 1) := by decide +kernel
theorem dX3_init_5 : decode cX3_init 5 = .ok (.new 9, 3) := by decide +kernel
theorem dX3_init_8 : decode cX3_init 8 = .ok (.dup, 1) := by decide +kernel
theorem dX3_init_9 : decode cX3_init 9 = .ok (.invokespecial 11, 3) := by decide +kernel
theorem dX3_init_12 : decode cX3_init 12 = .ok (.putfield 12, 3) := by decide +kernel
theorem dX3_init_15 : decode cX3_init 15 = .ok (.aload_n 0, 1) := by decide +kernel
theorem dX3_init_16 : decode cX3_init 16 = .ok (.new 18, 3) := by decide +kernel
theorem dX3_init_19 : decode cX3_init 19 = .ok (.dup, 1) := by decide +kernel
theorem dX3_init_20 : decode cX3_init 20 = .ok (.invokespecial 20, 3) := by decide +kernel
theorem dX3_init_23 : decode cX3_init 23 = .ok (.putfield 21, 3) := by decide +kernel
theorem dX3_init_26 : decode cX3_init 26 = .ok (.aload_n 0, 1) := by decide +kernel
theorem dX3_init_27 : decode cX3_init 27 = .ok (.bipush 12, 2) := by decide +kernel
theorem dX3_init_29 : decode cX3_init 29 = .ok (.newarray .int, 2) := by decide +kernel
theorem dX3_init_31 : decode cX3_init 31 = .ok (.putfield 25, 3) := by decide +kernel
theorem dX3_init_34 : decode cX3_init 34 = .ok (.aload_n 0, 1) := by decide +kernel
theorem dX3_init_35 : decode cX3_init 35 = .ok (.bipush 12, 2) := by decide +kernel
theorem dX3_init_37 : decode cX3_init 37 = .ok (.newarray .int, 2) := by decide +kernel
theorem dX3_init_39 : decode cX3_init 39 = .ok (.putfield 29, 3) := by decide +kernel
theorem dX3_init_42 : decode cX3_init 42 = .ok (.aload_n 0, 1) := by decide +kernel
theorem dX3_init_43 : decode cX3_init 43 = .ok (.bipush 12, 2) := by decide +kernel
theorem dX3_init_45 : decode cX3_init 45 = .ok (.newarray .int, 2) := by decide +kernel
theorem dX3_init_47 : decode cX3_init 47 = .ok (.putfield 32, 3) := by decide +kernel
theorem dX3_init_50 : decode cX3_init 50 = .ok (.aload_n 0, 1) := by decide +kernel
theorem dX3_init_51 : decode cX3_init 51 = .ok (.bipush 12, 2) := by decide +kernel
theorem dX3_init_53 : decode cX3_init 53 = .ok (.newarray .int, 2) := by decide +kernel
theorem dX3_init_55 : decode cX3_init 55 = .ok (.putfield 35, 3) := by decide +kernel
theorem dX3_init_58 : decode cX3_init 58 = .ok (.aload_n 0, 1) := by decide +kernel
theorem dX3_init_59 : decode cX3_init 59 = .ok (.bipush 12, 2) := by decide +kernel
theorem dX3_init_61 : decode cX3_init 61 = .ok (.newarray .int, 2) := by decide +kernel
theorem dX3_init_63 : decode cX3_init 63 = .ok (.putfield 38, 3) := by decide +kernel
theorem dX3_init_66 : decode cX3_init 66 = .ok (.aload_n 0, 1) := by decide +kernel
theorem dX3_init_67 : decode cX3_init 67 = .ok (.bipush 12, 2) := by decide +kernel
theorem dX3_init_69 : decode cX3_init 69 = .ok (.newarray .int, 2) := by decide +kernel
theorem dX3_init_71 : decode cX3_init 71 = .ok (.putfield 41, 3) := by decide +kernel
theorem dX3_init_74 : decode cX3_init 74 = .ok (.aload_n 0, 1) := by decide +kernel
theorem dX3_init_75 : decode cX3_init 75 = .ok (.bipush 11, 2) := by decide +kernel
theorem dX3_init_77 : decode cX3_init 77 = .ok (.newarray .int, 2) := by decide +kernel
theorem dX3_init_79 : decode cX3_init 79 = .ok (.putfield 44, 3) := by decide +kernel
theorem dX3_init_82 : decode cX3_init 82 = .ok (.aload_n 0, 1) := by decide +kernel
theorem dX3_init_83 : decode cX3_init 83 = .ok (.bipush 12, 2) := by decide +kernel
theorem dX3_init_85 : decode cX3_init 85 = .ok (.newarray .int, 2) := by decide +kernel
theorem dX3_init_87 : decode cX3_init 87 = .ok (.putfield 47, 3) := by decide +kernel
theorem dX3_init_90 : decode cX3_init 90 = .ok (.aload_n 0, 1) := by decide +kernel
theorem dX3_init_91 : decode cX3_init 91 = .ok (.iconst (-1), 1) := by decide +kernel
theorem dX3_init_92 : decode cX3_init 92 = .ok (.putfield 50, 3) := by decide +kernel
theorem dX3_init_95 : decode cX3_init 95 = .ok (.iconst 0, 1) := by decide +kernel
theorem dX3_init_96 : decode cX3_init 96 = .ok (.istore_n 1, 1) := by decide +kernel
theorem dX3_init_97 : decode cX3_init 97 = .ok (.iload_n 1, 1) := by decide +kernel
theorem dX3_init_98 : decode cX3_init 98 = .ok (.bipush 12, 2) := by decide +kernel
theorem dX3_init_100 : decode cX3_init 100 = .ok (.if_icmp .ge 25, 3) := by decide +kernel
theorem dX3_init_103 : decode cX3_init 103 = .ok (.aload_n 0, 1) := by decide +kernel
theorem dX3_init_104 : decode cX3_init 104 = .ok (.getfield 25, 3) := by decide +kernel
theorem dX3_init_107 : decode cX3_init 107 = .ok (.iload_n 1, 1) := by decide +kernel
theorem dX3_init_108 : decode cX3_init 108 = .ok (.bipush 100, 2) := by decide +kernel
theorem dX3_init_110 : decode cX3_init 110 = .ok (.iastore, 1) := by decide +kernel
theorem dX3_init_111 : decode cX3_init 111 = .ok (.aload_n 0, 1) := by decide +kernel
theorem dX3_init_112 : decode cX3_init 112 = .ok (.getfield 29, 3) := by decide +kernel
theorem dX3_init_115 : decode cX3_init 115 = .ok (.iload_n 1, 1) := by decide +kernel
theorem dX3_init_116 : decode cX3_init 116 = .ok (.bipush 100, 2) := by decide +kernel
theorem dX3_init_118 : decode cX3_init 118 = .ok (.iastore, 1) := by decide +kernel
theorem dX3_init_119 : decode cX3_init 119 = .ok (.iinc 1 1, 3) := by decide +kernel
theorem dX3_init_122 : decode cX3_init 122 = .ok (.goto (-25), 3) := by decide +kernel
theorem dX3_init_125 : decode cX3_init 125 = .ok (.return_, 1) := by decide +kernel
set_option maxRecDepth 20000 in
theorem ggX3_becomeLike_X1_becomeLike : GoodIn wsX3_becomeLike wsX1_becomeLike := goodIn_r _ [19, 20, 21, 9, 10, 11, 22, 39, 40] (by decide +kernel) (by decide +kernel)
set_option maxRecDepth 20000 in
theorem gX3_becomeLike_X1_becomeLike : GoodIn wsX3_becomeLike (wsV RX3 69 RX1 yX1_becomeLike wsX1_becomeLike) := goodIn_app (goodIn_of _ (by decide +kernel)) ggX3_becomeLike_X1_becomeLike
theorem dX3_becomeLike_0 : decode cX3_becomeLike 0 = .ok (.aload_n 0, 1) := by decide +kernel
theorem dX3_becomeLike_1 : decode cX3_becomeLike 1 = .ok (.aload_n 1, 1) := by decide +kernel
theorem dX3_becomeLike_2 : decode cX3_becomeLike 2 = .ok (.getfield 54, 3) := by decide +kernel
theorem dX3_becomeLike_5 : decode cX3_becomeLike 5 = .ok (.putfield 54, 3) := by decide +kernel
theorem dX3_becomeLike_8 : decode cX3_becomeLike 8 = .ok (.aload_n 0, 1) := by decide +kernel
theorem dX3_becomeLike_9 : decode cX3_becomeLike 9 = .ok (.aload_n 1, 1) := by decide +kernel
theorem dX3_becomeLike_10 : decode cX3_becomeLike 10 = .ok (.getfield 57, 3) := by decide +kernel
theorem dX3_becomeLike_13 : decode cX3_becomeLike 13 = .ok (.putfield 57, 3) := by decide +kernel
theorem dX3_becomeLike_16 : decode cX3_becomeLike 16 = .ok (.aload_n 0, 1) := by decide +kernel
theorem dX3_becomeLike_17 : decode cX3_becomeLike 17 = .ok (.aload_n 1, 1) := by decide +kernel
theorem dX3_becomeLike_18 : decode cX3_becomeLike 18 = .ok (.getfield 60, 3) := by decide +kernel
theorem dX3_becomeLike_21 : decode cX3_becomeLike 21 = .ok (.putfield 60, 3) := by decide +kernel
theorem dX3_becomeLike_24 : decode cX3_becomeLike 24 = .ok (.aload_n 0, 1) := by decide +kernel
theorem dX3_becomeLike_25 : decode cX3_becomeLike 25 = .ok (.aload_n 1, 1) := by decide +kernel
theorem dX3_becomeLike_26 : decode cX3_becomeLike 26 = .ok (.getfield 63, 3) := by decide +kernel
theorem dX3_becomeLike_29 : decode cX3_becomeLike 29 = .ok (.putfield 63, 3) := by decide +kernel
theorem dX3_becomeLike_32 : decode cX3_becomeLike 32 = .ok (.aload_n 0, 1) := by decide +kernel
theorem dX3_becomeLike_33 : decode cX3_becomeLike 33 = .ok (.aload_n 1, 1) := by decide +kernel
theorem dX3_becomeLike_34 : decode cX3_becomeLike 34 = .ok (.getfield 66, 3) := by decide +kernel
theorem dX3_becomeLike_37 : decode cX3_becomeLike 37 = .ok (.putfield 66, 3) := by decide +kernel
theorem dX3_becomeLike_40 : decode cX3_becomeLike 40 = .ok (.aload_n 0, 1) := by decide +kernel
theorem dX3_becomeLike_41 : decode cX3_becomeLike 41 = .ok (.getfield 12, 3) := by decide +kernel
theorem dX3_becomeLike_44 : decode cX3_becomeLike 44 = .ok (.aload_n 1, 1) := by decide +kernel
theorem dX3_becomeLike_45 : decode cX3_becomeLike 45 = .ok (.getfield 12, 3) := by decide +kernel
theorem dX3_becomeLike_48 : decode cX3_becomeLike 48 = .ok (.invokevirtual 69, 3) := by decide +kernel
theorem dX3_becomeLike_51 : decode cX3_becomeLike 51 = .ok (.aload_n 1, 1) := by decide +kernel
theorem dX3_becomeLike_52 : decode cX3_becomeLike 52 = .ok (.getfield 25, 3) := by decide +kernel
theorem dX3_becomeLike_55 : decode cX3_becomeLike 55 = .ok (.iconst 0, 1) := by decide +kernel
theorem dX3_becomeLike_56 : decode cX3_becomeLike 56 = .ok (.aload_n 0, 1) := by decide +kernel
theorem dX3_becomeLike_57 : decode cX3_becomeLike 57 = .ok (.getfield 25, 3) := by decide +kernel
theorem dX3_becomeLike_60 : decode cX3_becomeLike 60 = .ok (.iconst 0, 1) := by decide +kernel
theorem dX3_becomeLike_61 : decode cX3_becomeLike 61 = .ok (.bipush 12, 2) := by decide +kernel
theorem dX3_becomeLike_63 : decode cX3_becomeLike 63 = .ok (.invokestatic 73, 3) := by decide +kernel
theorem dX3_becomeLike_66 : decode cX3_becomeLike 66 = .ok (.aload_n 1, 1) := by decide +kernel
theorem dX3_becomeLike_67 : decode cX3_becomeLike 67 = .ok (.getfield 29, 3) := by decide +kernel
theorem dX3_becomeLike_70 : decode cX3_becomeLike 70 = .ok (.iconst 0, 1) := by decide +kernel
theorem dX3_becomeLike_71 : decode cX3_becomeLike 71 = .ok (.aload_n 0, 1) := by decide +kernel
theorem dX3_becomeLike_72 : decode cX3_becomeLike 72 = .ok (.getfield 29, 3) := by decide +kernel
theorem dX3_becomeLike_75 : decode cX3_becomeLike 75 = .ok (.iconst 0, 1) := by decide +kernel
theorem dX3_becomeLike_76 : decode cX3_becomeLike 76 = .ok (.bipush 12, 2) := by decide +kernel
theorem dX3_becomeLike_78 : decode cX3_becomeLike 78 = .ok (.invokestatic 73, 3) := by decide +kernel
theorem dX3_becomeLike_81 : decode cX3_becomeLike 81 = .ok (.aload_n 1, 1) := by decide +kernel
theorem dX3_becomeLike_82 : decode cX3_becomeLike 82 = .ok (.getfield 32, 3) := by decide +kernel
theorem dX3_becomeLike_85 : decode cX3_becomeLike 85 = .ok (.iconst 0, 1) := by decide +kernel
theorem dX3_becomeLike_86 : decode cX3_becomeLike 86 = .ok (.aload_n 0, 1) := by decide +kernel
theorem dX3_becomeLike_87 : decode cX3_becomeLike 87 = .ok (.getfield 32, 3) := by decide +kernel
theorem dX3_becomeLike_90 : decode cX3_becomeLike 90 = .ok (.iconst 0, 1) := by decide +kernel
theorem dX3_becomeLike_91 : decode cX3_becomeLike 91 = .ok (.bipush 12, 2) := by decide +kernel
theorem dX3_becomeLike_93 : decode cX3_becomeLike 93 = .ok (.invokestatic 73, 3) := by decide +kernel
theorem dX3_becomeLike_96 : decode cX3_becomeLike 96 = .ok (.aload_n 1, 1) := by decide +kernel
theorem dX3_becomeLike_97 : decode cX3_becomeLike 97 = .ok (.getfield 35, 3) := by decide +kernel
theorem dX3_becomeLike_100 : decode cX3_becomeLike 100 = .ok (.iconst 0, 1) := by decide +kernel
theorem dX3_becomeLike_101 : decode cX3_becomeLike 101 = .ok (.aload_n 0, 1) := by decide +kernel
theorem dX3_becomeLike_102 : decode cX3_becomeLike 102 = .ok (.getfield 35, 3) := by decide +kernel
theorem dX3_becomeLike_105 : decode cX3_becomeLike 105 = .ok (.iconst 0, 1) := by decide +kernel
theorem dX3_becomeLike_106 : decode cX3_becomeLike 106 = .ok (.bipush 12, 2) := by decide +kernel
theorem dX3_becomeLike_108 : decode cX3_becomeLike 108 = .ok (.invokestatic 73, 3) := by decide +kernel
theorem dX3_becomeLike_111 : decode cX3_becomeLike 111 = .ok (.return_, 1) := by decide +kernel
set_option maxRecDepth 20000 in
theorem ggX3_goThroughYear_X3_snowOrMelt : GoodIn wsX3_goThroughYear wsX3_snowOrMelt := goodIn_r _ [6, 7, 8, 9, 10, 11, 1, 12, 13, 14, 15, 16, 17, 18, 19, 20, 21, 22, 23, 5, 24, 25, 26, 27, 28, 29, 30, 31, 32, 33, 34, 35, 36, 37, 38, 39, 40, 41, 42, 43, 44, 45, 46, 47, 48, 49, 50, 51, 112, 113, 114, 115, 116, 117, 118, 119, 120, 121, 122, 123, 124, 125, 126, 127, 128, 129, 130, 131, 132, 133, 134] (by decide +kernel) (by decide +kernel)
set_option maxRecDepth 20000 in
theorem gX3_goThroughYear_X3_snowOrMelt : GoodIn wsX3_goThroughYear (wsV RX3 79 RX3 yX3_snowOrMelt wsX3_snowOrMelt) := goodIn_app (goodIn_of _ (by decide +kernel)) ggX3_goThroughYear_X3_snowOrMelt
set_option maxRecDepth 20000 in
theorem ggX3_goThroughYear_X3_flow : GoodIn wsX3_goThroughYear wsX3_flow := goodIn_r _ [55, 56, 57, 9, 58, 59, 60, 5, 61, 21, 22, 23, 24, 25, 10, 62, 63, 64, 65, 66, 19, 67, 68, 69, 17, 70, 71, 72, 28, 73, 26, 27, 29, 74, 75, 76, 38, 77, 46, 16, 18, 47, 48, 49, 50, 40, 51, 36, 37, 39, 41, 112, 113, 114, 115, 116, 117, 118, 119, 120, 121, 122, 123, 124, 125, 126, 127, 128, 129] (by decide +kernel) (by decide +kernel)
set_option maxRecDepth 20000 in
theorem gX3_goThroughYear_X3_flow : GoodIn wsX3_goThroughYear (wsV RX3 83 RX3 yX3_flow wsX3_flow) := goodIn_app (goodIn_of _ (by decide +kernel)) ggX3_goThroughYear_X3_flow
set_option maxRecDepth 20000 in
theorem ggX3_goThroughYear_X3_runOff : GoodIn wsX3_goThroughYear wsX3_runOff := goodIn_r _ [81, 12, 82, 19, 30, 31, 32, 5, 33, 25, 34, 83, 84, 85, 86, 9, 10, 112, 113, 114, 115, 116, 117, 118, 119, 120, 121, 122, 123, 124, 125, 126, 127, 130, 131, 132, 133, 134, 128, 129] (by decide +kernel) (by decide +kernel)
set_option maxRecDepth 20000 in
theorem gX3_goThroughYear_X3_runOff : GoodIn wsX3_goThroughYear (wsV RX3 86 RX3 yX3_runOff wsX3_runOff) := goodIn_app (goodIn_of _ (by decide +kernel)) ggX3_goThroughYear_X3_runOff
set_option maxRecDepth 20000 in
theorem ggX3_goThroughYear_X3_breakOut : GoodIn wsX3_goThroughYear wsX3_breakOut := goodIn_r _ [90, 91, 19, 12, 82, 92, 93, 94, 5, 95, 9, 10, 15, 16, 17, 18, 112, 113, 114, 115, 116, 117, 118, 119, 120, 121, 122, 123, 124, 125, 126, 127, 130, 131, 132, 133, 134, 128, 129] (by decide +kernel) (by decide +kernel)
set_option maxRecDepth 20000 in
theorem gX3_goThroughYear_X3_breakOut : GoodIn wsX3_goThroughYear (wsV RX3 89 RX3 yX3_breakOut wsX3_breakOut) := goodIn_app (goodIn_of _ (by decide +kernel)) ggX3_goThroughYear_X3_breakOut
set_option maxRecDepth 20000 in
theorem ggX3_goThroughYear_X3_calve : GoodIn wsX3_goThroughYear wsX3_calve := goodIn_r _ [99, 9, 10, 34, 25, 12, 100, 30, 31, 32, 5, 33, 42, 43, 44, 38, 45, 46, 16, 17, 18, 47, 48, 49, 50, 40, 51, 36, 37, 39, 41, 112, 113, 114, 115, 116, 117, 118, 119, 120, 121, 122, 123, 124, 125, 126, 127, 128, 129, 130, 131, 132, 133, 134] (by decide +kernel) (by decide +kernel)
set_option maxRecDepth 20000 in
theorem gX3_goThroughYear_X3_calve : GoodIn wsX3_goThroughYear (wsV RX3 92 RX3 yX3_calve wsX3_calve) := goodIn_app (goodIn_of _ (by decide +kernel)) ggX3_goThroughYear_X3_calve
set_option maxRecDepth 20000 in
theorem ggX3_goThroughYear_X3_moveBed : GoodIn wsX3_goThroughYear wsX3_moveBed := goodIn_r _ [104, 105, 9, 10, 25, 26, 27, 28, 29, 112, 113, 114, 115, 116, 117, 118, 119, 120, 121, 122, 123, 124, 125, 126, 127, 128, 129] (by decide +kernel) (by decide +kernel)
set_option maxRecDepth 20000 in
theorem gX3_goThroughYear_X3_moveBed : GoodIn wsX3_goThroughYear (wsV RX3 95 RX3 yX3_moveBed wsX3_moveBed) := goodIn_app (goodIn_of _ (by decide +kernel)) ggX3_goThroughYear_X3_moveBed
set_option maxRecDepth 20000 in
theorem ggX3_goThroughYear_X3_markFront : GoodIn wsX3_goThroughYear wsX3_markFront := goodIn_r _ [109, 110, 9, 10, 111, 112, 113, 114, 115, 116, 117, 118, 119, 120, 121, 122, 123, 124, 125, 126, 127, 128, 129] (by decide +kernel) (by decide +kernel)
set_option maxRecDepth 20000 in
theorem gX3_goThroughYear_X3_markFront : GoodIn wsX3_goThroughYear (wsV RX3 98 RX3 yX3_markFront wsX3_markFront) := goodIn_app (goodIn_of _ (by decide +kernel)) ggX3_goThroughYear_X3_markFront
theorem dX3_goThroughYear_0 : decode cX3_goThroughYear 0 = .ok (.aload_n 0, 1) := by decide +kernel
theorem dX3_goThroughYear_1 : decode cX3_goThroughYear 1 = .ok (.dup, 1) := by decide +kernel
theorem dX3_goThroughYear_2 : decode cX3_goThroughYear 2 = .ok (.getfield 54, 3) := by decide +kernel
theorem dX3_goThroughYear_5 : decode cX3_goThroughYear 5 = .ok (.iconst 1, 1) := by decide +kernel
theorem dX3_goThroughYear_6 : decode cX3_goThroughYear 6 = .ok (.iadd, 1) := by decide +kernel
theorem dX3_goThroughYear_7 : decode cX3_goThroughYear 7 = .ok (.putfield 54, 3) := by decide +kernel
theorem dX3_goThroughYear_10 : decode cX3_goThroughYear 10 = .ok (.iconst 0, 1) := by decide +kernel
theorem dX3_goThroughYear_11 : decode cX3_goThroughYear 11 = .ok (.istore_n 1, 1) := by decide +kernel
theorem dX3_goThroughYear_12 : decode cX3_goThroughYear 12 = .ok (.iload_n 1, 1) := by decide +kernel
theorem dX3_goThroughYear_13 : decode cX3_goThroughYear 13 = .ok (.bipush 12, 2) := by decide +kernel
theorem dX3_goThroughYear_15 : decode cX3_goThroughYear 15 = .ok (.if_icmp .ge 14, 3) := by decide +kernel
theorem dX3_goThroughYear_18 : decode cX3_goThroughYear 18 = .ok (.aload_n 0, 1) := by decide +kernel
theorem dX3_goThroughYear_19 : decode cX3_goThroughYear 19 = .ok (.iload_n 1, 1) := by decide +kernel
theorem dX3_goThroughYear_20 : decode cX3_goThroughYear 20 = .ok (.invokevirtual 79, 3) := by decide +kernel
theorem dX3_goThroughYear_23 : decode cX3_goThroughYear 23 = .ok (.iinc 1 1, 3) := by decide +kernel
theorem dX3_goThroughYear_26 : decode cX3_goThroughYear 26 = .ok (.goto (-14), 3) := by decide +kernel
theorem dX3_goThroughYear_29 : decode cX3_goThroughYear 29 = .ok (.aload_n 0, 1) := by decide +kernel
theorem dX3_goThroughYear_30 : decode cX3_goThroughYear 30 = .ok (.invokevirtual 83, 3) := by decide +kernel
theorem dX3_goThroughYear_33 : decode cX3_goThroughYear 33 = .ok (.iconst 0, 1) := by decide +kernel
theorem dX3_goThroughYear_34 : decode cX3_goThroughYear 34 = .ok (.istore_n 1, 1) := by decide +kernel
theorem dX3_goThroughYear_35 : decode cX3_goThroughYear 35 = .ok (.iload_n 1, 1) := by decide +kernel
theorem dX3_goThroughYear_36 : decode cX3_goThroughYear 36 = .ok (.bipush 12, 2) := by decide +kernel
theorem dX3_goThroughYear_38 : decode cX3_goThroughYear 38 = .ok (.if_icmp .ge 14, 3) := by decide +kernel
theorem dX3_goThroughYear_41 : decode cX3_goThroughYear 41 = .ok (.aload_n 0, 1) := by decide +kernel
theorem dX3_goThroughYear_42 : decode cX3_goThroughYear 42 = .ok (.iload_n 1, 1) := by decide +kernel
theorem dX3_goThroughYear_43 : decode cX3_goThroughYear 43 = .ok (.invokevirtual 86, 3) := by decide +kernel
theorem dX3_goThroughYear_46 : decode cX3_goThroughYear 46 = .ok (.iinc 1 1, 3) := by decide +kernel
theorem dX3_goThroughYear_49 : decode cX3_goThroughYear 49 = .ok (.goto (-14), 3) := by decide +kernel
theorem dX3_goThroughYear_52 : decode cX3_goThroughYear 52 = .ok (.iconst 0, 1) := by decide +kernel
theorem dX3_goThroughYear_53 : decode cX3_goThroughYear 53 = .ok (.istore_n 1, 1) := by decide +kernel
theorem dX3_goThroughYear_54 : decode cX3_goThroughYear 54 = .ok (.iload_n 1, 1) := by decide +kernel
theorem dX3_goThroughYear_55 : decode cX3_goThroughYear 55 = .ok (.bipush 12, 2) := by decide +kernel
theorem dX3_goThroughYear_57 : decode cX3_goThroughYear 57 = .ok (.if_icmp .ge 14, 3) := by decide +kernel
theorem dX3_goThroughYear_60 : decode cX3_goThroughYear 60 = .ok (.aload_n 0, 1) := by decide +kernel
theorem dX3_goThroughYear_61 : decode cX3_goThroughYear 61 = .ok (.iload_n 1, 1) := by decide +kernel
theorem dX3_goThroughYear_62 : decode cX3_goThroughYear 62 = .ok (.invokevirtual 89, 3) := by decide +kernel
theorem dX3_goThroughYear_65 : decode cX3_goThroughYear 65 = .ok (.iinc 1 1, 3) := by decide +kernel
theorem dX3_goThroughYear_68 : decode cX3_goThroughYear 68 = .ok (.goto (-14), 3) := by decide +kernel
theorem dX3_goThroughYear_71 : decode cX3_goThroughYear 71 = .ok (.aload_n 0, 1) := by decide +kernel
theorem dX3_goThroughYear_72 : decode cX3_goThroughYear 72 = .ok (.invokevirtual 92, 3) := by decide +kernel
theorem dX3_goThroughYear_75 : decode cX3_goThroughYear 75 = .ok (.iconst 0, 1) := by decide +kernel
theorem dX3_goThroughYear_76 : decode cX3_goThroughYear 76 = .ok (.istore_n 1, 1) := by decide +kernel
theorem dX3_goThroughYear_77 : decode cX3_goThroughYear 77 = .ok (.iload_n 1, 1) := by decide +kernel
theorem dX3_goThroughYear_78 : decode cX3_goThroughYear 78 = .ok (.bipush 12, 2) := by decide +kernel
theorem dX3_goThroughYear_80 : decode cX3_goThroughYear 80 = .ok (.if_icmp .ge 14, 3) := by decide +kernel
theorem dX3_goThroughYear_83 : decode cX3_goThroughYear 83 = .ok (.aload_n 0, 1) := by decide +kernel
theorem dX3_goThroughYear_84 : decode cX3_goThroughYear 84 = .ok (.iload_n 1, 1) := by decide +kernel
theorem dX3_goThroughYear_85 : decode cX3_goThroughYear 85 = .ok (.invokevirtual 95, 3) := by decide +kernel
theorem dX3_goThroughYear_88 : decode cX3_goThroughYear 88 = .ok (.iinc 1 1, 3) := by decide +kernel
theorem dX3_goThroughYear_91 : decode cX3_goThroughYear 91 = .ok (.goto (-14), 3) := by decide +kernel
theorem dX3_goThroughYear_94 : decode cX3_goThroughYear 94 = .ok (.aload_n 0, 1) := by decide +kernel
theorem dX3_goThroughYear_95 : decode cX3_goThroughYear 95 = .ok (.invokevirtual 98, 3) := by decide +kernel
theorem dX3_goThroughYear_98 : decode cX3_goThroughYear 98 = .ok (.return_, 1) := by decide +kernel
set_option maxRecDepth 20000 in
theorem ggX3_tellOf_X3_surface : GoodIn wsX3_tellOf wsX3_surface := goodIn_r _ [12, 1, 2, 3, 31, 32, 33, 34, 35, 36, 37, 38, 39, 40, 41, 42, 43, 44, 45, 46, 47, 48] (by decide +kernel) (by decide +kernel)
set_option maxRecDepth 20000 in
theorem gX3_tellOf_X3_surface : GoodIn wsX3_tellOf (wsV RX3 104 RX3 yX3_surface wsX3_surface) := goodIn_app (goodIn_of _ (by decide +kernel)) ggX3_tellOf_X3_surface
set_option maxRecDepth 20000 in
theorem ggX3_tellOf_X3_hasCrevasse : GoodIn wsX3_tellOf wsX3_hasCrevasse := goodIn_r _ [16, 17, 18, 19, 20, 21, 31, 32, 33, 34, 35, 36, 37, 38, 39, 40, 41, 42, 43, 44, 45, 46] (by decide +kernel) (by decide +kernel)
set_option maxRecDepth 20000 in
theorem gX3_tellOf_X3_hasCrevasse : GoodIn wsX3_tellOf (wsV RX3 108 RX3 yX3_hasCrevasse wsX3_hasCrevasse) := goodIn_app (goodIn_of _ (by decide +kernel)) ggX3_tellOf_X3_hasCrevasse
set_option maxRecDepth 20000 in
theorem ggX3_tellOf_X3_standsInSea : GoodIn wsX3_tellOf wsX3_standsInSea := goodIn_r _ [25, 1, 26, 31, 32, 33, 34, 35, 36, 37, 38, 39, 40, 41, 42, 43, 44, 45, 46] (by decide +kernel) (by decide +kernel)
set_option maxRecDepth 20000 in
theorem gX3_tellOf_X3_standsInSea : GoodIn wsX3_tellOf (wsV RX3 112 RX3 yX3_standsInSea wsX3_standsInSea) := goodIn_app (goodIn_of _ (by decide +kernel)) ggX3_tellOf_X3_standsInSea
set_option maxRecDepth 20000 in
theorem ggX3_tellOf_X3_potential : GoodIn wsX3_tellOf wsX3_potential := goodIn_r _ [30, 1, 2, 3, 31, 32, 33, 34, 35, 36, 37, 38, 39, 40, 41, 42, 43, 44, 45, 46, 47, 48] (by decide +kernel) (by decide +kernel)
set_option maxRecDepth 20000 in
theorem gX3_tellOf_X3_potential : GoodIn wsX3_tellOf (wsV RX3 115 RX3 yX3_potential wsX3_potential) := goodIn_app (goodIn_of _ (by decide +kernel)) ggX3_tellOf_X3_potential
theorem dX3_tellOf_0 : decode cX3_tellOf 0 = .ok (.iload_n 2, 1) := by decide +kernel
theorem dX3_tellOf_1 : decode cX3_tellOf 1 = .ok (.tableswitch 147 0 8 #[51, 58, 68, 75, 81, 88, 102, 126, 140], 51) := by decide +kernel
theorem dX3_tellOf_52 : decode cX3_tellOf 52 = .ok (.aload_n 0, 1) := by decide +kernel
theorem dX3_tellOf_53 : decode cX3_tellOf 53 = .ok (.getfield 25, 3) := by decide +kernel
theorem dX3_tellOf_56 : decode cX3_tellOf 56 = .ok (.iload_n 1, 1) := by decide +kernel
theorem dX3_tellOf_57 : decode cX3_tellOf 57 = .ok (.iaload, 1) := by decide +kernel
theorem dX3_tellOf_58 : decode cX3_tellOf 58 = .ok (.ireturn, 1) := by decide +kernel
theorem dX3_tellOf_59 : decode cX3_tellOf 59 = .ok (.aload_n 0, 1) := by decide +kernel
theorem dX3_tellOf_60 : decode cX3_tellOf 60 = .ok (.getfield 12, 3) := by decide +kernel
theorem dX3_tellOf_63 : decode cX3_tellOf 63 = .ok (.getfield 101, 3) := by decide +kernel
theorem dX3_tellOf_66 : decode cX3_tellOf 66 = .ok (.iload_n 1, 1) := by decide +kernel
theorem dX3_tellOf_67 : decode cX3_tellOf 67 = .ok (.iaload, 1) := by decide +kernel
theorem dX3_tellOf_68 : decode cX3_tellOf 68 = .ok (.ireturn, 1) := by decide +kernel
theorem dX3_tellOf_69 : decode cX3_tellOf 69 = .ok (.aload_n 0, 1) := by decide +kernel
theorem dX3_tellOf_70 : decode cX3_tellOf 70 = .ok (.getfield 32, 3) := by decide +kernel
theorem dX3_tellOf_73 : decode cX3_tellOf 73 = .ok (.iload_n 1, 1) := by decide +kernel
theorem dX3_tellOf_74 : decode cX3_tellOf 74 = .ok (.iaload, 1) := by decide +kernel
theorem dX3_tellOf_75 : decode cX3_tellOf 75 = .ok (.ireturn, 1) := by decide +kernel
theorem dX3_tellOf_76 : decode cX3_tellOf 76 = .ok (.aload_n 0, 1) := by decide +kernel
theorem dX3_tellOf_77 : decode cX3_tellOf 77 = .ok (.iload_n 1, 1) := by decide +kernel
theorem dX3_tellOf_78 : decode cX3_tellOf 78 = .ok (.invokevirtual 104, 3) := by decide +kernel
theorem dX3_tellOf_81 : decode cX3_tellOf 81 = .ok (.ireturn, 1) := by decide +kernel
theorem dX3_tellOf_82 : decode cX3_tellOf 82 = .ok (.aload_n 0, 1) := by decide +kernel
theorem dX3_tellOf_83 : decode cX3_tellOf 83 = .ok (.getfield 35, 3) := by decide +kernel
theorem dX3_tellOf_86 : decode cX3_tellOf 86 = .ok (.iload_n 1, 1) := by decide +kernel
theorem dX3_tellOf_87 : decode cX3_tellOf 87 = .ok (.iaload, 1) := by decide +kernel
theorem dX3_tellOf_88 : decode cX3_tellOf 88 = .ok (.ireturn, 1) := by decide +kernel
theorem dX3_tellOf_89 : decode cX3_tellOf 89 = .ok (.aload_n 0, 1) := by decide +kernel
theorem dX3_tellOf_90 : decode cX3_tellOf 90 = .ok (.iload_n 1, 1) := by decide +kernel
theorem dX3_tellOf_91 : decode cX3_tellOf 91 = .ok (.invokevirtual 108, 3) := by decide +kernel
theorem dX3_tellOf_94 : decode cX3_tellOf 94 = .ok (.ifCond .eq 7, 3) := by decide +kernel
theorem dX3_tellOf_97 : decode cX3_tellOf 97 = .ok (.iconst 1, 1) := by decide +kernel
theorem dX3_tellOf_98 : decode cX3_tellOf 98 = .ok (.goto 4, 3) := by decide +kernel
theorem dX3_tellOf_101 : decode cX3_tellOf 101 = .ok (.iconst 0, 1) := by decide +kernel
theorem dX3_tellOf_102 : decode cX3_tellOf 102 = .ok (.ireturn, 1) := by decide +kernel
theorem dX3_tellOf_103 : decode cX3_tellOf 103 = .ok (.aload_n 0, 1) := by decide +kernel
theorem dX3_tellOf_104 : decode cX3_tellOf 104 = .ok (.iload_n 1, 1) := by decide +kernel
theorem dX3_tellOf_105 : decode cX3_tellOf 105 = .ok (.invokevirtual 108, 3) := by decide +kernel
theorem dX3_tellOf_108 : decode cX3_tellOf 108 = .ok (.ifCond .eq 17, 3) := by decide +kernel
theorem dX3_tellOf_111 : decode cX3_tellOf 111 = .ok (.aload_n 0, 1) := by decide +kernel
theorem dX3_tellOf_112 : decode cX3_tellOf 112 = .ok (.getfield 38, 3) := by decide +kernel
theorem dX3_tellOf_115 : decode cX3_tellOf 115 = .ok (.iload_n 1, 1) := by decide +kernel
theorem dX3_tellOf_116 : decode cX3_tellOf 116 = .ok (.iaload, 1) := by decide +kernel
theorem dX3_tellOf_117 : decode cX3_tellOf 117 = .ok (.iconst 3, 1) := by decide +kernel
theorem dX3_tellOf_118 : decode cX3_tellOf 118 = .ok (.if_icmp .lt 7, 3) := by decide +kernel
theorem dX3_tellOf_121 : decode cX3_tellOf 121 = .ok (.iconst 1, 1) := by decide +kernel
theorem dX3_tellOf_122 : decode cX3_tellOf 122 = .ok (.goto 4, 3) := by decide +kernel
theorem dX3_tellOf_125 : decode cX3_tellOf 125 = .ok (.iconst 0, 1) := by decide +kernel
theorem dX3_tellOf_126 : decode cX3_tellOf 126 = .ok (.ireturn, 1) := by decide +kernel
theorem dX3_tellOf_127 : decode cX3_tellOf 127 = .ok (.aload_n 0, 1) := by decide +kernel
theorem dX3_tellOf_128 : decode cX3_tellOf 128 = .ok (.iload_n 1, 1) := by decide +kernel
theorem dX3_tellOf_129 : decode cX3_tellOf 129 = .ok (.invokevirtual 112, 3) := by decide +kernel
theorem dX3_tellOf_132 : decode cX3_tellOf 132 = .ok (.ifCond .eq 7, 3) := by decide +kernel
theorem dX3_tellOf_135 : decode cX3_tellOf 135 = .ok (.iconst 1, 1) := by decide +kernel
theorem dX3_tellOf_136 : decode cX3_tellOf 136 = .ok (.goto 4, 3) := by decide +kernel
theorem dX3_tellOf_139 : decode cX3_tellOf 139 = .ok (.iconst 0, 1) := by decide +kernel
theorem dX3_tellOf_140 : decode cX3_tellOf 140 = .ok (.ireturn, 1) := by decide +kernel
theorem dX3_tellOf_141 : decode cX3_tellOf 141 = .ok (.aload_n 0, 1) := by decide +kernel
theorem dX3_tellOf_142 : decode cX3_tellOf 142 = .ok (.getfield 29, 3) := by decide +kernel
theorem dX3_tellOf_145 : decode cX3_tellOf 145 = .ok (.iload_n 1, 1) := by decide +kernel
theorem dX3_tellOf_146 : decode cX3_tellOf 146 = .ok (.iaload, 1) := by decide +kernel
theorem dX3_tellOf_147 : decode cX3_tellOf 147 = .ok (.ireturn, 1) := by decide +kernel
theorem dX3_tellOf_148 : decode cX3_tellOf 148 = .ok (.aload_n 0, 1) := by decide +kernel
theorem dX3_tellOf_149 : decode cX3_tellOf 149 = .ok (.iload_n 1, 1) := by decide +kernel
theorem dX3_tellOf_150 : decode cX3_tellOf 150 = .ok (.invokevirtual 115, 3) := by decide +kernel
theorem dX3_tellOf_153 : decode cX3_tellOf 153 = .ok (.ireturn, 1) := by decide +kernel
theorem dX3_allWater_0 : decode cX3_allWater 0 = .ok (.iconst 0, 1) := by decide +kernel
theorem dX3_allWater_1 : decode cX3_allWater 1 = .ok (.istore_n 1, 1) := by decide +kernel
theorem dX3_allWater_2 : decode cX3_allWater 2 = .ok (.iconst 0, 1) := by decide +kernel
theorem dX3_allWater_3 : decode cX3_allWater 3 = .ok (.istore_n 2, 1) := by decide +kernel
theorem dX3_allWater_4 : decode cX3_allWater 4 = .ok (.iload_n 2, 1) := by decide +kernel
theorem dX3_allWater_5 : decode cX3_allWater 5 = .ok (.bipush 12, 2) := by decide +kernel
theorem dX3_allWater_7 : decode cX3_allWater 7 = .ok (.if_icmp .ge 18, 3) := by decide +kernel
theorem dX3_allWater_10 : decode cX3_allWater 10 = .ok (.iload_n 1, 1) := by decide +kernel
theorem dX3_allWater_11 : decode cX3_allWater 11 = .ok (.aload_n 0, 1) := by decide +kernel
theorem dX3_allWater_12 : decode cX3_allWater 12 = .ok (.getfield 32, 3) := by decide +kernel
theorem dX3_allWater_15 : decode cX3_allWater 15 = .ok (.iload_n 2, 1) := by decide +kernel
theorem dX3_allWater_16 : decode cX3_allWater 16 = .ok (.iaload, 1) := by decide +kernel
theorem dX3_allWater_17 : decode cX3_allWater 17 = .ok (.iadd, 1) := by decide +kernel
theorem dX3_allWater_18 : decode cX3_allWater 18 = .ok (.istore_n 1, 1) := by decide +kernel
theorem dX3_allWater_19 : decode cX3_allWater 19 = .ok (.iinc 2 1, 3) := by decide +kernel
theorem dX3_allWater_22 : decode cX3_allWater 22 = .ok (.goto (-18), 3) := by decide +kernel
theorem dX3_allWater_25 : decode cX3_allWater 25 = .ok (.iload_n 1, 1) := by decide +kernel
theorem dX3_allWater_26 : decode cX3_allWater 26 = .ok (.ireturn, 1) := by decide +kernel
theorem dX3_surface_0 : decode cX3_surface 0 = .ok (.aload_n 0, 1) := by decide +kernel
theorem dX3_surface_1 : decode cX3_surface 1 = .ok (.getfield 25, 3) := by decide +kernel
theorem dX3_surface_4 : decode cX3_surface 4 = .ok (.iload_n 1, 1) := by decide +kernel
theorem dX3_surface_5 : decode cX3_surface 5 = .ok (.iaload, 1) := by decide +kernel
theorem dX3_surface_6 : decode cX3_surface 6 = .ok (.aload_n 0, 1) := by decide +kernel
theorem dX3_surface_7 : decode cX3_surface 7 = .ok (.getfield 12, 3) := by decide +kernel
theorem dX3_surface_10 : decode cX3_surface 10 = .ok (.getfield 101, 3) := by decide +kernel
theorem dX3_surface_13 : decode cX3_surface 13 = .ok (.iload_n 1, 1) := by decide +kernel
theorem dX3_surface_14 : decode cX3_surface 14 = .ok (.iaload, 1) := by decide +kernel
theorem dX3_surface_15 : decode cX3_surface 15 = .ok (.iadd, 1) := by decide +kernel
theorem dX3_surface_16 : decode cX3_surface 16 = .ok (.ireturn, 1) := by decide +kernel
theorem dX3_potential_0 : decode cX3_potential 0 = .ok (.bipush 10, 2) := by decide +kernel
theorem dX3_potential_2 : decode cX3_potential 2 = .ok (.aload_n 0, 1) := by decide +kernel
theorem dX3_potential_3 : decode cX3_potential 3 = .ok (.getfield 25, 3) := by decide +kernel
theorem dX3_potential_6 : decode cX3_potential 6 = .ok (.iload_n 1, 1) := by decide +kernel
theorem dX3_potential_7 : decode cX3_potential 7 = .ok (.iaload, 1) := by decide +kernel
theorem dX3_potential_8 : decode cX3_potential 8 = .ok (.imul, 1) := by decide +kernel
theorem dX3_potential_9 : decode cX3_potential 9 = .ok (.bipush 9, 2) := by decide +kernel
theorem dX3_potential_11 : decode cX3_potential 11 = .ok (.aload_n 0, 1) := by decide +kernel
theorem dX3_potential_12 : decode cX3_potential 12 = .ok (.getfield 12, 3) := by decide +kernel
theorem dX3_potential_15 : decode cX3_potential 15 = .ok (.getfield 101, 3) := by decide +kernel
theorem dX3_potential_18 : decode cX3_potential 18 = .ok (.iload_n 1, 1) := by decide +kernel
theorem dX3_potential_19 : decode cX3_potential 19 = .ok (.iaload, 1) := by decide +kernel
theorem dX3_potential_20 : decode cX3_potential 20 = .ok (.imul, 1) := by decide +kernel
theorem dX3_potential_21 : decode cX3_potential 21 = .ok (.iadd, 1) := by decide +kernel
theorem dX3_potential_22 : decode cX3_potential 22 = .ok (.ireturn, 1) := by decide +kernel
theorem dX3_standsInSea_0 : decode cX3_standsInSea 0 = .ok (.aload_n 0, 1) := by decide +kernel
theorem dX3_standsInSea_1 : decode cX3_standsInSea 1 = .ok (.getfield 25, 3) := by decide +kernel
theorem dX3_standsInSea_4 : decode cX3_standsInSea 4 = .ok (.iload_n 1, 1) := by decide +kernel
theorem dX3_standsInSea_5 : decode cX3_standsInSea 5 = .ok (.iaload, 1) := by decide +kernel
theorem dX3_standsInSea_6 : decode cX3_standsInSea 6 = .ok (.aload_n 0, 1) := by decide +kernel
theorem dX3_standsInSea_7 : decode cX3_standsInSea 7 = .ok (.getfield 57, 3) := by decide +kernel
theorem dX3_standsInSea_10 : decode cX3_standsInSea 10 = .ok (.if_icmp .ge 7, 3) := by decide +kernel
theorem dX3_standsInSea_13 : decode cX3_standsInSea 13 = .ok (.iconst 1, 1) := by decide +kernel
theorem dX3_standsInSea_14 : decode cX3_standsInSea 14 = .ok (.goto 4, 3) := by decide +kernel
theorem dX3_standsInSea_17 : decode cX3_standsInSea 17 = .ok (.iconst 0, 1) := by decide +kernel
theorem dX3_standsInSea_18 : decode cX3_standsInSea 18 = .ok (.ireturn, 1) := by decide +kernel
theorem dX3_hasCrevasse_0 : decode cX3_hasCrevasse 0 = .ok (.aload_n 0, 1) := by decide +kernel
theorem dX3_hasCrevasse_1 : decode cX3_hasCrevasse 1 = .ok (.getfield 41, 3) := by decide +kernel
theorem dX3_hasCrevasse_4 : decode cX3_hasCrevasse 4 = .ok (.iload_n 1, 1) := by decide +kernel
theorem dX3_hasCrevasse_5 : decode cX3_hasCrevasse 5 = .ok (.iaload, 1) := by decide +kernel
theorem dX3_hasCrevasse_6 : decode cX3_hasCrevasse 6 = .ok (.invokestatic 118, 3) := by decide +kernel
theorem dX3_hasCrevasse_9 : decode cX3_hasCrevasse 9 = .ok (.iconst 5, 1) := by decide +kernel
theorem dX3_hasCrevasse_10 : decode cX3_hasCrevasse 10 = .ok (.if_icmp .lt 7, 3) := by decide +kernel
theorem dX3_hasCrevasse_13 : decode cX3_hasCrevasse 13 = .ok (.iconst 1, 1) := by decide +kernel
theorem dX3_hasCrevasse_14 : decode cX3_hasCrevasse 14 = .ok (.goto 4, 3) := by decide +kernel
theorem dX3_hasCrevasse_17 : decode cX3_hasCrevasse 17 = .ok (.iconst 0, 1) := by decide +kernel
theorem dX3_hasCrevasse_18 : decode cX3_hasCrevasse 18 = .ok (.ireturn, 1) := by decide +kernel
set_option maxRecDepth 20000 in
theorem ggX3_snowOrMelt_X3_surface : GoodIn wsX3_snowOrMelt wsX3_surface := goodIn_r _ [20, 21, 3, 4, 48, 49, 50, 51, 52, 53, 54, 55, 56, 57, 58, 59, 60, 61, 62, 63, 64, 65] (by decide +kernel) (by decide +kernel)
set_option maxRecDepth 20000 in
theorem gX3_snowOrMelt_X3_surface : GoodIn wsX3_snowOrMelt (wsV RX3 104 RX3 yX3_surface wsX3_surface) := goodIn_app (goodIn_of _ (by decide +kernel)) ggX3_snowOrMelt_X3_surface
set_option maxRecDepth 20000 in
theorem ggX3_snowOrMelt_J9_floorDiv_7cf53 : GoodIn wsX3_snowOrMelt wsJ9_floorDiv_7cf53 := goodIn_r _ [25] (by decide +kernel) (by decide +kernel)
set_option maxRecDepth 20000 in
theorem gX3_snowOrMelt_J9_floorDiv_7cf53 : GoodIn wsX3_snowOrMelt (va_wsS RX3 123 yJ9_floorDiv_7cf53 wsJ9_floorDiv_7cf53) := goodIn_app (goodIn_of _ (by decide +kernel)) ggX3_snowOrMelt_J9_floorDiv_7cf53
set_option maxRecDepth 20000 in
theorem ggX3_snowOrMelt_X3_standsInSea : GoodIn wsX3_snowOrMelt wsX3_standsInSea := goodIn_r _ [29, 21, 30, 48, 49, 50, 51, 52, 53, 54, 55, 56, 57, 58, 59, 60, 61, 62, 63] (by decide +kernel) (by decide +kernel)
set_option maxRecDepth 20000 in
theorem gX3_snowOrMelt_X3_standsInSea : GoodIn wsX3_snowOrMelt (wsV RX3 112 RX3 yX3_standsInSea wsX3_standsInSea) := goodIn_app (goodIn_of _ (by decide +kernel)) ggX3_snowOrMelt_X3_standsInSea
set_option maxRecDepth 20000 in
theorem ggX3_snowOrMelt_X1_lay : GoodIn wsX3_snowOrMelt wsX1_lay := goodIn_r _ [35, 36, 37, 64, 65] (by decide +kernel) (by decide +kernel)
set_option maxRecDepth 20000 in
theorem gX3_snowOrMelt_X1_lay : GoodIn wsX3_snowOrMelt (wsV RX3 127 RX1 yX1_lay wsX1_lay) := goodIn_app (goodIn_of _ (by decide +kernel)) ggX3_snowOrMelt_X1_lay
set_option maxRecDepth 20000 in
theorem ggX3_snowOrMelt_X1_takeLatest : GoodIn wsX3_snowOrMelt wsX1_takeLatest := goodIn_r _ [41, 42, 11, 12, 13, 43, 44, 45, 34, 46, 36, 47, 32, 33, 35, 37, 64, 65] (by decide +kernel) (by decide +kernel)
set_option maxRecDepth 20000 in
theorem gX3_snowOrMelt_X1_takeLatest : GoodIn wsX3_snowOrMelt (wsV RX3 137 RX1 yX1_takeLatest wsX1_takeLatest) := goodIn_app (goodIn_of _ (by decide +kernel)) ggX3_snowOrMelt_X1_takeLatest
theorem dX3_snowOrMelt_0 : decode cX3_snowOrMelt 0 = .ok (.aload_n 0, 1) := by decide +kernel
theorem dX3_snowOrMelt_1 : decode cX3_snowOrMelt 1 = .ok (.getfield 60, 3) := by decide +kernel
theorem dX3_snowOrMelt_4 : decode cX3_snowOrMelt 4 = .ok (.aload_n 0, 1) := by decide +kernel
theorem dX3_snowOrMelt_5 : decode cX3_snowOrMelt 5 = .ok (.iload_n 1, 1) := by decide +kernel
theorem dX3_snowOrMelt_6 : decode cX3_snowOrMelt 6 = .ok (.invokevirtual 104, 3) := by decide +kernel
theorem dX3_snowOrMelt_9 : decode cX3_snowOrMelt 9 = .ok (.iconst 2, 1) := by decide +kernel
theorem dX3_snowOrMelt_10 : decode cX3_snowOrMelt 10 = .ok (.invokestatic 123, 3) := by decide +kernel
theorem dX3_snowOrMelt_13 : decode cX3_snowOrMelt 13 = .ok (.isub, 1) := by decide +kernel
theorem dX3_snowOrMelt_14 : decode cX3_snowOrMelt 14 = .ok (.istore_n 2, 1) := by decide +kernel
theorem dX3_snowOrMelt_15 : decode cX3_snowOrMelt 15 = .ok (.aload_n 0, 1) := by decide +kernel
theorem dX3_snowOrMelt_16 : decode cX3_snowOrMelt 16 = .ok (.getfield 38, 3) := by decide +kernel
theorem dX3_snowOrMelt_19 : decode cX3_snowOrMelt 19 = .ok (.iload_n 1, 1) := by decide +kernel
theorem dX3_snowOrMelt_20 : decode cX3_snowOrMelt 20 = .ok (.iconst 0, 1) := by decide +kernel
theorem dX3_snowOrMelt_21 : decode cX3_snowOrMelt 21 = .ok (.iastore, 1) := by decide +kernel
theorem dX3_snowOrMelt_22 : decode cX3_snowOrMelt 22 = .ok (.iload_n 2, 1) := by decide +kernel
theorem dX3_snowOrMelt_23 : decode cX3_snowOrMelt 23 = .ok (.ifCond .ge 68, 3) := by decide +kernel
theorem dX3_snowOrMelt_26 : decode cX3_snowOrMelt 26 = .ok (.aload_n 0, 1) := by decide +kernel
theorem dX3_snowOrMelt_27 : decode cX3_snowOrMelt 27 = .ok (.getfield 12, 3) := by decide +kernel
theorem dX3_snowOrMelt_30 : decode cX3_snowOrMelt 30 = .ok (.getfield 101, 3) := by decide +kernel
theorem dX3_snowOrMelt_33 : decode cX3_snowOrMelt 33 = .ok (.iload_n 1, 1) := by decide +kernel
theorem dX3_snowOrMelt_34 : decode cX3_snowOrMelt 34 = .ok (.iaload, 1) := by decide +kernel
theorem dX3_snowOrMelt_35 : decode cX3_snowOrMelt 35 = .ok (.ifCond .gt 11, 3) := by decide +kernel
theorem dX3_snowOrMelt_38 : decode cX3_snowOrMelt 38 = .ok (.aload_n 0, 1) := by decide +kernel
theorem dX3_snowOrMelt_39 : decode cX3_snowOrMelt 39 = .ok (.iload_n 1, 1) := by decide +kernel
theorem dX3_snowOrMelt_40 : decode cX3_snowOrMelt 40 = .ok (.invokevirtual 112, 3) := by decide +kernel
theorem dX3_snowOrMelt_43 : decode cX3_snowOrMelt 43 = .ok (.ifCond .ne 48, 3) := by decide +kernel
theorem dX3_snowOrMelt_46 : decode cX3_snowOrMelt 46 = .ok (.aload_n 0, 1) := by decide +kernel
theorem dX3_snowOrMelt_47 : decode cX3_snowOrMelt 47 = .ok (.getfield 38, 3) := by decide +kernel
theorem dX3_snowOrMelt_50 : decode cX3_snowOrMelt 50 = .ok (.iload_n 1, 1) := by decide +kernel
theorem dX3_snowOrMelt_51 : decode cX3_snowOrMelt 51 = .ok (.aload_n 0, 1) := by decide +kernel
theorem dX3_snowOrMelt_52 : decode cX3_snowOrMelt 52 = .ok (.getfield 63, 3) := by decide +kernel
theorem dX3_snowOrMelt_55 : decode cX3_snowOrMelt 55 = .ok (.iastore, 1) := by decide +kernel
theorem dX3_snowOrMelt_56 : decode cX3_snowOrMelt 56 = .ok (.aload_n 0, 1) := by decide +kernel
theorem dX3_snowOrMelt_57 : decode cX3_snowOrMelt 57 = .ok (.getfield 12, 3) := by decide +kernel
theorem dX3_snowOrMelt_60 : decode cX3_snowOrMelt 60 = .ok (.iload_n 1, 1) := by decide +kernel
theorem dX3_snowOrMelt_61 : decode cX3_snowOrMelt 61 = .ok (.aload_n 0, 1) := by decide +kernel
theorem dX3_snowOrMelt_62 : decode cX3_snowOrMelt 62 = .ok (.getfield 54, 3) := by decide +kernel
theorem dX3_snowOrMelt_65 : decode cX3_snowOrMelt 65 = .ok (.aload_n 0, 1) := by decide +kernel
theorem dX3_snowOrMelt_66 : decode cX3_snowOrMelt 66 = .ok (.getfield 63, 3) := by decide +kernel
theorem dX3_snowOrMelt_69 : decode cX3_snowOrMelt 69 = .ok (.invokevirtual 127, 3) := by decide +kernel
theorem dX3_snowOrMelt_72 : decode cX3_snowOrMelt 72 = .ok (.aload_n 0, 1) := by decide +kernel
theorem dX3_snowOrMelt_73 : decode cX3_snowOrMelt 73 = .ok (.getfield 21, 3) := by decide +kernel
theorem dX3_snowOrMelt_76 : decode cX3_snowOrMelt 76 = .ok (.dup, 1) := by decide +kernel
theorem dX3_snowOrMelt_77 : decode cX3_snowOrMelt 77 = .ok (.getfield 131, 3) := by decide +kernel
theorem dX3_snowOrMelt_80 : decode cX3_snowOrMelt 80 = .ok (.aload_n 0, 1) := by decide +kernel
theorem dX3_snowOrMelt_81 : decode cX3_snowOrMelt 81 = .ok (.getfield 63, 3) := by decide +kernel
theorem dX3_snowOrMelt_84 : decode cX3_snowOrMelt 84 = .ok (.iadd, 1) := by decide +kernel
theorem dX3_snowOrMelt_85 : decode cX3_snowOrMelt 85 = .ok (.putfield 131, 3) := by decide +kernel
theorem dX3_snowOrMelt_88 : decode cX3_snowOrMelt 88 = .ok (.goto 63, 3) := by decide +kernel
theorem dX3_snowOrMelt_91 : decode cX3_snowOrMelt 91 = .ok (.iload_n 2, 1) := by decide +kernel
theorem dX3_snowOrMelt_92 : decode cX3_snowOrMelt 92 = .ok (.ifCond .le 59, 3) := by decide +kernel
theorem dX3_snowOrMelt_95 : decode cX3_snowOrMelt 95 = .ok (.iload_n 2, 1) := by decide +kernel
theorem dX3_snowOrMelt_96 : decode cX3_snowOrMelt 96 = .ok (.aload_n 0, 1) := by decide +kernel
theorem dX3_snowOrMelt_97 : decode cX3_snowOrMelt 97 = .ok (.getfield 66, 3) := by decide +kernel
theorem dX3_snowOrMelt_100 : decode cX3_snowOrMelt 100 = .ok (.imul, 1) := by decide +kernel
theorem dX3_snowOrMelt_101 : decode cX3_snowOrMelt 101 = .ok (.bipush 10, 2) := by decide +kernel
theorem dX3_snowOrMelt_103 : decode cX3_snowOrMelt 103 = .ok (.invokestatic 123, 3) := by decide +kernel
theorem dX3_snowOrMelt_106 : decode cX3_snowOrMelt 106 = .ok (.aload_n 0, 1) := by decide +kernel
theorem dX3_snowOrMelt_107 : decode cX3_snowOrMelt 107 = .ok (.getfield 12, 3) := by decide +kernel
theorem dX3_snowOrMelt_110 : decode cX3_snowOrMelt 110 = .ok (.getfield 101, 3) := by decide +kernel
theorem dX3_snowOrMelt_113 : decode cX3_snowOrMelt 113 = .ok (.iload_n 1, 1) := by decide +kernel
theorem dX3_snowOrMelt_114 : decode cX3_snowOrMelt 114 = .ok (.iaload, 1) := by decide +kernel
theorem dX3_snowOrMelt_115 : decode cX3_snowOrMelt 115 = .ok (.invokestatic 134, 3) := by decide +kernel
theorem dX3_snowOrMelt_118 : decode cX3_snowOrMelt 118 = .ok (.istore_n 3, 1) := by decide +kernel
theorem dX3_snowOrMelt_119 : decode cX3_snowOrMelt 119 = .ok (.aload_n 0, 1) := by decide +kernel
theorem dX3_snowOrMelt_120 : decode cX3_snowOrMelt 120 = .ok (.getfield 12, 3) := by decide +kernel
theorem dX3_snowOrMelt_123 : decode cX3_snowOrMelt 123 = .ok (.iload_n 1, 1) := by decide +kernel
theorem dX3_snowOrMelt_124 : decode cX3_snowOrMelt 124 = .ok (.iload_n 3, 1) := by decide +kernel
theorem dX3_snowOrMelt_125 : decode cX3_snowOrMelt 125 = .ok (.invokevirtual 137, 3) := by decide +kernel
theorem dX3_snowOrMelt_128 : decode cX3_snowOrMelt 128 = .ok (.aload_n 0, 1) := by decide +kernel
theorem dX3_snowOrMelt_129 : decode cX3_snowOrMelt 129 = .ok (.getfield 32, 3) := by decide +kernel
theorem dX3_snowOrMelt_132 : decode cX3_snowOrMelt 132 = .ok (.iload_n 1, 1) := by decide +kernel
theorem dX3_snowOrMelt_133 : decode cX3_snowOrMelt 133 = .ok (.dup2, 1) := by decide +kernel
theorem dX3_snowOrMelt_134 : decode cX3_snowOrMelt 134 = .ok (.iaload, 1) := by decide +kernel
theorem dX3_snowOrMelt_135 : decode cX3_snowOrMelt 135 = .ok (.iload_n 3, 1) := by decide +kernel
theorem dX3_snowOrMelt_136 : decode cX3_snowOrMelt 136 = .ok (.iadd, 1) := by decide +kernel
theorem dX3_snowOrMelt_137 : decode cX3_snowOrMelt 137 = .ok (.iastore, 1) := by decide +kernel
theorem dX3_snowOrMelt_138 : decode cX3_snowOrMelt 138 = .ok (.aload_n 0, 1) := by decide +kernel
theorem dX3_snowOrMelt_139 : decode cX3_snowOrMelt 139 = .ok (.getfield 21, 3) := by decide +kernel
theorem dX3_snowOrMelt_142 : decode cX3_snowOrMelt 142 = .ok (.dup, 1) := by decide +kernel
theorem dX3_snowOrMelt_143 : decode cX3_snowOrMelt 143 = .ok (.getfield 141, 3) := by decide +kernel
theorem dX3_snowOrMelt_146 : decode cX3_snowOrMelt 146 = .ok (.iload_n 3, 1) := by decide +kernel
theorem dX3_snowOrMelt_147 : decode cX3_snowOrMelt 147 = .ok (.iadd, 1) := by decide +kernel
theorem dX3_snowOrMelt_148 : decode cX3_snowOrMelt 148 = .ok (.putfield 141, 3) := by decide +kernel
theorem dX3_snowOrMelt_151 : decode cX3_snowOrMelt 151 = .ok (.return_, 1) := by decide +kernel
set_option maxRecDepth 20000 in
theorem ggX3_flow_X3_givenToNext : GoodIn wsX3_flow wsX3_givenToNext := goodIn_r _ [8, 9, 10, 11, 7, 12, 13, 3, 14, 15, 16, 17, 18, 19, 20, 21, 22, 23, 24, 25, 26, 27, 28, 29, 30, 31, 32, 51, 52, 53, 54, 55, 56, 57, 58, 59, 60, 61, 62, 63, 64, 65, 66, 67, 68] (by decide +kernel) (by decide +kernel)
set_option maxRecDepth 20000 in
theorem gX3_flow_X3_givenToNext : GoodIn wsX3_flow (wsV RX3 144 RX3 yX3_givenToNext wsX3_givenToNext) := goodIn_app (goodIn_of _ (by decide +kernel)) ggX3_flow_X3_givenToNext
set_option maxRecDepth 20000 in
theorem ggX3_flow_X1_carryEarliest : GoodIn wsX3_flow wsX1_carryEarliest := goodIn_r _ [37, 38, 39, 24, 40, 41, 42, 43, 36, 44, 45, 46, 47, 48, 49, 50, 67, 68] (by decide +kernel) (by decide +kernel)
set_option maxRecDepth 20000 in
theorem gX3_flow_X1_carryEarliest : GoodIn wsX3_flow (wsV RX3 147 RX1 yX1_carryEarliest wsX1_carryEarliest) := goodIn_app (goodIn_of _ (by decide +kernel)) ggX3_flow_X1_carryEarliest
theorem dX3_flow_0 : decode cX3_flow 0 = .ok (.iconst 0, 1) := by decide +kernel
theorem dX3_flow_1 : decode cX3_flow 1 = .ok (.istore_n 1, 1) := by decide +kernel
theorem dX3_flow_2 : decode cX3_flow 2 = .ok (.iload_n 1, 1) := by decide +kernel
theorem dX3_flow_3 : decode cX3_flow 3 = .ok (.bipush 11, 2) := by decide +kernel
theorem dX3_flow_5 : decode cX3_flow 5 = .ok (.if_icmp .ge 20, 3) := by decide +kernel
theorem dX3_flow_8 : decode cX3_flow 8 = .ok (.aload_n 0, 1) := by decide +kernel
theorem dX3_flow_9 : decode cX3_flow 9 = .ok (.getfield 44, 3) := by decide +kernel
theorem dX3_flow_12 : decode cX3_flow 12 = .ok (.iload_n 1, 1) := by decide +kernel
theorem dX3_flow_13 : decode cX3_flow 13 = .ok (.aload_n 0, 1) := by decide +kernel
theorem dX3_flow_14 : decode cX3_flow 14 = .ok (.iload_n 1, 1) := by decide +kernel
theorem dX3_flow_15 : decode cX3_flow 15 = .ok (.invokevirtual 144, 3) := by decide +kernel
theorem dX3_flow_18 : decode cX3_flow 18 = .ok (.iastore, 1) := by decide +kernel
theorem dX3_flow_19 : decode cX3_flow 19 = .ok (.iinc 1 1, 3) := by decide +kernel
theorem dX3_flow_22 : decode cX3_flow 22 = .ok (.goto (-20), 3) := by decide +kernel
theorem dX3_flow_25 : decode cX3_flow 25 = .ok (.iconst 0, 1) := by decide +kernel
theorem dX3_flow_26 : decode cX3_flow 26 = .ok (.istore_n 1, 1) := by decide +kernel
theorem dX3_flow_27 : decode cX3_flow 27 = .ok (.iload_n 1, 1) := by decide +kernel
theorem dX3_flow_28 : decode cX3_flow 28 = .ok (.bipush 12, 2) := by decide +kernel
theorem dX3_flow_30 : decode cX3_flow 30 = .ok (.if_icmp .ge 16, 3) := by decide +kernel
theorem dX3_flow_33 : decode cX3_flow 33 = .ok (.aload_n 0, 1) := by decide +kernel
theorem dX3_flow_34 : decode cX3_flow 34 = .ok (.getfield 41, 3) := by decide +kernel
theorem dX3_flow_37 : decode cX3_flow 37 = .ok (.iload_n 1, 1) := by decide +kernel
theorem dX3_flow_38 : decode cX3_flow 38 = .ok (.iconst 0, 1) := by decide +kernel
theorem dX3_flow_39 : decode cX3_flow 39 = .ok (.iastore, 1) := by decide +kernel
theorem dX3_flow_40 : decode cX3_flow 40 = .ok (.iinc 1 1, 3) := by decide +kernel
theorem dX3_flow_43 : decode cX3_flow 43 = .ok (.goto (-16), 3) := by decide +kernel
theorem dX3_flow_46 : decode cX3_flow 46 = .ok (.iconst 0, 1) := by decide +kernel
theorem dX3_flow_47 : decode cX3_flow 47 = .ok (.istore_n 1, 1) := by decide +kernel
theorem dX3_flow_48 : decode cX3_flow 48 = .ok (.iload_n 1, 1) := by decide +kernel
theorem dX3_flow_49 : decode cX3_flow 49 = .ok (.bipush 11, 2) := by decide +kernel
theorem dX3_flow_51 : decode cX3_flow 51 = .ok (.if_icmp .ge 74, 3) := by decide +kernel
theorem dX3_flow_54 : decode cX3_flow 54 = .ok (.aload_n 0, 1) := by decide +kernel
theorem dX3_flow_55 : decode cX3_flow 55 = .ok (.getfield 44, 3) := by decide +kernel
theorem dX3_flow_58 : decode cX3_flow 58 = .ok (.iload_n 1, 1) := by decide +kernel
theorem dX3_flow_59 : decode cX3_flow 59 = .ok (.iaload, 1) := by decide +kernel
theorem dX3_flow_60 : decode cX3_flow 60 = .ok (.istore_n 2, 1) := by decide +kernel
theorem dX3_flow_61 : decode cX3_flow 61 = .ok (.aload_n 0, 1) := by decide +kernel
theorem dX3_flow_62 : decode cX3_flow 62 = .ok (.getfield 41, 3) := by decide +kernel
theorem dX3_flow_65 : decode cX3_flow 65 = .ok (.iload_n 1, 1) := by decide +kernel
theorem dX3_flow_66 : decode cX3_flow 66 = .ok (.dup2, 1) := by decide +kernel
theorem dX3_flow_67 : decode cX3_flow 67 = .ok (.iaload, 1) := by decide +kernel
theorem dX3_flow_68 : decode cX3_flow 68 = .ok (.iload_n 2, 1) := by decide +kernel
theorem dX3_flow_69 : decode cX3_flow 69 = .ok (.isub, 1) := by decide +kernel
theorem dX3_flow_70 : decode cX3_flow 70 = .ok (.iastore, 1) := by decide +kernel
theorem dX3_flow_71 : decode cX3_flow 71 = .ok (.aload_n 0, 1) := by decide +kernel
theorem dX3_flow_72 : decode cX3_flow 72 = .ok (.getfield 41, 3) := by decide +kernel
theorem dX3_flow_75 : decode cX3_flow 75 = .ok (.iload_n 1, 1) := by decide +kernel
theorem dX3_flow_76 : decode cX3_flow 76 = .ok (.iconst 1, 1) := by decide +kernel
theorem dX3_flow_77 : decode cX3_flow 77 = .ok (.iadd, 1) := by decide +kernel
theorem dX3_flow_78 : decode cX3_flow 78 = .ok (.dup2, 1) := by decide +kernel
theorem dX3_flow_79 : decode cX3_flow 79 = .ok (.iaload, 1) := by decide +kernel
theorem dX3_flow_80 : decode cX3_flow 80 = .ok (.iload_n 2, 1) := by decide +kernel
theorem dX3_flow_81 : decode cX3_flow 81 = .ok (.iadd, 1) := by decide +kernel
theorem dX3_flow_82 : decode cX3_flow 82 = .ok (.iastore, 1) := by decide +kernel
theorem dX3_flow_83 : decode cX3_flow 83 = .ok (.iload_n 2, 1) := by decide +kernel
theorem dX3_flow_84 : decode cX3_flow 84 = .ok (.ifCond .le 18, 3) := by decide +kernel
theorem dX3_flow_87 : decode cX3_flow 87 = .ok (.aload_n 0, 1) := by decide +kernel
theorem dX3_flow_88 : decode cX3_flow 88 = .ok (.getfield 12, 3) := by decide +kernel
theorem dX3_flow_91 : decode cX3_flow 91 = .ok (.iload_n 1, 1) := by decide +kernel
theorem dX3_flow_92 : decode cX3_flow 92 = .ok (.iload_n 1, 1) := by decide +kernel
theorem dX3_flow_93 : decode cX3_flow 93 = .ok (.iconst 1, 1) := by decide +kernel
theorem dX3_flow_94 : decode cX3_flow 94 = .ok (.iadd, 1) := by decide +kernel
theorem dX3_flow_95 : decode cX3_flow 95 = .ok (.iload_n 2, 1) := by decide +kernel
theorem dX3_flow_96 : decode cX3_flow 96 = .ok (.invokevirtual 147, 3) := by decide +kernel
theorem dX3_flow_99 : decode cX3_flow 99 = .ok (.goto 20, 3) := by decide +kernel
theorem dX3_flow_102 : decode cX3_flow 102 = .ok (.iload_n 2, 1) := by decide +kernel
theorem dX3_flow_103 : decode cX3_flow 103 = .ok (.ifCond .ge 16, 3) := by decide +kernel
theorem dX3_flow_106 : decode cX3_flow 106 = .ok (.aload_n 0, 1) := by decide +kernel
theorem dX3_flow_107 : decode cX3_flow 107 = .ok (.getfield 12, 3) := by decide +kernel
theorem dX3_flow_110 : decode cX3_flow 110 = .ok (.iload_n 1, 1) := by decide +kernel
theorem dX3_flow_111 : decode cX3_flow 111 = .ok (.iconst 1, 1) := by decide +kernel
theorem dX3_flow_112 : decode cX3_flow 112 = .ok (.iadd, 1) := by decide +kernel
theorem dX3_flow_113 : decode cX3_flow 113 = .ok (.iload_n 1, 1) := by decide +kernel
theorem dX3_flow_114 : decode cX3_flow 114 = .ok (.iload_n 2, 1) := by decide +kernel
theorem dX3_flow_115 : decode cX3_flow 115 = .ok (.ineg, 1) := by decide +kernel
theorem dX3_flow_116 : decode cX3_flow 116 = .ok (.invokevirtual 147, 3) := by decide +kernel
theorem dX3_flow_119 : decode cX3_flow 119 = .ok (.iinc 1 1, 3) := by decide +kernel
theorem dX3_flow_122 : decode cX3_flow 122 = .ok (.goto (-74), 3) := by decide +kernel
theorem dX3_flow_125 : decode cX3_flow 125 = .ok (.return_, 1) := by decide +kernel
set_option maxRecDepth 20000 in
theorem ggX3_givenToNext_X3_surface : GoodIn wsX3_givenToNext wsX3_surface := goodIn_r _ [5, 6, 7, 8, 27, 28, 29, 30, 31, 32, 33, 34, 35, 36, 37, 38, 39, 40, 41, 42, 43, 44] (by decide +kernel) (by decide +kernel)
set_option maxRecDepth 20000 in
theorem gX3_givenToNext_X3_surface : GoodIn wsX3_givenToNext (wsV RX3 104 RX3 yX3_surface wsX3_surface) := goodIn_app (goodIn_of _ (by decide +kernel)) ggX3_givenToNext_X3_surface
set_option maxRecDepth 20000 in
theorem ggX3_givenToNext_X3_givenBy : GoodIn wsX3_givenToNext wsX3_givenBy := goodIn_r _ [12, 7, 8, 13, 14, 15, 16, 17, 18, 19, 20, 21, 22, 23, 24, 25, 26, 27, 28, 29, 30, 31, 32, 33, 34, 35, 36, 37, 38, 39, 40, 41, 42, 43, 44] (by decide +kernel) (by decide +kernel)
set_option maxRecDepth 20000 in
theorem gX3_givenToNext_X3_givenBy : GoodIn wsX3_givenToNext (wsV RX3 150 RX3 yX3_givenBy wsX3_givenBy) := goodIn_app (goodIn_of _ (by decide +kernel)) ggX3_givenToNext_X3_givenBy
theorem dX3_givenToNext_0 : decode cX3_givenToNext 0 = .ok (.aload_n 0, 1) := by decide +kernel
theorem dX3_givenToNext_1 : decode cX3_givenToNext 1 = .ok (.iload_n 1, 1) := by decide +kernel
theorem dX3_givenToNext_2 : decode cX3_givenToNext 2 = .ok (.invokevirtual 104, 3) := by decide +kernel
theorem dX3_givenToNext_5 : decode cX3_givenToNext 5 = .ok (.aload_n 0, 1) := by decide +kernel
theorem dX3_givenToNext_6 : decode cX3_givenToNext 6 = .ok (.iload_n 1, 1) := by decide +kernel
theorem dX3_givenToNext_7 : decode cX3_givenToNext 7 = .ok (.iconst 1, 1) := by decide +kernel
theorem dX3_givenToNext_8 : decode cX3_givenToNext 8 = .ok (.iadd, 1) := by decide +kernel
theorem dX3_givenToNext_9 : decode cX3_givenToNext 9 = .ok (.invokevirtual 104, 3) := by decide +kernel
theorem dX3_givenToNext_12 : decode cX3_givenToNext 12 = .ok (.isub, 1) := by decide +kernel
theorem dX3_givenToNext_13 : decode cX3_givenToNext 13 = .ok (.istore_n 2, 1) := by decide +kernel
theorem dX3_givenToNext_14 : decode cX3_givenToNext 14 = .ok (.iload_n 2, 1) := by decide +kernel
theorem dX3_givenToNext_15 : decode cX3_givenToNext 15 = .ok (.ifCond .le 10, 3) := by decide +kernel
theorem dX3_givenToNext_18 : decode cX3_givenToNext 18 = .ok (.aload_n 0, 1) := by decide +kernel
theorem dX3_givenToNext_19 : decode cX3_givenToNext 19 = .ok (.iload_n 1, 1) := by decide +kernel
theorem dX3_givenToNext_20 : decode cX3_givenToNext 20 = .ok (.iload_n 2, 1) := by decide +kernel
theorem dX3_givenToNext_21 : decode cX3_givenToNext 21 = .ok (.invokevirtual 150, 3) := by decide +kernel
theorem dX3_givenToNext_24 : decode cX3_givenToNext 24 = .ok (.ireturn, 1) := by decide +kernel
theorem dX3_givenToNext_25 : decode cX3_givenToNext 25 = .ok (.aload_n 0, 1) := by decide +kernel
theorem dX3_givenToNext_26 : decode cX3_givenToNext 26 = .ok (.iload_n 1, 1) := by decide +kernel
theorem dX3_givenToNext_27 : decode cX3_givenToNext 27 = .ok (.iconst 1, 1) := by decide +kernel
theorem dX3_givenToNext_28 : decode cX3_givenToNext 28 = .ok (.iadd, 1) := by decide +kernel
theorem dX3_givenToNext_29 : decode cX3_givenToNext 29 = .ok (.iload_n 2, 1) := by decide +kernel
theorem dX3_givenToNext_30 : decode cX3_givenToNext 30 = .ok (.ineg, 1) := by decide +kernel
theorem dX3_givenToNext_31 : decode cX3_givenToNext 31 = .ok (.invokevirtual 150, 3) := by decide +kernel
theorem dX3_givenToNext_34 : decode cX3_givenToNext 34 = .ok (.ineg, 1) := by decide +kernel
theorem dX3_givenToNext_35 : decode cX3_givenToNext 35 = .ok (.ireturn, 1) := by decide +kernel
set_option maxRecDepth 20000 in
theorem ggX3_givenBy_J9_floorDiv_f86c9 : GoodIn wsX3_givenBy wsJ9_floorDiv_f86c9 := goodIn_r _ [13] (by decide +kernel) (by decide +kernel)
set_option maxRecDepth 20000 in
theorem gX3_givenBy_J9_floorDiv_f86c9 : GoodIn wsX3_givenBy (va_wsS RX3 155 yJ9_floorDiv_f86c9 wsJ9_floorDiv_f86c9) := goodIn_app (goodIn_of _ (by decide +kernel)) ggX3_givenBy_J9_floorDiv_f86c9
set_option maxRecDepth 20000 in
theorem ggX3_givenBy_J9_floorDiv_7cf53 : GoodIn wsX3_givenBy wsJ9_floorDiv_7cf53 := goodIn_r _ [16] (by decide +kernel) (by decide +kernel)
set_option maxRecDepth 20000 in
theorem gX3_givenBy_J9_floorDiv_7cf53 : GoodIn wsX3_givenBy (va_wsS RX3 123 yJ9_floorDiv_7cf53 wsJ9_floorDiv_7cf53) := goodIn_app (goodIn_of _ (by decide +kernel)) ggX3_givenBy_J9_floorDiv_7cf53
theorem dX3_givenBy_0 : decode cX3_givenBy 0 = .ok (.iload_n 2, 1) := by decide +kernel
theorem dX3_givenBy_1 : decode cX3_givenBy 1 = .ok (.i2l, 1) := by decide +kernel
theorem dX3_givenBy_2 : decode cX3_givenBy 2 = .ok (.aload_n 0, 1) := by decide +kernel
theorem dX3_givenBy_3 : decode cX3_givenBy 3 = .ok (.getfield 12, 3) := by decide +kernel
theorem dX3_givenBy_6 : decode cX3_givenBy 6 = .ok (.getfield 101, 3) := by decide +kernel
theorem dX3_givenBy_9 : decode cX3_givenBy 9 = .ok (.iload_n 1, 1) := by decide +kernel
theorem dX3_givenBy_10 : decode cX3_givenBy 10 = .ok (.iaload, 1) := by decide +kernel
theorem dX3_givenBy_11 : decode cX3_givenBy 11 = .ok (.i2l, 1) := by decide +kernel
theorem dX3_givenBy_12 : decode cX3_givenBy 12 = .ok (.lmul, 1) := by decide +kernel
theorem dX3_givenBy_13 : decode cX3_givenBy 13 = .ok (.ldc2_w 153, 3) := by decide +kernel
theorem dX3_givenBy_16 : decode cX3_givenBy 16 = .ok (.invokestatic 155, 3) := by decide +kernel
theorem dX3_givenBy_19 : decode cX3_givenBy 19 = .ok (.lstore_n 3, 1) := by decide +kernel
theorem dX3_givenBy_20 : decode cX3_givenBy 20 = .ok (.aload_n 0, 1) := by decide +kernel
theorem dX3_givenBy_21 : decode cX3_givenBy 21 = .ok (.getfield 32, 3) := by decide +kernel
theorem dX3_givenBy_24 : decode cX3_givenBy 24 = .ok (.iload_n 1, 1) := by decide +kernel
theorem dX3_givenBy_25 : decode cX3_givenBy 25 = .ok (.iaload, 1) := by decide +kernel
theorem dX3_givenBy_26 : decode cX3_givenBy 26 = .ok (.iconst 4, 1) := by decide +kernel
theorem dX3_givenBy_27 : decode cX3_givenBy 27 = .ok (.if_icmp .lt 9, 3) := by decide +kernel
theorem dX3_givenBy_30 : decode cX3_givenBy 30 = .ok (.lload_n 3, 1) := by decide +kernel
theorem dX3_givenBy_31 : decode cX3_givenBy 31 = .ok (.ldc2_w 158, 3) := by decide +kernel
theorem dX3_givenBy_34 : decode cX3_givenBy 34 = .ok (.lmul, 1) := by decide +kernel
theorem dX3_givenBy_35 : decode cX3_givenBy 35 = .ok (.lstore_n 3, 1) := by decide +kernel
theorem dX3_givenBy_36 : decode cX3_givenBy 36 = .ok (.lload_n 3, 1) := by decide +kernel
theorem dX3_givenBy_37 : decode cX3_givenBy 37 = .ok (.aload_n 0, 1) := by decide +kernel
theorem dX3_givenBy_38 : decode cX3_givenBy 38 = .ok (.getfield 12, 3) := by decide +kernel
theorem dX3_givenBy_41 : decode cX3_givenBy 41 = .ok (.getfield 101, 3) := by decide +kernel
theorem dX3_givenBy_44 : decode cX3_givenBy 44 = .ok (.iload_n 1, 1) := by decide +kernel
theorem dX3_givenBy_45 : decode cX3_givenBy 45 = .ok (.iaload, 1) := by decide +kernel
theorem dX3_givenBy_46 : decode cX3_givenBy 46 = .ok (.iconst 4, 1) := by decide +kernel
theorem dX3_givenBy_47 : decode cX3_givenBy 47 = .ok (.invokestatic 123, 3) := by decide +kernel
theorem dX3_givenBy_50 : decode cX3_givenBy 50 = .ok (.i2l, 1) := by decide +kernel
theorem dX3_givenBy_51 : decode cX3_givenBy 51 = .ok (.invokestatic 160, 3) := by decide +kernel
theorem dX3_givenBy_54 : decode cX3_givenBy 54 = .ok (.l2i, 1) := by decide +kernel
theorem dX3_givenBy_55 : decode cX3_givenBy 55 = .ok (.ireturn, 1) := by decide +kernel
set_option maxRecDepth 20000 in
theorem ggX3_runOff_X3_standsInSea : GoodIn wsX3_runOff wsX3_standsInSea := goodIn_r _ [8, 9, 10, 17, 18, 19, 20, 21, 22, 23, 24, 25, 26, 27, 28, 29, 30, 31, 32] (by decide +kernel) (by decide +kernel)
set_option maxRecDepth 20000 in
theorem gX3_runOff_X3_standsInSea : GoodIn wsX3_runOff (wsV RX3 112 RX3 yX3_standsInSea wsX3_standsInSea) := goodIn_app (goodIn_of _ (by decide +kernel)) ggX3_runOff_X3_standsInSea
set_option maxRecDepth 20000 in
theorem ggX3_runOff_X3_potential : GoodIn wsX3_runOff wsX3_potential := goodIn_r _ [14, 9, 15, 16, 17, 18, 19, 20, 21, 22, 23, 24, 25, 26, 27, 28, 29, 30, 31, 32, 38, 39] (by decide +kernel) (by decide +kernel)
set_option maxRecDepth 20000 in
theorem gX3_runOff_X3_potential : GoodIn wsX3_runOff (wsV RX3 115 RX3 yX3_potential wsX3_potential) := goodIn_app (goodIn_of _ (by decide +kernel)) ggX3_runOff_X3_potential
theorem dX3_runOff_0 : decode cX3_runOff 0 = .ok (.iload_n 1, 1) := by decide +kernel
theorem dX3_runOff_1 : decode cX3_runOff 1 = .ok (.bipush 11, 2) := by decide +kernel
theorem dX3_runOff_3 : decode cX3_runOff 3 = .ok (.if_icmp .eq 11, 3) := by decide +kernel
theorem dX3_runOff_6 : decode cX3_runOff 6 = .ok (.aload_n 0, 1) := by decide +kernel
theorem dX3_runOff_7 : decode cX3_runOff 7 = .ok (.iload_n 1, 1) := by decide +kernel
theorem dX3_runOff_8 : decode cX3_runOff 8 = .ok (.invokevirtual 112, 3) := by decide +kernel
theorem dX3_runOff_11 : decode cX3_runOff 11 = .ok (.ifCond .eq 29, 3) := by decide +kernel
theorem dX3_runOff_14 : decode cX3_runOff 14 = .ok (.aload_n 0, 1) := by decide +kernel
theorem dX3_runOff_15 : decode cX3_runOff 15 = .ok (.getfield 21, 3) := by decide +kernel
theorem dX3_runOff_18 : decode cX3_runOff 18 = .ok (.dup, 1) := by decide +kernel
theorem dX3_runOff_19 : decode cX3_runOff 19 = .ok (.getfield 162, 3) := by decide +kernel
theorem dX3_runOff_22 : decode cX3_runOff 22 = .ok (.aload_n 0, 1) := by decide +kernel
theorem dX3_runOff_23 : decode cX3_runOff 23 = .ok (.getfield 32, 3) := by decide +kernel
theorem dX3_runOff_26 : decode cX3_runOff 26 = .ok (.iload_n 1, 1) := by decide +kernel
theorem dX3_runOff_27 : decode cX3_runOff 27 = .ok (.iaload, 1) := by decide +kernel
theorem dX3_runOff_28 : decode cX3_runOff 28 = .ok (.iadd, 1) := by decide +kernel
theorem dX3_runOff_29 : decode cX3_runOff 29 = .ok (.putfield 162, 3) := by decide +kernel
theorem dX3_runOff_32 : decode cX3_runOff 32 = .ok (.aload_n 0, 1) := by decide +kernel
theorem dX3_runOff_33 : decode cX3_runOff 33 = .ok (.getfield 32, 3) := by decide +kernel
theorem dX3_runOff_36 : decode cX3_runOff 36 = .ok (.iload_n 1, 1) := by decide +kernel
theorem dX3_runOff_37 : decode cX3_runOff 37 = .ok (.iconst 0, 1) := by decide +kernel
theorem dX3_runOff_38 : decode cX3_runOff 38 = .ok (.iastore, 1) := by decide +kernel
theorem dX3_runOff_39 : decode cX3_runOff 39 = .ok (.return_, 1) := by decide +kernel
theorem dX3_runOff_40 : decode cX3_runOff 40 = .ok (.iload_n 1, 1) := by decide +kernel
theorem dX3_runOff_41 : decode cX3_runOff 41 = .ok (.iconst 1, 1) := by decide +kernel
theorem dX3_runOff_42 : decode cX3_runOff 42 = .ok (.iadd, 1) := by decide +kernel
theorem dX3_runOff_43 : decode cX3_runOff 43 = .ok (.istore_n 2, 1) := by decide +kernel
theorem dX3_runOff_44 : decode cX3_runOff 44 = .ok (.iload_n 1, 1) := by decide +kernel
theorem dX3_runOff_45 : decode cX3_runOff 45 = .ok (.ifCond .le 22, 3) := by decide +kernel
theorem dX3_runOff_48 : decode cX3_runOff 48 = .ok (.aload_n 0, 1) := by decide +kernel
theorem dX3_runOff_49 : decode cX3_runOff 49 = .ok (.iload_n 1, 1) := by decide +kernel
theorem dX3_runOff_50 : decode cX3_runOff 50 = .ok (.iconst 1, 1) := by decide +kernel
theorem dX3_runOff_51 : decode cX3_runOff 51 = .ok (.isub, 1) := by decide +kernel
theorem dX3_runOff_52 : decode cX3_runOff 52 = .ok (.invokevirtual 115, 3) := by decide +kernel
theorem dX3_runOff_55 : decode cX3_runOff 55 = .ok (.aload_n 0, 1) := by decide +kernel
theorem dX3_runOff_56 : decode cX3_runOff 56 = .ok (.iload_n 2, 1) := by decide +kernel
theorem dX3_runOff_57 : decode cX3_runOff 57 = .ok (.invokevirtual 115, 3) := by decide +kernel
theorem dX3_runOff_60 : decode cX3_runOff 60 = .ok (.if_icmp .ge 7, 3) := by decide +kernel
theorem dX3_runOff_63 : decode cX3_runOff 63 = .ok (.iload_n 1, 1) := by decide +kernel
theorem dX3_runOff_64 : decode cX3_runOff 64 = .ok (.iconst 1, 1) := by decide +kernel
theorem dX3_runOff_65 : decode cX3_runOff 65 = .ok (.isub, 1) := by decide +kernel
theorem dX3_runOff_66 : decode cX3_runOff 66 = .ok (.istore_n 2, 1) := by decide +kernel
theorem dX3_runOff_67 : decode cX3_runOff 67 = .ok (.aload_n 0, 1) := by decide +kernel
theorem dX3_runOff_68 : decode cX3_runOff 68 = .ok (.iload_n 2, 1) := by decide +kernel
theorem dX3_runOff_69 : decode cX3_runOff 69 = .ok (.invokevirtual 115, 3) := by decide +kernel
theorem dX3_runOff_72 : decode cX3_runOff 72 = .ok (.aload_n 0, 1) := by decide +kernel
theorem dX3_runOff_73 : decode cX3_runOff 73 = .ok (.iload_n 1, 1) := by decide +kernel
theorem dX3_runOff_74 : decode cX3_runOff 74 = .ok (.invokevirtual 115, 3) := by decide +kernel
theorem dX3_runOff_77 : decode cX3_runOff 77 = .ok (.if_icmp .ge 25, 3) := by decide +kernel
theorem dX3_runOff_80 : decode cX3_runOff 80 = .ok (.aload_n 0, 1) := by decide +kernel
theorem dX3_runOff_81 : decode cX3_runOff 81 = .ok (.getfield 32, 3) := by decide +kernel
theorem dX3_runOff_84 : decode cX3_runOff 84 = .ok (.iload_n 2, 1) := by decide +kernel
theorem dX3_runOff_85 : decode cX3_runOff 85 = .ok (.dup2, 1) := by decide +kernel
theorem dX3_runOff_86 : decode cX3_runOff 86 = .ok (.iaload, 1) := by decide +kernel
theorem dX3_runOff_87 : decode cX3_runOff 87 = .ok (.aload_n 0, 1) := by decide +kernel
theorem dX3_runOff_88 : decode cX3_runOff 88 = .ok (.getfield 32, 3) := by decide +kernel
theorem dX3_runOff_91 : decode cX3_runOff 91 = .ok (.iload_n 1, 1) := by decide +kernel
theorem dX3_runOff_92 : decode cX3_runOff 92 = .ok (.iaload, 1) := by decide +kernel
theorem dX3_runOff_93 : decode cX3_runOff 93 = .ok (.iadd, 1) := by decide +kernel
theorem dX3_runOff_94 : decode cX3_runOff 94 = .ok (.iastore, 1) := by decide +kernel
theorem dX3_runOff_95 : decode cX3_runOff 95 = .ok (.aload_n 0, 1) := by decide +kernel
theorem dX3_runOff_96 : decode cX3_runOff 96 = .ok (.getfield 32, 3) := by decide +kernel
theorem dX3_runOff_99 : decode cX3_runOff 99 = .ok (.iload_n 1, 1) := by decide +kernel
theorem dX3_runOff_100 : decode cX3_runOff 100 = .ok (.iconst 0, 1) := by decide +kernel
theorem dX3_runOff_101 : decode cX3_runOff 101 = .ok (.iastore, 1) := by decide +kernel
theorem dX3_runOff_102 : decode cX3_runOff 102 = .ok (.return_, 1) := by decide +kernel
set_option maxRecDepth 20000 in
theorem ggX3_breakOut_X3_leastIceBeside : GoodIn wsX3_breakOut wsX3_leastIceBeside := goodIn_r _ [9, 10, 11, 12, 13, 14, 15, 16, 17, 18, 19, 20, 21, 22, 23, 24, 25, 26, 27, 28, 29, 30, 31, 37, 38] (by decide +kernel) (by decide +kernel)
set_option maxRecDepth 20000 in
theorem gX3_breakOut_X3_leastIceBeside : GoodIn wsX3_breakOut (wsV RX3 165 RX3 yX3_leastIceBeside wsX3_leastIceBeside) := goodIn_app (goodIn_of _ (by decide +kernel)) ggX3_breakOut_X3_leastIceBeside
theorem dX3_breakOut_0 : decode cX3_breakOut 0 = .ok (.aload_n 0, 1) := by decide +kernel
theorem dX3_breakOut_1 : decode cX3_breakOut 1 = .ok (.getfield 47, 3) := by decide +kernel
theorem dX3_breakOut_4 : decode cX3_breakOut 4 = .ok (.iload_n 1, 1) := by decide +kernel
theorem dX3_breakOut_5 : decode cX3_breakOut 5 = .ok (.iconst 0, 1) := by decide +kernel
theorem dX3_breakOut_6 : decode cX3_breakOut 6 = .ok (.iastore, 1) := by decide +kernel
theorem dX3_breakOut_7 : decode cX3_breakOut 7 = .ok (.aload_n 0, 1) := by decide +kernel
theorem dX3_breakOut_8 : decode cX3_breakOut 8 = .ok (.iload_n 1, 1) := by decide +kernel
theorem dX3_breakOut_9 : decode cX3_breakOut 9 = .ok (.invokevirtual 165, 3) := by decide +kernel
theorem dX3_breakOut_12 : decode cX3_breakOut 12 = .ok (.istore_n 2, 1) := by decide +kernel
theorem dX3_breakOut_13 : decode cX3_breakOut 13 = .ok (.aload_n 0, 1) := by decide +kernel
theorem dX3_breakOut_14 : decode cX3_breakOut 14 = .ok (.getfield 32, 3) := by decide +kernel
theorem dX3_breakOut_17 : decode cX3_breakOut 17 = .ok (.iload_n 1, 1) := by decide +kernel
theorem dX3_breakOut_18 : decode cX3_breakOut 18 = .ok (.iaload, 1) := by decide +kernel
theorem dX3_breakOut_19 : decode cX3_breakOut 19 = .ok (.bipush 10, 2) := by decide +kernel
theorem dX3_breakOut_21 : decode cX3_breakOut 21 = .ok (.if_icmp .lt 60, 3) := by decide +kernel
theorem dX3_breakOut_24 : decode cX3_breakOut 24 = .ok (.iload_n 2, 1) := by decide +kernel
theorem dX3_breakOut_25 : decode cX3_breakOut 25 = .ok (.ifCond .le 56, 3) := by decide +kernel
theorem dX3_breakOut_28 : decode cX3_breakOut 28 = .ok (.bipush 10, 2) := by decide +kernel
theorem dX3_breakOut_30 : decode cX3_breakOut 30 = .ok (.aload_n 0, 1) := by decide +kernel
theorem dX3_breakOut_31 : decode cX3_breakOut 31 = .ok (.getfield 32, 3) := by decide +kernel
theorem dX3_breakOut_34 : decode cX3_breakOut 34 = .ok (.iload_n 1, 1) := by decide +kernel
theorem dX3_breakOut_35 : decode cX3_breakOut 35 = .ok (.iaload, 1) := by decide +kernel
theorem dX3_breakOut_36 : decode cX3_breakOut 36 = .ok (.imul, 1) := by decide +kernel
theorem dX3_breakOut_37 : decode cX3_breakOut 37 = .ok (.bipush 9, 2) := by decide +kernel
theorem dX3_breakOut_39 : decode cX3_breakOut 39 = .ok (.iload_n 2, 1) := by decide +kernel
theorem dX3_breakOut_40 : decode cX3_breakOut 40 = .ok (.imul, 1) := by decide +kernel
theorem dX3_breakOut_41 : decode cX3_breakOut 41 = .ok (.if_icmp .le 40, 3) := by decide +kernel
theorem dX3_breakOut_44 : decode cX3_breakOut 44 = .ok (.aload_n 0, 1) := by decide +kernel
theorem dX3_breakOut_45 : decode cX3_breakOut 45 = .ok (.getfield 47, 3) := by decide +kernel
theorem dX3_breakOut_48 : decode cX3_breakOut 48 = .ok (.iload_n 1, 1) := by decide +kernel
theorem dX3_breakOut_49 : decode cX3_breakOut 49 = .ok (.aload_n 0, 1) := by decide +kernel
theorem dX3_breakOut_50 : decode cX3_breakOut 50 = .ok (.getfield 32, 3) := by decide +kernel
theorem dX3_breakOut_53 : decode cX3_breakOut 53 = .ok (.iload_n 1, 1) := by decide +kernel
theorem dX3_breakOut_54 : decode cX3_breakOut 54 = .ok (.iaload, 1) := by decide +kernel
theorem dX3_breakOut_55 : decode cX3_breakOut 55 = .ok (.iastore, 1) := by decide +kernel
theorem dX3_breakOut_56 : decode cX3_breakOut 56 = .ok (.aload_n 0, 1) := by decide +kernel
theorem dX3_breakOut_57 : decode cX3_breakOut 57 = .ok (.getfield 21, 3) := by decide +kernel
theorem dX3_breakOut_60 : decode cX3_breakOut 60 = .ok (.dup, 1) := by decide +kernel
theorem dX3_breakOut_61 : decode cX3_breakOut 61 = .ok (.getfield 162, 3) := by decide +kernel
theorem dX3_breakOut_64 : decode cX3_breakOut 64 = .ok (.aload_n 0, 1) := by decide +kernel
theorem dX3_breakOut_65 : decode cX3_breakOut 65 = .ok (.getfield 32, 3) := by decide +kernel
theorem dX3_breakOut_68 : decode cX3_breakOut 68 = .ok (.iload_n 1, 1) := by decide +kernel
theorem dX3_breakOut_69 : decode cX3_breakOut 69 = .ok (.iaload, 1) := by decide +kernel
theorem dX3_breakOut_70 : decode cX3_breakOut 70 = .ok (.iadd, 1) := by decide +kernel
theorem dX3_breakOut_71 : decode cX3_breakOut 71 = .ok (.putfield 162, 3) := by decide +kernel
theorem dX3_breakOut_74 : decode cX3_breakOut 74 = .ok (.aload_n 0, 1) := by decide +kernel
theorem dX3_breakOut_75 : decode cX3_breakOut 75 = .ok (.getfield 32, 3) := by decide +kernel
theorem dX3_breakOut_78 : decode cX3_breakOut 78 = .ok (.iload_n 1, 1) := by decide +kernel
theorem dX3_breakOut_79 : decode cX3_breakOut 79 = .ok (.iconst 0, 1) := by decide +kernel
theorem dX3_breakOut_80 : decode cX3_breakOut 80 = .ok (.iastore, 1) := by decide +kernel
theorem dX3_breakOut_81 : decode cX3_breakOut 81 = .ok (.return_, 1) := by decide +kernel
theorem dX3_leastIceBeside_0 : decode cX3_leastIceBeside 0 = .ok (.iload_n 1, 1) := by decide +kernel
theorem dX3_leastIceBeside_1 : decode cX3_leastIceBeside 1 = .ok (.ifCond .le 17, 3) := by decide +kernel
theorem dX3_leastIceBeside_4 : decode cX3_leastIceBeside 4 = .ok (.aload_n 0, 1) := by decide +kernel
theorem dX3_leastIceBeside_5 : decode cX3_leastIceBeside 5 = .ok (.getfield 12, 3) := by decide +kernel
theorem dX3_leastIceBeside_8 : decode cX3_leastIceBeside 8 = .ok (.getfield 101, 3) := by decide +kernel
theorem dX3_leastIceBeside_11 : decode cX3_leastIceBeside 11 = .ok (.iload_n 1, 1) := by decide +kernel
theorem dX3_leastIceBeside_12 : decode cX3_leastIceBeside 12 = .ok (.iconst 1, 1) := by decide +kernel
theorem dX3_leastIceBeside_13 : decode cX3_leastIceBeside 13 = .ok (.isub, 1) := by decide +kernel
theorem dX3_leastIceBeside_14 : decode cX3_leastIceBeside 14 = .ok (.iaload, 1) := by decide +kernel
theorem dX3_leastIceBeside_15 : decode cX3_leastIceBeside 15 = .ok (.goto 4, 3) := by decide +kernel
theorem dX3_leastIceBeside_18 : decode cX3_leastIceBeside 18 = .ok (.iconst 0, 1) := by decide +kernel
theorem dX3_leastIceBeside_19 : decode cX3_leastIceBeside 19 = .ok (.istore_n 2, 1) := by decide +kernel
theorem dX3_leastIceBeside_20 : decode cX3_leastIceBeside 20 = .ok (.iload_n 1, 1) := by decide +kernel
theorem dX3_leastIceBeside_21 : decode cX3_leastIceBeside 21 = .ok (.bipush 11, 2) := by decide +kernel
theorem dX3_leastIceBeside_23 : decode cX3_leastIceBeside 23 = .ok (.if_icmp .ge 17, 3) := by decide +kernel
theorem dX3_leastIceBeside_26 : decode cX3_leastIceBeside 26 = .ok (.aload_n 0, 1) := by decide +kernel
theorem dX3_leastIceBeside_27 : decode cX3_leastIceBeside 27 = .ok (.getfield 12, 3) := by decide +kernel
theorem dX3_leastIceBeside_30 : decode cX3_leastIceBeside 30 = .ok (.getfield 101, 3) := by decide +kernel
theorem dX3_leastIceBeside_33 : decode cX3_leastIceBeside 33 = .ok (.iload_n 1, 1) := by decide +kernel
theorem dX3_leastIceBeside_34 : decode cX3_leastIceBeside 34 = .ok (.iconst 1, 1) := by decide +kernel
theorem dX3_leastIceBeside_35 : decode cX3_leastIceBeside 35 = .ok (.iadd, 1) := by decide +kernel
theorem dX3_leastIceBeside_36 : decode cX3_leastIceBeside 36 = .ok (.iaload, 1) := by decide +kernel
theorem dX3_leastIceBeside_37 : decode cX3_leastIceBeside 37 = .ok (.goto 4, 3) := by decide +kernel
theorem dX3_leastIceBeside_40 : decode cX3_leastIceBeside 40 = .ok (.iconst 0, 1) := by decide +kernel
theorem dX3_leastIceBeside_41 : decode cX3_leastIceBeside 41 = .ok (.istore_n 3, 1) := by decide +kernel
theorem dX3_leastIceBeside_42 : decode cX3_leastIceBeside 42 = .ok (.iload_n 2, 1) := by decide +kernel
theorem dX3_leastIceBeside_43 : decode cX3_leastIceBeside 43 = .ok (.ifCond .ne 5, 3) := by decide +kernel
theorem dX3_leastIceBeside_46 : decode cX3_leastIceBeside 46 = .ok (.iload_n 3, 1) := by decide +kernel
theorem dX3_leastIceBeside_47 : decode cX3_leastIceBeside 47 = .ok (.ireturn, 1) := by decide +kernel
theorem dX3_leastIceBeside_48 : decode cX3_leastIceBeside 48 = .ok (.iload_n 3, 1) := by decide +kernel
theorem dX3_leastIceBeside_49 : decode cX3_leastIceBeside 49 = .ok (.ifCond .ne 7, 3) := by decide +kernel
theorem dX3_leastIceBeside_52 : decode cX3_leastIceBeside 52 = .ok (.iload_n 2, 1) := by decide +kernel
theorem dX3_leastIceBeside_53 : decode cX3_leastIceBeside 53 = .ok (.goto 8, 3) := by decide +kernel
theorem dX3_leastIceBeside_56 : decode cX3_leastIceBeside 56 = .ok (.iload_n 2, 1) := by decide +kernel
theorem dX3_leastIceBeside_57 : decode cX3_leastIceBeside 57 = .ok (.iload_n 3, 1) := by decide +kernel
theorem dX3_leastIceBeside_58 : decode cX3_leastIceBeside 58 = .ok (.invokestatic 134, 3) := by decide +kernel
theorem dX3_leastIceBeside_61 : decode cX3_leastIceBeside 61 = .ok (.ireturn, 1) := by decide +kernel
set_option maxRecDepth 20000 in
theorem ggX3_calve_X3_standsInSea : GoodIn wsX3_calve wsX3_standsInSea := goodIn_r _ [11, 4, 3, 31, 32, 33, 34, 35, 36, 37, 38, 39, 40, 41, 42, 43, 44, 45, 46] (by decide +kernel) (by decide +kernel)
set_option maxRecDepth 20000 in
theorem gX3_calve_X3_standsInSea : GoodIn wsX3_calve (wsV RX3 112 RX3 yX3_standsInSea wsX3_standsInSea) := goodIn_app (goodIn_of _ (by decide +kernel)) ggX3_calve_X3_standsInSea
set_option maxRecDepth 20000 in
theorem ggX3_calve_X1_takeLatest : GoodIn wsX3_calve wsX1_takeLatest := goodIn_r _ [16, 17, 18, 19, 20, 21, 22, 23, 15, 24, 25, 26, 27, 28, 29, 30, 47, 48] (by decide +kernel) (by decide +kernel)
set_option maxRecDepth 20000 in
theorem gX3_calve_X1_takeLatest : GoodIn wsX3_calve (wsV RX3 137 RX1 yX1_takeLatest wsX1_takeLatest) := goodIn_app (goodIn_of _ (by decide +kernel)) ggX3_calve_X1_takeLatest
theorem dX3_calve_0 : decode cX3_calve 0 = .ok (.bipush 11, 2) := by decide +kernel
theorem dX3_calve_2 : decode cX3_calve 2 = .ok (.istore_n 1, 1) := by decide +kernel
theorem dX3_calve_3 : decode cX3_calve 3 = .ok (.iload_n 1, 1) := by decide +kernel
theorem dX3_calve_4 : decode cX3_calve 4 = .ok (.ifCond .lt 85, 3) := by decide +kernel
theorem dX3_calve_7 : decode cX3_calve 7 = .ok (.aload_n 0, 1) := by decide +kernel
theorem dX3_calve_8 : decode cX3_calve 8 = .ok (.getfield 12, 3) := by decide +kernel
theorem dX3_calve_11 : decode cX3_calve 11 = .ok (.getfield 101, 3) := by decide +kernel
theorem dX3_calve_14 : decode cX3_calve 14 = .ok (.iload_n 1, 1) := by decide +kernel
theorem dX3_calve_15 : decode cX3_calve 15 = .ok (.iaload, 1) := by decide +kernel
theorem dX3_calve_16 : decode cX3_calve 16 = .ok (.istore_n 2, 1) := by decide +kernel
theorem dX3_calve_17 : decode cX3_calve 17 = .ok (.bipush 9, 2) := by decide +kernel
theorem dX3_calve_19 : decode cX3_calve 19 = .ok (.iload_n 2, 1) := by decide +kernel
theorem dX3_calve_20 : decode cX3_calve 20 = .ok (.imul, 1) := by decide +kernel
theorem dX3_calve_21 : decode cX3_calve 21 = .ok (.bipush 10, 2) := by decide +kernel
theorem dX3_calve_23 : decode cX3_calve 23 = .ok (.aload_n 0, 1) := by decide +kernel
theorem dX3_calve_24 : decode cX3_calve 24 = .ok (.getfield 57, 3) := by decide +kernel
theorem dX3_calve_27 : decode cX3_calve 27 = .ok (.aload_n 0, 1) := by decide +kernel
theorem dX3_calve_28 : decode cX3_calve 28 = .ok (.getfield 25, 3) := by decide +kernel
theorem dX3_calve_31 : decode cX3_calve 31 = .ok (.iload_n 1, 1) := by decide +kernel
theorem dX3_calve_32 : decode cX3_calve 32 = .ok (.iaload, 1) := by decide +kernel
theorem dX3_calve_33 : decode cX3_calve 33 = .ok (.isub, 1) := by decide +kernel
theorem dX3_calve_34 : decode cX3_calve 34 = .ok (.imul, 1) := by decide +kernel
theorem dX3_calve_35 : decode cX3_calve 35 = .ok (.if_icmp .lt 7, 3) := by decide +kernel
theorem dX3_calve_38 : decode cX3_calve 38 = .ok (.iconst 1, 1) := by decide +kernel
theorem dX3_calve_39 : decode cX3_calve 39 = .ok (.goto 4, 3) := by decide +kernel
theorem dX3_calve_42 : decode cX3_calve 42 = .ok (.iconst 0, 1) := by decide +kernel
theorem dX3_calve_43 : decode cX3_calve 43 = .ok (.istore_n 3, 1) := by decide +kernel
theorem dX3_calve_44 : decode cX3_calve 44 = .ok (.aload_n 0, 1) := by decide +kernel
theorem dX3_calve_45 : decode cX3_calve 45 = .ok (.iload_n 1, 1) := by decide +kernel
theorem dX3_calve_46 : decode cX3_calve 46 = .ok (.invokevirtual 112, 3) := by decide +kernel
theorem dX3_calve_49 : decode cX3_calve 49 = .ok (.ifCond .eq 11, 3) := by decide +kernel
theorem dX3_calve_52 : decode cX3_calve 52 = .ok (.iload_n 2, 1) := by decide +kernel
theorem dX3_calve_53 : decode cX3_calve 53 = .ok (.ifCond .le 8, 3) := by decide +kernel
theorem dX3_calve_56 : decode cX3_calve 56 = .ok (.iload_n 3, 1) := by decide +kernel
theorem dX3_calve_57 : decode cX3_calve 57 = .ok (.ifCond .eq 4, 3) := by decide +kernel
theorem dX3_calve_60 : decode cX3_calve 60 = .ok (.return_, 1) := by decide +kernel
theorem dX3_calve_61 : decode cX3_calve 61 = .ok (.aload_n 0, 1) := by decide +kernel
theorem dX3_calve_62 : decode cX3_calve 62 = .ok (.getfield 21, 3) := by decide +kernel
theorem dX3_calve_65 : decode cX3_calve 65 = .ok (.dup, 1) := by decide +kernel
theorem dX3_calve_66 : decode cX3_calve 66 = .ok (.getfield 168, 3) := by decide +kernel
theorem dX3_calve_69 : decode cX3_calve 69 = .ok (.iload_n 2, 1) := by decide +kernel
theorem dX3_calve_70 : decode cX3_calve 70 = .ok (.iadd, 1) := by decide +kernel
theorem dX3_calve_71 : decode cX3_calve 71 = .ok (.putfield 168, 3) := by decide +kernel
theorem dX3_calve_74 : decode cX3_calve 74 = .ok (.aload_n 0, 1) := by decide +kernel
theorem dX3_calve_75 : decode cX3_calve 75 = .ok (.getfield 12, 3) := by decide +kernel
theorem dX3_calve_78 : decode cX3_calve 78 = .ok (.iload_n 1, 1) := by decide +kernel
theorem dX3_calve_79 : decode cX3_calve 79 = .ok (.iload_n 2, 1) := by decide +kernel
theorem dX3_calve_80 : decode cX3_calve 80 = .ok (.invokevirtual 137, 3) := by decide +kernel
theorem dX3_calve_83 : decode cX3_calve 83 = .ok (.iinc 1 (-1), 3) := by decide +kernel
theorem dX3_calve_86 : decode cX3_calve 86 = .ok (.goto (-83), 3) := by decide +kernel
theorem dX3_calve_89 : decode cX3_calve 89 = .ok (.return_, 1) := by decide +kernel
set_option maxRecDepth 20000 in
theorem ggX3_moveBed_J9_floorDiv_7cf53 : GoodIn wsX3_moveBed wsJ9_floorDiv_7cf53 := goodIn_r _ [8] (by decide +kernel) (by decide +kernel)
set_option maxRecDepth 20000 in
theorem gX3_moveBed_J9_floorDiv_7cf53 : GoodIn wsX3_moveBed (va_wsS RX3 123 yJ9_floorDiv_7cf53 wsJ9_floorDiv_7cf53) := goodIn_app (goodIn_of _ (by decide +kernel)) ggX3_moveBed_J9_floorDiv_7cf53
theorem dX3_moveBed_0 : decode cX3_moveBed 0 = .ok (.aload_n 0, 1) := by decide +kernel
theorem dX3_moveBed_1 : decode cX3_moveBed 1 = .ok (.getfield 29, 3) := by decide +kernel
theorem dX3_moveBed_4 : decode cX3_moveBed 4 = .ok (.iload_n 1, 1) := by decide +kernel
theorem dX3_moveBed_5 : decode cX3_moveBed 5 = .ok (.iaload, 1) := by decide +kernel
theorem dX3_moveBed_6 : decode cX3_moveBed 6 = .ok (.aload_n 0, 1) := by decide +kernel
theorem dX3_moveBed_7 : decode cX3_moveBed 7 = .ok (.getfield 12, 3) := by decide +kernel
theorem dX3_moveBed_10 : decode cX3_moveBed 10 = .ok (.getfield 101, 3) := by decide +kernel
theorem dX3_moveBed_13 : decode cX3_moveBed 13 = .ok (.iload_n 1, 1) := by decide +kernel
theorem dX3_moveBed_14 : decode cX3_moveBed 14 = .ok (.iaload, 1) := by decide +kernel
theorem dX3_moveBed_15 : decode cX3_moveBed 15 = .ok (.iconst 3, 1) := by decide +kernel
theorem dX3_moveBed_16 : decode cX3_moveBed 16 = .ok (.invokestatic 123, 3) := by decide +kernel
theorem dX3_moveBed_19 : decode cX3_moveBed 19 = .ok (.isub, 1) := by decide +kernel
theorem dX3_moveBed_20 : decode cX3_moveBed 20 = .ok (.istore_n 2, 1) := by decide +kernel
theorem dX3_moveBed_21 : decode cX3_moveBed 21 = .ok (.aload_n 0, 1) := by decide +kernel
theorem dX3_moveBed_22 : decode cX3_moveBed 22 = .ok (.getfield 25, 3) := by decide +kernel
theorem dX3_moveBed_25 : decode cX3_moveBed 25 = .ok (.iload_n 1, 1) := by decide +kernel
theorem dX3_moveBed_26 : decode cX3_moveBed 26 = .ok (.iaload, 1) := by decide +kernel
theorem dX3_moveBed_27 : decode cX3_moveBed 27 = .ok (.iload_n 2, 1) := by decide +kernel
theorem dX3_moveBed_28 : decode cX3_moveBed 28 = .ok (.if_icmp .ge 16, 3) := by decide +kernel
theorem dX3_moveBed_31 : decode cX3_moveBed 31 = .ok (.aload_n 0, 1) := by decide +kernel
theorem dX3_moveBed_32 : decode cX3_moveBed 32 = .ok (.getfield 25, 3) := by decide +kernel
theorem dX3_moveBed_35 : decode cX3_moveBed 35 = .ok (.iload_n 1, 1) := by decide +kernel
theorem dX3_moveBed_36 : decode cX3_moveBed 36 = .ok (.dup2, 1) := by decide +kernel
theorem dX3_moveBed_37 : decode cX3_moveBed 37 = .ok (.iaload, 1) := by decide +kernel
theorem dX3_moveBed_38 : decode cX3_moveBed 38 = .ok (.iconst 1, 1) := by decide +kernel
theorem dX3_moveBed_39 : decode cX3_moveBed 39 = .ok (.iadd, 1) := by decide +kernel
theorem dX3_moveBed_40 : decode cX3_moveBed 40 = .ok (.iastore, 1) := by decide +kernel
theorem dX3_moveBed_41 : decode cX3_moveBed 41 = .ok (.goto 23, 3) := by decide +kernel
theorem dX3_moveBed_44 : decode cX3_moveBed 44 = .ok (.aload_n 0, 1) := by decide +kernel
theorem dX3_moveBed_45 : decode cX3_moveBed 45 = .ok (.getfield 25, 3) := by decide +kernel
theorem dX3_moveBed_48 : decode cX3_moveBed 48 = .ok (.iload_n 1, 1) := by decide +kernel
theorem dX3_moveBed_49 : decode cX3_moveBed 49 = .ok (.iaload, 1) := by decide +kernel
theorem dX3_moveBed_50 : decode cX3_moveBed 50 = .ok (.iload_n 2, 1) := by decide +kernel
theorem dX3_moveBed_51 : decode cX3_moveBed 51 = .ok (.if_icmp .le 13, 3) := by decide +kernel
theorem dX3_moveBed_54 : decode cX3_moveBed 54 = .ok (.aload_n 0, 1) := by decide +kernel
theorem dX3_moveBed_55 : decode cX3_moveBed 55 = .ok (.getfield 25, 3) := by decide +kernel
theorem dX3_moveBed_58 : decode cX3_moveBed 58 = .ok (.iload_n 1, 1) := by decide +kernel
theorem dX3_moveBed_59 : decode cX3_moveBed 59 = .ok (.dup2, 1) := by decide +kernel
theorem dX3_moveBed_60 : decode cX3_moveBed 60 = .ok (.iaload, 1) := by decide +kernel
theorem dX3_moveBed_61 : decode cX3_moveBed 61 = .ok (.iconst 1, 1) := by decide +kernel
theorem dX3_moveBed_62 : decode cX3_moveBed 62 = .ok (.isub, 1) := by decide +kernel
theorem dX3_moveBed_63 : decode cX3_moveBed 63 = .ok (.iastore, 1) := by decide +kernel
theorem dX3_moveBed_64 : decode cX3_moveBed 64 = .ok (.return_, 1) := by decide +kernel
theorem dX3_markFront_0 : decode cX3_markFront 0 = .ok (.aload_n 0, 1) := by decide +kernel
theorem dX3_markFront_1 : decode cX3_markFront 1 = .ok (.iconst (-1), 1) := by decide +kernel
theorem dX3_markFront_2 : decode cX3_markFront 2 = .ok (.putfield 50, 3) := by decide +kernel
theorem dX3_markFront_5 : decode cX3_markFront 5 = .ok (.iconst 0, 1) := by decide +kernel
theorem dX3_markFront_6 : decode cX3_markFront 6 = .ok (.istore_n 1, 1) := by decide +kernel
theorem dX3_markFront_7 : decode cX3_markFront 7 = .ok (.iload_n 1, 1) := by decide +kernel
theorem dX3_markFront_8 : decode cX3_markFront 8 = .ok (.bipush 12, 2) := by decide +kernel
theorem dX3_markFront_10 : decode cX3_markFront 10 = .ok (.if_icmp .ge 26, 3) := by decide +kernel
theorem dX3_markFront_13 : decode cX3_markFront 13 = .ok (.aload_n 0, 1) := by decide +kernel
theorem dX3_markFront_14 : decode cX3_markFront 14 = .ok (.getfield 12, 3) := by decide +kernel
theorem dX3_markFront_17 : decode cX3_markFront 17 = .ok (.getfield 101, 3) := by decide +kernel
theorem dX3_markFront_20 : decode cX3_markFront 20 = .ok (.iload_n 1, 1) := by decide +kernel
theorem dX3_markFront_21 : decode cX3_markFront 21 = .ok (.iaload, 1) := by decide +kernel
theorem dX3_markFront_22 : decode cX3_markFront 22 = .ok (.ifCond .le 8, 3) := by decide +kernel
theorem dX3_markFront_25 : decode cX3_markFront 25 = .ok (.aload_n 0, 1) := by decide +kernel
theorem dX3_markFront_26 : decode cX3_markFront 26 = .ok (.iload_n 1, 1) := by decide +kernel
theorem dX3_markFront_27 : decode cX3_markFront 27 = .ok (.putfield 50, 3) := by decide +kernel
theorem dX3_markFront_30 : decode cX3_markFront 30 = .ok (.iinc 1 1, 3) := by decide +kernel
theorem dX3_markFront_33 : decode cX3_markFront 33 = .ok (.goto (-26), 3) := by decide +kernel
theorem dX3_markFront_36 : decode cX3_markFront 36 = .ok (.aload_n 0, 1) := by decide +kernel
theorem dX3_markFront_37 : decode cX3_markFront 37 = .ok (.getfield 50, 3) := by decide +kernel
theorem dX3_markFront_40 : decode cX3_markFront 40 = .ok (.ifCond .lt 16, 3) := by decide +kernel
theorem dX3_markFront_43 : decode cX3_markFront 43 = .ok (.aload_n 0, 1) := by decide +kernel
theorem dX3_markFront_44 : decode cX3_markFront 44 = .ok (.getfield 35, 3) := by decide +kernel
theorem dX3_markFront_47 : decode cX3_markFront 47 = .ok (.aload_n 0, 1) := by decide +kernel
theorem dX3_markFront_48 : decode cX3_markFront 48 = .ok (.getfield 50, 3) := by decide +kernel
theorem dX3_markFront_51 : decode cX3_markFront 51 = .ok (.dup2, 1) := by decide +kernel
theorem dX3_markFront_52 : decode cX3_markFront 52 = .ok (.iaload, 1) := by decide +kernel
theorem dX3_markFront_53 : decode cX3_markFront 53 = .ok (.iconst 1, 1) := by decide +kernel
theorem dX3_markFront_54 : decode cX3_markFront 54 = .ok (.iadd, 1) := by decide +kernel
theorem dX3_markFront_55 : decode cX3_markFront 55 = .ok (.iastore, 1) := by decide +kernel
theorem dX3_markFront_56 : decode cX3_markFront 56 = .ok (.return_, 1) := by decide +kernel
theorem dX4_init_0 : decode cX4_init 0 = .ok (.aload_n 0, 1) := by decide +kernel
theorem dX4_init_1 : decode cX4_init 1 = .ok (.invokespecial 1, 3) := by decide +kernel
theorem dX4_init_4 : decode cX4_init 4 = .ok (.return_, 1) := by decide +kernel
set_option maxRecDepth 20000 in
theorem ggX5_init_X3_init : GoodIn wsX5_init wsX3_init := goodIn_r _ [19, 20, 2, 3, 21, 22, 23, 24, 25, 26, 27, 28, 29, 30, 31, 32, 33, 34, 35, 36, 37, 38, 39, 40, 41, 42, 43, 44, 45, 46, 93, 94, 63, 64, 65, 66, 67, 68, 69, 70, 71, 72, 73, 74, 75, 76, 77, 78, 95, 96, 97, 98, 99] (by decide +kernel) (by decide +kernel)
set_option maxRecDepth 20000 in
theorem gX5_init_X3_init : GoodIn wsX5_init (wsX3_init) := ggX5_init_X3_init
set_option maxRecDepth 20000 in
theorem ggX5_init_X0_init : GoodIn wsX5_init wsX0_init := goodIn_r _ [49, 50, 2, 3, 51, 52, 29, 53, 54, 55, 56, 57, 83, 84, 85, 86, 87, 88, 89] (by decide +kernel) (by decide +kernel)
set_option maxRecDepth 20000 in
theorem gX5_init_X0_init : GoodIn wsX5_init (wsX0_init) := ggX5_init_X0_init
set_option maxRecDepth 20000 in
theorem ggX5_init_X2_init : GoodIn wsX5_init wsX2_init := goodIn_r _ [59, 60, 2, 3, 29, 61, 62, 90, 91, 92] (by decide +kernel) (by decide +kernel)
set_option maxRecDepth 20000 in
theorem gX5_init_X2_init_n28 : GoodIn wsX5_init (wsX2_init) := ggX5_init_X2_init
theorem dX5_init_0 : decode cX5_init 0 = .ok (.aload_n 0, 1) := by decide +kernel
theorem dX5_init_1 : decode cX5_init 1 = .ok (.invokespecial 1, 3) := by decide +kernel
theorem dX5_init_4 : decode cX5_init 4 = .ok (.aload_n 0, 1) := by decide +kernel
theorem dX5_init_5 : decode cX5_init 5 = .ok (.new 7, 3) := by decide +kernel
theorem dX5_init_8 : decode cX5_init 8 = .ok (.dup, 1) := by decide +kernel
theorem dX5_init_9 : decode cX5_init 9 = .ok (.invokespecial 9, 3) := by decide +kernel
theorem dX5_init_12 : decode cX5_init 12 = .ok (.putfield 10, 3) := by decide +kernel
theorem dX5_init_15 : decode cX5_init 15 = .ok (.aload_n 0, 1) := by decide +kernel
theorem dX5_init_16 : decode cX5_init 16 = .ok (.new 7, 3) := by decide +kernel
theorem dX5_init_19 : decode cX5_init 19 = .ok (.dup, 1) := by decide +kernel
theorem dX5_init_20 : decode cX5_init 20 = .ok (.invokespecial 9, 3) := by decide +kernel
theorem dX5_init_23 : decode cX5_init 23 = .ok (.putfield 16, 3) := by decide +kernel
theorem dX5_init_26 : decode cX5_init 26 = .ok (.aload_n 0, 1) := by decide +kernel
theorem dX5_init_27 : decode cX5_init 27 = .ok (.new 19, 3) := by decide +kernel
theorem dX5_init_30 : decode cX5_init 30 = .ok (.dup, 1) := by decide +kernel
theorem dX5_init_31 : decode cX5_init 31 = .ok (.invokespecial 21, 3) := by decide +kernel
theorem dX5_init_34 : decode cX5_init 34 = .ok (.putfield 22, 3) := by decide +kernel
theorem dX5_init_37 : decode cX5_init 37 = .ok (.aload_n 0, 1) := by decide +kernel
theorem dX5_init_38 : decode cX5_init 38 = .ok (.new 26, 3) := by decide +kernel
theorem dX5_init_41 : decode cX5_init 41 = .ok (.dup, 1) := by decide +kernel
theorem dX5_init_42 : decode cX5_init 42 = .ok (.invokespecial 28, 3) := by decide +kernel
theorem dX5_init_45 : decode cX5_init 45 = .ok (.putfield 29, 3) := by decide +kernel
theorem dX5_init_48 : decode cX5_init 48 = .ok (.return_, 1) := by decide +kernel
set_option maxRecDepth 20000 in
theorem ggX5_land_X5_needCell : GoodIn wsX5_land wsX5_needCell := goodIn_ca (goodIn_r _ [12, 13, 14] (by decide +kernel) (by decide +kernel)) (goodIn_sub (fun _ h => List.mem_cons_of_mem _ (List.mem_append_left _ (List.mem_append_right _ h))) (by decide +kernel))
set_option maxRecDepth 20000 in
theorem gX5_land_X5_needCell : GoodIn wsX5_land (va_wsS RX5 33 yX5_needCell wsX5_needCell) := goodIn_app (goodIn_of _ (by decide +kernel)) ggX5_land_X5_needCell
set_option maxRecDepth 20000 in
theorem ggX5_land_X5_needWithin : GoodIn wsX5_land wsX5_needWithin := goodIn_ca (goodIn_r _ [17, 18, 19] (by decide +kernel) (by decide +kernel)) (goodIn_sub (fun _ h => List.mem_cons_of_mem _ (List.mem_append_right _ h)) (by decide +kernel))
set_option maxRecDepth 20000 in
theorem gX5_land_X5_needWithin : GoodIn wsX5_land (va_wsS RX5 37 yX5_needWithin wsX5_needWithin) := goodIn_app (goodIn_of _ (by decide +kernel)) ggX5_land_X5_needWithin
theorem dX5_land_0 : decode cX5_land 0 = .ok (.iload_n 1, 1) := by decide +kernel
theorem dX5_land_1 : decode cX5_land 1 = .ok (.invokestatic 33, 3) := by decide +kernel
theorem dX5_land_4 : decode cX5_land 4 = .ok (.iload_n 2, 1) := by decide +kernel
theorem dX5_land_5 : decode cX5_land 5 = .ok (.iconst 0, 1) := by decide +kernel
theorem dX5_land_6 : decode cX5_land 6 = .ok (.sipush 500, 3) := by decide +kernel
theorem dX5_land_9 : decode cX5_land 9 = .ok (.invokestatic 37, 3) := by decide +kernel
theorem dX5_land_12 : decode cX5_land 12 = .ok (.aload_n 0, 1) := by decide +kernel
theorem dX5_land_13 : decode cX5_land 13 = .ok (.getfield 10, 3) := by decide +kernel
theorem dX5_land_16 : decode cX5_land 16 = .ok (.getfield 41, 3) := by decide +kernel
theorem dX5_land_19 : decode cX5_land 19 = .ok (.getfield 45, 3) := by decide +kernel
theorem dX5_land_22 : decode cX5_land 22 = .ok (.iload_n 1, 1) := by decide +kernel
theorem dX5_land_23 : decode cX5_land 23 = .ok (.iaload, 1) := by decide +kernel
theorem dX5_land_24 : decode cX5_land 24 = .ok (.ifCond .gt 15, 3) := by decide +kernel
theorem dX5_land_27 : decode cX5_land 27 = .ok (.aload_n 0, 1) := by decide +kernel
theorem dX5_land_28 : decode cX5_land 28 = .ok (.getfield 10, 3) := by decide +kernel
theorem dX5_land_31 : decode cX5_land 31 = .ok (.getfield 51, 3) := by decide +kernel
theorem dX5_land_34 : decode cX5_land 34 = .ok (.iload_n 1, 1) := by decide +kernel
theorem dX5_land_35 : decode cX5_land 35 = .ok (.iaload, 1) := by decide +kernel
theorem dX5_land_36 : decode cX5_land 36 = .ok (.ifCond .le 13, 3) := by decide +kernel
theorem dX5_land_39 : decode cX5_land 39 = .ok (.new 54, 3) := by decide +kernel
theorem dX5_land_42 : decode cX5_land 42 = .ok (.dup, 1) := by decide +kernel
theorem dX5_land_43 : decode cX5_land 43 = .ok (.ldc 56, 2) := by decide +kernel
theorem dX5_land_45 : decode cX5_land 45 = .ok (.invokespecial 58, 3) := by decide +kernel
theorem dX5_land_48 : decode cX5_land 48 = .ok (.athrow, 1) := by decide +kernel
theorem dX5_land_49 : decode cX5_land 49 = .ok (.aload_n 0, 1) := by decide +kernel
theorem dX5_land_50 : decode cX5_land 50 = .ok (.getfield 10, 3) := by decide +kernel
theorem dX5_land_53 : decode cX5_land 53 = .ok (.getfield 61, 3) := by decide +kernel
theorem dX5_land_56 : decode cX5_land 56 = .ok (.iload_n 1, 1) := by decide +kernel
theorem dX5_land_57 : decode cX5_land 57 = .ok (.iaload, 1) := by decide +kernel
theorem dX5_land_58 : decode cX5_land 58 = .ok (.istore_n 3, 1) := by decide +kernel
theorem dX5_land_59 : decode cX5_land 59 = .ok (.aload_n 0, 1) := by decide +kernel
theorem dX5_land_60 : decode cX5_land 60 = .ok (.getfield 10, 3) := by decide +kernel
theorem dX5_land_63 : decode cX5_land 63 = .ok (.getfield 61, 3) := by decide +kernel
theorem dX5_land_66 : decode cX5_land 66 = .ok (.iload_n 1, 1) := by decide +kernel
theorem dX5_land_67 : decode cX5_land 67 = .ok (.iload_n 2, 1) := by decide +kernel
theorem dX5_land_68 : decode cX5_land 68 = .ok (.iastore, 1) := by decide +kernel
theorem dX5_land_69 : decode cX5_land 69 = .ok (.aload_n 0, 1) := by decide +kernel
theorem dX5_land_70 : decode cX5_land 70 = .ok (.getfield 10, 3) := by decide +kernel
theorem dX5_land_73 : decode cX5_land 73 = .ok (.getfield 64, 3) := by decide +kernel
theorem dX5_land_76 : decode cX5_land 76 = .ok (.iload_n 1, 1) := by decide +kernel
theorem dX5_land_77 : decode cX5_land 77 = .ok (.iload_n 2, 1) := by decide +kernel
theorem dX5_land_78 : decode cX5_land 78 = .ok (.iastore, 1) := by decide +kernel
theorem dX5_land_79 : decode cX5_land 79 = .ok (.iload_n 3, 1) := by decide +kernel
theorem dX5_land_80 : decode cX5_land 80 = .ok (.ireturn, 1) := by decide +kernel
set_option maxRecDepth 20000 in
theorem ggX5_sea_X5_needWithin : GoodIn wsX5_sea wsX5_needWithin := goodIn_ca (goodIn_r _ [6, 7, 8] (by decide +kernel) (by decide +kernel)) (goodIn_sub (fun _ h => List.mem_cons_of_mem _ (List.mem_append_right _ h)) (by decide +kernel))
set_option maxRecDepth 20000 in
theorem gX5_sea_X5_needWithin : GoodIn wsX5_sea (va_wsS RX5 37 yX5_needWithin wsX5_needWithin) := goodIn_app (goodIn_of _ (by decide +kernel)) ggX5_sea_X5_needWithin
theorem dX5_sea_0 : decode cX5_sea 0 = .ok (.iload_n 1, 1) := by decide +kernel
theorem dX5_sea_1 : decode cX5_sea 1 = .ok (.iconst 0, 1) := by decide +kernel
theorem dX5_sea_2 : decode cX5_sea 2 = .ok (.sipush 500, 3) := by decide +kernel
theorem dX5_sea_5 : decode cX5_sea 5 = .ok (.invokestatic 37, 3) := by decide +kernel
theorem dX5_sea_8 : decode cX5_sea 8 = .ok (.aload_n 0, 1) := by decide +kernel
theorem dX5_sea_9 : decode cX5_sea 9 = .ok (.getfield 10, 3) := by decide +kernel
theorem dX5_sea_12 : decode cX5_sea 12 = .ok (.getfield 67, 3) := by decide +kernel
theorem dX5_sea_15 : decode cX5_sea 15 = .ok (.istore_n 2, 1) := by decide +kernel
theorem dX5_sea_16 : decode cX5_sea 16 = .ok (.aload_n 0, 1) := by decide +kernel
theorem dX5_sea_17 : decode cX5_sea 17 = .ok (.getfield 10, 3) := by decide +kernel
theorem dX5_sea_20 : decode cX5_sea 20 = .ok (.iload_n 1, 1) := by decide +kernel
theorem dX5_sea_21 : decode cX5_sea 21 = .ok (.putfield 67, 3) := by decide +kernel
theorem dX5_sea_24 : decode cX5_sea 24 = .ok (.iload_n 2, 1) := by decide +kernel
theorem dX5_sea_25 : decode cX5_sea 25 = .ok (.ireturn, 1) := by decide +kernel
set_option maxRecDepth 20000 in
theorem ggX5_climate_X5_needWithin : GoodIn wsX5_climate wsX5_needWithin := goodIn_ca (goodIn_r _ [8, 9, 10] (by decide +kernel) (by decide +kernel)) (goodIn_sub (fun _ h => List.mem_cons_of_mem _ (List.mem_append_right _ h)) (by decide +kernel))
set_option maxRecDepth 20000 in
theorem gX5_climate_X5_needWithin : GoodIn wsX5_climate (va_wsS RX5 37 yX5_needWithin wsX5_needWithin) := goodIn_app (goodIn_of _ (by decide +kernel)) ggX5_climate_X5_needWithin
theorem dX5_climate_0 : decode cX5_climate 0 = .ok (.iload_n 1, 1) := by decide +kernel
theorem dX5_climate_1 : decode cX5_climate 1 = .ok (.sipush (-300), 3) := by decide +kernel
theorem dX5_climate_4 : decode cX5_climate 4 = .ok (.sipush 300, 3) := by decide +kernel
theorem dX5_climate_7 : decode cX5_climate 7 = .ok (.invokestatic 37, 3) := by decide +kernel
theorem dX5_climate_10 : decode cX5_climate 10 = .ok (.iload_n 2, 1) := by decide +kernel
theorem dX5_climate_11 : decode cX5_climate 11 = .ok (.iconst 0, 1) := by decide +kernel
theorem dX5_climate_12 : decode cX5_climate 12 = .ok (.bipush 20, 2) := by decide +kernel
theorem dX5_climate_14 : decode cX5_climate 14 = .ok (.invokestatic 37, 3) := by decide +kernel
theorem dX5_climate_17 : decode cX5_climate 17 = .ok (.iload_n 3, 1) := by decide +kernel
theorem dX5_climate_18 : decode cX5_climate 18 = .ok (.iconst 0, 1) := by decide +kernel
theorem dX5_climate_19 : decode cX5_climate 19 = .ok (.bipush 9, 2) := by decide +kernel
theorem dX5_climate_21 : decode cX5_climate 21 = .ok (.invokestatic 37, 3) := by decide +kernel
theorem dX5_climate_24 : decode cX5_climate 24 = .ok (.aload_n 0, 1) := by decide +kernel
theorem dX5_climate_25 : decode cX5_climate 25 = .ok (.getfield 10, 3) := by decide +kernel
theorem dX5_climate_28 : decode cX5_climate 28 = .ok (.iload_n 1, 1) := by decide +kernel
theorem dX5_climate_29 : decode cX5_climate 29 = .ok (.putfield 71, 3) := by decide +kernel
theorem dX5_climate_32 : decode cX5_climate 32 = .ok (.aload_n 0, 1) := by decide +kernel
theorem dX5_climate_33 : decode cX5_climate 33 = .ok (.getfield 10, 3) := by decide +kernel
theorem dX5_climate_36 : decode cX5_climate 36 = .ok (.iload_n 2, 1) := by decide +kernel
theorem dX5_climate_37 : decode cX5_climate 37 = .ok (.putfield 74, 3) := by decide +kernel
theorem dX5_climate_40 : decode cX5_climate 40 = .ok (.aload_n 0, 1) := by decide +kernel
theorem dX5_climate_41 : decode cX5_climate 41 = .ok (.getfield 10, 3) := by decide +kernel
theorem dX5_climate_44 : decode cX5_climate 44 = .ok (.iload_n 3, 1) := by decide +kernel
theorem dX5_climate_45 : decode cX5_climate 45 = .ok (.putfield 77, 3) := by decide +kernel
theorem dX5_climate_48 : decode cX5_climate 48 = .ok (.return_, 1) := by decide +kernel
set_option maxRecDepth 20000 in
theorem ggX5_ice_X5_needCell : GoodIn wsX5_ice wsX5_needCell := goodIn_ca (goodIn_r _ [12, 13, 14] (by decide +kernel) (by decide +kernel)) (goodIn_sub (fun _ h => List.mem_cons_of_mem _ (List.mem_append_left _ (List.mem_append_right _ h))) (by decide +kernel))
set_option maxRecDepth 20000 in
theorem gX5_ice_X5_needCell : GoodIn wsX5_ice (va_wsS RX5 33 yX5_needCell wsX5_needCell) := goodIn_app (goodIn_of _ (by decide +kernel)) ggX5_ice_X5_needCell
set_option maxRecDepth 20000 in
theorem ggX5_ice_X5_needWithin : GoodIn wsX5_ice wsX5_needWithin := goodIn_ca (goodIn_r _ [17, 18, 19] (by decide +kernel) (by decide +kernel)) (goodIn_sub (fun _ h => List.mem_cons_of_mem _ (List.mem_append_right _ h)) (by decide +kernel))
set_option maxRecDepth 20000 in
theorem gX5_ice_X5_needWithin : GoodIn wsX5_ice (va_wsS RX5 37 yX5_needWithin wsX5_needWithin) := goodIn_app (goodIn_of _ (by decide +kernel)) ggX5_ice_X5_needWithin
set_option maxRecDepth 20000 in
theorem ggX5_ice_X1_lay : GoodIn wsX5_ice wsX1_lay := goodIn_r _ [24, 25, 26, 47, 48] (by decide +kernel) (by decide +kernel)
set_option maxRecDepth 20000 in
theorem gX5_ice_X1_lay : GoodIn wsX5_ice (wsV RX5 85 RX1 yX1_lay wsX1_lay) := goodIn_app (goodIn_of _ (by decide +kernel)) ggX5_ice_X1_lay
theorem dX5_ice_0 : decode cX5_ice 0 = .ok (.iload_n 1, 1) := by decide +kernel
theorem dX5_ice_1 : decode cX5_ice 1 = .ok (.invokestatic 33, 3) := by decide +kernel
theorem dX5_ice_4 : decode cX5_ice 4 = .ok (.iload_n 2, 1) := by decide +kernel
theorem dX5_ice_5 : decode cX5_ice 5 = .ok (.iconst 1, 1) := by decide +kernel
theorem dX5_ice_6 : decode cX5_ice 6 = .ok (.sipush 999, 3) := by decide +kernel
theorem dX5_ice_9 : decode cX5_ice 9 = .ok (.invokestatic 37, 3) := by decide +kernel
theorem dX5_ice_12 : decode cX5_ice 12 = .ok (.aload_n 0, 1) := by decide +kernel
theorem dX5_ice_13 : decode cX5_ice 13 = .ok (.getfield 10, 3) := by decide +kernel
theorem dX5_ice_16 : decode cX5_ice 16 = .ok (.getfield 41, 3) := by decide +kernel
theorem dX5_ice_19 : decode cX5_ice 19 = .ok (.getfield 45, 3) := by decide +kernel
theorem dX5_ice_22 : decode cX5_ice 22 = .ok (.iload_n 1, 1) := by decide +kernel
theorem dX5_ice_23 : decode cX5_ice 23 = .ok (.iaload, 1) := by decide +kernel
theorem dX5_ice_24 : decode cX5_ice 24 = .ok (.iload_n 2, 1) := by decide +kernel
theorem dX5_ice_25 : decode cX5_ice 25 = .ok (.iadd, 1) := by decide +kernel
theorem dX5_ice_26 : decode cX5_ice 26 = .ok (.sipush 9999, 3) := by decide +kernel
theorem dX5_ice_29 : decode cX5_ice 29 = .ok (.if_icmp .le 13, 3) := by decide +kernel
theorem dX5_ice_32 : decode cX5_ice 32 = .ok (.new 54, 3) := by decide +kernel
theorem dX5_ice_35 : decode cX5_ice 35 = .ok (.dup, 1) := by decide +kernel
theorem dX5_ice_36 : decode cX5_ice 36 = .ok (.ldc 80, 2) := by decide +kernel
theorem dX5_ice_38 : decode cX5_ice 38 = .ok (.invokespecial 58, 3) := by decide +kernel
theorem dX5_ice_41 : decode cX5_ice 41 = .ok (.athrow, 1) := by decide +kernel
theorem dX5_ice_42 : decode cX5_ice 42 = .ok (.aload_n 0, 1) := by decide +kernel
theorem dX5_ice_43 : decode cX5_ice 43 = .ok (.getfield 10, 3) := by decide +kernel
theorem dX5_ice_46 : decode cX5_ice 46 = .ok (.getfield 41, 3) := by decide +kernel
theorem dX5_ice_49 : decode cX5_ice 49 = .ok (.iload_n 1, 1) := by decide +kernel
theorem dX5_ice_50 : decode cX5_ice 50 = .ok (.aload_n 0, 1) := by decide +kernel
theorem dX5_ice_51 : decode cX5_ice 51 = .ok (.getfield 10, 3) := by decide +kernel
theorem dX5_ice_54 : decode cX5_ice 54 = .ok (.getfield 82, 3) := by decide +kernel
theorem dX5_ice_57 : decode cX5_ice 57 = .ok (.iload_n 2, 1) := by decide +kernel
theorem dX5_ice_58 : decode cX5_ice 58 = .ok (.invokevirtual 85, 3) := by decide +kernel
theorem dX5_ice_61 : decode cX5_ice 61 = .ok (.aload_n 0, 1) := by decide +kernel
theorem dX5_ice_62 : decode cX5_ice 62 = .ok (.getfield 10, 3) := by decide +kernel
theorem dX5_ice_65 : decode cX5_ice 65 = .ok (.getfield 88, 3) := by decide +kernel
theorem dX5_ice_68 : decode cX5_ice 68 = .ok (.dup, 1) := by decide +kernel
theorem dX5_ice_69 : decode cX5_ice 69 = .ok (.getfield 92, 3) := by decide +kernel
theorem dX5_ice_72 : decode cX5_ice 72 = .ok (.iload_n 2, 1) := by decide +kernel
theorem dX5_ice_73 : decode cX5_ice 73 = .ok (.iadd, 1) := by decide +kernel
theorem dX5_ice_74 : decode cX5_ice 74 = .ok (.putfield 92, 3) := by decide +kernel
theorem dX5_ice_77 : decode cX5_ice 77 = .ok (.aload_n 0, 1) := by decide +kernel
theorem dX5_ice_78 : decode cX5_ice 78 = .ok (.getfield 10, 3) := by decide +kernel
theorem dX5_ice_81 : decode cX5_ice 81 = .ok (.getfield 41, 3) := by decide +kernel
theorem dX5_ice_84 : decode cX5_ice 84 = .ok (.getfield 45, 3) := by decide +kernel
theorem dX5_ice_87 : decode cX5_ice 87 = .ok (.iload_n 1, 1) := by decide +kernel
theorem dX5_ice_88 : decode cX5_ice 88 = .ok (.iaload, 1) := by decide +kernel
theorem dX5_ice_89 : decode cX5_ice 89 = .ok (.ireturn, 1) := by decide +kernel
theorem dX5_ash_0 : decode cX5_ash 0 = .ok (.aload_n 0, 1) := by decide +kernel
theorem dX5_ash_1 : decode cX5_ash 1 = .ok (.getfield 22, 3) := by decide +kernel
theorem dX5_ash_4 : decode cX5_ash 4 = .ok (.getfield 97, 3) := by decide +kernel
theorem dX5_ash_7 : decode cX5_ash 7 = .ok (.aload_n 0, 1) := by decide +kernel
theorem dX5_ash_8 : decode cX5_ash 8 = .ok (.getfield 10, 3) := by decide +kernel
theorem dX5_ash_11 : decode cX5_ash 11 = .ok (.getfield 82, 3) := by decide +kernel
theorem dX5_ash_14 : decode cX5_ash 14 = .ok (.baload, 1) := by decide +kernel
theorem dX5_ash_15 : decode cX5_ash 15 = .ok (.istore_n 1, 1) := by decide +kernel
theorem dX5_ash_16 : decode cX5_ash 16 = .ok (.aload_n 0, 1) := by decide +kernel
theorem dX5_ash_17 : decode cX5_ash 17 = .ok (.getfield 22, 3) := by decide +kernel
theorem dX5_ash_20 : decode cX5_ash 20 = .ok (.getfield 97, 3) := by decide +kernel
theorem dX5_ash_23 : decode cX5_ash 23 = .ok (.aload_n 0, 1) := by decide +kernel
theorem dX5_ash_24 : decode cX5_ash 24 = .ok (.getfield 10, 3) := by decide +kernel
theorem dX5_ash_27 : decode cX5_ash 27 = .ok (.getfield 82, 3) := by decide +kernel
theorem dX5_ash_30 : decode cX5_ash 30 = .ok (.iconst 1, 1) := by decide +kernel
theorem dX5_ash_31 : decode cX5_ash 31 = .ok (.bastore, 1) := by decide +kernel
theorem dX5_ash_32 : decode cX5_ash 32 = .ok (.iload_n 1, 1) := by decide +kernel
theorem dX5_ash_33 : decode cX5_ash 33 = .ok (.ireturn, 1) := by decide +kernel
set_option maxRecDepth 20000 in
theorem ggX5_pass_X5_needWithin : GoodIn wsX5_pass wsX5_needWithin := goodIn_ca (goodIn_r _ [7, 8, 9] (by decide +kernel) (by decide +kernel)) (goodIn_sub (fun _ h => List.mem_cons_of_mem _ (List.mem_append_left _ (List.mem_append_right _ h))) (by decide +kernel))
set_option maxRecDepth 20000 in
theorem gX5_pass_X5_needWithin : GoodIn wsX5_pass (va_wsS RX5 37 yX5_needWithin wsX5_needWithin) := goodIn_app (goodIn_of _ (by decide +kernel)) ggX5_pass_X5_needWithin
set_option maxRecDepth 20000 in
theorem ggX5_pass_X5_needNotTooLate : GoodIn wsX5_pass wsX5_needNotTooLate := goodIn_ca (goodIn_r _ [13, 14, 15, 1, 3, 150, 151, 152, 153, 154, 155, 156, 157, 158, 159, 160, 161, 162, 163, 164, 165, 166, 167, 168, 169] (by decide +kernel) (by decide +kernel)) (goodIn_sub (fun _ h => List.mem_cons_of_mem _ (List.mem_append_right _ h)) (by decide +kernel))
set_option maxRecDepth 20000 in
theorem gX5_pass_X5_needNotTooLate : GoodIn wsX5_pass (wsV RX5 101 RX5 yX5_needNotTooLate wsX5_needNotTooLate) := goodIn_app (goodIn_of _ (by decide +kernel)) ggX5_pass_X5_needNotTooLate
set_option maxRecDepth 20000 in
theorem ggX5_pass_X3_goThroughYear : GoodIn wsX5_pass wsX3_goThroughYear := goodIn_r _ [20, 21, 22, 23, 24, 19, 25, 26, 27, 28, 29, 30, 31, 32, 33, 34, 35, 36, 37, 38, 39, 40, 41, 42, 43, 44, 45, 46, 47, 48, 49, 50, 51, 52, 53, 54, 55, 56, 57, 58, 59, 60, 61, 62, 63, 64, 65, 66, 67, 68, 69, 70, 71, 72, 73, 74, 75, 76, 77, 78, 79, 80, 81, 82, 83, 84, 85, 86, 87, 88, 89, 90, 91, 92, 93, 94, 95, 96, 97, 98, 99, 100, 101, 102, 103, 104, 105, 106, 107, 108, 109, 110, 111, 112, 113, 114, 115, 116, 117, 118, 119, 120, 121, 122, 123, 124, 125, 126, 127, 128, 129, 130, 154, 155, 156, 157, 158, 159, 160, 161, 162, 163, 164, 165, 166, 167, 168, 169, 170, 171, 172, 173, 174, 175, 176] (by decide +kernel) (by decide +kernel)
set_option maxRecDepth 20000 in
theorem gX5_pass_X3_goThroughYear : GoodIn wsX5_pass (wsV RX5 104 RX3 yX3_goThroughYear wsX3_goThroughYear) := goodIn_app (goodIn_of _ (by decide +kernel)) ggX5_pass_X3_goThroughYear
set_option maxRecDepth 20000 in
theorem ggX5_pass_X0_note : GoodIn wsX5_pass wsX0_note := goodIn_r _ [135, 136, 137, 138, 139, 140, 141, 142, 143, 144, 145, 146, 147, 148, 57, 149, 60, 177, 178, 179, 180, 181, 182, 183, 154, 155, 156, 157, 158, 159, 160, 161, 162, 163, 164, 165, 166, 167, 168, 169, 170, 171] (by decide +kernel) (by decide +kernel)
set_option maxRecDepth 20000 in
theorem gX5_pass_X0_note : GoodIn wsX5_pass (wsV RX5 107 RX0 yX0_note wsX0_note) := goodIn_app (goodIn_of _ (by decide +kernel)) ggX5_pass_X0_note
theorem dX5_pass_0 : decode cX5_pass 0 = .ok (.iload_n 1, 1) := by decide +kernel
theorem dX5_pass_1 : decode cX5_pass 1 = .ok (.iconst 1, 1) := by decide +kernel
theorem dX5_pass_2 : decode cX5_pass 2 = .ok (.bipush 20, 2) := by decide +kernel
theorem dX5_pass_4 : decode cX5_pass 4 = .ok (.invokestatic 37, 3) := by decide +kernel
theorem dX5_pass_7 : decode cX5_pass 7 = .ok (.aload_n 0, 1) := by decide +kernel
theorem dX5_pass_8 : decode cX5_pass 8 = .ok (.iload_n 1, 1) := by decide +kernel
theorem dX5_pass_9 : decode cX5_pass 9 = .ok (.invokevirtual 101, 3) := by decide +kernel
theorem dX5_pass_12 : decode cX5_pass 12 = .ok (.iconst 0, 1) := by decide +kernel
theorem dX5_pass_13 : decode cX5_pass 13 = .ok (.istore_n 2, 1) := by decide +kernel
theorem dX5_pass_14 : decode cX5_pass 14 = .ok (.iload_n 2, 1) := by decide +kernel
theorem dX5_pass_15 : decode cX5_pass 15 = .ok (.iload_n 1, 1) := by decide +kernel
theorem dX5_pass_16 : decode cX5_pass 16 = .ok (.if_icmp .ge 27, 3) := by decide +kernel
theorem dX5_pass_19 : decode cX5_pass 19 = .ok (.aload_n 0, 1) := by decide +kernel
theorem dX5_pass_20 : decode cX5_pass 20 = .ok (.getfield 10, 3) := by decide +kernel
theorem dX5_pass_23 : decode cX5_pass 23 = .ok (.invokevirtual 104, 3) := by decide +kernel
theorem dX5_pass_26 : decode cX5_pass 26 = .ok (.aload_n 0, 1) := by decide +kernel
theorem dX5_pass_27 : decode cX5_pass 27 = .ok (.getfield 22, 3) := by decide +kernel
theorem dX5_pass_30 : decode cX5_pass 30 = .ok (.aload_n 0, 1) := by decide +kernel
theorem dX5_pass_31 : decode cX5_pass 31 = .ok (.getfield 10, 3) := by decide +kernel
theorem dX5_pass_34 : decode cX5_pass 34 = .ok (.invokevirtual 107, 3) := by decide +kernel
theorem dX5_pass_37 : decode cX5_pass 37 = .ok (.iinc 2 1, 3) := by decide +kernel
theorem dX5_pass_40 : decode cX5_pass 40 = .ok (.goto (-26), 3) := by decide +kernel
theorem dX5_pass_43 : decode cX5_pass 43 = .ok (.aload_n 0, 1) := by decide +kernel
theorem dX5_pass_44 : decode cX5_pass 44 = .ok (.getfield 10, 3) := by decide +kernel
theorem dX5_pass_47 : decode cX5_pass 47 = .ok (.getfield 82, 3) := by decide +kernel
theorem dX5_pass_50 : decode cX5_pass 50 = .ok (.ireturn, 1) := by decide +kernel
set_option maxRecDepth 20000 in
theorem ggX5_cellIs_X5_needCell : GoodIn wsX5_cellIs wsX5_needCell := goodIn_ca (goodIn_r _ [5, 6, 7] (by decide +kernel) (by decide +kernel)) (goodIn_sub (fun _ h => List.mem_cons_of_mem _ (List.mem_append_left _ (List.mem_append_right _ h))) (by decide +kernel))
set_option maxRecDepth 20000 in
theorem gX5_cellIs_X5_needCell : GoodIn wsX5_cellIs (va_wsS RX5 33 yX5_needCell wsX5_needCell) := goodIn_app (goodIn_of _ (by decide +kernel)) ggX5_cellIs_X5_needCell
set_option maxRecDepth 20000 in
theorem ggX5_cellIs_X5_needWithin : GoodIn wsX5_cellIs wsX5_needWithin := goodIn_ca (goodIn_r _ [10, 11, 12] (by decide +kernel) (by decide +kernel)) (goodIn_sub (fun _ h => List.mem_cons_of_mem _ (List.mem_append_right _ h)) (by decide +kernel))
set_option maxRecDepth 20000 in
theorem gX5_cellIs_X5_needWithin : GoodIn wsX5_cellIs (va_wsS RX5 37 yX5_needWithin wsX5_needWithin) := goodIn_app (goodIn_of _ (by decide +kernel)) ggX5_cellIs_X5_needWithin
set_option maxRecDepth 20000 in
theorem ggX5_cellIs_X3_tellOf : GoodIn wsX5_cellIs wsX3_tellOf := goodIn_r _ [17, 18, 19, 20, 21, 22, 23, 24, 25, 26, 27, 16, 28, 29, 30, 31, 32, 33, 34, 35, 36, 37, 38, 39, 40, 41, 42, 43, 44, 45, 46, 51, 52, 53, 54, 55, 56, 57, 58, 59, 60, 61, 62, 63, 64, 65, 66, 67, 68] (by decide +kernel) (by decide +kernel)
set_option maxRecDepth 20000 in
theorem gX5_cellIs_X3_tellOf : GoodIn wsX5_cellIs (wsV RX5 111 RX3 yX3_tellOf wsX3_tellOf) := goodIn_app (goodIn_of _ (by decide +kernel)) ggX5_cellIs_X3_tellOf
theorem dX5_cellIs_0 : decode cX5_cellIs 0 = .ok (.iload_n 1, 1) := by decide +kernel
theorem dX5_cellIs_1 : decode cX5_cellIs 1 = .ok (.invokestatic 33, 3) := by decide +kernel
theorem dX5_cellIs_4 : decode cX5_cellIs 4 = .ok (.iload_n 2, 1) := by decide +kernel
theorem dX5_cellIs_5 : decode cX5_cellIs 5 = .ok (.iconst 0, 1) := by decide +kernel
theorem dX5_cellIs_6 : decode cX5_cellIs 6 = .ok (.bipush 9, 2) := by decide +kernel
theorem dX5_cellIs_8 : decode cX5_cellIs 8 = .ok (.invokestatic 37, 3) := by decide +kernel
theorem dX5_cellIs_11 : decode cX5_cellIs 11 = .ok (.aload_n 0, 1) := by decide +kernel
theorem dX5_cellIs_12 : decode cX5_cellIs 12 = .ok (.getfield 10, 3) := by decide +kernel
theorem dX5_cellIs_15 : decode cX5_cellIs 15 = .ok (.iload_n 1, 1) := by decide +kernel
theorem dX5_cellIs_16 : decode cX5_cellIs 16 = .ok (.iload_n 2, 1) := by decide +kernel
theorem dX5_cellIs_17 : decode cX5_cellIs 17 = .ok (.invokevirtual 111, 3) := by decide +kernel
theorem dX5_cellIs_20 : decode cX5_cellIs 20 = .ok (.ireturn, 1) := by decide +kernel
set_option maxRecDepth 20000 in
theorem ggX5_layer_X5_needCell : GoodIn wsX5_layer wsX5_needCell := goodIn_ca (goodIn_r _ [6, 7, 8] (by decide +kernel) (by decide +kernel)) (goodIn_sub (fun _ h => List.mem_cons_of_mem _ (List.mem_append_left _ (List.mem_append_right _ h))) (by decide +kernel))
set_option maxRecDepth 20000 in
theorem gX5_layer_X5_needCell : GoodIn wsX5_layer (va_wsS RX5 33 yX5_needCell wsX5_needCell) := goodIn_app (goodIn_of _ (by decide +kernel)) ggX5_layer_X5_needCell
set_option maxRecDepth 20000 in
theorem ggX5_layer_X5_needWithin : GoodIn wsX5_layer wsX5_needWithin := goodIn_ca (goodIn_r _ [11, 12, 13] (by decide +kernel) (by decide +kernel)) (goodIn_sub (fun _ h => List.mem_cons_of_mem _ (List.mem_append_right _ h)) (by decide +kernel))
set_option maxRecDepth 20000 in
theorem gX5_layer_X5_needWithin : GoodIn wsX5_layer (va_wsS RX5 37 yX5_needWithin wsX5_needWithin) := goodIn_app (goodIn_of _ (by decide +kernel)) ggX5_layer_X5_needWithin
set_option maxRecDepth 20000 in
theorem ggX5_layer_X1_unitsOf : GoodIn wsX5_layer wsX1_unitsOf := goodIn_r _ [18, 19, 40, 41] (by decide +kernel) (by decide +kernel)
set_option maxRecDepth 20000 in
theorem gX5_layer_X1_unitsOf : GoodIn wsX5_layer (wsV RX5 115 RX1 yX1_unitsOf wsX1_unitsOf) := goodIn_app (goodIn_of _ (by decide +kernel)) ggX5_layer_X1_unitsOf
theorem dX5_layer_0 : decode cX5_layer 0 = .ok (.iload_n 1, 1) := by decide +kernel
theorem dX5_layer_1 : decode cX5_layer 1 = .ok (.invokestatic 33, 3) := by decide +kernel
theorem dX5_layer_4 : decode cX5_layer 4 = .ok (.iload_n 2, 1) := by decide +kernel
theorem dX5_layer_5 : decode cX5_layer 5 = .ok (.iconst 0, 1) := by decide +kernel
theorem dX5_layer_6 : decode cX5_layer 6 = .ok (.bipush 60, 2) := by decide +kernel
theorem dX5_layer_8 : decode cX5_layer 8 = .ok (.invokestatic 37, 3) := by decide +kernel
theorem dX5_layer_11 : decode cX5_layer 11 = .ok (.aload_n 0, 1) := by decide +kernel
theorem dX5_layer_12 : decode cX5_layer 12 = .ok (.getfield 10, 3) := by decide +kernel
theorem dX5_layer_15 : decode cX5_layer 15 = .ok (.getfield 41, 3) := by decide +kernel
theorem dX5_layer_18 : decode cX5_layer 18 = .ok (.iload_n 1, 1) := by decide +kernel
theorem dX5_layer_19 : decode cX5_layer 19 = .ok (.iload_n 2, 1) := by decide +kernel
theorem dX5_layer_20 : decode cX5_layer 20 = .ok (.invokevirtual 115, 3) := by decide +kernel
theorem dX5_layer_23 : decode cX5_layer 23 = .ok (.ireturn, 1) := by decide +kernel
set_option maxRecDepth 20000 in
theorem ggX5_yearAt_X5_needCell : GoodIn wsX5_yearAt wsX5_needCell := goodIn_ca (goodIn_r _ [8, 9, 10] (by decide +kernel) (by decide +kernel)) (goodIn_sub (fun _ h => List.mem_cons_of_mem _ (List.mem_append_right _ h)) (by decide +kernel))
set_option maxRecDepth 20000 in
theorem gX5_yearAt_X5_needCell : GoodIn wsX5_yearAt (va_wsS RX5 33 yX5_needCell wsX5_needCell) := goodIn_app (goodIn_of _ (by decide +kernel)) ggX5_yearAt_X5_needCell
set_option maxRecDepth 20000 in
theorem ggX5_yearAt_X1_yearBelow : GoodIn wsX5_yearAt wsX1_yearBelow := goodIn_r _ [15, 16, 17, 18, 14, 19, 20, 41, 42] (by decide +kernel) (by decide +kernel)
set_option maxRecDepth 20000 in
theorem gX5_yearAt_X1_yearBelow : GoodIn wsX5_yearAt (wsV RX5 123 RX1 yX1_yearBelow wsX1_yearBelow) := goodIn_app (goodIn_of _ (by decide +kernel)) ggX5_yearAt_X1_yearBelow
theorem dX5_yearAt_0 : decode cX5_yearAt 0 = .ok (.iload_n 1, 1) := by decide +kernel
theorem dX5_yearAt_1 : decode cX5_yearAt 1 = .ok (.invokestatic 33, 3) := by decide +kernel
theorem dX5_yearAt_4 : decode cX5_yearAt 4 = .ok (.iload_n 2, 1) := by decide +kernel
theorem dX5_yearAt_5 : decode cX5_yearAt 5 = .ok (.ifCond .ge 13, 3) := by decide +kernel
theorem dX5_yearAt_8 : decode cX5_yearAt 8 = .ok (.new 118, 3) := by decide +kernel
theorem dX5_yearAt_11 : decode cX5_yearAt 11 = .ok (.dup, 1) := by decide +kernel
theorem dX5_yearAt_12 : decode cX5_yearAt 12 = .ok (.ldc 120, 2) := by decide +kernel
theorem dX5_yearAt_14 : decode cX5_yearAt 14 = .ok (.invokespecial 122, 3) := by decide +kernel
theorem dX5_yearAt_17 : decode cX5_yearAt 17 = .ok (.athrow, 1) := by decide +kernel
theorem dX5_yearAt_18 : decode cX5_yearAt 18 = .ok (.aload_n 0, 1) := by decide +kernel
theorem dX5_yearAt_19 : decode cX5_yearAt 19 = .ok (.getfield 10, 3) := by decide +kernel
theorem dX5_yearAt_22 : decode cX5_yearAt 22 = .ok (.getfield 41, 3) := by decide +kernel
theorem dX5_yearAt_25 : decode cX5_yearAt 25 = .ok (.iload_n 1, 1) := by decide +kernel
theorem dX5_yearAt_26 : decode cX5_yearAt 26 = .ok (.iload_n 2, 1) := by decide +kernel
theorem dX5_yearAt_27 : decode cX5_yearAt 27 = .ok (.invokevirtual 123, 3) := by decide +kernel
theorem dX5_yearAt_30 : decode cX5_yearAt 30 = .ok (.ireturn, 1) := by decide +kernel
set_option maxRecDepth 20000 in
theorem ggX5_common_X5_needCell : GoodIn wsX5_common wsX5_needCell := goodIn_ca (goodIn_r _ [8, 9, 10] (by decide +kernel) (by decide +kernel)) (goodIn_sub (fun _ h => List.mem_cons_of_mem _ (List.mem_append_right _ h)) (by decide +kernel))
set_option maxRecDepth 20000 in
theorem gX5_common_X5_needCell : GoodIn wsX5_common (va_wsS RX5 33 yX5_needCell wsX5_needCell) := goodIn_app (goodIn_of _ (by decide +kernel)) ggX5_common_X5_needCell
set_option maxRecDepth 20000 in
theorem ggX5_common_X1_unitsOf : GoodIn wsX5_common wsX1_unitsOf := goodIn_r _ [15, 16, 44, 45] (by decide +kernel) (by decide +kernel)
set_option maxRecDepth 20000 in
theorem gX5_common_X1_unitsOf : GoodIn wsX5_common (wsV RX5 115 RX1 yX1_unitsOf wsX1_unitsOf) := goodIn_app (goodIn_of _ (by decide +kernel)) ggX5_common_X1_unitsOf
theorem dX5_common_0 : decode cX5_common 0 = .ok (.iload_n 1, 1) := by decide +kernel
theorem dX5_common_1 : decode cX5_common 1 = .ok (.invokestatic 33, 3) := by decide +kernel
theorem dX5_common_4 : decode cX5_common 4 = .ok (.iload_n 2, 1) := by decide +kernel
theorem dX5_common_5 : decode cX5_common 5 = .ok (.invokestatic 33, 3) := by decide +kernel
theorem dX5_common_8 : decode cX5_common 8 = .ok (.iconst 0, 1) := by decide +kernel
theorem dX5_common_9 : decode cX5_common 9 = .ok (.istore_n 3, 1) := by decide +kernel
theorem dX5_common_10 : decode cX5_common 10 = .ok (.iconst 0, 1) := by decide +kernel
theorem dX5_common_11 : decode cX5_common 11 = .ok (.istore 4, 2) := by decide +kernel
theorem dX5_common_13 : decode cX5_common 13 = .ok (.iload 4, 2) := by decide +kernel
theorem dX5_common_15 : decode cX5_common 15 = .ok (.bipush 61, 2) := by decide +kernel
theorem dX5_common_17 : decode cX5_common 17 = .ok (.if_icmp .ge 57, 3) := by decide +kernel
theorem dX5_common_20 : decode cX5_common 20 = .ok (.aload_n 0, 1) := by decide +kernel
theorem dX5_common_21 : decode cX5_common 21 = .ok (.getfield 22, 3) := by decide +kernel
theorem dX5_common_24 : decode cX5_common 24 = .ok (.getfield 97, 3) := by decide +kernel
theorem dX5_common_27 : decode cX5_common 27 = .ok (.iload 4, 2) := by decide +kernel
theorem dX5_common_29 : decode cX5_common 29 = .ok (.baload, 1) := by decide +kernel
theorem dX5_common_30 : decode cX5_common 30 = .ok (.ifCond .eq 38, 3) := by decide +kernel
theorem dX5_common_33 : decode cX5_common 33 = .ok (.aload_n 0, 1) := by decide +kernel
theorem dX5_common_34 : decode cX5_common 34 = .ok (.getfield 10, 3) := by decide +kernel
theorem dX5_common_37 : decode cX5_common 37 = .ok (.getfield 41, 3) := by decide +kernel
theorem dX5_common_40 : decode cX5_common 40 = .ok (.iload_n 1, 1) := by decide +kernel
theorem dX5_common_41 : decode cX5_common 41 = .ok (.iload 4, 2) := by decide +kernel
theorem dX5_common_43 : decode cX5_common 43 = .ok (.invokevirtual 115, 3) := by decide +kernel
theorem dX5_common_46 : decode cX5_common 46 = .ok (.ifCond .le 22, 3) := by decide +kernel
theorem dX5_common_49 : decode cX5_common 49 = .ok (.aload_n 0, 1) := by decide +kernel
theorem dX5_common_50 : decode cX5_common 50 = .ok (.getfield 10, 3) := by decide +kernel
theorem dX5_common_53 : decode cX5_common 53 = .ok (.getfield 41, 3) := by decide +kernel
theorem dX5_common_56 : decode cX5_common 56 = .ok (.iload_n 2, 1) := by decide +kernel
theorem dX5_common_57 : decode cX5_common 57 = .ok (.iload 4, 2) := by decide +kernel
theorem dX5_common_59 : decode cX5_common 59 = .ok (.invokevirtual 115, 3) := by decide +kernel
theorem dX5_common_62 : decode cX5_common 62 = .ok (.ifCond .le 6, 3) := by decide +kernel
theorem dX5_common_65 : decode cX5_common 65 = .ok (.iinc 3 1, 3) := by decide +kernel
theorem dX5_common_68 : decode cX5_common 68 = .ok (.iinc 4 1, 3) := by decide +kernel
theorem dX5_common_71 : decode cX5_common 71 = .ok (.goto (-58), 3) := by decide +kernel
theorem dX5_common_74 : decode cX5_common 74 = .ok (.iload_n 3, 1) := by decide +kernel
theorem dX5_common_75 : decode cX5_common 75 = .ok (.ireturn, 1) := by decide +kernel
theorem dX5_floods_0 : decode cX5_floods 0 = .ok (.aload_n 0, 1) := by decide +kernel
theorem dX5_floods_1 : decode cX5_floods 1 = .ok (.getfield 22, 3) := by decide +kernel
theorem dX5_floods_4 : decode cX5_floods 4 = .ok (.getfield 126, 3) := by decide +kernel
theorem dX5_floods_7 : decode cX5_floods 7 = .ok (.ireturn, 1) := by decide +kernel
set_option maxRecDepth 20000 in
theorem ggX5_flood_X5_needWithin : GoodIn wsX5_flood wsX5_needWithin := goodIn_ca (goodIn_r _ [11, 12, 13] (by decide +kernel) (by decide +kernel)) (goodIn_sub (fun _ h => List.mem_cons_of_mem _ (List.mem_append_right _ h)) (by decide +kernel))
set_option maxRecDepth 20000 in
theorem gX5_flood_X5_needWithin : GoodIn wsX5_flood (va_wsS RX5 37 yX5_needWithin wsX5_needWithin) := goodIn_app (goodIn_of _ (by decide +kernel)) ggX5_flood_X5_needWithin
theorem dX5_flood_0 : decode cX5_flood 0 = .ok (.iload_n 1, 1) := by decide +kernel
theorem dX5_flood_1 : decode cX5_flood 1 = .ok (.ifCond .lt 14, 3) := by decide +kernel
theorem dX5_flood_4 : decode cX5_flood 4 = .ok (.iload_n 1, 1) := by decide +kernel
theorem dX5_flood_5 : decode cX5_flood 5 = .ok (.aload_n 0, 1) := by decide +kernel
theorem dX5_flood_6 : decode cX5_flood 6 = .ok (.getfield 22, 3) := by decide +kernel
theorem dX5_flood_9 : decode cX5_flood 9 = .ok (.getfield 126, 3) := by decide +kernel
theorem dX5_flood_12 : decode cX5_flood 12 = .ok (.if_icmp .lt 13, 3) := by decide +kernel
theorem dX5_flood_15 : decode cX5_flood 15 = .ok (.new 129, 3) := by decide +kernel
theorem dX5_flood_18 : decode cX5_flood 18 = .ok (.dup, 1) := by decide +kernel
theorem dX5_flood_19 : decode cX5_flood 19 = .ok (.ldc 131, 2) := by decide +kernel
theorem dX5_flood_21 : decode cX5_flood 21 = .ok (.invokespecial 133, 3) := by decide +kernel
theorem dX5_flood_24 : decode cX5_flood 24 = .ok (.athrow, 1) := by decide +kernel
theorem dX5_flood_25 : decode cX5_flood 25 = .ok (.iload_n 2, 1) := by decide +kernel
theorem dX5_flood_26 : decode cX5_flood 26 = .ok (.iconst 0, 1) := by decide +kernel
theorem dX5_flood_27 : decode cX5_flood 27 = .ok (.iconst 2, 1) := by decide +kernel
theorem dX5_flood_28 : decode cX5_flood 28 = .ok (.invokestatic 37, 3) := by decide +kernel
theorem dX5_flood_31 : decode cX5_flood 31 = .ok (.iload_n 2, 1) := by decide +kernel
theorem dX5_flood_32 : decode cX5_flood 32 = .ok (.lookupswitch 48 #[(0, 28), (1, 38)], 28) := by decide +kernel
theorem dX5_flood_60 : decode cX5_flood 60 = .ok (.aload_n 0, 1) := by decide +kernel
theorem dX5_flood_61 : decode cX5_flood 61 = .ok (.getfield 22, 3) := by decide +kernel
theorem dX5_flood_64 : decode cX5_flood 64 = .ok (.getfield 134, 3) := by decide +kernel
theorem dX5_flood_67 : decode cX5_flood 67 = .ok (.iload_n 1, 1) := by decide +kernel
theorem dX5_flood_68 : decode cX5_flood 68 = .ok (.iaload, 1) := by decide +kernel
theorem dX5_flood_69 : decode cX5_flood 69 = .ok (.ireturn, 1) := by decide +kernel
theorem dX5_flood_70 : decode cX5_flood 70 = .ok (.aload_n 0, 1) := by decide +kernel
theorem dX5_flood_71 : decode cX5_flood 71 = .ok (.getfield 22, 3) := by decide +kernel
theorem dX5_flood_74 : decode cX5_flood 74 = .ok (.getfield 137, 3) := by decide +kernel
theorem dX5_flood_77 : decode cX5_flood 77 = .ok (.iload_n 1, 1) := by decide +kernel
theorem dX5_flood_78 : decode cX5_flood 78 = .ok (.iaload, 1) := by decide +kernel
theorem dX5_flood_79 : decode cX5_flood 79 = .ok (.ireturn, 1) := by decide +kernel
theorem dX5_flood_80 : decode cX5_flood 80 = .ok (.aload_n 0, 1) := by decide +kernel
theorem dX5_flood_81 : decode cX5_flood 81 = .ok (.getfield 22, 3) := by decide +kernel
theorem dX5_flood_84 : decode cX5_flood 84 = .ok (.getfield 140, 3) := by decide +kernel
theorem dX5_flood_87 : decode cX5_flood 87 = .ok (.iload_n 1, 1) := by decide +kernel
theorem dX5_flood_88 : decode cX5_flood 88 = .ok (.iaload, 1) := by decide +kernel
theorem dX5_flood_89 : decode cX5_flood 89 = .ok (.ireturn, 1) := by decide +kernel
set_option maxRecDepth 20000 in
theorem ggX5_front_X5_needWithin : GoodIn wsX5_front wsX5_needWithin := goodIn_ca (goodIn_r _ [8, 9, 10] (by decide +kernel) (by decide +kernel)) (goodIn_sub (fun _ h => List.mem_cons_of_mem _ (List.mem_append_right _ h)) (by decide +kernel))
set_option maxRecDepth 20000 in
theorem gX5_front_X5_needWithin : GoodIn wsX5_front (va_wsS RX5 37 yX5_needWithin wsX5_needWithin) := goodIn_app (goodIn_of _ (by decide +kernel)) ggX5_front_X5_needWithin
theorem dX5_front_0 : decode cX5_front 0 = .ok (.iload_n 1, 1) := by decide +kernel
theorem dX5_front_1 : decode cX5_front 1 = .ok (.iconst 0, 1) := by decide +kernel
theorem dX5_front_2 : decode cX5_front 2 = .ok (.aload_n 0, 1) := by decide +kernel
theorem dX5_front_3 : decode cX5_front 3 = .ok (.getfield 10, 3) := by decide +kernel
theorem dX5_front_6 : decode cX5_front 6 = .ok (.getfield 82, 3) := by decide +kernel
theorem dX5_front_9 : decode cX5_front 9 = .ok (.invokestatic 37, 3) := by decide +kernel
theorem dX5_front_12 : decode cX5_front 12 = .ok (.aload_n 0, 1) := by decide +kernel
theorem dX5_front_13 : decode cX5_front 13 = .ok (.getfield 22, 3) := by decide +kernel
theorem dX5_front_16 : decode cX5_front 16 = .ok (.getfield 143, 3) := by decide +kernel
theorem dX5_front_19 : decode cX5_front 19 = .ok (.iload_n 1, 1) := by decide +kernel
theorem dX5_front_20 : decode cX5_front 20 = .ok (.iaload, 1) := by decide +kernel
theorem dX5_front_21 : decode cX5_front 21 = .ok (.ireturn, 1) := by decide +kernel
set_option maxRecDepth 20000 in
theorem ggX5_total_X5_needWithin : GoodIn wsX5_total wsX5_needWithin := goodIn_ca (goodIn_r _ [11, 12, 13] (by decide +kernel) (by decide +kernel)) (goodIn_sub (fun _ h => List.mem_cons_of_mem _ (List.mem_append_right _ h)) (by decide +kernel))
set_option maxRecDepth 20000 in
theorem gX5_total_X5_needWithin : GoodIn wsX5_total (va_wsS RX5 37 yX5_needWithin wsX5_needWithin) := goodIn_app (goodIn_of _ (by decide +kernel)) ggX5_total_X5_needWithin
set_option maxRecDepth 20000 in
theorem ggX5_total_X1_allIce : GoodIn wsX5_total wsX1_allIce := goodIn_r _ [18, 19, 51, 52] (by decide +kernel) (by decide +kernel)
set_option maxRecDepth 20000 in
theorem gX5_total_X1_allIce : GoodIn wsX5_total (wsV RX5 146 RX1 yX1_allIce wsX1_allIce) := goodIn_app (goodIn_of _ (by decide +kernel)) ggX5_total_X1_allIce
set_option maxRecDepth 20000 in
theorem ggX5_total_X3_allWater : GoodIn wsX5_total wsX3_allWater := goodIn_r _ [24, 25, 30, 31, 32, 33, 34, 35, 36, 37, 38, 39, 40, 41, 42, 43, 44, 45] (by decide +kernel) (by decide +kernel)
set_option maxRecDepth 20000 in
theorem gX5_total_X3_allWater : GoodIn wsX5_total (wsV RX5 150 RX3 yX3_allWater wsX3_allWater) := goodIn_app (goodIn_of _ (by decide +kernel)) ggX5_total_X3_allWater
theorem dX5_total_0 : decode cX5_total 0 = .ok (.iload_n 1, 1) := by decide +kernel
theorem dX5_total_1 : decode cX5_total 1 = .ok (.iconst 0, 1) := by decide +kernel
theorem dX5_total_2 : decode cX5_total 2 = .ok (.iconst 5, 1) := by decide +kernel
theorem dX5_total_3 : decode cX5_total 3 = .ok (.invokestatic 37, 3) := by decide +kernel
theorem dX5_total_6 : decode cX5_total 6 = .ok (.iload_n 1, 1) := by decide +kernel
theorem dX5_total_7 : decode cX5_total 7 = .ok (.tableswitch 85 0 4 #[33, 44, 52, 63, 74], 33) := by decide +kernel
theorem dX5_total_40 : decode cX5_total 40 = .ok (.aload_n 0, 1) := by decide +kernel
theorem dX5_total_41 : decode cX5_total 41 = .ok (.getfield 10, 3) := by decide +kernel
theorem dX5_total_44 : decode cX5_total 44 = .ok (.getfield 41, 3) := by decide +kernel
theorem dX5_total_47 : decode cX5_total 47 = .ok (.invokevirtual 146, 3) := by decide +kernel
theorem dX5_total_50 : decode cX5_total 50 = .ok (.ireturn, 1) := by decide +kernel
theorem dX5_total_51 : decode cX5_total 51 = .ok (.aload_n 0, 1) := by decide +kernel
theorem dX5_total_52 : decode cX5_total 52 = .ok (.getfield 10, 3) := by decide +kernel
theorem dX5_total_55 : decode cX5_total 55 = .ok (.invokevirtual 150, 3) := by decide +kernel
theorem dX5_total_58 : decode cX5_total 58 = .ok (.ireturn, 1) := by decide +kernel
theorem dX5_total_59 : decode cX5_total 59 = .ok (.aload_n 0, 1) := by decide +kernel
theorem dX5_total_60 : decode cX5_total 60 = .ok (.getfield 10, 3) := by decide +kernel
theorem dX5_total_63 : decode cX5_total 63 = .ok (.getfield 88, 3) := by decide +kernel
theorem dX5_total_66 : decode cX5_total 66 = .ok (.getfield 153, 3) := by decide +kernel
theorem dX5_total_69 : decode cX5_total 69 = .ok (.ireturn, 1) := by decide +kernel
theorem dX5_total_70 : decode cX5_total 70 = .ok (.aload_n 0, 1) := by decide +kernel
theorem dX5_total_71 : decode cX5_total 71 = .ok (.getfield 10, 3) := by decide +kernel
theorem dX5_total_74 : decode cX5_total 74 = .ok (.getfield 88, 3) := by decide +kernel
theorem dX5_total_77 : decode cX5_total 77 = .ok (.getfield 156, 3) := by decide +kernel
theorem dX5_total_80 : decode cX5_total 80 = .ok (.ireturn, 1) := by decide +kernel
theorem dX5_total_81 : decode cX5_total 81 = .ok (.aload_n 0, 1) := by decide +kernel
theorem dX5_total_82 : decode cX5_total 82 = .ok (.getfield 10, 3) := by decide +kernel
theorem dX5_total_85 : decode cX5_total 85 = .ok (.getfield 88, 3) := by decide +kernel
theorem dX5_total_88 : decode cX5_total 88 = .ok (.getfield 159, 3) := by decide +kernel
theorem dX5_total_91 : decode cX5_total 91 = .ok (.ireturn, 1) := by decide +kernel
theorem dX5_total_92 : decode cX5_total 92 = .ok (.aload_n 0, 1) := by decide +kernel
theorem dX5_total_93 : decode cX5_total 93 = .ok (.getfield 10, 3) := by decide +kernel
theorem dX5_total_96 : decode cX5_total 96 = .ok (.getfield 88, 3) := by decide +kernel
theorem dX5_total_99 : decode cX5_total 99 = .ok (.getfield 92, 3) := by decide +kernel
theorem dX5_total_102 : decode cX5_total 102 = .ok (.ireturn, 1) := by decide +kernel
theorem dX5_iceAnew_0 : decode cX5_iceAnew 0 = .ok (.aload_n 0, 1) := by decide +kernel
theorem dX5_iceAnew_1 : decode cX5_iceAnew 1 = .ok (.getfield 10, 3) := by decide +kernel
theorem dX5_iceAnew_4 : decode cX5_iceAnew 4 = .ok (.getfield 88, 3) := by decide +kernel
theorem dX5_iceAnew_7 : decode cX5_iceAnew 7 = .ok (.astore_n 1, 1) := by decide +kernel
theorem dX5_iceAnew_8 : decode cX5_iceAnew 8 = .ok (.aload_n 1, 1) := by decide +kernel
theorem dX5_iceAnew_9 : decode cX5_iceAnew 9 = .ok (.getfield 159, 3) := by decide +kernel
