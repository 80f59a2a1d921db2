theorem wsL_law_x0 : ∀ w ∈ (vx_atS RX4 56 "java/lang/IllegalArgumentException" ["java/lang/RuntimeException", "java/lang/Exception"]).filter goodWord, w ∈ lw_tbl := by decide +kernel
theorem wsL_law_x1 : ∀ w ∈ (vx_atS RX4 74 "java/lang/IllegalStateException" ["java/lang/RuntimeException", "java/lang/Exception"]).filter goodWord, w ∈ lw_tbl := by decide +kernel
theorem wsL_law_x2 : ∀ w ∈ (vx_atS RX4 129 "java/lang/IndexOutOfBoundsException" ["java/lang/RuntimeException", "java/lang/Exception"]).filter goodWord, w ∈ lw_tbl := by decide +kernel
theorem wsL_law_in : ∀ w ∈ wsL_law, w ∈ lw_tbl := fun w h => (List.mem_append.mp h).elim (fun h => (List.mem_append.mp h).elim (fun h => (List.mem_append.mp h).elim (fun h => wsL_law_in0 w h) (fun h => wsL_law_x0 w h)) (fun h => wsL_law_x1 w h)) (fun h => wsL_law_x2 w h)
theorem inlX0 : ∀ w ∈ wsX00, w ∈ wsL_law := fun _ h => List.mem_append_left _ (List.mem_append_left _ (List.mem_append_left _ (List.mem_append_left _ (List.mem_append_right _ h))))
theorem inX0 : ∀ w ∈ wsX00, w ∈ lw_tbl := fun w h => wsL_law_in w (inlX0 w h)
theorem inlX1 : ∀ w ∈ wsX10, w ∈ wsL_law := fun _ h => List.mem_append_left _ (List.mem_append_left _ (List.mem_append_left _ (List.mem_append_left _ (List.mem_append_left _ (List.mem_append_left _ (List.mem_append_left _ (List.mem_append_right _ h)))))))
theorem inX1 : ∀ w ∈ wsX10, w ∈ lw_tbl := fun w h => wsL_law_in w (inlX1 w h)
theorem inlX2 : ∀ w ∈ wsX20, w ∈ wsL_law := fun _ h => List.mem_append_left _ (List.mem_append_left _ (List.mem_append_left _ (List.mem_append_left _ (List.mem_append_left _ (List.mem_append_right _ h)))))
theorem inX2 : ∀ w ∈ wsX20, w ∈ lw_tbl := fun w h => wsL_law_in w (inlX2 w h)
theorem inlX3 : ∀ w ∈ wsX30, w ∈ wsL_law := fun _ h => List.mem_append_left _ (List.mem_append_left _ (List.mem_append_left _ (List.mem_append_left _ (List.mem_append_left _ (List.mem_append_left _ (List.mem_append_right _ h))))))
theorem inX3 : ∀ w ∈ wsX30, w ∈ lw_tbl := fun w h => wsL_law_in w (inlX3 w h)
theorem inlX4 : ∀ w ∈ wsX40, w ∈ wsL_law := fun _ h => List.mem_append_left _ (List.mem_append_left _ (List.mem_append_left _ (List.mem_append_left _ (List.mem_append_left _ (List.mem_append_left _ (List.mem_append_left _ (List.mem_append_left _ (List.mem_append_right _ h))))))))
theorem inX4 : ∀ w ∈ wsX40, w ∈ lw_tbl := fun w h => wsL_law_in w (inlX4 w h)
theorem inX5 : ∀ w ∈ wsX50, w ∈ lw_tbl := by decide +kernel
theorem inJx145de : ∀ w ∈ wsJx145de0, w ∈ lw_tbl := by decide +kernel
theorem inJ0 : ∀ w ∈ wsJ00, w ∈ lw_tbl := by decide +kernel
theorem inJ7 : ∀ w ∈ wsJ70, w ∈ lw_tbl := by decide +kernel
set_option maxRecDepth 20000 in
theorem ggX0_init_J7_fill_53178 : GoodIn wsX0_init wsJ7_fill_53178 := goodIn_r _ [11] (by decide +kernel) (by decide +kernel)
set_option maxRecDepth 20000 in
theorem gX0_init_J7_fill_53178 : GoodIn wsX0_init (va_wsS RX0 21 yJ7_fill_53178 wsJ7_fill_53178) := goodIn_app (goodIn_of _ (by decide +kernel)) ggX0_init_J7_fill_53178
theorem dX0_init_0 : decode cX0_init 0 = .ok (.aload_n 0, 1) := by decide +kernel
theorem dX0_init_1 : decode cX0_init 1 = .ok (.invokespecial 3, 3) := by decide +kernel
theorem dX0_init_4 : decode cX0_init 4 = .ok (.aload_n 0, 1) := by decide +kernel
theorem dX0_init_5 : decode cX0_init 5 = .ok (.iconst 4, 1) := by decide +kernel
theorem dX0_init_6 : decode cX0_init 6 = .ok (.newarray .int, 2) := by decide +kernel
theorem dX0_init_8 : decode cX0_init 8 = .ok (.putfield 9, 3) := by decide +kernel
theorem dX0_init_11 : decode cX0_init 11 = .ok (.aload_n 0, 1) := by decide +kernel
theorem dX0_init_12 : decode cX0_init 12 = .ok (.sipush 240, 3) := by decide +kernel
theorem dX0_init_15 : decode cX0_init 15 = .ok (.newarray .int, 2) := by decide +kernel
theorem dX0_init_17 : decode cX0_init 17 = .ok (.putfield 15, 3) := by decide +kernel
theorem dX0_init_20 : decode cX0_init 20 = .ok (.aload_n 0, 1) := by decide +kernel
theorem dX0_init_21 : decode cX0_init 21 = .ok (.sipush 240, 3) := by decide +kernel
theorem dX0_init_24 : decode cX0_init 24 = .ok (.newarray .int, 2) := by decide +kernel
theorem dX0_init_26 : decode cX0_init 26 = .ok (.putfield 18, 3) := by decide +kernel
theorem dX0_init_29 : decode cX0_init 29 = .ok (.aload_n 0, 1) := by decide +kernel
theorem dX0_init_30 : decode cX0_init 30 = .ok (.getfield 9, 3) := by decide +kernel
theorem dX0_init_33 : decode cX0_init 33 = .ok (.bipush 10, 2) := by decide +kernel
theorem dX0_init_35 : decode cX0_init 35 = .ok (.invokestatic 21, 3) := by decide +kernel
theorem dX0_init_38 : decode cX0_init 38 = .ok (.aload_n 0, 1) := by decide +kernel
theorem dX0_init_39 : decode cX0_init 39 = .ok (.getfield 15, 3) := by decide +kernel
theorem dX0_init_42 : decode cX0_init 42 = .ok (.iconst (-1), 1) := by decide +kernel
theorem dX0_init_43 : decode cX0_init 43 = .ok (.invokestatic 21, 3) := by decide +kernel
theorem dX0_init_46 : decode cX0_init 46 = .ok (.return_, 1) := by decide +kernel
theorem dX0_cacheOf_0 : decode cX0_cacheOf 0 = .ok (.aload_n 0, 1) := by decide +kernel
theorem dX0_cacheOf_1 : decode cX0_cacheOf 1 = .ok (.getfield 9, 3) := by decide +kernel
theorem dX0_cacheOf_4 : decode cX0_cacheOf 4 = .ok (.iload_n 1, 1) := by decide +kernel
theorem dX0_cacheOf_5 : decode cX0_cacheOf 5 = .ok (.iaload, 1) := by decide +kernel
theorem dX0_cacheOf_6 : decode cX0_cacheOf 6 = .ok (.ireturn, 1) := by decide +kernel
theorem dX0_allowCache_0 : decode cX0_allowCache 0 = .ok (.aload_n 0, 1) := by decide +kernel
theorem dX0_allowCache_1 : decode cX0_allowCache 1 = .ok (.getfield 9, 3) := by decide +kernel
theorem dX0_allowCache_4 : decode cX0_allowCache 4 = .ok (.iload_n 1, 1) := by decide +kernel
theorem dX0_allowCache_5 : decode cX0_allowCache 5 = .ok (.iload_n 2, 1) := by decide +kernel
theorem dX0_allowCache_6 : decode cX0_allowCache 6 = .ok (.iastore, 1) := by decide +kernel
theorem dX0_allowCache_7 : decode cX0_allowCache 7 = .ok (.return_, 1) := by decide +kernel
set_option maxRecDepth 20000 in
theorem ggX0_areKept_X0_place : GoodIn wsX0_areKept wsX0_place := goodIn_r _ [5] (by decide +kernel) (by decide +kernel)
set_option maxRecDepth 20000 in
theorem gX0_areKept_X0_place : GoodIn wsX0_areKept (va_wsS RX0 27 yX0_place wsX0_place) := goodIn_app (goodIn_of _ (by decide +kernel)) ggX0_areKept_X0_place
theorem dX0_areKept_0 : decode cX0_areKept 0 = .ok (.aload_n 0, 1) := by decide +kernel
theorem dX0_areKept_1 : decode cX0_areKept 1 = .ok (.getfield 15, 3) := by decide +kernel
theorem dX0_areKept_4 : decode cX0_areKept 4 = .ok (.iload_n 1, 1) := by decide +kernel
theorem dX0_areKept_5 : decode cX0_areKept 5 = .ok (.iload_n 2, 1) := by decide +kernel
theorem dX0_areKept_6 : decode cX0_areKept 6 = .ok (.iload_n 3, 1) := by decide +kernel
theorem dX0_areKept_7 : decode cX0_areKept 7 = .ok (.invokestatic 27, 3) := by decide +kernel
theorem dX0_areKept_10 : decode cX0_areKept 10 = .ok (.iaload, 1) := by decide +kernel
theorem dX0_areKept_11 : decode cX0_areKept 11 = .ok (.iconst (-1), 1) := by decide +kernel
theorem dX0_areKept_12 : decode cX0_areKept 12 = .ok (.if_icmp .eq 7, 3) := by decide +kernel
theorem dX0_areKept_15 : decode cX0_areKept 15 = .ok (.iconst 1, 1) := by decide +kernel
theorem dX0_areKept_16 : decode cX0_areKept 16 = .ok (.goto 4, 3) := by decide +kernel
theorem dX0_areKept_19 : decode cX0_areKept 19 = .ok (.iconst 0, 1) := by decide +kernel
theorem dX0_areKept_20 : decode cX0_areKept 20 = .ok (.ireturn, 1) := by decide +kernel
set_option maxRecDepth 20000 in
theorem ggX0_answer_X0_place : GoodIn wsX0_answer wsX0_place := goodIn_r _ [5] (by decide +kernel) (by decide +kernel)
set_option maxRecDepth 20000 in
theorem gX0_answer_X0_place : GoodIn wsX0_answer (va_wsS RX0 27 yX0_place wsX0_place) := goodIn_app (goodIn_of _ (by decide +kernel)) ggX0_answer_X0_place
theorem dX0_answer_0 : decode cX0_answer 0 = .ok (.aload_n 0, 1) := by decide +kernel
theorem dX0_answer_1 : decode cX0_answer 1 = .ok (.getfield 15, 3) := by decide +kernel
theorem dX0_answer_4 : decode cX0_answer 4 = .ok (.iload_n 1, 1) := by decide +kernel
theorem dX0_answer_5 : decode cX0_answer 5 = .ok (.iload_n 2, 1) := by decide +kernel
theorem dX0_answer_6 : decode cX0_answer 6 = .ok (.iload_n 3, 1) := by decide +kernel
theorem dX0_answer_7 : decode cX0_answer 7 = .ok (.invokestatic 27, 3) := by decide +kernel
theorem dX0_answer_10 : decode cX0_answer 10 = .ok (.iaload, 1) := by decide +kernel
theorem dX0_answer_11 : decode cX0_answer 11 = .ok (.ireturn, 1) := by decide +kernel
set_option maxRecDepth 20000 in
theorem ggX0_keep_X0_place : GoodIn wsX0_keep wsX0_place := goodIn_r _ [7] (by decide +kernel) (by decide +kernel)
set_option maxRecDepth 20000 in
theorem gX0_keep_X0_place : GoodIn wsX0_keep (va_wsS RX0 27 yX0_place wsX0_place) := goodIn_app (goodIn_of _ (by decide +kernel)) ggX0_keep_X0_place
theorem dX0_keep_0 : decode cX0_keep 0 = .ok (.aload_n 0, 1) := by decide +kernel
theorem dX0_keep_1 : decode cX0_keep 1 = .ok (.getfield 9, 3) := by decide +kernel
theorem dX0_keep_4 : decode cX0_keep 4 = .ok (.iload_n 1, 1) := by decide +kernel
theorem dX0_keep_5 : decode cX0_keep 5 = .ok (.iaload, 1) := by decide +kernel
theorem dX0_keep_6 : decode cX0_keep 6 = .ok (.ifCond .ne 4, 3) := by decide +kernel
theorem dX0_keep_9 : decode cX0_keep 9 = .ok (.return_, 1) := by decide +kernel
theorem dX0_keep_10 : decode cX0_keep 10 = .ok (.aload_n 0, 1) := by decide +kernel
theorem dX0_keep_11 : decode cX0_keep 11 = .ok (.getfield 15, 3) := by decide +kernel
theorem dX0_keep_14 : decode cX0_keep 14 = .ok (.iload_n 1, 1) := by decide +kernel
theorem dX0_keep_15 : decode cX0_keep 15 = .ok (.iload_n 2, 1) := by decide +kernel
theorem dX0_keep_16 : decode cX0_keep 16 = .ok (.iload_n 3, 1) := by decide +kernel
theorem dX0_keep_17 : decode cX0_keep 17 = .ok (.invokestatic 27, 3) := by decide +kernel
theorem dX0_keep_20 : decode cX0_keep 20 = .ok (.iload 4, 2) := by decide +kernel
theorem dX0_keep_22 : decode cX0_keep 22 = .ok (.iastore, 1) := by decide +kernel
theorem dX0_keep_23 : decode cX0_keep 23 = .ok (.aload_n 0, 1) := by decide +kernel
theorem dX0_keep_24 : decode cX0_keep 24 = .ok (.getfield 18, 3) := by decide +kernel
theorem dX0_keep_27 : decode cX0_keep 27 = .ok (.iload_n 1, 1) := by decide +kernel
theorem dX0_keep_28 : decode cX0_keep 28 = .ok (.iload_n 2, 1) := by decide +kernel
theorem dX0_keep_29 : decode cX0_keep 29 = .ok (.iload_n 3, 1) := by decide +kernel
theorem dX0_keep_30 : decode cX0_keep 30 = .ok (.invokestatic 27, 3) := by decide +kernel
theorem dX0_keep_33 : decode cX0_keep 33 = .ok (.iload 5, 2) := by decide +kernel
theorem dX0_keep_35 : decode cX0_keep 35 = .ok (.iastore, 1) := by decide +kernel
theorem dX0_keep_36 : decode cX0_keep 36 = .ok (.return_, 1) := by decide +kernel
set_option maxRecDepth 20000 in
theorem ggX0_dropAllOf_X0_areKept : GoodIn wsX0_dropAllOf wsX0_areKept := goodIn_r _ [6, 1, 7, 8, 5, 9, 10, 11, 12] (by decide +kernel) (by decide +kernel)
set_option maxRecDepth 20000 in
theorem gX0_dropAllOf_X0_areKept : GoodIn wsX0_dropAllOf (wsV RX0 31 RX0 yX0_areKept wsX0_areKept) := goodIn_app (goodIn_of _ (by decide +kernel)) ggX0_dropAllOf_X0_areKept
set_option maxRecDepth 20000 in
theorem ggX0_dropAllOf_X0_place : GoodIn wsX0_dropAllOf wsX0_place := goodIn_r _ [9] (by decide +kernel) (by decide +kernel)
set_option maxRecDepth 20000 in
theorem gX0_dropAllOf_X0_place : GoodIn wsX0_dropAllOf (va_wsS RX0 27 yX0_place wsX0_place) := goodIn_app (goodIn_of _ (by decide +kernel)) ggX0_dropAllOf_X0_place
theorem dX0_dropAllOf_0 : decode cX0_dropAllOf 0 = .ok (.iconst 0, 1) := by decide +kernel
theorem dX0_dropAllOf_1 : decode cX0_dropAllOf 1 = .ok (.istore_n 3, 1) := by decide +kernel
theorem dX0_dropAllOf_2 : decode cX0_dropAllOf 2 = .ok (.iconst 0, 1) := by decide +kernel
theorem dX0_dropAllOf_3 : decode cX0_dropAllOf 3 = .ok (.istore 4, 2) := by decide +kernel
theorem dX0_dropAllOf_5 : decode cX0_dropAllOf 5 = .ok (.iload 4, 2) := by decide +kernel
theorem dX0_dropAllOf_7 : decode cX0_dropAllOf 7 = .ok (.bipush 6, 2) := by decide +kernel
theorem dX0_dropAllOf_9 : decode cX0_dropAllOf 9 = .ok (.if_icmp .ge 36, 3) := by decide +kernel
theorem dX0_dropAllOf_12 : decode cX0_dropAllOf 12 = .ok (.aload_n 0, 1) := by decide +kernel
theorem dX0_dropAllOf_13 : decode cX0_dropAllOf 13 = .ok (.iload_n 1, 1) := by decide +kernel
theorem dX0_dropAllOf_14 : decode cX0_dropAllOf 14 = .ok (.iload_n 2, 1) := by decide +kernel
theorem dX0_dropAllOf_15 : decode cX0_dropAllOf 15 = .ok (.iload 4, 2) := by decide +kernel
theorem dX0_dropAllOf_17 : decode cX0_dropAllOf 17 = .ok (.invokevirtual 31, 3) := by decide +kernel
theorem dX0_dropAllOf_20 : decode cX0_dropAllOf 20 = .ok (.ifCond .eq 19, 3) := by decide +kernel
theorem dX0_dropAllOf_23 : decode cX0_dropAllOf 23 = .ok (.aload_n 0, 1) := by decide +kernel
theorem dX0_dropAllOf_24 : decode cX0_dropAllOf 24 = .ok (.getfield 15, 3) := by decide +kernel
theorem dX0_dropAllOf_27 : decode cX0_dropAllOf 27 = .ok (.iload_n 1, 1) := by decide +kernel
theorem dX0_dropAllOf_28 : decode cX0_dropAllOf 28 = .ok (.iload_n 2, 1) := by decide +kernel
theorem dX0_dropAllOf_29 : decode cX0_dropAllOf 29 = .ok (.iload 4, 2) := by decide +kernel
theorem dX0_dropAllOf_31 : decode cX0_dropAllOf 31 = .ok (.invokestatic 27, 3) := by decide +kernel
theorem dX0_dropAllOf_34 : decode cX0_dropAllOf 34 = .ok (.iconst (-1), 1) := by decide +kernel
theorem dX0_dropAllOf_35 : decode cX0_dropAllOf 35 = .ok (.iastore, 1) := by decide +kernel
theorem dX0_dropAllOf_36 : decode cX0_dropAllOf 36 = .ok (.iinc 3 1, 3) := by decide +kernel
theorem dX0_dropAllOf_39 : decode cX0_dropAllOf 39 = .ok (.iinc 4 1, 3) := by decide +kernel
theorem dX0_dropAllOf_42 : decode cX0_dropAllOf 42 = .ok (.goto (-37), 3) := by decide +kernel
theorem dX0_dropAllOf_45 : decode cX0_dropAllOf 45 = .ok (.iload_n 3, 1) := by decide +kernel
theorem dX0_dropAllOf_46 : decode cX0_dropAllOf 46 = .ok (.ireturn, 1) := by decide +kernel
set_option maxRecDepth 20000 in
theorem ggX0_dropDueOfAll_X0_dropDue : GoodIn wsX0_dropDueOfAll wsX0_dropDue := goodIn_r _ [5, 6, 7, 8, 9, 10, 4, 11, 12, 13, 14] (by decide +kernel) (by decide +kernel)
set_option maxRecDepth 20000 in
theorem gX0_dropDueOfAll_X0_dropDue : GoodIn wsX0_dropDueOfAll (wsV RX0 35 RX0 yX0_dropDue wsX0_dropDue) := goodIn_app (goodIn_of _ (by decide +kernel)) ggX0_dropDueOfAll_X0_dropDue
theorem dX0_dropDueOfAll_0 : decode cX0_dropDueOfAll 0 = .ok (.iconst 0, 1) := by decide +kernel
theorem dX0_dropDueOfAll_1 : decode cX0_dropDueOfAll 1 = .ok (.istore_n 2, 1) := by decide +kernel
theorem dX0_dropDueOfAll_2 : decode cX0_dropDueOfAll 2 = .ok (.iload_n 2, 1) := by decide +kernel
theorem dX0_dropDueOfAll_3 : decode cX0_dropDueOfAll 3 = .ok (.iconst 4, 1) := by decide +kernel
theorem dX0_dropDueOfAll_4 : decode cX0_dropDueOfAll 4 = .ok (.if_icmp .ge 15, 3) := by decide +kernel
theorem dX0_dropDueOfAll_7 : decode cX0_dropDueOfAll 7 = .ok (.aload_n 0, 1) := by decide +kernel
theorem dX0_dropDueOfAll_8 : decode cX0_dropDueOfAll 8 = .ok (.iload_n 2, 1) := by decide +kernel
theorem dX0_dropDueOfAll_9 : decode cX0_dropDueOfAll 9 = .ok (.iload_n 1, 1) := by decide +kernel
theorem dX0_dropDueOfAll_10 : decode cX0_dropDueOfAll 10 = .ok (.invokevirtual 35, 3) := by decide +kernel
theorem dX0_dropDueOfAll_13 : decode cX0_dropDueOfAll 13 = .ok (.iinc 2 1, 3) := by decide +kernel
theorem dX0_dropDueOfAll_16 : decode cX0_dropDueOfAll 16 = .ok (.goto (-14), 3) := by decide +kernel
theorem dX0_dropDueOfAll_19 : decode cX0_dropDueOfAll 19 = .ok (.return_, 1) := by decide +kernel
set_option maxRecDepth 20000 in
theorem ggX0_dropDue_X0_place : GoodIn wsX0_dropDue wsX0_place := goodIn_r _ [7] (by decide +kernel) (by decide +kernel)
set_option maxRecDepth 20000 in
theorem gX0_dropDue_X0_place : GoodIn wsX0_dropDue (va_wsS RX0 27 yX0_place wsX0_place) := goodIn_app (goodIn_of _ (by decide +kernel)) ggX0_dropDue_X0_place
theorem dX0_dropDue_0 : decode cX0_dropDue 0 = .ok (.iload_n 1, 1) := by decide +kernel
theorem dX0_dropDue_1 : decode cX0_dropDue 1 = .ok (.iconst 0, 1) := by decide +kernel
theorem dX0_dropDue_2 : decode cX0_dropDue 2 = .ok (.iconst 0, 1) := by decide +kernel
theorem dX0_dropDue_3 : decode cX0_dropDue 3 = .ok (.invokestatic 27, 3) := by decide +kernel
theorem dX0_dropDue_6 : decode cX0_dropDue 6 = .ok (.istore_n 3, 1) := by decide +kernel
theorem dX0_dropDue_7 : decode cX0_dropDue 7 = .ok (.iload_n 3, 1) := by decide +kernel
theorem dX0_dropDue_8 : decode cX0_dropDue 8 = .ok (.istore 4, 2) := by decide +kernel
theorem dX0_dropDue_10 : decode cX0_dropDue 10 = .ok (.iload 4, 2) := by decide +kernel
theorem dX0_dropDue_12 : decode cX0_dropDue 12 = .ok (.iload_n 3, 1) := by decide +kernel
theorem dX0_dropDue_13 : decode cX0_dropDue 13 = .ok (.bipush 60, 2) := by decide +kernel
theorem dX0_dropDue_15 : decode cX0_dropDue 15 = .ok (.iadd, 1) := by decide +kernel
theorem dX0_dropDue_16 : decode cX0_dropDue 16 = .ok (.if_icmp .ge 35, 3) := by decide +kernel
theorem dX0_dropDue_19 : decode cX0_dropDue 19 = .ok (.iload_n 2, 1) := by decide +kernel
theorem dX0_dropDue_20 : decode cX0_dropDue 20 = .ok (.aload_n 0, 1) := by decide +kernel
theorem dX0_dropDue_21 : decode cX0_dropDue 21 = .ok (.getfield 18, 3) := by decide +kernel
theorem dX0_dropDue_24 : decode cX0_dropDue 24 = .ok (.iload 4, 2) := by decide +kernel
theorem dX0_dropDue_26 : decode cX0_dropDue 26 = .ok (.iaload, 1) := by decide +kernel
theorem dX0_dropDue_27 : decode cX0_dropDue 27 = .ok (.isub, 1) := by decide +kernel
theorem dX0_dropDue_28 : decode cX0_dropDue 28 = .ok (.aload_n 0, 1) := by decide +kernel
theorem dX0_dropDue_29 : decode cX0_dropDue 29 = .ok (.getfield 9, 3) := by decide +kernel
theorem dX0_dropDue_32 : decode cX0_dropDue 32 = .ok (.iload_n 1, 1) := by decide +kernel
theorem dX0_dropDue_33 : decode cX0_dropDue 33 = .ok (.iaload, 1) := by decide +kernel
theorem dX0_dropDue_34 : decode cX0_dropDue 34 = .ok (.if_icmp .lt 11, 3) := by decide +kernel
theorem dX0_dropDue_37 : decode cX0_dropDue 37 = .ok (.aload_n 0, 1) := by decide +kernel
theorem dX0_dropDue_38 : decode cX0_dropDue 38 = .ok (.getfield 15, 3) := by decide +kernel
theorem dX0_dropDue_41 : decode cX0_dropDue 41 = .ok (.iload 4, 2) := by decide +kernel
theorem dX0_dropDue_43 : decode cX0_dropDue 43 = .ok (.iconst (-1), 1) := by decide +kernel
theorem dX0_dropDue_44 : decode cX0_dropDue 44 = .ok (.iastore, 1) := by decide +kernel
theorem dX0_dropDue_45 : decode cX0_dropDue 45 = .ok (.iinc 4 1, 3) := by decide +kernel
theorem dX0_dropDue_48 : decode cX0_dropDue 48 = .ok (.goto (-38), 3) := by decide +kernel
theorem dX0_dropDue_51 : decode cX0_dropDue 51 = .ok (.return_, 1) := by decide +kernel
theorem dX0_place_0 : decode cX0_place 0 = .ok (.iload_n 0, 1) := by decide +kernel
theorem dX0_place_1 : decode cX0_place 1 = .ok (.bipush 60, 2) := by decide +kernel
theorem dX0_place_3 : decode cX0_place 3 = .ok (.imul, 1) := by decide +kernel
theorem dX0_place_4 : decode cX0_place 4 = .ok (.iload_n 1, 1) := by decide +kernel
theorem dX0_place_5 : decode cX0_place 5 = .ok (.bipush 6, 2) := by decide +kernel
theorem dX0_place_7 : decode cX0_place 7 = .ok (.imul, 1) := by decide +kernel
theorem dX0_place_8 : decode cX0_place 8 = .ok (.iadd, 1) := by decide +kernel
theorem dX0_place_9 : decode cX0_place 9 = .ok (.iload_n 2, 1) := by decide +kernel
theorem dX0_place_10 : decode cX0_place 10 = .ok (.iadd, 1) := by decide +kernel
theorem dX0_place_11 : decode cX0_place 11 = .ok (.ireturn, 1) := by decide +kernel
theorem dX1_init_0 : decode cX1_init 0 = .ok (.aload_n 0, 1) := by decide +kernel
theorem dX1_init_1 : decode cX1_init 1 = .ok (.invokespecial 3, 3) := by decide +kernel
theorem dX1_init_4 : decode cX1_init 4 = .ok (.aload_n 0, 1) := by decide +kernel
theorem dX1_init_5 : decode cX1_init 5 = .ok (.bipush 10, 2) := by decide +kernel
theorem dX1_init_7 : decode cX1_init 7 = .ok (.newarray .int, 2) := by decide +kernel
theorem dX1_init_9 : decode cX1_init 9 = .ok (.putfield 9, 3) := by decide +kernel
theorem dX1_init_12 : decode cX1_init 12 = .ok (.aload_n 0, 1) := by decide +kernel
theorem dX1_init_13 : decode cX1_init 13 = .ok (.bipush 8, 2) := by decide +kernel
theorem dX1_init_15 : decode cX1_init 15 = .ok (.newarray .int, 2) := by decide +kernel
theorem dX1_init_17 : decode cX1_init 17 = .ok (.putfield 15, 3) := by decide +kernel
theorem dX1_init_20 : decode cX1_init 20 = .ok (.aload_n 0, 1) := by decide +kernel
theorem dX1_init_21 : decode cX1_init 21 = .ok (.bipush 6, 2) := by decide +kernel
theorem dX1_init_23 : decode cX1_init 23 = .ok (.newarray .int, 2) := by decide +kernel
theorem dX1_init_25 : decode cX1_init 25 = .ok (.putfield 18, 3) := by decide +kernel
theorem dX1_init_28 : decode cX1_init 28 = .ok (.aload_n 0, 1) := by decide +kernel
theorem dX1_init_29 : decode cX1_init 29 = .ok (.bipush 6, 2) := by decide +kernel
theorem dX1_init_31 : decode cX1_init 31 = .ok (.newarray .int, 2) := by decide +kernel
theorem dX1_init_33 : decode cX1_init 33 = .ok (.putfield 21, 3) := by decide +kernel
theorem dX1_init_36 : decode cX1_init 36 = .ok (.return_, 1) := by decide +kernel
set_option maxRecDepth 20000 in
theorem ggX1_placePerson_X1_contains : GoodIn wsX1_placePerson wsX1_contains := goodIn_r _ [5] (by decide +kernel) (by decide +kernel)
set_option maxRecDepth 20000 in
theorem gX1_placePerson_X1_contains : GoodIn wsX1_placePerson (va_wsS RX1 24 yX1_contains wsX1_contains) := goodIn_app (goodIn_of _ (by decide +kernel)) ggX1_placePerson_X1_contains
set_option maxRecDepth 20000 in
theorem ggX1_placePerson_X1_changed : GoodIn wsX1_placePerson wsX1_changed := goodIn_r _ [8] (by decide +kernel) (by decide +kernel)
set_option maxRecDepth 20000 in
theorem gX1_placePerson_X1_changed : GoodIn wsX1_placePerson (va_wsS RX1 28 yX1_changed wsX1_changed) := goodIn_app (goodIn_of _ (by decide +kernel)) ggX1_placePerson_X1_changed
theorem dX1_placePerson_0 : decode cX1_placePerson 0 = .ok (.aload_n 0, 1) := by decide +kernel
theorem dX1_placePerson_1 : decode cX1_placePerson 1 = .ok (.getfield 9, 3) := by decide +kernel
theorem dX1_placePerson_4 : decode cX1_placePerson 4 = .ok (.iload_n 2, 1) := by decide +kernel
theorem dX1_placePerson_5 : decode cX1_placePerson 5 = .ok (.iaload, 1) := by decide +kernel
theorem dX1_placePerson_6 : decode cX1_placePerson 6 = .ok (.iload_n 1, 1) := by decide +kernel
theorem dX1_placePerson_7 : decode cX1_placePerson 7 = .ok (.invokestatic 24, 3) := by decide +kernel
theorem dX1_placePerson_10 : decode cX1_placePerson 10 = .ok (.istore 4, 2) := by decide +kernel
theorem dX1_placePerson_12 : decode cX1_placePerson 12 = .ok (.aload_n 0, 1) := by decide +kernel
theorem dX1_placePerson_13 : decode cX1_placePerson 13 = .ok (.getfield 9, 3) := by decide +kernel
theorem dX1_placePerson_16 : decode cX1_placePerson 16 = .ok (.iload_n 2, 1) := by decide +kernel
theorem dX1_placePerson_17 : decode cX1_placePerson 17 = .ok (.aload_n 0, 1) := by decide +kernel
theorem dX1_placePerson_18 : decode cX1_placePerson 18 = .ok (.getfield 9, 3) := by decide +kernel
theorem dX1_placePerson_21 : decode cX1_placePerson 21 = .ok (.iload_n 2, 1) := by decide +kernel
theorem dX1_placePerson_22 : decode cX1_placePerson 22 = .ok (.iaload, 1) := by decide +kernel
theorem dX1_placePerson_23 : decode cX1_placePerson 23 = .ok (.iload_n 1, 1) := by decide +kernel
theorem dX1_placePerson_24 : decode cX1_placePerson 24 = .ok (.iload_n 3, 1) := by decide +kernel
theorem dX1_placePerson_25 : decode cX1_placePerson 25 = .ok (.invokestatic 28, 3) := by decide +kernel
theorem dX1_placePerson_28 : decode cX1_placePerson 28 = .ok (.iastore, 1) := by decide +kernel
theorem dX1_placePerson_29 : decode cX1_placePerson 29 = .ok (.iload 4, 2) := by decide +kernel
theorem dX1_placePerson_31 : decode cX1_placePerson 31 = .ok (.ireturn, 1) := by decide +kernel
set_option maxRecDepth 20000 in
theorem ggX1_placeGroup_X1_contains : GoodIn wsX1_placeGroup wsX1_contains := goodIn_r _ [5] (by decide +kernel) (by decide +kernel)
set_option maxRecDepth 20000 in
theorem gX1_placeGroup_X1_contains : GoodIn wsX1_placeGroup (va_wsS RX1 24 yX1_contains wsX1_contains) := goodIn_app (goodIn_of _ (by decide +kernel)) ggX1_placeGroup_X1_contains
set_option maxRecDepth 20000 in
theorem ggX1_placeGroup_X1_changed : GoodIn wsX1_placeGroup wsX1_changed := goodIn_r _ [8] (by decide +kernel) (by decide +kernel)
set_option maxRecDepth 20000 in
theorem gX1_placeGroup_X1_changed : GoodIn wsX1_placeGroup (va_wsS RX1 28 yX1_changed wsX1_changed) := goodIn_app (goodIn_of _ (by decide +kernel)) ggX1_placeGroup_X1_changed
theorem dX1_placeGroup_0 : decode cX1_placeGroup 0 = .ok (.aload_n 0, 1) := by decide +kernel
theorem dX1_placeGroup_1 : decode cX1_placeGroup 1 = .ok (.getfield 15, 3) := by decide +kernel
theorem dX1_placeGroup_4 : decode cX1_placeGroup 4 = .ok (.iload_n 2, 1) := by decide +kernel
theorem dX1_placeGroup_5 : decode cX1_placeGroup 5 = .ok (.iaload, 1) := by decide +kernel
theorem dX1_placeGroup_6 : decode cX1_placeGroup 6 = .ok (.iload_n 1, 1) := by decide +kernel
theorem dX1_placeGroup_7 : decode cX1_placeGroup 7 = .ok (.invokestatic 24, 3) := by decide +kernel
theorem dX1_placeGroup_10 : decode cX1_placeGroup 10 = .ok (.istore 4, 2) := by decide +kernel
theorem dX1_placeGroup_12 : decode cX1_placeGroup 12 = .ok (.aload_n 0, 1) := by decide +kernel
theorem dX1_placeGroup_13 : decode cX1_placeGroup 13 = .ok (.getfield 15, 3) := by decide +kernel
theorem dX1_placeGroup_16 : decode cX1_placeGroup 16 = .ok (.iload_n 2, 1) := by decide +kernel
theorem dX1_placeGroup_17 : decode cX1_placeGroup 17 = .ok (.aload_n 0, 1) := by decide +kernel
theorem dX1_placeGroup_18 : decode cX1_placeGroup 18 = .ok (.getfield 15, 3) := by decide +kernel
theorem dX1_placeGroup_21 : decode cX1_placeGroup 21 = .ok (.iload_n 2, 1) := by decide +kernel
theorem dX1_placeGroup_22 : decode cX1_placeGroup 22 = .ok (.iaload, 1) := by decide +kernel
theorem dX1_placeGroup_23 : decode cX1_placeGroup 23 = .ok (.iload_n 1, 1) := by decide +kernel
theorem dX1_placeGroup_24 : decode cX1_placeGroup 24 = .ok (.iload_n 3, 1) := by decide +kernel
theorem dX1_placeGroup_25 : decode cX1_placeGroup 25 = .ok (.invokestatic 28, 3) := by decide +kernel
theorem dX1_placeGroup_28 : decode cX1_placeGroup 28 = .ok (.iastore, 1) := by decide +kernel
theorem dX1_placeGroup_29 : decode cX1_placeGroup 29 = .ok (.iload 4, 2) := by decide +kernel
theorem dX1_placeGroup_31 : decode cX1_placeGroup 31 = .ok (.ireturn, 1) := by decide +kernel
set_option maxRecDepth 20000 in
theorem ggX1_giveRole_X1_roleOf : GoodIn wsX1_giveRole wsX1_roleOf := goodIn_r _ [7, 1, 2, 8, 9, 6, 10, 14, 15, 16, 17] (by decide +kernel) (by decide +kernel)
set_option maxRecDepth 20000 in
theorem gX1_giveRole_X1_roleOf : GoodIn wsX1_giveRole (wsV RX1 32 RX1 yX1_roleOf wsX1_roleOf) := goodIn_app (goodIn_of _ (by decide +kernel)) ggX1_giveRole_X1_roleOf
set_option maxRecDepth 20000 in
theorem ggX1_giveRole_X1_changed : GoodIn wsX1_giveRole wsX1_changed := goodIn_r _ [13] (by decide +kernel) (by decide +kernel)
set_option maxRecDepth 20000 in
theorem gX1_giveRole_X1_changed : GoodIn wsX1_giveRole (va_wsS RX1 28 yX1_changed wsX1_changed) := goodIn_app (goodIn_of _ (by decide +kernel)) ggX1_giveRole_X1_changed
theorem dX1_giveRole_0 : decode cX1_giveRole 0 = .ok (.aload_n 0, 1) := by decide +kernel
theorem dX1_giveRole_1 : decode cX1_giveRole 1 = .ok (.iload_n 1, 1) := by decide +kernel
theorem dX1_giveRole_2 : decode cX1_giveRole 2 = .ok (.iload_n 2, 1) := by decide +kernel
theorem dX1_giveRole_3 : decode cX1_giveRole 3 = .ok (.invokevirtual 32, 3) := by decide +kernel
theorem dX1_giveRole_6 : decode cX1_giveRole 6 = .ok (.istore 4, 2) := by decide +kernel
theorem dX1_giveRole_8 : decode cX1_giveRole 8 = .ok (.aload_n 0, 1) := by decide +kernel
theorem dX1_giveRole_9 : decode cX1_giveRole 9 = .ok (.getfield 18, 3) := by decide +kernel
theorem dX1_giveRole_12 : decode cX1_giveRole 12 = .ok (.iload_n 2, 1) := by decide +kernel
theorem dX1_giveRole_13 : decode cX1_giveRole 13 = .ok (.aload_n 0, 1) := by decide +kernel
theorem dX1_giveRole_14 : decode cX1_giveRole 14 = .ok (.getfield 18, 3) := by decide +kernel
theorem dX1_giveRole_17 : decode cX1_giveRole 17 = .ok (.iload_n 2, 1) := by decide +kernel
theorem dX1_giveRole_18 : decode cX1_giveRole 18 = .ok (.iaload, 1) := by decide +kernel
theorem dX1_giveRole_19 : decode cX1_giveRole 19 = .ok (.iload_n 1, 1) := by decide +kernel
theorem dX1_giveRole_20 : decode cX1_giveRole 20 = .ok (.iload_n 3, 1) := by decide +kernel
theorem dX1_giveRole_21 : decode cX1_giveRole 21 = .ok (.iconst 1, 1) := by decide +kernel
theorem dX1_giveRole_22 : decode cX1_giveRole 22 = .ok (.if_icmp .ne 7, 3) := by decide +kernel
theorem dX1_giveRole_25 : decode cX1_giveRole 25 = .ok (.iconst 1, 1) := by decide +kernel
theorem dX1_giveRole_26 : decode cX1_giveRole 26 = .ok (.goto 4, 3) := by decide +kernel
theorem dX1_giveRole_29 : decode cX1_giveRole 29 = .ok (.iconst 0, 1) := by decide +kernel
theorem dX1_giveRole_30 : decode cX1_giveRole 30 = .ok (.invokestatic 28, 3) := by decide +kernel
theorem dX1_giveRole_33 : decode cX1_giveRole 33 = .ok (.iastore, 1) := by decide +kernel
theorem dX1_giveRole_34 : decode cX1_giveRole 34 = .ok (.aload_n 0, 1) := by decide +kernel
theorem dX1_giveRole_35 : decode cX1_giveRole 35 = .ok (.getfield 21, 3) := by decide +kernel
theorem dX1_giveRole_38 : decode cX1_giveRole 38 = .ok (.iload_n 2, 1) := by decide +kernel
theorem dX1_giveRole_39 : decode cX1_giveRole 39 = .ok (.aload_n 0, 1) := by decide +kernel
theorem dX1_giveRole_40 : decode cX1_giveRole 40 = .ok (.getfield 21, 3) := by decide +kernel
theorem dX1_giveRole_43 : decode cX1_giveRole 43 = .ok (.iload_n 2, 1) := by decide +kernel
theorem dX1_giveRole_44 : decode cX1_giveRole 44 = .ok (.iaload, 1) := by decide +kernel
theorem dX1_giveRole_45 : decode cX1_giveRole 45 = .ok (.iload_n 1, 1) := by decide +kernel
theorem dX1_giveRole_46 : decode cX1_giveRole 46 = .ok (.iload_n 3, 1) := by decide +kernel
theorem dX1_giveRole_47 : decode cX1_giveRole 47 = .ok (.iconst 2, 1) := by decide +kernel
theorem dX1_giveRole_48 : decode cX1_giveRole 48 = .ok (.if_icmp .ne 7, 3) := by decide +kernel
theorem dX1_giveRole_51 : decode cX1_giveRole 51 = .ok (.iconst 1, 1) := by decide +kernel
theorem dX1_giveRole_52 : decode cX1_giveRole 52 = .ok (.goto 4, 3) := by decide +kernel
theorem dX1_giveRole_55 : decode cX1_giveRole 55 = .ok (.iconst 0, 1) := by decide +kernel
theorem dX1_giveRole_56 : decode cX1_giveRole 56 = .ok (.invokestatic 28, 3) := by decide +kernel
theorem dX1_giveRole_59 : decode cX1_giveRole 59 = .ok (.iastore, 1) := by decide +kernel
theorem dX1_giveRole_60 : decode cX1_giveRole 60 = .ok (.iload 4, 2) := by decide +kernel
theorem dX1_giveRole_62 : decode cX1_giveRole 62 = .ok (.ireturn, 1) := by decide +kernel
set_option maxRecDepth 20000 in
theorem ggX1_hasPerson_X1_allAround : GoodIn wsX1_hasPerson wsX1_allAround := goodIn_r _ [6, 7, 8, 9, 5, 10, 11, 12, 13, 14, 15, 16, 17, 18] (by decide +kernel) (by decide +kernel)
set_option maxRecDepth 20000 in
theorem gX1_hasPerson_X1_allAround : GoodIn wsX1_hasPerson (wsV RX1 36 RX1 yX1_allAround wsX1_allAround) := goodIn_app (goodIn_of _ (by decide +kernel)) ggX1_hasPerson_X1_allAround
set_option maxRecDepth 20000 in
theorem ggX1_hasPerson_X1_contains : GoodIn wsX1_hasPerson wsX1_contains := goodIn_r _ [14] (by decide +kernel) (by decide +kernel)
set_option maxRecDepth 20000 in
theorem gX1_hasPerson_X1_contains : GoodIn wsX1_hasPerson (va_wsS RX1 24 yX1_contains wsX1_contains) := goodIn_app (goodIn_of _ (by decide +kernel)) ggX1_hasPerson_X1_contains
theorem dX1_hasPerson_0 : decode cX1_hasPerson 0 = .ok (.aload_n 0, 1) := by decide +kernel
theorem dX1_hasPerson_1 : decode cX1_hasPerson 1 = .ok (.aload_n 0, 1) := by decide +kernel
theorem dX1_hasPerson_2 : decode cX1_hasPerson 2 = .ok (.getfield 9, 3) := by decide +kernel
theorem dX1_hasPerson_5 : decode cX1_hasPerson 5 = .ok (.iload_n 2, 1) := by decide +kernel
theorem dX1_hasPerson_6 : decode cX1_hasPerson 6 = .ok (.iaload, 1) := by decide +kernel
theorem dX1_hasPerson_7 : decode cX1_hasPerson 7 = .ok (.invokevirtual 36, 3) := by decide +kernel
theorem dX1_hasPerson_10 : decode cX1_hasPerson 10 = .ok (.iload_n 1, 1) := by decide +kernel
theorem dX1_hasPerson_11 : decode cX1_hasPerson 11 = .ok (.invokestatic 24, 3) := by decide +kernel
theorem dX1_hasPerson_14 : decode cX1_hasPerson 14 = .ok (.ireturn, 1) := by decide +kernel
set_option maxRecDepth 20000 in
theorem ggX1_isAround_X1_allAround : GoodIn wsX1_isAround wsX1_allAround := goodIn_r _ [6, 7, 8, 9, 5, 10, 1, 11, 12, 13, 14, 15, 16, 17] (by decide +kernel) (by decide +kernel)
set_option maxRecDepth 20000 in
theorem gX1_isAround_X1_allAround : GoodIn wsX1_isAround (wsV RX1 36 RX1 yX1_allAround wsX1_allAround) := goodIn_app (goodIn_of _ (by decide +kernel)) ggX1_isAround_X1_allAround
set_option maxRecDepth 20000 in
theorem ggX1_isAround_X1_contains : GoodIn wsX1_isAround wsX1_contains := goodIn_r _ [13] (by decide +kernel) (by decide +kernel)
set_option maxRecDepth 20000 in
theorem gX1_isAround_X1_contains : GoodIn wsX1_isAround (va_wsS RX1 24 yX1_contains wsX1_contains) := goodIn_app (goodIn_of _ (by decide +kernel)) ggX1_isAround_X1_contains
theorem dX1_isAround_0 : decode cX1_isAround 0 = .ok (.aload_n 0, 1) := by decide +kernel
theorem dX1_isAround_1 : decode cX1_isAround 1 = .ok (.aload_n 0, 1) := by decide +kernel
theorem dX1_isAround_2 : decode cX1_isAround 2 = .ok (.getfield 15, 3) := by decide +kernel
theorem dX1_isAround_5 : decode cX1_isAround 5 = .ok (.iload_n 2, 1) := by decide +kernel
theorem dX1_isAround_6 : decode cX1_isAround 6 = .ok (.iaload, 1) := by decide +kernel
theorem dX1_isAround_7 : decode cX1_isAround 7 = .ok (.invokevirtual 36, 3) := by decide +kernel
theorem dX1_isAround_10 : decode cX1_isAround 10 = .ok (.iload_n 1, 1) := by decide +kernel
theorem dX1_isAround_11 : decode cX1_isAround 11 = .ok (.invokestatic 24, 3) := by decide +kernel
theorem dX1_isAround_14 : decode cX1_isAround 14 = .ok (.ireturn, 1) := by decide +kernel
set_option maxRecDepth 20000 in
theorem ggX1_anyGrants_X1_allAround : GoodIn wsX1_anyGrants wsX1_allAround := goodIn_r _ [7, 8, 9, 10, 6, 11, 12, 13, 14, 15, 16, 17, 18, 19] (by decide +kernel) (by decide +kernel)
set_option maxRecDepth 20000 in
theorem gX1_anyGrants_X1_allAround : GoodIn wsX1_anyGrants (wsV RX1 36 RX1 yX1_allAround wsX1_allAround) := goodIn_app (goodIn_of _ (by decide +kernel)) ggX1_anyGrants_X1_allAround
theorem dX1_anyGrants_0 : decode cX1_anyGrants 0 = .ok (.aload_n 0, 1) := by decide +kernel
theorem dX1_anyGrants_1 : decode cX1_anyGrants 1 = .ok (.aload_n 0, 1) := by decide +kernel
theorem dX1_anyGrants_2 : decode cX1_anyGrants 2 = .ok (.getfield 9, 3) := by decide +kernel
theorem dX1_anyGrants_5 : decode cX1_anyGrants 5 = .ok (.iload_n 1, 1) := by decide +kernel
theorem dX1_anyGrants_6 : decode cX1_anyGrants 6 = .ok (.iaload, 1) := by decide +kernel
theorem dX1_anyGrants_7 : decode cX1_anyGrants 7 = .ok (.invokevirtual 36, 3) := by decide +kernel
theorem dX1_anyGrants_10 : decode cX1_anyGrants 10 = .ok (.aload_n 0, 1) := by decide +kernel
theorem dX1_anyGrants_11 : decode cX1_anyGrants 11 = .ok (.getfield 18, 3) := by decide +kernel
theorem dX1_anyGrants_14 : decode cX1_anyGrants 14 = .ok (.iload_n 2, 1) := by decide +kernel
theorem dX1_anyGrants_15 : decode cX1_anyGrants 15 = .ok (.iaload, 1) := by decide +kernel
theorem dX1_anyGrants_16 : decode cX1_anyGrants 16 = .ok (.iand, 1) := by decide +kernel
theorem dX1_anyGrants_17 : decode cX1_anyGrants 17 = .ok (.ifCond .eq 7, 3) := by decide +kernel
theorem dX1_anyGrants_20 : decode cX1_anyGrants 20 = .ok (.iconst 1, 1) := by decide +kernel
theorem dX1_anyGrants_21 : decode cX1_anyGrants 21 = .ok (.goto 4, 3) := by decide +kernel
theorem dX1_anyGrants_24 : decode cX1_anyGrants 24 = .ok (.iconst 0, 1) := by decide +kernel
theorem dX1_anyGrants_25 : decode cX1_anyGrants 25 = .ok (.ireturn, 1) := by decide +kernel
set_option maxRecDepth 20000 in
theorem ggX1_anyDenies_X1_allAround : GoodIn wsX1_anyDenies wsX1_allAround := goodIn_r _ [7, 8, 9, 10, 6, 11, 12, 13, 14, 15, 16, 17, 18, 19] (by decide +kernel) (by decide +kernel)
set_option maxRecDepth 20000 in
theorem gX1_anyDenies_X1_allAround : GoodIn wsX1_anyDenies (wsV RX1 36 RX1 yX1_allAround wsX1_allAround) := goodIn_app (goodIn_of _ (by decide +kernel)) ggX1_anyDenies_X1_allAround
theorem dX1_anyDenies_0 : decode cX1_anyDenies 0 = .ok (.aload_n 0, 1) := by decide +kernel
theorem dX1_anyDenies_1 : decode cX1_anyDenies 1 = .ok (.aload_n 0, 1) := by decide +kernel
theorem dX1_anyDenies_2 : decode cX1_anyDenies 2 = .ok (.getfield 9, 3) := by decide +kernel
theorem dX1_anyDenies_5 : decode cX1_anyDenies 5 = .ok (.iload_n 1, 1) := by decide +kernel
theorem dX1_anyDenies_6 : decode cX1_anyDenies 6 = .ok (.iaload, 1) := by decide +kernel
theorem dX1_anyDenies_7 : decode cX1_anyDenies 7 = .ok (.invokevirtual 36, 3) := by decide +kernel
theorem dX1_anyDenies_10 : decode cX1_anyDenies 10 = .ok (.aload_n 0, 1) := by decide +kernel
theorem dX1_anyDenies_11 : decode cX1_anyDenies 11 = .ok (.getfield 21, 3) := by decide +kernel
theorem dX1_anyDenies_14 : decode cX1_anyDenies 14 = .ok (.iload_n 2, 1) := by decide +kernel
theorem dX1_anyDenies_15 : decode cX1_anyDenies 15 = .ok (.iaload, 1) := by decide +kernel
theorem dX1_anyDenies_16 : decode cX1_anyDenies 16 = .ok (.iand, 1) := by decide +kernel
theorem dX1_anyDenies_17 : decode cX1_anyDenies 17 = .ok (.ifCond .eq 7, 3) := by decide +kernel
theorem dX1_anyDenies_20 : decode cX1_anyDenies 20 = .ok (.iconst 1, 1) := by decide +kernel
theorem dX1_anyDenies_21 : decode cX1_anyDenies 21 = .ok (.goto 4, 3) := by decide +kernel
theorem dX1_anyDenies_24 : decode cX1_anyDenies 24 = .ok (.iconst 0, 1) := by decide +kernel
theorem dX1_anyDenies_25 : decode cX1_anyDenies 25 = .ok (.ireturn, 1) := by decide +kernel
set_option maxRecDepth 20000 in
theorem ggX1_roleOf_X1_contains : GoodIn wsX1_roleOf wsX1_contains := goodIn_r _ [6] (by decide +kernel) (by decide +kernel)
set_option maxRecDepth 20000 in
theorem gX1_roleOf_X1_contains : GoodIn wsX1_roleOf (va_wsS RX1 24 yX1_contains wsX1_contains) := goodIn_app (goodIn_of _ (by decide +kernel)) ggX1_roleOf_X1_contains
theorem dX1_roleOf_0 : decode cX1_roleOf 0 = .ok (.aload_n 0, 1) := by decide +kernel
theorem dX1_roleOf_1 : decode cX1_roleOf 1 = .ok (.getfield 18, 3) := by decide +kernel
theorem dX1_roleOf_4 : decode cX1_roleOf 4 = .ok (.iload_n 2, 1) := by decide +kernel
theorem dX1_roleOf_5 : decode cX1_roleOf 5 = .ok (.iaload, 1) := by decide +kernel
theorem dX1_roleOf_6 : decode cX1_roleOf 6 = .ok (.iload_n 1, 1) := by decide +kernel
theorem dX1_roleOf_7 : decode cX1_roleOf 7 = .ok (.invokestatic 24, 3) := by decide +kernel
theorem dX1_roleOf_10 : decode cX1_roleOf 10 = .ok (.ifCond .eq 5, 3) := by decide +kernel
theorem dX1_roleOf_13 : decode cX1_roleOf 13 = .ok (.iconst 1, 1) := by decide +kernel
theorem dX1_roleOf_14 : decode cX1_roleOf 14 = .ok (.ireturn, 1) := by decide +kernel
theorem dX1_roleOf_15 : decode cX1_roleOf 15 = .ok (.aload_n 0, 1) := by decide +kernel
theorem dX1_roleOf_16 : decode cX1_roleOf 16 = .ok (.getfield 21, 3) := by decide +kernel
theorem dX1_roleOf_19 : decode cX1_roleOf 19 = .ok (.iload_n 2, 1) := by decide +kernel
theorem dX1_roleOf_20 : decode cX1_roleOf 20 = .ok (.iaload, 1) := by decide +kernel
theorem dX1_roleOf_21 : decode cX1_roleOf 21 = .ok (.iload_n 1, 1) := by decide +kernel
theorem dX1_roleOf_22 : decode cX1_roleOf 22 = .ok (.invokestatic 24, 3) := by decide +kernel
theorem dX1_roleOf_25 : decode cX1_roleOf 25 = .ok (.ifCond .eq 7, 3) := by decide +kernel
theorem dX1_roleOf_28 : decode cX1_roleOf 28 = .ok (.iconst 2, 1) := by decide +kernel
theorem dX1_roleOf_29 : decode cX1_roleOf 29 = .ok (.goto 4, 3) := by decide +kernel
theorem dX1_roleOf_32 : decode cX1_roleOf 32 = .ok (.iconst 0, 1) := by decide +kernel
theorem dX1_roleOf_33 : decode cX1_roleOf 33 = .ok (.ireturn, 1) := by decide +kernel
set_option maxRecDepth 20000 in
theorem ggX1_allAround_X1_oneLinkFurther : GoodIn wsX1_allAround wsX1_oneLinkFurther := goodIn_r _ [5, 6, 7, 8, 4, 9, 10, 11, 12, 13] (by decide +kernel) (by decide +kernel)
set_option maxRecDepth 20000 in
theorem gX1_allAround_X1_oneLinkFurther : GoodIn wsX1_allAround (wsV RX1 40 RX1 yX1_oneLinkFurther wsX1_oneLinkFurther) := goodIn_app (goodIn_of _ (by decide +kernel)) ggX1_allAround_X1_oneLinkFurther
theorem dX1_allAround_0 : decode cX1_allAround 0 = .ok (.iload_n 1, 1) := by decide +kernel
theorem dX1_allAround_1 : decode cX1_allAround 1 = .ok (.istore_n 2, 1) := by decide +kernel
theorem dX1_allAround_2 : decode cX1_allAround 2 = .ok (.iconst 1, 1) := by decide +kernel
theorem dX1_allAround_3 : decode cX1_allAround 3 = .ok (.istore_n 3, 1) := by decide +kernel
theorem dX1_allAround_4 : decode cX1_allAround 4 = .ok (.iload_n 3, 1) := by decide +kernel
theorem dX1_allAround_5 : decode cX1_allAround 5 = .ok (.bipush 8, 2) := by decide +kernel
theorem dX1_allAround_7 : decode cX1_allAround 7 = .ok (.if_icmp .ge 15, 3) := by decide +kernel
theorem dX1_allAround_10 : decode cX1_allAround 10 = .ok (.aload_n 0, 1) := by decide +kernel
theorem dX1_allAround_11 : decode cX1_allAround 11 = .ok (.iload_n 2, 1) := by decide +kernel
theorem dX1_allAround_12 : decode cX1_allAround 12 = .ok (.invokevirtual 40, 3) := by decide +kernel
theorem dX1_allAround_15 : decode cX1_allAround 15 = .ok (.istore_n 2, 1) := by decide +kernel
theorem dX1_allAround_16 : decode cX1_allAround 16 = .ok (.iinc 3 1, 3) := by decide +kernel
theorem dX1_allAround_19 : decode cX1_allAround 19 = .ok (.goto (-15), 3) := by decide +kernel
theorem dX1_allAround_22 : decode cX1_allAround 22 = .ok (.iload_n 2, 1) := by decide +kernel
theorem dX1_allAround_23 : decode cX1_allAround 23 = .ok (.ireturn, 1) := by decide +kernel
set_option maxRecDepth 20000 in
theorem ggX1_oneLinkFurther_X1_contains : GoodIn wsX1_oneLinkFurther wsX1_contains := goodIn_r _ [5] (by decide +kernel) (by decide +kernel)
set_option maxRecDepth 20000 in
theorem gX1_oneLinkFurther_X1_contains : GoodIn wsX1_oneLinkFurther (va_wsS RX1 24 yX1_contains wsX1_contains) := goodIn_app (goodIn_of _ (by decide +kernel)) ggX1_oneLinkFurther_X1_contains
theorem dX1_oneLinkFurther_0 : decode cX1_oneLinkFurther 0 = .ok (.iload_n 1, 1) := by decide +kernel
theorem dX1_oneLinkFurther_1 : decode cX1_oneLinkFurther 1 = .ok (.istore_n 2, 1) := by decide +kernel
theorem dX1_oneLinkFurther_2 : decode cX1_oneLinkFurther 2 = .ok (.iconst 0, 1) := by decide +kernel
theorem dX1_oneLinkFurther_3 : decode cX1_oneLinkFurther 3 = .ok (.istore_n 3, 1) := by decide +kernel
theorem dX1_oneLinkFurther_4 : decode cX1_oneLinkFurther 4 = .ok (.iload_n 3, 1) := by decide +kernel
theorem dX1_oneLinkFurther_5 : decode cX1_oneLinkFurther 5 = .ok (.bipush 8, 2) := by decide +kernel
theorem dX1_oneLinkFurther_7 : decode cX1_oneLinkFurther 7 = .ok (.if_icmp .ge 26, 3) := by decide +kernel
theorem dX1_oneLinkFurther_10 : decode cX1_oneLinkFurther 10 = .ok (.iload_n 1, 1) := by decide +kernel
theorem dX1_oneLinkFurther_11 : decode cX1_oneLinkFurther 11 = .ok (.iload_n 3, 1) := by decide +kernel
theorem dX1_oneLinkFurther_12 : decode cX1_oneLinkFurther 12 = .ok (.invokestatic 24, 3) := by decide +kernel
theorem dX1_oneLinkFurther_15 : decode cX1_oneLinkFurther 15 = .ok (.ifCond .eq 12, 3) := by decide +kernel
theorem dX1_oneLinkFurther_18 : decode cX1_oneLinkFurther 18 = .ok (.iload_n 2, 1) := by decide +kernel
theorem dX1_oneLinkFurther_19 : decode cX1_oneLinkFurther 19 = .ok (.aload_n 0, 1) := by decide +kernel
theorem dX1_oneLinkFurther_20 : decode cX1_oneLinkFurther 20 = .ok (.getfield 15, 3) := by decide +kernel
theorem dX1_oneLinkFurther_23 : decode cX1_oneLinkFurther 23 = .ok (.iload_n 3, 1) := by decide +kernel
theorem dX1_oneLinkFurther_24 : decode cX1_oneLinkFurther 24 = .ok (.iaload, 1) := by decide +kernel
theorem dX1_oneLinkFurther_25 : decode cX1_oneLinkFurther 25 = .ok (.ior, 1) := by decide +kernel
theorem dX1_oneLinkFurther_26 : decode cX1_oneLinkFurther 26 = .ok (.istore_n 2, 1) := by decide +kernel
theorem dX1_oneLinkFurther_27 : decode cX1_oneLinkFurther 27 = .ok (.iinc 3 1, 3) := by decide +kernel
theorem dX1_oneLinkFurther_30 : decode cX1_oneLinkFurther 30 = .ok (.goto (-26), 3) := by decide +kernel
theorem dX1_oneLinkFurther_33 : decode cX1_oneLinkFurther 33 = .ok (.iload_n 2, 1) := by decide +kernel
theorem dX1_oneLinkFurther_34 : decode cX1_oneLinkFurther 34 = .ok (.ireturn, 1) := by decide +kernel
theorem dX1_contains_0 : decode cX1_contains 0 = .ok (.iload_n 0, 1) := by decide +kernel
theorem dX1_contains_1 : decode cX1_contains 1 = .ok (.iload_n 1, 1) := by decide +kernel
theorem dX1_contains_2 : decode cX1_contains 2 = .ok (.ishr, 1) := by decide +kernel
theorem dX1_contains_3 : decode cX1_contains 3 = .ok (.iconst 1, 1) := by decide +kernel
theorem dX1_contains_4 : decode cX1_contains 4 = .ok (.iand, 1) := by decide +kernel
theorem dX1_contains_5 : decode cX1_contains 5 = .ok (.iconst 1, 1) := by decide +kernel
theorem dX1_contains_6 : decode cX1_contains 6 = .ok (.if_icmp .ne 7, 3) := by decide +kernel
theorem dX1_contains_9 : decode cX1_contains 9 = .ok (.iconst 1, 1) := by decide +kernel
theorem dX1_contains_10 : decode cX1_contains 10 = .ok (.goto 4, 3) := by decide +kernel
theorem dX1_contains_13 : decode cX1_contains 13 = .ok (.iconst 0, 1) := by decide +kernel
theorem dX1_contains_14 : decode cX1_contains 14 = .ok (.ireturn, 1) := by decide +kernel
theorem dX1_changed_0 : decode cX1_changed 0 = .ok (.iload_n 2, 1) := by decide +kernel
theorem dX1_changed_1 : decode cX1_changed 1 = .ok (.ifCond .eq 11, 3) := by decide +kernel
theorem dX1_changed_4 : decode cX1_changed 4 = .ok (.iload_n 0, 1) := by decide +kernel
theorem dX1_changed_5 : decode cX1_changed 5 = .ok (.iconst 1, 1) := by decide +kernel
theorem dX1_changed_6 : decode cX1_changed 6 = .ok (.iload_n 1, 1) := by decide +kernel
theorem dX1_changed_7 : decode cX1_changed 7 = .ok (.ishl, 1) := by decide +kernel
theorem dX1_changed_8 : decode cX1_changed 8 = .ok (.ior, 1) := by decide +kernel
theorem dX1_changed_9 : decode cX1_changed 9 = .ok (.goto 10, 3) := by decide +kernel
theorem dX1_changed_12 : decode cX1_changed 12 = .ok (.iload_n 0, 1) := by decide +kernel
theorem dX1_changed_13 : decode cX1_changed 13 = .ok (.iconst 1, 1) := by decide +kernel
theorem dX1_changed_14 : decode cX1_changed 14 = .ok (.iload_n 1, 1) := by decide +kernel
theorem dX1_changed_15 : decode cX1_changed 15 = .ok (.ishl, 1) := by decide +kernel
theorem dX1_changed_16 : decode cX1_changed 16 = .ok (.iconst (-1), 1) := by decide +kernel
theorem dX1_changed_17 : decode cX1_changed 17 = .ok (.ixor, 1) := by decide +kernel
theorem dX1_changed_18 : decode cX1_changed 18 = .ok (.iand, 1) := by decide +kernel
theorem dX1_changed_19 : decode cX1_changed 19 = .ok (.ireturn, 1) := by decide +kernel
theorem dX2_init_0 : decode cX2_init 0 = .ok (.aload_n 0, 1) := by decide +kernel
theorem dX2_init_1 : decode cX2_init 1 = .ok (.invokespecial 1, 3) := by decide +kernel
theorem dX2_init_4 : decode cX2_init 4 = .ok (.aload_n 0, 1) := by decide +kernel
theorem dX2_init_5 : decode cX2_init 5 = .ok (.iconst 0, 1) := by decide +kernel
theorem dX2_init_6 : decode cX2_init 6 = .ok (.putfield 7, 3) := by decide +kernel
theorem dX2_init_9 : decode cX2_init 9 = .ok (.aload_n 0, 1) := by decide +kernel
theorem dX2_init_10 : decode cX2_init 10 = .ok (.iconst 0, 1) := by decide +kernel
theorem dX2_init_11 : decode cX2_init 11 = .ok (.putfield 13, 3) := by decide +kernel
theorem dX2_init_14 : decode cX2_init 14 = .ok (.return_, 1) := by decide +kernel
theorem dX2_signing_0 : decode cX2_signing 0 = .ok (.aload_n 0, 1) := by decide +kernel
theorem dX2_signing_1 : decode cX2_signing 1 = .ok (.getfield 7, 3) := by decide +kernel
theorem dX2_signing_4 : decode cX2_signing 4 = .ok (.ireturn, 1) := by decide +kernel
theorem dX2_signWithNext_0 : decode cX2_signWithNext 0 = .ok (.aload_n 0, 1) := by decide +kernel
theorem dX2_signWithNext_1 : decode cX2_signWithNext 1 = .ok (.dup, 1) := by decide +kernel
theorem dX2_signWithNext_2 : decode cX2_signWithNext 2 = .ok (.getfield 7, 3) := by decide +kernel
theorem dX2_signWithNext_5 : decode cX2_signWithNext 5 = .ok (.iconst 1, 1) := by decide +kernel
theorem dX2_signWithNext_6 : decode cX2_signWithNext 6 = .ok (.iadd, 1) := by decide +kernel
theorem dX2_signWithNext_7 : decode cX2_signWithNext 7 = .ok (.putfield 7, 3) := by decide +kernel
theorem dX2_signWithNext_10 : decode cX2_signWithNext 10 = .ok (.aload_n 0, 1) := by decide +kernel
theorem dX2_signWithNext_11 : decode cX2_signWithNext 11 = .ok (.iload_n 1, 1) := by decide +kernel
theorem dX2_signWithNext_12 : decode cX2_signWithNext 12 = .ok (.putfield 13, 3) := by decide +kernel
theorem dX2_signWithNext_15 : decode cX2_signWithNext 15 = .ok (.return_, 1) := by decide +kernel
theorem dX2_takes_0 : decode cX2_takes 0 = .ok (.iload_n 1, 1) := by decide +kernel
theorem dX2_takes_1 : decode cX2_takes 1 = .ok (.aload_n 0, 1) := by decide +kernel
theorem dX2_takes_2 : decode cX2_takes 2 = .ok (.getfield 7, 3) := by decide +kernel
theorem dX2_takes_5 : decode cX2_takes 5 = .ok (.if_icmp .eq 21, 3) := by decide +kernel
theorem dX2_takes_8 : decode cX2_takes 8 = .ok (.iload_n 1, 1) := by decide +kernel
theorem dX2_takes_9 : decode cX2_takes 9 = .ok (.aload_n 0, 1) := by decide +kernel
theorem dX2_takes_10 : decode cX2_takes 10 = .ok (.getfield 7, 3) := by decide +kernel
theorem dX2_takes_13 : decode cX2_takes 13 = .ok (.iconst 1, 1) := by decide +kernel
theorem dX2_takes_14 : decode cX2_takes 14 = .ok (.isub, 1) := by decide +kernel
theorem dX2_takes_15 : decode cX2_takes 15 = .ok (.if_icmp .ne 15, 3) := by decide +kernel
theorem dX2_takes_18 : decode cX2_takes 18 = .ok (.iload_n 2, 1) := by decide +kernel
theorem dX2_takes_19 : decode cX2_takes 19 = .ok (.aload_n 0, 1) := by decide +kernel
theorem dX2_takes_20 : decode cX2_takes 20 = .ok (.getfield 13, 3) := by decide +kernel
theorem dX2_takes_23 : decode cX2_takes 23 = .ok (.if_icmp .ge 7, 3) := by decide +kernel
theorem dX2_takes_26 : decode cX2_takes 26 = .ok (.iconst 1, 1) := by decide +kernel
theorem dX2_takes_27 : decode cX2_takes 27 = .ok (.goto 4, 3) := by decide +kernel
theorem dX2_takes_30 : decode cX2_takes 30 = .ok (.iconst 0, 1) := by decide +kernel
theorem dX2_takes_31 : decode cX2_takes 31 = .ok (.ireturn, 1) := by decide +kernel
theorem dX3_init_0 : decode cX3_init 0 = .ok (.aload_n 0, 1) := by decide +kernel
theorem dX3_init_1 : decode cX3_init 1 = .ok (.invokespecial 1, 3) := by decide +kernel
theorem dX3_init_4 : decode cX3_init 4 = .ok (.aload_n 0, 1) := by decide +kernel
theorem dX3_init_5 : decode cX3_init 5 = .ok (.bipush 30, 2) := by decide +kernel
theorem dX3_init_7 : decode cX3_init 7 = .ok (.newarray .int, 2) := by decide +kernel
theorem dX3_init_9 : decode cX3_init 9 = .ok (.putfield 9, 3) := by decide +kernel
theorem dX3_init_12 : decode cX3_init 12 = .ok (.aload_n 0, 1) := by decide +kernel
theorem dX3_init_13 : decode cX3_init 13 = .ok (.bipush 30, 2) := by decide +kernel
theorem dX3_init_15 : decode cX3_init 15 = .ok (.newarray .int, 2) := by decide +kernel
theorem dX3_init_17 : decode cX3_init 17 = .ok (.putfield 13, 3) := by decide +kernel
theorem dX3_init_20 : decode cX3_init 20 = .ok (.aload_n 0, 1) := by decide +kernel
theorem dX3_init_21 : decode cX3_init 21 = .ok (.bipush 30, 2) := by decide +kernel
theorem dX3_init_23 : decode cX3_init 23 = .ok (.newarray .int, 2) := by decide +kernel
theorem dX3_init_25 : decode cX3_init 25 = .ok (.putfield 16, 3) := by decide +kernel
theorem dX3_init_28 : decode cX3_init 28 = .ok (.aload_n 0, 1) := by decide +kernel
theorem dX3_init_29 : decode cX3_init 29 = .ok (.bipush 30, 2) := by decide +kernel
theorem dX3_init_31 : decode cX3_init 31 = .ok (.newarray .int, 2) := by decide +kernel
theorem dX3_init_33 : decode cX3_init 33 = .ok (.putfield 19, 3) := by decide +kernel
theorem dX3_init_36 : decode cX3_init 36 = .ok (.aload_n 0, 1) := by decide +kernel
theorem dX3_init_37 : decode cX3_init 37 = .ok (.bipush 30, 2) := by decide +kernel
theorem dX3_init_39 : decode cX3_init 39 = .ok (.newarray .boolean, 2) := by decide +kernel
theorem dX3_init_41 : decode cX3_init 41 = .ok (.putfield 22, 3) := by decide +kernel
theorem dX3_init_44 : decode cX3_init 44 = .ok (.aload_n 0, 1) := by decide +kernel
theorem dX3_init_45 : decode cX3_init 45 = .ok (.iconst 0, 1) := by decide +kernel
theorem dX3_init_46 : decode cX3_init 46 = .ok (.putfield 26, 3) := by decide +kernel
theorem dX3_init_49 : decode cX3_init 49 = .ok (.return_, 1) := by decide +kernel
theorem dX3_areAllOpened_0 : decode cX3_areAllOpened 0 = .ok (.aload_n 0, 1) := by decide +kernel
theorem dX3_areAllOpened_1 : decode cX3_areAllOpened 1 = .ok (.getfield 26, 3) := by decide +kernel
theorem dX3_areAllOpened_4 : decode cX3_areAllOpened 4 = .ok (.bipush 30, 2) := by decide +kernel
theorem dX3_areAllOpened_6 : decode cX3_areAllOpened 6 = .ok (.if_icmp .lt 7, 3) := by decide +kernel
theorem dX3_areAllOpened_9 : decode cX3_areAllOpened 9 = .ok (.iconst 1, 1) := by decide +kernel
theorem dX3_areAllOpened_10 : decode cX3_areAllOpened 10 = .ok (.goto 4, 3) := by decide +kernel
theorem dX3_areAllOpened_13 : decode cX3_areAllOpened 13 = .ok (.iconst 0, 1) := by decide +kernel
theorem dX3_areAllOpened_14 : decode cX3_areAllOpened 14 = .ok (.ireturn, 1) := by decide +kernel
theorem dX3_has_0 : decode cX3_has 0 = .ok (.iload_n 1, 1) := by decide +kernel
theorem dX3_has_1 : decode cX3_has 1 = .ok (.ifCond .lt 15, 3) := by decide +kernel
theorem dX3_has_4 : decode cX3_has 4 = .ok (.iload_n 1, 1) := by decide +kernel
theorem dX3_has_5 : decode cX3_has 5 = .ok (.aload_n 0, 1) := by decide +kernel
theorem dX3_has_6 : decode cX3_has 6 = .ok (.getfield 26, 3) := by decide +kernel
theorem dX3_has_9 : decode cX3_has 9 = .ok (.if_icmp .ge 7, 3) := by decide +kernel
theorem dX3_has_12 : decode cX3_has 12 = .ok (.iconst 1, 1) := by decide +kernel
theorem dX3_has_13 : decode cX3_has 13 = .ok (.goto 4, 3) := by decide +kernel
theorem dX3_has_16 : decode cX3_has 16 = .ok (.iconst 0, 1) := by decide +kernel
theorem dX3_has_17 : decode cX3_has 17 = .ok (.ireturn, 1) := by decide +kernel
theorem dX3_add_0 : decode cX3_add 0 = .ok (.aload_n 0, 1) := by decide +kernel
theorem dX3_add_1 : decode cX3_add 1 = .ok (.getfield 26, 3) := by decide +kernel
theorem dX3_add_4 : decode cX3_add 4 = .ok (.istore 4, 2) := by decide +kernel
theorem dX3_add_6 : decode cX3_add 6 = .ok (.aload_n 0, 1) := by decide +kernel
theorem dX3_add_7 : decode cX3_add 7 = .ok (.getfield 9, 3) := by decide +kernel
theorem dX3_add_10 : decode cX3_add 10 = .ok (.iload 4, 2) := by decide +kernel
theorem dX3_add_12 : decode cX3_add 12 = .ok (.iload_n 1, 1) := by decide +kernel
theorem dX3_add_13 : decode cX3_add 13 = .ok (.iastore, 1) := by decide +kernel
theorem dX3_add_14 : decode cX3_add 14 = .ok (.aload_n 0, 1) := by decide +kernel
theorem dX3_add_15 : decode cX3_add 15 = .ok (.getfield 13, 3) := by decide +kernel
theorem dX3_add_18 : decode cX3_add 18 = .ok (.iload 4, 2) := by decide +kernel
theorem dX3_add_20 : decode cX3_add 20 = .ok (.iload_n 2, 1) := by decide +kernel
theorem dX3_add_21 : decode cX3_add 21 = .ok (.iastore, 1) := by decide +kernel
theorem dX3_add_22 : decode cX3_add 22 = .ok (.aload_n 0, 1) := by decide +kernel
theorem dX3_add_23 : decode cX3_add 23 = .ok (.getfield 16, 3) := by decide +kernel
theorem dX3_add_26 : decode cX3_add 26 = .ok (.iload 4, 2) := by decide +kernel
theorem dX3_add_28 : decode cX3_add 28 = .ok (.iload_n 3, 1) := by decide +kernel
theorem dX3_add_29 : decode cX3_add 29 = .ok (.iastore, 1) := by decide +kernel
theorem dX3_add_30 : decode cX3_add 30 = .ok (.aload_n 0, 1) := by decide +kernel
theorem dX3_add_31 : decode cX3_add 31 = .ok (.getfield 19, 3) := by decide +kernel
theorem dX3_add_34 : decode cX3_add 34 = .ok (.iload 4, 2) := by decide +kernel
theorem dX3_add_36 : decode cX3_add 36 = .ok (.iload_n 3, 1) := by decide +kernel
theorem dX3_add_37 : decode cX3_add 37 = .ok (.iastore, 1) := by decide +kernel
theorem dX3_add_38 : decode cX3_add 38 = .ok (.aload_n 0, 1) := by decide +kernel
theorem dX3_add_39 : decode cX3_add 39 = .ok (.dup, 1) := by decide +kernel
theorem dX3_add_40 : decode cX3_add 40 = .ok (.getfield 26, 3) := by decide +kernel
theorem dX3_add_43 : decode cX3_add 43 = .ok (.iconst 1, 1) := by decide +kernel
theorem dX3_add_44 : decode cX3_add 44 = .ok (.iadd, 1) := by decide +kernel
theorem dX3_add_45 : decode cX3_add 45 = .ok (.putfield 26, 3) := by decide +kernel
theorem dX3_add_48 : decode cX3_add 48 = .ok (.iload 4, 2) := by decide +kernel
theorem dX3_add_50 : decode cX3_add 50 = .ok (.ireturn, 1) := by decide +kernel
theorem dX3_isOver_0 : decode cX3_isOver 0 = .ok (.aload_n 0, 1) := by decide +kernel
theorem dX3_isOver_1 : decode cX3_isOver 1 = .ok (.getfield 22, 3) := by decide +kernel
theorem dX3_isOver_4 : decode cX3_isOver 4 = .ok (.iload_n 1, 1) := by decide +kernel
theorem dX3_isOver_5 : decode cX3_isOver 5 = .ok (.baload, 1) := by decide +kernel
theorem dX3_isOver_6 : decode cX3_isOver 6 = .ok (.ireturn, 1) := by decide +kernel
theorem dX3_end_0 : decode cX3_end 0 = .ok (.aload_n 0, 1) := by decide +kernel
theorem dX3_end_1 : decode cX3_end 1 = .ok (.getfield 22, 3) := by decide +kernel
theorem dX3_end_4 : decode cX3_end 4 = .ok (.iload_n 1, 1) := by decide +kernel
theorem dX3_end_5 : decode cX3_end 5 = .ok (.iconst 1, 1) := by decide +kernel
theorem dX3_end_6 : decode cX3_end 6 = .ok (.bastore, 1) := by decide +kernel
theorem dX3_end_7 : decode cX3_end 7 = .ok (.return_, 1) := by decide +kernel
theorem dX3_use_0 : decode cX3_use 0 = .ok (.aload_n 0, 1) := by decide +kernel
theorem dX3_use_1 : decode cX3_use 1 = .ok (.getfield 19, 3) := by decide +kernel
theorem dX3_use_4 : decode cX3_use 4 = .ok (.iload_n 1, 1) := by decide +kernel
theorem dX3_use_5 : decode cX3_use 5 = .ok (.iload_n 2, 1) := by decide +kernel
theorem dX3_use_6 : decode cX3_use 6 = .ok (.iastore, 1) := by decide +kernel
theorem dX3_use_7 : decode cX3_use 7 = .ok (.return_, 1) := by decide +kernel
theorem dX3_personOf_0 : decode cX3_personOf 0 = .ok (.aload_n 0, 1) := by decide +kernel
theorem dX3_personOf_1 : decode cX3_personOf 1 = .ok (.getfield 9, 3) := by decide +kernel
theorem dX3_personOf_4 : decode cX3_personOf 4 = .ok (.iload_n 1, 1) := by decide +kernel
theorem dX3_personOf_5 : decode cX3_personOf 5 = .ok (.iaload, 1) := by decide +kernel
theorem dX3_personOf_6 : decode cX3_personOf 6 = .ok (.ireturn, 1) := by decide +kernel
theorem dX3_age_0 : decode cX3_age 0 = .ok (.iload_n 2, 1) := by decide +kernel
theorem dX3_age_1 : decode cX3_age 1 = .ok (.aload_n 0, 1) := by decide +kernel
theorem dX3_age_2 : decode cX3_age 2 = .ok (.getfield 16, 3) := by decide +kernel
theorem dX3_age_5 : decode cX3_age 5 = .ok (.iload_n 1, 1) := by decide +kernel
theorem dX3_age_6 : decode cX3_age 6 = .ok (.iaload, 1) := by decide +kernel
theorem dX3_age_7 : decode cX3_age 7 = .ok (.isub, 1) := by decide +kernel
theorem dX3_age_8 : decode cX3_age 8 = .ok (.ireturn, 1) := by decide +kernel
set_option maxRecDepth 20000 in
theorem ggX3_endAllOf_X3_end : GoodIn wsX3_endAllOf wsX3_end := goodIn_r _ [8, 2, 9, 10, 11, 12, 13, 14] (by decide +kernel) (by decide +kernel)
set_option maxRecDepth 20000 in
theorem gX3_endAllOf_X3_end : GoodIn wsX3_endAllOf (wsV RX3 30 RX3 yX3_end wsX3_end) := goodIn_app (goodIn_of _ (by decide +kernel)) ggX3_endAllOf_X3_end
theorem dX3_endAllOf_0 : decode cX3_endAllOf 0 = .ok (.iconst 0, 1) := by decide +kernel
theorem dX3_endAllOf_1 : decode cX3_endAllOf 1 = .ok (.istore_n 2, 1) := by decide +kernel
theorem dX3_endAllOf_2 : decode cX3_endAllOf 2 = .ok (.iconst 0, 1) := by decide +kernel
theorem dX3_endAllOf_3 : decode cX3_endAllOf 3 = .ok (.istore_n 3, 1) := by decide +kernel
theorem dX3_endAllOf_4 : decode cX3_endAllOf 4 = .ok (.iload_n 3, 1) := by decide +kernel
theorem dX3_endAllOf_5 : decode cX3_endAllOf 5 = .ok (.aload_n 0, 1) := by decide +kernel
theorem dX3_endAllOf_6 : decode cX3_endAllOf 6 = .ok (.getfield 26, 3) := by decide +kernel
theorem dX3_endAllOf_9 : decode cX3_endAllOf 9 = .ok (.if_icmp .ge 36, 3) := by decide +kernel
theorem dX3_endAllOf_12 : decode cX3_endAllOf 12 = .ok (.aload_n 0, 1) := by decide +kernel
theorem dX3_endAllOf_13 : decode cX3_endAllOf 13 = .ok (.getfield 22, 3) := by decide +kernel
theorem dX3_endAllOf_16 : decode cX3_endAllOf 16 = .ok (.iload_n 3, 1) := by decide +kernel
theorem dX3_endAllOf_17 : decode cX3_endAllOf 17 = .ok (.baload, 1) := by decide +kernel
theorem dX3_endAllOf_18 : decode cX3_endAllOf 18 = .ok (.ifCond .ne 21, 3) := by decide +kernel
theorem dX3_endAllOf_21 : decode cX3_endAllOf 21 = .ok (.aload_n 0, 1) := by decide +kernel
theorem dX3_endAllOf_22 : decode cX3_endAllOf 22 = .ok (.getfield 9, 3) := by decide +kernel
theorem dX3_endAllOf_25 : decode cX3_endAllOf 25 = .ok (.iload_n 3, 1) := by decide +kernel
theorem dX3_endAllOf_26 : decode cX3_endAllOf 26 = .ok (.iaload, 1) := by decide +kernel
theorem dX3_endAllOf_27 : decode cX3_endAllOf 27 = .ok (.iload_n 1, 1) := by decide +kernel
theorem dX3_endAllOf_28 : decode cX3_endAllOf 28 = .ok (.if_icmp .ne 11, 3) := by decide +kernel
theorem dX3_endAllOf_31 : decode cX3_endAllOf 31 = .ok (.aload_n 0, 1) := by decide +kernel
theorem dX3_endAllOf_32 : decode cX3_endAllOf 32 = .ok (.iload_n 3, 1) := by decide +kernel
theorem dX3_endAllOf_33 : decode cX3_endAllOf 33 = .ok (.invokevirtual 30, 3) := by decide +kernel
theorem dX3_endAllOf_36 : decode cX3_endAllOf 36 = .ok (.iinc 2 1, 3) := by decide +kernel
theorem dX3_endAllOf_39 : decode cX3_endAllOf 39 = .ok (.iinc 3 1, 3) := by decide +kernel
theorem dX3_endAllOf_42 : decode cX3_endAllOf 42 = .ok (.goto (-38), 3) := by decide +kernel
theorem dX3_endAllOf_45 : decode cX3_endAllOf 45 = .ok (.iload_n 2, 1) := by decide +kernel
theorem dX3_endAllOf_46 : decode cX3_endAllOf 46 = .ok (.ireturn, 1) := by decide +kernel
set_option maxRecDepth 20000 in
theorem ggX3_endDue_X3_isDue : GoodIn wsX3_endDue wsX3_isDue := goodIn_r _ [8, 9, 10, 11, 12, 13, 7, 14, 15, 16, 17, 18, 19, 20, 21, 22, 27, 28, 29, 30, 31, 32, 33, 34] (by decide +kernel) (by decide +kernel)
set_option maxRecDepth 20000 in
theorem gX3_endDue_X3_isDue : GoodIn wsX3_endDue (wsV RX3 34 RX3 yX3_isDue wsX3_isDue) := goodIn_app (goodIn_of _ (by decide +kernel)) ggX3_endDue_X3_isDue
set_option maxRecDepth 20000 in
theorem ggX3_endDue_X3_end : GoodIn wsX3_endDue wsX3_end := goodIn_r _ [26, 2, 27, 28, 29, 30, 31, 32] (by decide +kernel) (by decide +kernel)
set_option maxRecDepth 20000 in
theorem gX3_endDue_X3_end : GoodIn wsX3_endDue (wsV RX3 30 RX3 yX3_end wsX3_end) := goodIn_app (goodIn_of _ (by decide +kernel)) ggX3_endDue_X3_end
theorem dX3_endDue_0 : decode cX3_endDue 0 = .ok (.iconst 0, 1) := by decide +kernel
theorem dX3_endDue_1 : decode cX3_endDue 1 = .ok (.istore 4, 2) := by decide +kernel
theorem dX3_endDue_3 : decode cX3_endDue 3 = .ok (.iconst 0, 1) := by decide +kernel
theorem dX3_endDue_4 : decode cX3_endDue 4 = .ok (.istore 5, 2) := by decide +kernel
theorem dX3_endDue_6 : decode cX3_endDue 6 = .ok (.iload 5, 2) := by decide +kernel
theorem dX3_endDue_8 : decode cX3_endDue 8 = .ok (.aload_n 0, 1) := by decide +kernel
theorem dX3_endDue_9 : decode cX3_endDue 9 = .ok (.getfield 26, 3) := by decide +kernel
theorem dX3_endDue_12 : decode cX3_endDue 12 = .ok (.if_icmp .ge 48, 3) := by decide +kernel
theorem dX3_endDue_15 : decode cX3_endDue 15 = .ok (.aload_n 0, 1) := by decide +kernel
theorem dX3_endDue_16 : decode cX3_endDue 16 = .ok (.getfield 22, 3) := by decide +kernel
theorem dX3_endDue_19 : decode cX3_endDue 19 = .ok (.iload 5, 2) := by decide +kernel
theorem dX3_endDue_21 : decode cX3_endDue 21 = .ok (.baload, 1) := by decide +kernel
theorem dX3_endDue_22 : decode cX3_endDue 22 = .ok (.ifCond .ne 32, 3) := by decide +kernel
theorem dX3_endDue_25 : decode cX3_endDue 25 = .ok (.aload_n 0, 1) := by decide +kernel
theorem dX3_endDue_26 : decode cX3_endDue 26 = .ok (.iload 5, 2) := by decide +kernel
theorem dX3_endDue_28 : decode cX3_endDue 28 = .ok (.iload_n 1, 1) := by decide +kernel
theorem dX3_endDue_29 : decode cX3_endDue 29 = .ok (.aload_n 2, 1) := by decide +kernel
theorem dX3_endDue_30 : decode cX3_endDue 30 = .ok (.aload_n 0, 1) := by decide +kernel
