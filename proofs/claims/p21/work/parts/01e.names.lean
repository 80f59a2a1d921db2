set_option maxRecDepth 20000 in
theorem ggX4_decide_X3_has : GoodIn wsX4_decide wsX3_has := goodIn_r _ [15, 16, 102, 103, 104, 105, 106, 107] (by decide +kernel) (by decide +kernel)
set_option maxRecDepth 20000 in
theorem gX4_decide_X3_has : GoodIn wsX4_decide (wsV RX4 122 RX3 yX3_has wsX3_has) := goodIn_app (goodIn_of _ (by decide +kernel)) ggX4_decide_X3_has
set_option maxRecDepth 20000 in
theorem ggX4_decide_X3_isOver : GoodIn wsX4_decide wsX3_isOver := goodIn_r _ [20, 21, 102, 103, 104, 105, 106, 107] (by decide +kernel) (by decide +kernel)
set_option maxRecDepth 20000 in
theorem gX4_decide_X3_isOver : GoodIn wsX4_decide (wsV RX4 130 RX3 yX3_isOver wsX3_isOver) := goodIn_app (goodIn_of _ (by decide +kernel)) ggX4_decide_X3_isOver
set_option maxRecDepth 20000 in
theorem ggX4_decide_X3_use : GoodIn wsX4_decide wsX3_use := goodIn_r _ [25, 26, 102, 103, 104, 105, 106, 107] (by decide +kernel) (by decide +kernel)
set_option maxRecDepth 20000 in
theorem gX4_decide_X3_use : GoodIn wsX4_decide (wsV RX4 182 RX3 yX3_use wsX3_use) := goodIn_app (goodIn_of _ (by decide +kernel)) ggX4_decide_X3_use
set_option maxRecDepth 20000 in
theorem ggX4_decide_X3_personOf : GoodIn wsX4_decide wsX3_personOf := goodIn_r _ [30, 31, 102, 103, 104, 105, 106, 107] (by decide +kernel) (by decide +kernel)
set_option maxRecDepth 20000 in
theorem gX4_decide_X3_personOf : GoodIn wsX4_decide (wsV RX4 185 RX3 yX3_personOf wsX3_personOf) := goodIn_app (goodIn_of _ (by decide +kernel)) ggX4_decide_X3_personOf
set_option maxRecDepth 20000 in
theorem ggX4_decide_X4_answerOfApp : GoodIn wsX4_decide wsX4_answerOfApp := goodIn_r _ [35, 36, 6, 37, 38, 39, 40, 41, 42, 43, 44, 45, 46, 47, 48, 49, 50, 51, 52, 9, 53, 54, 55, 56, 57, 58, 59, 60, 61, 62, 63, 64, 65, 66, 67, 68, 69, 70, 71, 72, 73, 74, 75, 76, 77, 78, 79, 80, 81, 82, 83, 84, 85, 86, 87, 88, 89, 90, 91, 92, 93, 94, 95, 96, 97, 98, 99, 100, 101, 108, 109, 110, 111, 112, 113, 114] (by decide +kernel) (by decide +kernel)
set_option maxRecDepth 20000 in
theorem gX4_decide_X4_answerOfApp : GoodIn wsX4_decide (wsV RX4 188 RX4 yX4_answerOfApp wsX4_answerOfApp) := goodIn_app (goodIn_of _ (by decide +kernel)) ggX4_decide_X4_answerOfApp
theorem dX4_decide_0 : decode cX4_decide 0 = .ok (.iload_n 1, 1) := by decide +kernel
theorem dX4_decide_1 : decode cX4_decide 1 = .ok (.iconst 4, 1) := by decide +kernel
theorem dX4_decide_2 : decode cX4_decide 2 = .ok (.invokestatic 48, 3) := by decide +kernel
theorem dX4_decide_5 : decode cX4_decide 5 = .ok (.ifCond .ne 12, 3) := by decide +kernel
theorem dX4_decide_8 : decode cX4_decide 8 = .ok (.iload_n 3, 1) := by decide +kernel
theorem dX4_decide_9 : decode cX4_decide 9 = .ok (.bipush 6, 2) := by decide +kernel
theorem dX4_decide_11 : decode cX4_decide 11 = .ok (.invokestatic 48, 3) := by decide +kernel
theorem dX4_decide_14 : decode cX4_decide 14 = .ok (.ifCond .eq 13, 3) := by decide +kernel
theorem dX4_decide_17 : decode cX4_decide 17 = .ok (.new 52, 3) := by decide +kernel
theorem dX4_decide_20 : decode cX4_decide 20 = .ok (.dup, 1) := by decide +kernel
theorem dX4_decide_21 : decode cX4_decide 21 = .ok (.ldc 180, 2) := by decide +kernel
theorem dX4_decide_23 : decode cX4_decide 23 = .ok (.invokespecial 56, 3) := by decide +kernel
theorem dX4_decide_26 : decode cX4_decide 26 = .ok (.athrow, 1) := by decide +kernel
theorem dX4_decide_27 : decode cX4_decide 27 = .ok (.aload_n 0, 1) := by decide +kernel
theorem dX4_decide_28 : decode cX4_decide 28 = .ok (.getfield 19, 3) := by decide +kernel
theorem dX4_decide_31 : decode cX4_decide 31 = .ok (.iload_n 2, 1) := by decide +kernel
theorem dX4_decide_32 : decode cX4_decide 32 = .ok (.invokevirtual 122, 3) := by decide +kernel
theorem dX4_decide_35 : decode cX4_decide 35 = .ok (.ifCond .ne 13, 3) := by decide +kernel
theorem dX4_decide_38 : decode cX4_decide 38 = .ok (.new 125, 3) := by decide +kernel
theorem dX4_decide_41 : decode cX4_decide 41 = .ok (.dup, 1) := by decide +kernel
theorem dX4_decide_42 : decode cX4_decide 42 = .ok (.ldc 127, 2) := by decide +kernel
theorem dX4_decide_44 : decode cX4_decide 44 = .ok (.invokespecial 129, 3) := by decide +kernel
theorem dX4_decide_47 : decode cX4_decide 47 = .ok (.athrow, 1) := by decide +kernel
theorem dX4_decide_48 : decode cX4_decide 48 = .ok (.aload_n 0, 1) := by decide +kernel
theorem dX4_decide_49 : decode cX4_decide 49 = .ok (.getfield 19, 3) := by decide +kernel
theorem dX4_decide_52 : decode cX4_decide 52 = .ok (.iload_n 2, 1) := by decide +kernel
theorem dX4_decide_53 : decode cX4_decide 53 = .ok (.invokevirtual 130, 3) := by decide +kernel
theorem dX4_decide_56 : decode cX4_decide 56 = .ok (.ifCond .eq 5, 3) := by decide +kernel
theorem dX4_decide_59 : decode cX4_decide 59 = .ok (.iconst 2, 1) := by decide +kernel
theorem dX4_decide_60 : decode cX4_decide 60 = .ok (.ireturn, 1) := by decide +kernel
theorem dX4_decide_61 : decode cX4_decide 61 = .ok (.aload_n 0, 1) := by decide +kernel
theorem dX4_decide_62 : decode cX4_decide 62 = .ok (.getfield 19, 3) := by decide +kernel
theorem dX4_decide_65 : decode cX4_decide 65 = .ok (.iload_n 2, 1) := by decide +kernel
theorem dX4_decide_66 : decode cX4_decide 66 = .ok (.aload_n 0, 1) := by decide +kernel
theorem dX4_decide_67 : decode cX4_decide 67 = .ok (.getfield 44, 3) := by decide +kernel
theorem dX4_decide_70 : decode cX4_decide 70 = .ok (.invokevirtual 182, 3) := by decide +kernel
theorem dX4_decide_73 : decode cX4_decide 73 = .ok (.aload_n 0, 1) := by decide +kernel
theorem dX4_decide_74 : decode cX4_decide 74 = .ok (.iload_n 1, 1) := by decide +kernel
theorem dX4_decide_75 : decode cX4_decide 75 = .ok (.aload_n 0, 1) := by decide +kernel
theorem dX4_decide_76 : decode cX4_decide 76 = .ok (.getfield 19, 3) := by decide +kernel
theorem dX4_decide_79 : decode cX4_decide 79 = .ok (.iload_n 2, 1) := by decide +kernel
theorem dX4_decide_80 : decode cX4_decide 80 = .ok (.invokevirtual 185, 3) := by decide +kernel
theorem dX4_decide_83 : decode cX4_decide 83 = .ok (.iload_n 3, 1) := by decide +kernel
theorem dX4_decide_84 : decode cX4_decide 84 = .ok (.invokevirtual 188, 3) := by decide +kernel
theorem dX4_decide_87 : decode cX4_decide 87 = .ok (.ireturn, 1) := by decide +kernel
set_option maxRecDepth 20000 in
theorem ggX4_forget_X4_isOutside : GoodIn wsX4_forget wsX4_isOutside := goodIn_r _ [7] (by decide +kernel) (by decide +kernel)
set_option maxRecDepth 20000 in
theorem gX4_forget_X4_isOutside : GoodIn wsX4_forget (va_wsS RX4 48 yX4_isOutside wsX4_isOutside) := goodIn_app (goodIn_of _ (by decide +kernel)) ggX4_forget_X4_isOutside
set_option maxRecDepth 20000 in
theorem ggX4_forget_X0_dropAllOf : GoodIn wsX4_forget wsX0_dropAllOf := goodIn_r _ [12, 13, 14, 15, 16, 11, 17, 18, 19, 20, 28, 29, 30] (by decide +kernel) (by decide +kernel)
set_option maxRecDepth 20000 in
theorem gX4_forget_X0_dropAllOf : GoodIn wsX4_forget (wsV RX4 193 RX0 yX0_dropAllOf wsX0_dropAllOf) := goodIn_app (goodIn_of _ (by decide +kernel)) ggX4_forget_X0_dropAllOf
theorem dX4_forget_0 : decode cX4_forget 0 = .ok (.iload_n 1, 1) := by decide +kernel
theorem dX4_forget_1 : decode cX4_forget 1 = .ok (.iconst 4, 1) := by decide +kernel
theorem dX4_forget_2 : decode cX4_forget 2 = .ok (.invokestatic 48, 3) := by decide +kernel
theorem dX4_forget_5 : decode cX4_forget 5 = .ok (.ifCond .ne 12, 3) := by decide +kernel
theorem dX4_forget_8 : decode cX4_forget 8 = .ok (.iload_n 2, 1) := by decide +kernel
theorem dX4_forget_9 : decode cX4_forget 9 = .ok (.bipush 10, 2) := by decide +kernel
theorem dX4_forget_11 : decode cX4_forget 11 = .ok (.invokestatic 48, 3) := by decide +kernel
theorem dX4_forget_14 : decode cX4_forget 14 = .ok (.ifCond .eq 13, 3) := by decide +kernel
theorem dX4_forget_17 : decode cX4_forget 17 = .ok (.new 52, 3) := by decide +kernel
theorem dX4_forget_20 : decode cX4_forget 20 = .ok (.dup, 1) := by decide +kernel
theorem dX4_forget_21 : decode cX4_forget 21 = .ok (.ldc 191, 2) := by decide +kernel
theorem dX4_forget_23 : decode cX4_forget 23 = .ok (.invokespecial 56, 3) := by decide +kernel
theorem dX4_forget_26 : decode cX4_forget 26 = .ok (.athrow, 1) := by decide +kernel
theorem dX4_forget_27 : decode cX4_forget 27 = .ok (.aload_n 0, 1) := by decide +kernel
theorem dX4_forget_28 : decode cX4_forget 28 = .ok (.getfield 33, 3) := by decide +kernel
theorem dX4_forget_31 : decode cX4_forget 31 = .ok (.iload_n 1, 1) := by decide +kernel
theorem dX4_forget_32 : decode cX4_forget 32 = .ok (.iload_n 2, 1) := by decide +kernel
theorem dX4_forget_33 : decode cX4_forget 33 = .ok (.invokevirtual 193, 3) := by decide +kernel
theorem dX4_forget_36 : decode cX4_forget 36 = .ok (.ireturn, 1) := by decide +kernel
set_option maxRecDepth 20000 in
theorem ggX4_stale_X4_isOutside : GoodIn wsX4_stale wsX4_isOutside := goodIn_r _ [6] (by decide +kernel) (by decide +kernel)
set_option maxRecDepth 20000 in
theorem gX4_stale_X4_isOutside : GoodIn wsX4_stale (va_wsS RX4 48 yX4_isOutside wsX4_isOutside) := goodIn_app (goodIn_of _ (by decide +kernel)) ggX4_stale_X4_isOutside
set_option maxRecDepth 20000 in
theorem ggX4_stale_X4_isStale : GoodIn wsX4_stale wsX4_isStale := goodIn_r _ [10, 11, 12, 13, 14, 15, 16, 17, 18, 19, 20, 21, 22, 23, 24, 25, 26, 27, 5, 28, 29, 30, 31, 32, 33, 34, 35, 36, 37, 38, 39, 40, 41, 42, 43, 44, 45, 46, 47, 48, 49, 50, 51, 52, 53, 54, 55, 56, 57, 58, 59, 60, 61, 62, 63, 64, 65, 66, 67, 68, 69, 70, 71, 72, 73, 74, 75, 76, 77, 78] (by decide +kernel) (by decide +kernel)
set_option maxRecDepth 20000 in
theorem gX4_stale_X4_isStale : GoodIn wsX4_stale (wsV RX4 198 RX4 yX4_isStale wsX4_isStale) := goodIn_app (goodIn_of _ (by decide +kernel)) ggX4_stale_X4_isStale
theorem dX4_stale_0 : decode cX4_stale 0 = .ok (.iload_n 1, 1) := by decide +kernel
theorem dX4_stale_1 : decode cX4_stale 1 = .ok (.iconst 4, 1) := by decide +kernel
theorem dX4_stale_2 : decode cX4_stale 2 = .ok (.invokestatic 48, 3) := by decide +kernel
theorem dX4_stale_5 : decode cX4_stale 5 = .ok (.ifCond .eq 13, 3) := by decide +kernel
theorem dX4_stale_8 : decode cX4_stale 8 = .ok (.new 52, 3) := by decide +kernel
theorem dX4_stale_11 : decode cX4_stale 11 = .ok (.dup, 1) := by decide +kernel
theorem dX4_stale_12 : decode cX4_stale 12 = .ok (.ldc 196, 2) := by decide +kernel
theorem dX4_stale_14 : decode cX4_stale 14 = .ok (.invokespecial 56, 3) := by decide +kernel
theorem dX4_stale_17 : decode cX4_stale 17 = .ok (.athrow, 1) := by decide +kernel
theorem dX4_stale_18 : decode cX4_stale 18 = .ok (.iconst 0, 1) := by decide +kernel
theorem dX4_stale_19 : decode cX4_stale 19 = .ok (.istore_n 2, 1) := by decide +kernel
theorem dX4_stale_20 : decode cX4_stale 20 = .ok (.iconst 0, 1) := by decide +kernel
theorem dX4_stale_21 : decode cX4_stale 21 = .ok (.istore_n 3, 1) := by decide +kernel
theorem dX4_stale_22 : decode cX4_stale 22 = .ok (.iload_n 3, 1) := by decide +kernel
theorem dX4_stale_23 : decode cX4_stale 23 = .ok (.bipush 10, 2) := by decide +kernel
theorem dX4_stale_25 : decode cX4_stale 25 = .ok (.if_icmp .ge 39, 3) := by decide +kernel
theorem dX4_stale_28 : decode cX4_stale 28 = .ok (.iconst 0, 1) := by decide +kernel
theorem dX4_stale_29 : decode cX4_stale 29 = .ok (.istore 4, 2) := by decide +kernel
theorem dX4_stale_31 : decode cX4_stale 31 = .ok (.iload 4, 2) := by decide +kernel
theorem dX4_stale_33 : decode cX4_stale 33 = .ok (.bipush 6, 2) := by decide +kernel
theorem dX4_stale_35 : decode cX4_stale 35 = .ok (.if_icmp .ge 23, 3) := by decide +kernel
theorem dX4_stale_38 : decode cX4_stale 38 = .ok (.aload_n 0, 1) := by decide +kernel
theorem dX4_stale_39 : decode cX4_stale 39 = .ok (.iload_n 1, 1) := by decide +kernel
theorem dX4_stale_40 : decode cX4_stale 40 = .ok (.iload_n 3, 1) := by decide +kernel
theorem dX4_stale_41 : decode cX4_stale 41 = .ok (.iload 4, 2) := by decide +kernel
theorem dX4_stale_43 : decode cX4_stale 43 = .ok (.invokevirtual 198, 3) := by decide +kernel
theorem dX4_stale_46 : decode cX4_stale 46 = .ok (.ifCond .eq 6, 3) := by decide +kernel
theorem dX4_stale_49 : decode cX4_stale 49 = .ok (.iinc 2 1, 3) := by decide +kernel
theorem dX4_stale_52 : decode cX4_stale 52 = .ok (.iinc 4 1, 3) := by decide +kernel
theorem dX4_stale_55 : decode cX4_stale 55 = .ok (.goto (-24), 3) := by decide +kernel
theorem dX4_stale_58 : decode cX4_stale 58 = .ok (.iinc 3 1, 3) := by decide +kernel
theorem dX4_stale_61 : decode cX4_stale 61 = .ok (.goto (-39), 3) := by decide +kernel
theorem dX4_stale_64 : decode cX4_stale 64 = .ok (.iload_n 2, 1) := by decide +kernel
theorem dX4_stale_65 : decode cX4_stale 65 = .ok (.ireturn, 1) := by decide +kernel
theorem dX4_isOutside_0 : decode cX4_isOutside 0 = .ok (.iload_n 0, 1) := by decide +kernel
theorem dX4_isOutside_1 : decode cX4_isOutside 1 = .ok (.ifCond .lt 8, 3) := by decide +kernel
theorem dX4_isOutside_4 : decode cX4_isOutside 4 = .ok (.iload_n 0, 1) := by decide +kernel
theorem dX4_isOutside_5 : decode cX4_isOutside 5 = .ok (.iload_n 1, 1) := by decide +kernel
theorem dX4_isOutside_6 : decode cX4_isOutside 6 = .ok (.if_icmp .lt 7, 3) := by decide +kernel
theorem dX4_isOutside_9 : decode cX4_isOutside 9 = .ok (.iconst 1, 1) := by decide +kernel
theorem dX4_isOutside_10 : decode cX4_isOutside 10 = .ok (.goto 4, 3) := by decide +kernel
theorem dX4_isOutside_13 : decode cX4_isOutside 13 = .ok (.iconst 0, 1) := by decide +kernel
theorem dX4_isOutside_14 : decode cX4_isOutside 14 = .ok (.ireturn, 1) := by decide +kernel
theorem dX4_isBarred_0 : decode cX4_isBarred 0 = .ok (.aload_n 0, 1) := by decide +kernel
theorem dX4_isBarred_1 : decode cX4_isBarred 1 = .ok (.getfield 37, 3) := by decide +kernel
theorem dX4_isBarred_4 : decode cX4_isBarred 4 = .ok (.iload_n 1, 1) := by decide +kernel
theorem dX4_isBarred_5 : decode cX4_isBarred 5 = .ok (.iaload, 1) := by decide +kernel
theorem dX4_isBarred_6 : decode cX4_isBarred 6 = .ok (.iconst 3, 1) := by decide +kernel
theorem dX4_isBarred_7 : decode cX4_isBarred 7 = .ok (.if_icmp .ne 7, 3) := by decide +kernel
theorem dX4_isBarred_10 : decode cX4_isBarred 10 = .ok (.iconst 1, 1) := by decide +kernel
theorem dX4_isBarred_11 : decode cX4_isBarred 11 = .ok (.goto 4, 3) := by decide +kernel
theorem dX4_isBarred_14 : decode cX4_isBarred 14 = .ok (.iconst 0, 1) := by decide +kernel
theorem dX4_isBarred_15 : decode cX4_isBarred 15 = .ok (.ireturn, 1) := by decide +kernel
theorem dX4_holdsGlass_0 : decode cX4_holdsGlass 0 = .ok (.aload_n 0, 1) := by decide +kernel
theorem dX4_holdsGlass_1 : decode cX4_holdsGlass 1 = .ok (.getfield 44, 3) := by decide +kernel
theorem dX4_holdsGlass_4 : decode cX4_holdsGlass 4 = .ok (.aload_n 0, 1) := by decide +kernel
theorem dX4_holdsGlass_5 : decode cX4_holdsGlass 5 = .ok (.getfield 41, 3) := by decide +kernel
theorem dX4_holdsGlass_8 : decode cX4_holdsGlass 8 = .ok (.iload_n 1, 1) := by decide +kernel
theorem dX4_holdsGlass_9 : decode cX4_holdsGlass 9 = .ok (.bipush 6, 2) := by decide +kernel
theorem dX4_holdsGlass_11 : decode cX4_holdsGlass 11 = .ok (.imul, 1) := by decide +kernel
theorem dX4_holdsGlass_12 : decode cX4_holdsGlass 12 = .ok (.iload_n 2, 1) := by decide +kernel
theorem dX4_holdsGlass_13 : decode cX4_holdsGlass 13 = .ok (.iadd, 1) := by decide +kernel
theorem dX4_holdsGlass_14 : decode cX4_holdsGlass 14 = .ok (.iaload, 1) := by decide +kernel
theorem dX4_holdsGlass_15 : decode cX4_holdsGlass 15 = .ok (.if_icmp .ge 7, 3) := by decide +kernel
theorem dX4_holdsGlass_18 : decode cX4_holdsGlass 18 = .ok (.iconst 1, 1) := by decide +kernel
theorem dX4_holdsGlass_19 : decode cX4_holdsGlass 19 = .ok (.goto 4, 3) := by decide +kernel
theorem dX4_holdsGlass_22 : decode cX4_holdsGlass 22 = .ok (.iconst 0, 1) := by decide +kernel
theorem dX4_holdsGlass_23 : decode cX4_holdsGlass 23 = .ok (.ireturn, 1) := by decide +kernel
set_option maxRecDepth 20000 in
theorem ggX4_servesAsWitness_X4_isBarred : GoodIn wsX4_servesAsWitness wsX4_isBarred := goodIn_r _ [6, 7, 27, 28, 29, 30, 31, 32, 33] (by decide +kernel) (by decide +kernel)
set_option maxRecDepth 20000 in
theorem gX4_servesAsWitness_X4_isBarred : GoodIn wsX4_servesAsWitness (wsV RX4 103 RX4 yX4_isBarred wsX4_isBarred) := goodIn_app (goodIn_of _ (by decide +kernel)) ggX4_servesAsWitness_X4_isBarred
set_option maxRecDepth 20000 in
theorem ggX4_servesAsWitness_X1_anyGrants : GoodIn wsX4_servesAsWitness wsX1_anyGrants := goodIn_r _ [12, 13, 14, 15, 16, 17, 11, 18, 19, 20, 21, 22, 23, 24, 25, 26, 34, 35, 36, 37] (by decide +kernel) (by decide +kernel)
set_option maxRecDepth 20000 in
theorem gX4_servesAsWitness_X1_anyGrants : GoodIn wsX4_servesAsWitness (wsV RX4 202 RX1 yX1_anyGrants wsX1_anyGrants) := goodIn_app (goodIn_of _ (by decide +kernel)) ggX4_servesAsWitness_X1_anyGrants
theorem dX4_servesAsWitness_0 : decode cX4_servesAsWitness 0 = .ok (.aload_n 0, 1) := by decide +kernel
theorem dX4_servesAsWitness_1 : decode cX4_servesAsWitness 1 = .ok (.iload_n 1, 1) := by decide +kernel
theorem dX4_servesAsWitness_2 : decode cX4_servesAsWitness 2 = .ok (.invokevirtual 103, 3) := by decide +kernel
theorem dX4_servesAsWitness_5 : decode cX4_servesAsWitness 5 = .ok (.ifCond .ne 19, 3) := by decide +kernel
theorem dX4_servesAsWitness_8 : decode cX4_servesAsWitness 8 = .ok (.aload_n 0, 1) := by decide +kernel
theorem dX4_servesAsWitness_9 : decode cX4_servesAsWitness 9 = .ok (.getfield 10, 3) := by decide +kernel
theorem dX4_servesAsWitness_12 : decode cX4_servesAsWitness 12 = .ok (.iload_n 1, 1) := by decide +kernel
theorem dX4_servesAsWitness_13 : decode cX4_servesAsWitness 13 = .ok (.iload_n 2, 1) := by decide +kernel
theorem dX4_servesAsWitness_14 : decode cX4_servesAsWitness 14 = .ok (.invokevirtual 202, 3) := by decide +kernel
theorem dX4_servesAsWitness_17 : decode cX4_servesAsWitness 17 = .ok (.ifCond .eq 7, 3) := by decide +kernel
theorem dX4_servesAsWitness_20 : decode cX4_servesAsWitness 20 = .ok (.iconst 1, 1) := by decide +kernel
theorem dX4_servesAsWitness_21 : decode cX4_servesAsWitness 21 = .ok (.goto 4, 3) := by decide +kernel
theorem dX4_servesAsWitness_24 : decode cX4_servesAsWitness 24 = .ok (.iconst 0, 1) := by decide +kernel
theorem dX4_servesAsWitness_25 : decode cX4_servesAsWitness 25 = .ok (.ireturn, 1) := by decide +kernel
set_option maxRecDepth 20000 in
theorem ggX4_answerOfHouse_X4_isBarred : GoodIn wsX4_answerOfHouse wsX4_isBarred := goodIn_r _ [6, 7, 38, 39, 40, 41, 42, 43, 44] (by decide +kernel) (by decide +kernel)
set_option maxRecDepth 20000 in
theorem gX4_answerOfHouse_X4_isBarred : GoodIn wsX4_answerOfHouse (wsV RX4 103 RX4 yX4_isBarred wsX4_isBarred) := goodIn_app (goodIn_of _ (by decide +kernel)) ggX4_answerOfHouse_X4_isBarred
set_option maxRecDepth 20000 in
theorem ggX4_answerOfHouse_X1_anyGrants : GoodIn wsX4_answerOfHouse wsX1_anyGrants := goodIn_r _ [12, 13, 14, 15, 16, 17, 11, 18, 19, 20, 21, 22, 23, 24, 25, 26, 45, 46, 47, 48] (by decide +kernel) (by decide +kernel)
set_option maxRecDepth 20000 in
theorem gX4_answerOfHouse_X1_anyGrants : GoodIn wsX4_answerOfHouse (wsV RX4 202 RX1 yX1_anyGrants wsX1_anyGrants) := goodIn_app (goodIn_of _ (by decide +kernel)) ggX4_answerOfHouse_X1_anyGrants
set_option maxRecDepth 20000 in
theorem ggX4_answerOfHouse_X1_anyDenies : GoodIn wsX4_answerOfHouse wsX1_anyDenies := goodIn_r _ [30, 13, 31, 15, 16, 17, 11, 18, 19, 20, 21, 22, 23, 24, 25, 26, 45, 46, 47, 48] (by decide +kernel) (by decide +kernel)
set_option maxRecDepth 20000 in
theorem gX4_answerOfHouse_X1_anyDenies : GoodIn wsX4_answerOfHouse (wsV RX4 205 RX1 yX1_anyDenies wsX1_anyDenies) := goodIn_app (goodIn_of _ (by decide +kernel)) ggX4_answerOfHouse_X1_anyDenies
set_option maxRecDepth 20000 in
theorem ggX4_answerOfHouse_X4_holdsGlass : GoodIn wsX4_answerOfHouse wsX4_holdsGlass := goodIn_r _ [35, 36, 37, 38, 39, 40, 41, 42, 43, 44] (by decide +kernel) (by decide +kernel)
set_option maxRecDepth 20000 in
theorem gX4_answerOfHouse_X4_holdsGlass : GoodIn wsX4_answerOfHouse (wsV RX4 208 RX4 yX4_holdsGlass wsX4_holdsGlass) := goodIn_app (goodIn_of _ (by decide +kernel)) ggX4_answerOfHouse_X4_holdsGlass
theorem dX4_answerOfHouse_0 : decode cX4_answerOfHouse 0 = .ok (.aload_n 0, 1) := by decide +kernel
theorem dX4_answerOfHouse_1 : decode cX4_answerOfHouse 1 = .ok (.iload_n 1, 1) := by decide +kernel
theorem dX4_answerOfHouse_2 : decode cX4_answerOfHouse 2 = .ok (.invokevirtual 103, 3) := by decide +kernel
theorem dX4_answerOfHouse_5 : decode cX4_answerOfHouse 5 = .ok (.ifCond .eq 5, 3) := by decide +kernel
theorem dX4_answerOfHouse_8 : decode cX4_answerOfHouse 8 = .ok (.iconst 1, 1) := by decide +kernel
theorem dX4_answerOfHouse_9 : decode cX4_answerOfHouse 9 = .ok (.ireturn, 1) := by decide +kernel
theorem dX4_answerOfHouse_10 : decode cX4_answerOfHouse 10 = .ok (.aload_n 0, 1) := by decide +kernel
theorem dX4_answerOfHouse_11 : decode cX4_answerOfHouse 11 = .ok (.getfield 10, 3) := by decide +kernel
theorem dX4_answerOfHouse_14 : decode cX4_answerOfHouse 14 = .ok (.iload_n 1, 1) := by decide +kernel
theorem dX4_answerOfHouse_15 : decode cX4_answerOfHouse 15 = .ok (.iload_n 2, 1) := by decide +kernel
theorem dX4_answerOfHouse_16 : decode cX4_answerOfHouse 16 = .ok (.invokevirtual 202, 3) := by decide +kernel
theorem dX4_answerOfHouse_19 : decode cX4_answerOfHouse 19 = .ok (.ifCond .eq 19, 3) := by decide +kernel
theorem dX4_answerOfHouse_22 : decode cX4_answerOfHouse 22 = .ok (.aload_n 0, 1) := by decide +kernel
theorem dX4_answerOfHouse_23 : decode cX4_answerOfHouse 23 = .ok (.getfield 10, 3) := by decide +kernel
theorem dX4_answerOfHouse_26 : decode cX4_answerOfHouse 26 = .ok (.iload_n 1, 1) := by decide +kernel
theorem dX4_answerOfHouse_27 : decode cX4_answerOfHouse 27 = .ok (.iload_n 2, 1) := by decide +kernel
theorem dX4_answerOfHouse_28 : decode cX4_answerOfHouse 28 = .ok (.invokevirtual 205, 3) := by decide +kernel
theorem dX4_answerOfHouse_31 : decode cX4_answerOfHouse 31 = .ok (.ifCond .ne 7, 3) := by decide +kernel
theorem dX4_answerOfHouse_34 : decode cX4_answerOfHouse 34 = .ok (.iconst 1, 1) := by decide +kernel
theorem dX4_answerOfHouse_35 : decode cX4_answerOfHouse 35 = .ok (.goto 4, 3) := by decide +kernel
theorem dX4_answerOfHouse_38 : decode cX4_answerOfHouse 38 = .ok (.iconst 0, 1) := by decide +kernel
theorem dX4_answerOfHouse_39 : decode cX4_answerOfHouse 39 = .ok (.istore_n 3, 1) := by decide +kernel
theorem dX4_answerOfHouse_40 : decode cX4_answerOfHouse 40 = .ok (.iload_n 3, 1) := by decide +kernel
theorem dX4_answerOfHouse_41 : decode cX4_answerOfHouse 41 = .ok (.ifCond .ne 12, 3) := by decide +kernel
theorem dX4_answerOfHouse_44 : decode cX4_answerOfHouse 44 = .ok (.aload_n 0, 1) := by decide +kernel
theorem dX4_answerOfHouse_45 : decode cX4_answerOfHouse 45 = .ok (.iload_n 1, 1) := by decide +kernel
theorem dX4_answerOfHouse_46 : decode cX4_answerOfHouse 46 = .ok (.iload_n 2, 1) := by decide +kernel
theorem dX4_answerOfHouse_47 : decode cX4_answerOfHouse 47 = .ok (.invokevirtual 208, 3) := by decide +kernel
theorem dX4_answerOfHouse_50 : decode cX4_answerOfHouse 50 = .ok (.ifCond .eq 7, 3) := by decide +kernel
theorem dX4_answerOfHouse_53 : decode cX4_answerOfHouse 53 = .ok (.iconst 0, 1) := by decide +kernel
theorem dX4_answerOfHouse_54 : decode cX4_answerOfHouse 54 = .ok (.goto 4, 3) := by decide +kernel
theorem dX4_answerOfHouse_57 : decode cX4_answerOfHouse 57 = .ok (.iconst 1, 1) := by decide +kernel
theorem dX4_answerOfHouse_58 : decode cX4_answerOfHouse 58 = .ok (.ireturn, 1) := by decide +kernel
set_option maxRecDepth 20000 in
theorem ggX4_answerOfApp_X0_areKept : GoodIn wsX4_answerOfApp wsX0_areKept := goodIn_r _ [7, 8, 9, 10, 6, 11, 69, 70, 71] (by decide +kernel) (by decide +kernel)
set_option maxRecDepth 20000 in
theorem gX4_answerOfApp_X0_areKept : GoodIn wsX4_answerOfApp (wsV RX4 211 RX0 yX0_areKept wsX0_areKept) := goodIn_app (goodIn_of _ (by decide +kernel)) ggX4_answerOfApp_X0_areKept
set_option maxRecDepth 20000 in
theorem ggX4_answerOfApp_X0_answer : GoodIn wsX4_answerOfApp wsX0_answer := goodIn_r _ [15, 8, 9, 10, 6, 11, 69, 70, 71] (by decide +kernel) (by decide +kernel)
set_option maxRecDepth 20000 in
theorem gX4_answerOfApp_X0_answer : GoodIn wsX4_answerOfApp (wsV RX4 214 RX0 yX0_answer wsX0_answer) := goodIn_app (goodIn_of _ (by decide +kernel)) ggX4_answerOfApp_X0_answer
set_option maxRecDepth 20000 in
theorem ggX4_answerOfApp_X4_answerOfHouse : GoodIn wsX4_answerOfApp wsX4_answerOfHouse := goodIn_r _ [20, 21, 22, 23, 24, 19, 25, 26, 27, 28, 29, 30, 31, 32, 33, 34, 35, 36, 37, 38, 39, 40, 41, 42, 43, 44, 45, 46, 47, 48, 49, 50, 51, 52, 53, 54, 2, 55, 62, 63, 64, 65, 66, 67, 68, 72, 73, 74, 75] (by decide +kernel) (by decide +kernel)
set_option maxRecDepth 20000 in
theorem gX4_answerOfApp_X4_answerOfHouse : GoodIn wsX4_answerOfApp (wsV RX4 97 RX4 yX4_answerOfHouse wsX4_answerOfHouse) := goodIn_app (goodIn_of _ (by decide +kernel)) ggX4_answerOfApp_X4_answerOfHouse
set_option maxRecDepth 20000 in
theorem ggX4_answerOfApp_X0_keep : GoodIn wsX4_answerOfApp wsX0_keep := goodIn_r _ [59, 60, 8, 61, 9, 10, 6, 11, 69, 70, 71] (by decide +kernel) (by decide +kernel)
set_option maxRecDepth 20000 in
theorem gX4_answerOfApp_X0_keep : GoodIn wsX4_answerOfApp (wsV RX4 217 RX0 yX0_keep wsX0_keep) := goodIn_app (goodIn_of _ (by decide +kernel)) ggX4_answerOfApp_X0_keep
theorem dX4_answerOfApp_0 : decode cX4_answerOfApp 0 = .ok (.aload_n 0, 1) := by decide +kernel
theorem dX4_answerOfApp_1 : decode cX4_answerOfApp 1 = .ok (.getfield 33, 3) := by decide +kernel
theorem dX4_answerOfApp_4 : decode cX4_answerOfApp 4 = .ok (.iload_n 1, 1) := by decide +kernel
theorem dX4_answerOfApp_5 : decode cX4_answerOfApp 5 = .ok (.iload_n 2, 1) := by decide +kernel
theorem dX4_answerOfApp_6 : decode cX4_answerOfApp 6 = .ok (.iload_n 3, 1) := by decide +kernel
theorem dX4_answerOfApp_7 : decode cX4_answerOfApp 7 = .ok (.invokevirtual 211, 3) := by decide +kernel
theorem dX4_answerOfApp_10 : decode cX4_answerOfApp 10 = .ok (.ifCond .eq 14, 3) := by decide +kernel
theorem dX4_answerOfApp_13 : decode cX4_answerOfApp 13 = .ok (.aload_n 0, 1) := by decide +kernel
theorem dX4_answerOfApp_14 : decode cX4_answerOfApp 14 = .ok (.getfield 33, 3) := by decide +kernel
theorem dX4_answerOfApp_17 : decode cX4_answerOfApp 17 = .ok (.iload_n 1, 1) := by decide +kernel
theorem dX4_answerOfApp_18 : decode cX4_answerOfApp 18 = .ok (.iload_n 2, 1) := by decide +kernel
theorem dX4_answerOfApp_19 : decode cX4_answerOfApp 19 = .ok (.iload_n 3, 1) := by decide +kernel
theorem dX4_answerOfApp_20 : decode cX4_answerOfApp 20 = .ok (.invokevirtual 214, 3) := by decide +kernel
theorem dX4_answerOfApp_23 : decode cX4_answerOfApp 23 = .ok (.ireturn, 1) := by decide +kernel
theorem dX4_answerOfApp_24 : decode cX4_answerOfApp 24 = .ok (.aload_n 0, 1) := by decide +kernel
theorem dX4_answerOfApp_25 : decode cX4_answerOfApp 25 = .ok (.iload_n 2, 1) := by decide +kernel
theorem dX4_answerOfApp_26 : decode cX4_answerOfApp 26 = .ok (.iload_n 3, 1) := by decide +kernel
theorem dX4_answerOfApp_27 : decode cX4_answerOfApp 27 = .ok (.invokevirtual 97, 3) := by decide +kernel
theorem dX4_answerOfApp_30 : decode cX4_answerOfApp 30 = .ok (.istore 4, 2) := by decide +kernel
theorem dX4_answerOfApp_32 : decode cX4_answerOfApp 32 = .ok (.aload_n 0, 1) := by decide +kernel
theorem dX4_answerOfApp_33 : decode cX4_answerOfApp 33 = .ok (.getfield 33, 3) := by decide +kernel
theorem dX4_answerOfApp_36 : decode cX4_answerOfApp 36 = .ok (.iload_n 1, 1) := by decide +kernel
theorem dX4_answerOfApp_37 : decode cX4_answerOfApp 37 = .ok (.iload_n 2, 1) := by decide +kernel
theorem dX4_answerOfApp_38 : decode cX4_answerOfApp 38 = .ok (.iload_n 3, 1) := by decide +kernel
theorem dX4_answerOfApp_39 : decode cX4_answerOfApp 39 = .ok (.iload 4, 2) := by decide +kernel
theorem dX4_answerOfApp_41 : decode cX4_answerOfApp 41 = .ok (.aload_n 0, 1) := by decide +kernel
theorem dX4_answerOfApp_42 : decode cX4_answerOfApp 42 = .ok (.getfield 44, 3) := by decide +kernel
theorem dX4_answerOfApp_45 : decode cX4_answerOfApp 45 = .ok (.invokevirtual 217, 3) := by decide +kernel
theorem dX4_answerOfApp_48 : decode cX4_answerOfApp 48 = .ok (.iload 4, 2) := by decide +kernel
theorem dX4_answerOfApp_50 : decode cX4_answerOfApp 50 = .ok (.ireturn, 1) := by decide +kernel
set_option maxRecDepth 20000 in
theorem ggX4_isStale_X0_areKept : GoodIn wsX4_isStale wsX0_areKept := goodIn_r _ [6, 7, 8, 9, 5, 10, 63, 64, 65] (by decide +kernel) (by decide +kernel)
set_option maxRecDepth 20000 in
theorem gX4_isStale_X0_areKept : GoodIn wsX4_isStale (wsV RX4 211 RX0 yX0_areKept wsX0_areKept) := goodIn_app (goodIn_of _ (by decide +kernel)) ggX4_isStale_X0_areKept
set_option maxRecDepth 20000 in
theorem ggX4_isStale_X0_answer : GoodIn wsX4_isStale wsX0_answer := goodIn_r _ [14, 7, 8, 9, 5, 10, 63, 64, 65] (by decide +kernel) (by decide +kernel)
set_option maxRecDepth 20000 in
theorem gX4_isStale_X0_answer : GoodIn wsX4_isStale (wsV RX4 214 RX0 yX0_answer wsX0_answer) := goodIn_app (goodIn_of _ (by decide +kernel)) ggX4_isStale_X0_answer
set_option maxRecDepth 20000 in
theorem ggX4_isStale_X4_answerOfHouse : GoodIn wsX4_isStale wsX4_answerOfHouse := goodIn_r _ [19, 20, 21, 22, 23, 18, 24, 25, 26, 27, 28, 29, 30, 31, 32, 33, 34, 35, 36, 37, 38, 39, 40, 41, 42, 43, 44, 45, 46, 47, 48, 49, 50, 51, 52, 53, 54, 55, 56, 57, 58, 59, 60, 61, 62, 66, 67, 68, 69] (by decide +kernel) (by decide +kernel)
set_option maxRecDepth 20000 in
theorem gX4_isStale_X4_answerOfHouse : GoodIn wsX4_isStale (wsV RX4 97 RX4 yX4_answerOfHouse wsX4_answerOfHouse) := goodIn_app (goodIn_of _ (by decide +kernel)) ggX4_isStale_X4_answerOfHouse
theorem dX4_isStale_0 : decode cX4_isStale 0 = .ok (.aload_n 0, 1) := by decide +kernel
theorem dX4_isStale_1 : decode cX4_isStale 1 = .ok (.getfield 33, 3) := by decide +kernel
theorem dX4_isStale_4 : decode cX4_isStale 4 = .ok (.iload_n 1, 1) := by decide +kernel
theorem dX4_isStale_5 : decode cX4_isStale 5 = .ok (.iload_n 2, 1) := by decide +kernel
theorem dX4_isStale_6 : decode cX4_isStale 6 = .ok (.iload_n 3, 1) := by decide +kernel
theorem dX4_isStale_7 : decode cX4_isStale 7 = .ok (.invokevirtual 211, 3) := by decide +kernel
theorem dX4_isStale_10 : decode cX4_isStale 10 = .ok (.ifCond .eq 26, 3) := by decide +kernel
theorem dX4_isStale_13 : decode cX4_isStale 13 = .ok (.aload_n 0, 1) := by decide +kernel
theorem dX4_isStale_14 : decode cX4_isStale 14 = .ok (.getfield 33, 3) := by decide +kernel
theorem dX4_isStale_17 : decode cX4_isStale 17 = .ok (.iload_n 1, 1) := by decide +kernel
theorem dX4_isStale_18 : decode cX4_isStale 18 = .ok (.iload_n 2, 1) := by decide +kernel
theorem dX4_isStale_19 : decode cX4_isStale 19 = .ok (.iload_n 3, 1) := by decide +kernel
theorem dX4_isStale_20 : decode cX4_isStale 20 = .ok (.invokevirtual 214, 3) := by decide +kernel
theorem dX4_isStale_23 : decode cX4_isStale 23 = .ok (.aload_n 0, 1) := by decide +kernel
theorem dX4_isStale_24 : decode cX4_isStale 24 = .ok (.iload_n 2, 1) := by decide +kernel
theorem dX4_isStale_25 : decode cX4_isStale 25 = .ok (.iload_n 3, 1) := by decide +kernel
theorem dX4_isStale_26 : decode cX4_isStale 26 = .ok (.invokevirtual 97, 3) := by decide +kernel
theorem dX4_isStale_29 : decode cX4_isStale 29 = .ok (.if_icmp .eq 7, 3) := by decide +kernel
theorem dX4_isStale_32 : decode cX4_isStale 32 = .ok (.iconst 1, 1) := by decide +kernel
theorem dX4_isStale_33 : decode cX4_isStale 33 = .ok (.goto 4, 3) := by decide +kernel
theorem dX4_isStale_36 : decode cX4_isStale 36 = .ok (.iconst 0, 1) := by decide +kernel
theorem dX4_isStale_37 : decode cX4_isStale 37 = .ok (.ireturn, 1) := by decide +kernel
theorem dJ7_fill_53178_0 : decode cJ7_fill_53178 0 = .ok (.iconst 0, 1) := by decide +kernel
theorem dJ7_fill_53178_1 : decode cJ7_fill_53178 1 = .ok (.istore_n 2, 1) := by decide +kernel
theorem dJ7_fill_53178_2 : decode cJ7_fill_53178 2 = .ok (.aload_n 0, 1) := by decide +kernel
theorem dJ7_fill_53178_3 : decode cJ7_fill_53178 3 = .ok (.arraylength, 1) := by decide +kernel
theorem dJ7_fill_53178_4 : decode cJ7_fill_53178 4 = .ok (.istore_n 3, 1) := by decide +kernel
theorem dJ7_fill_53178_5 : decode cJ7_fill_53178 5 = .ok (.iload_n 2, 1) := by decide +kernel
theorem dJ7_fill_53178_6 : decode cJ7_fill_53178 6 = .ok (.iload_n 3, 1) := by decide +kernel
theorem dJ7_fill_53178_7 : decode cJ7_fill_53178 7 = .ok (.if_icmp .ge 13, 3) := by decide +kernel
theorem dJ7_fill_53178_10 : decode cJ7_fill_53178 10 = .ok (.aload_n 0, 1) := by decide +kernel
theorem dJ7_fill_53178_11 : decode cJ7_fill_53178 11 = .ok (.iload_n 2, 1) := by decide +kernel
theorem dJ7_fill_53178_12 : decode cJ7_fill_53178 12 = .ok (.iload_n 1, 1) := by decide +kernel
theorem dJ7_fill_53178_13 : decode cJ7_fill_53178 13 = .ok (.iastore, 1) := by decide +kernel
theorem dJ7_fill_53178_14 : decode cJ7_fill_53178 14 = .ok (.iinc 2 1, 3) := by decide +kernel
theorem dJ7_fill_53178_17 : decode cJ7_fill_53178 17 = .ok (.goto (-12), 3) := by decide +kernel
theorem dJ7_fill_53178_20 : decode cJ7_fill_53178 20 = .ok (.return_, 1) := by decide +kernel
theorem dL_cell_0 : decode cL_cell 0 = .ok (.iload_n 1, 1) := by decide +kernel
theorem dL_cell_1 : decode cL_cell 1 = .ok (.aload_n 0, 1) := by decide +kernel
theorem dL_cell_2 : decode cL_cell 2 = .ok (.arraylength, 1) := by decide +kernel
theorem dL_cell_3 : decode cL_cell 3 = .ok (.if_icmp .ge 9, 3) := by decide +kernel
theorem dL_cell_6 : decode cL_cell 6 = .ok (.aload_n 0, 1) := by decide +kernel
theorem dL_cell_7 : decode cL_cell 7 = .ok (.iload_n 1, 1) := by decide +kernel
theorem dL_cell_8 : decode cL_cell 8 = .ok (.iaload, 1) := by decide +kernel
theorem dL_cell_9 : decode cL_cell 9 = .ok (.goto 13, 3) := by decide +kernel
theorem dL_cell_12 : decode cL_cell 12 = .ok (.ldc 7, 2) := by decide +kernel
theorem dL_cell_14 : decode cL_cell 14 = .ok (.iload_n 1, 1) := by decide +kernel
theorem dL_cell_15 : decode cL_cell 15 = .ok (.bipush 19, 2) := by decide +kernel
theorem dL_cell_17 : decode cL_cell 17 = .ok (.iadd, 1) := by decide +kernel
theorem dL_cell_18 : decode cL_cell 18 = .ok (.imul, 1) := by decide +kernel
theorem dL_cell_19 : decode cL_cell 19 = .ok (.ldc 8, 2) := by decide +kernel
theorem dL_cell_21 : decode cL_cell 21 = .ok (.iadd, 1) := by decide +kernel
theorem dL_cell_22 : decode cL_cell 22 = .ok (.ireturn, 1) := by decide +kernel
theorem dL_low_0 : decode cL_low 0 = .ok (.iload_n 0, 1) := by decide +kernel
theorem dL_low_1 : decode cL_low 1 = .ok (.ldc 9, 2) := by decide +kernel
theorem dL_low_3 : decode cL_low 3 = .ok (.iand, 1) := by decide +kernel
theorem dL_low_4 : decode cL_low 4 = .ok (.iload_n 1, 1) := by decide +kernel
theorem dL_low_5 : decode cL_low 5 = .ok (.irem, 1) := by decide +kernel
theorem dL_low_6 : decode cL_low 6 = .ok (.ireturn, 1) := by decide +kernel
set_option maxRecDepth 20000 in
theorem ggL_calls_X4_setGroup : GoodIn wsL_calls wsX4_setGroup := goodIn_ca (goodIn_ca (goodIn_r _ [7, 8, 9, 10, 11, 12, 13, 14, 6, 15, 16, 17, 18, 19, 20, 21, 22, 23, 24, 25, 26, 27, 28, 29, 30, 31, 32, 33, 34, 35, 36, 37, 38, 39, 110, 111, 112, 113, 114, 115, 116, 117, 118, 119, 120] (by decide +kernel) (by decide +kernel)) (goodIn_sub (fun _ h => List.mem_cons_of_mem _ (List.mem_append_left _ (List.mem_append_left _ (List.mem_append_right _ h)))) (by decide +kernel))) (goodIn_sub (fun _ h => List.mem_cons_of_mem _ (List.mem_append_left _ (List.mem_append_right _ h))) (by decide +kernel))
set_option maxRecDepth 20000 in
theorem gL_calls_X4_setGroup : GoodIn wsL_calls (wsV RL 10 RX4 yX4_setGroup wsX4_setGroup) := goodIn_app (goodIn_of _ (by decide +kernel)) ggL_calls_X4_setGroup
set_option maxRecDepth 20000 in
theorem ggL_calls_X4_open : GoodIn wsL_calls wsX4_open := goodIn_ca (goodIn_ca (goodIn_r _ [43, 8, 9, 10, 11, 44, 45, 46, 13, 14, 6, 15, 47, 48, 49, 50, 51, 52, 53, 54, 55, 56, 57, 58, 59, 60, 61, 62, 63, 64, 65, 66, 67, 68, 69, 70, 71, 110, 111, 112, 113, 114, 115, 116, 121, 122, 123, 124, 125, 126, 127, 128] (by decide +kernel) (by decide +kernel)) (goodIn_sub (fun _ h => List.mem_cons_of_mem _ (List.mem_append_left _ (List.mem_append_left _ (List.mem_append_right _ h)))) (by decide +kernel))) (goodIn_sub (fun _ h => List.mem_cons_of_mem _ (List.mem_append_left _ (List.mem_append_right _ h))) (by decide +kernel))
set_option maxRecDepth 20000 in
theorem gL_calls_X4_open : GoodIn wsL_calls (wsV RL 16 RX4 yX4_open wsX4_open) := goodIn_app (goodIn_of _ (by decide +kernel)) ggL_calls_X4_open
set_option maxRecDepth 20000 in
theorem ggL_calls_X4_close : GoodIn wsL_calls wsX4_close := goodIn_ca (goodIn_ca (goodIn_r _ [75, 76, 77, 10, 11, 44, 46, 78, 79, 80, 55, 81, 57, 82, 83, 84, 85, 86, 87, 88, 89, 90, 91, 92, 93, 94, 70, 110, 111, 112, 113, 114, 115, 116, 121, 122, 123, 124, 125, 126] (by decide +kernel) (by decide +kernel)) (goodIn_sub (fun _ h => List.mem_cons_of_mem _ (List.mem_append_right _ h)) (by decide +kernel))) (goodIn_sub (fun _ h => List.mem_cons_of_mem _ (List.mem_append_left _ (List.mem_append_right _ h))) (by decide +kernel))
set_option maxRecDepth 20000 in
theorem gL_calls_X4_close : GoodIn wsL_calls (wsV RL 20 RX4 yX4_close wsX4_close) := goodIn_app (goodIn_of _ (by decide +kernel)) ggL_calls_X4_close
set_option maxRecDepth 20000 in
theorem ggL_calls_X4_breakGlass : GoodIn wsL_calls wsX4_breakGlass := goodIn_ca (goodIn_ca (goodIn_r _ [98, 8, 9, 10, 11, 46, 99, 13, 14, 6, 15, 100, 101, 102, 103, 12, 47, 48, 49, 50, 51, 104, 105, 106, 19, 107, 108, 109, 22, 23, 24, 25, 26, 27, 28, 29, 21, 30, 31, 32, 110, 111, 112, 113, 114, 115, 116, 117, 118, 119, 120] (by decide +kernel) (by decide +kernel)) (goodIn_sub (fun _ h => List.mem_cons_of_mem _ (List.mem_append_left _ (List.mem_append_left _ (List.mem_append_right _ h)))) (by decide +kernel))) (goodIn_sub (fun _ h => List.mem_cons_of_mem _ (List.mem_append_left _ (List.mem_append_right _ h))) (by decide +kernel))
set_option maxRecDepth 20000 in
theorem gL_calls_X4_breakGlass : GoodIn wsL_calls (wsV RL 23 RX4 yX4_breakGlass wsX4_breakGlass) := goodIn_app (goodIn_of _ (by decide +kernel)) ggL_calls_X4_breakGlass
theorem dL_calls_0 : decode cL_calls 0 = .ok (.iload_n 1, 1) := by decide +kernel
theorem dL_calls_1 : decode cL_calls 1 = .ok (.ifCond .ne 31, 3) := by decide +kernel
theorem dL_calls_4 : decode cL_calls 4 = .ok (.aload_n 0, 1) := by decide +kernel
theorem dL_calls_5 : decode cL_calls 5 = .ok (.iload_n 2, 1) := by decide +kernel
theorem dL_calls_6 : decode cL_calls 6 = .ok (.iload_n 3, 1) := by decide +kernel
theorem dL_calls_7 : decode cL_calls 7 = .ok (.iload 4, 2) := by decide +kernel
theorem dL_calls_9 : decode cL_calls 9 = .ok (.iconst 1, 1) := by decide +kernel
theorem dL_calls_10 : decode cL_calls 10 = .ok (.if_icmp .ne 7, 3) := by decide +kernel
theorem dL_calls_13 : decode cL_calls 13 = .ok (.iconst 1, 1) := by decide +kernel
theorem dL_calls_14 : decode cL_calls 14 = .ok (.goto 4, 3) := by decide +kernel
theorem dL_calls_17 : decode cL_calls 17 = .ok (.iconst 0, 1) := by decide +kernel
theorem dL_calls_18 : decode cL_calls 18 = .ok (.invokevirtual 10, 3) := by decide +kernel
theorem dL_calls_21 : decode cL_calls 21 = .ok (.ifCond .eq 7, 3) := by decide +kernel
theorem dL_calls_24 : decode cL_calls 24 = .ok (.iconst 1, 1) := by decide +kernel
theorem dL_calls_25 : decode cL_calls 25 = .ok (.goto 43, 3) := by decide +kernel
theorem dL_calls_28 : decode cL_calls 28 = .ok (.iconst 0, 1) := by decide +kernel
theorem dL_calls_29 : decode cL_calls 29 = .ok (.goto 39, 3) := by decide +kernel
theorem dL_calls_32 : decode cL_calls 32 = .ok (.iload_n 1, 1) := by decide +kernel
theorem dL_calls_33 : decode cL_calls 33 = .ok (.iconst 1, 1) := by decide +kernel
theorem dL_calls_34 : decode cL_calls 34 = .ok (.if_icmp .ne 11, 3) := by decide +kernel
theorem dL_calls_37 : decode cL_calls 37 = .ok (.aload_n 0, 1) := by decide +kernel
theorem dL_calls_38 : decode cL_calls 38 = .ok (.iload_n 2, 1) := by decide +kernel
theorem dL_calls_39 : decode cL_calls 39 = .ok (.invokevirtual 16, 3) := by decide +kernel
theorem dL_calls_42 : decode cL_calls 42 = .ok (.goto 26, 3) := by decide +kernel
theorem dL_calls_45 : decode cL_calls 45 = .ok (.iload_n 1, 1) := by decide +kernel
theorem dL_calls_46 : decode cL_calls 46 = .ok (.iconst 2, 1) := by decide +kernel
theorem dL_calls_47 : decode cL_calls 47 = .ok (.if_icmp .ne 11, 3) := by decide +kernel
theorem dL_calls_50 : decode cL_calls 50 = .ok (.aload_n 0, 1) := by decide +kernel
theorem dL_calls_51 : decode cL_calls 51 = .ok (.iload_n 2, 1) := by decide +kernel
theorem dL_calls_52 : decode cL_calls 52 = .ok (.invokevirtual 20, 3) := by decide +kernel
theorem dL_calls_55 : decode cL_calls 55 = .ok (.goto 13, 3) := by decide +kernel
theorem dL_calls_58 : decode cL_calls 58 = .ok (.aload_n 0, 1) := by decide +kernel
theorem dL_calls_59 : decode cL_calls 59 = .ok (.iload_n 2, 1) := by decide +kernel
theorem dL_calls_60 : decode cL_calls 60 = .ok (.iload_n 3, 1) := by decide +kernel
theorem dL_calls_61 : decode cL_calls 61 = .ok (.iload 4, 2) := by decide +kernel
theorem dL_calls_63 : decode cL_calls 63 = .ok (.iload 5, 2) := by decide +kernel
theorem dL_calls_65 : decode cL_calls 65 = .ok (.invokevirtual 23, 3) := by decide +kernel
theorem dL_calls_68 : decode cL_calls 68 = .ok (.ireturn, 1) := by decide +kernel
theorem dL_calls_69 : decode cL_calls 69 = .ok (.astore 6, 2) := by decide +kernel
theorem dL_calls_71 : decode cL_calls 71 = .ok (.bipush (-2), 2) := by decide +kernel
theorem dL_calls_73 : decode cL_calls 73 = .ok (.ireturn, 1) := by decide +kernel
theorem dL_calls_74 : decode cL_calls 74 = .ok (.astore 6, 2) := by decide +kernel
theorem dL_calls_76 : decode cL_calls 76 = .ok (.bipush (-3), 2) := by decide +kernel
theorem dL_calls_78 : decode cL_calls 78 = .ok (.ireturn, 1) := by decide +kernel
theorem dL_isIn_0 : decode cL_isIn 0 = .ok (.iconst 1, 1) := by decide +kernel
theorem dL_isIn_1 : decode cL_isIn 1 = .ok (.iload_n 0, 1) := by decide +kernel
theorem dL_isIn_2 : decode cL_isIn 2 = .ok (.ishl, 1) := by decide +kernel
theorem dL_isIn_3 : decode cL_isIn 3 = .ok (.istore_n 3, 1) := by decide +kernel
theorem dL_isIn_4 : decode cL_isIn 4 = .ok (.iconst 0, 1) := by decide +kernel
theorem dL_isIn_5 : decode cL_isIn 5 = .ok (.istore 4, 2) := by decide +kernel
theorem dL_isIn_7 : decode cL_isIn 7 = .ok (.iconst 0, 1) := by decide +kernel
theorem dL_isIn_8 : decode cL_isIn 8 = .ok (.istore 5, 2) := by decide +kernel
theorem dL_isIn_10 : decode cL_isIn 10 = .ok (.iload 4, 2) := by decide +kernel
theorem dL_isIn_12 : decode cL_isIn 12 = .ok (.iload_n 3, 1) := by decide +kernel
theorem dL_isIn_13 : decode cL_isIn 13 = .ok (.if_icmp .eq 48, 3) := by decide +kernel
theorem dL_isIn_16 : decode cL_isIn 16 = .ok (.iload_n 3, 1) := by decide +kernel
theorem dL_isIn_17 : decode cL_isIn 17 = .ok (.istore 4, 2) := by decide +kernel
theorem dL_isIn_19 : decode cL_isIn 19 = .ok (.iconst 0, 1) := by decide +kernel
theorem dL_isIn_20 : decode cL_isIn 20 = .ok (.istore 6, 2) := by decide +kernel
theorem dL_isIn_22 : decode cL_isIn 22 = .ok (.iload 6, 2) := by decide +kernel
theorem dL_isIn_24 : decode cL_isIn 24 = .ok (.iconst 4, 1) := by decide +kernel
theorem dL_isIn_25 : decode cL_isIn 25 = .ok (.if_icmp .ge 33, 3) := by decide +kernel
theorem dL_isIn_28 : decode cL_isIn 28 = .ok (.iload_n 3, 1) := by decide +kernel
theorem dL_isIn_29 : decode cL_isIn 29 = .ok (.iload 4, 2) := by decide +kernel
theorem dL_isIn_31 : decode cL_isIn 31 = .ok (.iload 6, 2) := by decide +kernel
theorem dL_isIn_33 : decode cL_isIn 33 = .ok (.ishr, 1) := by decide +kernel
theorem dL_isIn_34 : decode cL_isIn 34 = .ok (.iconst 1, 1) := by decide +kernel
theorem dL_isIn_35 : decode cL_isIn 35 = .ok (.iand, 1) := by decide +kernel
theorem dL_isIn_36 : decode cL_isIn 36 = .ok (.iconst 1, 1) := by decide +kernel
theorem dL_isIn_37 : decode cL_isIn 37 = .ok (.if_icmp .ne 12, 3) := by decide +kernel
theorem dL_isIn_40 : decode cL_isIn 40 = .ok (.aload_n 2, 1) := by decide +kernel
theorem dL_isIn_41 : decode cL_isIn 41 = .ok (.iconst 4, 1) := by decide +kernel
theorem dL_isIn_42 : decode cL_isIn 42 = .ok (.iload 6, 2) := by decide +kernel
theorem dL_isIn_44 : decode cL_isIn 44 = .ok (.iadd, 1) := by decide +kernel
theorem dL_isIn_45 : decode cL_isIn 45 = .ok (.iaload, 1) := by decide +kernel
theorem dL_isIn_46 : decode cL_isIn 46 = .ok (.goto 4, 3) := by decide +kernel
theorem dL_isIn_49 : decode cL_isIn 49 = .ok (.iconst 0, 1) := by decide +kernel
theorem dL_isIn_50 : decode cL_isIn 50 = .ok (.ior, 1) := by decide +kernel
theorem dL_isIn_51 : decode cL_isIn 51 = .ok (.istore_n 3, 1) := by decide +kernel
theorem dL_isIn_52 : decode cL_isIn 52 = .ok (.iinc 6 1, 3) := by decide +kernel
theorem dL_isIn_55 : decode cL_isIn 55 = .ok (.goto (-33), 3) := by decide +kernel
theorem dL_isIn_58 : decode cL_isIn 58 = .ok (.goto (-48), 3) := by decide +kernel
theorem dL_isIn_61 : decode cL_isIn 61 = .ok (.iconst 0, 1) := by decide +kernel
theorem dL_isIn_62 : decode cL_isIn 62 = .ok (.istore 6, 2) := by decide +kernel
theorem dL_isIn_64 : decode cL_isIn 64 = .ok (.iload 6, 2) := by decide +kernel
theorem dL_isIn_66 : decode cL_isIn 66 = .ok (.iconst 4, 1) := by decide +kernel
theorem dL_isIn_67 : decode cL_isIn 67 = .ok (.if_icmp .ge 43, 3) := by decide +kernel
theorem dL_isIn_70 : decode cL_isIn 70 = .ok (.iload 5, 2) := by decide +kernel
theorem dL_isIn_72 : decode cL_isIn 72 = .ok (.ifCond .ne 25, 3) := by decide +kernel
theorem dL_isIn_75 : decode cL_isIn 75 = .ok (.iload_n 3, 1) := by decide +kernel
theorem dL_isIn_76 : decode cL_isIn 76 = .ok (.iload 6, 2) := by decide +kernel
theorem dL_isIn_78 : decode cL_isIn 78 = .ok (.ishr, 1) := by decide +kernel
theorem dL_isIn_79 : decode cL_isIn 79 = .ok (.iconst 1, 1) := by decide +kernel
theorem dL_isIn_80 : decode cL_isIn 80 = .ok (.iand, 1) := by decide +kernel
theorem dL_isIn_81 : decode cL_isIn 81 = .ok (.iconst 1, 1) := by decide +kernel
theorem dL_isIn_82 : decode cL_isIn 82 = .ok (.if_icmp .ne 19, 3) := by decide +kernel
theorem dL_isIn_85 : decode cL_isIn 85 = .ok (.aload_n 2, 1) := by decide +kernel
theorem dL_isIn_86 : decode cL_isIn 86 = .ok (.iload 6, 2) := by decide +kernel
theorem dL_isIn_88 : decode cL_isIn 88 = .ok (.iaload, 1) := by decide +kernel
theorem dL_isIn_89 : decode cL_isIn 89 = .ok (.iload_n 1, 1) := by decide +kernel
theorem dL_isIn_90 : decode cL_isIn 90 = .ok (.ishr, 1) := by decide +kernel
theorem dL_isIn_91 : decode cL_isIn 91 = .ok (.iconst 1, 1) := by decide +kernel
theorem dL_isIn_92 : decode cL_isIn 92 = .ok (.iand, 1) := by decide +kernel
theorem dL_isIn_93 : decode cL_isIn 93 = .ok (.iconst 1, 1) := by decide +kernel
theorem dL_isIn_94 : decode cL_isIn 94 = .ok (.if_icmp .ne 7, 3) := by decide +kernel
theorem dL_isIn_97 : decode cL_isIn 97 = .ok (.iconst 1, 1) := by decide +kernel
theorem dL_isIn_98 : decode cL_isIn 98 = .ok (.goto 4, 3) := by decide +kernel
theorem dL_isIn_101 : decode cL_isIn 101 = .ok (.iconst 0, 1) := by decide +kernel
theorem dL_isIn_102 : decode cL_isIn 102 = .ok (.istore 5, 2) := by decide +kernel
theorem dL_isIn_104 : decode cL_isIn 104 = .ok (.iinc 6 1, 3) := by decide +kernel
theorem dL_isIn_107 : decode cL_isIn 107 = .ok (.goto (-43), 3) := by decide +kernel
theorem dL_isIn_110 : decode cL_isIn 110 = .ok (.iload 5, 2) := by decide +kernel
theorem dL_isIn_112 : decode cL_isIn 112 = .ok (.ireturn, 1) := by decide +kernel
set_option maxRecDepth 20000 in
theorem ggL_allows_L_isIn : GoodIn wsL_allows wsL_isIn := goodIn_r _ [4] (by decide +kernel) (by decide +kernel)
set_option maxRecDepth 20000 in
theorem gL_allows_L_isIn : GoodIn wsL_allows (va_wsS RL 31 yL_isIn wsL_isIn) := goodIn_app (goodIn_of _ (by decide +kernel)) ggL_allows_L_isIn
theorem dL_allows_0 : decode cL_allows 0 = .ok (.iconst 0, 1) := by decide +kernel
theorem dL_allows_1 : decode cL_allows 1 = .ok (.istore 7, 2) := by decide +kernel
theorem dL_allows_3 : decode cL_allows 3 = .ok (.iconst 0, 1) := by decide +kernel
theorem dL_allows_4 : decode cL_allows 4 = .ok (.istore 8, 2) := by decide +kernel
theorem dL_allows_6 : decode cL_allows 6 = .ok (.iconst 0, 1) := by decide +kernel
theorem dL_allows_7 : decode cL_allows 7 = .ok (.istore 9, 2) := by decide +kernel
theorem dL_allows_9 : decode cL_allows 9 = .ok (.iload 9, 2) := by decide +kernel
theorem dL_allows_11 : decode cL_allows 11 = .ok (.iconst 4, 1) := by decide +kernel
theorem dL_allows_12 : decode cL_allows 12 = .ok (.if_icmp .ge 65, 3) := by decide +kernel
theorem dL_allows_15 : decode cL_allows 15 = .ok (.iload 9, 2) := by decide +kernel
theorem dL_allows_17 : decode cL_allows 17 = .ok (.iload_n 0, 1) := by decide +kernel
theorem dL_allows_18 : decode cL_allows 18 = .ok (.aload_n 2, 1) := by decide +kernel
theorem dL_allows_19 : decode cL_allows 19 = .ok (.invokestatic 31, 3) := by decide +kernel
theorem dL_allows_22 : decode cL_allows 22 = .ok (.ifCond .eq 14, 3) := by decide +kernel
theorem dL_allows_25 : decode cL_allows 25 = .ok (.aload_n 3, 1) := by decide +kernel
theorem dL_allows_26 : decode cL_allows 26 = .ok (.iconst 3, 1) := by decide +kernel
theorem dL_allows_27 : decode cL_allows 27 = .ok (.iload 9, 2) := by decide +kernel
theorem dL_allows_29 : decode cL_allows 29 = .ok (.imul, 1) := by decide +kernel
theorem dL_allows_30 : decode cL_allows 30 = .ok (.iload_n 1, 1) := by decide +kernel
theorem dL_allows_31 : decode cL_allows 31 = .ok (.iadd, 1) := by decide +kernel
theorem dL_allows_32 : decode cL_allows 32 = .ok (.iaload, 1) := by decide +kernel
theorem dL_allows_33 : decode cL_allows 33 = .ok (.goto 4, 3) := by decide +kernel
theorem dL_allows_36 : decode cL_allows 36 = .ok (.iconst 0, 1) := by decide +kernel
theorem dL_allows_37 : decode cL_allows 37 = .ok (.istore 10, 2) := by decide +kernel
theorem dL_allows_39 : decode cL_allows 39 = .ok (.iload 7, 2) := by decide +kernel
theorem dL_allows_41 : decode cL_allows 41 = .ok (.iload 10, 2) := by decide +kernel
theorem dL_allows_43 : decode cL_allows 43 = .ok (.iconst 1, 1) := by decide +kernel
theorem dL_allows_44 : decode cL_allows 44 = .ok (.if_icmp .ne 7, 3) := by decide +kernel
theorem dL_allows_47 : decode cL_allows 47 = .ok (.iconst 1, 1) := by decide +kernel
theorem dL_allows_48 : decode cL_allows 48 = .ok (.goto 4, 3) := by decide +kernel
theorem dL_allows_51 : decode cL_allows 51 = .ok (.iconst 0, 1) := by decide +kernel
theorem dL_allows_52 : decode cL_allows 52 = .ok (.iadd, 1) := by decide +kernel
theorem dL_allows_53 : decode cL_allows 53 = .ok (.istore 7, 2) := by decide +kernel
theorem dL_allows_55 : decode cL_allows 55 = .ok (.iload 8, 2) := by decide +kernel
theorem dL_allows_57 : decode cL_allows 57 = .ok (.iload 10, 2) := by decide +kernel
theorem dL_allows_59 : decode cL_allows 59 = .ok (.iconst 2, 1) := by decide +kernel
theorem dL_allows_60 : decode cL_allows 60 = .ok (.if_icmp .ne 7, 3) := by decide +kernel
theorem dL_allows_63 : decode cL_allows 63 = .ok (.iconst 1, 1) := by decide +kernel
theorem dL_allows_64 : decode cL_allows 64 = .ok (.goto 4, 3) := by decide +kernel
theorem dL_allows_67 : decode cL_allows 67 = .ok (.iconst 0, 1) := by decide +kernel
theorem dL_allows_68 : decode cL_allows 68 = .ok (.iadd, 1) := by decide +kernel
theorem dL_allows_69 : decode cL_allows 69 = .ok (.istore 8, 2) := by decide +kernel
theorem dL_allows_71 : decode cL_allows 71 = .ok (.iinc 9 1, 3) := by decide +kernel
theorem dL_allows_74 : decode cL_allows 74 = .ok (.goto (-65), 3) := by decide +kernel
theorem dL_allows_77 : decode cL_allows 77 = .ok (.aload 4, 2) := by decide +kernel
theorem dL_allows_79 : decode cL_allows 79 = .ok (.iload_n 0, 1) := by decide +kernel
theorem dL_allows_80 : decode cL_allows 80 = .ok (.iaload, 1) := by decide +kernel
theorem dL_allows_81 : decode cL_allows 81 = .ok (.iconst 3, 1) := by decide +kernel
theorem dL_allows_82 : decode cL_allows 82 = .ok (.if_icmp .eq 32, 3) := by decide +kernel
theorem dL_allows_85 : decode cL_allows 85 = .ok (.iload 7, 2) := by decide +kernel
theorem dL_allows_87 : decode cL_allows 87 = .ok (.ifCond .le 8, 3) := by decide +kernel
theorem dL_allows_90 : decode cL_allows 90 = .ok (.iload 8, 2) := by decide +kernel
theorem dL_allows_92 : decode cL_allows 92 = .ok (.ifCond .eq 18, 3) := by decide +kernel
theorem dL_allows_95 : decode cL_allows 95 = .ok (.aload 6, 2) := by decide +kernel
theorem dL_allows_97 : decode cL_allows 97 = .ok (.iconst 0, 1) := by decide +kernel
theorem dL_allows_98 : decode cL_allows 98 = .ok (.iaload, 1) := by decide +kernel
theorem dL_allows_99 : decode cL_allows 99 = .ok (.aload 5, 2) := by decide +kernel
theorem dL_allows_101 : decode cL_allows 101 = .ok (.iconst 3, 1) := by decide +kernel
theorem dL_allows_102 : decode cL_allows 102 = .ok (.iload_n 0, 1) := by decide +kernel
theorem dL_allows_103 : decode cL_allows 103 = .ok (.imul, 1) := by decide +kernel
theorem dL_allows_104 : decode cL_allows 104 = .ok (.iload_n 1, 1) := by decide +kernel
theorem dL_allows_105 : decode cL_allows 105 = .ok (.iadd, 1) := by decide +kernel
theorem dL_allows_106 : decode cL_allows 106 = .ok (.iaload, 1) := by decide +kernel
theorem dL_allows_107 : decode cL_allows 107 = .ok (.if_icmp .ge 7, 3) := by decide +kernel
theorem dL_allows_110 : decode cL_allows 110 = .ok (.iconst 1, 1) := by decide +kernel
theorem dL_allows_111 : decode cL_allows 111 = .ok (.goto 4, 3) := by decide +kernel
theorem dL_allows_114 : decode cL_allows 114 = .ok (.iconst 0, 1) := by decide +kernel
theorem dL_allows_115 : decode cL_allows 115 = .ok (.ireturn, 1) := by decide +kernel
set_option maxRecDepth 20000 in
theorem ggL_serves_L_isIn : GoodIn wsL_serves wsL_isIn := goodIn_r _ [4] (by decide +kernel) (by decide +kernel)
set_option maxRecDepth 20000 in
theorem gL_serves_L_isIn : GoodIn wsL_serves (va_wsS RL 31 yL_isIn wsL_isIn) := goodIn_app (goodIn_of _ (by decide +kernel)) ggL_serves_L_isIn
theorem dL_serves_0 : decode cL_serves 0 = .ok (.iconst 0, 1) := by decide +kernel
theorem dL_serves_1 : decode cL_serves 1 = .ok (.istore 5, 2) := by decide +kernel
theorem dL_serves_3 : decode cL_serves 3 = .ok (.iconst 0, 1) := by decide +kernel
theorem dL_serves_4 : decode cL_serves 4 = .ok (.istore 6, 2) := by decide +kernel
theorem dL_serves_6 : decode cL_serves 6 = .ok (.iload 6, 2) := by decide +kernel
theorem dL_serves_8 : decode cL_serves 8 = .ok (.iconst 4, 1) := by decide +kernel
theorem dL_serves_9 : decode cL_serves 9 = .ok (.if_icmp .ge 43, 3) := by decide +kernel
theorem dL_serves_12 : decode cL_serves 12 = .ok (.iload 5, 2) := by decide +kernel
theorem dL_serves_14 : decode cL_serves 14 = .ok (.ifCond .ne 25, 3) := by decide +kernel
theorem dL_serves_17 : decode cL_serves 17 = .ok (.aload_n 3, 1) := by decide +kernel
theorem dL_serves_18 : decode cL_serves 18 = .ok (.iconst 3, 1) := by decide +kernel
theorem dL_serves_19 : decode cL_serves 19 = .ok (.iload 6, 2) := by decide +kernel
theorem dL_serves_21 : decode cL_serves 21 = .ok (.imul, 1) := by decide +kernel
theorem dL_serves_22 : decode cL_serves 22 = .ok (.iload_n 1, 1) := by decide +kernel
theorem dL_serves_23 : decode cL_serves 23 = .ok (.iadd, 1) := by decide +kernel
theorem dL_serves_24 : decode cL_serves 24 = .ok (.iaload, 1) := by decide +kernel
theorem dL_serves_25 : decode cL_serves 25 = .ok (.iconst 1, 1) := by decide +kernel
theorem dL_serves_26 : decode cL_serves 26 = .ok (.if_icmp .ne 17, 3) := by decide +kernel
theorem dL_serves_29 : decode cL_serves 29 = .ok (.iload 6, 2) := by decide +kernel
theorem dL_serves_31 : decode cL_serves 31 = .ok (.iload_n 0, 1) := by decide +kernel
theorem dL_serves_32 : decode cL_serves 32 = .ok (.aload_n 2, 1) := by decide +kernel
theorem dL_serves_33 : decode cL_serves 33 = .ok (.invokestatic 31, 3) := by decide +kernel
theorem dL_serves_36 : decode cL_serves 36 = .ok (.ifCond .eq 7, 3) := by decide +kernel
theorem dL_serves_39 : decode cL_serves 39 = .ok (.iconst 1, 1) := by decide +kernel
theorem dL_serves_40 : decode cL_serves 40 = .ok (.goto 4, 3) := by decide +kernel
theorem dL_serves_43 : decode cL_serves 43 = .ok (.iconst 0, 1) := by decide +kernel
theorem dL_serves_44 : decode cL_serves 44 = .ok (.istore 5, 2) := by decide +kernel
theorem dL_serves_46 : decode cL_serves 46 = .ok (.iinc 6 1, 3) := by decide +kernel
theorem dL_serves_49 : decode cL_serves 49 = .ok (.goto (-43), 3) := by decide +kernel
theorem dL_serves_52 : decode cL_serves 52 = .ok (.iload 5, 2) := by decide +kernel
theorem dL_serves_54 : decode cL_serves 54 = .ok (.ifCond .eq 15, 3) := by decide +kernel
theorem dL_serves_57 : decode cL_serves 57 = .ok (.aload 4, 2) := by decide +kernel
theorem dL_serves_59 : decode cL_serves 59 = .ok (.iload_n 0, 1) := by decide +kernel
theorem dL_serves_60 : decode cL_serves 60 = .ok (.iaload, 1) := by decide +kernel
theorem dL_serves_61 : decode cL_serves 61 = .ok (.iconst 3, 1) := by decide +kernel
theorem dL_serves_62 : decode cL_serves 62 = .ok (.if_icmp .ge 7, 3) := by decide +kernel
theorem dL_serves_65 : decode cL_serves 65 = .ok (.iconst 1, 1) := by decide +kernel
theorem dL_serves_66 : decode cL_serves 66 = .ok (.goto 4, 3) := by decide +kernel
theorem dL_serves_69 : decode cL_serves 69 = .ok (.iconst 0, 1) := by decide +kernel
theorem dL_serves_70 : decode cL_serves 70 = .ok (.ireturn, 1) := by decide +kernel
theorem dL_isKey_0 : decode cL_isKey 0 = .ok (.iload_n 0, 1) := by decide +kernel
theorem dL_isKey_1 : decode cL_isKey 1 = .ok (.aload_n 1, 1) := by decide +kernel
theorem dL_isKey_2 : decode cL_isKey 2 = .ok (.iconst 2, 1) := by decide +kernel
theorem dL_isKey_3 : decode cL_isKey 3 = .ok (.iaload, 1) := by decide +kernel
theorem dL_isKey_4 : decode cL_isKey 4 = .ok (.if_icmp .eq 21, 3) := by decide +kernel
theorem dL_isKey_7 : decode cL_isKey 7 = .ok (.iload_n 0, 1) := by decide +kernel
theorem dL_isKey_8 : decode cL_isKey 8 = .ok (.iconst 1, 1) := by decide +kernel
theorem dL_isKey_9 : decode cL_isKey 9 = .ok (.iadd, 1) := by decide +kernel
theorem dL_isKey_10 : decode cL_isKey 10 = .ok (.aload_n 1, 1) := by decide +kernel
theorem dL_isKey_11 : decode cL_isKey 11 = .ok (.iconst 2, 1) := by decide +kernel
theorem dL_isKey_12 : decode cL_isKey 12 = .ok (.iaload, 1) := by decide +kernel
theorem dL_isKey_13 : decode cL_isKey 13 = .ok (.if_icmp .ne 16, 3) := by decide +kernel
theorem dL_isKey_16 : decode cL_isKey 16 = .ok (.aload_n 1, 1) := by decide +kernel
theorem dL_isKey_17 : decode cL_isKey 17 = .ok (.iconst 3, 1) := by decide +kernel
theorem dL_isKey_18 : decode cL_isKey 18 = .ok (.iaload, 1) := by decide +kernel
theorem dL_isKey_19 : decode cL_isKey 19 = .ok (.aload_n 1, 1) := by decide +kernel
theorem dL_isKey_20 : decode cL_isKey 20 = .ok (.iconst 0, 1) := by decide +kernel
theorem dL_isKey_21 : decode cL_isKey 21 = .ok (.iaload, 1) := by decide +kernel
theorem dL_isKey_22 : decode cL_isKey 22 = .ok (.if_icmp .le 7, 3) := by decide +kernel
theorem dL_isKey_25 : decode cL_isKey 25 = .ok (.iconst 1, 1) := by decide +kernel
theorem dL_isKey_26 : decode cL_isKey 26 = .ok (.goto 4, 3) := by decide +kernel
theorem dL_isKey_29 : decode cL_isKey 29 = .ok (.iconst 0, 1) := by decide +kernel
theorem dL_isKey_30 : decode cL_isKey 30 = .ok (.ireturn, 1) := by decide +kernel
set_option maxRecDepth 20000 in
theorem ggL_sweep_L_isKey : GoodIn wsL_sweep wsL_isKey := goodIn_r _ [4] (by decide +kernel) (by decide +kernel)
set_option maxRecDepth 20000 in
theorem gL_sweep_L_isKey : GoodIn wsL_sweep (va_wsS RL 37 yL_isKey wsL_isKey) := goodIn_app (goodIn_of _ (by decide +kernel)) ggL_sweep_L_isKey
theorem dL_sweep_0 : decode cL_sweep 0 = .ok (.iconst 0, 1) := by decide +kernel
theorem dL_sweep_1 : decode cL_sweep 1 = .ok (.istore_n 3, 1) := by decide +kernel
theorem dL_sweep_2 : decode cL_sweep 2 = .ok (.iconst 0, 1) := by decide +kernel
theorem dL_sweep_3 : decode cL_sweep 3 = .ok (.istore 4, 2) := by decide +kernel
theorem dL_sweep_5 : decode cL_sweep 5 = .ok (.iload 4, 2) := by decide +kernel
theorem dL_sweep_7 : decode cL_sweep 7 = .ok (.aload_n 2, 1) := by decide +kernel
theorem dL_sweep_8 : decode cL_sweep 8 = .ok (.iconst 1, 1) := by decide +kernel
theorem dL_sweep_9 : decode cL_sweep 9 = .ok (.iaload, 1) := by decide +kernel
theorem dL_sweep_10 : decode cL_sweep 10 = .ok (.if_icmp .ge 136, 3) := by decide +kernel
theorem dL_sweep_13 : decode cL_sweep 13 = .ok (.iconst 5, 1) := by decide +kernel
theorem dL_sweep_14 : decode cL_sweep 14 = .ok (.iload 4, 2) := by decide +kernel
theorem dL_sweep_16 : decode cL_sweep 16 = .ok (.imul, 1) := by decide +kernel
theorem dL_sweep_17 : decode cL_sweep 17 = .ok (.istore 5, 2) := by decide +kernel
theorem dL_sweep_19 : decode cL_sweep 19 = .ok (.aload_n 0, 1) := by decide +kernel
theorem dL_sweep_20 : decode cL_sweep 20 = .ok (.iload 5, 2) := by decide +kernel
theorem dL_sweep_22 : decode cL_sweep 22 = .ok (.iconst 2, 1) := by decide +kernel
theorem dL_sweep_23 : decode cL_sweep 23 = .ok (.iadd, 1) := by decide +kernel
theorem dL_sweep_24 : decode cL_sweep 24 = .ok (.iaload, 1) := by decide +kernel
theorem dL_sweep_25 : decode cL_sweep 25 = .ok (.bipush 60, 2) := by decide +kernel
theorem dL_sweep_27 : decode cL_sweep 27 = .ok (.iconst 4, 1) := by decide +kernel
theorem dL_sweep_28 : decode cL_sweep 28 = .ok (.aload_n 1, 1) := by decide +kernel
theorem dL_sweep_29 : decode cL_sweep 29 = .ok (.aload_n 0, 1) := by decide +kernel
theorem dL_sweep_30 : decode cL_sweep 30 = .ok (.iload 5, 2) := by decide +kernel
theorem dL_sweep_32 : decode cL_sweep 32 = .ok (.iaload, 1) := by decide +kernel
theorem dL_sweep_33 : decode cL_sweep 33 = .ok (.iaload, 1) := by decide +kernel
theorem dL_sweep_34 : decode cL_sweep 34 = .ok (.isub, 1) := by decide +kernel
theorem dL_sweep_35 : decode cL_sweep 35 = .ok (.imul, 1) := by decide +kernel
theorem dL_sweep_36 : decode cL_sweep 36 = .ok (.iadd, 1) := by decide +kernel
theorem dL_sweep_37 : decode cL_sweep 37 = .ok (.istore 6, 2) := by decide +kernel
theorem dL_sweep_39 : decode cL_sweep 39 = .ok (.aload_n 0, 1) := by decide +kernel
theorem dL_sweep_40 : decode cL_sweep 40 = .ok (.iload 5, 2) := by decide +kernel
theorem dL_sweep_42 : decode cL_sweep 42 = .ok (.iconst 3, 1) := by decide +kernel
theorem dL_sweep_43 : decode cL_sweep 43 = .ok (.iadd, 1) := by decide +kernel
theorem dL_sweep_44 : decode cL_sweep 44 = .ok (.iaload, 1) := by decide +kernel
theorem dL_sweep_45 : decode cL_sweep 45 = .ok (.bipush 30, 2) := by decide +kernel
theorem dL_sweep_47 : decode cL_sweep 47 = .ok (.iadd, 1) := by decide +kernel
theorem dL_sweep_48 : decode cL_sweep 48 = .ok (.iload 6, 2) := by decide +kernel
theorem dL_sweep_50 : decode cL_sweep 50 = .ok (.if_icmp .ge 15, 3) := by decide +kernel
theorem dL_sweep_53 : decode cL_sweep 53 = .ok (.aload_n 0, 1) := by decide +kernel
theorem dL_sweep_54 : decode cL_sweep 54 = .ok (.iload 5, 2) := by decide +kernel
theorem dL_sweep_56 : decode cL_sweep 56 = .ok (.iconst 3, 1) := by decide +kernel
theorem dL_sweep_57 : decode cL_sweep 57 = .ok (.iadd, 1) := by decide +kernel
theorem dL_sweep_58 : decode cL_sweep 58 = .ok (.iaload, 1) := by decide +kernel
theorem dL_sweep_59 : decode cL_sweep 59 = .ok (.bipush 30, 2) := by decide +kernel
theorem dL_sweep_61 : decode cL_sweep 61 = .ok (.iadd, 1) := by decide +kernel
theorem dL_sweep_62 : decode cL_sweep 62 = .ok (.goto 5, 3) := by decide +kernel
theorem dL_sweep_65 : decode cL_sweep 65 = .ok (.iload 6, 2) := by decide +kernel
theorem dL_sweep_67 : decode cL_sweep 67 = .ok (.istore 6, 2) := by decide +kernel
theorem dL_sweep_69 : decode cL_sweep 69 = .ok (.aload_n 0, 1) := by decide +kernel
theorem dL_sweep_70 : decode cL_sweep 70 = .ok (.iload 5, 2) := by decide +kernel
theorem dL_sweep_72 : decode cL_sweep 72 = .ok (.iconst 4, 1) := by decide +kernel
theorem dL_sweep_73 : decode cL_sweep 73 = .ok (.iadd, 1) := by decide +kernel
theorem dL_sweep_74 : decode cL_sweep 74 = .ok (.iaload, 1) := by decide +kernel
theorem dL_sweep_75 : decode cL_sweep 75 = .ok (.ifCond .ne 28, 3) := by decide +kernel
theorem dL_sweep_78 : decode cL_sweep 78 = .ok (.iload 6, 2) := by decide +kernel
theorem dL_sweep_80 : decode cL_sweep 80 = .ok (.aload_n 2, 1) := by decide +kernel
theorem dL_sweep_81 : decode cL_sweep 81 = .ok (.iconst 0, 1) := by decide +kernel
theorem dL_sweep_82 : decode cL_sweep 82 = .ok (.iaload, 1) := by decide +kernel
theorem dL_sweep_83 : decode cL_sweep 83 = .ok (.if_icmp .le 16, 3) := by decide +kernel
theorem dL_sweep_86 : decode cL_sweep 86 = .ok (.aload_n 0, 1) := by decide +kernel
theorem dL_sweep_87 : decode cL_sweep 87 = .ok (.iload 5, 2) := by decide +kernel
theorem dL_sweep_89 : decode cL_sweep 89 = .ok (.iconst 1, 1) := by decide +kernel
theorem dL_sweep_90 : decode cL_sweep 90 = .ok (.iadd, 1) := by decide +kernel
theorem dL_sweep_91 : decode cL_sweep 91 = .ok (.iaload, 1) := by decide +kernel
theorem dL_sweep_92 : decode cL_sweep 92 = .ok (.aload_n 2, 1) := by decide +kernel
theorem dL_sweep_93 : decode cL_sweep 93 = .ok (.invokestatic 37, 3) := by decide +kernel
theorem dL_sweep_96 : decode cL_sweep 96 = .ok (.ifCond .ne 7, 3) := by decide +kernel
theorem dL_sweep_99 : decode cL_sweep 99 = .ok (.iconst 1, 1) := by decide +kernel
theorem dL_sweep_100 : decode cL_sweep 100 = .ok (.goto 4, 3) := by decide +kernel
theorem dL_sweep_103 : decode cL_sweep 103 = .ok (.iconst 0, 1) := by decide +kernel
theorem dL_sweep_104 : decode cL_sweep 104 = .ok (.istore 7, 2) := by decide +kernel
theorem dL_sweep_106 : decode cL_sweep 106 = .ok (.aload_n 0, 1) := by decide +kernel
