theorem dX4_decide_0 : decode cX4_decide 0 = .ok (.iload_n 1, 1) := by decide +kernel
theorem dX4_decide_1 : decode cX4_decide 1 = .ok (.iconst 4, 1) := by decide +kernel
theorem dX4_decide_2 : decode cX4_decide 2 = .ok (.invokestatic 48, 3) := by decide +kernel
theorem dX4_decide_5 : decode cX4_decide 5 = .ok (.ifCond .ne 12, 3) := by decide +kernel
theorem dX4_decide_8 : decode cX4_decide 8 = .ok (.iload_n 3, 1) := by decide +kernel
theorem dX4_decide_9 : decode cX4_decide 9 = .ok (.bipush 6, 2) := by decide +kernel
theorem dX4_decide_11 : decode cX4_decide 11 = .ok (.invokestatic 48, 3) := by decide +kernel
theorem dX4_decide_14 : decode cX4_decide 14 = .ok (.ifCond .eq 13, 3) := by decide +kernel
theorem dX4_decide_17 : decode cX4_decide 17 = .ok (.new 52, 3) := by decide +kernel
theorem dX4_decide_20 : decode cX4_decide 20 = .ok (.dup, 1) := by decide +kernel
theorem dX4_decide_21 : decode cX4_decide 21 = .ok (.ldc 180, 2) := by decide +kernel
theorem dX4_decide_23 : decode cX4_decide 23 = .ok (.invokespecial 56, 3) := by decide +kernel
theorem dX4_decide_26 : decode cX4_decide 26 = .ok (.athrow, 1) := by decide +kernel
theorem dX4_decide_27 : decode cX4_decide 27 = .ok (.aload_n 0, 1) := by decide +kernel
theorem dX4_decide_28 : decode cX4_decide 28 = .ok (.getfield 19, 3) := by decide +kernel
theorem dX4_decide_31 : decode cX4_decide 31 = .ok (.iload_n 2, 1) := by decide +kernel
theorem dX4_decide_32 : decode cX4_decide 32 = .ok (.invokevirtual 122, 3) := by decide +kernel
theorem dX4_decide_35 : decode cX4_decide 35 = .ok (.ifCond .ne 13, 3) := by decide +kernel
theorem dX4_decide_38 : decode cX4_decide 38 = .ok (.new 125, 3) := by decide +kernel
theorem dX4_decide_41 : decode cX4_decide 41 = .ok (.dup, 1) := by decide +kernel
theorem dX4_decide_42 : decode cX4_decide 42 = .ok (.ldc 127, 2) := by decide +kernel
theorem dX4_decide_44 : decode cX4_decide 44 = .ok (.invokespecial 129, 3) := by decide +kernel
theorem dX4_decide_47 : decode cX4_decide 47 = .ok (.athrow, 1) := by decide +kernel
theorem dX4_decide_48 : decode cX4_decide 48 = .ok (.aload_n 0, 1) := by decide +kernel
theorem dX4_decide_49 : decode cX4_decide 49 = .ok (.getfield 19, 3) := by decide +kernel
theorem dX4_decide_52 : decode cX4_decide 52 = .ok (.iload_n 2, 1) := by decide +kernel
theorem dX4_decide_53 : decode cX4_decide 53 = .ok (.invokevirtual 130, 3) := by decide +kernel
theorem dX4_decide_56 : decode cX4_decide 56 = .ok (.ifCond .eq 5, 3) := by decide +kernel
theorem dX4_decide_59 : decode cX4_decide 59 = .ok (.iconst 2, 1) := by decide +kernel
theorem dX4_decide_60 : decode cX4_decide 60 = .ok (.ireturn, 1) := by decide +kernel
theorem dX4_decide_61 : decode cX4_decide 61 = .ok (.aload_n 0, 1) := by decide +kernel
theorem dX4_decide_62 : decode cX4_decide 62 = .ok (.getfield 19, 3) := by decide +kernel
theorem dX4_decide_65 : decode cX4_decide 65 = .ok (.iload_n 2, 1) := by decide +kernel
theorem dX4_decide_66 : decode cX4_decide 66 = .ok (.aload_n 0, 1) := by decide +kernel
theorem dX4_decide_67 : decode cX4_decide 67 = .ok (.getfield 44, 3) := by decide +kernel
theorem dX4_decide_70 : decode cX4_decide 70 = .ok (.invokevirtual 182, 3) := by decide +kernel
theorem dX4_decide_73 : decode cX4_decide 73 = .ok (.aload_n 0, 1) := by decide +kernel
theorem dX4_decide_74 : decode cX4_decide 74 = .ok (.iload_n 1, 1) := by decide +kernel
theorem dX4_decide_75 : decode cX4_decide 75 = .ok (.aload_n 0, 1) := by decide +kernel
theorem dX4_decide_76 : decode cX4_decide 76 = .ok (.getfield 19, 3) := by decide +kernel
theorem dX4_decide_79 : decode cX4_decide 79 = .ok (.iload_n 2, 1) := by decide +kernel
theorem dX4_decide_80 : decode cX4_decide 80 = .ok (.invokevirtual 185, 3) := by decide +kernel
theorem dX4_decide_83 : decode cX4_decide 83 = .ok (.iload_n 3, 1) := by decide +kernel
theorem dX4_decide_84 : decode cX4_decide 84 = .ok (.invokevirtual 188, 3) := by decide +kernel
theorem dX4_decide_87 : decode cX4_decide 87 = .ok (.ireturn, 1) := by decide +kernel
set_option maxRecDepth 20000 in
theorem ggX4_forget_X4_isOutside : GoodIn wsX4_forget wsX4_isOutside := goodIn_r _ [7] (by decide +kernel) (by decide +kernel)
set_option maxRecDepth 20000 in
theorem gX4_forget_X4_isOutside : GoodIn wsX4_forget (va_wsS RX4 48 yX4_isOutside wsX4_isOutside) := goodIn_app (goodIn_of _ (by decide +kernel)) ggX4_forget_X4_isOutside
set_option maxRecDepth 20000 in
theorem ggX4_forget_X0_dropAllOf : GoodIn wsX4_forget wsX0_dropAllOf := goodIn_r _ [12, 13, 14, 15, 16, 11, 17, 18, 19, 20, 28, 29, 30] (by decide +kernel) (by decide +kernel)
set_option maxRecDepth 20000 in
theorem gX4_forget_X0_dropAllOf : GoodIn wsX4_forget (wsV RX4 193 RX0 yX0_dropAllOf wsX0_dropAllOf) := goodIn_app (goodIn_of _ (by decide +kernel)) ggX4_forget_X0_dropAllOf
theorem dX4_forget_0 : decode cX4_forget 0 = .ok (.iload_n 1, 1) := by decide +kernel
theorem dX4_forget_1 : decode cX4_forget 1 = .ok (.iconst 4, 1) := by decide +kernel
theorem dX4_forget_2 : decode cX4_forget 2 = .ok (.invokestatic 48, 3) := by decide +kernel
theorem dX4_forget_5 : decode cX4_forget 5 = .ok (.ifCond .ne 12, 3) := by decide +kernel
theorem dX4_forget_8 : decode cX4_forget 8 = .ok (.iload_n 2, 1) := by decide +kernel
theorem dX4_forget_9 : decode cX4_forget 9 = .ok (.bipush 10, 2) := by decide +kernel
theorem dX4_forget_11 : decode cX4_forget 11 = .ok (.invokestatic 48, 3) := by decide +kernel
theorem dX4_forget_14 : decode cX4_forget 14 = .ok (.ifCond .eq 13, 3) := by decide +kernel
theorem dX4_forget_17 : decode cX4_forget 17 = .ok (.new 52, 3) := by decide +kernel
theorem dX4_forget_20 : decode cX4_forget 20 = .ok (.dup, 1) := by decide +kernel
theorem dX4_forget_21 : decode cX4_forget 21 = .ok (.ldc 191, 2) := by decide +kernel
theorem dX4_forget_23 : decode cX4_forget 23 = .ok (.invokespecial 56, 3) := by decide +kernel
theorem dX4_forget_26 : decode cX4_forget 26 = .ok (.athrow, 1) := by decide +kernel
theorem dX4_forget_27 : decode cX4_forget 27 = .ok (.aload_n 0, 1) := by decide +kernel
theorem dX4_forget_28 : decode cX4_forget 28 = .ok (.getfield 33, 3) := by decide +kernel
theorem dX4_forget_31 : decode cX4_forget 31 = .ok (.iload_n 1, 1) := by decide +kernel
theorem dX4_forget_32 : decode cX4_forget 32 = .ok (.iload_n 2, 1) := by decide +kernel
theorem dX4_forget_33 : decode cX4_forget 33 = .ok (.invokevirtual 193, 3) := by decide +kernel
theorem dX4_forget_36 : decode cX4_forget 36 = .ok (.ireturn, 1) := by decide +kernel
set_option maxRecDepth 20000 in
theorem ggX4_stale_X4_isOutside : GoodIn wsX4_stale wsX4_isOutside := goodIn_r _ [6] (by decide +kernel) (by decide +kernel)
set_option maxRecDepth 20000 in
theorem gX4_stale_X4_isOutside : GoodIn wsX4_stale (va_wsS RX4 48 yX4_isOutside wsX4_isOutside) := goodIn_app (goodIn_of _ (by decide +kernel)) ggX4_stale_X4_isOutside
set_option maxRecDepth 20000 in
theorem ggX4_stale_X4_isStale : GoodIn wsX4_stale wsX4_isStale := goodIn_r _ [10, 11, 12, 13, 14, 15, 16, 17, 18, 19, 20, 21, 22, 23, 24, 25, 26, 27, 5, 28, 29, 30, 31, 32, 33, 34, 35, 36, 37, 38, 39, 40, 41, 42, 43, 44, 45, 46, 47, 48, 49, 50, 51, 52, 53, 54, 55, 56, 57, 58, 59, 60, 61, 62, 63, 64, 65, 66, 67, 68, 69, 70, 71, 72, 73, 74, 75, 76, 77, 78] (by decide +kernel) (by decide +kernel)
set_option maxRecDepth 20000 in
theorem gX4_stale_X4_isStale : GoodIn wsX4_stale (wsV RX4 198 RX4 yX4_isStale wsX4_isStale) := goodIn_app (goodIn_of _ (by decide +kernel)) ggX4_stale_X4_isStale
theorem dX4_stale_0 : decode cX4_stale 0 = .ok (.iload_n 1, 1) := by decide +kernel
theorem dX4_stale_1 : decode cX4_stale 1 = .ok (.iconst 4, 1) := by decide +kernel
theorem dX4_stale_2 : decode cX4_stale 2 = .ok (.invokestatic 48, 3) := by decide +kernel
theorem dX4_stale_5 : decode cX4_stale 5 = .ok (.ifCond .eq 13, 3) := by decide +kernel
theorem dX4_stale_8 : decode cX4_stale 8 = .ok (.new 52, 3) := by decide +kernel
theorem dX4_stale_11 : decode cX4_stale 11 = .ok (.dup, 1) := by decide +kernel
theorem dX4_stale_12 : decode cX4_stale 12 = .ok (.ldc 196, 2) := by decide +kernel
theorem dX4_stale_14 : decode cX4_stale 14 = .ok (.invokespecial 56, 3) := by decide +kernel
theorem dX4_stale_17 : decode cX4_stale 17 = .ok (.athrow, 1) := by decide +kernel
theorem dX4_stale_18 : decode cX4_stale 18 = .ok (.iconst 0, 1) := by decide +kernel
theorem dX4_stale_19 : decode cX4_stale 19 = .ok (.istore_n 2, 1) := by decide +kernel
theorem dX4_stale_20 : decode cX4_stale 20 = .ok (.iconst 0, 1) := by decide +kernel
theorem dX4_stale_21 : decode cX4_stale 21 = .ok (.istore_n 3, 1) := by decide +kernel
theorem dX4_stale_22 : decode cX4_stale 22 = .ok (.iload_n 3, 1) := by decide +kernel
theorem dX4_stale_23 : decode cX4_stale 23 = .ok (.bipush 10, 2) := by decide +kernel
theorem dX4_stale_25 : decode cX4_stale 25 = .ok (.if_icmp .ge 39, 3) := by decide +kernel
theorem dX4_stale_28 : decode cX4_stale 28 = .ok (.iconst 0, 1) := by decide +kernel
theorem dX4_stale_29 : decode cX4_stale 29 = .ok (.istore 4, 2) := by decide +kernel
theorem dX4_stale_31 : decode cX4_stale 31 = .ok (.iload 4, 2) := by decide +kernel
theorem dX4_stale_33 : decode cX4_stale 33 = .ok (.bipush 6, 2) := by decide +kernel
theorem dX4_stale_35 : decode cX4_stale 35 = .ok (.if_icmp .ge 23, 3) := by decide +kernel
theorem dX4_stale_38 : decode cX4_stale 38 = .ok (.aload_n 0, 1) := by decide +kernel
theorem dX4_stale_39 : decode cX4_stale 39 = .ok (.iload_n 1, 1) := by decide +kernel
theorem dX4_stale_40 : decode cX4_stale 40 = .ok (.iload_n 3, 1) := by decide +kernel
theorem dX4_stale_41 : decode cX4_stale 41 = .ok (.iload 4, 2) := by decide +kernel
theorem dX4_stale_43 : decode cX4_stale 43 = .ok (.invokevirtual 198, 3) := by decide +kernel
theorem dX4_stale_46 : decode cX4_stale 46 = .ok (.ifCond .eq 6, 3) := by decide +kernel
theorem dX4_stale_49 : decode cX4_stale 49 = .ok (.iinc 2 1, 3) := by decide +kernel
theorem dX4_stale_52 : decode cX4_stale 52 = .ok (.iinc 4 1, 3) := by decide +kernel
theorem dX4_stale_55 : decode cX4_stale 55 = .ok (.goto (-24), 3) := by decide +kernel
theorem dX4_stale_58 : decode cX4_stale 58 = .ok (.iinc 3 1, 3) := by decide +kernel
theorem dX4_stale_61 : decode cX4_stale 61 = .ok (.goto (-39), 3) := by decide +kernel
theorem dX4_stale_64 : decode cX4_stale 64 = .ok (.iload_n 2, 1) := by decide +kernel
theorem dX4_stale_65 : decode cX4_stale 65 = .ok (.ireturn, 1) := by decide +kernel
theorem dX4_isOutside_0 : decode cX4_isOutside 0 = .ok (.iload_n 0, 1) := by decide +kernel
theorem dX4_isOutside_1 : decode cX4_isOutside 1 = .ok (.ifCond .lt 8, 3) := by decide +kernel
theorem dX4_isOutside_4 : decode cX4_isOutside 4 = .ok (.iload_n 0, 1) := by decide +kernel
theorem dX4_isOutside_5 : decode cX4_isOutside 5 = .ok (.iload_n 1, 1) := by decide +kernel
theorem dX4_isOutside_6 : decode cX4_isOutside 6 = .ok (.if_icmp .lt 7, 3) := by decide +kernel
theorem dX4_isOutside_9 : decode cX4_isOutside 9 = .ok (.iconst 1, 1) := by decide +kernel
theorem dX4_isOutside_10 : decode cX4_isOutside 10 = .ok (.goto 4, 3) := by decide +kernel
theorem dX4_isOutside_13 : decode cX4_isOutside 13 = .ok (.iconst 0, 1) := by decide +kernel
theorem dX4_isOutside_14 : decode cX4_isOutside 14 = .ok (.ireturn, 1) := by decide +kernel
theorem dX4_isBarred_0 : decode cX4_isBarred 0 = .ok (.aload_n 0, 1) := by decide +kernel
theorem dX4_isBarred_1 : decode cX4_isBarred 1 = .ok (.getfield 37, 3) := by decide +kernel
theorem dX4_isBarred_4 : decode cX4_isBarred 4 = .ok (.iload_n 1, 1) := by decide +kernel
theorem dX4_isBarred_5 : decode cX4_isBarred 5 = .ok (.iaload, 1) := by decide +kernel
theorem dX4_isBarred_6 : decode cX4_isBarred 6 = .ok (.iconst 3, 1) := by decide +kernel
theorem dX4_isBarred_7 : decode cX4_isBarred 7 = .ok (.if_icmp .ne 7, 3) := by decide +kernel
theorem dX4_isBarred_10 : decode cX4_isBarred 10 = .ok (.iconst 1, 1) := by decide +kernel
theorem dX4_isBarred_11 : decode cX4_isBarred 11 = .ok (.goto 4, 3) := by decide +kernel
theorem dX4_isBarred_14 : decode cX4_isBarred 14 = .ok (.iconst 0, 1) := by decide +kernel
theorem dX4_isBarred_15 : decode cX4_isBarred 15 = .ok (.ireturn, 1) := by decide +kernel
theorem dX4_holdsGlass_0 : decode cX4_holdsGlass 0 = .ok (.aload_n 0, 1) := by decide +kernel
theorem dX4_holdsGlass_1 : decode cX4_holdsGlass 1 = .ok (.getfield 44, 3) := by decide +kernel
theorem dX4_holdsGlass_4 : decode cX4_holdsGlass 4 = .ok (.aload_n 0, 1) := by decide +kernel
theorem dX4_holdsGlass_5 : decode cX4_holdsGlass 5 = .ok (.getfield 41, 3) := by decide +kernel
theorem dX4_holdsGlass_8 : decode cX4_holdsGlass 8 = .ok (.iload_n 1, 1) := by decide +kernel
theorem dX4_holdsGlass_9 : decode cX4_holdsGlass 9 = .ok (.bipush 6, 2) := by decide +kernel
theorem dX4_holdsGlass_11 : decode cX4_holdsGlass 11 = .ok (.imul, 1) := by decide +kernel
theorem dX4_holdsGlass_12 : decode cX4_holdsGlass 12 = .ok (.iload_n 2, 1) := by decide +kernel
theorem dX4_holdsGlass_13 : decode cX4_holdsGlass 13 = .ok (.iadd, 1) := by decide +kernel
theorem dX4_holdsGlass_14 : decode cX4_holdsGlass 14 = .ok (.iaload, 1) := by decide +kernel
theorem dX4_holdsGlass_15 : decode cX4_holdsGlass 15 = .ok (.if_icmp .ge 7, 3) := by decide +kernel
theorem dX4_holdsGlass_18 : decode cX4_holdsGlass 18 = .ok (.iconst 1, 1) := by decide +kernel
theorem dX4_holdsGlass_19 : decode cX4_holdsGlass 19 = .ok (.goto 4, 3) := by decide +kernel
theorem dX4_holdsGlass_22 : decode cX4_holdsGlass 22 = .ok (.iconst 0, 1) := by decide +kernel
theorem dX4_holdsGlass_23 : decode cX4_holdsGlass 23 = .ok (.ireturn, 1) := by decide +kernel
set_option maxRecDepth 20000 in
theorem ggX4_servesAsWitness_X4_isBarred : GoodIn wsX4_servesAsWitness wsX4_isBarred := goodIn_r _ [6, 7, 27, 28, 29, 30, 31, 32, 33] (by decide +kernel) (by decide +kernel)
set_option maxRecDepth 20000 in
theorem gX4_servesAsWitness_X4_isBarred : GoodIn wsX4_servesAsWitness (wsV RX4 103 RX4 yX4_isBarred wsX4_isBarred) := goodIn_app (goodIn_of _ (by decide +kernel)) ggX4_servesAsWitness_X4_isBarred
set_option maxRecDepth 20000 in
theorem ggX4_servesAsWitness_X1_anyGrants : GoodIn wsX4_servesAsWitness wsX1_anyGrants := goodIn_r _ [12, 13, 14, 15, 16, 17, 11, 18, 19, 20, 21, 22, 23, 24, 25, 26, 34, 35, 36, 37] (by decide +kernel) (by decide +kernel)
set_option maxRecDepth 20000 in
theorem gX4_servesAsWitness_X1_anyGrants : GoodIn wsX4_servesAsWitness (wsV RX4 202 RX1 yX1_anyGrants wsX1_anyGrants) := goodIn_app (goodIn_of _ (by decide +kernel)) ggX4_servesAsWitness_X1_anyGrants
theorem dX4_servesAsWitness_0 : decode cX4_servesAsWitness 0 = .ok (.aload_n 0, 1) := by decide +kernel
theorem dX4_servesAsWitness_1 : decode cX4_servesAsWitness 1 = .ok (.iload_n 1, 1) := by decide +kernel
theorem dX4_servesAsWitness_2 : decode cX4_servesAsWitness 2 = .ok (.invokevirtual 103, 3) := by decide +kernel
theorem dX4_servesAsWitness_5 : decode cX4_servesAsWitness 5 = .ok (.ifCond .ne 19, 3) := by decide +kernel
theorem dX4_servesAsWitness_8 : decode cX4_servesAsWitness 8 = .ok (.aload_n 0, 1) := by decide +kernel
theorem dX4_servesAsWitness_9 : decode cX4_servesAsWitness 9 = .ok (.getfield 10, 3) := by decide +kernel
theorem dX4_servesAsWitness_12 : decode cX4_servesAsWitness 12 = .ok (.iload_n 1, 1) := by decide +kernel
theorem dX4_servesAsWitness_13 : decode cX4_servesAsWitness 13 = .ok (.iload_n 2, 1) := by decide +kernel
theorem dX4_servesAsWitness_14 : decode cX4_servesAsWitness 14 = .ok (.invokevirtual 202, 3) := by decide +kernel
theorem dX4_servesAsWitness_17 : decode cX4_servesAsWitness 17 = .ok (.ifCond .eq 7, 3) := by decide +kernel
theorem dX4_servesAsWitness_20 : decode cX4_servesAsWitness 20 = .ok (.iconst 1, 1) := by decide +kernel
theorem dX4_servesAsWitness_21 : decode cX4_servesAsWitness 21 = .ok (.goto 4, 3) := by decide +kernel
theorem dX4_servesAsWitness_24 : decode cX4_servesAsWitness 24 = .ok (.iconst 0, 1) := by decide +kernel
theorem dX4_servesAsWitness_25 : decode cX4_servesAsWitness 25 = .ok (.ireturn, 1) := by decide +kernel
set_option maxRecDepth 20000 in
theorem ggX4_answerOfHouse_X4_isBarred : GoodIn wsX4_answerOfHouse wsX4_isBarred := goodIn_r _ [6, 7, 38, 39, 40, 41, 42, 43, 44] (by decide +kernel) (by decide +kernel)
set_option maxRecDepth 20000 in
theorem gX4_answerOfHouse_X4_isBarred : GoodIn wsX4_answerOfHouse (wsV RX4 103 RX4 yX4_isBarred wsX4_isBarred) := goodIn_app (goodIn_of _ (by decide +kernel)) ggX4_answerOfHouse_X4_isBarred
set_option maxRecDepth 20000 in
theorem ggX4_answerOfHouse_X1_anyGrants : GoodIn wsX4_answerOfHouse wsX1_anyGrants := goodIn_r _ [12, 13, 14, 15, 16, 17, 11, 18, 19, 20, 21, 22, 23, 24, 25, 26, 45, 46, 47, 48] (by decide +kernel) (by decide +kernel)
set_option maxRecDepth 20000 in
theorem gX4_answerOfHouse_X1_anyGrants : GoodIn wsX4_answerOfHouse (wsV RX4 202 RX1 yX1_anyGrants wsX1_anyGrants) := goodIn_app (goodIn_of _ (by decide +kernel)) ggX4_answerOfHouse_X1_anyGrants
set_option maxRecDepth 20000 in
theorem ggX4_answerOfHouse_X1_anyDenies : GoodIn wsX4_answerOfHouse wsX1_anyDenies := goodIn_r _ [30, 13, 31, 15, 16, 17, 11, 18, 19, 20, 21, 22, 23, 24, 25, 26, 45, 46, 47, 48] (by decide +kernel) (by decide +kernel)
set_option maxRecDepth 20000 in
theorem gX4_answerOfHouse_X1_anyDenies : GoodIn wsX4_answerOfHouse (wsV RX4 205 RX1 yX1_anyDenies wsX1_anyDenies) := goodIn_app (goodIn_of _ (by decide +kernel)) ggX4_answerOfHouse_X1_anyDenies
set_option maxRecDepth 20000 in
theorem ggX4_answerOfHouse_X4_holdsGlass : GoodIn wsX4_answerOfHouse wsX4_holdsGlass := goodIn_r _ [35, 36, 37, 38, 39, 40, 41, 42, 43, 44] (by decide +kernel) (by decide +kernel)
set_option maxRecDepth 20000 in
theorem gX4_answerOfHouse_X4_holdsGlass : GoodIn wsX4_answerOfHouse (wsV RX4 208 RX4 yX4_holdsGlass wsX4_holdsGlass) := goodIn_app (goodIn_of _ (by decide +kernel)) ggX4_answerOfHouse_X4_holdsGlass
theorem dX4_answerOfHouse_0 : decode cX4_answerOfHouse 0 = .ok (.aload_n 0, 1) := by decide +kernel
theorem dX4_answerOfHouse_1 : decode cX4_answerOfHouse 1 = .ok (.iload_n 1, 1) := by decide +kernel
theorem dX4_answerOfHouse_2 : decode cX4_answerOfHouse 2 = .ok (.invokevirtual 103, 3) := by decide +kernel
theorem dX4_answerOfHouse_5 : decode cX4_answerOfHouse 5 = .ok (.ifCond .eq 5, 3) := by decide +kernel
theorem dX4_answerOfHouse_8 : decode cX4_answerOfHouse 8 = .ok (.iconst 1, 1) := by decide +kernel
theorem dX4_answerOfHouse_9 : decode cX4_answerOfHouse 9 = .ok (.ireturn, 1) := by decide +kernel
theorem dX4_answerOfHouse_10 : decode cX4_answerOfHouse 10 = .ok (.aload_n 0, 1) := by decide +kernel
theorem dX4_answerOfHouse_11 : decode cX4_answerOfHouse 11 = .ok (.getfield 10, 3) := by decide +kernel
theorem dX4_answerOfHouse_14 : decode cX4_answerOfHouse 14 = .ok (.iload_n 1, 1) := by decide +kernel
theorem dX4_answerOfHouse_15 : decode cX4_answerOfHouse 15 = .ok (.iload_n 2, 1) := by decide +kernel
theorem dX4_answerOfHouse_16 : decode cX4_answerOfHouse 16 = .ok (.invokevirtual 202, 3) := by decide +kernel
theorem dX4_answerOfHouse_19 : decode cX4_answerOfHouse 19 = .ok (.ifCond .eq 19, 3) := by decide +kernel
theorem dX4_answerOfHouse_22 : decode cX4_answerOfHouse 22 = .ok (.aload_n 0, 1) := by decide +kernel
theorem dX4_answerOfHouse_23 : decode cX4_answerOfHouse 23 = .ok (.getfield 10, 3) := by decide +kernel
theorem dX4_answerOfHouse_26 : decode cX4_answerOfHouse 26 = .ok (.iload_n 1, 1) := by decide +kernel
theorem dX4_answerOfHouse_27 : decode cX4_answerOfHouse 27 = .ok (.iload_n 2, 1) := by decide +kernel
theorem dX4_answerOfHouse_28 : decode cX4_answerOfHouse 28 = .ok (.invokevirtual 205, 3) := by decide +kernel
theorem dX4_answerOfHouse_31 : decode cX4_answerOfHouse 31 = .ok (.ifCond .ne 7, 3) := by decide +kernel
theorem dX4_answerOfHouse_34 : decode cX4_answerOfHouse 34 = .ok (.iconst 1, 1) := by decide +kernel
theorem dX4_answerOfHouse_35 : decode cX4_answerOfHouse 35 = .ok (.goto 4, 3) := by decide +kernel
theorem dX4_answerOfHouse_38 : decode cX4_answerOfHouse 38 = .ok (.iconst 0, 1) := by decide +kernel
theorem dX4_answerOfHouse_39 : decode cX4_answerOfHouse 39 = .ok (.istore_n 3, 1) := by decide +kernel
theorem dX4_answerOfHouse_40 : decode cX4_answerOfHouse 40 = .ok (.iload_n 3, 1) := by decide +kernel
theorem dX4_answerOfHouse_41 : decode cX4_answerOfHouse 41 = .ok (.ifCond .ne 12, 3) := by decide +kernel
theorem dX4_answerOfHouse_44 : decode cX4_answerOfHouse 44 = .ok (.aload_n 0, 1) := by decide +kernel
theorem dX4_answerOfHouse_45 : decode cX4_answerOfHouse 45 = .ok (.iload_n 1, 1) := by decide +kernel
theorem dX4_answerOfHouse_46 : decode cX4_answerOfHouse 46 = .ok (.iload_n 2, 1) := by decide +kernel
theorem dX4_answerOfHouse_47 : decode cX4_answerOfHouse 47 = .ok (.invokevirtual 208, 3) := by decide +kernel
theorem dX4_answerOfHouse_50 : decode cX4_answerOfHouse 50 = .ok (.ifCond .eq 7, 3) := by decide +kernel
theorem dX4_answerOfHouse_53 : decode cX4_answerOfHouse 53 = .ok (.iconst 0, 1) := by decide +kernel
theorem dX4_answerOfHouse_54 : decode cX4_answerOfHouse 54 = .ok (.goto 4, 3) := by decide +kernel
theorem dX4_answerOfHouse_57 : decode cX4_answerOfHouse 57 = .ok (.iconst 1, 1) := by decide +kernel
theorem dX4_answerOfHouse_58 : decode cX4_answerOfHouse 58 = .ok (.ireturn, 1) := by decide +kernel
set_option maxRecDepth 20000 in
theorem ggX4_answerOfApp_X0_areKept : GoodIn wsX4_answerOfApp wsX0_areKept := goodIn_r _ [7, 8, 9, 10, 6, 11, 69, 70, 71] (by decide +kernel) (by decide +kernel)
set_option maxRecDepth 20000 in
theorem gX4_answerOfApp_X0_areKept : GoodIn wsX4_answerOfApp (wsV RX4 211 RX0 yX0_areKept wsX0_areKept) := goodIn_app (goodIn_of _ (by decide +kernel)) ggX4_answerOfApp_X0_areKept
set_option maxRecDepth 20000 in
theorem ggX4_answerOfApp_X0_answer : GoodIn wsX4_answerOfApp wsX0_answer := goodIn_r _ [15, 8, 9, 10, 6, 11, 69, 70, 71] (by decide +kernel) (by decide +kernel)
set_option maxRecDepth 20000 in
theorem gX4_answerOfApp_X0_answer : GoodIn wsX4_answerOfApp (wsV RX4 214 RX0 yX0_answer wsX0_answer) := goodIn_app (goodIn_of _ (by decide +kernel)) ggX4_answerOfApp_X0_answer
set_option maxRecDepth 20000 in
theorem ggX4_answerOfApp_X4_answerOfHouse : GoodIn wsX4_answerOfApp wsX4_answerOfHouse := goodIn_r _ [20, 21, 22, 23, 24, 19, 25, 26, 27, 28, 29, 30, 31, 32, 33, 34, 35, 36, 37, 38, 39, 40, 41, 42, 43, 44, 45, 46, 47, 48, 49, 50, 51, 52, 53, 54, 2, 55, 62, 63, 64, 65, 66, 67, 68, 72, 73, 74, 75] (by decide +kernel) (by decide +kernel)
set_option maxRecDepth 20000 in
theorem gX4_answerOfApp_X4_answerOfHouse : GoodIn wsX4_answerOfApp (wsV RX4 97 RX4 yX4_answerOfHouse wsX4_answerOfHouse) := goodIn_app (goodIn_of _ (by decide +kernel)) ggX4_answerOfApp_X4_answerOfHouse
set_option maxRecDepth 20000 in
theorem ggX4_answerOfApp_X0_keep : GoodIn wsX4_answerOfApp wsX0_keep := goodIn_r _ [59, 60, 8, 61, 9, 10, 6, 11, 69, 70, 71] (by decide +kernel) (by decide +kernel)
set_option maxRecDepth 20000 in
theorem gX4_answerOfApp_X0_keep : GoodIn wsX4_answerOfApp (wsV RX4 217 RX0 yX0_keep wsX0_keep) := goodIn_app (goodIn_of _ (by decide +kernel)) ggX4_answerOfApp_X0_keep
theorem dX4_answerOfApp_0 : decode cX4_answerOfApp 0 = .ok (.aload_n 0, 1) := by decide +kernel
theorem dX4_answerOfApp_1 : decode cX4_answerOfApp 1 = .ok (.getfield 33, 3) := by decide +kernel
theorem dX4_answerOfApp_4 : decode cX4_answerOfApp 4 = .ok (.iload_n 1, 1) := by decide +kernel
theorem dX4_answerOfApp_5 : decode cX4_answerOfApp 5 = .ok (.iload_n 2, 1) := by decide +kernel
theorem dX4_answerOfApp_6 : decode cX4_answerOfApp 6 = .ok (.iload_n 3, 1) := by decide +kernel
theorem dX4_answerOfApp_7 : decode cX4_answerOfApp 7 = .ok (.invokevirtual 211, 3) := by decide +kernel
theorem dX4_answerOfApp_10 : decode cX4_answerOfApp 10 = .ok (.ifCond .eq 14, 3) := by decide +kernel
theorem dX4_answerOfApp_13 : decode cX4_answerOfApp 13 = .ok (.aload_n 0, 1) := by decide +kernel
theorem dX4_answerOfApp_14 : decode cX4_answerOfApp 14 = .ok (.getfield 33, 3) := by decide +kernel
theorem dX4_answerOfApp_17 : decode cX4_answerOfApp 17 = .ok (.iload_n 1, 1) := by decide +kernel
theorem dX4_answerOfApp_18 : decode cX4_answerOfApp 18 = .ok (.iload_n 2, 1) := by decide +kernel
theorem dX4_answerOfApp_19 : decode cX4_answerOfApp 19 = .ok (.iload_n 3, 1) := by decide +kernel
theorem dX4_answerOfApp_20 : decode cX4_answerOfApp 20 = .ok (.invokevirtual 214, 3) := by decide +kernel
theorem dX4_answerOfApp_23 : decode cX4_answerOfApp 23 = .ok (.ireturn, 1) := by decide +kernel
theorem dX4_answerOfApp_24 : decode cX4_answerOfApp 24 = .ok (.aload_n 0, 1) := by decide +kernel
theorem dX4_answerOfApp_25 : decode cX4_answerOfApp 25 = .ok (.iload_n 2, 1) := by decide +kernel
theorem dX4_answerOfApp_26 : decode cX4_answerOfApp 26 = .ok (.iload_n 3, 1) := by decide +kernel
theorem dX4_answerOfApp_27 : decode cX4_answerOfApp 27 = .ok (.invokevirtual 97, 3) := by decide +kernel
theorem dX4_answerOfApp_30 : decode cX4_answerOfApp 30 = .ok (.istore 4, 2) := by decide +kernel
theorem dX4_answerOfApp_32 : decode cX4_answerOfApp 32 = .ok (.aload_n 0, 1) := by decide +kernel
theorem dX4_answerOfApp_33 : decode cX4_answerOfApp 33 = .ok (.getfield 33, 3) := by decide +kernel
theorem dX4_answerOfApp_36 : decode cX4_answerOfApp 36 = .ok (.iload_n 1, 1) := by decide +kernel
theorem dX4_answerOfApp_37 : decode cX4_answerOfApp 37 = .ok (.iload_n 2, 1) := by decide +kernel
theorem dX4_answerOfApp_38 : decode cX4_answerOfApp 38 = .ok (.iload_n 3, 1) := by decide +kernel
theorem dX4_answerOfApp_39 : decode cX4_answerOfApp 39 = .ok (.iload 4, 2) := by decide +kernel
theorem dX4_answerOfApp_41 : decode cX4_answerOfApp 41 = .ok (.aload_n 0, 1) := by decide +kernel
theorem dX4_answerOfApp_42 : decode cX4_answerOfApp 42 = .ok (.getfield 44, 3) := by decide +kernel
theorem dX4_answerOfApp_45 : decode cX4_answerOfApp 45 = .ok (.invokevirtual 217, 3) := by decide +kernel
theorem dX4_answerOfApp_48 : decode cX4_answerOfApp 48 = .ok (.iload 4, 2) := by decide +kernel
theorem dX4_answerOfApp_50 : decode cX4_answerOfApp 50 = .ok (.ireturn, 1) := by decide +kernel
set_option maxRecDepth 20000 in
theorem ggX4_isStale_X0_areKept : GoodIn wsX4_isStale wsX0_areKept := goodIn_r _ [6, 7, 8, 9, 5, 10, 63, 64, 65] (by decide +kernel) (by decide +kernel)
set_option maxRecDepth 20000 in
theorem gX4_isStale_X0_areKept : GoodIn wsX4_isStale (wsV RX4 211 RX0 yX0_areKept wsX0_areKept) := goodIn_app (goodIn_of _ (by decide +kernel)) ggX4_isStale_X0_areKept
set_option maxRecDepth 20000 in
theorem ggX4_isStale_X0_answer : GoodIn wsX4_isStale wsX0_answer := goodIn_r _ [14, 7, 8, 9, 5, 10, 63, 64, 65] (by decide +kernel) (by decide +kernel)
set_option maxRecDepth 20000 in
theorem gX4_isStale_X0_answer : GoodIn wsX4_isStale (wsV RX4 214 RX0 yX0_answer wsX0_answer) := goodIn_app (goodIn_of _ (by decide +kernel)) ggX4_isStale_X0_answer
set_option maxRecDepth 20000 in
theorem ggX4_isStale_X4_answerOfHouse : GoodIn wsX4_isStale wsX4_answerOfHouse := goodIn_r _ [19, 20, 21, 22, 23, 18, 24, 25, 26, 27, 28, 29, 30, 31, 32, 33, 34, 35, 36, 37, 38, 39, 40, 41, 42, 43, 44, 45, 46, 47, 48, 49, 50, 51, 52, 53, 54, 55, 56, 57, 58, 59, 60, 61, 62, 66, 67, 68, 69] (by decide +kernel) (by decide +kernel)
set_option maxRecDepth 20000 in
theorem gX4_isStale_X4_answerOfHouse : GoodIn wsX4_isStale (wsV RX4 97 RX4 yX4_answerOfHouse wsX4_answerOfHouse) := goodIn_app (goodIn_of _ (by decide +kernel)) ggX4_isStale_X4_answerOfHouse
theorem dX4_isStale_0 : decode cX4_isStale 0 = .ok (.aload_n 0, 1) := by decide +kernel
theorem dX4_isStale_1 : decode cX4_isStale 1 = .ok (.getfield 33, 3) := by decide +kernel
theorem dX4_isStale_4 : decode cX4_isStale 4 = .ok (.iload_n 1, 1) := by decide +kernel
theorem dX4_isStale_5 : decode cX4_isStale 5 = .ok (.iload_n 2, 1) := by decide +kernel
theorem dX4_isStale_6 : decode cX4_isStale 6 = .ok (.iload_n 3, 1) := by decide +kernel
theorem dX4_isStale_7 : decode cX4_isStale 7 = .ok (.invokevirtual 211, 3) := by decide +kernel
theorem dX4_isStale_10 : decode cX4_isStale 10 = .ok (.ifCond .eq 26, 3) := by decide +kernel
theorem dX4_isStale_13 : decode cX4_isStale 13 = .ok (.aload_n 0, 1) := by decide +kernel
theorem dX4_isStale_14 : decode cX4_isStale 14 = .ok (.getfield 33, 3) := by decide +kernel
theorem dX4_isStale_17 : decode cX4_isStale 17 = .ok (.iload_n 1, 1) := by decide +kernel
theorem dX4_isStale_18 : decode cX4_isStale 18 = .ok (.iload_n 2, 1) := by decide +kernel
theorem dX4_isStale_19 : decode cX4_isStale 19 = .ok (.iload_n 3, 1) := by decide +kernel
theorem dX4_isStale_20 : decode cX4_isStale 20 = .ok (.invokevirtual 214, 3) := by decide +kernel
theorem dX4_isStale_23 : decode cX4_isStale 23 = .ok (.aload_n 0, 1) := by decide +kernel
theorem dX4_isStale_24 : decode cX4_isStale 24 = .ok (.iload_n 2, 1) := by decide +kernel
theorem dX4_isStale_25 : decode cX4_isStale 25 = .ok (.iload_n 3, 1) := by decide +kernel
theorem dX4_isStale_26 : decode cX4_isStale 26 = .ok (.invokevirtual 97, 3) := by decide +kernel
theorem dX4_isStale_29 : decode cX4_isStale 29 = .ok (.if_icmp .eq 7, 3) := by decide +kernel
theorem dX4_isStale_32 : decode cX4_isStale 32 = .ok (.iconst 1, 1) := by decide +kernel
theorem dX4_isStale_33 : decode cX4_isStale 33 = .ok (.goto 4, 3) := by decide +kernel
theorem dX4_isStale_36 : decode cX4_isStale 36 = .ok (.iconst 0, 1) := by decide +kernel
theorem dX4_isStale_37 : decode cX4_isStale 37 = .ok (.ireturn, 1) := by decide +kernel
theorem dX5_init_0 : decode cX5_init 0 = .ok (.aload_n 0, 1) := by decide +kernel
theorem dX5_init_1 : decode cX5_init 1 = .ok (.invokespecial 1, 3) := by decide +kernel
theorem dX5_init_4 : decode cX5_init 4 = .ok (.aload_n 0, 1) := by decide +kernel
theorem dX5_init_5 : decode cX5_init 5 = .ok (.bipush 8, 2) := by decide +kernel
theorem dX5_init_7 : decode cX5_init 7 = .ok (.newarray .int, 2) := by decide +kernel
theorem dX5_init_9 : decode cX5_init 9 = .ok (.putfield 7, 3) := by decide +kernel
theorem dX5_init_12 : decode cX5_init 12 = .ok (.aload_n 0, 1) := by decide +kernel
theorem dX5_init_13 : decode cX5_init 13 = .ok (.bipush 8, 2) := by decide +kernel
theorem dX5_init_15 : decode cX5_init 15 = .ok (.newarray .int, 2) := by decide +kernel
theorem dX5_init_17 : decode cX5_init 17 = .ok (.putfield 13, 3) := by decide +kernel
theorem dX5_init_20 : decode cX5_init 20 = .ok (.aload_n 0, 1) := by decide +kernel
theorem dX5_init_21 : decode cX5_init 21 = .ok (.bipush 48, 2) := by decide +kernel
theorem dX5_init_23 : decode cX5_init 23 = .ok (.newarray .int, 2) := by decide +kernel
theorem dX5_init_25 : decode cX5_init 25 = .ok (.putfield 16, 3) := by decide +kernel
theorem dX5_init_28 : decode cX5_init 28 = .ok (.aload_n 0, 1) := by decide +kernel
theorem dX5_init_29 : decode cX5_init 29 = .ok (.bipush 10, 2) := by decide +kernel
theorem dX5_init_31 : decode cX5_init 31 = .ok (.newarray .int, 2) := by decide +kernel
theorem dX5_init_33 : decode cX5_init 33 = .ok (.putfield 19, 3) := by decide +kernel
theorem dX5_init_36 : decode cX5_init 36 = .ok (.aload_n 0, 1) := by decide +kernel
theorem dX5_init_37 : decode cX5_init 37 = .ok (.bipush 60, 2) := by decide +kernel
theorem dX5_init_39 : decode cX5_init 39 = .ok (.newarray .int, 2) := by decide +kernel
theorem dX5_init_41 : decode cX5_init 41 = .ok (.putfield 22, 3) := by decide +kernel
theorem dX5_init_44 : decode cX5_init 44 = .ok (.aload_n 0, 1) := by decide +kernel
theorem dX5_init_45 : decode cX5_init 45 = .ok (.bipush 30, 2) := by decide +kernel
theorem dX5_init_47 : decode cX5_init 47 = .ok (.newarray .int, 2) := by decide +kernel
theorem dX5_init_49 : decode cX5_init 49 = .ok (.putfield 25, 3) := by decide +kernel
theorem dX5_init_52 : decode cX5_init 52 = .ok (.aload_n 0, 1) := by decide +kernel
theorem dX5_init_53 : decode cX5_init 53 = .ok (.bipush 30, 2) := by decide +kernel
theorem dX5_init_55 : decode cX5_init 55 = .ok (.newarray .int, 2) := by decide +kernel
theorem dX5_init_57 : decode cX5_init 57 = .ok (.putfield 28, 3) := by decide +kernel
theorem dX5_init_60 : decode cX5_init 60 = .ok (.aload_n 0, 1) := by decide +kernel
theorem dX5_init_61 : decode cX5_init 61 = .ok (.bipush 30, 2) := by decide +kernel
theorem dX5_init_63 : decode cX5_init 63 = .ok (.newarray .int, 2) := by decide +kernel
theorem dX5_init_65 : decode cX5_init 65 = .ok (.putfield 31, 3) := by decide +kernel
theorem dX5_init_68 : decode cX5_init 68 = .ok (.aload_n 0, 1) := by decide +kernel
theorem dX5_init_69 : decode cX5_init 69 = .ok (.bipush 30, 2) := by decide +kernel
theorem dX5_init_71 : decode cX5_init 71 = .ok (.newarray .int, 2) := by decide +kernel
theorem dX5_init_73 : decode cX5_init 73 = .ok (.putfield 34, 3) := by decide +kernel
theorem dX5_init_76 : decode cX5_init 76 = .ok (.aload_n 0, 1) := by decide +kernel
theorem dX5_init_77 : decode cX5_init 77 = .ok (.bipush 30, 2) := by decide +kernel
theorem dX5_init_79 : decode cX5_init 79 = .ok (.newarray .boolean, 2) := by decide +kernel
theorem dX5_init_81 : decode cX5_init 81 = .ok (.putfield 37, 3) := by decide +kernel
theorem dX5_init_84 : decode cX5_init 84 = .ok (.aload_n 0, 1) := by decide +kernel
theorem dX5_init_85 : decode cX5_init 85 = .ok (.iconst 4, 1) := by decide +kernel
theorem dX5_init_86 : decode cX5_init 86 = .ok (.newarray .int, 2) := by decide +kernel
theorem dX5_init_88 : decode cX5_init 88 = .ok (.putfield 41, 3) := by decide +kernel
theorem dX5_init_91 : decode cX5_init 91 = .ok (.aload_n 0, 1) := by decide +kernel
theorem dX5_init_92 : decode cX5_init 92 = .ok (.sipush 240, 3) := by decide +kernel
theorem dX5_init_95 : decode cX5_init 95 = .ok (.newarray .int, 2) := by decide +kernel
theorem dX5_init_97 : decode cX5_init 97 = .ok (.putfield 44, 3) := by decide +kernel
theorem dX5_init_100 : decode cX5_init 100 = .ok (.iconst 0, 1) := by decide +kernel
theorem dX5_init_101 : decode cX5_init 101 = .ok (.istore_n 1, 1) := by decide +kernel
theorem dX5_init_102 : decode cX5_init 102 = .ok (.iload_n 1, 1) := by decide +kernel
theorem dX5_init_103 : decode cX5_init 103 = .ok (.iconst 4, 1) := by decide +kernel
theorem dX5_init_104 : decode cX5_init 104 = .ok (.if_icmp .ge 17, 3) := by decide +kernel
theorem dX5_init_107 : decode cX5_init 107 = .ok (.aload_n 0, 1) := by decide +kernel
theorem dX5_init_108 : decode cX5_init 108 = .ok (.getfield 41, 3) := by decide +kernel
theorem dX5_init_111 : decode cX5_init 111 = .ok (.iload_n 1, 1) := by decide +kernel
theorem dX5_init_112 : decode cX5_init 112 = .ok (.bipush 10, 2) := by decide +kernel
theorem dX5_init_114 : decode cX5_init 114 = .ok (.iastore, 1) := by decide +kernel
theorem dX5_init_115 : decode cX5_init 115 = .ok (.iinc 1 1, 3) := by decide +kernel
theorem dX5_init_118 : decode cX5_init 118 = .ok (.goto (-16), 3) := by decide +kernel
theorem dX5_init_121 : decode cX5_init 121 = .ok (.iconst 0, 1) := by decide +kernel
theorem dX5_init_122 : decode cX5_init 122 = .ok (.istore_n 1, 1) := by decide +kernel
theorem dX5_init_123 : decode cX5_init 123 = .ok (.iload_n 1, 1) := by decide +kernel
theorem dX5_init_124 : decode cX5_init 124 = .ok (.sipush 240, 3) := by decide +kernel
theorem dX5_init_127 : decode cX5_init 127 = .ok (.if_icmp .ge 16, 3) := by decide +kernel
theorem dX5_init_130 : decode cX5_init 130 = .ok (.aload_n 0, 1) := by decide +kernel
theorem dX5_init_131 : decode cX5_init 131 = .ok (.getfield 44, 3) := by decide +kernel
theorem dX5_init_134 : decode cX5_init 134 = .ok (.iload_n 1, 1) := by decide +kernel
theorem dX5_init_135 : decode cX5_init 135 = .ok (.iconst (-1), 1) := by decide +kernel
theorem dX5_init_136 : decode cX5_init 136 = .ok (.iastore, 1) := by decide +kernel
theorem dX5_init_137 : decode cX5_init 137 = .ok (.iinc 1 1, 3) := by decide +kernel
theorem dX5_init_140 : decode cX5_init 140 = .ok (.goto (-17), 3) := by decide +kernel
theorem dX5_init_143 : decode cX5_init 143 = .ok (.return_, 1) := by decide +kernel
theorem dX5_thrown_0 : decode cX5_thrown 0 = .ok (.aload_n 0, 1) := by decide +kernel
theorem dX5_thrown_1 : decode cX5_thrown 1 = .ok (.getfield 47, 3) := by decide +kernel
theorem dX5_thrown_4 : decode cX5_thrown 4 = .ok (.ireturn, 1) := by decide +kernel
theorem dX5_fails_0 : decode cX5_fails 0 = .ok (.aload_n 0, 1) := by decide +kernel
theorem dX5_fails_1 : decode cX5_fails 1 = .ok (.iload_n 1, 1) := by decide +kernel
theorem dX5_fails_2 : decode cX5_fails 2 = .ok (.putfield 47, 3) := by decide +kernel
theorem dX5_fails_5 : decode cX5_fails 5 = .ok (.iconst 0, 1) := by decide +kernel
theorem dX5_fails_6 : decode cX5_fails 6 = .ok (.ireturn, 1) := by decide +kernel
theorem dX5_in_0 : decode cX5_in 0 = .ok (.iload_n 0, 1) := by decide +kernel
theorem dX5_in_1 : decode cX5_in 1 = .ok (.iload_n 1, 1) := by decide +kernel
theorem dX5_in_2 : decode cX5_in 2 = .ok (.if_icmp .lt 12, 3) := by decide +kernel
theorem dX5_in_5 : decode cX5_in 5 = .ok (.iload_n 0, 1) := by decide +kernel
theorem dX5_in_6 : decode cX5_in 6 = .ok (.iload_n 2, 1) := by decide +kernel
theorem dX5_in_7 : decode cX5_in 7 = .ok (.if_icmp .gt 7, 3) := by decide +kernel
theorem dX5_in_10 : decode cX5_in 10 = .ok (.iconst 1, 1) := by decide +kernel
theorem dX5_in_11 : decode cX5_in 11 = .ok (.goto 4, 3) := by decide +kernel
theorem dX5_in_14 : decode cX5_in 14 = .ok (.iconst 0, 1) := by decide +kernel
theorem dX5_in_15 : decode cX5_in 15 = .ok (.ireturn, 1) := by decide +kernel
set_option maxRecDepth 20000 in
theorem ggX5_isPerson_X5_in : GoodIn wsX5_isPerson wsX5_in := goodIn_r _ [4] (by decide +kernel) (by decide +kernel)
set_option maxRecDepth 20000 in
theorem gX5_isPerson_X5_in : GoodIn wsX5_isPerson (va_wsS RX5 51 yX5_in wsX5_in) := goodIn_app (goodIn_of _ (by decide +kernel)) ggX5_isPerson_X5_in
theorem dX5_isPerson_0 : decode cX5_isPerson 0 = .ok (.iload_n 0, 1) := by decide +kernel
theorem dX5_isPerson_1 : decode cX5_isPerson 1 = .ok (.iconst 0, 1) := by decide +kernel
theorem dX5_isPerson_2 : decode cX5_isPerson 2 = .ok (.bipush 9, 2) := by decide +kernel
theorem dX5_isPerson_4 : decode cX5_isPerson 4 = .ok (.invokestatic 51, 3) := by decide +kernel
theorem dX5_isPerson_7 : decode cX5_isPerson 7 = .ok (.ireturn, 1) := by decide +kernel
set_option maxRecDepth 20000 in
theorem ggX5_isGroup_X5_in : GoodIn wsX5_isGroup wsX5_in := goodIn_r _ [4] (by decide +kernel) (by decide +kernel)
set_option maxRecDepth 20000 in
theorem gX5_isGroup_X5_in : GoodIn wsX5_isGroup (va_wsS RX5 51 yX5_in wsX5_in) := goodIn_app (goodIn_of _ (by decide +kernel)) ggX5_isGroup_X5_in
theorem dX5_isGroup_0 : decode cX5_isGroup 0 = .ok (.iload_n 0, 1) := by decide +kernel
theorem dX5_isGroup_1 : decode cX5_isGroup 1 = .ok (.iconst 0, 1) := by decide +kernel
theorem dX5_isGroup_2 : decode cX5_isGroup 2 = .ok (.bipush 7, 2) := by decide +kernel
theorem dX5_isGroup_4 : decode cX5_isGroup 4 = .ok (.invokestatic 51, 3) := by decide +kernel
theorem dX5_isGroup_7 : decode cX5_isGroup 7 = .ok (.ireturn, 1) := by decide +kernel
set_option maxRecDepth 20000 in
theorem ggX5_isRole_X5_in : GoodIn wsX5_isRole wsX5_in := goodIn_r _ [4] (by decide +kernel) (by decide +kernel)
set_option maxRecDepth 20000 in
theorem gX5_isRole_X5_in : GoodIn wsX5_isRole (va_wsS RX5 51 yX5_in wsX5_in) := goodIn_app (goodIn_of _ (by decide +kernel)) ggX5_isRole_X5_in
theorem dX5_isRole_0 : decode cX5_isRole 0 = .ok (.iload_n 0, 1) := by decide +kernel
theorem dX5_isRole_1 : decode cX5_isRole 1 = .ok (.iconst 0, 1) := by decide +kernel
theorem dX5_isRole_2 : decode cX5_isRole 2 = .ok (.iconst 5, 1) := by decide +kernel
theorem dX5_isRole_3 : decode cX5_isRole 3 = .ok (.invokestatic 51, 3) := by decide +kernel
theorem dX5_isRole_6 : decode cX5_isRole 6 = .ok (.ireturn, 1) := by decide +kernel
set_option maxRecDepth 20000 in
theorem ggX5_isApp_X5_in : GoodIn wsX5_isApp wsX5_in := goodIn_r _ [4] (by decide +kernel) (by decide +kernel)
set_option maxRecDepth 20000 in
theorem gX5_isApp_X5_in : GoodIn wsX5_isApp (va_wsS RX5 51 yX5_in wsX5_in) := goodIn_app (goodIn_of _ (by decide +kernel)) ggX5_isApp_X5_in
theorem dX5_isApp_0 : decode cX5_isApp 0 = .ok (.iload_n 0, 1) := by decide +kernel
theorem dX5_isApp_1 : decode cX5_isApp 1 = .ok (.iconst 0, 1) := by decide +kernel
theorem dX5_isApp_2 : decode cX5_isApp 2 = .ok (.iconst 3, 1) := by decide +kernel
theorem dX5_isApp_3 : decode cX5_isApp 3 = .ok (.invokestatic 51, 3) := by decide +kernel
theorem dX5_isApp_6 : decode cX5_isApp 6 = .ok (.ireturn, 1) := by decide +kernel
theorem dX5_has_0 : decode cX5_has 0 = .ok (.iload_n 0, 1) := by decide +kernel
theorem dX5_has_1 : decode cX5_has 1 = .ok (.iload_n 1, 1) := by decide +kernel
theorem dX5_has_2 : decode cX5_has 2 = .ok (.ishr, 1) := by decide +kernel
theorem dX5_has_3 : decode cX5_has 3 = .ok (.iconst 1, 1) := by decide +kernel
theorem dX5_has_4 : decode cX5_has 4 = .ok (.iand, 1) := by decide +kernel
theorem dX5_has_5 : decode cX5_has 5 = .ok (.iconst 1, 1) := by decide +kernel
theorem dX5_has_6 : decode cX5_has 6 = .ok (.if_icmp .ne 7, 3) := by decide +kernel
theorem dX5_has_9 : decode cX5_has 9 = .ok (.iconst 1, 1) := by decide +kernel
theorem dX5_has_10 : decode cX5_has 10 = .ok (.goto 4, 3) := by decide +kernel
theorem dX5_has_13 : decode cX5_has 13 = .ok (.iconst 0, 1) := by decide +kernel
theorem dX5_has_14 : decode cX5_has 14 = .ok (.ireturn, 1) := by decide +kernel
set_option maxRecDepth 20000 in
theorem ggX5_within_X5_has : GoodIn wsX5_within wsX5_has := goodIn_r _ [5] (by decide +kernel) (by decide +kernel)
set_option maxRecDepth 20000 in
theorem gX5_within_X5_has : GoodIn wsX5_within (va_wsS RX5 55 yX5_has wsX5_has) := goodIn_app (goodIn_of _ (by decide +kernel)) ggX5_within_X5_has
theorem dX5_within_0 : decode cX5_within 0 = .ok (.iconst 1, 1) := by decide +kernel
theorem dX5_within_1 : decode cX5_within 1 = .ok (.iload_n 1, 1) := by decide +kernel
theorem dX5_within_2 : decode cX5_within 2 = .ok (.ishl, 1) := by decide +kernel
theorem dX5_within_3 : decode cX5_within 3 = .ok (.istore_n 2, 1) := by decide +kernel
theorem dX5_within_4 : decode cX5_within 4 = .ok (.iconst 0, 1) := by decide +kernel
theorem dX5_within_5 : decode cX5_within 5 = .ok (.istore_n 3, 1) := by decide +kernel
theorem dX5_within_6 : decode cX5_within 6 = .ok (.iload_n 3, 1) := by decide +kernel
theorem dX5_within_7 : decode cX5_within 7 = .ok (.bipush 8, 2) := by decide +kernel
theorem dX5_within_9 : decode cX5_within 9 = .ok (.if_icmp .ge 48, 3) := by decide +kernel
theorem dX5_within_12 : decode cX5_within 12 = .ok (.iconst 0, 1) := by decide +kernel
theorem dX5_within_13 : decode cX5_within 13 = .ok (.istore 4, 2) := by decide +kernel
theorem dX5_within_15 : decode cX5_within 15 = .ok (.iload 4, 2) := by decide +kernel
theorem dX5_within_17 : decode cX5_within 17 = .ok (.bipush 8, 2) := by decide +kernel
theorem dX5_within_19 : decode cX5_within 19 = .ok (.if_icmp .ge 32, 3) := by decide +kernel
theorem dX5_within_22 : decode cX5_within 22 = .ok (.iload_n 2, 1) := by decide +kernel
theorem dX5_within_23 : decode cX5_within 23 = .ok (.iload_n 2, 1) := by decide +kernel
theorem dX5_within_24 : decode cX5_within 24 = .ok (.iload 4, 2) := by decide +kernel
theorem dX5_within_26 : decode cX5_within 26 = .ok (.invokestatic 55, 3) := by decide +kernel
theorem dX5_within_29 : decode cX5_within 29 = .ok (.ifCond .eq 13, 3) := by decide +kernel
theorem dX5_within_32 : decode cX5_within 32 = .ok (.aload_n 0, 1) := by decide +kernel
theorem dX5_within_33 : decode cX5_within 33 = .ok (.getfield 13, 3) := by decide +kernel
theorem dX5_within_36 : decode cX5_within 36 = .ok (.iload 4, 2) := by decide +kernel
theorem dX5_within_38 : decode cX5_within 38 = .ok (.iaload, 1) := by decide +kernel
theorem dX5_within_39 : decode cX5_within 39 = .ok (.goto 4, 3) := by decide +kernel
theorem dX5_within_42 : decode cX5_within 42 = .ok (.iconst 0, 1) := by decide +kernel
theorem dX5_within_43 : decode cX5_within 43 = .ok (.ior, 1) := by decide +kernel
theorem dX5_within_44 : decode cX5_within 44 = .ok (.istore_n 2, 1) := by decide +kernel
theorem dX5_within_45 : decode cX5_within 45 = .ok (.iinc 4 1, 3) := by decide +kernel
theorem dX5_within_48 : decode cX5_within 48 = .ok (.goto (-33), 3) := by decide +kernel
theorem dX5_within_51 : decode cX5_within 51 = .ok (.iinc 3 1, 3) := by decide +kernel
theorem dX5_within_54 : decode cX5_within 54 = .ok (.goto (-48), 3) := by decide +kernel
theorem dX5_within_57 : decode cX5_within 57 = .ok (.iload_n 2, 1) := by decide +kernel
theorem dX5_within_58 : decode cX5_within 58 = .ok (.ireturn, 1) := by decide +kernel
set_option maxRecDepth 20000 in
theorem ggX5_setPerson_X5_isGroup : GoodIn wsX5_setPerson wsX5_isGroup := goodIn_r _ [6, 7, 8, 5, 9] (by decide +kernel) (by decide +kernel)
set_option maxRecDepth 20000 in
theorem gX5_setPerson_X5_isGroup : GoodIn wsX5_setPerson (va_wsS RX5 59 yX5_isGroup wsX5_isGroup) := goodIn_app (goodIn_of _ (by decide +kernel)) ggX5_setPerson_X5_isGroup
set_option maxRecDepth 20000 in
theorem ggX5_setPerson_X5_isPerson : GoodIn wsX5_setPerson wsX5_isPerson := goodIn_r _ [12, 7, 8, 5, 9] (by decide +kernel) (by decide +kernel)
set_option maxRecDepth 20000 in
theorem gX5_setPerson_X5_isPerson : GoodIn wsX5_setPerson (va_wsS RX5 63 yX5_isPerson wsX5_isPerson) := goodIn_app (goodIn_of _ (by decide +kernel)) ggX5_setPerson_X5_isPerson
set_option maxRecDepth 20000 in
theorem ggX5_setPerson_X5_has : GoodIn wsX5_setPerson wsX5_has := goodIn_r _ [15] (by decide +kernel) (by decide +kernel)
set_option maxRecDepth 20000 in
theorem gX5_setPerson_X5_has : GoodIn wsX5_setPerson (va_wsS RX5 55 yX5_has wsX5_has) := goodIn_app (goodIn_of _ (by decide +kernel)) ggX5_setPerson_X5_has
theorem dX5_setPerson_0 : decode cX5_setPerson 0 = .ok (.aload_n 0, 1) := by decide +kernel
theorem dX5_setPerson_1 : decode cX5_setPerson 1 = .ok (.iload_n 1, 1) := by decide +kernel
theorem dX5_setPerson_2 : decode cX5_setPerson 2 = .ok (.invokestatic 59, 3) := by decide +kernel
theorem dX5_setPerson_5 : decode cX5_setPerson 5 = .ok (.ifCond .eq 14, 3) := by decide +kernel
theorem dX5_setPerson_8 : decode cX5_setPerson 8 = .ok (.iload_n 2, 1) := by decide +kernel
theorem dX5_setPerson_9 : decode cX5_setPerson 9 = .ok (.invokestatic 63, 3) := by decide +kernel
theorem dX5_setPerson_12 : decode cX5_setPerson 12 = .ok (.ifCond .eq 7, 3) := by decide +kernel
theorem dX5_setPerson_15 : decode cX5_setPerson 15 = .ok (.iconst 0, 1) := by decide +kernel
theorem dX5_setPerson_16 : decode cX5_setPerson 16 = .ok (.goto 4, 3) := by decide +kernel
theorem dX5_setPerson_19 : decode cX5_setPerson 19 = .ok (.iconst 1, 1) := by decide +kernel
theorem dX5_setPerson_20 : decode cX5_setPerson 20 = .ok (.putfield 47, 3) := by decide +kernel
theorem dX5_setPerson_23 : decode cX5_setPerson 23 = .ok (.aload_n 0, 1) := by decide +kernel
theorem dX5_setPerson_24 : decode cX5_setPerson 24 = .ok (.getfield 47, 3) := by decide +kernel
theorem dX5_setPerson_27 : decode cX5_setPerson 27 = .ok (.ifCond .le 5, 3) := by decide +kernel
theorem dX5_setPerson_30 : decode cX5_setPerson 30 = .ok (.iconst 0, 1) := by decide +kernel
theorem dX5_setPerson_31 : decode cX5_setPerson 31 = .ok (.ireturn, 1) := by decide +kernel
theorem dX5_setPerson_32 : decode cX5_setPerson 32 = .ok (.aload_n 0, 1) := by decide +kernel
theorem dX5_setPerson_33 : decode cX5_setPerson 33 = .ok (.getfield 7, 3) := by decide +kernel
theorem dX5_setPerson_36 : decode cX5_setPerson 36 = .ok (.iload_n 1, 1) := by decide +kernel
theorem dX5_setPerson_37 : decode cX5_setPerson 37 = .ok (.iaload, 1) := by decide +kernel
theorem dX5_setPerson_38 : decode cX5_setPerson 38 = .ok (.iload_n 2, 1) := by decide +kernel
theorem dX5_setPerson_39 : decode cX5_setPerson 39 = .ok (.invokestatic 55, 3) := by decide +kernel
theorem dX5_setPerson_42 : decode cX5_setPerson 42 = .ok (.istore 4, 2) := by decide +kernel
theorem dX5_setPerson_44 : decode cX5_setPerson 44 = .ok (.aload_n 0, 1) := by decide +kernel
theorem dX5_setPerson_45 : decode cX5_setPerson 45 = .ok (.getfield 7, 3) := by decide +kernel
theorem dX5_setPerson_48 : decode cX5_setPerson 48 = .ok (.iload_n 1, 1) := by decide +kernel
theorem dX5_setPerson_49 : decode cX5_setPerson 49 = .ok (.iload_n 3, 1) := by decide +kernel
theorem dX5_setPerson_50 : decode cX5_setPerson 50 = .ok (.ifCond .eq 16, 3) := by decide +kernel
theorem dX5_setPerson_53 : decode cX5_setPerson 53 = .ok (.aload_n 0, 1) := by decide +kernel
theorem dX5_setPerson_54 : decode cX5_setPerson 54 = .ok (.getfield 7, 3) := by decide +kernel
theorem dX5_setPerson_57 : decode cX5_setPerson 57 = .ok (.iload_n 1, 1) := by decide +kernel
theorem dX5_setPerson_58 : decode cX5_setPerson 58 = .ok (.iaload, 1) := by decide +kernel
theorem dX5_setPerson_59 : decode cX5_setPerson 59 = .ok (.iconst 1, 1) := by decide +kernel
theorem dX5_setPerson_60 : decode cX5_setPerson 60 = .ok (.iload_n 2, 1) := by decide +kernel
theorem dX5_setPerson_61 : decode cX5_setPerson 61 = .ok (.ishl, 1) := by decide +kernel
theorem dX5_setPerson_62 : decode cX5_setPerson 62 = .ok (.ior, 1) := by decide +kernel
theorem dX5_setPerson_63 : decode cX5_setPerson 63 = .ok (.goto 15, 3) := by decide +kernel
theorem dX5_setPerson_66 : decode cX5_setPerson 66 = .ok (.aload_n 0, 1) := by decide +kernel
theorem dX5_setPerson_67 : decode cX5_setPerson 67 = .ok (.getfield 7, 3) := by decide +kernel
theorem dX5_setPerson_70 : decode cX5_setPerson 70 = .ok (.iload_n 1, 1) := by decide +kernel
theorem dX5_setPerson_71 : decode cX5_setPerson 71 = .ok (.iaload, 1) := by decide +kernel
theorem dX5_setPerson_72 : decode cX5_setPerson 72 = .ok (.iconst 1, 1) := by decide +kernel
theorem dX5_setPerson_73 : decode cX5_setPerson 73 = .ok (.iload_n 2, 1) := by decide +kernel
theorem dX5_setPerson_74 : decode cX5_setPerson 74 = .ok (.ishl, 1) := by decide +kernel
theorem dX5_setPerson_75 : decode cX5_setPerson 75 = .ok (.iconst (-1), 1) := by decide +kernel
theorem dX5_setPerson_76 : decode cX5_setPerson 76 = .ok (.ixor, 1) := by decide +kernel
theorem dX5_setPerson_77 : decode cX5_setPerson 77 = .ok (.iand, 1) := by decide +kernel
theorem dX5_setPerson_78 : decode cX5_setPerson 78 = .ok (.iastore, 1) := by decide +kernel
theorem dX5_setPerson_79 : decode cX5_setPerson 79 = .ok (.iload 4, 2) := by decide +kernel
theorem dX5_setPerson_81 : decode cX5_setPerson 81 = .ok (.ireturn, 1) := by decide +kernel
set_option maxRecDepth 20000 in
theorem ggX5_setGroup_X5_isGroup : GoodIn wsX5_setGroup wsX5_isGroup := goodIn_r _ [6, 7, 8, 5, 9] (by decide +kernel) (by decide +kernel)
set_option maxRecDepth 20000 in
theorem gX5_setGroup_X5_isGroup : GoodIn wsX5_setGroup (va_wsS RX5 59 yX5_isGroup wsX5_isGroup) := goodIn_app (goodIn_of _ (by decide +kernel)) ggX5_setGroup_X5_isGroup
set_option maxRecDepth 20000 in
theorem ggX5_setGroup_X5_within : GoodIn wsX5_setGroup wsX5_within := goodIn_r _ [13, 2, 14, 15, 5, 16, 17, 18, 19, 20, 21, 22, 23, 24, 25, 26, 27, 28, 29, 30, 31, 32, 33] (by decide +kernel) (by decide +kernel)
set_option maxRecDepth 20000 in
theorem gX5_setGroup_X5_within : GoodIn wsX5_setGroup (wsV RX5 66 RX5 yX5_within wsX5_within) := goodIn_app (goodIn_of _ (by decide +kernel)) ggX5_setGroup_X5_within
set_option maxRecDepth 20000 in
theorem ggX5_setGroup_X5_has : GoodIn wsX5_setGroup wsX5_has := goodIn_r _ [16] (by decide +kernel) (by decide +kernel)
set_option maxRecDepth 20000 in
theorem gX5_setGroup_X5_has : GoodIn wsX5_setGroup (va_wsS RX5 55 yX5_has wsX5_has) := goodIn_app (goodIn_of _ (by decide +kernel)) ggX5_setGroup_X5_has
theorem dX5_setGroup_0 : decode cX5_setGroup 0 = .ok (.aload_n 0, 1) := by decide +kernel
theorem dX5_setGroup_1 : decode cX5_setGroup 1 = .ok (.iload_n 1, 1) := by decide +kernel
theorem dX5_setGroup_2 : decode cX5_setGroup 2 = .ok (.invokestatic 59, 3) := by decide +kernel
theorem dX5_setGroup_5 : decode cX5_setGroup 5 = .ok (.ifCond .eq 15, 3) := by decide +kernel
theorem dX5_setGroup_8 : decode cX5_setGroup 8 = .ok (.iload_n 2, 1) := by decide +kernel
theorem dX5_setGroup_9 : decode cX5_setGroup 9 = .ok (.invokestatic 59, 3) := by decide +kernel
theorem dX5_setGroup_12 : decode cX5_setGroup 12 = .ok (.ifCond .eq 8, 3) := by decide +kernel
theorem dX5_setGroup_15 : decode cX5_setGroup 15 = .ok (.iload_n 1, 1) := by decide +kernel
theorem dX5_setGroup_16 : decode cX5_setGroup 16 = .ok (.iload_n 2, 1) := by decide +kernel
theorem dX5_setGroup_17 : decode cX5_setGroup 17 = .ok (.if_icmp .ne 7, 3) := by decide +kernel
theorem dX5_setGroup_20 : decode cX5_setGroup 20 = .ok (.iconst 1, 1) := by decide +kernel
theorem dX5_setGroup_21 : decode cX5_setGroup 21 = .ok (.goto 24, 3) := by decide +kernel
theorem dX5_setGroup_24 : decode cX5_setGroup 24 = .ok (.iload_n 3, 1) := by decide +kernel
theorem dX5_setGroup_25 : decode cX5_setGroup 25 = .ok (.ifCond .eq 19, 3) := by decide +kernel
theorem dX5_setGroup_28 : decode cX5_setGroup 28 = .ok (.aload_n 0, 1) := by decide +kernel
theorem dX5_setGroup_29 : decode cX5_setGroup 29 = .ok (.iload_n 2, 1) := by decide +kernel
theorem dX5_setGroup_30 : decode cX5_setGroup 30 = .ok (.invokevirtual 66, 3) := by decide +kernel
theorem dX5_setGroup_33 : decode cX5_setGroup 33 = .ok (.iload_n 1, 1) := by decide +kernel
theorem dX5_setGroup_34 : decode cX5_setGroup 34 = .ok (.invokestatic 55, 3) := by decide +kernel
theorem dX5_setGroup_37 : decode cX5_setGroup 37 = .ok (.ifCond .eq 7, 3) := by decide +kernel
theorem dX5_setGroup_40 : decode cX5_setGroup 40 = .ok (.iconst 2, 1) := by decide +kernel
theorem dX5_setGroup_41 : decode cX5_setGroup 41 = .ok (.goto 4, 3) := by decide +kernel
theorem dX5_setGroup_44 : decode cX5_setGroup 44 = .ok (.iconst 0, 1) := by decide +kernel
theorem dX5_setGroup_45 : decode cX5_setGroup 45 = .ok (.putfield 47, 3) := by decide +kernel
theorem dX5_setGroup_48 : decode cX5_setGroup 48 = .ok (.aload_n 0, 1) := by decide +kernel
theorem dX5_setGroup_49 : decode cX5_setGroup 49 = .ok (.getfield 47, 3) := by decide +kernel
theorem dX5_setGroup_52 : decode cX5_setGroup 52 = .ok (.ifCond .le 5, 3) := by decide +kernel
theorem dX5_setGroup_55 : decode cX5_setGroup 55 = .ok (.iconst 0, 1) := by decide +kernel
theorem dX5_setGroup_56 : decode cX5_setGroup 56 = .ok (.ireturn, 1) := by decide +kernel
theorem dX5_setGroup_57 : decode cX5_setGroup 57 = .ok (.aload_n 0, 1) := by decide +kernel
theorem dX5_setGroup_58 : decode cX5_setGroup 58 = .ok (.getfield 13, 3) := by decide +kernel
theorem dX5_setGroup_61 : decode cX5_setGroup 61 = .ok (.iload_n 1, 1) := by decide +kernel
theorem dX5_setGroup_62 : decode cX5_setGroup 62 = .ok (.iaload, 1) := by decide +kernel
theorem dX5_setGroup_63 : decode cX5_setGroup 63 = .ok (.iload_n 2, 1) := by decide +kernel
theorem dX5_setGroup_64 : decode cX5_setGroup 64 = .ok (.invokestatic 55, 3) := by decide +kernel
theorem dX5_setGroup_67 : decode cX5_setGroup 67 = .ok (.istore 4, 2) := by decide +kernel
theorem dX5_setGroup_69 : decode cX5_setGroup 69 = .ok (.aload_n 0, 1) := by decide +kernel
theorem dX5_setGroup_70 : decode cX5_setGroup 70 = .ok (.getfield 13, 3) := by decide +kernel
theorem dX5_setGroup_73 : decode cX5_setGroup 73 = .ok (.iload_n 1, 1) := by decide +kernel
theorem dX5_setGroup_74 : decode cX5_setGroup 74 = .ok (.iload_n 3, 1) := by decide +kernel
theorem dX5_setGroup_75 : decode cX5_setGroup 75 = .ok (.ifCond .eq 16, 3) := by decide +kernel
theorem dX5_setGroup_78 : decode cX5_setGroup 78 = .ok (.aload_n 0, 1) := by decide +kernel
theorem dX5_setGroup_79 : decode cX5_setGroup 79 = .ok (.getfield 13, 3) := by decide +kernel
theorem dX5_setGroup_82 : decode cX5_setGroup 82 = .ok (.iload_n 1, 1) := by decide +kernel
theorem dX5_setGroup_83 : decode cX5_setGroup 83 = .ok (.iaload, 1) := by decide +kernel
theorem dX5_setGroup_84 : decode cX5_setGroup 84 = .ok (.iconst 1, 1) := by decide +kernel
theorem dX5_setGroup_85 : decode cX5_setGroup 85 = .ok (.iload_n 2, 1) := by decide +kernel
theorem dX5_setGroup_86 : decode cX5_setGroup 86 = .ok (.ishl, 1) := by decide +kernel
theorem dX5_setGroup_87 : decode cX5_setGroup 87 = .ok (.ior, 1) := by decide +kernel
theorem dX5_setGroup_88 : decode cX5_setGroup 88 = .ok (.goto 15, 3) := by decide +kernel
theorem dX5_setGroup_91 : decode cX5_setGroup 91 = .ok (.aload_n 0, 1) := by decide +kernel
theorem dX5_setGroup_92 : decode cX5_setGroup 92 = .ok (.getfield 13, 3) := by decide +kernel
theorem dX5_setGroup_95 : decode cX5_setGroup 95 = .ok (.iload_n 1, 1) := by decide +kernel
theorem dX5_setGroup_96 : decode cX5_setGroup 96 = .ok (.iaload, 1) := by decide +kernel
theorem dX5_setGroup_97 : decode cX5_setGroup 97 = .ok (.iconst 1, 1) := by decide +kernel
theorem dX5_setGroup_98 : decode cX5_setGroup 98 = .ok (.iload_n 2, 1) := by decide +kernel
theorem dX5_setGroup_99 : decode cX5_setGroup 99 = .ok (.ishl, 1) := by decide +kernel
theorem dX5_setGroup_100 : decode cX5_setGroup 100 = .ok (.iconst (-1), 1) := by decide +kernel
theorem dX5_setGroup_101 : decode cX5_setGroup 101 = .ok (.ixor, 1) := by decide +kernel
theorem dX5_setGroup_102 : decode cX5_setGroup 102 = .ok (.iand, 1) := by decide +kernel
theorem dX5_setGroup_103 : decode cX5_setGroup 103 = .ok (.iastore, 1) := by decide +kernel
theorem dX5_setGroup_104 : decode cX5_setGroup 104 = .ok (.iload 4, 2) := by decide +kernel
theorem dX5_setGroup_106 : decode cX5_setGroup 106 = .ok (.ireturn, 1) := by decide +kernel
set_option maxRecDepth 20000 in
theorem ggX5_setRole_X5_isGroup : GoodIn wsX5_setRole wsX5_isGroup := goodIn_r _ [6, 7, 8, 5, 9] (by decide +kernel) (by decide +kernel)
set_option maxRecDepth 20000 in
theorem gX5_setRole_X5_isGroup : GoodIn wsX5_setRole (va_wsS RX5 59 yX5_isGroup wsX5_isGroup) := goodIn_app (goodIn_of _ (by decide +kernel)) ggX5_setRole_X5_isGroup
set_option maxRecDepth 20000 in
theorem ggX5_setRole_X5_isRole : GoodIn wsX5_setRole wsX5_isRole := goodIn_r _ [12, 7, 8, 5, 9] (by decide +kernel) (by decide +kernel)
set_option maxRecDepth 20000 in
theorem gX5_setRole_X5_isRole : GoodIn wsX5_setRole (va_wsS RX5 70 yX5_isRole wsX5_isRole) := goodIn_app (goodIn_of _ (by decide +kernel)) ggX5_setRole_X5_isRole
set_option maxRecDepth 20000 in
theorem ggX5_setRole_X5_in : GoodIn wsX5_setRole wsX5_in := goodIn_r _ [9] (by decide +kernel) (by decide +kernel)
set_option maxRecDepth 20000 in
theorem gX5_setRole_X5_in : GoodIn wsX5_setRole (va_wsS RX5 51 yX5_in wsX5_in) := goodIn_app (goodIn_of _ (by decide +kernel)) ggX5_setRole_X5_in
set_option maxRecDepth 20000 in
theorem ggX5_setRole_X5_fails : GoodIn wsX5_setRole wsX5_fails := goodIn_r _ [16, 1, 17, 18, 19, 20, 21, 22, 23, 24, 25, 26, 27, 28, 29, 30, 31, 32, 33] (by decide +kernel) (by decide +kernel)
set_option maxRecDepth 20000 in
theorem gX5_setRole_X5_fails : GoodIn wsX5_setRole (wsV RX5 73 RX5 yX5_fails wsX5_fails) := goodIn_app (goodIn_of _ (by decide +kernel)) ggX5_setRole_X5_fails
theorem dX5_setRole_0 : decode cX5_setRole 0 = .ok (.aload_n 0, 1) := by decide +kernel
theorem dX5_setRole_1 : decode cX5_setRole 1 = .ok (.iconst 0, 1) := by decide +kernel
theorem dX5_setRole_2 : decode cX5_setRole 2 = .ok (.putfield 47, 3) := by decide +kernel
theorem dX5_setRole_5 : decode cX5_setRole 5 = .ok (.iload_n 1, 1) := by decide +kernel
theorem dX5_setRole_6 : decode cX5_setRole 6 = .ok (.invokestatic 59, 3) := by decide +kernel
theorem dX5_setRole_9 : decode cX5_setRole 9 = .ok (.ifCond .eq 19, 3) := by decide +kernel
theorem dX5_setRole_12 : decode cX5_setRole 12 = .ok (.iload_n 2, 1) := by decide +kernel
theorem dX5_setRole_13 : decode cX5_setRole 13 = .ok (.invokestatic 70, 3) := by decide +kernel
theorem dX5_setRole_16 : decode cX5_setRole 16 = .ok (.ifCond .eq 12, 3) := by decide +kernel
theorem dX5_setRole_19 : decode cX5_setRole 19 = .ok (.iload_n 3, 1) := by decide +kernel
theorem dX5_setRole_20 : decode cX5_setRole 20 = .ok (.iconst 0, 1) := by decide +kernel
theorem dX5_setRole_21 : decode cX5_setRole 21 = .ok (.iconst 2, 1) := by decide +kernel
theorem dX5_setRole_22 : decode cX5_setRole 22 = .ok (.invokestatic 51, 3) := by decide +kernel
theorem dX5_setRole_25 : decode cX5_setRole 25 = .ok (.ifCond .ne 9, 3) := by decide +kernel
theorem dX5_setRole_28 : decode cX5_setRole 28 = .ok (.aload_n 0, 1) := by decide +kernel
theorem dX5_setRole_29 : decode cX5_setRole 29 = .ok (.iconst 1, 1) := by decide +kernel
theorem dX5_setRole_30 : decode cX5_setRole 30 = .ok (.invokevirtual 73, 3) := by decide +kernel
theorem dX5_setRole_33 : decode cX5_setRole 33 = .ok (.ireturn, 1) := by decide +kernel
theorem dX5_setRole_34 : decode cX5_setRole 34 = .ok (.aload_n 0, 1) := by decide +kernel
theorem dX5_setRole_35 : decode cX5_setRole 35 = .ok (.getfield 16, 3) := by decide +kernel
theorem dX5_setRole_38 : decode cX5_setRole 38 = .ok (.bipush 6, 2) := by decide +kernel
theorem dX5_setRole_40 : decode cX5_setRole 40 = .ok (.iload_n 1, 1) := by decide +kernel
theorem dX5_setRole_41 : decode cX5_setRole 41 = .ok (.imul, 1) := by decide +kernel
theorem dX5_setRole_42 : decode cX5_setRole 42 = .ok (.iload_n 2, 1) := by decide +kernel
theorem dX5_setRole_43 : decode cX5_setRole 43 = .ok (.iadd, 1) := by decide +kernel
theorem dX5_setRole_44 : decode cX5_setRole 44 = .ok (.iaload, 1) := by decide +kernel
theorem dX5_setRole_45 : decode cX5_setRole 45 = .ok (.istore 4, 2) := by decide +kernel
theorem dX5_setRole_47 : decode cX5_setRole 47 = .ok (.aload_n 0, 1) := by decide +kernel
theorem dX5_setRole_48 : decode cX5_setRole 48 = .ok (.getfield 16, 3) := by decide +kernel
theorem dX5_setRole_51 : decode cX5_setRole 51 = .ok (.bipush 6, 2) := by decide +kernel
theorem dX5_setRole_53 : decode cX5_setRole 53 = .ok (.iload_n 1, 1) := by decide +kernel
theorem dX5_setRole_54 : decode cX5_setRole 54 = .ok (.imul, 1) := by decide +kernel
theorem dX5_setRole_55 : decode cX5_setRole 55 = .ok (.iload_n 2, 1) := by decide +kernel
theorem dX5_setRole_56 : decode cX5_setRole 56 = .ok (.iadd, 1) := by decide +kernel
theorem dX5_setRole_57 : decode cX5_setRole 57 = .ok (.iload_n 3, 1) := by decide +kernel
theorem dX5_setRole_58 : decode cX5_setRole 58 = .ok (.iastore, 1) := by decide +kernel
theorem dX5_setRole_59 : decode cX5_setRole 59 = .ok (.iload 4, 2) := by decide +kernel
theorem dX5_setRole_61 : decode cX5_setRole 61 = .ok (.ireturn, 1) := by decide +kernel
set_option maxRecDepth 20000 in
theorem ggX5_belongs_X5_within : GoodIn wsX5_belongs wsX5_within := goodIn_r _ [6, 7, 8, 9, 5, 10, 11, 12, 13, 14, 15, 16, 17, 18, 19, 20, 21, 22, 23, 24, 25, 26, 27] (by decide +kernel) (by decide +kernel)
set_option maxRecDepth 20000 in
theorem gX5_belongs_X5_within : GoodIn wsX5_belongs (wsV RX5 66 RX5 yX5_within wsX5_within) := goodIn_app (goodIn_of _ (by decide +kernel)) ggX5_belongs_X5_within
set_option maxRecDepth 20000 in
theorem ggX5_belongs_X5_has : GoodIn wsX5_belongs wsX5_has := goodIn_r _ [10] (by decide +kernel) (by decide +kernel)
set_option maxRecDepth 20000 in
theorem gX5_belongs_X5_has : GoodIn wsX5_belongs (va_wsS RX5 55 yX5_has wsX5_has) := goodIn_app (goodIn_of _ (by decide +kernel)) ggX5_belongs_X5_has
theorem dX5_belongs_0 : decode cX5_belongs 0 = .ok (.aload_n 0, 1) := by decide +kernel
theorem dX5_belongs_1 : decode cX5_belongs 1 = .ok (.iload_n 1, 1) := by decide +kernel
theorem dX5_belongs_2 : decode cX5_belongs 2 = .ok (.invokevirtual 66, 3) := by decide +kernel
theorem dX5_belongs_5 : decode cX5_belongs 5 = .ok (.istore_n 3, 1) := by decide +kernel
theorem dX5_belongs_6 : decode cX5_belongs 6 = .ok (.iconst 0, 1) := by decide +kernel
theorem dX5_belongs_7 : decode cX5_belongs 7 = .ok (.istore 4, 2) := by decide +kernel
theorem dX5_belongs_9 : decode cX5_belongs 9 = .ok (.iconst 0, 1) := by decide +kernel
theorem dX5_belongs_10 : decode cX5_belongs 10 = .ok (.istore 5, 2) := by decide +kernel
theorem dX5_belongs_12 : decode cX5_belongs 12 = .ok (.iload 5, 2) := by decide +kernel
theorem dX5_belongs_14 : decode cX5_belongs 14 = .ok (.bipush 8, 2) := by decide +kernel
theorem dX5_belongs_16 : decode cX5_belongs 16 = .ok (.if_icmp .ge 44, 3) := by decide +kernel
theorem dX5_belongs_19 : decode cX5_belongs 19 = .ok (.iload 4, 2) := by decide +kernel
theorem dX5_belongs_21 : decode cX5_belongs 21 = .ok (.ifCond .ne 26, 3) := by decide +kernel
theorem dX5_belongs_24 : decode cX5_belongs 24 = .ok (.iload_n 3, 1) := by decide +kernel
theorem dX5_belongs_25 : decode cX5_belongs 25 = .ok (.iload 5, 2) := by decide +kernel
theorem dX5_belongs_27 : decode cX5_belongs 27 = .ok (.invokestatic 55, 3) := by decide +kernel
theorem dX5_belongs_30 : decode cX5_belongs 30 = .ok (.ifCond .eq 21, 3) := by decide +kernel
theorem dX5_belongs_33 : decode cX5_belongs 33 = .ok (.aload_n 0, 1) := by decide +kernel
theorem dX5_belongs_34 : decode cX5_belongs 34 = .ok (.getfield 7, 3) := by decide +kernel
theorem dX5_belongs_37 : decode cX5_belongs 37 = .ok (.iload 5, 2) := by decide +kernel
theorem dX5_belongs_39 : decode cX5_belongs 39 = .ok (.iaload, 1) := by decide +kernel
theorem dX5_belongs_40 : decode cX5_belongs 40 = .ok (.iload_n 2, 1) := by decide +kernel
theorem dX5_belongs_41 : decode cX5_belongs 41 = .ok (.invokestatic 55, 3) := by decide +kernel
theorem dX5_belongs_44 : decode cX5_belongs 44 = .ok (.ifCond .eq 7, 3) := by decide +kernel
theorem dX5_belongs_47 : decode cX5_belongs 47 = .ok (.iconst 1, 1) := by decide +kernel
