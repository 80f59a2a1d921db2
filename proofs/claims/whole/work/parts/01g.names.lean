theorem dX5_breakGlass_101 : decode cX5_breakGlass 101 = .ok (.getfield 82, 3) := by decide +kernel
theorem dX5_breakGlass_104 : decode cX5_breakGlass 104 = .ok (.bipush 60, 2) := by decide +kernel
theorem dX5_breakGlass_106 : decode cX5_breakGlass 106 = .ok (.iadd, 1) := by decide +kernel
theorem dX5_breakGlass_107 : decode cX5_breakGlass 107 = .ok (.ireturn, 1) := by decide +kernel
theorem dX5_keeps_0 : decode cX5_keeps 0 = .ok (.aload_n 0, 1) := by decide +kernel
theorem dX5_keeps_1 : decode cX5_keeps 1 = .ok (.getfield 44, 3) := by decide +kernel
theorem dX5_keeps_4 : decode cX5_keeps 4 = .ok (.iload_n 2, 1) := by decide +kernel
theorem dX5_keeps_5 : decode cX5_keeps 5 = .ok (.iaload, 1) := by decide +kernel
theorem dX5_keeps_6 : decode cX5_keeps 6 = .ok (.iconst (-1), 1) := by decide +kernel
theorem dX5_keeps_7 : decode cX5_keeps 7 = .ok (.if_icmp .eq 29, 3) := by decide +kernel
theorem dX5_keeps_10 : decode cX5_keeps 10 = .ok (.aload_n 0, 1) := by decide +kernel
theorem dX5_keeps_11 : decode cX5_keeps 11 = .ok (.getfield 82, 3) := by decide +kernel
theorem dX5_keeps_14 : decode cX5_keeps 14 = .ok (.aload_n 0, 1) := by decide +kernel
theorem dX5_keeps_15 : decode cX5_keeps 15 = .ok (.getfield 44, 3) := by decide +kernel
theorem dX5_keeps_18 : decode cX5_keeps 18 = .ok (.iload_n 2, 1) := by decide +kernel
theorem dX5_keeps_19 : decode cX5_keeps 19 = .ok (.iaload, 1) := by decide +kernel
theorem dX5_keeps_20 : decode cX5_keeps 20 = .ok (.iconst 2, 1) := by decide +kernel
theorem dX5_keeps_21 : decode cX5_keeps 21 = .ok (.idiv, 1) := by decide +kernel
theorem dX5_keeps_22 : decode cX5_keeps 22 = .ok (.isub, 1) := by decide +kernel
theorem dX5_keeps_23 : decode cX5_keeps 23 = .ok (.aload_n 0, 1) := by decide +kernel
theorem dX5_keeps_24 : decode cX5_keeps 24 = .ok (.getfield 41, 3) := by decide +kernel
theorem dX5_keeps_27 : decode cX5_keeps 27 = .ok (.iload_n 1, 1) := by decide +kernel
theorem dX5_keeps_28 : decode cX5_keeps 28 = .ok (.iaload, 1) := by decide +kernel
theorem dX5_keeps_29 : decode cX5_keeps 29 = .ok (.if_icmp .ge 7, 3) := by decide +kernel
theorem dX5_keeps_32 : decode cX5_keeps 32 = .ok (.iconst 1, 1) := by decide +kernel
theorem dX5_keeps_33 : decode cX5_keeps 33 = .ok (.goto 4, 3) := by decide +kernel
theorem dX5_keeps_36 : decode cX5_keeps 36 = .ok (.iconst 0, 1) := by decide +kernel
theorem dX5_keeps_37 : decode cX5_keeps 37 = .ok (.ireturn, 1) := by decide +kernel
set_option maxRecDepth 20000 in
theorem ggX5_drops_X5_keeps : GoodIn wsX5_drops wsX5_keeps := goodIn_r _ [6, 1, 7, 8, 9, 10, 11, 12, 13, 14, 15, 16, 17, 18, 19, 20, 21, 22, 23, 24, 25] (by decide +kernel) (by decide +kernel)
set_option maxRecDepth 20000 in
theorem gX5_drops_X5_keeps : GoodIn wsX5_drops (wsV RX5 113 RX5 yX5_keeps wsX5_keeps) := goodIn_app (goodIn_of _ (by decide +kernel)) ggX5_drops_X5_keeps
theorem dX5_drops_0 : decode cX5_drops 0 = .ok (.bipush 60, 2) := by decide +kernel
theorem dX5_drops_2 : decode cX5_drops 2 = .ok (.iload_n 1, 1) := by decide +kernel
theorem dX5_drops_3 : decode cX5_drops 3 = .ok (.imul, 1) := by decide +kernel
theorem dX5_drops_4 : decode cX5_drops 4 = .ok (.istore_n 2, 1) := by decide +kernel
theorem dX5_drops_5 : decode cX5_drops 5 = .ok (.iload_n 2, 1) := by decide +kernel
theorem dX5_drops_6 : decode cX5_drops 6 = .ok (.bipush 60, 2) := by decide +kernel
theorem dX5_drops_8 : decode cX5_drops 8 = .ok (.iload_n 1, 1) := by decide +kernel
theorem dX5_drops_9 : decode cX5_drops 9 = .ok (.imul, 1) := by decide +kernel
theorem dX5_drops_10 : decode cX5_drops 10 = .ok (.bipush 60, 2) := by decide +kernel
theorem dX5_drops_12 : decode cX5_drops 12 = .ok (.iadd, 1) := by decide +kernel
theorem dX5_drops_13 : decode cX5_drops 13 = .ok (.if_icmp .ge 34, 3) := by decide +kernel
theorem dX5_drops_16 : decode cX5_drops 16 = .ok (.aload_n 0, 1) := by decide +kernel
theorem dX5_drops_17 : decode cX5_drops 17 = .ok (.getfield 44, 3) := by decide +kernel
theorem dX5_drops_20 : decode cX5_drops 20 = .ok (.iload_n 2, 1) := by decide +kernel
theorem dX5_drops_21 : decode cX5_drops 21 = .ok (.aload_n 0, 1) := by decide +kernel
theorem dX5_drops_22 : decode cX5_drops 22 = .ok (.iload_n 1, 1) := by decide +kernel
theorem dX5_drops_23 : decode cX5_drops 23 = .ok (.iload_n 2, 1) := by decide +kernel
theorem dX5_drops_24 : decode cX5_drops 24 = .ok (.invokevirtual 113, 3) := by decide +kernel
theorem dX5_drops_27 : decode cX5_drops 27 = .ok (.ifCond .eq 12, 3) := by decide +kernel
theorem dX5_drops_30 : decode cX5_drops 30 = .ok (.aload_n 0, 1) := by decide +kernel
theorem dX5_drops_31 : decode cX5_drops 31 = .ok (.getfield 44, 3) := by decide +kernel
theorem dX5_drops_34 : decode cX5_drops 34 = .ok (.iload_n 2, 1) := by decide +kernel
theorem dX5_drops_35 : decode cX5_drops 35 = .ok (.iaload, 1) := by decide +kernel
theorem dX5_drops_36 : decode cX5_drops 36 = .ok (.goto 4, 3) := by decide +kernel
theorem dX5_drops_39 : decode cX5_drops 39 = .ok (.iconst (-1), 1) := by decide +kernel
theorem dX5_drops_40 : decode cX5_drops 40 = .ok (.iastore, 1) := by decide +kernel
theorem dX5_drops_41 : decode cX5_drops 41 = .ok (.iinc 2 1, 3) := by decide +kernel
theorem dX5_drops_44 : decode cX5_drops 44 = .ok (.goto (-39), 3) := by decide +kernel
theorem dX5_drops_47 : decode cX5_drops 47 = .ok (.return_, 1) := by decide +kernel
set_option maxRecDepth 20000 in
theorem ggX5_setCache_X5_isApp : GoodIn wsX5_setCache wsX5_isApp := goodIn_r _ [6, 7, 8, 5, 9] (by decide +kernel) (by decide +kernel)
set_option maxRecDepth 20000 in
theorem gX5_setCache_X5_isApp : GoodIn wsX5_setCache (va_wsS RX5 116 yX5_isApp wsX5_isApp) := goodIn_app (goodIn_of _ (by decide +kernel)) ggX5_setCache_X5_isApp
set_option maxRecDepth 20000 in
theorem ggX5_setCache_X5_in : GoodIn wsX5_setCache wsX5_in := goodIn_r _ [9] (by decide +kernel) (by decide +kernel)
set_option maxRecDepth 20000 in
theorem gX5_setCache_X5_in : GoodIn wsX5_setCache (va_wsS RX5 51 yX5_in wsX5_in) := goodIn_app (goodIn_of _ (by decide +kernel)) ggX5_setCache_X5_in
set_option maxRecDepth 20000 in
theorem ggX5_setCache_X5_fails : GoodIn wsX5_setCache wsX5_fails := goodIn_r _ [13, 1, 24, 25, 26, 27, 28, 29, 30, 31, 32, 33, 34, 35, 36, 37, 38, 39, 40] (by decide +kernel) (by decide +kernel)
set_option maxRecDepth 20000 in
theorem gX5_setCache_X5_fails : GoodIn wsX5_setCache (wsV RX5 73 RX5 yX5_fails wsX5_fails) := goodIn_app (goodIn_of _ (by decide +kernel)) ggX5_setCache_X5_fails
set_option maxRecDepth 20000 in
theorem ggX5_setCache_X5_drops : GoodIn wsX5_setCache wsX5_drops := goodIn_r _ [17, 18, 19, 20, 21, 5, 22, 23, 2, 24, 25, 26, 27, 28, 29, 30, 31, 32, 33, 34, 35, 36, 37, 38, 39, 40] (by decide +kernel) (by decide +kernel)
set_option maxRecDepth 20000 in
theorem gX5_setCache_X5_drops : GoodIn wsX5_setCache (wsV RX5 119 RX5 yX5_drops wsX5_drops) := goodIn_app (goodIn_of _ (by decide +kernel)) ggX5_setCache_X5_drops
theorem dX5_setCache_0 : decode cX5_setCache 0 = .ok (.aload_n 0, 1) := by decide +kernel
theorem dX5_setCache_1 : decode cX5_setCache 1 = .ok (.iconst 0, 1) := by decide +kernel
theorem dX5_setCache_2 : decode cX5_setCache 2 = .ok (.putfield 47, 3) := by decide +kernel
theorem dX5_setCache_5 : decode cX5_setCache 5 = .ok (.iload_n 1, 1) := by decide +kernel
theorem dX5_setCache_6 : decode cX5_setCache 6 = .ok (.invokestatic 116, 3) := by decide +kernel
theorem dX5_setCache_9 : decode cX5_setCache 9 = .ok (.ifCond .eq 13, 3) := by decide +kernel
theorem dX5_setCache_12 : decode cX5_setCache 12 = .ok (.iload_n 2, 1) := by decide +kernel
theorem dX5_setCache_13 : decode cX5_setCache 13 = .ok (.iconst 0, 1) := by decide +kernel
theorem dX5_setCache_14 : decode cX5_setCache 14 = .ok (.bipush 60, 2) := by decide +kernel
theorem dX5_setCache_16 : decode cX5_setCache 16 = .ok (.invokestatic 51, 3) := by decide +kernel
theorem dX5_setCache_19 : decode cX5_setCache 19 = .ok (.ifCond .ne 9, 3) := by decide +kernel
theorem dX5_setCache_22 : decode cX5_setCache 22 = .ok (.aload_n 0, 1) := by decide +kernel
theorem dX5_setCache_23 : decode cX5_setCache 23 = .ok (.iconst 1, 1) := by decide +kernel
theorem dX5_setCache_24 : decode cX5_setCache 24 = .ok (.invokevirtual 73, 3) := by decide +kernel
theorem dX5_setCache_27 : decode cX5_setCache 27 = .ok (.ireturn, 1) := by decide +kernel
theorem dX5_setCache_28 : decode cX5_setCache 28 = .ok (.aload_n 0, 1) := by decide +kernel
theorem dX5_setCache_29 : decode cX5_setCache 29 = .ok (.getfield 41, 3) := by decide +kernel
theorem dX5_setCache_32 : decode cX5_setCache 32 = .ok (.iload_n 1, 1) := by decide +kernel
theorem dX5_setCache_33 : decode cX5_setCache 33 = .ok (.iaload, 1) := by decide +kernel
theorem dX5_setCache_34 : decode cX5_setCache 34 = .ok (.istore_n 3, 1) := by decide +kernel
theorem dX5_setCache_35 : decode cX5_setCache 35 = .ok (.aload_n 0, 1) := by decide +kernel
theorem dX5_setCache_36 : decode cX5_setCache 36 = .ok (.iload_n 1, 1) := by decide +kernel
theorem dX5_setCache_37 : decode cX5_setCache 37 = .ok (.invokevirtual 119, 3) := by decide +kernel
theorem dX5_setCache_40 : decode cX5_setCache 40 = .ok (.aload_n 0, 1) := by decide +kernel
theorem dX5_setCache_41 : decode cX5_setCache 41 = .ok (.getfield 41, 3) := by decide +kernel
theorem dX5_setCache_44 : decode cX5_setCache 44 = .ok (.iload_n 1, 1) := by decide +kernel
theorem dX5_setCache_45 : decode cX5_setCache 45 = .ok (.iload_n 2, 1) := by decide +kernel
theorem dX5_setCache_46 : decode cX5_setCache 46 = .ok (.iastore, 1) := by decide +kernel
theorem dX5_setCache_47 : decode cX5_setCache 47 = .ok (.aload_n 0, 1) := by decide +kernel
theorem dX5_setCache_48 : decode cX5_setCache 48 = .ok (.iload_n 1, 1) := by decide +kernel
theorem dX5_setCache_49 : decode cX5_setCache 49 = .ok (.invokevirtual 119, 3) := by decide +kernel
theorem dX5_setCache_52 : decode cX5_setCache 52 = .ok (.iload_n 3, 1) := by decide +kernel
theorem dX5_setCache_53 : decode cX5_setCache 53 = .ok (.ireturn, 1) := by decide +kernel
set_option maxRecDepth 20000 in
theorem ggX5_decide_X5_isApp : GoodIn wsX5_decide wsX5_isApp := goodIn_r _ [10, 11, 12, 9, 13] (by decide +kernel) (by decide +kernel)
set_option maxRecDepth 20000 in
theorem gX5_decide_X5_isApp : GoodIn wsX5_decide (va_wsS RX5 116 yX5_isApp wsX5_isApp) := goodIn_app (goodIn_of _ (by decide +kernel)) ggX5_decide_X5_isApp
set_option maxRecDepth 20000 in
theorem ggX5_decide_X5_isRole : GoodIn wsX5_decide wsX5_isRole := goodIn_r _ [16, 11, 12, 9, 13] (by decide +kernel) (by decide +kernel)
set_option maxRecDepth 20000 in
theorem gX5_decide_X5_isRole : GoodIn wsX5_decide (va_wsS RX5 70 yX5_isRole wsX5_isRole) := goodIn_app (goodIn_of _ (by decide +kernel)) ggX5_decide_X5_isRole
set_option maxRecDepth 20000 in
theorem ggX5_decide_X5_fails : GoodIn wsX5_decide wsX5_fails := goodIn_r _ [20, 1, 55, 56, 57, 58, 59, 60, 61, 62, 63, 64, 65, 66, 67, 68, 69, 70, 71] (by decide +kernel) (by decide +kernel)
set_option maxRecDepth 20000 in
theorem gX5_decide_X5_fails : GoodIn wsX5_decide (wsV RX5 73 RX5 yX5_fails wsX5_fails) := goodIn_app (goodIn_of _ (by decide +kernel)) ggX5_decide_X5_fails
set_option maxRecDepth 20000 in
theorem ggX5_decide_X5_isSession : GoodIn wsX5_decide wsX5_isSession := goodIn_r _ [24, 25, 11, 12, 9, 13, 55, 56, 57, 58, 59, 60, 61, 62, 63, 64, 65, 66, 67, 68, 69, 70, 71] (by decide +kernel) (by decide +kernel)
set_option maxRecDepth 20000 in
theorem gX5_decide_X5_isSession : GoodIn wsX5_decide (wsV RX5 103 RX5 yX5_isSession wsX5_isSession) := goodIn_app (goodIn_of _ (by decide +kernel)) ggX5_decide_X5_isSession
set_option maxRecDepth 20000 in
theorem ggX5_decide_X5_keeps : GoodIn wsX5_decide wsX5_keeps := goodIn_r _ [29, 6, 4, 30, 55, 56, 57, 58, 59, 60, 61, 62, 63, 64, 65, 66, 67, 68, 69, 70, 71] (by decide +kernel) (by decide +kernel)
set_option maxRecDepth 20000 in
theorem gX5_decide_X5_keeps : GoodIn wsX5_decide (wsV RX5 113 RX5 yX5_keeps wsX5_keeps) := goodIn_app (goodIn_of _ (by decide +kernel)) ggX5_decide_X5_keeps
set_option maxRecDepth 20000 in
theorem ggX5_decide_X5_lets : GoodIn wsX5_decide wsX5_lets := goodIn_r _ [34, 35, 36, 4, 37, 38, 39, 9, 40, 41, 42, 43, 44, 45, 46, 47, 48, 49, 50, 51, 52, 53, 54, 55, 56, 57, 58, 59, 60, 61, 62, 63, 64, 65, 66, 67, 68, 69, 70, 71] (by decide +kernel) (by decide +kernel)
set_option maxRecDepth 20000 in
theorem gX5_decide_X5_lets : GoodIn wsX5_decide (wsV RX5 100 RX5 yX5_lets wsX5_lets) := goodIn_app (goodIn_of _ (by decide +kernel)) ggX5_decide_X5_lets
theorem dX5_decide_0 : decode cX5_decide 0 = .ok (.aload_n 0, 1) := by decide +kernel
theorem dX5_decide_1 : decode cX5_decide 1 = .ok (.iconst 0, 1) := by decide +kernel
theorem dX5_decide_2 : decode cX5_decide 2 = .ok (.putfield 47, 3) := by decide +kernel
theorem dX5_decide_5 : decode cX5_decide 5 = .ok (.iload_n 1, 1) := by decide +kernel
theorem dX5_decide_6 : decode cX5_decide 6 = .ok (.invokestatic 116, 3) := by decide +kernel
theorem dX5_decide_9 : decode cX5_decide 9 = .ok (.ifCond .eq 10, 3) := by decide +kernel
theorem dX5_decide_12 : decode cX5_decide 12 = .ok (.iload_n 3, 1) := by decide +kernel
theorem dX5_decide_13 : decode cX5_decide 13 = .ok (.invokestatic 70, 3) := by decide +kernel
theorem dX5_decide_16 : decode cX5_decide 16 = .ok (.ifCond .ne 9, 3) := by decide +kernel
theorem dX5_decide_19 : decode cX5_decide 19 = .ok (.aload_n 0, 1) := by decide +kernel
theorem dX5_decide_20 : decode cX5_decide 20 = .ok (.iconst 1, 1) := by decide +kernel
theorem dX5_decide_21 : decode cX5_decide 21 = .ok (.invokevirtual 73, 3) := by decide +kernel
theorem dX5_decide_24 : decode cX5_decide 24 = .ok (.ireturn, 1) := by decide +kernel
theorem dX5_decide_25 : decode cX5_decide 25 = .ok (.aload_n 0, 1) := by decide +kernel
theorem dX5_decide_26 : decode cX5_decide 26 = .ok (.iload_n 2, 1) := by decide +kernel
theorem dX5_decide_27 : decode cX5_decide 27 = .ok (.invokevirtual 103, 3) := by decide +kernel
theorem dX5_decide_30 : decode cX5_decide 30 = .ok (.ifCond .ne 9, 3) := by decide +kernel
theorem dX5_decide_33 : decode cX5_decide 33 = .ok (.aload_n 0, 1) := by decide +kernel
theorem dX5_decide_34 : decode cX5_decide 34 = .ok (.iconst 2, 1) := by decide +kernel
theorem dX5_decide_35 : decode cX5_decide 35 = .ok (.invokevirtual 73, 3) := by decide +kernel
theorem dX5_decide_38 : decode cX5_decide 38 = .ok (.ireturn, 1) := by decide +kernel
theorem dX5_decide_39 : decode cX5_decide 39 = .ok (.aload_n 0, 1) := by decide +kernel
theorem dX5_decide_40 : decode cX5_decide 40 = .ok (.getfield 37, 3) := by decide +kernel
theorem dX5_decide_43 : decode cX5_decide 43 = .ok (.iload_n 2, 1) := by decide +kernel
theorem dX5_decide_44 : decode cX5_decide 44 = .ok (.baload, 1) := by decide +kernel
theorem dX5_decide_45 : decode cX5_decide 45 = .ok (.ifCond .eq 5, 3) := by decide +kernel
theorem dX5_decide_48 : decode cX5_decide 48 = .ok (.iconst 2, 1) := by decide +kernel
theorem dX5_decide_49 : decode cX5_decide 49 = .ok (.ireturn, 1) := by decide +kernel
theorem dX5_decide_50 : decode cX5_decide 50 = .ok (.aload_n 0, 1) := by decide +kernel
theorem dX5_decide_51 : decode cX5_decide 51 = .ok (.getfield 34, 3) := by decide +kernel
theorem dX5_decide_54 : decode cX5_decide 54 = .ok (.iload_n 2, 1) := by decide +kernel
theorem dX5_decide_55 : decode cX5_decide 55 = .ok (.aload_n 0, 1) := by decide +kernel
theorem dX5_decide_56 : decode cX5_decide 56 = .ok (.getfield 82, 3) := by decide +kernel
theorem dX5_decide_59 : decode cX5_decide 59 = .ok (.iastore, 1) := by decide +kernel
theorem dX5_decide_60 : decode cX5_decide 60 = .ok (.bipush 60, 2) := by decide +kernel
theorem dX5_decide_62 : decode cX5_decide 62 = .ok (.iload_n 1, 1) := by decide +kernel
theorem dX5_decide_63 : decode cX5_decide 63 = .ok (.imul, 1) := by decide +kernel
theorem dX5_decide_64 : decode cX5_decide 64 = .ok (.bipush 6, 2) := by decide +kernel
theorem dX5_decide_66 : decode cX5_decide 66 = .ok (.aload_n 0, 1) := by decide +kernel
theorem dX5_decide_67 : decode cX5_decide 67 = .ok (.getfield 25, 3) := by decide +kernel
theorem dX5_decide_70 : decode cX5_decide 70 = .ok (.iload_n 2, 1) := by decide +kernel
theorem dX5_decide_71 : decode cX5_decide 71 = .ok (.iaload, 1) := by decide +kernel
theorem dX5_decide_72 : decode cX5_decide 72 = .ok (.imul, 1) := by decide +kernel
theorem dX5_decide_73 : decode cX5_decide 73 = .ok (.iadd, 1) := by decide +kernel
theorem dX5_decide_74 : decode cX5_decide 74 = .ok (.iload_n 3, 1) := by decide +kernel
theorem dX5_decide_75 : decode cX5_decide 75 = .ok (.iadd, 1) := by decide +kernel
theorem dX5_decide_76 : decode cX5_decide 76 = .ok (.istore 4, 2) := by decide +kernel
theorem dX5_decide_78 : decode cX5_decide 78 = .ok (.aload_n 0, 1) := by decide +kernel
theorem dX5_decide_79 : decode cX5_decide 79 = .ok (.iload_n 1, 1) := by decide +kernel
theorem dX5_decide_80 : decode cX5_decide 80 = .ok (.iload 4, 2) := by decide +kernel
theorem dX5_decide_82 : decode cX5_decide 82 = .ok (.invokevirtual 113, 3) := by decide +kernel
theorem dX5_decide_85 : decode cX5_decide 85 = .ok (.ifCond .ne 36, 3) := by decide +kernel
theorem dX5_decide_88 : decode cX5_decide 88 = .ok (.aload_n 0, 1) := by decide +kernel
theorem dX5_decide_89 : decode cX5_decide 89 = .ok (.getfield 44, 3) := by decide +kernel
theorem dX5_decide_92 : decode cX5_decide 92 = .ok (.iload 4, 2) := by decide +kernel
theorem dX5_decide_94 : decode cX5_decide 94 = .ok (.iconst 2, 1) := by decide +kernel
theorem dX5_decide_95 : decode cX5_decide 95 = .ok (.aload_n 0, 1) := by decide +kernel
theorem dX5_decide_96 : decode cX5_decide 96 = .ok (.getfield 82, 3) := by decide +kernel
theorem dX5_decide_99 : decode cX5_decide 99 = .ok (.imul, 1) := by decide +kernel
theorem dX5_decide_100 : decode cX5_decide 100 = .ok (.aload_n 0, 1) := by decide +kernel
theorem dX5_decide_101 : decode cX5_decide 101 = .ok (.aload_n 0, 1) := by decide +kernel
theorem dX5_decide_102 : decode cX5_decide 102 = .ok (.getfield 25, 3) := by decide +kernel
theorem dX5_decide_105 : decode cX5_decide 105 = .ok (.iload_n 2, 1) := by decide +kernel
theorem dX5_decide_106 : decode cX5_decide 106 = .ok (.iaload, 1) := by decide +kernel
theorem dX5_decide_107 : decode cX5_decide 107 = .ok (.iload_n 3, 1) := by decide +kernel
theorem dX5_decide_108 : decode cX5_decide 108 = .ok (.invokevirtual 100, 3) := by decide +kernel
theorem dX5_decide_111 : decode cX5_decide 111 = .ok (.ifCond .eq 7, 3) := by decide +kernel
theorem dX5_decide_114 : decode cX5_decide 114 = .ok (.iconst 1, 1) := by decide +kernel
theorem dX5_decide_115 : decode cX5_decide 115 = .ok (.goto 4, 3) := by decide +kernel
theorem dX5_decide_118 : decode cX5_decide 118 = .ok (.iconst 0, 1) := by decide +kernel
theorem dX5_decide_119 : decode cX5_decide 119 = .ok (.iadd, 1) := by decide +kernel
theorem dX5_decide_120 : decode cX5_decide 120 = .ok (.iastore, 1) := by decide +kernel
theorem dX5_decide_121 : decode cX5_decide 121 = .ok (.iconst 1, 1) := by decide +kernel
theorem dX5_decide_122 : decode cX5_decide 122 = .ok (.aload_n 0, 1) := by decide +kernel
theorem dX5_decide_123 : decode cX5_decide 123 = .ok (.getfield 44, 3) := by decide +kernel
theorem dX5_decide_126 : decode cX5_decide 126 = .ok (.iload 4, 2) := by decide +kernel
theorem dX5_decide_128 : decode cX5_decide 128 = .ok (.iaload, 1) := by decide +kernel
theorem dX5_decide_129 : decode cX5_decide 129 = .ok (.iconst 2, 1) := by decide +kernel
theorem dX5_decide_130 : decode cX5_decide 130 = .ok (.irem, 1) := by decide +kernel
theorem dX5_decide_131 : decode cX5_decide 131 = .ok (.isub, 1) := by decide +kernel
theorem dX5_decide_132 : decode cX5_decide 132 = .ok (.ireturn, 1) := by decide +kernel
set_option maxRecDepth 20000 in
theorem ggX5_forget_X5_isApp : GoodIn wsX5_forget wsX5_isApp := goodIn_r _ [6, 7, 8, 5, 9] (by decide +kernel) (by decide +kernel)
set_option maxRecDepth 20000 in
theorem gX5_forget_X5_isApp : GoodIn wsX5_forget (va_wsS RX5 116 yX5_isApp wsX5_isApp) := goodIn_app (goodIn_of _ (by decide +kernel)) ggX5_forget_X5_isApp
set_option maxRecDepth 20000 in
theorem ggX5_forget_X5_isPerson : GoodIn wsX5_forget wsX5_isPerson := goodIn_r _ [12, 7, 8, 5, 9] (by decide +kernel) (by decide +kernel)
set_option maxRecDepth 20000 in
theorem gX5_forget_X5_isPerson : GoodIn wsX5_forget (va_wsS RX5 63 yX5_isPerson wsX5_isPerson) := goodIn_app (goodIn_of _ (by decide +kernel)) ggX5_forget_X5_isPerson
set_option maxRecDepth 20000 in
theorem ggX5_forget_X5_fails : GoodIn wsX5_forget wsX5_fails := goodIn_r _ [16, 1, 23, 24, 25, 26, 27, 28, 29, 30, 31, 32, 33, 34, 35, 36, 37, 38, 39] (by decide +kernel) (by decide +kernel)
set_option maxRecDepth 20000 in
theorem gX5_forget_X5_fails : GoodIn wsX5_forget (wsV RX5 73 RX5 yX5_fails wsX5_fails) := goodIn_app (goodIn_of _ (by decide +kernel)) ggX5_forget_X5_fails
set_option maxRecDepth 20000 in
theorem ggX5_forget_X5_keeps : GoodIn wsX5_forget wsX5_keeps := goodIn_r _ [20, 2, 21, 22, 23, 24, 25, 26, 27, 28, 29, 30, 31, 32, 33, 34, 35, 36, 37, 38, 39] (by decide +kernel) (by decide +kernel)
set_option maxRecDepth 20000 in
theorem gX5_forget_X5_keeps : GoodIn wsX5_forget (wsV RX5 113 RX5 yX5_keeps wsX5_keeps) := goodIn_app (goodIn_of _ (by decide +kernel)) ggX5_forget_X5_keeps
theorem dX5_forget_0 : decode cX5_forget 0 = .ok (.aload_n 0, 1) := by decide +kernel
theorem dX5_forget_1 : decode cX5_forget 1 = .ok (.iconst 0, 1) := by decide +kernel
theorem dX5_forget_2 : decode cX5_forget 2 = .ok (.putfield 47, 3) := by decide +kernel
theorem dX5_forget_5 : decode cX5_forget 5 = .ok (.iload_n 1, 1) := by decide +kernel
theorem dX5_forget_6 : decode cX5_forget 6 = .ok (.invokestatic 116, 3) := by decide +kernel
theorem dX5_forget_9 : decode cX5_forget 9 = .ok (.ifCond .eq 10, 3) := by decide +kernel
theorem dX5_forget_12 : decode cX5_forget 12 = .ok (.iload_n 2, 1) := by decide +kernel
theorem dX5_forget_13 : decode cX5_forget 13 = .ok (.invokestatic 63, 3) := by decide +kernel
theorem dX5_forget_16 : decode cX5_forget 16 = .ok (.ifCond .ne 9, 3) := by decide +kernel
theorem dX5_forget_19 : decode cX5_forget 19 = .ok (.aload_n 0, 1) := by decide +kernel
theorem dX5_forget_20 : decode cX5_forget 20 = .ok (.iconst 1, 1) := by decide +kernel
theorem dX5_forget_21 : decode cX5_forget 21 = .ok (.invokevirtual 73, 3) := by decide +kernel
theorem dX5_forget_24 : decode cX5_forget 24 = .ok (.ireturn, 1) := by decide +kernel
theorem dX5_forget_25 : decode cX5_forget 25 = .ok (.iconst 0, 1) := by decide +kernel
theorem dX5_forget_26 : decode cX5_forget 26 = .ok (.istore_n 3, 1) := by decide +kernel
theorem dX5_forget_27 : decode cX5_forget 27 = .ok (.iconst 0, 1) := by decide +kernel
theorem dX5_forget_28 : decode cX5_forget 28 = .ok (.istore 4, 2) := by decide +kernel
theorem dX5_forget_30 : decode cX5_forget 30 = .ok (.iload 4, 2) := by decide +kernel
theorem dX5_forget_32 : decode cX5_forget 32 = .ok (.bipush 6, 2) := by decide +kernel
theorem dX5_forget_34 : decode cX5_forget 34 = .ok (.if_icmp .ge 49, 3) := by decide +kernel
theorem dX5_forget_37 : decode cX5_forget 37 = .ok (.bipush 60, 2) := by decide +kernel
theorem dX5_forget_39 : decode cX5_forget 39 = .ok (.iload_n 1, 1) := by decide +kernel
theorem dX5_forget_40 : decode cX5_forget 40 = .ok (.imul, 1) := by decide +kernel
theorem dX5_forget_41 : decode cX5_forget 41 = .ok (.bipush 6, 2) := by decide +kernel
theorem dX5_forget_43 : decode cX5_forget 43 = .ok (.iload_n 2, 1) := by decide +kernel
theorem dX5_forget_44 : decode cX5_forget 44 = .ok (.imul, 1) := by decide +kernel
theorem dX5_forget_45 : decode cX5_forget 45 = .ok (.iadd, 1) := by decide +kernel
theorem dX5_forget_46 : decode cX5_forget 46 = .ok (.iload 4, 2) := by decide +kernel
theorem dX5_forget_48 : decode cX5_forget 48 = .ok (.iadd, 1) := by decide +kernel
theorem dX5_forget_49 : decode cX5_forget 49 = .ok (.istore 5, 2) := by decide +kernel
theorem dX5_forget_51 : decode cX5_forget 51 = .ok (.iload_n 3, 1) := by decide +kernel
theorem dX5_forget_52 : decode cX5_forget 52 = .ok (.aload_n 0, 1) := by decide +kernel
theorem dX5_forget_53 : decode cX5_forget 53 = .ok (.iload_n 1, 1) := by decide +kernel
theorem dX5_forget_54 : decode cX5_forget 54 = .ok (.iload 5, 2) := by decide +kernel
theorem dX5_forget_56 : decode cX5_forget 56 = .ok (.invokevirtual 113, 3) := by decide +kernel
theorem dX5_forget_59 : decode cX5_forget 59 = .ok (.ifCond .eq 7, 3) := by decide +kernel
theorem dX5_forget_62 : decode cX5_forget 62 = .ok (.iconst 1, 1) := by decide +kernel
theorem dX5_forget_63 : decode cX5_forget 63 = .ok (.goto 4, 3) := by decide +kernel
theorem dX5_forget_66 : decode cX5_forget 66 = .ok (.iconst 0, 1) := by decide +kernel
theorem dX5_forget_67 : decode cX5_forget 67 = .ok (.iadd, 1) := by decide +kernel
theorem dX5_forget_68 : decode cX5_forget 68 = .ok (.istore_n 3, 1) := by decide +kernel
theorem dX5_forget_69 : decode cX5_forget 69 = .ok (.aload_n 0, 1) := by decide +kernel
theorem dX5_forget_70 : decode cX5_forget 70 = .ok (.getfield 44, 3) := by decide +kernel
theorem dX5_forget_73 : decode cX5_forget 73 = .ok (.iload 5, 2) := by decide +kernel
theorem dX5_forget_75 : decode cX5_forget 75 = .ok (.iconst (-1), 1) := by decide +kernel
theorem dX5_forget_76 : decode cX5_forget 76 = .ok (.iastore, 1) := by decide +kernel
theorem dX5_forget_77 : decode cX5_forget 77 = .ok (.iinc 4 1, 3) := by decide +kernel
theorem dX5_forget_80 : decode cX5_forget 80 = .ok (.goto (-50), 3) := by decide +kernel
theorem dX5_forget_83 : decode cX5_forget 83 = .ok (.iload_n 3, 1) := by decide +kernel
theorem dX5_forget_84 : decode cX5_forget 84 = .ok (.ireturn, 1) := by decide +kernel
set_option maxRecDepth 20000 in
theorem ggX5_stale_X5_isApp : GoodIn wsX5_stale wsX5_isApp := goodIn_r _ [6, 7, 8, 5, 9] (by decide +kernel) (by decide +kernel)
set_option maxRecDepth 20000 in
theorem gX5_stale_X5_isApp : GoodIn wsX5_stale (va_wsS RX5 116 yX5_isApp wsX5_isApp) := goodIn_app (goodIn_of _ (by decide +kernel)) ggX5_stale_X5_isApp
set_option maxRecDepth 20000 in
theorem ggX5_stale_X5_fails : GoodIn wsX5_stale wsX5_fails := goodIn_r _ [13, 1, 44, 45, 46, 47, 48, 49, 50, 51, 52, 53, 54, 55, 56, 57, 58, 59, 60] (by decide +kernel) (by decide +kernel)
set_option maxRecDepth 20000 in
theorem gX5_stale_X5_fails : GoodIn wsX5_stale (wsV RX5 73 RX5 yX5_fails wsX5_fails) := goodIn_app (goodIn_of _ (by decide +kernel)) ggX5_stale_X5_fails
set_option maxRecDepth 20000 in
theorem ggX5_stale_X5_keeps : GoodIn wsX5_stale wsX5_keeps := goodIn_r _ [17, 2, 18, 19, 44, 45, 46, 47, 48, 49, 50, 51, 52, 53, 54, 55, 56, 57, 58, 59, 60] (by decide +kernel) (by decide +kernel)
set_option maxRecDepth 20000 in
theorem gX5_stale_X5_keeps : GoodIn wsX5_stale (wsV RX5 113 RX5 yX5_keeps wsX5_keeps) := goodIn_app (goodIn_of _ (by decide +kernel)) ggX5_stale_X5_keeps
set_option maxRecDepth 20000 in
theorem ggX5_stale_X5_lets : GoodIn wsX5_stale wsX5_lets := goodIn_r _ [23, 24, 25, 18, 26, 27, 28, 5, 29, 30, 31, 32, 33, 34, 35, 36, 37, 38, 39, 40, 41, 42, 43, 44, 45, 46, 47, 48, 49, 50, 51, 52, 53, 54, 55, 56, 57, 58, 59, 60] (by decide +kernel) (by decide +kernel)
set_option maxRecDepth 20000 in
theorem gX5_stale_X5_lets : GoodIn wsX5_stale (wsV RX5 100 RX5 yX5_lets wsX5_lets) := goodIn_app (goodIn_of _ (by decide +kernel)) ggX5_stale_X5_lets
theorem dX5_stale_0 : decode cX5_stale 0 = .ok (.aload_n 0, 1) := by decide +kernel
theorem dX5_stale_1 : decode cX5_stale 1 = .ok (.iconst 0, 1) := by decide +kernel
theorem dX5_stale_2 : decode cX5_stale 2 = .ok (.putfield 47, 3) := by decide +kernel
theorem dX5_stale_5 : decode cX5_stale 5 = .ok (.iload_n 1, 1) := by decide +kernel
theorem dX5_stale_6 : decode cX5_stale 6 = .ok (.invokestatic 116, 3) := by decide +kernel
theorem dX5_stale_9 : decode cX5_stale 9 = .ok (.ifCond .ne 9, 3) := by decide +kernel
theorem dX5_stale_12 : decode cX5_stale 12 = .ok (.aload_n 0, 1) := by decide +kernel
theorem dX5_stale_13 : decode cX5_stale 13 = .ok (.iconst 1, 1) := by decide +kernel
theorem dX5_stale_14 : decode cX5_stale 14 = .ok (.invokevirtual 73, 3) := by decide +kernel
theorem dX5_stale_17 : decode cX5_stale 17 = .ok (.ireturn, 1) := by decide +kernel
theorem dX5_stale_18 : decode cX5_stale 18 = .ok (.iconst 0, 1) := by decide +kernel
theorem dX5_stale_19 : decode cX5_stale 19 = .ok (.istore_n 2, 1) := by decide +kernel
theorem dX5_stale_20 : decode cX5_stale 20 = .ok (.iconst 0, 1) := by decide +kernel
theorem dX5_stale_21 : decode cX5_stale 21 = .ok (.istore_n 3, 1) := by decide +kernel
theorem dX5_stale_22 : decode cX5_stale 22 = .ok (.iload_n 3, 1) := by decide +kernel
theorem dX5_stale_23 : decode cX5_stale 23 = .ok (.bipush 60, 2) := by decide +kernel
theorem dX5_stale_25 : decode cX5_stale 25 = .ok (.if_icmp .ge 68, 3) := by decide +kernel
theorem dX5_stale_28 : decode cX5_stale 28 = .ok (.bipush 60, 2) := by decide +kernel
theorem dX5_stale_30 : decode cX5_stale 30 = .ok (.iload_n 1, 1) := by decide +kernel
theorem dX5_stale_31 : decode cX5_stale 31 = .ok (.imul, 1) := by decide +kernel
theorem dX5_stale_32 : decode cX5_stale 32 = .ok (.iload_n 3, 1) := by decide +kernel
theorem dX5_stale_33 : decode cX5_stale 33 = .ok (.iadd, 1) := by decide +kernel
theorem dX5_stale_34 : decode cX5_stale 34 = .ok (.istore 4, 2) := by decide +kernel
theorem dX5_stale_36 : decode cX5_stale 36 = .ok (.iload_n 2, 1) := by decide +kernel
theorem dX5_stale_37 : decode cX5_stale 37 = .ok (.aload_n 0, 1) := by decide +kernel
theorem dX5_stale_38 : decode cX5_stale 38 = .ok (.iload_n 1, 1) := by decide +kernel
theorem dX5_stale_39 : decode cX5_stale 39 = .ok (.iload 4, 2) := by decide +kernel
theorem dX5_stale_41 : decode cX5_stale 41 = .ok (.invokevirtual 113, 3) := by decide +kernel
theorem dX5_stale_44 : decode cX5_stale 44 = .ok (.ifCond .eq 40, 3) := by decide +kernel
theorem dX5_stale_47 : decode cX5_stale 47 = .ok (.aload_n 0, 1) := by decide +kernel
theorem dX5_stale_48 : decode cX5_stale 48 = .ok (.getfield 44, 3) := by decide +kernel
theorem dX5_stale_51 : decode cX5_stale 51 = .ok (.iload 4, 2) := by decide +kernel
theorem dX5_stale_53 : decode cX5_stale 53 = .ok (.iaload, 1) := by decide +kernel
theorem dX5_stale_54 : decode cX5_stale 54 = .ok (.iconst 2, 1) := by decide +kernel
theorem dX5_stale_55 : decode cX5_stale 55 = .ok (.irem, 1) := by decide +kernel
theorem dX5_stale_56 : decode cX5_stale 56 = .ok (.iconst 1, 1) := by decide +kernel
theorem dX5_stale_57 : decode cX5_stale 57 = .ok (.if_icmp .ne 7, 3) := by decide +kernel
theorem dX5_stale_60 : decode cX5_stale 60 = .ok (.iconst 1, 1) := by decide +kernel
theorem dX5_stale_61 : decode cX5_stale 61 = .ok (.goto 4, 3) := by decide +kernel
theorem dX5_stale_64 : decode cX5_stale 64 = .ok (.iconst 0, 1) := by decide +kernel
theorem dX5_stale_65 : decode cX5_stale 65 = .ok (.aload_n 0, 1) := by decide +kernel
theorem dX5_stale_66 : decode cX5_stale 66 = .ok (.iload_n 3, 1) := by decide +kernel
theorem dX5_stale_67 : decode cX5_stale 67 = .ok (.bipush 6, 2) := by decide +kernel
theorem dX5_stale_69 : decode cX5_stale 69 = .ok (.idiv, 1) := by decide +kernel
theorem dX5_stale_70 : decode cX5_stale 70 = .ok (.iload_n 3, 1) := by decide +kernel
theorem dX5_stale_71 : decode cX5_stale 71 = .ok (.bipush 6, 2) := by decide +kernel
theorem dX5_stale_73 : decode cX5_stale 73 = .ok (.irem, 1) := by decide +kernel
theorem dX5_stale_74 : decode cX5_stale 74 = .ok (.invokevirtual 100, 3) := by decide +kernel
theorem dX5_stale_77 : decode cX5_stale 77 = .ok (.if_icmp .eq 7, 3) := by decide +kernel
theorem dX5_stale_80 : decode cX5_stale 80 = .ok (.iconst 1, 1) := by decide +kernel
theorem dX5_stale_81 : decode cX5_stale 81 = .ok (.goto 4, 3) := by decide +kernel
theorem dX5_stale_84 : decode cX5_stale 84 = .ok (.iconst 0, 1) := by decide +kernel
theorem dX5_stale_85 : decode cX5_stale 85 = .ok (.iadd, 1) := by decide +kernel
theorem dX5_stale_86 : decode cX5_stale 86 = .ok (.istore_n 2, 1) := by decide +kernel
theorem dX5_stale_87 : decode cX5_stale 87 = .ok (.iinc 3 1, 3) := by decide +kernel
theorem dX5_stale_90 : decode cX5_stale 90 = .ok (.goto (-68), 3) := by decide +kernel
theorem dX5_stale_93 : decode cX5_stale 93 = .ok (.iload_n 2, 1) := by decide +kernel
theorem dX5_stale_94 : decode cX5_stale 94 = .ok (.ireturn, 1) := by decide +kernel
theorem dJ7_fill_53178_0 : decode cJ7_fill_53178 0 = .ok (.iconst 0, 1) := by decide +kernel
theorem dJ7_fill_53178_1 : decode cJ7_fill_53178 1 = .ok (.istore_n 2, 1) := by decide +kernel
theorem dJ7_fill_53178_2 : decode cJ7_fill_53178 2 = .ok (.aload_n 0, 1) := by decide +kernel
theorem dJ7_fill_53178_3 : decode cJ7_fill_53178 3 = .ok (.arraylength, 1) := by decide +kernel
theorem dJ7_fill_53178_4 : decode cJ7_fill_53178 4 = .ok (.istore_n 3, 1) := by decide +kernel
theorem dJ7_fill_53178_5 : decode cJ7_fill_53178 5 = .ok (.iload_n 2, 1) := by decide +kernel
theorem dJ7_fill_53178_6 : decode cJ7_fill_53178 6 = .ok (.iload_n 3, 1) := by decide +kernel
theorem dJ7_fill_53178_7 : decode cJ7_fill_53178 7 = .ok (.if_icmp .ge 13, 3) := by decide +kernel
theorem dJ7_fill_53178_10 : decode cJ7_fill_53178 10 = .ok (.aload_n 0, 1) := by decide +kernel
theorem dJ7_fill_53178_11 : decode cJ7_fill_53178 11 = .ok (.iload_n 2, 1) := by decide +kernel
theorem dJ7_fill_53178_12 : decode cJ7_fill_53178 12 = .ok (.iload_n 1, 1) := by decide +kernel
theorem dJ7_fill_53178_13 : decode cJ7_fill_53178 13 = .ok (.iastore, 1) := by decide +kernel
theorem dJ7_fill_53178_14 : decode cJ7_fill_53178 14 = .ok (.iinc 2 1, 3) := by decide +kernel
theorem dJ7_fill_53178_17 : decode cJ7_fill_53178 17 = .ok (.goto (-12), 3) := by decide +kernel
theorem dJ7_fill_53178_20 : decode cJ7_fill_53178 20 = .ok (.return_, 1) := by decide +kernel
set_option maxRecDepth 20000 in
theorem ggL_setPerson_X4_setPerson : GoodIn wsL_setPerson wsX4_setPerson := goodIn_ca (goodIn_r _ [6, 7, 8, 9, 10, 11, 5, 12, 13, 14, 15, 16, 17, 18, 19, 20, 21, 22, 23, 24, 25, 26, 27, 28, 29, 30, 31, 32, 33, 34, 35] (by decide +kernel) (by decide +kernel)) (goodIn_sub (fun _ h => List.mem_cons_of_mem _ (List.mem_append_right _ h)) (by decide +kernel))
set_option maxRecDepth 20000 in
theorem gL_setPerson_X4_setPerson : GoodIn wsL_setPerson (wsV RL 7 RX4 yX4_setPerson wsX4_setPerson) := goodIn_app (goodIn_of _ (by decide +kernel)) ggL_setPerson_X4_setPerson
theorem dL_setPerson_0 : decode cL_setPerson 0 = .ok (.aload 4, 2) := by decide +kernel
theorem dL_setPerson_2 : decode cL_setPerson 2 = .ok (.iconst 0, 1) := by decide +kernel
theorem dL_setPerson_3 : decode cL_setPerson 3 = .ok (.aload_n 0, 1) := by decide +kernel
theorem dL_setPerson_4 : decode cL_setPerson 4 = .ok (.iload_n 1, 1) := by decide +kernel
theorem dL_setPerson_5 : decode cL_setPerson 5 = .ok (.iload_n 2, 1) := by decide +kernel
theorem dL_setPerson_6 : decode cL_setPerson 6 = .ok (.iload_n 3, 1) := by decide +kernel
theorem dL_setPerson_7 : decode cL_setPerson 7 = .ok (.invokevirtual 7, 3) := by decide +kernel
theorem dL_setPerson_10 : decode cL_setPerson 10 = .ok (.ifCond .eq 7, 3) := by decide +kernel
theorem dL_setPerson_13 : decode cL_setPerson 13 = .ok (.lconst 1, 1) := by decide +kernel
theorem dL_setPerson_14 : decode cL_setPerson 14 = .ok (.goto 4, 3) := by decide +kernel
theorem dL_setPerson_17 : decode cL_setPerson 17 = .ok (.lconst 0, 1) := by decide +kernel
theorem dL_setPerson_18 : decode cL_setPerson 18 = .ok (.lastore, 1) := by decide +kernel
theorem dL_setPerson_19 : decode cL_setPerson 19 = .ok (.goto 7, 3) := by decide +kernel
theorem dL_setPerson_22 : decode cL_setPerson 22 = .ok (.astore 5, 2) := by decide +kernel
theorem dL_setPerson_24 : decode cL_setPerson 24 = .ok (.iconst 1, 1) := by decide +kernel
theorem dL_setPerson_25 : decode cL_setPerson 25 = .ok (.ireturn, 1) := by decide +kernel
theorem dL_setPerson_26 : decode cL_setPerson 26 = .ok (.iconst 0, 1) := by decide +kernel
theorem dL_setPerson_27 : decode cL_setPerson 27 = .ok (.ireturn, 1) := by decide +kernel
set_option maxRecDepth 20000 in
theorem ggL_setGroup_X4_setGroup : GoodIn wsL_setGroup wsX4_setGroup := goodIn_ca (goodIn_ca (goodIn_r _ [7, 8, 9, 10, 11, 12, 13, 14, 6, 15, 16, 17, 18, 19, 20, 21, 22, 23, 24, 25, 26, 27, 28, 29, 30, 31, 32, 33, 34, 35, 36, 37, 38, 39, 40, 41, 42, 43, 44, 45, 46, 47, 48, 49, 50] (by decide +kernel) (by decide +kernel)) (goodIn_sub (fun _ h => List.mem_cons_of_mem _ (List.mem_append_left _ (List.mem_append_right _ h))) (by decide +kernel))) (goodIn_sub (fun _ h => List.mem_cons_of_mem _ (List.mem_append_right _ h)) (by decide +kernel))
set_option maxRecDepth 20000 in
theorem gL_setGroup_X4_setGroup : GoodIn wsL_setGroup (wsV RL 15 RX4 yX4_setGroup wsX4_setGroup) := goodIn_app (goodIn_of _ (by decide +kernel)) ggL_setGroup_X4_setGroup
theorem dL_setGroup_0 : decode cL_setGroup 0 = .ok (.aload 4, 2) := by decide +kernel
theorem dL_setGroup_2 : decode cL_setGroup 2 = .ok (.iconst 0, 1) := by decide +kernel
theorem dL_setGroup_3 : decode cL_setGroup 3 = .ok (.aload_n 0, 1) := by decide +kernel
theorem dL_setGroup_4 : decode cL_setGroup 4 = .ok (.iload_n 1, 1) := by decide +kernel
theorem dL_setGroup_5 : decode cL_setGroup 5 = .ok (.iload_n 2, 1) := by decide +kernel
theorem dL_setGroup_6 : decode cL_setGroup 6 = .ok (.iload_n 3, 1) := by decide +kernel
theorem dL_setGroup_7 : decode cL_setGroup 7 = .ok (.invokevirtual 15, 3) := by decide +kernel
theorem dL_setGroup_10 : decode cL_setGroup 10 = .ok (.ifCond .eq 7, 3) := by decide +kernel
theorem dL_setGroup_13 : decode cL_setGroup 13 = .ok (.lconst 1, 1) := by decide +kernel
theorem dL_setGroup_14 : decode cL_setGroup 14 = .ok (.goto 4, 3) := by decide +kernel
theorem dL_setGroup_17 : decode cL_setGroup 17 = .ok (.lconst 0, 1) := by decide +kernel
theorem dL_setGroup_18 : decode cL_setGroup 18 = .ok (.lastore, 1) := by decide +kernel
theorem dL_setGroup_19 : decode cL_setGroup 19 = .ok (.goto 11, 3) := by decide +kernel
theorem dL_setGroup_22 : decode cL_setGroup 22 = .ok (.astore 5, 2) := by decide +kernel
theorem dL_setGroup_24 : decode cL_setGroup 24 = .ok (.iconst 1, 1) := by decide +kernel
theorem dL_setGroup_25 : decode cL_setGroup 25 = .ok (.ireturn, 1) := by decide +kernel
theorem dL_setGroup_26 : decode cL_setGroup 26 = .ok (.astore 5, 2) := by decide +kernel
theorem dL_setGroup_28 : decode cL_setGroup 28 = .ok (.iconst 2, 1) := by decide +kernel
theorem dL_setGroup_29 : decode cL_setGroup 29 = .ok (.ireturn, 1) := by decide +kernel
theorem dL_setGroup_30 : decode cL_setGroup 30 = .ok (.iconst 0, 1) := by decide +kernel
theorem dL_setGroup_31 : decode cL_setGroup 31 = .ok (.ireturn, 1) := by decide +kernel
set_option maxRecDepth 20000 in
theorem ggL_setRole_X4_setRole : GoodIn wsL_setRole wsX4_setRole := goodIn_ca (goodIn_r _ [6, 7, 8, 9, 10, 11, 5, 12, 13, 14, 15, 16, 17, 18, 19, 20, 21, 22, 23, 24, 25, 26, 27, 28, 29, 30, 31, 32, 33, 34, 35, 36, 37, 38, 39, 40] (by decide +kernel) (by decide +kernel)) (goodIn_sub (fun _ h => List.mem_cons_of_mem _ (List.mem_append_right _ h)) (by decide +kernel))
set_option maxRecDepth 20000 in
theorem gL_setRole_X4_setRole : GoodIn wsL_setRole (wsV RL 20 RX4 yX4_setRole wsX4_setRole) := goodIn_app (goodIn_of _ (by decide +kernel)) ggL_setRole_X4_setRole
theorem dL_setRole_0 : decode cL_setRole 0 = .ok (.aload 4, 2) := by decide +kernel
theorem dL_setRole_2 : decode cL_setRole 2 = .ok (.iconst 0, 1) := by decide +kernel
theorem dL_setRole_3 : decode cL_setRole 3 = .ok (.aload_n 0, 1) := by decide +kernel
theorem dL_setRole_4 : decode cL_setRole 4 = .ok (.iload_n 1, 1) := by decide +kernel
theorem dL_setRole_5 : decode cL_setRole 5 = .ok (.iload_n 2, 1) := by decide +kernel
theorem dL_setRole_6 : decode cL_setRole 6 = .ok (.iload_n 3, 1) := by decide +kernel
theorem dL_setRole_7 : decode cL_setRole 7 = .ok (.invokevirtual 20, 3) := by decide +kernel
theorem dL_setRole_10 : decode cL_setRole 10 = .ok (.i2l, 1) := by decide +kernel
theorem dL_setRole_11 : decode cL_setRole 11 = .ok (.lastore, 1) := by decide +kernel
theorem dL_setRole_12 : decode cL_setRole 12 = .ok (.goto 7, 3) := by decide +kernel
theorem dL_setRole_15 : decode cL_setRole 15 = .ok (.astore 5, 2) := by decide +kernel
theorem dL_setRole_17 : decode cL_setRole 17 = .ok (.iconst 1, 1) := by decide +kernel
theorem dL_setRole_18 : decode cL_setRole 18 = .ok (.ireturn, 1) := by decide +kernel
theorem dL_setRole_19 : decode cL_setRole 19 = .ok (.iconst 0, 1) := by decide +kernel
theorem dL_setRole_20 : decode cL_setRole 20 = .ok (.ireturn, 1) := by decide +kernel
set_option maxRecDepth 20000 in
theorem ggL_setRisk_X4_setRisk : GoodIn wsL_setRisk wsX4_setRisk := goodIn_ca (goodIn_r _ [6, 7, 8, 9, 10, 11, 12, 5, 13, 14, 15, 16, 17, 18, 19, 20, 21, 22, 23, 24, 25, 26, 27, 28, 29, 30, 31, 32, 33, 34, 35, 36, 37, 38] (by decide +kernel) (by decide +kernel)) (goodIn_sub (fun _ h => List.mem_cons_of_mem _ (List.mem_append_right _ h)) (by decide +kernel))
set_option maxRecDepth 20000 in
theorem gL_setRisk_X4_setRisk : GoodIn wsL_setRisk (wsV RL 24 RX4 yX4_setRisk wsX4_setRisk) := goodIn_app (goodIn_of _ (by decide +kernel)) ggL_setRisk_X4_setRisk
theorem dL_setRisk_0 : decode cL_setRisk 0 = .ok (.aload_n 3, 1) := by decide +kernel
theorem dL_setRisk_1 : decode cL_setRisk 1 = .ok (.iconst 0, 1) := by decide +kernel
theorem dL_setRisk_2 : decode cL_setRisk 2 = .ok (.aload_n 0, 1) := by decide +kernel
theorem dL_setRisk_3 : decode cL_setRisk 3 = .ok (.iload_n 1, 1) := by decide +kernel
theorem dL_setRisk_4 : decode cL_setRisk 4 = .ok (.iload_n 2, 1) := by decide +kernel
theorem dL_setRisk_5 : decode cL_setRisk 5 = .ok (.invokevirtual 24, 3) := by decide +kernel
theorem dL_setRisk_8 : decode cL_setRisk 8 = .ok (.i2l, 1) := by decide +kernel
theorem dL_setRisk_9 : decode cL_setRisk 9 = .ok (.lastore, 1) := by decide +kernel
theorem dL_setRisk_10 : decode cL_setRisk 10 = .ok (.goto 7, 3) := by decide +kernel
theorem dL_setRisk_13 : decode cL_setRisk 13 = .ok (.astore 4, 2) := by decide +kernel
theorem dL_setRisk_15 : decode cL_setRisk 15 = .ok (.iconst 1, 1) := by decide +kernel
theorem dL_setRisk_16 : decode cL_setRisk 16 = .ok (.ireturn, 1) := by decide +kernel
theorem dL_setRisk_17 : decode cL_setRisk 17 = .ok (.iconst 0, 1) := by decide +kernel
theorem dL_setRisk_18 : decode cL_setRisk 18 = .ok (.ireturn, 1) := by decide +kernel
set_option maxRecDepth 20000 in
theorem ggL_isIn_X4_isIn : GoodIn wsL_isIn wsX4_isIn := goodIn_ca (goodIn_r _ [6, 7, 8, 9, 10, 11, 5, 12, 13, 14, 15, 16, 17, 18, 19, 20, 21, 22, 23, 24, 25, 26, 27, 28, 29, 30, 31, 32, 33, 34, 35, 36, 37, 38, 39, 40, 41] (by decide +kernel) (by decide +kernel)) (goodIn_sub (fun _ h => List.mem_cons_of_mem _ (List.mem_append_right _ h)) (by decide +kernel))
set_option maxRecDepth 20000 in
theorem gL_isIn_X4_isIn : GoodIn wsL_isIn (wsV RL 28 RX4 yX4_isIn wsX4_isIn) := goodIn_app (goodIn_of _ (by decide +kernel)) ggL_isIn_X4_isIn
theorem dL_isIn_0 : decode cL_isIn 0 = .ok (.aload_n 3, 1) := by decide +kernel
theorem dL_isIn_1 : decode cL_isIn 1 = .ok (.iconst 0, 1) := by decide +kernel
theorem dL_isIn_2 : decode cL_isIn 2 = .ok (.aload_n 0, 1) := by decide +kernel
theorem dL_isIn_3 : decode cL_isIn 3 = .ok (.iload_n 1, 1) := by decide +kernel
theorem dL_isIn_4 : decode cL_isIn 4 = .ok (.iload_n 2, 1) := by decide +kernel
theorem dL_isIn_5 : decode cL_isIn 5 = .ok (.invokevirtual 28, 3) := by decide +kernel
theorem dL_isIn_8 : decode cL_isIn 8 = .ok (.ifCond .eq 7, 3) := by decide +kernel
theorem dL_isIn_11 : decode cL_isIn 11 = .ok (.lconst 1, 1) := by decide +kernel
theorem dL_isIn_12 : decode cL_isIn 12 = .ok (.goto 4, 3) := by decide +kernel
theorem dL_isIn_15 : decode cL_isIn 15 = .ok (.lconst 0, 1) := by decide +kernel
theorem dL_isIn_16 : decode cL_isIn 16 = .ok (.lastore, 1) := by decide +kernel
theorem dL_isIn_17 : decode cL_isIn 17 = .ok (.goto 7, 3) := by decide +kernel
theorem dL_isIn_20 : decode cL_isIn 20 = .ok (.astore 4, 2) := by decide +kernel
theorem dL_isIn_22 : decode cL_isIn 22 = .ok (.iconst 1, 1) := by decide +kernel
theorem dL_isIn_23 : decode cL_isIn 23 = .ok (.ireturn, 1) := by decide +kernel
theorem dL_isIn_24 : decode cL_isIn 24 = .ok (.iconst 0, 1) := by decide +kernel
theorem dL_isIn_25 : decode cL_isIn 25 = .ok (.ireturn, 1) := by decide +kernel
set_option maxRecDepth 20000 in
theorem ggL_allows_X4_allows : GoodIn wsL_allows wsX4_allows := goodIn_ca (goodIn_r _ [6, 7, 8, 9, 10, 5, 11, 12, 13, 14, 15, 16, 17, 18, 19, 20, 21, 22, 23, 24, 25, 26, 27, 28, 29, 30, 31, 32, 33, 34, 35, 36, 37, 38, 39, 40, 41, 42, 43, 44, 45, 46, 47, 48, 49, 50, 51, 52, 53, 54, 55, 56, 57, 58, 59, 60, 61, 62] (by decide +kernel) (by decide +kernel)) (goodIn_sub (fun _ h => List.mem_cons_of_mem _ (List.mem_append_right _ h)) (by decide +kernel))
set_option maxRecDepth 20000 in
theorem gL_allows_X4_allows : GoodIn wsL_allows (wsV RL 32 RX4 yX4_allows wsX4_allows) := goodIn_app (goodIn_of _ (by decide +kernel)) ggL_allows_X4_allows
theorem dL_allows_0 : decode cL_allows 0 = .ok (.aload_n 3, 1) := by decide +kernel
theorem dL_allows_1 : decode cL_allows 1 = .ok (.iconst 0, 1) := by decide +kernel
theorem dL_allows_2 : decode cL_allows 2 = .ok (.aload_n 0, 1) := by decide +kernel
theorem dL_allows_3 : decode cL_allows 3 = .ok (.iload_n 1, 1) := by decide +kernel
theorem dL_allows_4 : decode cL_allows 4 = .ok (.iload_n 2, 1) := by decide +kernel
theorem dL_allows_5 : decode cL_allows 5 = .ok (.invokevirtual 32, 3) := by decide +kernel
theorem dL_allows_8 : decode cL_allows 8 = .ok (.ifCond .eq 7, 3) := by decide +kernel
theorem dL_allows_11 : decode cL_allows 11 = .ok (.lconst 1, 1) := by decide +kernel
theorem dL_allows_12 : decode cL_allows 12 = .ok (.goto 4, 3) := by decide +kernel
theorem dL_allows_15 : decode cL_allows 15 = .ok (.lconst 0, 1) := by decide +kernel
theorem dL_allows_16 : decode cL_allows 16 = .ok (.lastore, 1) := by decide +kernel
theorem dL_allows_17 : decode cL_allows 17 = .ok (.goto 7, 3) := by decide +kernel
theorem dL_allows_20 : decode cL_allows 20 = .ok (.astore 4, 2) := by decide +kernel
theorem dL_allows_22 : decode cL_allows 22 = .ok (.iconst 1, 1) := by decide +kernel
theorem dL_allows_23 : decode cL_allows 23 = .ok (.ireturn, 1) := by decide +kernel
theorem dL_allows_24 : decode cL_allows 24 = .ok (.iconst 0, 1) := by decide +kernel
theorem dL_allows_25 : decode cL_allows 25 = .ok (.ireturn, 1) := by decide +kernel
set_option maxRecDepth 20000 in
theorem ggL_open_X4_open : GoodIn wsL_open wsX4_open := goodIn_ca (goodIn_ca (goodIn_r _ [7, 8, 9, 10, 11, 12, 13, 14, 15, 16, 6, 17, 18, 19, 20, 21, 22, 23, 24, 25, 26, 27, 28, 29, 30, 31, 32, 33, 34, 35, 36, 37, 38, 39, 40, 41, 42, 43, 44, 45, 46, 47, 48, 49, 50, 51, 52, 53, 54, 55, 56, 57] (by decide +kernel) (by decide +kernel)) (goodIn_sub (fun _ h => List.mem_cons_of_mem _ (List.mem_append_left _ (List.mem_append_right _ h))) (by decide +kernel))) (goodIn_sub (fun _ h => List.mem_cons_of_mem _ (List.mem_append_right _ h)) (by decide +kernel))
set_option maxRecDepth 20000 in
theorem gL_open_X4_open : GoodIn wsL_open (wsV RL 35 RX4 yX4_open wsX4_open) := goodIn_app (goodIn_of _ (by decide +kernel)) ggL_open_X4_open
theorem dL_open_0 : decode cL_open 0 = .ok (.aload_n 2, 1) := by decide +kernel
theorem dL_open_1 : decode cL_open 1 = .ok (.iconst 0, 1) := by decide +kernel
theorem dL_open_2 : decode cL_open 2 = .ok (.aload_n 0, 1) := by decide +kernel
theorem dL_open_3 : decode cL_open 3 = .ok (.iload_n 1, 1) := by decide +kernel
theorem dL_open_4 : decode cL_open 4 = .ok (.invokevirtual 35, 3) := by decide +kernel
theorem dL_open_7 : decode cL_open 7 = .ok (.i2l, 1) := by decide +kernel
theorem dL_open_8 : decode cL_open 8 = .ok (.lastore, 1) := by decide +kernel
theorem dL_open_9 : decode cL_open 9 = .ok (.goto 9, 3) := by decide +kernel
theorem dL_open_12 : decode cL_open 12 = .ok (.astore_n 3, 1) := by decide +kernel
theorem dL_open_13 : decode cL_open 13 = .ok (.iconst 1, 1) := by decide +kernel
theorem dL_open_14 : decode cL_open 14 = .ok (.ireturn, 1) := by decide +kernel
theorem dL_open_15 : decode cL_open 15 = .ok (.astore_n 3, 1) := by decide +kernel
theorem dL_open_16 : decode cL_open 16 = .ok (.iconst 2, 1) := by decide +kernel
theorem dL_open_17 : decode cL_open 17 = .ok (.ireturn, 1) := by decide +kernel
theorem dL_open_18 : decode cL_open 18 = .ok (.iconst 0, 1) := by decide +kernel
theorem dL_open_19 : decode cL_open 19 = .ok (.ireturn, 1) := by decide +kernel
set_option maxRecDepth 20000 in
theorem ggL_close_X4_close : GoodIn wsL_close wsX4_close := goodIn_ca (goodIn_ca (goodIn_r _ [7, 8, 9, 10, 11, 12, 13, 14, 15, 16, 17, 18, 19, 20, 21, 22, 23, 24, 25, 26, 27, 28, 29, 30, 31, 32, 33, 34, 35, 36, 37, 38, 39, 40, 41, 42, 43, 44, 45, 46] (by decide +kernel) (by decide +kernel)) (goodIn_sub (fun _ h => List.mem_cons_of_mem _ (List.mem_append_left _ (List.mem_append_right _ h))) (by decide +kernel))) (goodIn_sub (fun _ h => List.mem_cons_of_mem _ (List.mem_append_right _ h)) (by decide +kernel))
set_option maxRecDepth 20000 in
theorem gL_close_X4_close : GoodIn wsL_close (wsV RL 39 RX4 yX4_close wsX4_close) := goodIn_app (goodIn_of _ (by decide +kernel)) ggL_close_X4_close
theorem dL_close_0 : decode cL_close 0 = .ok (.aload_n 2, 1) := by decide +kernel
theorem dL_close_1 : decode cL_close 1 = .ok (.iconst 0, 1) := by decide +kernel
theorem dL_close_2 : decode cL_close 2 = .ok (.aload_n 0, 1) := by decide +kernel
theorem dL_close_3 : decode cL_close 3 = .ok (.iload_n 1, 1) := by decide +kernel
theorem dL_close_4 : decode cL_close 4 = .ok (.invokevirtual 39, 3) := by decide +kernel
theorem dL_close_7 : decode cL_close 7 = .ok (.i2l, 1) := by decide +kernel
theorem dL_close_8 : decode cL_close 8 = .ok (.lastore, 1) := by decide +kernel
theorem dL_close_9 : decode cL_close 9 = .ok (.goto 9, 3) := by decide +kernel
theorem dL_close_12 : decode cL_close 12 = .ok (.astore_n 3, 1) := by decide +kernel
theorem dL_close_13 : decode cL_close 13 = .ok (.iconst 1, 1) := by decide +kernel
theorem dL_close_14 : decode cL_close 14 = .ok (.ireturn, 1) := by decide +kernel
theorem dL_close_15 : decode cL_close 15 = .ok (.astore_n 3, 1) := by decide +kernel
theorem dL_close_16 : decode cL_close 16 = .ok (.iconst 2, 1) := by decide +kernel
theorem dL_close_17 : decode cL_close 17 = .ok (.ireturn, 1) := by decide +kernel
theorem dL_close_18 : decode cL_close 18 = .ok (.iconst 0, 1) := by decide +kernel
theorem dL_close_19 : decode cL_close 19 = .ok (.ireturn, 1) := by decide +kernel
set_option maxRecDepth 20000 in
theorem ggL_goesOn_X4_goesOn : GoodIn wsL_goesOn wsX4_goesOn := goodIn_ca (goodIn_r _ [6, 7, 8, 9, 10, 11, 12, 13, 14, 15, 16, 17, 18, 19, 20, 21, 22, 23, 24, 25, 26, 27, 28, 29, 30, 31, 32, 33] (by decide +kernel) (by decide +kernel)) (goodIn_sub (fun _ h => List.mem_cons_of_mem _ (List.mem_append_right _ h)) (by decide +kernel))
set_option maxRecDepth 20000 in
theorem gL_goesOn_X4_goesOn : GoodIn wsL_goesOn (wsV RL 44 RX4 yX4_goesOn wsX4_goesOn) := goodIn_app (goodIn_of _ (by decide +kernel)) ggL_goesOn_X4_goesOn
theorem dL_goesOn_0 : decode cL_goesOn 0 = .ok (.aload_n 2, 1) := by decide +kernel
theorem dL_goesOn_1 : decode cL_goesOn 1 = .ok (.iconst 0, 1) := by decide +kernel
theorem dL_goesOn_2 : decode cL_goesOn 2 = .ok (.aload_n 0, 1) := by decide +kernel
theorem dL_goesOn_3 : decode cL_goesOn 3 = .ok (.iload_n 1, 1) := by decide +kernel
theorem dL_goesOn_4 : decode cL_goesOn 4 = .ok (.invokevirtual 44, 3) := by decide +kernel
theorem dL_goesOn_7 : decode cL_goesOn 7 = .ok (.ifCond .eq 7, 3) := by decide +kernel
theorem dL_goesOn_10 : decode cL_goesOn 10 = .ok (.lconst 1, 1) := by decide +kernel
theorem dL_goesOn_11 : decode cL_goesOn 11 = .ok (.goto 4, 3) := by decide +kernel
theorem dL_goesOn_14 : decode cL_goesOn 14 = .ok (.lconst 0, 1) := by decide +kernel
theorem dL_goesOn_15 : decode cL_goesOn 15 = .ok (.lastore, 1) := by decide +kernel
theorem dL_goesOn_16 : decode cL_goesOn 16 = .ok (.goto 6, 3) := by decide +kernel
theorem dL_goesOn_19 : decode cL_goesOn 19 = .ok (.astore_n 3, 1) := by decide +kernel
theorem dL_goesOn_20 : decode cL_goesOn 20 = .ok (.iconst 1, 1) := by decide +kernel
theorem dL_goesOn_21 : decode cL_goesOn 21 = .ok (.ireturn, 1) := by decide +kernel
theorem dL_goesOn_22 : decode cL_goesOn 22 = .ok (.iconst 0, 1) := by decide +kernel
theorem dL_goesOn_23 : decode cL_goesOn 23 = .ok (.ireturn, 1) := by decide +kernel
set_option maxRecDepth 20000 in
theorem ggL_changeKeys_X4_changeKeys : GoodIn wsL_changeKeys wsX4_changeKeys := goodIn_ca (goodIn_r _ [6, 7, 8, 9, 10, 11, 12, 13, 14, 15, 16, 17, 18, 19, 20, 21, 22, 23, 24, 25, 26, 27, 28, 29, 30, 31, 32, 33, 34, 35, 36, 37, 38, 39, 40, 41, 42, 43, 44, 45, 46, 47, 48, 49, 50, 51, 52, 53, 54, 55, 56, 57, 58, 59, 60, 61, 62, 63, 64, 65] (by decide +kernel) (by decide +kernel)) (goodIn_sub (fun _ h => List.mem_cons_of_mem _ (List.mem_append_right _ h)) (by decide +kernel))
set_option maxRecDepth 20000 in
theorem gL_changeKeys_X4_changeKeys : GoodIn wsL_changeKeys (wsV RL 48 RX4 yX4_changeKeys wsX4_changeKeys) := goodIn_app (goodIn_of _ (by decide +kernel)) ggL_changeKeys_X4_changeKeys
theorem dL_changeKeys_0 : decode cL_changeKeys 0 = .ok (.aload_n 2, 1) := by decide +kernel
theorem dL_changeKeys_1 : decode cL_changeKeys 1 = .ok (.iconst 0, 1) := by decide +kernel
theorem dL_changeKeys_2 : decode cL_changeKeys 2 = .ok (.aload_n 0, 1) := by decide +kernel
theorem dL_changeKeys_3 : decode cL_changeKeys 3 = .ok (.iload_n 1, 1) := by decide +kernel
theorem dL_changeKeys_4 : decode cL_changeKeys 4 = .ok (.invokevirtual 48, 3) := by decide +kernel
theorem dL_changeKeys_7 : decode cL_changeKeys 7 = .ok (.i2l, 1) := by decide +kernel
theorem dL_changeKeys_8 : decode cL_changeKeys 8 = .ok (.lastore, 1) := by decide +kernel
theorem dL_changeKeys_9 : decode cL_changeKeys 9 = .ok (.goto 6, 3) := by decide +kernel
theorem dL_changeKeys_12 : decode cL_changeKeys 12 = .ok (.astore_n 3, 1) := by decide +kernel
theorem dL_changeKeys_13 : decode cL_changeKeys 13 = .ok (.iconst 1, 1) := by decide +kernel
theorem dL_changeKeys_14 : decode cL_changeKeys 14 = .ok (.ireturn, 1) := by decide +kernel
theorem dL_changeKeys_15 : decode cL_changeKeys 15 = .ok (.iconst 0, 1) := by decide +kernel
theorem dL_changeKeys_16 : decode cL_changeKeys 16 = .ok (.ireturn, 1) := by decide +kernel
set_option maxRecDepth 20000 in
theorem ggL_isTaken_X4_isTaken : GoodIn wsL_isTaken wsX4_isTaken := goodIn_ca (goodIn_r _ [6, 7, 8, 9, 10, 11, 12, 13, 14, 15, 16, 17, 18, 19, 20, 21, 22, 23, 24, 25, 26, 27, 28, 29, 30] (by decide +kernel) (by decide +kernel)) (goodIn_sub (fun _ h => List.mem_cons_of_mem _ (List.mem_append_right _ h)) (by decide +kernel))
set_option maxRecDepth 20000 in
theorem gL_isTaken_X4_isTaken : GoodIn wsL_isTaken (wsV RL 51 RX4 yX4_isTaken wsX4_isTaken) := goodIn_app (goodIn_of _ (by decide +kernel)) ggL_isTaken_X4_isTaken
theorem dL_isTaken_0 : decode cL_isTaken 0 = .ok (.aload_n 2, 1) := by decide +kernel
theorem dL_isTaken_1 : decode cL_isTaken 1 = .ok (.iconst 0, 1) := by decide +kernel
theorem dL_isTaken_2 : decode cL_isTaken 2 = .ok (.aload_n 0, 1) := by decide +kernel
theorem dL_isTaken_3 : decode cL_isTaken 3 = .ok (.iload_n 1, 1) := by decide +kernel
theorem dL_isTaken_4 : decode cL_isTaken 4 = .ok (.invokevirtual 51, 3) := by decide +kernel
theorem dL_isTaken_7 : decode cL_isTaken 7 = .ok (.ifCond .eq 7, 3) := by decide +kernel
theorem dL_isTaken_10 : decode cL_isTaken 10 = .ok (.lconst 1, 1) := by decide +kernel
theorem dL_isTaken_11 : decode cL_isTaken 11 = .ok (.goto 4, 3) := by decide +kernel
theorem dL_isTaken_14 : decode cL_isTaken 14 = .ok (.lconst 0, 1) := by decide +kernel
theorem dL_isTaken_15 : decode cL_isTaken 15 = .ok (.lastore, 1) := by decide +kernel
theorem dL_isTaken_16 : decode cL_isTaken 16 = .ok (.goto 6, 3) := by decide +kernel
theorem dL_isTaken_19 : decode cL_isTaken 19 = .ok (.astore_n 3, 1) := by decide +kernel
theorem dL_isTaken_20 : decode cL_isTaken 20 = .ok (.iconst 1, 1) := by decide +kernel
theorem dL_isTaken_21 : decode cL_isTaken 21 = .ok (.ireturn, 1) := by decide +kernel
theorem dL_isTaken_22 : decode cL_isTaken 22 = .ok (.iconst 0, 1) := by decide +kernel
theorem dL_isTaken_23 : decode cL_isTaken 23 = .ok (.ireturn, 1) := by decide +kernel
set_option maxRecDepth 20000 in
theorem ggL_pass_X4_pass : GoodIn wsL_pass wsX4_pass := goodIn_ca (goodIn_r _ [6, 7, 8, 9, 10, 11, 12, 13, 14, 15, 16, 17, 18, 19, 20, 21, 22, 23, 24, 25, 26, 27, 28, 29, 30, 31, 32, 33, 34, 35, 36, 37, 38, 39, 40, 41, 42, 43, 44, 45, 46, 47, 48, 49, 50, 51, 52, 53, 54, 55, 56, 57, 58, 59, 60, 61, 62, 63, 64, 65, 66, 67, 68, 69, 70, 71, 72, 73, 74, 75, 76] (by decide +kernel) (by decide +kernel)) (goodIn_sub (fun _ h => List.mem_cons_of_mem _ (List.mem_append_right _ h)) (by decide +kernel))
set_option maxRecDepth 20000 in
theorem gL_pass_X4_pass : GoodIn wsL_pass (wsV RL 54 RX4 yX4_pass wsX4_pass) := goodIn_app (goodIn_of _ (by decide +kernel)) ggL_pass_X4_pass
theorem dL_pass_0 : decode cL_pass 0 = .ok (.aload_n 2, 1) := by decide +kernel
theorem dL_pass_1 : decode cL_pass 1 = .ok (.iconst 0, 1) := by decide +kernel
theorem dL_pass_2 : decode cL_pass 2 = .ok (.aload_n 0, 1) := by decide +kernel
theorem dL_pass_3 : decode cL_pass 3 = .ok (.iload_n 1, 1) := by decide +kernel
theorem dL_pass_4 : decode cL_pass 4 = .ok (.invokevirtual 54, 3) := by decide +kernel
theorem dL_pass_7 : decode cL_pass 7 = .ok (.i2l, 1) := by decide +kernel
theorem dL_pass_8 : decode cL_pass 8 = .ok (.lastore, 1) := by decide +kernel
theorem dL_pass_9 : decode cL_pass 9 = .ok (.goto 6, 3) := by decide +kernel
theorem dL_pass_12 : decode cL_pass 12 = .ok (.astore_n 3, 1) := by decide +kernel
theorem dL_pass_13 : decode cL_pass 13 = .ok (.iconst 1, 1) := by decide +kernel
theorem dL_pass_14 : decode cL_pass 14 = .ok (.ireturn, 1) := by decide +kernel
theorem dL_pass_15 : decode cL_pass 15 = .ok (.iconst 0, 1) := by decide +kernel
theorem dL_pass_16 : decode cL_pass 16 = .ok (.ireturn, 1) := by decide +kernel
set_option maxRecDepth 20000 in
theorem ggL_breakGlass_X4_breakGlass : GoodIn wsL_breakGlass wsX4_breakGlass := goodIn_ca (goodIn_ca (goodIn_r _ [7, 8, 9, 10, 11, 12, 13, 14, 15, 6, 16, 17, 18, 19, 20, 21, 22, 23, 24, 25, 26, 27, 28, 29, 30, 31, 32, 33, 34, 35, 36, 37, 38, 39, 40, 41, 42, 43, 44, 45, 46, 47, 48, 49, 50, 51, 52, 53, 54, 55, 56] (by decide +kernel) (by decide +kernel)) (goodIn_sub (fun _ h => List.mem_cons_of_mem _ (List.mem_append_left _ (List.mem_append_right _ h))) (by decide +kernel))) (goodIn_sub (fun _ h => List.mem_cons_of_mem _ (List.mem_append_right _ h)) (by decide +kernel))
set_option maxRecDepth 20000 in
theorem gL_breakGlass_X4_breakGlass : GoodIn wsL_breakGlass (wsV RL 57 RX4 yX4_breakGlass wsX4_breakGlass) := goodIn_app (goodIn_of _ (by decide +kernel)) ggL_breakGlass_X4_breakGlass
theorem dL_breakGlass_0 : decode cL_breakGlass 0 = .ok (.aload 5, 2) := by decide +kernel
theorem dL_breakGlass_2 : decode cL_breakGlass 2 = .ok (.iconst 0, 1) := by decide +kernel
theorem dL_breakGlass_3 : decode cL_breakGlass 3 = .ok (.aload_n 0, 1) := by decide +kernel
theorem dL_breakGlass_4 : decode cL_breakGlass 4 = .ok (.iload_n 1, 1) := by decide +kernel
theorem dL_breakGlass_5 : decode cL_breakGlass 5 = .ok (.iload_n 2, 1) := by decide +kernel
theorem dL_breakGlass_6 : decode cL_breakGlass 6 = .ok (.iload_n 3, 1) := by decide +kernel
theorem dL_breakGlass_7 : decode cL_breakGlass 7 = .ok (.iload 4, 2) := by decide +kernel
theorem dL_breakGlass_9 : decode cL_breakGlass 9 = .ok (.invokevirtual 57, 3) := by decide +kernel
theorem dL_breakGlass_12 : decode cL_breakGlass 12 = .ok (.i2l, 1) := by decide +kernel
theorem dL_breakGlass_13 : decode cL_breakGlass 13 = .ok (.lastore, 1) := by decide +kernel
theorem dL_breakGlass_14 : decode cL_breakGlass 14 = .ok (.goto 11, 3) := by decide +kernel
theorem dL_breakGlass_17 : decode cL_breakGlass 17 = .ok (.astore 6, 2) := by decide +kernel
theorem dL_breakGlass_19 : decode cL_breakGlass 19 = .ok (.iconst 1, 1) := by decide +kernel
theorem dL_breakGlass_20 : decode cL_breakGlass 20 = .ok (.ireturn, 1) := by decide +kernel
theorem dL_breakGlass_21 : decode cL_breakGlass 21 = .ok (.astore 6, 2) := by decide +kernel
theorem dL_breakGlass_23 : decode cL_breakGlass 23 = .ok (.iconst 2, 1) := by decide +kernel
theorem dL_breakGlass_24 : decode cL_breakGlass 24 = .ok (.ireturn, 1) := by decide +kernel
theorem dL_breakGlass_25 : decode cL_breakGlass 25 = .ok (.iconst 0, 1) := by decide +kernel
theorem dL_breakGlass_26 : decode cL_breakGlass 26 = .ok (.ireturn, 1) := by decide +kernel
set_option maxRecDepth 20000 in
theorem ggL_setCache_X4_setCache : GoodIn wsL_setCache wsX4_setCache := goodIn_ca (goodIn_r _ [6, 7, 8, 9, 10, 11, 12, 5, 13, 14, 15, 16, 17, 18, 19, 20, 21, 22, 23, 24, 25, 26, 27, 28, 29, 30, 31, 32, 33, 34, 35, 36, 37, 38, 39, 40, 41, 42] (by decide +kernel) (by decide +kernel)) (goodIn_sub (fun _ h => List.mem_cons_of_mem _ (List.mem_append_right _ h)) (by decide +kernel))
set_option maxRecDepth 20000 in
theorem gL_setCache_X4_setCache : GoodIn wsL_setCache (wsV RL 61 RX4 yX4_setCache wsX4_setCache) := goodIn_app (goodIn_of _ (by decide +kernel)) ggL_setCache_X4_setCache
theorem dL_setCache_0 : decode cL_setCache 0 = .ok (.aload_n 3, 1) := by decide +kernel
theorem dL_setCache_1 : decode cL_setCache 1 = .ok (.iconst 0, 1) := by decide +kernel
theorem dL_setCache_2 : decode cL_setCache 2 = .ok (.aload_n 0, 1) := by decide +kernel
theorem dL_setCache_3 : decode cL_setCache 3 = .ok (.iload_n 1, 1) := by decide +kernel
theorem dL_setCache_4 : decode cL_setCache 4 = .ok (.iload_n 2, 1) := by decide +kernel
theorem dL_setCache_5 : decode cL_setCache 5 = .ok (.invokevirtual 61, 3) := by decide +kernel
theorem dL_setCache_8 : decode cL_setCache 8 = .ok (.i2l, 1) := by decide +kernel
theorem dL_setCache_9 : decode cL_setCache 9 = .ok (.lastore, 1) := by decide +kernel
theorem dL_setCache_10 : decode cL_setCache 10 = .ok (.goto 7, 3) := by decide +kernel
theorem dL_setCache_13 : decode cL_setCache 13 = .ok (.astore 4, 2) := by decide +kernel
theorem dL_setCache_15 : decode cL_setCache 15 = .ok (.iconst 1, 1) := by decide +kernel
theorem dL_setCache_16 : decode cL_setCache 16 = .ok (.ireturn, 1) := by decide +kernel
theorem dL_setCache_17 : decode cL_setCache 17 = .ok (.iconst 0, 1) := by decide +kernel
theorem dL_setCache_18 : decode cL_setCache 18 = .ok (.ireturn, 1) := by decide +kernel
set_option maxRecDepth 20000 in
theorem ggL_decide_X4_decide : GoodIn wsL_decide wsX4_decide := goodIn_ca (goodIn_ca (goodIn_r _ [7, 8, 9, 10, 11, 12, 13, 14, 15, 6, 16, 17, 18, 19, 20, 21, 22, 23, 24, 25, 26, 27, 28, 29, 30, 31, 32, 33, 34, 35, 36, 37, 38, 39, 40, 41, 42, 43, 44, 45, 46, 47, 48, 49, 50, 51, 52, 53, 54, 55, 56, 57, 58, 59, 60, 61, 62, 63, 64, 65, 66, 67, 68, 69, 70, 71, 72, 73, 74, 75, 76, 77, 78, 79, 80, 81, 82, 83, 84, 85, 86, 87, 88, 89, 90, 91, 92, 93, 94, 95, 96, 97, 98, 99, 100, 101, 102, 103, 104, 105, 106, 107, 108, 109, 110, 111, 112, 113, 114, 115, 116, 117, 118, 119, 120] (by decide +kernel) (by decide +kernel)) (goodIn_sub (fun _ h => List.mem_cons_of_mem _ (List.mem_append_left _ (List.mem_append_right _ h))) (by decide +kernel))) (goodIn_sub (fun _ h => List.mem_cons_of_mem _ (List.mem_append_right _ h)) (by decide +kernel))
set_option maxRecDepth 20000 in
theorem gL_decide_X4_decide : GoodIn wsL_decide (wsV RL 64 RX4 yX4_decide wsX4_decide) := goodIn_app (goodIn_of _ (by decide +kernel)) ggL_decide_X4_decide
theorem dL_decide_0 : decode cL_decide 0 = .ok (.aload 4, 2) := by decide +kernel
theorem dL_decide_2 : decode cL_decide 2 = .ok (.iconst 0, 1) := by decide +kernel
theorem dL_decide_3 : decode cL_decide 3 = .ok (.aload_n 0, 1) := by decide +kernel
theorem dL_decide_4 : decode cL_decide 4 = .ok (.iload_n 1, 1) := by decide +kernel
theorem dL_decide_5 : decode cL_decide 5 = .ok (.iload_n 2, 1) := by decide +kernel
theorem dL_decide_6 : decode cL_decide 6 = .ok (.iload_n 3, 1) := by decide +kernel
theorem dL_decide_7 : decode cL_decide 7 = .ok (.invokevirtual 64, 3) := by decide +kernel
theorem dL_decide_10 : decode cL_decide 10 = .ok (.i2l, 1) := by decide +kernel
theorem dL_decide_11 : decode cL_decide 11 = .ok (.lastore, 1) := by decide +kernel
theorem dL_decide_12 : decode cL_decide 12 = .ok (.goto 11, 3) := by decide +kernel
theorem dL_decide_15 : decode cL_decide 15 = .ok (.astore 5, 2) := by decide +kernel
theorem dL_decide_17 : decode cL_decide 17 = .ok (.iconst 1, 1) := by decide +kernel
theorem dL_decide_18 : decode cL_decide 18 = .ok (.ireturn, 1) := by decide +kernel
theorem dL_decide_19 : decode cL_decide 19 = .ok (.astore 5, 2) := by decide +kernel
theorem dL_decide_21 : decode cL_decide 21 = .ok (.iconst 2, 1) := by decide +kernel
theorem dL_decide_22 : decode cL_decide 22 = .ok (.ireturn, 1) := by decide +kernel
theorem dL_decide_23 : decode cL_decide 23 = .ok (.iconst 0, 1) := by decide +kernel
theorem dL_decide_24 : decode cL_decide 24 = .ok (.ireturn, 1) := by decide +kernel
set_option maxRecDepth 20000 in
theorem ggL_forget_X4_forget : GoodIn wsL_forget wsX4_forget := goodIn_ca (goodIn_r _ [6, 7, 8, 9, 10, 11, 5, 12, 13, 14, 15, 16, 17, 18, 19, 20, 21, 22, 23, 24, 25, 26, 27, 28, 29, 30, 31, 32, 33, 34, 35] (by decide +kernel) (by decide +kernel)) (goodIn_sub (fun _ h => List.mem_cons_of_mem _ (List.mem_append_right _ h)) (by decide +kernel))
set_option maxRecDepth 20000 in
theorem gL_forget_X4_forget : GoodIn wsL_forget (wsV RL 67 RX4 yX4_forget wsX4_forget) := goodIn_app (goodIn_of _ (by decide +kernel)) ggL_forget_X4_forget
theorem dL_forget_0 : decode cL_forget 0 = .ok (.aload_n 3, 1) := by decide +kernel
theorem dL_forget_1 : decode cL_forget 1 = .ok (.iconst 0, 1) := by decide +kernel
theorem dL_forget_2 : decode cL_forget 2 = .ok (.aload_n 0, 1) := by decide +kernel
theorem dL_forget_3 : decode cL_forget 3 = .ok (.iload_n 1, 1) := by decide +kernel
theorem dL_forget_4 : decode cL_forget 4 = .ok (.iload_n 2, 1) := by decide +kernel
theorem dL_forget_5 : decode cL_forget 5 = .ok (.invokevirtual 67, 3) := by decide +kernel
theorem dL_forget_8 : decode cL_forget 8 = .ok (.i2l, 1) := by decide +kernel
theorem dL_forget_9 : decode cL_forget 9 = .ok (.lastore, 1) := by decide +kernel
theorem dL_forget_10 : decode cL_forget 10 = .ok (.goto 7, 3) := by decide +kernel
theorem dL_forget_13 : decode cL_forget 13 = .ok (.astore 4, 2) := by decide +kernel
theorem dL_forget_15 : decode cL_forget 15 = .ok (.iconst 1, 1) := by decide +kernel
theorem dL_forget_16 : decode cL_forget 16 = .ok (.ireturn, 1) := by decide +kernel
theorem dL_forget_17 : decode cL_forget 17 = .ok (.iconst 0, 1) := by decide +kernel
theorem dL_forget_18 : decode cL_forget 18 = .ok (.ireturn, 1) := by decide +kernel
set_option maxRecDepth 20000 in
theorem ggL_stale_X4_stale : GoodIn wsL_stale wsX4_stale := goodIn_ca (goodIn_r _ [6, 7, 8, 9, 10, 5, 11, 12, 13, 14, 15, 16, 17, 18, 19, 20, 21, 22, 23, 24, 25, 26, 27, 28, 29, 30, 31, 32, 33, 34, 35, 36, 37, 38, 39, 40, 41, 42, 43, 44, 45, 46, 47, 48, 49, 50, 51, 52, 53, 54, 55, 56, 57, 58, 59, 60, 61, 62, 63, 64, 65, 66, 67, 68, 69, 70, 71, 72, 73, 74, 75, 76, 77, 78, 79, 80, 81, 82, 83] (by decide +kernel) (by decide +kernel)) (goodIn_sub (fun _ h => List.mem_cons_of_mem _ (List.mem_append_right _ h)) (by decide +kernel))
set_option maxRecDepth 20000 in
theorem gL_stale_X4_stale : GoodIn wsL_stale (wsV RL 70 RX4 yX4_stale wsX4_stale) := goodIn_app (goodIn_of _ (by decide +kernel)) ggL_stale_X4_stale
theorem dL_stale_0 : decode cL_stale 0 = .ok (.aload_n 2, 1) := by decide +kernel
theorem dL_stale_1 : decode cL_stale 1 = .ok (.iconst 0, 1) := by decide +kernel
theorem dL_stale_2 : decode cL_stale 2 = .ok (.aload_n 0, 1) := by decide +kernel
theorem dL_stale_3 : decode cL_stale 3 = .ok (.iload_n 1, 1) := by decide +kernel
theorem dL_stale_4 : decode cL_stale 4 = .ok (.invokevirtual 70, 3) := by decide +kernel
