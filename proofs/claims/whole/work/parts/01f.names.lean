theorem dX5_belongs_48 : decode cX5_belongs 48 = .ok (.goto 4, 3) := by decide +kernel
theorem dX5_belongs_51 : decode cX5_belongs 51 = .ok (.iconst 0, 1) := by decide +kernel
theorem dX5_belongs_52 : decode cX5_belongs 52 = .ok (.istore 4, 2) := by decide +kernel
theorem dX5_belongs_54 : decode cX5_belongs 54 = .ok (.iinc 5 1, 3) := by decide +kernel
theorem dX5_belongs_57 : decode cX5_belongs 57 = .ok (.goto (-45), 3) := by decide +kernel
theorem dX5_belongs_60 : decode cX5_belongs 60 = .ok (.iload 4, 2) := by decide +kernel
theorem dX5_belongs_62 : decode cX5_belongs 62 = .ok (.ireturn, 1) := by decide +kernel
set_option maxRecDepth 20000 in
theorem ggX5_finds_X5_belongs : GoodIn wsX5_finds wsX5_belongs := goodIn_r _ [6, 7, 8, 9, 10, 5, 11, 12, 13, 14, 15, 16, 17, 18, 19, 20, 21, 22, 23, 24, 25, 26, 27, 28, 29, 30, 31, 32] (by decide +kernel) (by decide +kernel)
set_option maxRecDepth 20000 in
theorem gX5_finds_X5_belongs : GoodIn wsX5_finds (wsV RX5 76 RX5 yX5_belongs wsX5_belongs) := goodIn_app (goodIn_of _ (by decide +kernel)) ggX5_finds_X5_belongs
theorem dX5_finds_0 : decode cX5_finds 0 = .ok (.iconst 0, 1) := by decide +kernel
theorem dX5_finds_1 : decode cX5_finds 1 = .ok (.istore 4, 2) := by decide +kernel
theorem dX5_finds_3 : decode cX5_finds 3 = .ok (.iconst 0, 1) := by decide +kernel
theorem dX5_finds_4 : decode cX5_finds 4 = .ok (.istore 5, 2) := by decide +kernel
theorem dX5_finds_6 : decode cX5_finds 6 = .ok (.iload 5, 2) := by decide +kernel
theorem dX5_finds_8 : decode cX5_finds 8 = .ok (.bipush 8, 2) := by decide +kernel
theorem dX5_finds_10 : decode cX5_finds 10 = .ok (.if_icmp .ge 47, 3) := by decide +kernel
theorem dX5_finds_13 : decode cX5_finds 13 = .ok (.iload 4, 2) := by decide +kernel
theorem dX5_finds_15 : decode cX5_finds 15 = .ok (.ifCond .ne 29, 3) := by decide +kernel
theorem dX5_finds_18 : decode cX5_finds 18 = .ok (.aload_n 0, 1) := by decide +kernel
theorem dX5_finds_19 : decode cX5_finds 19 = .ok (.getfield 16, 3) := by decide +kernel
theorem dX5_finds_22 : decode cX5_finds 22 = .ok (.bipush 6, 2) := by decide +kernel
theorem dX5_finds_24 : decode cX5_finds 24 = .ok (.iload 5, 2) := by decide +kernel
theorem dX5_finds_26 : decode cX5_finds 26 = .ok (.imul, 1) := by decide +kernel
theorem dX5_finds_27 : decode cX5_finds 27 = .ok (.iload_n 2, 1) := by decide +kernel
theorem dX5_finds_28 : decode cX5_finds 28 = .ok (.iadd, 1) := by decide +kernel
theorem dX5_finds_29 : decode cX5_finds 29 = .ok (.iaload, 1) := by decide +kernel
theorem dX5_finds_30 : decode cX5_finds 30 = .ok (.iload_n 3, 1) := by decide +kernel
theorem dX5_finds_31 : decode cX5_finds 31 = .ok (.if_icmp .ne 17, 3) := by decide +kernel
theorem dX5_finds_34 : decode cX5_finds 34 = .ok (.aload_n 0, 1) := by decide +kernel
theorem dX5_finds_35 : decode cX5_finds 35 = .ok (.iload 5, 2) := by decide +kernel
theorem dX5_finds_37 : decode cX5_finds 37 = .ok (.iload_n 1, 1) := by decide +kernel
theorem dX5_finds_38 : decode cX5_finds 38 = .ok (.invokevirtual 76, 3) := by decide +kernel
theorem dX5_finds_41 : decode cX5_finds 41 = .ok (.ifCond .eq 7, 3) := by decide +kernel
theorem dX5_finds_44 : decode cX5_finds 44 = .ok (.iconst 1, 1) := by decide +kernel
theorem dX5_finds_45 : decode cX5_finds 45 = .ok (.goto 4, 3) := by decide +kernel
theorem dX5_finds_48 : decode cX5_finds 48 = .ok (.iconst 0, 1) := by decide +kernel
theorem dX5_finds_49 : decode cX5_finds 49 = .ok (.istore 4, 2) := by decide +kernel
theorem dX5_finds_51 : decode cX5_finds 51 = .ok (.iinc 5 1, 3) := by decide +kernel
theorem dX5_finds_54 : decode cX5_finds 54 = .ok (.goto (-48), 3) := by decide +kernel
theorem dX5_finds_57 : decode cX5_finds 57 = .ok (.iload 4, 2) := by decide +kernel
theorem dX5_finds_59 : decode cX5_finds 59 = .ok (.ireturn, 1) := by decide +kernel
set_option maxRecDepth 20000 in
theorem ggX5_lets_X5_finds : GoodIn wsX5_lets wsX5_finds := goodIn_r _ [8, 9, 10, 11, 12, 7, 13, 14, 15, 16, 17, 18, 19, 20, 21, 22, 23, 24, 25, 26, 27, 28, 29, 30, 31, 32, 33, 34, 35, 36, 37, 38, 39] (by decide +kernel) (by decide +kernel)
set_option maxRecDepth 20000 in
theorem gX5_lets_X5_finds : GoodIn wsX5_lets (wsV RX5 79 RX5 yX5_finds wsX5_finds) := goodIn_app (goodIn_of _ (by decide +kernel)) ggX5_lets_X5_finds
theorem dX5_lets_0 : decode cX5_lets 0 = .ok (.aload_n 0, 1) := by decide +kernel
theorem dX5_lets_1 : decode cX5_lets 1 = .ok (.getfield 19, 3) := by decide +kernel
theorem dX5_lets_4 : decode cX5_lets 4 = .ok (.iload_n 1, 1) := by decide +kernel
theorem dX5_lets_5 : decode cX5_lets 5 = .ok (.iaload, 1) := by decide +kernel
theorem dX5_lets_6 : decode cX5_lets 6 = .ok (.iconst 3, 1) := by decide +kernel
theorem dX5_lets_7 : decode cX5_lets 7 = .ok (.if_icmp .ge 45, 3) := by decide +kernel
theorem dX5_lets_10 : decode cX5_lets 10 = .ok (.aload_n 0, 1) := by decide +kernel
theorem dX5_lets_11 : decode cX5_lets 11 = .ok (.iload_n 1, 1) := by decide +kernel
theorem dX5_lets_12 : decode cX5_lets 12 = .ok (.iload_n 2, 1) := by decide +kernel
theorem dX5_lets_13 : decode cX5_lets 13 = .ok (.iconst 1, 1) := by decide +kernel
theorem dX5_lets_14 : decode cX5_lets 14 = .ok (.invokevirtual 79, 3) := by decide +kernel
theorem dX5_lets_17 : decode cX5_lets 17 = .ok (.ifCond .eq 13, 3) := by decide +kernel
theorem dX5_lets_20 : decode cX5_lets 20 = .ok (.aload_n 0, 1) := by decide +kernel
theorem dX5_lets_21 : decode cX5_lets 21 = .ok (.iload_n 1, 1) := by decide +kernel
theorem dX5_lets_22 : decode cX5_lets 22 = .ok (.iload_n 2, 1) := by decide +kernel
theorem dX5_lets_23 : decode cX5_lets 23 = .ok (.iconst 2, 1) := by decide +kernel
theorem dX5_lets_24 : decode cX5_lets 24 = .ok (.invokevirtual 79, 3) := by decide +kernel
theorem dX5_lets_27 : decode cX5_lets 27 = .ok (.ifCond .eq 21, 3) := by decide +kernel
theorem dX5_lets_30 : decode cX5_lets 30 = .ok (.aload_n 0, 1) := by decide +kernel
theorem dX5_lets_31 : decode cX5_lets 31 = .ok (.getfield 22, 3) := by decide +kernel
theorem dX5_lets_34 : decode cX5_lets 34 = .ok (.bipush 6, 2) := by decide +kernel
theorem dX5_lets_36 : decode cX5_lets 36 = .ok (.iload_n 1, 1) := by decide +kernel
theorem dX5_lets_37 : decode cX5_lets 37 = .ok (.imul, 1) := by decide +kernel
theorem dX5_lets_38 : decode cX5_lets 38 = .ok (.iload_n 2, 1) := by decide +kernel
theorem dX5_lets_39 : decode cX5_lets 39 = .ok (.iadd, 1) := by decide +kernel
theorem dX5_lets_40 : decode cX5_lets 40 = .ok (.iaload, 1) := by decide +kernel
theorem dX5_lets_41 : decode cX5_lets 41 = .ok (.aload_n 0, 1) := by decide +kernel
theorem dX5_lets_42 : decode cX5_lets 42 = .ok (.getfield 82, 3) := by decide +kernel
theorem dX5_lets_45 : decode cX5_lets 45 = .ok (.if_icmp .le 7, 3) := by decide +kernel
theorem dX5_lets_48 : decode cX5_lets 48 = .ok (.iconst 1, 1) := by decide +kernel
theorem dX5_lets_49 : decode cX5_lets 49 = .ok (.goto 4, 3) := by decide +kernel
theorem dX5_lets_52 : decode cX5_lets 52 = .ok (.iconst 0, 1) := by decide +kernel
theorem dX5_lets_53 : decode cX5_lets 53 = .ok (.ireturn, 1) := by decide +kernel
theorem dX5_isKey_0 : decode cX5_isKey 0 = .ok (.iload_n 1, 1) := by decide +kernel
theorem dX5_isKey_1 : decode cX5_isKey 1 = .ok (.aload_n 0, 1) := by decide +kernel
theorem dX5_isKey_2 : decode cX5_isKey 2 = .ok (.getfield 85, 3) := by decide +kernel
theorem dX5_isKey_5 : decode cX5_isKey 5 = .ok (.if_icmp .eq 24, 3) := by decide +kernel
theorem dX5_isKey_8 : decode cX5_isKey 8 = .ok (.iload_n 1, 1) := by decide +kernel
theorem dX5_isKey_9 : decode cX5_isKey 9 = .ok (.aload_n 0, 1) := by decide +kernel
theorem dX5_isKey_10 : decode cX5_isKey 10 = .ok (.getfield 85, 3) := by decide +kernel
theorem dX5_isKey_13 : decode cX5_isKey 13 = .ok (.iconst 1, 1) := by decide +kernel
theorem dX5_isKey_14 : decode cX5_isKey 14 = .ok (.isub, 1) := by decide +kernel
theorem dX5_isKey_15 : decode cX5_isKey 15 = .ok (.if_icmp .ne 18, 3) := by decide +kernel
theorem dX5_isKey_18 : decode cX5_isKey 18 = .ok (.aload_n 0, 1) := by decide +kernel
theorem dX5_isKey_19 : decode cX5_isKey 19 = .ok (.getfield 82, 3) := by decide +kernel
theorem dX5_isKey_22 : decode cX5_isKey 22 = .ok (.aload_n 0, 1) := by decide +kernel
theorem dX5_isKey_23 : decode cX5_isKey 23 = .ok (.getfield 88, 3) := by decide +kernel
theorem dX5_isKey_26 : decode cX5_isKey 26 = .ok (.if_icmp .ge 7, 3) := by decide +kernel
theorem dX5_isKey_29 : decode cX5_isKey 29 = .ok (.iconst 1, 1) := by decide +kernel
theorem dX5_isKey_30 : decode cX5_isKey 30 = .ok (.goto 4, 3) := by decide +kernel
theorem dX5_isKey_33 : decode cX5_isKey 33 = .ok (.iconst 0, 1) := by decide +kernel
theorem dX5_isKey_34 : decode cX5_isKey 34 = .ok (.ireturn, 1) := by decide +kernel
set_option maxRecDepth 20000 in
theorem ggX5_ends_X5_isKey : GoodIn wsX5_ends wsX5_isKey := goodIn_r _ [11, 12, 1, 13, 14, 15, 16, 17, 18, 19, 20, 21, 22, 23, 24, 25, 26, 27, 28, 29, 30] (by decide +kernel) (by decide +kernel)
set_option maxRecDepth 20000 in
theorem gX5_ends_X5_isKey : GoodIn wsX5_ends (wsV RX5 91 RX5 yX5_isKey wsX5_isKey) := goodIn_app (goodIn_of _ (by decide +kernel)) ggX5_ends_X5_isKey
theorem dX5_ends_0 : decode cX5_ends 0 = .ok (.aload_n 0, 1) := by decide +kernel
theorem dX5_ends_1 : decode cX5_ends 1 = .ok (.getfield 82, 3) := by decide +kernel
theorem dX5_ends_4 : decode cX5_ends 4 = .ok (.aload_n 0, 1) := by decide +kernel
theorem dX5_ends_5 : decode cX5_ends 5 = .ok (.getfield 34, 3) := by decide +kernel
theorem dX5_ends_8 : decode cX5_ends 8 = .ok (.iload_n 1, 1) := by decide +kernel
theorem dX5_ends_9 : decode cX5_ends 9 = .ok (.iaload, 1) := by decide +kernel
theorem dX5_ends_10 : decode cX5_ends 10 = .ok (.isub, 1) := by decide +kernel
theorem dX5_ends_11 : decode cX5_ends 11 = .ok (.bipush 30, 2) := by decide +kernel
theorem dX5_ends_13 : decode cX5_ends 13 = .ok (.if_icmp .ge 48, 3) := by decide +kernel
theorem dX5_ends_16 : decode cX5_ends 16 = .ok (.aload_n 0, 1) := by decide +kernel
theorem dX5_ends_17 : decode cX5_ends 17 = .ok (.getfield 82, 3) := by decide +kernel
theorem dX5_ends_20 : decode cX5_ends 20 = .ok (.aload_n 0, 1) := by decide +kernel
theorem dX5_ends_21 : decode cX5_ends 21 = .ok (.getfield 31, 3) := by decide +kernel
theorem dX5_ends_24 : decode cX5_ends 24 = .ok (.iload_n 1, 1) := by decide +kernel
theorem dX5_ends_25 : decode cX5_ends 25 = .ok (.iaload, 1) := by decide +kernel
theorem dX5_ends_26 : decode cX5_ends 26 = .ok (.isub, 1) := by decide +kernel
theorem dX5_ends_27 : decode cX5_ends 27 = .ok (.sipush 240, 3) := by decide +kernel
theorem dX5_ends_30 : decode cX5_ends 30 = .ok (.bipush 60, 2) := by decide +kernel
theorem dX5_ends_32 : decode cX5_ends 32 = .ok (.aload_n 0, 1) := by decide +kernel
theorem dX5_ends_33 : decode cX5_ends 33 = .ok (.getfield 19, 3) := by decide +kernel
theorem dX5_ends_36 : decode cX5_ends 36 = .ok (.aload_n 0, 1) := by decide +kernel
theorem dX5_ends_37 : decode cX5_ends 37 = .ok (.getfield 25, 3) := by decide +kernel
theorem dX5_ends_40 : decode cX5_ends 40 = .ok (.iload_n 1, 1) := by decide +kernel
theorem dX5_ends_41 : decode cX5_ends 41 = .ok (.iaload, 1) := by decide +kernel
theorem dX5_ends_42 : decode cX5_ends 42 = .ok (.iaload, 1) := by decide +kernel
theorem dX5_ends_43 : decode cX5_ends 43 = .ok (.imul, 1) := by decide +kernel
theorem dX5_ends_44 : decode cX5_ends 44 = .ok (.isub, 1) := by decide +kernel
theorem dX5_ends_45 : decode cX5_ends 45 = .ok (.if_icmp .ge 16, 3) := by decide +kernel
theorem dX5_ends_48 : decode cX5_ends 48 = .ok (.aload_n 0, 1) := by decide +kernel
theorem dX5_ends_49 : decode cX5_ends 49 = .ok (.aload_n 0, 1) := by decide +kernel
theorem dX5_ends_50 : decode cX5_ends 50 = .ok (.getfield 28, 3) := by decide +kernel
theorem dX5_ends_53 : decode cX5_ends 53 = .ok (.iload_n 1, 1) := by decide +kernel
theorem dX5_ends_54 : decode cX5_ends 54 = .ok (.iaload, 1) := by decide +kernel
theorem dX5_ends_55 : decode cX5_ends 55 = .ok (.invokevirtual 91, 3) := by decide +kernel
theorem dX5_ends_58 : decode cX5_ends 58 = .ok (.ifCond .ne 7, 3) := by decide +kernel
theorem dX5_ends_61 : decode cX5_ends 61 = .ok (.iconst 1, 1) := by decide +kernel
theorem dX5_ends_62 : decode cX5_ends 62 = .ok (.goto 4, 3) := by decide +kernel
theorem dX5_ends_65 : decode cX5_ends 65 = .ok (.iconst 0, 1) := by decide +kernel
theorem dX5_ends_66 : decode cX5_ends 66 = .ok (.ireturn, 1) := by decide +kernel
set_option maxRecDepth 20000 in
theorem ggX5_sweeps_X5_ends : GoodIn wsX5_sweeps wsX5_ends := goodIn_r _ [7, 8, 9, 10, 11, 12, 13, 14, 15, 16, 6, 17, 18, 19, 20, 21, 22, 23, 24, 25, 26, 27, 28, 29, 30, 31, 32, 33, 34, 35, 36] (by decide +kernel) (by decide +kernel)
set_option maxRecDepth 20000 in
theorem gX5_sweeps_X5_ends : GoodIn wsX5_sweeps (wsV RX5 97 RX5 yX5_ends wsX5_ends) := goodIn_app (goodIn_of _ (by decide +kernel)) ggX5_sweeps_X5_ends
theorem dX5_sweeps_0 : decode cX5_sweeps 0 = .ok (.iconst 0, 1) := by decide +kernel
theorem dX5_sweeps_1 : decode cX5_sweeps 1 = .ok (.istore_n 1, 1) := by decide +kernel
theorem dX5_sweeps_2 : decode cX5_sweeps 2 = .ok (.iconst 0, 1) := by decide +kernel
theorem dX5_sweeps_3 : decode cX5_sweeps 3 = .ok (.istore_n 2, 1) := by decide +kernel
theorem dX5_sweeps_4 : decode cX5_sweeps 4 = .ok (.iload_n 2, 1) := by decide +kernel
theorem dX5_sweeps_5 : decode cX5_sweeps 5 = .ok (.aload_n 0, 1) := by decide +kernel
theorem dX5_sweeps_6 : decode cX5_sweeps 6 = .ok (.getfield 94, 3) := by decide +kernel
theorem dX5_sweeps_9 : decode cX5_sweeps 9 = .ok (.if_icmp .ge 68, 3) := by decide +kernel
theorem dX5_sweeps_12 : decode cX5_sweeps 12 = .ok (.aload_n 0, 1) := by decide +kernel
theorem dX5_sweeps_13 : decode cX5_sweeps 13 = .ok (.getfield 37, 3) := by decide +kernel
theorem dX5_sweeps_16 : decode cX5_sweeps 16 = .ok (.iload_n 2, 1) := by decide +kernel
theorem dX5_sweeps_17 : decode cX5_sweeps 17 = .ok (.baload, 1) := by decide +kernel
theorem dX5_sweeps_18 : decode cX5_sweeps 18 = .ok (.ifCond .ne 15, 3) := by decide +kernel
theorem dX5_sweeps_21 : decode cX5_sweeps 21 = .ok (.aload_n 0, 1) := by decide +kernel
theorem dX5_sweeps_22 : decode cX5_sweeps 22 = .ok (.iload_n 2, 1) := by decide +kernel
theorem dX5_sweeps_23 : decode cX5_sweeps 23 = .ok (.invokevirtual 97, 3) := by decide +kernel
theorem dX5_sweeps_26 : decode cX5_sweeps 26 = .ok (.ifCond .eq 7, 3) := by decide +kernel
theorem dX5_sweeps_29 : decode cX5_sweeps 29 = .ok (.iconst 1, 1) := by decide +kernel
theorem dX5_sweeps_30 : decode cX5_sweeps 30 = .ok (.goto 4, 3) := by decide +kernel
theorem dX5_sweeps_33 : decode cX5_sweeps 33 = .ok (.iconst 0, 1) := by decide +kernel
theorem dX5_sweeps_34 : decode cX5_sweeps 34 = .ok (.istore_n 3, 1) := by decide +kernel
theorem dX5_sweeps_35 : decode cX5_sweeps 35 = .ok (.iload_n 1, 1) := by decide +kernel
theorem dX5_sweeps_36 : decode cX5_sweeps 36 = .ok (.iload_n 3, 1) := by decide +kernel
theorem dX5_sweeps_37 : decode cX5_sweeps 37 = .ok (.ifCond .eq 7, 3) := by decide +kernel
theorem dX5_sweeps_40 : decode cX5_sweeps 40 = .ok (.iconst 1, 1) := by decide +kernel
theorem dX5_sweeps_41 : decode cX5_sweeps 41 = .ok (.goto 4, 3) := by decide +kernel
theorem dX5_sweeps_44 : decode cX5_sweeps 44 = .ok (.iconst 0, 1) := by decide +kernel
theorem dX5_sweeps_45 : decode cX5_sweeps 45 = .ok (.iadd, 1) := by decide +kernel
theorem dX5_sweeps_46 : decode cX5_sweeps 46 = .ok (.istore_n 1, 1) := by decide +kernel
theorem dX5_sweeps_47 : decode cX5_sweeps 47 = .ok (.aload_n 0, 1) := by decide +kernel
theorem dX5_sweeps_48 : decode cX5_sweeps 48 = .ok (.getfield 37, 3) := by decide +kernel
theorem dX5_sweeps_51 : decode cX5_sweeps 51 = .ok (.iload_n 2, 1) := by decide +kernel
theorem dX5_sweeps_52 : decode cX5_sweeps 52 = .ok (.aload_n 0, 1) := by decide +kernel
theorem dX5_sweeps_53 : decode cX5_sweeps 53 = .ok (.getfield 37, 3) := by decide +kernel
theorem dX5_sweeps_56 : decode cX5_sweeps 56 = .ok (.iload_n 2, 1) := by decide +kernel
theorem dX5_sweeps_57 : decode cX5_sweeps 57 = .ok (.baload, 1) := by decide +kernel
theorem dX5_sweeps_58 : decode cX5_sweeps 58 = .ok (.ifCond .ne 7, 3) := by decide +kernel
theorem dX5_sweeps_61 : decode cX5_sweeps 61 = .ok (.iload_n 3, 1) := by decide +kernel
theorem dX5_sweeps_62 : decode cX5_sweeps 62 = .ok (.ifCond .eq 7, 3) := by decide +kernel
theorem dX5_sweeps_65 : decode cX5_sweeps 65 = .ok (.iconst 1, 1) := by decide +kernel
theorem dX5_sweeps_66 : decode cX5_sweeps 66 = .ok (.goto 4, 3) := by decide +kernel
theorem dX5_sweeps_69 : decode cX5_sweeps 69 = .ok (.iconst 0, 1) := by decide +kernel
theorem dX5_sweeps_70 : decode cX5_sweeps 70 = .ok (.bastore, 1) := by decide +kernel
theorem dX5_sweeps_71 : decode cX5_sweeps 71 = .ok (.iinc 2 1, 3) := by decide +kernel
theorem dX5_sweeps_74 : decode cX5_sweeps 74 = .ok (.goto (-70), 3) := by decide +kernel
theorem dX5_sweeps_77 : decode cX5_sweeps 77 = .ok (.iload_n 1, 1) := by decide +kernel
theorem dX5_sweeps_78 : decode cX5_sweeps 78 = .ok (.ireturn, 1) := by decide +kernel
set_option maxRecDepth 20000 in
theorem ggX5_setRisk_X5_isPerson : GoodIn wsX5_setRisk wsX5_isPerson := goodIn_r _ [9, 10, 11, 8, 12] (by decide +kernel) (by decide +kernel)
set_option maxRecDepth 20000 in
theorem gX5_setRisk_X5_isPerson : GoodIn wsX5_setRisk (va_wsS RX5 63 yX5_isPerson wsX5_isPerson) := goodIn_app (goodIn_of _ (by decide +kernel)) ggX5_setRisk_X5_isPerson
set_option maxRecDepth 20000 in
theorem ggX5_setRisk_X5_in : GoodIn wsX5_setRisk wsX5_in := goodIn_r _ [12] (by decide +kernel) (by decide +kernel)
set_option maxRecDepth 20000 in
theorem gX5_setRisk_X5_in : GoodIn wsX5_setRisk (va_wsS RX5 51 yX5_in wsX5_in) := goodIn_app (goodIn_of _ (by decide +kernel)) ggX5_setRisk_X5_in
set_option maxRecDepth 20000 in
theorem ggX5_setRisk_X5_fails : GoodIn wsX5_setRisk wsX5_fails := goodIn_r _ [16, 1, 17, 18, 19, 20, 21, 22, 23, 24, 25, 26, 27, 28, 29, 30, 31, 32, 33] (by decide +kernel) (by decide +kernel)
set_option maxRecDepth 20000 in
theorem gX5_setRisk_X5_fails : GoodIn wsX5_setRisk (wsV RX5 73 RX5 yX5_fails wsX5_fails) := goodIn_app (goodIn_of _ (by decide +kernel)) ggX5_setRisk_X5_fails
theorem dX5_setRisk_0 : decode cX5_setRisk 0 = .ok (.aload_n 0, 1) := by decide +kernel
theorem dX5_setRisk_1 : decode cX5_setRisk 1 = .ok (.iconst 0, 1) := by decide +kernel
theorem dX5_setRisk_2 : decode cX5_setRisk 2 = .ok (.putfield 47, 3) := by decide +kernel
theorem dX5_setRisk_5 : decode cX5_setRisk 5 = .ok (.iload_n 1, 1) := by decide +kernel
theorem dX5_setRisk_6 : decode cX5_setRisk 6 = .ok (.invokestatic 63, 3) := by decide +kernel
theorem dX5_setRisk_9 : decode cX5_setRisk 9 = .ok (.ifCond .eq 12, 3) := by decide +kernel
theorem dX5_setRisk_12 : decode cX5_setRisk 12 = .ok (.iload_n 2, 1) := by decide +kernel
theorem dX5_setRisk_13 : decode cX5_setRisk 13 = .ok (.iconst 0, 1) := by decide +kernel
theorem dX5_setRisk_14 : decode cX5_setRisk 14 = .ok (.iconst 3, 1) := by decide +kernel
theorem dX5_setRisk_15 : decode cX5_setRisk 15 = .ok (.invokestatic 51, 3) := by decide +kernel
theorem dX5_setRisk_18 : decode cX5_setRisk 18 = .ok (.ifCond .ne 9, 3) := by decide +kernel
theorem dX5_setRisk_21 : decode cX5_setRisk 21 = .ok (.aload_n 0, 1) := by decide +kernel
theorem dX5_setRisk_22 : decode cX5_setRisk 22 = .ok (.iconst 1, 1) := by decide +kernel
theorem dX5_setRisk_23 : decode cX5_setRisk 23 = .ok (.invokevirtual 73, 3) := by decide +kernel
theorem dX5_setRisk_26 : decode cX5_setRisk 26 = .ok (.ireturn, 1) := by decide +kernel
theorem dX5_setRisk_27 : decode cX5_setRisk 27 = .ok (.iconst 0, 1) := by decide +kernel
theorem dX5_setRisk_28 : decode cX5_setRisk 28 = .ok (.istore_n 3, 1) := by decide +kernel
theorem dX5_setRisk_29 : decode cX5_setRisk 29 = .ok (.iconst 0, 1) := by decide +kernel
theorem dX5_setRisk_30 : decode cX5_setRisk 30 = .ok (.istore 4, 2) := by decide +kernel
theorem dX5_setRisk_32 : decode cX5_setRisk 32 = .ok (.iload 4, 2) := by decide +kernel
theorem dX5_setRisk_34 : decode cX5_setRisk 34 = .ok (.aload_n 0, 1) := by decide +kernel
theorem dX5_setRisk_35 : decode cX5_setRisk 35 = .ok (.getfield 94, 3) := by decide +kernel
theorem dX5_setRisk_38 : decode cX5_setRisk 38 = .ok (.if_icmp .ge 87, 3) := by decide +kernel
theorem dX5_setRisk_41 : decode cX5_setRisk 41 = .ok (.iload_n 2, 1) := by decide +kernel
theorem dX5_setRisk_42 : decode cX5_setRisk 42 = .ok (.aload_n 0, 1) := by decide +kernel
theorem dX5_setRisk_43 : decode cX5_setRisk 43 = .ok (.getfield 19, 3) := by decide +kernel
theorem dX5_setRisk_46 : decode cX5_setRisk 46 = .ok (.iload_n 1, 1) := by decide +kernel
theorem dX5_setRisk_47 : decode cX5_setRisk 47 = .ok (.iaload, 1) := by decide +kernel
theorem dX5_setRisk_48 : decode cX5_setRisk 48 = .ok (.if_icmp .le 28, 3) := by decide +kernel
theorem dX5_setRisk_51 : decode cX5_setRisk 51 = .ok (.aload_n 0, 1) := by decide +kernel
theorem dX5_setRisk_52 : decode cX5_setRisk 52 = .ok (.getfield 25, 3) := by decide +kernel
theorem dX5_setRisk_55 : decode cX5_setRisk 55 = .ok (.iload 4, 2) := by decide +kernel
theorem dX5_setRisk_57 : decode cX5_setRisk 57 = .ok (.iaload, 1) := by decide +kernel
theorem dX5_setRisk_58 : decode cX5_setRisk 58 = .ok (.iload_n 1, 1) := by decide +kernel
theorem dX5_setRisk_59 : decode cX5_setRisk 59 = .ok (.if_icmp .ne 17, 3) := by decide +kernel
theorem dX5_setRisk_62 : decode cX5_setRisk 62 = .ok (.aload_n 0, 1) := by decide +kernel
theorem dX5_setRisk_63 : decode cX5_setRisk 63 = .ok (.getfield 37, 3) := by decide +kernel
theorem dX5_setRisk_66 : decode cX5_setRisk 66 = .ok (.iload 4, 2) := by decide +kernel
theorem dX5_setRisk_68 : decode cX5_setRisk 68 = .ok (.baload, 1) := by decide +kernel
theorem dX5_setRisk_69 : decode cX5_setRisk 69 = .ok (.ifCond .ne 7, 3) := by decide +kernel
theorem dX5_setRisk_72 : decode cX5_setRisk 72 = .ok (.iconst 1, 1) := by decide +kernel
theorem dX5_setRisk_73 : decode cX5_setRisk 73 = .ok (.goto 4, 3) := by decide +kernel
theorem dX5_setRisk_76 : decode cX5_setRisk 76 = .ok (.iconst 0, 1) := by decide +kernel
theorem dX5_setRisk_77 : decode cX5_setRisk 77 = .ok (.istore 5, 2) := by decide +kernel
theorem dX5_setRisk_79 : decode cX5_setRisk 79 = .ok (.iload_n 3, 1) := by decide +kernel
theorem dX5_setRisk_80 : decode cX5_setRisk 80 = .ok (.iload 5, 2) := by decide +kernel
theorem dX5_setRisk_82 : decode cX5_setRisk 82 = .ok (.ifCond .eq 7, 3) := by decide +kernel
theorem dX5_setRisk_85 : decode cX5_setRisk 85 = .ok (.iconst 1, 1) := by decide +kernel
theorem dX5_setRisk_86 : decode cX5_setRisk 86 = .ok (.goto 4, 3) := by decide +kernel
theorem dX5_setRisk_89 : decode cX5_setRisk 89 = .ok (.iconst 0, 1) := by decide +kernel
theorem dX5_setRisk_90 : decode cX5_setRisk 90 = .ok (.iadd, 1) := by decide +kernel
theorem dX5_setRisk_91 : decode cX5_setRisk 91 = .ok (.istore_n 3, 1) := by decide +kernel
theorem dX5_setRisk_92 : decode cX5_setRisk 92 = .ok (.aload_n 0, 1) := by decide +kernel
theorem dX5_setRisk_93 : decode cX5_setRisk 93 = .ok (.getfield 37, 3) := by decide +kernel
theorem dX5_setRisk_96 : decode cX5_setRisk 96 = .ok (.iload 4, 2) := by decide +kernel
theorem dX5_setRisk_98 : decode cX5_setRisk 98 = .ok (.aload_n 0, 1) := by decide +kernel
theorem dX5_setRisk_99 : decode cX5_setRisk 99 = .ok (.getfield 37, 3) := by decide +kernel
theorem dX5_setRisk_102 : decode cX5_setRisk 102 = .ok (.iload 4, 2) := by decide +kernel
theorem dX5_setRisk_104 : decode cX5_setRisk 104 = .ok (.baload, 1) := by decide +kernel
theorem dX5_setRisk_105 : decode cX5_setRisk 105 = .ok (.ifCond .ne 8, 3) := by decide +kernel
theorem dX5_setRisk_108 : decode cX5_setRisk 108 = .ok (.iload 5, 2) := by decide +kernel
theorem dX5_setRisk_110 : decode cX5_setRisk 110 = .ok (.ifCond .eq 7, 3) := by decide +kernel
theorem dX5_setRisk_113 : decode cX5_setRisk 113 = .ok (.iconst 1, 1) := by decide +kernel
theorem dX5_setRisk_114 : decode cX5_setRisk 114 = .ok (.goto 4, 3) := by decide +kernel
theorem dX5_setRisk_117 : decode cX5_setRisk 117 = .ok (.iconst 0, 1) := by decide +kernel
theorem dX5_setRisk_118 : decode cX5_setRisk 118 = .ok (.bastore, 1) := by decide +kernel
theorem dX5_setRisk_119 : decode cX5_setRisk 119 = .ok (.iinc 4 1, 3) := by decide +kernel
theorem dX5_setRisk_122 : decode cX5_setRisk 122 = .ok (.goto (-90), 3) := by decide +kernel
theorem dX5_setRisk_125 : decode cX5_setRisk 125 = .ok (.aload_n 0, 1) := by decide +kernel
theorem dX5_setRisk_126 : decode cX5_setRisk 126 = .ok (.getfield 19, 3) := by decide +kernel
theorem dX5_setRisk_129 : decode cX5_setRisk 129 = .ok (.iload_n 1, 1) := by decide +kernel
theorem dX5_setRisk_130 : decode cX5_setRisk 130 = .ok (.iload_n 2, 1) := by decide +kernel
theorem dX5_setRisk_131 : decode cX5_setRisk 131 = .ok (.iastore, 1) := by decide +kernel
theorem dX5_setRisk_132 : decode cX5_setRisk 132 = .ok (.iload_n 3, 1) := by decide +kernel
theorem dX5_setRisk_133 : decode cX5_setRisk 133 = .ok (.ireturn, 1) := by decide +kernel
set_option maxRecDepth 20000 in
theorem ggX5_isIn_X5_isGroup : GoodIn wsX5_isIn wsX5_isGroup := goodIn_r _ [5, 6, 7, 4, 8] (by decide +kernel) (by decide +kernel)
set_option maxRecDepth 20000 in
theorem gX5_isIn_X5_isGroup : GoodIn wsX5_isIn (va_wsS RX5 59 yX5_isGroup wsX5_isGroup) := goodIn_app (goodIn_of _ (by decide +kernel)) ggX5_isIn_X5_isGroup
set_option maxRecDepth 20000 in
theorem ggX5_isIn_X5_isPerson : GoodIn wsX5_isIn wsX5_isPerson := goodIn_r _ [11, 6, 7, 4, 8] (by decide +kernel) (by decide +kernel)
set_option maxRecDepth 20000 in
theorem gX5_isIn_X5_isPerson : GoodIn wsX5_isIn (va_wsS RX5 63 yX5_isPerson wsX5_isPerson) := goodIn_app (goodIn_of _ (by decide +kernel)) ggX5_isIn_X5_isPerson
set_option maxRecDepth 20000 in
theorem ggX5_isIn_X5_belongs : GoodIn wsX5_isIn wsX5_belongs := goodIn_r _ [15, 16, 17, 18, 19, 4, 20, 21, 22, 23, 24, 25, 26, 27, 28, 29, 30, 31, 32, 33, 34, 35, 36, 37, 38, 39, 40, 41] (by decide +kernel) (by decide +kernel)
set_option maxRecDepth 20000 in
theorem gX5_isIn_X5_belongs : GoodIn wsX5_isIn (wsV RX5 76 RX5 yX5_belongs wsX5_belongs) := goodIn_app (goodIn_of _ (by decide +kernel)) ggX5_isIn_X5_belongs
theorem dX5_isIn_0 : decode cX5_isIn 0 = .ok (.aload_n 0, 1) := by decide +kernel
theorem dX5_isIn_1 : decode cX5_isIn 1 = .ok (.iload_n 1, 1) := by decide +kernel
theorem dX5_isIn_2 : decode cX5_isIn 2 = .ok (.invokestatic 59, 3) := by decide +kernel
theorem dX5_isIn_5 : decode cX5_isIn 5 = .ok (.ifCond .eq 14, 3) := by decide +kernel
theorem dX5_isIn_8 : decode cX5_isIn 8 = .ok (.iload_n 2, 1) := by decide +kernel
theorem dX5_isIn_9 : decode cX5_isIn 9 = .ok (.invokestatic 63, 3) := by decide +kernel
theorem dX5_isIn_12 : decode cX5_isIn 12 = .ok (.ifCond .eq 7, 3) := by decide +kernel
theorem dX5_isIn_15 : decode cX5_isIn 15 = .ok (.iconst 0, 1) := by decide +kernel
theorem dX5_isIn_16 : decode cX5_isIn 16 = .ok (.goto 4, 3) := by decide +kernel
theorem dX5_isIn_19 : decode cX5_isIn 19 = .ok (.iconst 1, 1) := by decide +kernel
theorem dX5_isIn_20 : decode cX5_isIn 20 = .ok (.putfield 47, 3) := by decide +kernel
theorem dX5_isIn_23 : decode cX5_isIn 23 = .ok (.aload_n 0, 1) := by decide +kernel
theorem dX5_isIn_24 : decode cX5_isIn 24 = .ok (.getfield 47, 3) := by decide +kernel
theorem dX5_isIn_27 : decode cX5_isIn 27 = .ok (.ifCond .ne 16, 3) := by decide +kernel
theorem dX5_isIn_30 : decode cX5_isIn 30 = .ok (.aload_n 0, 1) := by decide +kernel
theorem dX5_isIn_31 : decode cX5_isIn 31 = .ok (.iload_n 1, 1) := by decide +kernel
theorem dX5_isIn_32 : decode cX5_isIn 32 = .ok (.iload_n 2, 1) := by decide +kernel
theorem dX5_isIn_33 : decode cX5_isIn 33 = .ok (.invokevirtual 76, 3) := by decide +kernel
theorem dX5_isIn_36 : decode cX5_isIn 36 = .ok (.ifCond .eq 7, 3) := by decide +kernel
theorem dX5_isIn_39 : decode cX5_isIn 39 = .ok (.iconst 1, 1) := by decide +kernel
theorem dX5_isIn_40 : decode cX5_isIn 40 = .ok (.goto 4, 3) := by decide +kernel
theorem dX5_isIn_43 : decode cX5_isIn 43 = .ok (.iconst 0, 1) := by decide +kernel
theorem dX5_isIn_44 : decode cX5_isIn 44 = .ok (.ireturn, 1) := by decide +kernel
set_option maxRecDepth 20000 in
theorem ggX5_allows_X5_isPerson : GoodIn wsX5_allows wsX5_isPerson := goodIn_r _ [5, 6, 7, 4, 8] (by decide +kernel) (by decide +kernel)
set_option maxRecDepth 20000 in
theorem gX5_allows_X5_isPerson : GoodIn wsX5_allows (va_wsS RX5 63 yX5_isPerson wsX5_isPerson) := goodIn_app (goodIn_of _ (by decide +kernel)) ggX5_allows_X5_isPerson
set_option maxRecDepth 20000 in
theorem ggX5_allows_X5_isRole : GoodIn wsX5_allows wsX5_isRole := goodIn_r _ [11, 6, 7, 4, 8] (by decide +kernel) (by decide +kernel)
set_option maxRecDepth 20000 in
theorem gX5_allows_X5_isRole : GoodIn wsX5_allows (va_wsS RX5 70 yX5_isRole wsX5_isRole) := goodIn_app (goodIn_of _ (by decide +kernel)) ggX5_allows_X5_isRole
set_option maxRecDepth 20000 in
theorem ggX5_allows_X5_lets : GoodIn wsX5_allows wsX5_lets := goodIn_r _ [15, 16, 17, 18, 19, 20, 21, 4, 22, 23, 24, 25, 26, 27, 28, 29, 30, 31, 32, 33, 34, 35, 36, 37, 38, 39, 40, 41, 42, 43, 44, 45, 46, 47, 48, 49, 50, 51, 52, 53] (by decide +kernel) (by decide +kernel)
set_option maxRecDepth 20000 in
theorem gX5_allows_X5_lets : GoodIn wsX5_allows (wsV RX5 100 RX5 yX5_lets wsX5_lets) := goodIn_app (goodIn_of _ (by decide +kernel)) ggX5_allows_X5_lets
theorem dX5_allows_0 : decode cX5_allows 0 = .ok (.aload_n 0, 1) := by decide +kernel
theorem dX5_allows_1 : decode cX5_allows 1 = .ok (.iload_n 1, 1) := by decide +kernel
theorem dX5_allows_2 : decode cX5_allows 2 = .ok (.invokestatic 63, 3) := by decide +kernel
theorem dX5_allows_5 : decode cX5_allows 5 = .ok (.ifCond .eq 14, 3) := by decide +kernel
theorem dX5_allows_8 : decode cX5_allows 8 = .ok (.iload_n 2, 1) := by decide +kernel
theorem dX5_allows_9 : decode cX5_allows 9 = .ok (.invokestatic 70, 3) := by decide +kernel
theorem dX5_allows_12 : decode cX5_allows 12 = .ok (.ifCond .eq 7, 3) := by decide +kernel
theorem dX5_allows_15 : decode cX5_allows 15 = .ok (.iconst 0, 1) := by decide +kernel
theorem dX5_allows_16 : decode cX5_allows 16 = .ok (.goto 4, 3) := by decide +kernel
theorem dX5_allows_19 : decode cX5_allows 19 = .ok (.iconst 1, 1) := by decide +kernel
theorem dX5_allows_20 : decode cX5_allows 20 = .ok (.putfield 47, 3) := by decide +kernel
theorem dX5_allows_23 : decode cX5_allows 23 = .ok (.aload_n 0, 1) := by decide +kernel
theorem dX5_allows_24 : decode cX5_allows 24 = .ok (.getfield 47, 3) := by decide +kernel
theorem dX5_allows_27 : decode cX5_allows 27 = .ok (.ifCond .ne 16, 3) := by decide +kernel
theorem dX5_allows_30 : decode cX5_allows 30 = .ok (.aload_n 0, 1) := by decide +kernel
theorem dX5_allows_31 : decode cX5_allows 31 = .ok (.iload_n 1, 1) := by decide +kernel
theorem dX5_allows_32 : decode cX5_allows 32 = .ok (.iload_n 2, 1) := by decide +kernel
theorem dX5_allows_33 : decode cX5_allows 33 = .ok (.invokevirtual 100, 3) := by decide +kernel
theorem dX5_allows_36 : decode cX5_allows 36 = .ok (.ifCond .eq 7, 3) := by decide +kernel
theorem dX5_allows_39 : decode cX5_allows 39 = .ok (.iconst 1, 1) := by decide +kernel
theorem dX5_allows_40 : decode cX5_allows 40 = .ok (.goto 4, 3) := by decide +kernel
theorem dX5_allows_43 : decode cX5_allows 43 = .ok (.iconst 0, 1) := by decide +kernel
theorem dX5_allows_44 : decode cX5_allows 44 = .ok (.ireturn, 1) := by decide +kernel
set_option maxRecDepth 20000 in
theorem ggX5_open_X5_isPerson : GoodIn wsX5_open wsX5_isPerson := goodIn_r _ [13, 14, 15, 12, 16] (by decide +kernel) (by decide +kernel)
set_option maxRecDepth 20000 in
theorem gX5_open_X5_isPerson : GoodIn wsX5_open (va_wsS RX5 63 yX5_isPerson wsX5_isPerson) := goodIn_app (goodIn_of _ (by decide +kernel)) ggX5_open_X5_isPerson
set_option maxRecDepth 20000 in
theorem ggX5_open_X5_fails : GoodIn wsX5_open wsX5_fails := goodIn_r _ [20, 1, 21, 22, 23, 24, 25, 26, 27, 28, 29, 30, 31, 32, 33, 34, 35, 36, 37] (by decide +kernel) (by decide +kernel)
set_option maxRecDepth 20000 in
theorem gX5_open_X5_fails : GoodIn wsX5_open (wsV RX5 73 RX5 yX5_fails wsX5_fails) := goodIn_app (goodIn_of _ (by decide +kernel)) ggX5_open_X5_fails
theorem dX5_open_0 : decode cX5_open 0 = .ok (.aload_n 0, 1) := by decide +kernel
theorem dX5_open_1 : decode cX5_open 1 = .ok (.iconst 0, 1) := by decide +kernel
theorem dX5_open_2 : decode cX5_open 2 = .ok (.putfield 47, 3) := by decide +kernel
theorem dX5_open_5 : decode cX5_open 5 = .ok (.iload_n 1, 1) := by decide +kernel
theorem dX5_open_6 : decode cX5_open 6 = .ok (.invokestatic 63, 3) := by decide +kernel
theorem dX5_open_9 : decode cX5_open 9 = .ok (.ifCond .ne 9, 3) := by decide +kernel
theorem dX5_open_12 : decode cX5_open 12 = .ok (.aload_n 0, 1) := by decide +kernel
theorem dX5_open_13 : decode cX5_open 13 = .ok (.iconst 1, 1) := by decide +kernel
theorem dX5_open_14 : decode cX5_open 14 = .ok (.invokevirtual 73, 3) := by decide +kernel
theorem dX5_open_17 : decode cX5_open 17 = .ok (.ireturn, 1) := by decide +kernel
theorem dX5_open_18 : decode cX5_open 18 = .ok (.aload_n 0, 1) := by decide +kernel
theorem dX5_open_19 : decode cX5_open 19 = .ok (.getfield 19, 3) := by decide +kernel
theorem dX5_open_22 : decode cX5_open 22 = .ok (.iload_n 1, 1) := by decide +kernel
theorem dX5_open_23 : decode cX5_open 23 = .ok (.iaload, 1) := by decide +kernel
theorem dX5_open_24 : decode cX5_open 24 = .ok (.iconst 3, 1) := by decide +kernel
theorem dX5_open_25 : decode cX5_open 25 = .ok (.if_icmp .eq 12, 3) := by decide +kernel
theorem dX5_open_28 : decode cX5_open 28 = .ok (.aload_n 0, 1) := by decide +kernel
theorem dX5_open_29 : decode cX5_open 29 = .ok (.getfield 94, 3) := by decide +kernel
theorem dX5_open_32 : decode cX5_open 32 = .ok (.bipush 30, 2) := by decide +kernel
theorem dX5_open_34 : decode cX5_open 34 = .ok (.if_icmp .ne 9, 3) := by decide +kernel
theorem dX5_open_37 : decode cX5_open 37 = .ok (.aload_n 0, 1) := by decide +kernel
theorem dX5_open_38 : decode cX5_open 38 = .ok (.iconst 2, 1) := by decide +kernel
theorem dX5_open_39 : decode cX5_open 39 = .ok (.invokevirtual 73, 3) := by decide +kernel
theorem dX5_open_42 : decode cX5_open 42 = .ok (.ireturn, 1) := by decide +kernel
theorem dX5_open_43 : decode cX5_open 43 = .ok (.aload_n 0, 1) := by decide +kernel
theorem dX5_open_44 : decode cX5_open 44 = .ok (.getfield 25, 3) := by decide +kernel
theorem dX5_open_47 : decode cX5_open 47 = .ok (.aload_n 0, 1) := by decide +kernel
theorem dX5_open_48 : decode cX5_open 48 = .ok (.getfield 94, 3) := by decide +kernel
theorem dX5_open_51 : decode cX5_open 51 = .ok (.iload_n 1, 1) := by decide +kernel
theorem dX5_open_52 : decode cX5_open 52 = .ok (.iastore, 1) := by decide +kernel
theorem dX5_open_53 : decode cX5_open 53 = .ok (.aload_n 0, 1) := by decide +kernel
theorem dX5_open_54 : decode cX5_open 54 = .ok (.getfield 28, 3) := by decide +kernel
theorem dX5_open_57 : decode cX5_open 57 = .ok (.aload_n 0, 1) := by decide +kernel
theorem dX5_open_58 : decode cX5_open 58 = .ok (.getfield 94, 3) := by decide +kernel
theorem dX5_open_61 : decode cX5_open 61 = .ok (.aload_n 0, 1) := by decide +kernel
theorem dX5_open_62 : decode cX5_open 62 = .ok (.getfield 85, 3) := by decide +kernel
theorem dX5_open_65 : decode cX5_open 65 = .ok (.iastore, 1) := by decide +kernel
theorem dX5_open_66 : decode cX5_open 66 = .ok (.aload_n 0, 1) := by decide +kernel
theorem dX5_open_67 : decode cX5_open 67 = .ok (.getfield 31, 3) := by decide +kernel
theorem dX5_open_70 : decode cX5_open 70 = .ok (.aload_n 0, 1) := by decide +kernel
theorem dX5_open_71 : decode cX5_open 71 = .ok (.getfield 94, 3) := by decide +kernel
theorem dX5_open_74 : decode cX5_open 74 = .ok (.aload_n 0, 1) := by decide +kernel
theorem dX5_open_75 : decode cX5_open 75 = .ok (.getfield 82, 3) := by decide +kernel
theorem dX5_open_78 : decode cX5_open 78 = .ok (.iastore, 1) := by decide +kernel
theorem dX5_open_79 : decode cX5_open 79 = .ok (.aload_n 0, 1) := by decide +kernel
theorem dX5_open_80 : decode cX5_open 80 = .ok (.getfield 34, 3) := by decide +kernel
theorem dX5_open_83 : decode cX5_open 83 = .ok (.aload_n 0, 1) := by decide +kernel
theorem dX5_open_84 : decode cX5_open 84 = .ok (.getfield 94, 3) := by decide +kernel
theorem dX5_open_87 : decode cX5_open 87 = .ok (.aload_n 0, 1) := by decide +kernel
theorem dX5_open_88 : decode cX5_open 88 = .ok (.getfield 82, 3) := by decide +kernel
theorem dX5_open_91 : decode cX5_open 91 = .ok (.iastore, 1) := by decide +kernel
theorem dX5_open_92 : decode cX5_open 92 = .ok (.aload_n 0, 1) := by decide +kernel
theorem dX5_open_93 : decode cX5_open 93 = .ok (.dup, 1) := by decide +kernel
theorem dX5_open_94 : decode cX5_open 94 = .ok (.getfield 94, 3) := by decide +kernel
theorem dX5_open_97 : decode cX5_open 97 = .ok (.iconst 1, 1) := by decide +kernel
theorem dX5_open_98 : decode cX5_open 98 = .ok (.iadd, 1) := by decide +kernel
theorem dX5_open_99 : decode cX5_open 99 = .ok (.putfield 94, 3) := by decide +kernel
theorem dX5_open_102 : decode cX5_open 102 = .ok (.aload_n 0, 1) := by decide +kernel
theorem dX5_open_103 : decode cX5_open 103 = .ok (.getfield 94, 3) := by decide +kernel
theorem dX5_open_106 : decode cX5_open 106 = .ok (.iconst 1, 1) := by decide +kernel
theorem dX5_open_107 : decode cX5_open 107 = .ok (.isub, 1) := by decide +kernel
theorem dX5_open_108 : decode cX5_open 108 = .ok (.ireturn, 1) := by decide +kernel
set_option maxRecDepth 20000 in
theorem ggX5_isSession_X5_in : GoodIn wsX5_isSession wsX5_in := goodIn_r _ [5] (by decide +kernel) (by decide +kernel)
set_option maxRecDepth 20000 in
theorem gX5_isSession_X5_in : GoodIn wsX5_isSession (va_wsS RX5 51 yX5_in wsX5_in) := goodIn_app (goodIn_of _ (by decide +kernel)) ggX5_isSession_X5_in
theorem dX5_isSession_0 : decode cX5_isSession 0 = .ok (.iload_n 1, 1) := by decide +kernel
theorem dX5_isSession_1 : decode cX5_isSession 1 = .ok (.iconst 0, 1) := by decide +kernel
theorem dX5_isSession_2 : decode cX5_isSession 2 = .ok (.aload_n 0, 1) := by decide +kernel
theorem dX5_isSession_3 : decode cX5_isSession 3 = .ok (.getfield 94, 3) := by decide +kernel
theorem dX5_isSession_6 : decode cX5_isSession 6 = .ok (.iconst 1, 1) := by decide +kernel
theorem dX5_isSession_7 : decode cX5_isSession 7 = .ok (.isub, 1) := by decide +kernel
theorem dX5_isSession_8 : decode cX5_isSession 8 = .ok (.invokestatic 51, 3) := by decide +kernel
theorem dX5_isSession_11 : decode cX5_isSession 11 = .ok (.ireturn, 1) := by decide +kernel
set_option maxRecDepth 20000 in
theorem ggX5_close_X5_isSession : GoodIn wsX5_close wsX5_isSession := goodIn_r _ [9, 10, 11, 12, 8, 13, 18, 19, 20, 21, 22, 23, 24, 25, 26, 27, 28, 29, 30, 31, 32, 33, 34] (by decide +kernel) (by decide +kernel)
set_option maxRecDepth 20000 in
theorem gX5_close_X5_isSession : GoodIn wsX5_close (wsV RX5 103 RX5 yX5_isSession wsX5_isSession) := goodIn_app (goodIn_of _ (by decide +kernel)) ggX5_close_X5_isSession
set_option maxRecDepth 20000 in
theorem ggX5_close_X5_fails : GoodIn wsX5_close wsX5_fails := goodIn_r _ [17, 1, 18, 19, 20, 21, 22, 23, 24, 25, 26, 27, 28, 29, 30, 31, 32, 33, 34] (by decide +kernel) (by decide +kernel)
set_option maxRecDepth 20000 in
theorem gX5_close_X5_fails : GoodIn wsX5_close (wsV RX5 73 RX5 yX5_fails wsX5_fails) := goodIn_app (goodIn_of _ (by decide +kernel)) ggX5_close_X5_fails
theorem dX5_close_0 : decode cX5_close 0 = .ok (.aload_n 0, 1) := by decide +kernel
theorem dX5_close_1 : decode cX5_close 1 = .ok (.iconst 0, 1) := by decide +kernel
theorem dX5_close_2 : decode cX5_close 2 = .ok (.putfield 47, 3) := by decide +kernel
theorem dX5_close_5 : decode cX5_close 5 = .ok (.aload_n 0, 1) := by decide +kernel
theorem dX5_close_6 : decode cX5_close 6 = .ok (.iload_n 1, 1) := by decide +kernel
theorem dX5_close_7 : decode cX5_close 7 = .ok (.invokevirtual 103, 3) := by decide +kernel
theorem dX5_close_10 : decode cX5_close 10 = .ok (.ifCond .ne 9, 3) := by decide +kernel
theorem dX5_close_13 : decode cX5_close 13 = .ok (.aload_n 0, 1) := by decide +kernel
theorem dX5_close_14 : decode cX5_close 14 = .ok (.iconst 1, 1) := by decide +kernel
theorem dX5_close_15 : decode cX5_close 15 = .ok (.invokevirtual 73, 3) := by decide +kernel
theorem dX5_close_18 : decode cX5_close 18 = .ok (.ireturn, 1) := by decide +kernel
theorem dX5_close_19 : decode cX5_close 19 = .ok (.aload_n 0, 1) := by decide +kernel
theorem dX5_close_20 : decode cX5_close 20 = .ok (.getfield 37, 3) := by decide +kernel
theorem dX5_close_23 : decode cX5_close 23 = .ok (.iload_n 1, 1) := by decide +kernel
theorem dX5_close_24 : decode cX5_close 24 = .ok (.baload, 1) := by decide +kernel
theorem dX5_close_25 : decode cX5_close 25 = .ok (.ifCond .eq 9, 3) := by decide +kernel
theorem dX5_close_28 : decode cX5_close 28 = .ok (.aload_n 0, 1) := by decide +kernel
theorem dX5_close_29 : decode cX5_close 29 = .ok (.iconst 2, 1) := by decide +kernel
theorem dX5_close_30 : decode cX5_close 30 = .ok (.invokevirtual 73, 3) := by decide +kernel
theorem dX5_close_33 : decode cX5_close 33 = .ok (.ireturn, 1) := by decide +kernel
theorem dX5_close_34 : decode cX5_close 34 = .ok (.aload_n 0, 1) := by decide +kernel
theorem dX5_close_35 : decode cX5_close 35 = .ok (.getfield 37, 3) := by decide +kernel
theorem dX5_close_38 : decode cX5_close 38 = .ok (.iload_n 1, 1) := by decide +kernel
theorem dX5_close_39 : decode cX5_close 39 = .ok (.iconst 1, 1) := by decide +kernel
theorem dX5_close_40 : decode cX5_close 40 = .ok (.bastore, 1) := by decide +kernel
theorem dX5_close_41 : decode cX5_close 41 = .ok (.aload_n 0, 1) := by decide +kernel
theorem dX5_close_42 : decode cX5_close 42 = .ok (.getfield 82, 3) := by decide +kernel
theorem dX5_close_45 : decode cX5_close 45 = .ok (.aload_n 0, 1) := by decide +kernel
theorem dX5_close_46 : decode cX5_close 46 = .ok (.getfield 31, 3) := by decide +kernel
theorem dX5_close_49 : decode cX5_close 49 = .ok (.iload_n 1, 1) := by decide +kernel
theorem dX5_close_50 : decode cX5_close 50 = .ok (.iaload, 1) := by decide +kernel
theorem dX5_close_51 : decode cX5_close 51 = .ok (.isub, 1) := by decide +kernel
theorem dX5_close_52 : decode cX5_close 52 = .ok (.ireturn, 1) := by decide +kernel
set_option maxRecDepth 20000 in
theorem ggX5_goesOn_X5_isSession : GoodIn wsX5_goesOn wsX5_isSession := goodIn_r _ [7, 8, 9, 10, 6, 11, 12, 13, 14, 15, 16, 17, 18, 19, 20, 21, 22, 23, 24, 25, 26, 27, 28] (by decide +kernel) (by decide +kernel)
set_option maxRecDepth 20000 in
theorem gX5_goesOn_X5_isSession : GoodIn wsX5_goesOn (wsV RX5 103 RX5 yX5_isSession wsX5_isSession) := goodIn_app (goodIn_of _ (by decide +kernel)) ggX5_goesOn_X5_isSession
theorem dX5_goesOn_0 : decode cX5_goesOn 0 = .ok (.aload_n 0, 1) := by decide +kernel
theorem dX5_goesOn_1 : decode cX5_goesOn 1 = .ok (.aload_n 0, 1) := by decide +kernel
theorem dX5_goesOn_2 : decode cX5_goesOn 2 = .ok (.iload_n 1, 1) := by decide +kernel
theorem dX5_goesOn_3 : decode cX5_goesOn 3 = .ok (.invokevirtual 103, 3) := by decide +kernel
theorem dX5_goesOn_6 : decode cX5_goesOn 6 = .ok (.ifCond .eq 7, 3) := by decide +kernel
theorem dX5_goesOn_9 : decode cX5_goesOn 9 = .ok (.iconst 0, 1) := by decide +kernel
theorem dX5_goesOn_10 : decode cX5_goesOn 10 = .ok (.goto 4, 3) := by decide +kernel
theorem dX5_goesOn_13 : decode cX5_goesOn 13 = .ok (.iconst 1, 1) := by decide +kernel
theorem dX5_goesOn_14 : decode cX5_goesOn 14 = .ok (.putfield 47, 3) := by decide +kernel
theorem dX5_goesOn_17 : decode cX5_goesOn 17 = .ok (.aload_n 0, 1) := by decide +kernel
theorem dX5_goesOn_18 : decode cX5_goesOn 18 = .ok (.getfield 47, 3) := by decide +kernel
theorem dX5_goesOn_21 : decode cX5_goesOn 21 = .ok (.ifCond .ne 16, 3) := by decide +kernel
theorem dX5_goesOn_24 : decode cX5_goesOn 24 = .ok (.aload_n 0, 1) := by decide +kernel
theorem dX5_goesOn_25 : decode cX5_goesOn 25 = .ok (.getfield 37, 3) := by decide +kernel
theorem dX5_goesOn_28 : decode cX5_goesOn 28 = .ok (.iload_n 1, 1) := by decide +kernel
theorem dX5_goesOn_29 : decode cX5_goesOn 29 = .ok (.baload, 1) := by decide +kernel
theorem dX5_goesOn_30 : decode cX5_goesOn 30 = .ok (.ifCond .ne 7, 3) := by decide +kernel
theorem dX5_goesOn_33 : decode cX5_goesOn 33 = .ok (.iconst 1, 1) := by decide +kernel
theorem dX5_goesOn_34 : decode cX5_goesOn 34 = .ok (.goto 4, 3) := by decide +kernel
theorem dX5_goesOn_37 : decode cX5_goesOn 37 = .ok (.iconst 0, 1) := by decide +kernel
theorem dX5_goesOn_38 : decode cX5_goesOn 38 = .ok (.ireturn, 1) := by decide +kernel
set_option maxRecDepth 20000 in
theorem ggX5_changeKeys_X5_in : GoodIn wsX5_changeKeys wsX5_in := goodIn_r _ [8] (by decide +kernel) (by decide +kernel)
set_option maxRecDepth 20000 in
theorem gX5_changeKeys_X5_in : GoodIn wsX5_changeKeys (va_wsS RX5 51 yX5_in wsX5_in) := goodIn_app (goodIn_of _ (by decide +kernel)) ggX5_changeKeys_X5_in
set_option maxRecDepth 20000 in
theorem ggX5_changeKeys_X5_fails : GoodIn wsX5_changeKeys wsX5_fails := goodIn_r _ [12, 1, 32, 33, 34, 35, 36, 37, 38, 39, 40, 41, 42, 43, 44, 45, 46, 47, 48] (by decide +kernel) (by decide +kernel)
set_option maxRecDepth 20000 in
theorem gX5_changeKeys_X5_fails : GoodIn wsX5_changeKeys (wsV RX5 73 RX5 yX5_fails wsX5_fails) := goodIn_app (goodIn_of _ (by decide +kernel)) ggX5_changeKeys_X5_fails
set_option maxRecDepth 20000 in
theorem ggX5_changeKeys_X5_sweeps : GoodIn wsX5_changeKeys wsX5_sweeps := goodIn_r _ [16, 17, 18, 19, 20, 21, 7, 22, 3, 23, 24, 25, 26, 27, 28, 29, 30, 31, 2, 4, 32, 33, 34, 35, 36, 37, 38, 39, 40, 41, 42, 43, 44, 45, 46, 47, 48] (by decide +kernel) (by decide +kernel)
set_option maxRecDepth 20000 in
theorem gX5_changeKeys_X5_sweeps : GoodIn wsX5_changeKeys (wsV RX5 106 RX5 yX5_sweeps wsX5_sweeps) := goodIn_app (goodIn_of _ (by decide +kernel)) ggX5_changeKeys_X5_sweeps
theorem dX5_changeKeys_0 : decode cX5_changeKeys 0 = .ok (.aload_n 0, 1) := by decide +kernel
theorem dX5_changeKeys_1 : decode cX5_changeKeys 1 = .ok (.iconst 0, 1) := by decide +kernel
theorem dX5_changeKeys_2 : decode cX5_changeKeys 2 = .ok (.putfield 47, 3) := by decide +kernel
theorem dX5_changeKeys_5 : decode cX5_changeKeys 5 = .ok (.iload_n 1, 1) := by decide +kernel
theorem dX5_changeKeys_6 : decode cX5_changeKeys 6 = .ok (.iconst 0, 1) := by decide +kernel
theorem dX5_changeKeys_7 : decode cX5_changeKeys 7 = .ok (.sipush 300, 3) := by decide +kernel
theorem dX5_changeKeys_10 : decode cX5_changeKeys 10 = .ok (.invokestatic 51, 3) := by decide +kernel
theorem dX5_changeKeys_13 : decode cX5_changeKeys 13 = .ok (.ifCond .ne 9, 3) := by decide +kernel
theorem dX5_changeKeys_16 : decode cX5_changeKeys 16 = .ok (.aload_n 0, 1) := by decide +kernel
theorem dX5_changeKeys_17 : decode cX5_changeKeys 17 = .ok (.iconst 1, 1) := by decide +kernel
theorem dX5_changeKeys_18 : decode cX5_changeKeys 18 = .ok (.invokevirtual 73, 3) := by decide +kernel
theorem dX5_changeKeys_21 : decode cX5_changeKeys 21 = .ok (.ireturn, 1) := by decide +kernel
theorem dX5_changeKeys_22 : decode cX5_changeKeys 22 = .ok (.aload_n 0, 1) := by decide +kernel
theorem dX5_changeKeys_23 : decode cX5_changeKeys 23 = .ok (.dup, 1) := by decide +kernel
theorem dX5_changeKeys_24 : decode cX5_changeKeys 24 = .ok (.getfield 85, 3) := by decide +kernel
theorem dX5_changeKeys_27 : decode cX5_changeKeys 27 = .ok (.iconst 1, 1) := by decide +kernel
theorem dX5_changeKeys_28 : decode cX5_changeKeys 28 = .ok (.iadd, 1) := by decide +kernel
theorem dX5_changeKeys_29 : decode cX5_changeKeys 29 = .ok (.putfield 85, 3) := by decide +kernel
theorem dX5_changeKeys_32 : decode cX5_changeKeys 32 = .ok (.aload_n 0, 1) := by decide +kernel
theorem dX5_changeKeys_33 : decode cX5_changeKeys 33 = .ok (.aload_n 0, 1) := by decide +kernel
theorem dX5_changeKeys_34 : decode cX5_changeKeys 34 = .ok (.getfield 82, 3) := by decide +kernel
theorem dX5_changeKeys_37 : decode cX5_changeKeys 37 = .ok (.iload_n 1, 1) := by decide +kernel
theorem dX5_changeKeys_38 : decode cX5_changeKeys 38 = .ok (.iadd, 1) := by decide +kernel
theorem dX5_changeKeys_39 : decode cX5_changeKeys 39 = .ok (.putfield 88, 3) := by decide +kernel
theorem dX5_changeKeys_42 : decode cX5_changeKeys 42 = .ok (.aload_n 0, 1) := by decide +kernel
theorem dX5_changeKeys_43 : decode cX5_changeKeys 43 = .ok (.invokevirtual 106, 3) := by decide +kernel
theorem dX5_changeKeys_46 : decode cX5_changeKeys 46 = .ok (.istore_n 2, 1) := by decide +kernel
theorem dX5_changeKeys_47 : decode cX5_changeKeys 47 = .ok (.aload_n 0, 1) := by decide +kernel
theorem dX5_changeKeys_48 : decode cX5_changeKeys 48 = .ok (.getfield 85, 3) := by decide +kernel
theorem dX5_changeKeys_51 : decode cX5_changeKeys 51 = .ok (.ireturn, 1) := by decide +kernel
set_option maxRecDepth 20000 in
theorem ggX5_isTaken_X5_in : GoodIn wsX5_isTaken wsX5_in := goodIn_r _ [6] (by decide +kernel) (by decide +kernel)
set_option maxRecDepth 20000 in
theorem gX5_isTaken_X5_in : GoodIn wsX5_isTaken (va_wsS RX5 51 yX5_in wsX5_in) := goodIn_app (goodIn_of _ (by decide +kernel)) ggX5_isTaken_X5_in
set_option maxRecDepth 20000 in
theorem ggX5_isTaken_X5_isKey : GoodIn wsX5_isTaken wsX5_isKey := goodIn_r _ [10, 1, 11, 12, 13, 14, 15, 16, 17, 18, 19, 20, 21, 22, 23, 24, 25, 26, 27, 28, 29] (by decide +kernel) (by decide +kernel)
set_option maxRecDepth 20000 in
theorem gX5_isTaken_X5_isKey : GoodIn wsX5_isTaken (wsV RX5 91 RX5 yX5_isKey wsX5_isKey) := goodIn_app (goodIn_of _ (by decide +kernel)) ggX5_isTaken_X5_isKey
theorem dX5_isTaken_0 : decode cX5_isTaken 0 = .ok (.aload_n 0, 1) := by decide +kernel
theorem dX5_isTaken_1 : decode cX5_isTaken 1 = .ok (.iload_n 1, 1) := by decide +kernel
theorem dX5_isTaken_2 : decode cX5_isTaken 2 = .ok (.iconst 0, 1) := by decide +kernel
theorem dX5_isTaken_3 : decode cX5_isTaken 3 = .ok (.aload_n 0, 1) := by decide +kernel
theorem dX5_isTaken_4 : decode cX5_isTaken 4 = .ok (.getfield 85, 3) := by decide +kernel
theorem dX5_isTaken_7 : decode cX5_isTaken 7 = .ok (.invokestatic 51, 3) := by decide +kernel
theorem dX5_isTaken_10 : decode cX5_isTaken 10 = .ok (.ifCond .eq 7, 3) := by decide +kernel
theorem dX5_isTaken_13 : decode cX5_isTaken 13 = .ok (.iconst 0, 1) := by decide +kernel
theorem dX5_isTaken_14 : decode cX5_isTaken 14 = .ok (.goto 4, 3) := by decide +kernel
theorem dX5_isTaken_17 : decode cX5_isTaken 17 = .ok (.iconst 1, 1) := by decide +kernel
theorem dX5_isTaken_18 : decode cX5_isTaken 18 = .ok (.putfield 47, 3) := by decide +kernel
theorem dX5_isTaken_21 : decode cX5_isTaken 21 = .ok (.aload_n 0, 1) := by decide +kernel
theorem dX5_isTaken_22 : decode cX5_isTaken 22 = .ok (.getfield 47, 3) := by decide +kernel
theorem dX5_isTaken_25 : decode cX5_isTaken 25 = .ok (.ifCond .ne 15, 3) := by decide +kernel
theorem dX5_isTaken_28 : decode cX5_isTaken 28 = .ok (.aload_n 0, 1) := by decide +kernel
theorem dX5_isTaken_29 : decode cX5_isTaken 29 = .ok (.iload_n 1, 1) := by decide +kernel
theorem dX5_isTaken_30 : decode cX5_isTaken 30 = .ok (.invokevirtual 91, 3) := by decide +kernel
theorem dX5_isTaken_33 : decode cX5_isTaken 33 = .ok (.ifCond .eq 7, 3) := by decide +kernel
theorem dX5_isTaken_36 : decode cX5_isTaken 36 = .ok (.iconst 1, 1) := by decide +kernel
theorem dX5_isTaken_37 : decode cX5_isTaken 37 = .ok (.goto 4, 3) := by decide +kernel
theorem dX5_isTaken_40 : decode cX5_isTaken 40 = .ok (.iconst 0, 1) := by decide +kernel
theorem dX5_isTaken_41 : decode cX5_isTaken 41 = .ok (.ireturn, 1) := by decide +kernel
set_option maxRecDepth 20000 in
theorem ggX5_pass_X5_in : GoodIn wsX5_pass wsX5_in := goodIn_r _ [6] (by decide +kernel) (by decide +kernel)
set_option maxRecDepth 20000 in
theorem gX5_pass_X5_in : GoodIn wsX5_pass (va_wsS RX5 51 yX5_in wsX5_in) := goodIn_app (goodIn_of _ (by decide +kernel)) ggX5_pass_X5_in
set_option maxRecDepth 20000 in
theorem ggX5_pass_X5_fails : GoodIn wsX5_pass wsX5_fails := goodIn_r _ [10, 1, 32, 33, 34, 35, 36, 37, 38, 39, 40, 41, 42, 43, 44, 45, 46, 47, 48] (by decide +kernel) (by decide +kernel)
set_option maxRecDepth 20000 in
theorem gX5_pass_X5_fails : GoodIn wsX5_pass (wsV RX5 73 RX5 yX5_fails wsX5_fails) := goodIn_app (goodIn_of _ (by decide +kernel)) ggX5_pass_X5_fails
set_option maxRecDepth 20000 in
theorem ggX5_pass_X5_sweeps : GoodIn wsX5_pass wsX5_sweeps := goodIn_r _ [14, 15, 16, 17, 18, 19, 5, 20, 2, 21, 22, 23, 24, 25, 26, 27, 28, 29, 30, 31, 32, 33, 34, 35, 36, 37, 38, 39, 40, 41, 42, 43, 44, 45, 46, 47, 48] (by decide +kernel) (by decide +kernel)
set_option maxRecDepth 20000 in
theorem gX5_pass_X5_sweeps : GoodIn wsX5_pass (wsV RX5 106 RX5 yX5_sweeps wsX5_sweeps) := goodIn_app (goodIn_of _ (by decide +kernel)) ggX5_pass_X5_sweeps
theorem dX5_pass_0 : decode cX5_pass 0 = .ok (.aload_n 0, 1) := by decide +kernel
theorem dX5_pass_1 : decode cX5_pass 1 = .ok (.iconst 0, 1) := by decide +kernel
theorem dX5_pass_2 : decode cX5_pass 2 = .ok (.putfield 47, 3) := by decide +kernel
theorem dX5_pass_5 : decode cX5_pass 5 = .ok (.iload_n 1, 1) := by decide +kernel
theorem dX5_pass_6 : decode cX5_pass 6 = .ok (.iconst 1, 1) := by decide +kernel
theorem dX5_pass_7 : decode cX5_pass 7 = .ok (.sipush 300, 3) := by decide +kernel
theorem dX5_pass_10 : decode cX5_pass 10 = .ok (.invokestatic 51, 3) := by decide +kernel
theorem dX5_pass_13 : decode cX5_pass 13 = .ok (.ifCond .ne 9, 3) := by decide +kernel
theorem dX5_pass_16 : decode cX5_pass 16 = .ok (.aload_n 0, 1) := by decide +kernel
theorem dX5_pass_17 : decode cX5_pass 17 = .ok (.iconst 1, 1) := by decide +kernel
theorem dX5_pass_18 : decode cX5_pass 18 = .ok (.invokevirtual 73, 3) := by decide +kernel
theorem dX5_pass_21 : decode cX5_pass 21 = .ok (.ireturn, 1) := by decide +kernel
theorem dX5_pass_22 : decode cX5_pass 22 = .ok (.aload_n 0, 1) := by decide +kernel
theorem dX5_pass_23 : decode cX5_pass 23 = .ok (.dup, 1) := by decide +kernel
theorem dX5_pass_24 : decode cX5_pass 24 = .ok (.getfield 82, 3) := by decide +kernel
theorem dX5_pass_27 : decode cX5_pass 27 = .ok (.iload_n 1, 1) := by decide +kernel
theorem dX5_pass_28 : decode cX5_pass 28 = .ok (.iadd, 1) := by decide +kernel
theorem dX5_pass_29 : decode cX5_pass 29 = .ok (.putfield 82, 3) := by decide +kernel
theorem dX5_pass_32 : decode cX5_pass 32 = .ok (.aload_n 0, 1) := by decide +kernel
theorem dX5_pass_33 : decode cX5_pass 33 = .ok (.invokevirtual 106, 3) := by decide +kernel
theorem dX5_pass_36 : decode cX5_pass 36 = .ok (.ireturn, 1) := by decide +kernel
theorem dX5_now_0 : decode cX5_now 0 = .ok (.aload_n 0, 1) := by decide +kernel
theorem dX5_now_1 : decode cX5_now 1 = .ok (.iconst 0, 1) := by decide +kernel
theorem dX5_now_2 : decode cX5_now 2 = .ok (.putfield 47, 3) := by decide +kernel
theorem dX5_now_5 : decode cX5_now 5 = .ok (.aload_n 0, 1) := by decide +kernel
theorem dX5_now_6 : decode cX5_now 6 = .ok (.getfield 82, 3) := by decide +kernel
theorem dX5_now_9 : decode cX5_now 9 = .ok (.ireturn, 1) := by decide +kernel
set_option maxRecDepth 20000 in
theorem ggX5_serves_X5_finds : GoodIn wsX5_serves wsX5_finds := goodIn_r _ [6, 7, 8, 9, 10, 5, 11, 12, 13, 14, 15, 16, 17, 18, 19, 20, 21, 22, 23, 24, 25, 26, 27, 28, 29, 30, 31, 32, 33, 34, 35, 36, 37] (by decide +kernel) (by decide +kernel)
set_option maxRecDepth 20000 in
theorem gX5_serves_X5_finds : GoodIn wsX5_serves (wsV RX5 79 RX5 yX5_finds wsX5_finds) := goodIn_app (goodIn_of _ (by decide +kernel)) ggX5_serves_X5_finds
theorem dX5_serves_0 : decode cX5_serves 0 = .ok (.aload_n 0, 1) := by decide +kernel
theorem dX5_serves_1 : decode cX5_serves 1 = .ok (.getfield 19, 3) := by decide +kernel
theorem dX5_serves_4 : decode cX5_serves 4 = .ok (.iload_n 1, 1) := by decide +kernel
theorem dX5_serves_5 : decode cX5_serves 5 = .ok (.iaload, 1) := by decide +kernel
theorem dX5_serves_6 : decode cX5_serves 6 = .ok (.iconst 3, 1) := by decide +kernel
theorem dX5_serves_7 : decode cX5_serves 7 = .ok (.if_icmp .ge 17, 3) := by decide +kernel
theorem dX5_serves_10 : decode cX5_serves 10 = .ok (.aload_n 0, 1) := by decide +kernel
theorem dX5_serves_11 : decode cX5_serves 11 = .ok (.iload_n 1, 1) := by decide +kernel
theorem dX5_serves_12 : decode cX5_serves 12 = .ok (.iload_n 2, 1) := by decide +kernel
theorem dX5_serves_13 : decode cX5_serves 13 = .ok (.iconst 1, 1) := by decide +kernel
theorem dX5_serves_14 : decode cX5_serves 14 = .ok (.invokevirtual 79, 3) := by decide +kernel
theorem dX5_serves_17 : decode cX5_serves 17 = .ok (.ifCond .eq 7, 3) := by decide +kernel
theorem dX5_serves_20 : decode cX5_serves 20 = .ok (.iconst 1, 1) := by decide +kernel
theorem dX5_serves_21 : decode cX5_serves 21 = .ok (.goto 4, 3) := by decide +kernel
theorem dX5_serves_24 : decode cX5_serves 24 = .ok (.iconst 0, 1) := by decide +kernel
theorem dX5_serves_25 : decode cX5_serves 25 = .ok (.ireturn, 1) := by decide +kernel
set_option maxRecDepth 20000 in
theorem ggX5_breakGlass_X5_isPerson : GoodIn wsX5_breakGlass wsX5_isPerson := goodIn_r _ [7, 8, 9, 6, 10] (by decide +kernel) (by decide +kernel)
set_option maxRecDepth 20000 in
theorem gX5_breakGlass_X5_isPerson : GoodIn wsX5_breakGlass (va_wsS RX5 63 yX5_isPerson wsX5_isPerson) := goodIn_app (goodIn_of _ (by decide +kernel)) ggX5_breakGlass_X5_isPerson
set_option maxRecDepth 20000 in
theorem ggX5_breakGlass_X5_isRole : GoodIn wsX5_breakGlass wsX5_isRole := goodIn_r _ [13, 8, 9, 6, 10] (by decide +kernel) (by decide +kernel)
set_option maxRecDepth 20000 in
theorem gX5_breakGlass_X5_isRole : GoodIn wsX5_breakGlass (va_wsS RX5 70 yX5_isRole wsX5_isRole) := goodIn_app (goodIn_of _ (by decide +kernel)) ggX5_breakGlass_X5_isRole
set_option maxRecDepth 20000 in
theorem ggX5_breakGlass_X5_fails : GoodIn wsX5_breakGlass wsX5_fails := goodIn_r _ [17, 1, 41, 42, 43, 44, 45, 46, 47, 48, 49, 50, 51, 52, 53, 54, 55, 56, 57] (by decide +kernel) (by decide +kernel)
set_option maxRecDepth 20000 in
theorem gX5_breakGlass_X5_fails : GoodIn wsX5_breakGlass (wsV RX5 73 RX5 yX5_fails wsX5_fails) := goodIn_app (goodIn_of _ (by decide +kernel)) ggX5_breakGlass_X5_fails
set_option maxRecDepth 20000 in
theorem ggX5_breakGlass_X5_serves : GoodIn wsX5_breakGlass wsX5_serves := goodIn_r _ [21, 22, 23, 24, 25, 6, 26, 27, 28, 29, 30, 31, 32, 33, 34, 35, 36, 37, 38, 39, 40, 41, 42, 43, 44, 45, 46, 47, 48, 49, 50, 51, 52, 53, 54, 55, 56, 57] (by decide +kernel) (by decide +kernel)
set_option maxRecDepth 20000 in
theorem gX5_breakGlass_X5_serves : GoodIn wsX5_breakGlass (wsV RX5 110 RX5 yX5_serves wsX5_serves) := goodIn_app (goodIn_of _ (by decide +kernel)) ggX5_breakGlass_X5_serves
theorem dX5_breakGlass_0 : decode cX5_breakGlass 0 = .ok (.aload_n 0, 1) := by decide +kernel
theorem dX5_breakGlass_1 : decode cX5_breakGlass 1 = .ok (.iconst 0, 1) := by decide +kernel
theorem dX5_breakGlass_2 : decode cX5_breakGlass 2 = .ok (.putfield 47, 3) := by decide +kernel
theorem dX5_breakGlass_5 : decode cX5_breakGlass 5 = .ok (.iload_n 1, 1) := by decide +kernel
theorem dX5_breakGlass_6 : decode cX5_breakGlass 6 = .ok (.invokestatic 63, 3) := by decide +kernel
theorem dX5_breakGlass_9 : decode cX5_breakGlass 9 = .ok (.ifCond .eq 42, 3) := by decide +kernel
theorem dX5_breakGlass_12 : decode cX5_breakGlass 12 = .ok (.iload_n 2, 1) := by decide +kernel
theorem dX5_breakGlass_13 : decode cX5_breakGlass 13 = .ok (.invokestatic 70, 3) := by decide +kernel
theorem dX5_breakGlass_16 : decode cX5_breakGlass 16 = .ok (.ifCond .eq 35, 3) := by decide +kernel
theorem dX5_breakGlass_19 : decode cX5_breakGlass 19 = .ok (.iload_n 3, 1) := by decide +kernel
theorem dX5_breakGlass_20 : decode cX5_breakGlass 20 = .ok (.invokestatic 63, 3) := by decide +kernel
theorem dX5_breakGlass_23 : decode cX5_breakGlass 23 = .ok (.ifCond .eq 28, 3) := by decide +kernel
theorem dX5_breakGlass_26 : decode cX5_breakGlass 26 = .ok (.iload 4, 2) := by decide +kernel
theorem dX5_breakGlass_28 : decode cX5_breakGlass 28 = .ok (.invokestatic 63, 3) := by decide +kernel
theorem dX5_breakGlass_31 : decode cX5_breakGlass 31 = .ok (.ifCond .eq 20, 3) := by decide +kernel
theorem dX5_breakGlass_34 : decode cX5_breakGlass 34 = .ok (.iload_n 1, 1) := by decide +kernel
theorem dX5_breakGlass_35 : decode cX5_breakGlass 35 = .ok (.iload_n 3, 1) := by decide +kernel
theorem dX5_breakGlass_36 : decode cX5_breakGlass 36 = .ok (.if_icmp .eq 15, 3) := by decide +kernel
theorem dX5_breakGlass_39 : decode cX5_breakGlass 39 = .ok (.iload_n 1, 1) := by decide +kernel
theorem dX5_breakGlass_40 : decode cX5_breakGlass 40 = .ok (.iload 4, 2) := by decide +kernel
theorem dX5_breakGlass_42 : decode cX5_breakGlass 42 = .ok (.if_icmp .eq 9, 3) := by decide +kernel
theorem dX5_breakGlass_45 : decode cX5_breakGlass 45 = .ok (.iload_n 3, 1) := by decide +kernel
theorem dX5_breakGlass_46 : decode cX5_breakGlass 46 = .ok (.iload 4, 2) := by decide +kernel
theorem dX5_breakGlass_48 : decode cX5_breakGlass 48 = .ok (.if_icmp .ne 9, 3) := by decide +kernel
theorem dX5_breakGlass_51 : decode cX5_breakGlass 51 = .ok (.aload_n 0, 1) := by decide +kernel
theorem dX5_breakGlass_52 : decode cX5_breakGlass 52 = .ok (.iconst 1, 1) := by decide +kernel
theorem dX5_breakGlass_53 : decode cX5_breakGlass 53 = .ok (.invokevirtual 73, 3) := by decide +kernel
theorem dX5_breakGlass_56 : decode cX5_breakGlass 56 = .ok (.ireturn, 1) := by decide +kernel
theorem dX5_breakGlass_57 : decode cX5_breakGlass 57 = .ok (.aload_n 0, 1) := by decide +kernel
theorem dX5_breakGlass_58 : decode cX5_breakGlass 58 = .ok (.iload_n 3, 1) := by decide +kernel
theorem dX5_breakGlass_59 : decode cX5_breakGlass 59 = .ok (.iload_n 2, 1) := by decide +kernel
theorem dX5_breakGlass_60 : decode cX5_breakGlass 60 = .ok (.invokevirtual 110, 3) := by decide +kernel
theorem dX5_breakGlass_63 : decode cX5_breakGlass 63 = .ok (.ifCond .eq 13, 3) := by decide +kernel
theorem dX5_breakGlass_66 : decode cX5_breakGlass 66 = .ok (.aload_n 0, 1) := by decide +kernel
theorem dX5_breakGlass_67 : decode cX5_breakGlass 67 = .ok (.iload 4, 2) := by decide +kernel
theorem dX5_breakGlass_69 : decode cX5_breakGlass 69 = .ok (.iload_n 2, 1) := by decide +kernel
theorem dX5_breakGlass_70 : decode cX5_breakGlass 70 = .ok (.invokevirtual 110, 3) := by decide +kernel
theorem dX5_breakGlass_73 : decode cX5_breakGlass 73 = .ok (.ifCond .ne 9, 3) := by decide +kernel
theorem dX5_breakGlass_76 : decode cX5_breakGlass 76 = .ok (.aload_n 0, 1) := by decide +kernel
theorem dX5_breakGlass_77 : decode cX5_breakGlass 77 = .ok (.iconst 2, 1) := by decide +kernel
theorem dX5_breakGlass_78 : decode cX5_breakGlass 78 = .ok (.invokevirtual 73, 3) := by decide +kernel
theorem dX5_breakGlass_81 : decode cX5_breakGlass 81 = .ok (.ireturn, 1) := by decide +kernel
theorem dX5_breakGlass_82 : decode cX5_breakGlass 82 = .ok (.aload_n 0, 1) := by decide +kernel
theorem dX5_breakGlass_83 : decode cX5_breakGlass 83 = .ok (.getfield 22, 3) := by decide +kernel
theorem dX5_breakGlass_86 : decode cX5_breakGlass 86 = .ok (.bipush 6, 2) := by decide +kernel
theorem dX5_breakGlass_88 : decode cX5_breakGlass 88 = .ok (.iload_n 1, 1) := by decide +kernel
theorem dX5_breakGlass_89 : decode cX5_breakGlass 89 = .ok (.imul, 1) := by decide +kernel
theorem dX5_breakGlass_90 : decode cX5_breakGlass 90 = .ok (.iload_n 2, 1) := by decide +kernel
theorem dX5_breakGlass_91 : decode cX5_breakGlass 91 = .ok (.iadd, 1) := by decide +kernel
theorem dX5_breakGlass_92 : decode cX5_breakGlass 92 = .ok (.aload_n 0, 1) := by decide +kernel
theorem dX5_breakGlass_93 : decode cX5_breakGlass 93 = .ok (.getfield 82, 3) := by decide +kernel
theorem dX5_breakGlass_96 : decode cX5_breakGlass 96 = .ok (.bipush 60, 2) := by decide +kernel
theorem dX5_breakGlass_98 : decode cX5_breakGlass 98 = .ok (.iadd, 1) := by decide +kernel
theorem dX5_breakGlass_99 : decode cX5_breakGlass 99 = .ok (.iastore, 1) := by decide +kernel
theorem dX5_breakGlass_100 : decode cX5_breakGlass 100 = .ok (.aload_n 0, 1) := by decide +kernel
