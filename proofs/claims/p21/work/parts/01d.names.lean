theorem dX3_endDue_31 : decode cX3_endDue 31 = .ok (.getfield 9, 3) := by decide +kernel
theorem dX3_endDue_34 : decode cX3_endDue 34 = .ok (.iload 5, 2) := by decide +kernel
theorem dX3_endDue_36 : decode cX3_endDue 36 = .ok (.iaload, 1) := by decide +kernel
theorem dX3_endDue_37 : decode cX3_endDue 37 = .ok (.iaload, 1) := by decide +kernel
theorem dX3_endDue_38 : decode cX3_endDue 38 = .ok (.aload_n 3, 1) := by decide +kernel
theorem dX3_endDue_39 : decode cX3_endDue 39 = .ok (.invokevirtual 34, 3) := by decide +kernel
theorem dX3_endDue_42 : decode cX3_endDue 42 = .ok (.ifCond .eq 12, 3) := by decide +kernel
theorem dX3_endDue_45 : decode cX3_endDue 45 = .ok (.aload_n 0, 1) := by decide +kernel
theorem dX3_endDue_46 : decode cX3_endDue 46 = .ok (.iload 5, 2) := by decide +kernel
theorem dX3_endDue_48 : decode cX3_endDue 48 = .ok (.invokevirtual 30, 3) := by decide +kernel
theorem dX3_endDue_51 : decode cX3_endDue 51 = .ok (.iinc 4 1, 3) := by decide +kernel
theorem dX3_endDue_54 : decode cX3_endDue 54 = .ok (.iinc 5 1, 3) := by decide +kernel
theorem dX3_endDue_57 : decode cX3_endDue 57 = .ok (.goto (-51), 3) := by decide +kernel
theorem dX3_endDue_60 : decode cX3_endDue 60 = .ok (.iload 4, 2) := by decide +kernel
theorem dX3_endDue_62 : decode cX3_endDue 62 = .ok (.ireturn, 1) := by decide +kernel
set_option maxRecDepth 20000 in
theorem ggX3_isDue_X3_age : GoodIn wsX3_isDue wsX3_age := goodIn_r _ [7, 8, 16, 17, 18, 19, 20, 21] (by decide +kernel) (by decide +kernel)
set_option maxRecDepth 20000 in
theorem gX3_isDue_X3_age : GoodIn wsX3_isDue (wsV RX3 38 RX3 yX3_age wsX3_age) := goodIn_app (goodIn_of _ (by decide +kernel)) ggX3_isDue_X3_age
set_option maxRecDepth 20000 in
theorem ggX3_isDue_X2_takes : GoodIn wsX3_isDue wsX2_takes := goodIn_r _ [13, 14, 15, 22, 23] (by decide +kernel) (by decide +kernel)
set_option maxRecDepth 20000 in
theorem gX3_isDue_X2_takes : GoodIn wsX3_isDue (wsV RX3 42 RX2 yX2_takes wsX2_takes) := goodIn_app (goodIn_of _ (by decide +kernel)) ggX3_isDue_X2_takes
theorem dX3_isDue_0 : decode cX3_isDue 0 = .ok (.iload_n 2, 1) := by decide +kernel
theorem dX3_isDue_1 : decode cX3_isDue 1 = .ok (.aload_n 0, 1) := by decide +kernel
theorem dX3_isDue_2 : decode cX3_isDue 2 = .ok (.getfield 19, 3) := by decide +kernel
theorem dX3_isDue_5 : decode cX3_isDue 5 = .ok (.iload_n 1, 1) := by decide +kernel
theorem dX3_isDue_6 : decode cX3_isDue 6 = .ok (.iaload, 1) := by decide +kernel
theorem dX3_isDue_7 : decode cX3_isDue 7 = .ok (.isub, 1) := by decide +kernel
theorem dX3_isDue_8 : decode cX3_isDue 8 = .ok (.bipush 30, 2) := by decide +kernel
theorem dX3_isDue_10 : decode cX3_isDue 10 = .ok (.if_icmp .ge 35, 3) := by decide +kernel
theorem dX3_isDue_13 : decode cX3_isDue 13 = .ok (.aload_n 0, 1) := by decide +kernel
theorem dX3_isDue_14 : decode cX3_isDue 14 = .ok (.iload_n 1, 1) := by decide +kernel
theorem dX3_isDue_15 : decode cX3_isDue 15 = .ok (.iload_n 2, 1) := by decide +kernel
theorem dX3_isDue_16 : decode cX3_isDue 16 = .ok (.invokevirtual 38, 3) := by decide +kernel
theorem dX3_isDue_19 : decode cX3_isDue 19 = .ok (.sipush 240, 3) := by decide +kernel
theorem dX3_isDue_22 : decode cX3_isDue 22 = .ok (.bipush 60, 2) := by decide +kernel
theorem dX3_isDue_24 : decode cX3_isDue 24 = .ok (.iload_n 3, 1) := by decide +kernel
theorem dX3_isDue_25 : decode cX3_isDue 25 = .ok (.imul, 1) := by decide +kernel
theorem dX3_isDue_26 : decode cX3_isDue 26 = .ok (.isub, 1) := by decide +kernel
theorem dX3_isDue_27 : decode cX3_isDue 27 = .ok (.if_icmp .ge 18, 3) := by decide +kernel
theorem dX3_isDue_30 : decode cX3_isDue 30 = .ok (.aload 4, 2) := by decide +kernel
theorem dX3_isDue_32 : decode cX3_isDue 32 = .ok (.aload_n 0, 1) := by decide +kernel
theorem dX3_isDue_33 : decode cX3_isDue 33 = .ok (.getfield 13, 3) := by decide +kernel
theorem dX3_isDue_36 : decode cX3_isDue 36 = .ok (.iload_n 1, 1) := by decide +kernel
theorem dX3_isDue_37 : decode cX3_isDue 37 = .ok (.iaload, 1) := by decide +kernel
theorem dX3_isDue_38 : decode cX3_isDue 38 = .ok (.iload_n 2, 1) := by decide +kernel
theorem dX3_isDue_39 : decode cX3_isDue 39 = .ok (.invokevirtual 42, 3) := by decide +kernel
theorem dX3_isDue_42 : decode cX3_isDue 42 = .ok (.ifCond .ne 7, 3) := by decide +kernel
theorem dX3_isDue_45 : decode cX3_isDue 45 = .ok (.iconst 1, 1) := by decide +kernel
theorem dX3_isDue_46 : decode cX3_isDue 46 = .ok (.goto 4, 3) := by decide +kernel
theorem dX3_isDue_49 : decode cX3_isDue 49 = .ok (.iconst 0, 1) := by decide +kernel
theorem dX3_isDue_50 : decode cX3_isDue 50 = .ok (.ireturn, 1) := by decide +kernel
set_option maxRecDepth 20000 in
theorem ggX4_init_X1_init : GoodIn wsX4_init wsX1_init := goodIn_r _ [26, 27, 2, 3, 20, 28, 29, 30, 31, 60, 61, 62, 63] (by decide +kernel) (by decide +kernel)
set_option maxRecDepth 20000 in
theorem gX4_init_X1_init : GoodIn wsX4_init (wsX1_init) := ggX4_init_X1_init
set_option maxRecDepth 20000 in
theorem ggX4_init_X3_init : GoodIn wsX4_init wsX3_init := goodIn_r _ [34, 35, 2, 3, 20, 36, 37, 38, 39, 40, 41, 42, 71, 72, 73, 74, 75, 76] (by decide +kernel) (by decide +kernel)
set_option maxRecDepth 20000 in
theorem gX4_init_X3_init : GoodIn wsX4_init (wsX3_init) := ggX4_init_X3_init
set_option maxRecDepth 20000 in
theorem ggX4_init_X2_init : GoodIn wsX4_init wsX2_init := goodIn_r _ [45, 46, 2, 3, 47, 48, 77, 78] (by decide +kernel) (by decide +kernel)
set_option maxRecDepth 20000 in
theorem gX4_init_X2_init : GoodIn wsX4_init (wsX2_init) := ggX4_init_X2_init
set_option maxRecDepth 20000 in
theorem ggX4_init_X0_init : GoodIn wsX4_init wsX0_init := goodIn_r _ [51, 52, 2, 3, 20, 53, 54, 55, 56, 57, 58, 59, 79, 80, 81] (by decide +kernel) (by decide +kernel)
set_option maxRecDepth 20000 in
theorem gX4_init_X0_init : GoodIn wsX4_init (wsX0_init) := ggX4_init_X0_init
theorem dX4_init_0 : decode cX4_init 0 = .ok (.aload_n 0, 1) := by decide +kernel
theorem dX4_init_1 : decode cX4_init 1 = .ok (.invokespecial 1, 3) := by decide +kernel
theorem dX4_init_4 : decode cX4_init 4 = .ok (.aload_n 0, 1) := by decide +kernel
theorem dX4_init_5 : decode cX4_init 5 = .ok (.new 7, 3) := by decide +kernel
theorem dX4_init_8 : decode cX4_init 8 = .ok (.dup, 1) := by decide +kernel
theorem dX4_init_9 : decode cX4_init 9 = .ok (.invokespecial 9, 3) := by decide +kernel
theorem dX4_init_12 : decode cX4_init 12 = .ok (.putfield 10, 3) := by decide +kernel
theorem dX4_init_15 : decode cX4_init 15 = .ok (.aload_n 0, 1) := by decide +kernel
theorem dX4_init_16 : decode cX4_init 16 = .ok (.new 16, 3) := by decide +kernel
theorem dX4_init_19 : decode cX4_init 19 = .ok (.dup, 1) := by decide +kernel
theorem dX4_init_20 : decode cX4_init 20 = .ok (.invokespecial 18, 3) := by decide +kernel
theorem dX4_init_23 : decode cX4_init 23 = .ok (.putfield 19, 3) := by decide +kernel
theorem dX4_init_26 : decode cX4_init 26 = .ok (.aload_n 0, 1) := by decide +kernel
theorem dX4_init_27 : decode cX4_init 27 = .ok (.new 23, 3) := by decide +kernel
theorem dX4_init_30 : decode cX4_init 30 = .ok (.dup, 1) := by decide +kernel
theorem dX4_init_31 : decode cX4_init 31 = .ok (.invokespecial 25, 3) := by decide +kernel
theorem dX4_init_34 : decode cX4_init 34 = .ok (.putfield 26, 3) := by decide +kernel
theorem dX4_init_37 : decode cX4_init 37 = .ok (.aload_n 0, 1) := by decide +kernel
theorem dX4_init_38 : decode cX4_init 38 = .ok (.new 30, 3) := by decide +kernel
theorem dX4_init_41 : decode cX4_init 41 = .ok (.dup, 1) := by decide +kernel
theorem dX4_init_42 : decode cX4_init 42 = .ok (.invokespecial 32, 3) := by decide +kernel
theorem dX4_init_45 : decode cX4_init 45 = .ok (.putfield 33, 3) := by decide +kernel
theorem dX4_init_48 : decode cX4_init 48 = .ok (.aload_n 0, 1) := by decide +kernel
theorem dX4_init_49 : decode cX4_init 49 = .ok (.bipush 10, 2) := by decide +kernel
theorem dX4_init_51 : decode cX4_init 51 = .ok (.newarray .int, 2) := by decide +kernel
theorem dX4_init_53 : decode cX4_init 53 = .ok (.putfield 37, 3) := by decide +kernel
theorem dX4_init_56 : decode cX4_init 56 = .ok (.aload_n 0, 1) := by decide +kernel
theorem dX4_init_57 : decode cX4_init 57 = .ok (.bipush 60, 2) := by decide +kernel
theorem dX4_init_59 : decode cX4_init 59 = .ok (.newarray .int, 2) := by decide +kernel
theorem dX4_init_61 : decode cX4_init 61 = .ok (.putfield 41, 3) := by decide +kernel
theorem dX4_init_64 : decode cX4_init 64 = .ok (.aload_n 0, 1) := by decide +kernel
theorem dX4_init_65 : decode cX4_init 65 = .ok (.iconst 0, 1) := by decide +kernel
theorem dX4_init_66 : decode cX4_init 66 = .ok (.putfield 44, 3) := by decide +kernel
theorem dX4_init_69 : decode cX4_init 69 = .ok (.return_, 1) := by decide +kernel
set_option maxRecDepth 20000 in
theorem ggX4_setPerson_X4_isOutside : GoodIn wsX4_setPerson wsX4_isOutside := goodIn_r _ [7] (by decide +kernel) (by decide +kernel)
set_option maxRecDepth 20000 in
theorem gX4_setPerson_X4_isOutside : GoodIn wsX4_setPerson (va_wsS RX4 48 yX4_isOutside wsX4_isOutside) := goodIn_app (goodIn_of _ (by decide +kernel)) ggX4_setPerson_X4_isOutside
set_option maxRecDepth 20000 in
theorem ggX4_setPerson_X1_placePerson : GoodIn wsX4_setPerson wsX1_placePerson := goodIn_r _ [12, 13, 14, 15, 11, 16, 17, 18, 19, 27, 28, 29, 30] (by decide +kernel) (by decide +kernel)
set_option maxRecDepth 20000 in
theorem gX4_setPerson_X1_placePerson : GoodIn wsX4_setPerson (wsV RX4 59 RX1 yX1_placePerson wsX1_placePerson) := goodIn_app (goodIn_of _ (by decide +kernel)) ggX4_setPerson_X1_placePerson
theorem dX4_setPerson_0 : decode cX4_setPerson 0 = .ok (.iload_n 1, 1) := by decide +kernel
theorem dX4_setPerson_1 : decode cX4_setPerson 1 = .ok (.bipush 8, 2) := by decide +kernel
theorem dX4_setPerson_3 : decode cX4_setPerson 3 = .ok (.invokestatic 48, 3) := by decide +kernel
theorem dX4_setPerson_6 : decode cX4_setPerson 6 = .ok (.ifCond .ne 12, 3) := by decide +kernel
theorem dX4_setPerson_9 : decode cX4_setPerson 9 = .ok (.iload_n 2, 1) := by decide +kernel
theorem dX4_setPerson_10 : decode cX4_setPerson 10 = .ok (.bipush 10, 2) := by decide +kernel
theorem dX4_setPerson_12 : decode cX4_setPerson 12 = .ok (.invokestatic 48, 3) := by decide +kernel
theorem dX4_setPerson_15 : decode cX4_setPerson 15 = .ok (.ifCond .eq 13, 3) := by decide +kernel
theorem dX4_setPerson_18 : decode cX4_setPerson 18 = .ok (.new 52, 3) := by decide +kernel
theorem dX4_setPerson_21 : decode cX4_setPerson 21 = .ok (.dup, 1) := by decide +kernel
theorem dX4_setPerson_22 : decode cX4_setPerson 22 = .ok (.ldc 54, 2) := by decide +kernel
theorem dX4_setPerson_24 : decode cX4_setPerson 24 = .ok (.invokespecial 56, 3) := by decide +kernel
theorem dX4_setPerson_27 : decode cX4_setPerson 27 = .ok (.athrow, 1) := by decide +kernel
theorem dX4_setPerson_28 : decode cX4_setPerson 28 = .ok (.aload_n 0, 1) := by decide +kernel
theorem dX4_setPerson_29 : decode cX4_setPerson 29 = .ok (.getfield 10, 3) := by decide +kernel
theorem dX4_setPerson_32 : decode cX4_setPerson 32 = .ok (.iload_n 1, 1) := by decide +kernel
theorem dX4_setPerson_33 : decode cX4_setPerson 33 = .ok (.iload_n 2, 1) := by decide +kernel
theorem dX4_setPerson_34 : decode cX4_setPerson 34 = .ok (.iload_n 3, 1) := by decide +kernel
theorem dX4_setPerson_35 : decode cX4_setPerson 35 = .ok (.invokevirtual 59, 3) := by decide +kernel
theorem dX4_setPerson_38 : decode cX4_setPerson 38 = .ok (.ireturn, 1) := by decide +kernel
set_option maxRecDepth 20000 in
theorem ggX4_setGroup_X4_isOutside : GoodIn wsX4_setGroup wsX4_isOutside := goodIn_r _ [9] (by decide +kernel) (by decide +kernel)
set_option maxRecDepth 20000 in
theorem gX4_setGroup_X4_isOutside : GoodIn wsX4_setGroup (va_wsS RX4 48 yX4_isOutside wsX4_isOutside) := goodIn_app (goodIn_of _ (by decide +kernel)) ggX4_setGroup_X4_isOutside
set_option maxRecDepth 20000 in
theorem ggX4_setGroup_X1_isAround : GoodIn wsX4_setGroup wsX1_isAround := goodIn_r _ [14, 15, 16, 17, 18, 13, 19, 20, 21, 22, 23, 24, 25, 26, 41, 42, 43, 44] (by decide +kernel) (by decide +kernel)
set_option maxRecDepth 20000 in
theorem gX4_setGroup_X1_isAround : GoodIn wsX4_setGroup (wsV RX4 67 RX1 yX1_isAround wsX1_isAround) := goodIn_app (goodIn_of _ (by decide +kernel)) ggX4_setGroup_X1_isAround
set_option maxRecDepth 20000 in
theorem ggX4_setGroup_X1_placeGroup : GoodIn wsX4_setGroup wsX1_placeGroup := goodIn_r _ [30, 15, 24, 25, 13, 26, 31, 32, 33, 41, 42, 43, 44] (by decide +kernel) (by decide +kernel)
set_option maxRecDepth 20000 in
theorem gX4_setGroup_X1_placeGroup : GoodIn wsX4_setGroup (wsV RX4 75 RX1 yX1_placeGroup wsX1_placeGroup) := goodIn_app (goodIn_of _ (by decide +kernel)) ggX4_setGroup_X1_placeGroup
theorem dX4_setGroup_0 : decode cX4_setGroup 0 = .ok (.iload_n 1, 1) := by decide +kernel
theorem dX4_setGroup_1 : decode cX4_setGroup 1 = .ok (.bipush 8, 2) := by decide +kernel
theorem dX4_setGroup_3 : decode cX4_setGroup 3 = .ok (.invokestatic 48, 3) := by decide +kernel
theorem dX4_setGroup_6 : decode cX4_setGroup 6 = .ok (.ifCond .ne 12, 3) := by decide +kernel
theorem dX4_setGroup_9 : decode cX4_setGroup 9 = .ok (.iload_n 2, 1) := by decide +kernel
theorem dX4_setGroup_10 : decode cX4_setGroup 10 = .ok (.bipush 8, 2) := by decide +kernel
theorem dX4_setGroup_12 : decode cX4_setGroup 12 = .ok (.invokestatic 48, 3) := by decide +kernel
theorem dX4_setGroup_15 : decode cX4_setGroup 15 = .ok (.ifCond .eq 13, 3) := by decide +kernel
theorem dX4_setGroup_18 : decode cX4_setGroup 18 = .ok (.new 52, 3) := by decide +kernel
theorem dX4_setGroup_21 : decode cX4_setGroup 21 = .ok (.dup, 1) := by decide +kernel
theorem dX4_setGroup_22 : decode cX4_setGroup 22 = .ok (.ldc 63, 2) := by decide +kernel
theorem dX4_setGroup_24 : decode cX4_setGroup 24 = .ok (.invokespecial 56, 3) := by decide +kernel
theorem dX4_setGroup_27 : decode cX4_setGroup 27 = .ok (.athrow, 1) := by decide +kernel
theorem dX4_setGroup_28 : decode cX4_setGroup 28 = .ok (.iload_n 1, 1) := by decide +kernel
theorem dX4_setGroup_29 : decode cX4_setGroup 29 = .ok (.iload_n 2, 1) := by decide +kernel
theorem dX4_setGroup_30 : decode cX4_setGroup 30 = .ok (.if_icmp .ne 13, 3) := by decide +kernel
theorem dX4_setGroup_33 : decode cX4_setGroup 33 = .ok (.new 52, 3) := by decide +kernel
theorem dX4_setGroup_36 : decode cX4_setGroup 36 = .ok (.dup, 1) := by decide +kernel
theorem dX4_setGroup_37 : decode cX4_setGroup 37 = .ok (.ldc 65, 2) := by decide +kernel
theorem dX4_setGroup_39 : decode cX4_setGroup 39 = .ok (.invokespecial 56, 3) := by decide +kernel
theorem dX4_setGroup_42 : decode cX4_setGroup 42 = .ok (.athrow, 1) := by decide +kernel
theorem dX4_setGroup_43 : decode cX4_setGroup 43 = .ok (.iload_n 3, 1) := by decide +kernel
theorem dX4_setGroup_44 : decode cX4_setGroup 44 = .ok (.ifCond .eq 25, 3) := by decide +kernel
theorem dX4_setGroup_47 : decode cX4_setGroup 47 = .ok (.aload_n 0, 1) := by decide +kernel
theorem dX4_setGroup_48 : decode cX4_setGroup 48 = .ok (.getfield 10, 3) := by decide +kernel
theorem dX4_setGroup_51 : decode cX4_setGroup 51 = .ok (.iload_n 2, 1) := by decide +kernel
theorem dX4_setGroup_52 : decode cX4_setGroup 52 = .ok (.iload_n 1, 1) := by decide +kernel
theorem dX4_setGroup_53 : decode cX4_setGroup 53 = .ok (.invokevirtual 67, 3) := by decide +kernel
theorem dX4_setGroup_56 : decode cX4_setGroup 56 = .ok (.ifCond .eq 13, 3) := by decide +kernel
theorem dX4_setGroup_59 : decode cX4_setGroup 59 = .ok (.new 70, 3) := by decide +kernel
theorem dX4_setGroup_62 : decode cX4_setGroup 62 = .ok (.dup, 1) := by decide +kernel
theorem dX4_setGroup_63 : decode cX4_setGroup 63 = .ok (.ldc 72, 2) := by decide +kernel
theorem dX4_setGroup_65 : decode cX4_setGroup 65 = .ok (.invokespecial 74, 3) := by decide +kernel
theorem dX4_setGroup_68 : decode cX4_setGroup 68 = .ok (.athrow, 1) := by decide +kernel
theorem dX4_setGroup_69 : decode cX4_setGroup 69 = .ok (.aload_n 0, 1) := by decide +kernel
theorem dX4_setGroup_70 : decode cX4_setGroup 70 = .ok (.getfield 10, 3) := by decide +kernel
theorem dX4_setGroup_73 : decode cX4_setGroup 73 = .ok (.iload_n 1, 1) := by decide +kernel
theorem dX4_setGroup_74 : decode cX4_setGroup 74 = .ok (.iload_n 2, 1) := by decide +kernel
theorem dX4_setGroup_75 : decode cX4_setGroup 75 = .ok (.iload_n 3, 1) := by decide +kernel
theorem dX4_setGroup_76 : decode cX4_setGroup 76 = .ok (.invokevirtual 75, 3) := by decide +kernel
theorem dX4_setGroup_79 : decode cX4_setGroup 79 = .ok (.ireturn, 1) := by decide +kernel
set_option maxRecDepth 20000 in
theorem ggX4_setRole_X4_isOutside : GoodIn wsX4_setRole wsX4_isOutside := goodIn_r _ [7] (by decide +kernel) (by decide +kernel)
set_option maxRecDepth 20000 in
theorem gX4_setRole_X4_isOutside : GoodIn wsX4_setRole (va_wsS RX4 48 yX4_isOutside wsX4_isOutside) := goodIn_app (goodIn_of _ (by decide +kernel)) ggX4_setRole_X4_isOutside
set_option maxRecDepth 20000 in
theorem ggX4_setRole_X1_giveRole : GoodIn wsX4_setRole wsX1_giveRole := goodIn_r _ [12, 13, 14, 15, 16, 17, 11, 18, 19, 20, 21, 22, 23, 24, 32, 33, 34, 35] (by decide +kernel) (by decide +kernel)
set_option maxRecDepth 20000 in
theorem gX4_setRole_X1_giveRole : GoodIn wsX4_setRole (wsV RX4 82 RX1 yX1_giveRole wsX1_giveRole) := goodIn_app (goodIn_of _ (by decide +kernel)) ggX4_setRole_X1_giveRole
theorem dX4_setRole_0 : decode cX4_setRole 0 = .ok (.iload_n 1, 1) := by decide +kernel
theorem dX4_setRole_1 : decode cX4_setRole 1 = .ok (.bipush 8, 2) := by decide +kernel
theorem dX4_setRole_3 : decode cX4_setRole 3 = .ok (.invokestatic 48, 3) := by decide +kernel
theorem dX4_setRole_6 : decode cX4_setRole 6 = .ok (.ifCond .ne 12, 3) := by decide +kernel
theorem dX4_setRole_9 : decode cX4_setRole 9 = .ok (.iload_n 2, 1) := by decide +kernel
theorem dX4_setRole_10 : decode cX4_setRole 10 = .ok (.bipush 6, 2) := by decide +kernel
theorem dX4_setRole_12 : decode cX4_setRole 12 = .ok (.invokestatic 48, 3) := by decide +kernel
theorem dX4_setRole_15 : decode cX4_setRole 15 = .ok (.ifCond .eq 13, 3) := by decide +kernel
theorem dX4_setRole_18 : decode cX4_setRole 18 = .ok (.new 52, 3) := by decide +kernel
theorem dX4_setRole_21 : decode cX4_setRole 21 = .ok (.dup, 1) := by decide +kernel
theorem dX4_setRole_22 : decode cX4_setRole 22 = .ok (.ldc 78, 2) := by decide +kernel
theorem dX4_setRole_24 : decode cX4_setRole 24 = .ok (.invokespecial 56, 3) := by decide +kernel
theorem dX4_setRole_27 : decode cX4_setRole 27 = .ok (.athrow, 1) := by decide +kernel
theorem dX4_setRole_28 : decode cX4_setRole 28 = .ok (.iload_n 3, 1) := by decide +kernel
theorem dX4_setRole_29 : decode cX4_setRole 29 = .ok (.ifCond .lt 8, 3) := by decide +kernel
theorem dX4_setRole_32 : decode cX4_setRole 32 = .ok (.iload_n 3, 1) := by decide +kernel
theorem dX4_setRole_33 : decode cX4_setRole 33 = .ok (.iconst 2, 1) := by decide +kernel
theorem dX4_setRole_34 : decode cX4_setRole 34 = .ok (.if_icmp .le 13, 3) := by decide +kernel
theorem dX4_setRole_37 : decode cX4_setRole 37 = .ok (.new 52, 3) := by decide +kernel
theorem dX4_setRole_40 : decode cX4_setRole 40 = .ok (.dup, 1) := by decide +kernel
theorem dX4_setRole_41 : decode cX4_setRole 41 = .ok (.ldc 80, 2) := by decide +kernel
theorem dX4_setRole_43 : decode cX4_setRole 43 = .ok (.invokespecial 56, 3) := by decide +kernel
theorem dX4_setRole_46 : decode cX4_setRole 46 = .ok (.athrow, 1) := by decide +kernel
theorem dX4_setRole_47 : decode cX4_setRole 47 = .ok (.aload_n 0, 1) := by decide +kernel
theorem dX4_setRole_48 : decode cX4_setRole 48 = .ok (.getfield 10, 3) := by decide +kernel
theorem dX4_setRole_51 : decode cX4_setRole 51 = .ok (.iload_n 1, 1) := by decide +kernel
theorem dX4_setRole_52 : decode cX4_setRole 52 = .ok (.iload_n 2, 1) := by decide +kernel
theorem dX4_setRole_53 : decode cX4_setRole 53 = .ok (.iload_n 3, 1) := by decide +kernel
theorem dX4_setRole_54 : decode cX4_setRole 54 = .ok (.invokevirtual 82, 3) := by decide +kernel
theorem dX4_setRole_57 : decode cX4_setRole 57 = .ok (.ireturn, 1) := by decide +kernel
set_option maxRecDepth 20000 in
theorem ggX4_setRisk_X4_isOutside : GoodIn wsX4_setRisk wsX4_isOutside := goodIn_r _ [8] (by decide +kernel) (by decide +kernel)
set_option maxRecDepth 20000 in
theorem gX4_setRisk_X4_isOutside : GoodIn wsX4_setRisk (va_wsS RX4 48 yX4_isOutside wsX4_isOutside) := goodIn_app (goodIn_of _ (by decide +kernel)) ggX4_setRisk_X4_isOutside
set_option maxRecDepth 20000 in
theorem ggX4_setRisk_X3_endAllOf : GoodIn wsX4_setRisk wsX3_endAllOf := goodIn_r _ [13, 14, 15, 16, 17, 18, 19, 12, 20, 28, 29, 30, 31, 32, 33] (by decide +kernel) (by decide +kernel)
set_option maxRecDepth 20000 in
theorem gX4_setRisk_X3_endAllOf : GoodIn wsX4_setRisk (wsV RX4 88 RX3 yX3_endAllOf wsX3_endAllOf) := goodIn_app (goodIn_of _ (by decide +kernel)) ggX4_setRisk_X3_endAllOf
theorem dX4_setRisk_0 : decode cX4_setRisk 0 = .ok (.iload_n 1, 1) := by decide +kernel
theorem dX4_setRisk_1 : decode cX4_setRisk 1 = .ok (.bipush 10, 2) := by decide +kernel
theorem dX4_setRisk_3 : decode cX4_setRisk 3 = .ok (.invokestatic 48, 3) := by decide +kernel
theorem dX4_setRisk_6 : decode cX4_setRisk 6 = .ok (.ifCond .ne 12, 3) := by decide +kernel
theorem dX4_setRisk_9 : decode cX4_setRisk 9 = .ok (.iload_n 2, 1) := by decide +kernel
theorem dX4_setRisk_10 : decode cX4_setRisk 10 = .ok (.ifCond .lt 8, 3) := by decide +kernel
theorem dX4_setRisk_13 : decode cX4_setRisk 13 = .ok (.iload_n 2, 1) := by decide +kernel
theorem dX4_setRisk_14 : decode cX4_setRisk 14 = .ok (.iconst 3, 1) := by decide +kernel
theorem dX4_setRisk_15 : decode cX4_setRisk 15 = .ok (.if_icmp .le 13, 3) := by decide +kernel
theorem dX4_setRisk_18 : decode cX4_setRisk 18 = .ok (.new 52, 3) := by decide +kernel
theorem dX4_setRisk_21 : decode cX4_setRisk 21 = .ok (.dup, 1) := by decide +kernel
theorem dX4_setRisk_22 : decode cX4_setRisk 22 = .ok (.ldc 86, 2) := by decide +kernel
theorem dX4_setRisk_24 : decode cX4_setRisk 24 = .ok (.invokespecial 56, 3) := by decide +kernel
theorem dX4_setRisk_27 : decode cX4_setRisk 27 = .ok (.athrow, 1) := by decide +kernel
theorem dX4_setRisk_28 : decode cX4_setRisk 28 = .ok (.iload_n 2, 1) := by decide +kernel
theorem dX4_setRisk_29 : decode cX4_setRisk 29 = .ok (.aload_n 0, 1) := by decide +kernel
theorem dX4_setRisk_30 : decode cX4_setRisk 30 = .ok (.getfield 37, 3) := by decide +kernel
theorem dX4_setRisk_33 : decode cX4_setRisk 33 = .ok (.iload_n 1, 1) := by decide +kernel
theorem dX4_setRisk_34 : decode cX4_setRisk 34 = .ok (.iaload, 1) := by decide +kernel
theorem dX4_setRisk_35 : decode cX4_setRisk 35 = .ok (.if_icmp .le 7, 3) := by decide +kernel
theorem dX4_setRisk_38 : decode cX4_setRisk 38 = .ok (.iconst 1, 1) := by decide +kernel
theorem dX4_setRisk_39 : decode cX4_setRisk 39 = .ok (.goto 4, 3) := by decide +kernel
theorem dX4_setRisk_42 : decode cX4_setRisk 42 = .ok (.iconst 0, 1) := by decide +kernel
theorem dX4_setRisk_43 : decode cX4_setRisk 43 = .ok (.istore_n 3, 1) := by decide +kernel
theorem dX4_setRisk_44 : decode cX4_setRisk 44 = .ok (.aload_n 0, 1) := by decide +kernel
theorem dX4_setRisk_45 : decode cX4_setRisk 45 = .ok (.getfield 37, 3) := by decide +kernel
theorem dX4_setRisk_48 : decode cX4_setRisk 48 = .ok (.iload_n 1, 1) := by decide +kernel
theorem dX4_setRisk_49 : decode cX4_setRisk 49 = .ok (.iload_n 2, 1) := by decide +kernel
theorem dX4_setRisk_50 : decode cX4_setRisk 50 = .ok (.iastore, 1) := by decide +kernel
theorem dX4_setRisk_51 : decode cX4_setRisk 51 = .ok (.iload_n 3, 1) := by decide +kernel
theorem dX4_setRisk_52 : decode cX4_setRisk 52 = .ok (.ifCond .eq 14, 3) := by decide +kernel
theorem dX4_setRisk_55 : decode cX4_setRisk 55 = .ok (.aload_n 0, 1) := by decide +kernel
theorem dX4_setRisk_56 : decode cX4_setRisk 56 = .ok (.getfield 19, 3) := by decide +kernel
theorem dX4_setRisk_59 : decode cX4_setRisk 59 = .ok (.iload_n 1, 1) := by decide +kernel
theorem dX4_setRisk_60 : decode cX4_setRisk 60 = .ok (.invokevirtual 88, 3) := by decide +kernel
theorem dX4_setRisk_63 : decode cX4_setRisk 63 = .ok (.goto 4, 3) := by decide +kernel
theorem dX4_setRisk_66 : decode cX4_setRisk 66 = .ok (.iconst 0, 1) := by decide +kernel
theorem dX4_setRisk_67 : decode cX4_setRisk 67 = .ok (.ireturn, 1) := by decide +kernel
set_option maxRecDepth 20000 in
theorem ggX4_isIn_X4_isOutside : GoodIn wsX4_isIn wsX4_isOutside := goodIn_r _ [7] (by decide +kernel) (by decide +kernel)
set_option maxRecDepth 20000 in
theorem gX4_isIn_X4_isOutside : GoodIn wsX4_isIn (va_wsS RX4 48 yX4_isOutside wsX4_isOutside) := goodIn_app (goodIn_of _ (by decide +kernel)) ggX4_isIn_X4_isOutside
set_option maxRecDepth 20000 in
theorem ggX4_isIn_X1_hasPerson : GoodIn wsX4_isIn wsX1_hasPerson := goodIn_r _ [12, 13, 14, 15, 16, 11, 17, 18, 19, 20, 21, 22, 23, 24, 25, 33, 34, 35, 36] (by decide +kernel) (by decide +kernel)
set_option maxRecDepth 20000 in
theorem gX4_isIn_X1_hasPerson : GoodIn wsX4_isIn (wsV RX4 92 RX1 yX1_hasPerson wsX1_hasPerson) := goodIn_app (goodIn_of _ (by decide +kernel)) ggX4_isIn_X1_hasPerson
theorem dX4_isIn_0 : decode cX4_isIn 0 = .ok (.iload_n 1, 1) := by decide +kernel
theorem dX4_isIn_1 : decode cX4_isIn 1 = .ok (.bipush 8, 2) := by decide +kernel
theorem dX4_isIn_3 : decode cX4_isIn 3 = .ok (.invokestatic 48, 3) := by decide +kernel
theorem dX4_isIn_6 : decode cX4_isIn 6 = .ok (.ifCond .ne 12, 3) := by decide +kernel
theorem dX4_isIn_9 : decode cX4_isIn 9 = .ok (.iload_n 2, 1) := by decide +kernel
theorem dX4_isIn_10 : decode cX4_isIn 10 = .ok (.bipush 10, 2) := by decide +kernel
theorem dX4_isIn_12 : decode cX4_isIn 12 = .ok (.invokestatic 48, 3) := by decide +kernel
theorem dX4_isIn_15 : decode cX4_isIn 15 = .ok (.ifCond .eq 13, 3) := by decide +kernel
theorem dX4_isIn_18 : decode cX4_isIn 18 = .ok (.new 52, 3) := by decide +kernel
theorem dX4_isIn_21 : decode cX4_isIn 21 = .ok (.dup, 1) := by decide +kernel
theorem dX4_isIn_22 : decode cX4_isIn 22 = .ok (.ldc 54, 2) := by decide +kernel
theorem dX4_isIn_24 : decode cX4_isIn 24 = .ok (.invokespecial 56, 3) := by decide +kernel
theorem dX4_isIn_27 : decode cX4_isIn 27 = .ok (.athrow, 1) := by decide +kernel
theorem dX4_isIn_28 : decode cX4_isIn 28 = .ok (.aload_n 0, 1) := by decide +kernel
theorem dX4_isIn_29 : decode cX4_isIn 29 = .ok (.getfield 10, 3) := by decide +kernel
theorem dX4_isIn_32 : decode cX4_isIn 32 = .ok (.iload_n 1, 1) := by decide +kernel
theorem dX4_isIn_33 : decode cX4_isIn 33 = .ok (.iload_n 2, 1) := by decide +kernel
theorem dX4_isIn_34 : decode cX4_isIn 34 = .ok (.invokevirtual 92, 3) := by decide +kernel
theorem dX4_isIn_37 : decode cX4_isIn 37 = .ok (.ireturn, 1) := by decide +kernel
set_option maxRecDepth 20000 in
theorem ggX4_allows_X4_isOutside : GoodIn wsX4_allows wsX4_isOutside := goodIn_r _ [6] (by decide +kernel) (by decide +kernel)
set_option maxRecDepth 20000 in
theorem gX4_allows_X4_isOutside : GoodIn wsX4_allows (va_wsS RX4 48 yX4_isOutside wsX4_isOutside) := goodIn_app (goodIn_of _ (by decide +kernel)) ggX4_allows_X4_isOutside
set_option maxRecDepth 20000 in
theorem ggX4_allows_X4_answerOfHouse : GoodIn wsX4_allows wsX4_answerOfHouse := goodIn_r _ [10, 11, 12, 13, 14, 5, 15, 16, 17, 18, 19, 20, 21, 22, 23, 24, 25, 26, 27, 28, 29, 30, 31, 32, 33, 34, 35, 36, 37, 38, 39, 40, 41, 42, 43, 44, 45, 46, 47, 48, 49, 50, 51, 52, 53, 54, 55, 56, 57] (by decide +kernel) (by decide +kernel)
set_option maxRecDepth 20000 in
theorem gX4_allows_X4_answerOfHouse : GoodIn wsX4_allows (wsV RX4 97 RX4 yX4_answerOfHouse wsX4_answerOfHouse) := goodIn_app (goodIn_of _ (by decide +kernel)) ggX4_allows_X4_answerOfHouse
theorem dX4_allows_0 : decode cX4_allows 0 = .ok (.iload_n 1, 1) := by decide +kernel
theorem dX4_allows_1 : decode cX4_allows 1 = .ok (.bipush 10, 2) := by decide +kernel
theorem dX4_allows_3 : decode cX4_allows 3 = .ok (.invokestatic 48, 3) := by decide +kernel
theorem dX4_allows_6 : decode cX4_allows 6 = .ok (.ifCond .ne 12, 3) := by decide +kernel
theorem dX4_allows_9 : decode cX4_allows 9 = .ok (.iload_n 2, 1) := by decide +kernel
theorem dX4_allows_10 : decode cX4_allows 10 = .ok (.bipush 6, 2) := by decide +kernel
theorem dX4_allows_12 : decode cX4_allows 12 = .ok (.invokestatic 48, 3) := by decide +kernel
theorem dX4_allows_15 : decode cX4_allows 15 = .ok (.ifCond .eq 13, 3) := by decide +kernel
theorem dX4_allows_18 : decode cX4_allows 18 = .ok (.new 52, 3) := by decide +kernel
theorem dX4_allows_21 : decode cX4_allows 21 = .ok (.dup, 1) := by decide +kernel
theorem dX4_allows_22 : decode cX4_allows 22 = .ok (.ldc 95, 2) := by decide +kernel
theorem dX4_allows_24 : decode cX4_allows 24 = .ok (.invokespecial 56, 3) := by decide +kernel
theorem dX4_allows_27 : decode cX4_allows 27 = .ok (.athrow, 1) := by decide +kernel
theorem dX4_allows_28 : decode cX4_allows 28 = .ok (.aload_n 0, 1) := by decide +kernel
theorem dX4_allows_29 : decode cX4_allows 29 = .ok (.iload_n 1, 1) := by decide +kernel
theorem dX4_allows_30 : decode cX4_allows 30 = .ok (.iload_n 2, 1) := by decide +kernel
theorem dX4_allows_31 : decode cX4_allows 31 = .ok (.invokevirtual 97, 3) := by decide +kernel
theorem dX4_allows_34 : decode cX4_allows 34 = .ok (.ifCond .ne 7, 3) := by decide +kernel
theorem dX4_allows_37 : decode cX4_allows 37 = .ok (.iconst 1, 1) := by decide +kernel
theorem dX4_allows_38 : decode cX4_allows 38 = .ok (.goto 4, 3) := by decide +kernel
theorem dX4_allows_41 : decode cX4_allows 41 = .ok (.iconst 0, 1) := by decide +kernel
theorem dX4_allows_42 : decode cX4_allows 42 = .ok (.ireturn, 1) := by decide +kernel
set_option maxRecDepth 20000 in
theorem ggX4_open_X4_isOutside : GoodIn wsX4_open wsX4_isOutside := goodIn_r _ [11] (by decide +kernel) (by decide +kernel)
set_option maxRecDepth 20000 in
theorem gX4_open_X4_isOutside : GoodIn wsX4_open (va_wsS RX4 48 yX4_isOutside wsX4_isOutside) := goodIn_app (goodIn_of _ (by decide +kernel)) ggX4_open_X4_isOutside
set_option maxRecDepth 20000 in
theorem ggX4_open_X4_isBarred : GoodIn wsX4_open wsX4_isBarred := goodIn_r _ [15, 16, 37, 38, 39, 40, 41, 42, 43] (by decide +kernel) (by decide +kernel)
set_option maxRecDepth 20000 in
theorem gX4_open_X4_isBarred : GoodIn wsX4_open (wsV RX4 103 RX4 yX4_isBarred wsX4_isBarred) := goodIn_app (goodIn_of _ (by decide +kernel)) ggX4_open_X4_isBarred
set_option maxRecDepth 20000 in
theorem ggX4_open_X3_areAllOpened : GoodIn wsX4_open wsX3_areAllOpened := goodIn_r _ [21, 22, 44, 45, 46, 47, 48, 49] (by decide +kernel) (by decide +kernel)
set_option maxRecDepth 20000 in
theorem gX4_open_X3_areAllOpened : GoodIn wsX4_open (wsV RX4 109 RX3 yX3_areAllOpened wsX3_areAllOpened) := goodIn_app (goodIn_of _ (by decide +kernel)) ggX4_open_X3_areAllOpened
set_option maxRecDepth 20000 in
theorem ggX4_open_X2_signing : GoodIn wsX4_open wsX2_signing := goodIn_r _ [27, 28, 50, 51] (by decide +kernel) (by decide +kernel)
set_option maxRecDepth 20000 in
theorem gX4_open_X2_signing : GoodIn wsX4_open (wsV RX4 115 RX2 yX2_signing wsX2_signing) := goodIn_app (goodIn_of _ (by decide +kernel)) ggX4_open_X2_signing
set_option maxRecDepth 20000 in
theorem ggX4_open_X3_add : GoodIn wsX4_open wsX3_add := goodIn_r _ [32, 22, 33, 34, 35, 36, 44, 45, 46, 47, 48, 49] (by decide +kernel) (by decide +kernel)
set_option maxRecDepth 20000 in
theorem gX4_open_X3_add : GoodIn wsX4_open (wsV RX4 119 RX3 yX3_add wsX3_add) := goodIn_app (goodIn_of _ (by decide +kernel)) ggX4_open_X3_add
theorem dX4_open_0 : decode cX4_open 0 = .ok (.iload_n 1, 1) := by decide +kernel
theorem dX4_open_1 : decode cX4_open 1 = .ok (.bipush 10, 2) := by decide +kernel
theorem dX4_open_3 : decode cX4_open 3 = .ok (.invokestatic 48, 3) := by decide +kernel
theorem dX4_open_6 : decode cX4_open 6 = .ok (.ifCond .eq 13, 3) := by decide +kernel
theorem dX4_open_9 : decode cX4_open 9 = .ok (.new 52, 3) := by decide +kernel
theorem dX4_open_12 : decode cX4_open 12 = .ok (.dup, 1) := by decide +kernel
theorem dX4_open_13 : decode cX4_open 13 = .ok (.ldc 101, 2) := by decide +kernel
theorem dX4_open_15 : decode cX4_open 15 = .ok (.invokespecial 56, 3) := by decide +kernel
theorem dX4_open_18 : decode cX4_open 18 = .ok (.athrow, 1) := by decide +kernel
theorem dX4_open_19 : decode cX4_open 19 = .ok (.aload_n 0, 1) := by decide +kernel
theorem dX4_open_20 : decode cX4_open 20 = .ok (.iload_n 1, 1) := by decide +kernel
theorem dX4_open_21 : decode cX4_open 21 = .ok (.invokevirtual 103, 3) := by decide +kernel
theorem dX4_open_24 : decode cX4_open 24 = .ok (.ifCond .eq 13, 3) := by decide +kernel
theorem dX4_open_27 : decode cX4_open 27 = .ok (.new 70, 3) := by decide +kernel
theorem dX4_open_30 : decode cX4_open 30 = .ok (.dup, 1) := by decide +kernel
theorem dX4_open_31 : decode cX4_open 31 = .ok (.ldc 107, 2) := by decide +kernel
theorem dX4_open_33 : decode cX4_open 33 = .ok (.invokespecial 74, 3) := by decide +kernel
theorem dX4_open_36 : decode cX4_open 36 = .ok (.athrow, 1) := by decide +kernel
theorem dX4_open_37 : decode cX4_open 37 = .ok (.aload_n 0, 1) := by decide +kernel
theorem dX4_open_38 : decode cX4_open 38 = .ok (.getfield 19, 3) := by decide +kernel
theorem dX4_open_41 : decode cX4_open 41 = .ok (.invokevirtual 109, 3) := by decide +kernel
theorem dX4_open_44 : decode cX4_open 44 = .ok (.ifCond .eq 13, 3) := by decide +kernel
theorem dX4_open_47 : decode cX4_open 47 = .ok (.new 70, 3) := by decide +kernel
theorem dX4_open_50 : decode cX4_open 50 = .ok (.dup, 1) := by decide +kernel
theorem dX4_open_51 : decode cX4_open 51 = .ok (.ldc 113, 2) := by decide +kernel
theorem dX4_open_53 : decode cX4_open 53 = .ok (.invokespecial 74, 3) := by decide +kernel
theorem dX4_open_56 : decode cX4_open 56 = .ok (.athrow, 1) := by decide +kernel
theorem dX4_open_57 : decode cX4_open 57 = .ok (.aload_n 0, 1) := by decide +kernel
theorem dX4_open_58 : decode cX4_open 58 = .ok (.getfield 19, 3) := by decide +kernel
theorem dX4_open_61 : decode cX4_open 61 = .ok (.iload_n 1, 1) := by decide +kernel
theorem dX4_open_62 : decode cX4_open 62 = .ok (.aload_n 0, 1) := by decide +kernel
theorem dX4_open_63 : decode cX4_open 63 = .ok (.getfield 26, 3) := by decide +kernel
theorem dX4_open_66 : decode cX4_open 66 = .ok (.invokevirtual 115, 3) := by decide +kernel
theorem dX4_open_69 : decode cX4_open 69 = .ok (.aload_n 0, 1) := by decide +kernel
theorem dX4_open_70 : decode cX4_open 70 = .ok (.getfield 44, 3) := by decide +kernel
theorem dX4_open_73 : decode cX4_open 73 = .ok (.invokevirtual 119, 3) := by decide +kernel
theorem dX4_open_76 : decode cX4_open 76 = .ok (.ireturn, 1) := by decide +kernel
set_option maxRecDepth 20000 in
theorem ggX4_close_X3_has : GoodIn wsX4_close wsX3_has := goodIn_r _ [11, 12, 34, 35, 36, 37, 38, 39] (by decide +kernel) (by decide +kernel)
set_option maxRecDepth 20000 in
theorem gX4_close_X3_has : GoodIn wsX4_close (wsV RX4 122 RX3 yX3_has wsX3_has) := goodIn_app (goodIn_of _ (by decide +kernel)) ggX4_close_X3_has
set_option maxRecDepth 20000 in
theorem ggX4_close_X3_isOver : GoodIn wsX4_close wsX3_isOver := goodIn_r _ [16, 17, 34, 35, 36, 37, 38, 39] (by decide +kernel) (by decide +kernel)
set_option maxRecDepth 20000 in
theorem gX4_close_X3_isOver : GoodIn wsX4_close (wsV RX4 130 RX3 yX3_isOver wsX3_isOver) := goodIn_app (goodIn_of _ (by decide +kernel)) ggX4_close_X3_isOver
set_option maxRecDepth 20000 in
theorem ggX4_close_X3_end : GoodIn wsX4_close wsX3_end := goodIn_r _ [21, 17, 34, 35, 36, 37, 38, 39] (by decide +kernel) (by decide +kernel)
set_option maxRecDepth 20000 in
theorem gX4_close_X3_end : GoodIn wsX4_close (wsV RX4 135 RX3 yX3_end wsX3_end) := goodIn_app (goodIn_of _ (by decide +kernel)) ggX4_close_X3_end
set_option maxRecDepth 20000 in
theorem ggX4_close_X3_age : GoodIn wsX4_close wsX3_age := goodIn_r _ [25, 26, 34, 35, 36, 37, 38, 39] (by decide +kernel) (by decide +kernel)
set_option maxRecDepth 20000 in
theorem gX4_close_X3_age : GoodIn wsX4_close (wsV RX4 139 RX3 yX3_age wsX3_age) := goodIn_app (goodIn_of _ (by decide +kernel)) ggX4_close_X3_age
theorem dX4_close_0 : decode cX4_close 0 = .ok (.aload_n 0, 1) := by decide +kernel
theorem dX4_close_1 : decode cX4_close 1 = .ok (.getfield 19, 3) := by decide +kernel
theorem dX4_close_4 : decode cX4_close 4 = .ok (.iload_n 1, 1) := by decide +kernel
theorem dX4_close_5 : decode cX4_close 5 = .ok (.invokevirtual 122, 3) := by decide +kernel
theorem dX4_close_8 : decode cX4_close 8 = .ok (.ifCond .ne 13, 3) := by decide +kernel
theorem dX4_close_11 : decode cX4_close 11 = .ok (.new 125, 3) := by decide +kernel
theorem dX4_close_14 : decode cX4_close 14 = .ok (.dup, 1) := by decide +kernel
theorem dX4_close_15 : decode cX4_close 15 = .ok (.ldc 127, 2) := by decide +kernel
theorem dX4_close_17 : decode cX4_close 17 = .ok (.invokespecial 129, 3) := by decide +kernel
theorem dX4_close_20 : decode cX4_close 20 = .ok (.athrow, 1) := by decide +kernel
theorem dX4_close_21 : decode cX4_close 21 = .ok (.aload_n 0, 1) := by decide +kernel
theorem dX4_close_22 : decode cX4_close 22 = .ok (.getfield 19, 3) := by decide +kernel
theorem dX4_close_25 : decode cX4_close 25 = .ok (.iload_n 1, 1) := by decide +kernel
theorem dX4_close_26 : decode cX4_close 26 = .ok (.invokevirtual 130, 3) := by decide +kernel
theorem dX4_close_29 : decode cX4_close 29 = .ok (.ifCond .eq 13, 3) := by decide +kernel
theorem dX4_close_32 : decode cX4_close 32 = .ok (.new 70, 3) := by decide +kernel
theorem dX4_close_35 : decode cX4_close 35 = .ok (.dup, 1) := by decide +kernel
theorem dX4_close_36 : decode cX4_close 36 = .ok (.ldc 133, 2) := by decide +kernel
theorem dX4_close_38 : decode cX4_close 38 = .ok (.invokespecial 74, 3) := by decide +kernel
theorem dX4_close_41 : decode cX4_close 41 = .ok (.athrow, 1) := by decide +kernel
theorem dX4_close_42 : decode cX4_close 42 = .ok (.aload_n 0, 1) := by decide +kernel
theorem dX4_close_43 : decode cX4_close 43 = .ok (.getfield 19, 3) := by decide +kernel
theorem dX4_close_46 : decode cX4_close 46 = .ok (.iload_n 1, 1) := by decide +kernel
theorem dX4_close_47 : decode cX4_close 47 = .ok (.invokevirtual 135, 3) := by decide +kernel
theorem dX4_close_50 : decode cX4_close 50 = .ok (.aload_n 0, 1) := by decide +kernel
theorem dX4_close_51 : decode cX4_close 51 = .ok (.getfield 19, 3) := by decide +kernel
theorem dX4_close_54 : decode cX4_close 54 = .ok (.iload_n 1, 1) := by decide +kernel
theorem dX4_close_55 : decode cX4_close 55 = .ok (.aload_n 0, 1) := by decide +kernel
theorem dX4_close_56 : decode cX4_close 56 = .ok (.getfield 44, 3) := by decide +kernel
theorem dX4_close_59 : decode cX4_close 59 = .ok (.invokevirtual 139, 3) := by decide +kernel
theorem dX4_close_62 : decode cX4_close 62 = .ok (.ireturn, 1) := by decide +kernel
set_option maxRecDepth 20000 in
theorem ggX4_goesOn_X3_has : GoodIn wsX4_goesOn wsX3_has := goodIn_r _ [8, 9, 22, 23, 24, 25, 26, 27] (by decide +kernel) (by decide +kernel)
set_option maxRecDepth 20000 in
theorem gX4_goesOn_X3_has : GoodIn wsX4_goesOn (wsV RX4 122 RX3 yX3_has wsX3_has) := goodIn_app (goodIn_of _ (by decide +kernel)) ggX4_goesOn_X3_has
set_option maxRecDepth 20000 in
theorem ggX4_goesOn_X3_isOver : GoodIn wsX4_goesOn wsX3_isOver := goodIn_r _ [13, 14, 22, 23, 24, 25, 26, 27] (by decide +kernel) (by decide +kernel)
set_option maxRecDepth 20000 in
theorem gX4_goesOn_X3_isOver : GoodIn wsX4_goesOn (wsV RX4 130 RX3 yX3_isOver wsX3_isOver) := goodIn_app (goodIn_of _ (by decide +kernel)) ggX4_goesOn_X3_isOver
theorem dX4_goesOn_0 : decode cX4_goesOn 0 = .ok (.aload_n 0, 1) := by decide +kernel
theorem dX4_goesOn_1 : decode cX4_goesOn 1 = .ok (.getfield 19, 3) := by decide +kernel
theorem dX4_goesOn_4 : decode cX4_goesOn 4 = .ok (.iload_n 1, 1) := by decide +kernel
theorem dX4_goesOn_5 : decode cX4_goesOn 5 = .ok (.invokevirtual 122, 3) := by decide +kernel
theorem dX4_goesOn_8 : decode cX4_goesOn 8 = .ok (.ifCond .ne 13, 3) := by decide +kernel
theorem dX4_goesOn_11 : decode cX4_goesOn 11 = .ok (.new 125, 3) := by decide +kernel
theorem dX4_goesOn_14 : decode cX4_goesOn 14 = .ok (.dup, 1) := by decide +kernel
theorem dX4_goesOn_15 : decode cX4_goesOn 15 = .ok (.ldc 127, 2) := by decide +kernel
theorem dX4_goesOn_17 : decode cX4_goesOn 17 = .ok (.invokespecial 129, 3) := by decide +kernel
theorem dX4_goesOn_20 : decode cX4_goesOn 20 = .ok (.athrow, 1) := by decide +kernel
theorem dX4_goesOn_21 : decode cX4_goesOn 21 = .ok (.aload_n 0, 1) := by decide +kernel
theorem dX4_goesOn_22 : decode cX4_goesOn 22 = .ok (.getfield 19, 3) := by decide +kernel
theorem dX4_goesOn_25 : decode cX4_goesOn 25 = .ok (.iload_n 1, 1) := by decide +kernel
theorem dX4_goesOn_26 : decode cX4_goesOn 26 = .ok (.invokevirtual 130, 3) := by decide +kernel
theorem dX4_goesOn_29 : decode cX4_goesOn 29 = .ok (.ifCond .ne 7, 3) := by decide +kernel
theorem dX4_goesOn_32 : decode cX4_goesOn 32 = .ok (.iconst 1, 1) := by decide +kernel
theorem dX4_goesOn_33 : decode cX4_goesOn 33 = .ok (.goto 4, 3) := by decide +kernel
theorem dX4_goesOn_36 : decode cX4_goesOn 36 = .ok (.iconst 0, 1) := by decide +kernel
theorem dX4_goesOn_37 : decode cX4_goesOn 37 = .ok (.ireturn, 1) := by decide +kernel
set_option maxRecDepth 20000 in
theorem ggX4_changeKeys_X2_signWithNext : GoodIn wsX4_changeKeys wsX2_signWithNext := goodIn_r _ [11, 12, 13, 52, 53] (by decide +kernel) (by decide +kernel)
set_option maxRecDepth 20000 in
theorem gX4_changeKeys_X2_signWithNext : GoodIn wsX4_changeKeys (wsV RX4 144 RX2 yX2_signWithNext wsX2_signWithNext) := goodIn_app (goodIn_of _ (by decide +kernel)) ggX4_changeKeys_X2_signWithNext
set_option maxRecDepth 20000 in
theorem ggX4_changeKeys_X3_endDue : GoodIn wsX4_changeKeys wsX3_endDue := goodIn_r _ [18, 19, 20, 21, 22, 23, 24, 17, 25, 26, 27, 28, 29, 30, 31, 32, 33, 34, 35, 10, 36, 12, 13, 37, 38, 39, 40, 54, 55, 56, 57, 58, 59, 52, 53] (by decide +kernel) (by decide +kernel)
set_option maxRecDepth 20000 in
theorem gX4_changeKeys_X3_endDue : GoodIn wsX4_changeKeys (wsV RX4 147 RX3 yX3_endDue wsX3_endDue) := goodIn_app (goodIn_of _ (by decide +kernel)) ggX4_changeKeys_X3_endDue
set_option maxRecDepth 20000 in
theorem ggX4_changeKeys_X2_signing : GoodIn wsX4_changeKeys wsX2_signing := goodIn_r _ [44, 12, 52, 53] (by decide +kernel) (by decide +kernel)
set_option maxRecDepth 20000 in
theorem gX4_changeKeys_X2_signing : GoodIn wsX4_changeKeys (wsV RX4 115 RX2 yX2_signing wsX2_signing) := goodIn_app (goodIn_of _ (by decide +kernel)) ggX4_changeKeys_X2_signing
theorem dX4_changeKeys_0 : decode cX4_changeKeys 0 = .ok (.iload_n 1, 1) := by decide +kernel
theorem dX4_changeKeys_1 : decode cX4_changeKeys 1 = .ok (.ifCond .lt 10, 3) := by decide +kernel
theorem dX4_changeKeys_4 : decode cX4_changeKeys 4 = .ok (.iload_n 1, 1) := by decide +kernel
theorem dX4_changeKeys_5 : decode cX4_changeKeys 5 = .ok (.sipush 300, 3) := by decide +kernel
theorem dX4_changeKeys_8 : decode cX4_changeKeys 8 = .ok (.if_icmp .le 13, 3) := by decide +kernel
theorem dX4_changeKeys_11 : decode cX4_changeKeys 11 = .ok (.new 52, 3) := by decide +kernel
theorem dX4_changeKeys_14 : decode cX4_changeKeys 14 = .ok (.dup, 1) := by decide +kernel
theorem dX4_changeKeys_15 : decode cX4_changeKeys 15 = .ok (.ldc 142, 2) := by decide +kernel
theorem dX4_changeKeys_17 : decode cX4_changeKeys 17 = .ok (.invokespecial 56, 3) := by decide +kernel
theorem dX4_changeKeys_20 : decode cX4_changeKeys 20 = .ok (.athrow, 1) := by decide +kernel
theorem dX4_changeKeys_21 : decode cX4_changeKeys 21 = .ok (.aload_n 0, 1) := by decide +kernel
theorem dX4_changeKeys_22 : decode cX4_changeKeys 22 = .ok (.getfield 26, 3) := by decide +kernel
theorem dX4_changeKeys_25 : decode cX4_changeKeys 25 = .ok (.aload_n 0, 1) := by decide +kernel
theorem dX4_changeKeys_26 : decode cX4_changeKeys 26 = .ok (.getfield 44, 3) := by decide +kernel
theorem dX4_changeKeys_29 : decode cX4_changeKeys 29 = .ok (.iload_n 1, 1) := by decide +kernel
theorem dX4_changeKeys_30 : decode cX4_changeKeys 30 = .ok (.iadd, 1) := by decide +kernel
theorem dX4_changeKeys_31 : decode cX4_changeKeys 31 = .ok (.invokevirtual 144, 3) := by decide +kernel
theorem dX4_changeKeys_34 : decode cX4_changeKeys 34 = .ok (.aload_n 0, 1) := by decide +kernel
theorem dX4_changeKeys_35 : decode cX4_changeKeys 35 = .ok (.getfield 19, 3) := by decide +kernel
theorem dX4_changeKeys_38 : decode cX4_changeKeys 38 = .ok (.aload_n 0, 1) := by decide +kernel
theorem dX4_changeKeys_39 : decode cX4_changeKeys 39 = .ok (.getfield 44, 3) := by decide +kernel
theorem dX4_changeKeys_42 : decode cX4_changeKeys 42 = .ok (.aload_n 0, 1) := by decide +kernel
theorem dX4_changeKeys_43 : decode cX4_changeKeys 43 = .ok (.getfield 37, 3) := by decide +kernel
theorem dX4_changeKeys_46 : decode cX4_changeKeys 46 = .ok (.aload_n 0, 1) := by decide +kernel
theorem dX4_changeKeys_47 : decode cX4_changeKeys 47 = .ok (.getfield 26, 3) := by decide +kernel
theorem dX4_changeKeys_50 : decode cX4_changeKeys 50 = .ok (.invokevirtual 147, 3) := by decide +kernel
theorem dX4_changeKeys_53 : decode cX4_changeKeys 53 = .ok (.pop, 1) := by decide +kernel
theorem dX4_changeKeys_54 : decode cX4_changeKeys 54 = .ok (.aload_n 0, 1) := by decide +kernel
theorem dX4_changeKeys_55 : decode cX4_changeKeys 55 = .ok (.getfield 26, 3) := by decide +kernel
theorem dX4_changeKeys_58 : decode cX4_changeKeys 58 = .ok (.invokevirtual 115, 3) := by decide +kernel
theorem dX4_changeKeys_61 : decode cX4_changeKeys 61 = .ok (.ireturn, 1) := by decide +kernel
set_option maxRecDepth 20000 in
theorem ggX4_isTaken_X2_signing : GoodIn wsX4_isTaken wsX2_signing := goodIn_r _ [9, 10, 23, 24] (by decide +kernel) (by decide +kernel)
set_option maxRecDepth 20000 in
theorem gX4_isTaken_X2_signing : GoodIn wsX4_isTaken (wsV RX4 115 RX2 yX2_signing wsX2_signing) := goodIn_app (goodIn_of _ (by decide +kernel)) ggX4_isTaken_X2_signing
set_option maxRecDepth 20000 in
theorem ggX4_isTaken_X2_takes : GoodIn wsX4_isTaken wsX2_takes := goodIn_r _ [14, 10, 15, 23, 24] (by decide +kernel) (by decide +kernel)
set_option maxRecDepth 20000 in
theorem gX4_isTaken_X2_takes : GoodIn wsX4_isTaken (wsV RX4 153 RX2 yX2_takes wsX2_takes) := goodIn_app (goodIn_of _ (by decide +kernel)) ggX4_isTaken_X2_takes
theorem dX4_isTaken_0 : decode cX4_isTaken 0 = .ok (.iload_n 1, 1) := by decide +kernel
theorem dX4_isTaken_1 : decode cX4_isTaken 1 = .ok (.ifCond .lt 14, 3) := by decide +kernel
theorem dX4_isTaken_4 : decode cX4_isTaken 4 = .ok (.iload_n 1, 1) := by decide +kernel
theorem dX4_isTaken_5 : decode cX4_isTaken 5 = .ok (.aload_n 0, 1) := by decide +kernel
theorem dX4_isTaken_6 : decode cX4_isTaken 6 = .ok (.getfield 26, 3) := by decide +kernel
theorem dX4_isTaken_9 : decode cX4_isTaken 9 = .ok (.invokevirtual 115, 3) := by decide +kernel
theorem dX4_isTaken_12 : decode cX4_isTaken 12 = .ok (.if_icmp .le 13, 3) := by decide +kernel
theorem dX4_isTaken_15 : decode cX4_isTaken 15 = .ok (.new 52, 3) := by decide +kernel
theorem dX4_isTaken_18 : decode cX4_isTaken 18 = .ok (.dup, 1) := by decide +kernel
theorem dX4_isTaken_19 : decode cX4_isTaken 19 = .ok (.ldc 151, 2) := by decide +kernel
theorem dX4_isTaken_21 : decode cX4_isTaken 21 = .ok (.invokespecial 56, 3) := by decide +kernel
theorem dX4_isTaken_24 : decode cX4_isTaken 24 = .ok (.athrow, 1) := by decide +kernel
theorem dX4_isTaken_25 : decode cX4_isTaken 25 = .ok (.aload_n 0, 1) := by decide +kernel
theorem dX4_isTaken_26 : decode cX4_isTaken 26 = .ok (.getfield 26, 3) := by decide +kernel
theorem dX4_isTaken_29 : decode cX4_isTaken 29 = .ok (.iload_n 1, 1) := by decide +kernel
theorem dX4_isTaken_30 : decode cX4_isTaken 30 = .ok (.aload_n 0, 1) := by decide +kernel
theorem dX4_isTaken_31 : decode cX4_isTaken 31 = .ok (.getfield 44, 3) := by decide +kernel
theorem dX4_isTaken_34 : decode cX4_isTaken 34 = .ok (.invokevirtual 153, 3) := by decide +kernel
theorem dX4_isTaken_37 : decode cX4_isTaken 37 = .ok (.ireturn, 1) := by decide +kernel
set_option maxRecDepth 20000 in
theorem ggX4_pass_X0_dropDueOfAll : GoodIn wsX4_pass wsX0_dropDueOfAll := goodIn_r _ [12, 13, 14, 15, 11, 16, 17, 18, 19, 20, 21, 22, 60, 61, 62] (by decide +kernel) (by decide +kernel)
set_option maxRecDepth 20000 in
theorem gX4_pass_X0_dropDueOfAll : GoodIn wsX4_pass (wsV RX4 156 RX0 yX0_dropDueOfAll wsX0_dropDueOfAll) := goodIn_app (goodIn_of _ (by decide +kernel)) ggX4_pass_X0_dropDueOfAll
set_option maxRecDepth 20000 in
theorem ggX4_pass_X3_endDue : GoodIn wsX4_pass wsX3_endDue := goodIn_r _ [27, 28, 29, 30, 31, 32, 33, 26, 34, 35, 36, 37, 38, 39, 40, 41, 42, 43, 44, 45, 46, 47, 48, 49, 50, 51, 52, 63, 64, 65, 66, 67, 68, 69, 70] (by decide +kernel) (by decide +kernel)
set_option maxRecDepth 20000 in
theorem gX4_pass_X3_endDue : GoodIn wsX4_pass (wsV RX4 147 RX3 yX3_endDue wsX3_endDue) := goodIn_app (goodIn_of _ (by decide +kernel)) ggX4_pass_X3_endDue
theorem dX4_pass_0 : decode cX4_pass 0 = .ok (.iload_n 1, 1) := by decide +kernel
theorem dX4_pass_1 : decode cX4_pass 1 = .ok (.iconst 1, 1) := by decide +kernel
theorem dX4_pass_2 : decode cX4_pass 2 = .ok (.if_icmp .lt 10, 3) := by decide +kernel
theorem dX4_pass_5 : decode cX4_pass 5 = .ok (.iload_n 1, 1) := by decide +kernel
theorem dX4_pass_6 : decode cX4_pass 6 = .ok (.sipush 300, 3) := by decide +kernel
theorem dX4_pass_9 : decode cX4_pass 9 = .ok (.if_icmp .le 13, 3) := by decide +kernel
theorem dX4_pass_12 : decode cX4_pass 12 = .ok (.new 52, 3) := by decide +kernel
theorem dX4_pass_15 : decode cX4_pass 15 = .ok (.dup, 1) := by decide +kernel
theorem dX4_pass_16 : decode cX4_pass 16 = .ok (.ldc 142, 2) := by decide +kernel
theorem dX4_pass_18 : decode cX4_pass 18 = .ok (.invokespecial 56, 3) := by decide +kernel
theorem dX4_pass_21 : decode cX4_pass 21 = .ok (.athrow, 1) := by decide +kernel
theorem dX4_pass_22 : decode cX4_pass 22 = .ok (.aload_n 0, 1) := by decide +kernel
theorem dX4_pass_23 : decode cX4_pass 23 = .ok (.dup, 1) := by decide +kernel
theorem dX4_pass_24 : decode cX4_pass 24 = .ok (.getfield 44, 3) := by decide +kernel
theorem dX4_pass_27 : decode cX4_pass 27 = .ok (.iload_n 1, 1) := by decide +kernel
theorem dX4_pass_28 : decode cX4_pass 28 = .ok (.iadd, 1) := by decide +kernel
theorem dX4_pass_29 : decode cX4_pass 29 = .ok (.putfield 44, 3) := by decide +kernel
theorem dX4_pass_32 : decode cX4_pass 32 = .ok (.aload_n 0, 1) := by decide +kernel
theorem dX4_pass_33 : decode cX4_pass 33 = .ok (.getfield 33, 3) := by decide +kernel
theorem dX4_pass_36 : decode cX4_pass 36 = .ok (.aload_n 0, 1) := by decide +kernel
theorem dX4_pass_37 : decode cX4_pass 37 = .ok (.getfield 44, 3) := by decide +kernel
theorem dX4_pass_40 : decode cX4_pass 40 = .ok (.invokevirtual 156, 3) := by decide +kernel
theorem dX4_pass_43 : decode cX4_pass 43 = .ok (.aload_n 0, 1) := by decide +kernel
theorem dX4_pass_44 : decode cX4_pass 44 = .ok (.getfield 19, 3) := by decide +kernel
theorem dX4_pass_47 : decode cX4_pass 47 = .ok (.aload_n 0, 1) := by decide +kernel
theorem dX4_pass_48 : decode cX4_pass 48 = .ok (.getfield 44, 3) := by decide +kernel
theorem dX4_pass_51 : decode cX4_pass 51 = .ok (.aload_n 0, 1) := by decide +kernel
theorem dX4_pass_52 : decode cX4_pass 52 = .ok (.getfield 37, 3) := by decide +kernel
theorem dX4_pass_55 : decode cX4_pass 55 = .ok (.aload_n 0, 1) := by decide +kernel
theorem dX4_pass_56 : decode cX4_pass 56 = .ok (.getfield 26, 3) := by decide +kernel
theorem dX4_pass_59 : decode cX4_pass 59 = .ok (.invokevirtual 147, 3) := by decide +kernel
theorem dX4_pass_62 : decode cX4_pass 62 = .ok (.ireturn, 1) := by decide +kernel
theorem dX4_now_0 : decode cX4_now 0 = .ok (.aload_n 0, 1) := by decide +kernel
theorem dX4_now_1 : decode cX4_now 1 = .ok (.getfield 44, 3) := by decide +kernel
theorem dX4_now_4 : decode cX4_now 4 = .ok (.ireturn, 1) := by decide +kernel
set_option maxRecDepth 20000 in
theorem ggX4_breakGlass_X4_isOutside : GoodIn wsX4_breakGlass wsX4_isOutside := goodIn_r _ [10] (by decide +kernel) (by decide +kernel)
set_option maxRecDepth 20000 in
theorem gX4_breakGlass_X4_isOutside : GoodIn wsX4_breakGlass (va_wsS RX4 48 yX4_isOutside wsX4_isOutside) := goodIn_app (goodIn_of _ (by decide +kernel)) ggX4_breakGlass_X4_isOutside
set_option maxRecDepth 20000 in
theorem ggX4_breakGlass_X4_servesAsWitness : GoodIn wsX4_breakGlass wsX4_servesAsWitness := goodIn_r _ [14, 15, 16, 17, 18, 9, 19, 20, 21, 22, 23, 24, 25, 26, 27, 28, 29, 30, 31, 32, 33, 34, 35, 36, 37, 38, 39, 40, 41, 42, 43, 44, 45, 46, 47, 48, 49, 50] (by decide +kernel) (by decide +kernel)
set_option maxRecDepth 20000 in
theorem gX4_breakGlass_X4_servesAsWitness : GoodIn wsX4_breakGlass (wsV RX4 163 RX4 yX4_servesAsWitness wsX4_servesAsWitness) := goodIn_app (goodIn_of _ (by decide +kernel)) ggX4_breakGlass_X4_servesAsWitness
theorem dX4_breakGlass_0 : decode cX4_breakGlass 0 = .ok (.iload_n 1, 1) := by decide +kernel
theorem dX4_breakGlass_1 : decode cX4_breakGlass 1 = .ok (.bipush 10, 2) := by decide +kernel
theorem dX4_breakGlass_3 : decode cX4_breakGlass 3 = .ok (.invokestatic 48, 3) := by decide +kernel
theorem dX4_breakGlass_6 : decode cX4_breakGlass 6 = .ok (.ifCond .ne 12, 3) := by decide +kernel
theorem dX4_breakGlass_9 : decode cX4_breakGlass 9 = .ok (.iload_n 2, 1) := by decide +kernel
theorem dX4_breakGlass_10 : decode cX4_breakGlass 10 = .ok (.bipush 6, 2) := by decide +kernel
theorem dX4_breakGlass_12 : decode cX4_breakGlass 12 = .ok (.invokestatic 48, 3) := by decide +kernel
theorem dX4_breakGlass_15 : decode cX4_breakGlass 15 = .ok (.ifCond .eq 13, 3) := by decide +kernel
theorem dX4_breakGlass_18 : decode cX4_breakGlass 18 = .ok (.new 52, 3) := by decide +kernel
theorem dX4_breakGlass_21 : decode cX4_breakGlass 21 = .ok (.dup, 1) := by decide +kernel
theorem dX4_breakGlass_22 : decode cX4_breakGlass 22 = .ok (.ldc 95, 2) := by decide +kernel
theorem dX4_breakGlass_24 : decode cX4_breakGlass 24 = .ok (.invokespecial 56, 3) := by decide +kernel
theorem dX4_breakGlass_27 : decode cX4_breakGlass 27 = .ok (.athrow, 1) := by decide +kernel
theorem dX4_breakGlass_28 : decode cX4_breakGlass 28 = .ok (.iload_n 3, 1) := by decide +kernel
theorem dX4_breakGlass_29 : decode cX4_breakGlass 29 = .ok (.bipush 10, 2) := by decide +kernel
theorem dX4_breakGlass_31 : decode cX4_breakGlass 31 = .ok (.invokestatic 48, 3) := by decide +kernel
theorem dX4_breakGlass_34 : decode cX4_breakGlass 34 = .ok (.ifCond .ne 13, 3) := by decide +kernel
theorem dX4_breakGlass_37 : decode cX4_breakGlass 37 = .ok (.iload 4, 2) := by decide +kernel
theorem dX4_breakGlass_39 : decode cX4_breakGlass 39 = .ok (.bipush 10, 2) := by decide +kernel
theorem dX4_breakGlass_41 : decode cX4_breakGlass 41 = .ok (.invokestatic 48, 3) := by decide +kernel
theorem dX4_breakGlass_44 : decode cX4_breakGlass 44 = .ok (.ifCond .eq 13, 3) := by decide +kernel
theorem dX4_breakGlass_47 : decode cX4_breakGlass 47 = .ok (.new 52, 3) := by decide +kernel
theorem dX4_breakGlass_50 : decode cX4_breakGlass 50 = .ok (.dup, 1) := by decide +kernel
theorem dX4_breakGlass_51 : decode cX4_breakGlass 51 = .ok (.ldc 159, 2) := by decide +kernel
theorem dX4_breakGlass_53 : decode cX4_breakGlass 53 = .ok (.invokespecial 56, 3) := by decide +kernel
theorem dX4_breakGlass_56 : decode cX4_breakGlass 56 = .ok (.athrow, 1) := by decide +kernel
theorem dX4_breakGlass_57 : decode cX4_breakGlass 57 = .ok (.iload_n 1, 1) := by decide +kernel
theorem dX4_breakGlass_58 : decode cX4_breakGlass 58 = .ok (.iload_n 3, 1) := by decide +kernel
theorem dX4_breakGlass_59 : decode cX4_breakGlass 59 = .ok (.if_icmp .eq 15, 3) := by decide +kernel
theorem dX4_breakGlass_62 : decode cX4_breakGlass 62 = .ok (.iload_n 1, 1) := by decide +kernel
theorem dX4_breakGlass_63 : decode cX4_breakGlass 63 = .ok (.iload 4, 2) := by decide +kernel
theorem dX4_breakGlass_65 : decode cX4_breakGlass 65 = .ok (.if_icmp .eq 9, 3) := by decide +kernel
theorem dX4_breakGlass_68 : decode cX4_breakGlass 68 = .ok (.iload_n 3, 1) := by decide +kernel
theorem dX4_breakGlass_69 : decode cX4_breakGlass 69 = .ok (.iload 4, 2) := by decide +kernel
theorem dX4_breakGlass_71 : decode cX4_breakGlass 71 = .ok (.if_icmp .ne 13, 3) := by decide +kernel
theorem dX4_breakGlass_74 : decode cX4_breakGlass 74 = .ok (.new 52, 3) := by decide +kernel
theorem dX4_breakGlass_77 : decode cX4_breakGlass 77 = .ok (.dup, 1) := by decide +kernel
theorem dX4_breakGlass_78 : decode cX4_breakGlass 78 = .ok (.ldc 161, 2) := by decide +kernel
theorem dX4_breakGlass_80 : decode cX4_breakGlass 80 = .ok (.invokespecial 56, 3) := by decide +kernel
theorem dX4_breakGlass_83 : decode cX4_breakGlass 83 = .ok (.athrow, 1) := by decide +kernel
theorem dX4_breakGlass_84 : decode cX4_breakGlass 84 = .ok (.aload_n 0, 1) := by decide +kernel
theorem dX4_breakGlass_85 : decode cX4_breakGlass 85 = .ok (.iload_n 3, 1) := by decide +kernel
theorem dX4_breakGlass_86 : decode cX4_breakGlass 86 = .ok (.iload_n 2, 1) := by decide +kernel
theorem dX4_breakGlass_87 : decode cX4_breakGlass 87 = .ok (.invokevirtual 163, 3) := by decide +kernel
theorem dX4_breakGlass_90 : decode cX4_breakGlass 90 = .ok (.ifCond .eq 13, 3) := by decide +kernel
theorem dX4_breakGlass_93 : decode cX4_breakGlass 93 = .ok (.aload_n 0, 1) := by decide +kernel
theorem dX4_breakGlass_94 : decode cX4_breakGlass 94 = .ok (.iload 4, 2) := by decide +kernel
theorem dX4_breakGlass_96 : decode cX4_breakGlass 96 = .ok (.iload_n 2, 1) := by decide +kernel
theorem dX4_breakGlass_97 : decode cX4_breakGlass 97 = .ok (.invokevirtual 163, 3) := by decide +kernel
theorem dX4_breakGlass_100 : decode cX4_breakGlass 100 = .ok (.ifCond .ne 13, 3) := by decide +kernel
theorem dX4_breakGlass_103 : decode cX4_breakGlass 103 = .ok (.new 70, 3) := by decide +kernel
theorem dX4_breakGlass_106 : decode cX4_breakGlass 106 = .ok (.dup, 1) := by decide +kernel
theorem dX4_breakGlass_107 : decode cX4_breakGlass 107 = .ok (.ldc 166, 2) := by decide +kernel
theorem dX4_breakGlass_109 : decode cX4_breakGlass 109 = .ok (.invokespecial 74, 3) := by decide +kernel
theorem dX4_breakGlass_112 : decode cX4_breakGlass 112 = .ok (.athrow, 1) := by decide +kernel
theorem dX4_breakGlass_113 : decode cX4_breakGlass 113 = .ok (.aload_n 0, 1) := by decide +kernel
theorem dX4_breakGlass_114 : decode cX4_breakGlass 114 = .ok (.getfield 44, 3) := by decide +kernel
theorem dX4_breakGlass_117 : decode cX4_breakGlass 117 = .ok (.bipush 60, 2) := by decide +kernel
theorem dX4_breakGlass_119 : decode cX4_breakGlass 119 = .ok (.iadd, 1) := by decide +kernel
theorem dX4_breakGlass_120 : decode cX4_breakGlass 120 = .ok (.istore 5, 2) := by decide +kernel
theorem dX4_breakGlass_122 : decode cX4_breakGlass 122 = .ok (.aload_n 0, 1) := by decide +kernel
theorem dX4_breakGlass_123 : decode cX4_breakGlass 123 = .ok (.getfield 41, 3) := by decide +kernel
theorem dX4_breakGlass_126 : decode cX4_breakGlass 126 = .ok (.iload_n 1, 1) := by decide +kernel
theorem dX4_breakGlass_127 : decode cX4_breakGlass 127 = .ok (.bipush 6, 2) := by decide +kernel
theorem dX4_breakGlass_129 : decode cX4_breakGlass 129 = .ok (.imul, 1) := by decide +kernel
theorem dX4_breakGlass_130 : decode cX4_breakGlass 130 = .ok (.iload_n 2, 1) := by decide +kernel
theorem dX4_breakGlass_131 : decode cX4_breakGlass 131 = .ok (.iadd, 1) := by decide +kernel
theorem dX4_breakGlass_132 : decode cX4_breakGlass 132 = .ok (.iload 5, 2) := by decide +kernel
theorem dX4_breakGlass_134 : decode cX4_breakGlass 134 = .ok (.iastore, 1) := by decide +kernel
theorem dX4_breakGlass_135 : decode cX4_breakGlass 135 = .ok (.iload 5, 2) := by decide +kernel
theorem dX4_breakGlass_137 : decode cX4_breakGlass 137 = .ok (.ireturn, 1) := by decide +kernel
set_option maxRecDepth 20000 in
theorem ggX4_setCache_X4_isOutside : GoodIn wsX4_setCache wsX4_isOutside := goodIn_r _ [8] (by decide +kernel) (by decide +kernel)
set_option maxRecDepth 20000 in
theorem gX4_setCache_X4_isOutside : GoodIn wsX4_setCache (va_wsS RX4 48 yX4_isOutside wsX4_isOutside) := goodIn_app (goodIn_of _ (by decide +kernel)) ggX4_setCache_X4_isOutside
set_option maxRecDepth 20000 in
theorem ggX4_setCache_X0_cacheOf : GoodIn wsX4_setCache wsX0_cacheOf := goodIn_r _ [13, 14, 35, 36, 37] (by decide +kernel) (by decide +kernel)
set_option maxRecDepth 20000 in
theorem gX4_setCache_X0_cacheOf : GoodIn wsX4_setCache (wsV RX4 170 RX0 yX0_cacheOf wsX0_cacheOf) := goodIn_app (goodIn_of _ (by decide +kernel)) ggX4_setCache_X0_cacheOf
set_option maxRecDepth 20000 in
theorem ggX4_setCache_X0_allowCache : GoodIn wsX4_setCache wsX0_allowCache := goodIn_r _ [18, 14, 35, 36, 37] (by decide +kernel) (by decide +kernel)
set_option maxRecDepth 20000 in
theorem gX4_setCache_X0_allowCache : GoodIn wsX4_setCache (wsV RX4 173 RX0 yX0_allowCache wsX0_allowCache) := goodIn_app (goodIn_of _ (by decide +kernel)) ggX4_setCache_X0_allowCache
set_option maxRecDepth 20000 in
theorem ggX4_setCache_X0_dropDue : GoodIn wsX4_setCache wsX0_dropDue := goodIn_r _ [22, 23, 14, 24, 25, 26, 12, 27, 35, 36, 37] (by decide +kernel) (by decide +kernel)
set_option maxRecDepth 20000 in
theorem gX4_setCache_X0_dropDue : GoodIn wsX4_setCache (wsV RX4 177 RX0 yX0_dropDue wsX0_dropDue) := goodIn_app (goodIn_of _ (by decide +kernel)) ggX4_setCache_X0_dropDue
theorem dX4_setCache_0 : decode cX4_setCache 0 = .ok (.iload_n 1, 1) := by decide +kernel
theorem dX4_setCache_1 : decode cX4_setCache 1 = .ok (.iconst 4, 1) := by decide +kernel
theorem dX4_setCache_2 : decode cX4_setCache 2 = .ok (.invokestatic 48, 3) := by decide +kernel
theorem dX4_setCache_5 : decode cX4_setCache 5 = .ok (.ifCond .ne 13, 3) := by decide +kernel
theorem dX4_setCache_8 : decode cX4_setCache 8 = .ok (.iload_n 2, 1) := by decide +kernel
theorem dX4_setCache_9 : decode cX4_setCache 9 = .ok (.ifCond .lt 9, 3) := by decide +kernel
theorem dX4_setCache_12 : decode cX4_setCache 12 = .ok (.iload_n 2, 1) := by decide +kernel
theorem dX4_setCache_13 : decode cX4_setCache 13 = .ok (.bipush 60, 2) := by decide +kernel
theorem dX4_setCache_15 : decode cX4_setCache 15 = .ok (.if_icmp .le 13, 3) := by decide +kernel
theorem dX4_setCache_18 : decode cX4_setCache 18 = .ok (.new 52, 3) := by decide +kernel
theorem dX4_setCache_21 : decode cX4_setCache 21 = .ok (.dup, 1) := by decide +kernel
theorem dX4_setCache_22 : decode cX4_setCache 22 = .ok (.ldc 168, 2) := by decide +kernel
theorem dX4_setCache_24 : decode cX4_setCache 24 = .ok (.invokespecial 56, 3) := by decide +kernel
theorem dX4_setCache_27 : decode cX4_setCache 27 = .ok (.athrow, 1) := by decide +kernel
theorem dX4_setCache_28 : decode cX4_setCache 28 = .ok (.aload_n 0, 1) := by decide +kernel
theorem dX4_setCache_29 : decode cX4_setCache 29 = .ok (.getfield 33, 3) := by decide +kernel
theorem dX4_setCache_32 : decode cX4_setCache 32 = .ok (.iload_n 1, 1) := by decide +kernel
theorem dX4_setCache_33 : decode cX4_setCache 33 = .ok (.invokevirtual 170, 3) := by decide +kernel
theorem dX4_setCache_36 : decode cX4_setCache 36 = .ok (.istore_n 3, 1) := by decide +kernel
theorem dX4_setCache_37 : decode cX4_setCache 37 = .ok (.aload_n 0, 1) := by decide +kernel
theorem dX4_setCache_38 : decode cX4_setCache 38 = .ok (.getfield 33, 3) := by decide +kernel
theorem dX4_setCache_41 : decode cX4_setCache 41 = .ok (.iload_n 1, 1) := by decide +kernel
theorem dX4_setCache_42 : decode cX4_setCache 42 = .ok (.iload_n 2, 1) := by decide +kernel
theorem dX4_setCache_43 : decode cX4_setCache 43 = .ok (.invokevirtual 173, 3) := by decide +kernel
theorem dX4_setCache_46 : decode cX4_setCache 46 = .ok (.aload_n 0, 1) := by decide +kernel
theorem dX4_setCache_47 : decode cX4_setCache 47 = .ok (.getfield 33, 3) := by decide +kernel
theorem dX4_setCache_50 : decode cX4_setCache 50 = .ok (.iload_n 1, 1) := by decide +kernel
theorem dX4_setCache_51 : decode cX4_setCache 51 = .ok (.aload_n 0, 1) := by decide +kernel
theorem dX4_setCache_52 : decode cX4_setCache 52 = .ok (.getfield 44, 3) := by decide +kernel
theorem dX4_setCache_55 : decode cX4_setCache 55 = .ok (.invokevirtual 177, 3) := by decide +kernel
theorem dX4_setCache_58 : decode cX4_setCache 58 = .ok (.iload_n 3, 1) := by decide +kernel
theorem dX4_setCache_59 : decode cX4_setCache 59 = .ok (.ireturn, 1) := by decide +kernel
set_option maxRecDepth 20000 in
theorem ggX4_decide_X4_isOutside : GoodIn wsX4_decide wsX4_isOutside := goodIn_r _ [10] (by decide +kernel) (by decide +kernel)
set_option maxRecDepth 20000 in
theorem gX4_decide_X4_isOutside : GoodIn wsX4_decide (va_wsS RX4 48 yX4_isOutside wsX4_isOutside) := goodIn_app (goodIn_of _ (by decide +kernel)) ggX4_decide_X4_isOutside
