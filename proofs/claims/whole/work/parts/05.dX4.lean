set_option maxRecDepth 20000 in
theorem ggX4_init_X2_init : GoodIn wsX4_init wsX2_init := goodIn_r _ [23, 24, 2, 3, 25, 26, 27, 28, 29, 30, 31, 32, 33, 78, 79, 80, 81, 82, 83, 84, 85, 86] rfl (by decide +kernel)
set_option maxRecDepth 20000 in
theorem gX4_init_X2_init : GoodIn wsX4_init (wsX2_init) := ggX4_init_X2_init
set_option maxRecDepth 20000 in
theorem ggX4_init_X1_init : GoodIn wsX4_init wsX1_init := goodIn_r _ [36, 37, 2, 3, 38, 39, 40, 41, 42, 25, 43, 100, 101, 102] rfl (by decide +kernel)
set_option maxRecDepth 20000 in
theorem gX4_init_X1_init : GoodIn wsX4_init (wsX1_init) := ggX4_init_X1_init
set_option maxRecDepth 20000 in
theorem ggX4_init_X0_init : GoodIn wsX4_init wsX0_init := goodIn_r _ [46, 47, 2, 3, 48, 49, 25, 50, 51, 52, 53, 54, 55, 56, 57, 10, 58, 59, 60, 61, 62, 63, 64, 92, 93, 94, 95, 96, 97, 98, 99, 100, 101, 102] rfl (by decide +kernel)
set_option maxRecDepth 20000 in
theorem gX4_init_X0_init : GoodIn wsX4_init (wsX0_init) := ggX4_init_X0_init
set_option maxRecDepth 20000 in
theorem ggX4_init_X3_init : GoodIn wsX4_init wsX3_init := goodIn_r _ [67, 68, 2, 3, 69, 70, 25, 71, 72, 73, 74, 75, 76, 77, 62, 63, 64, 103, 104, 105, 106, 107, 108] rfl (by decide +kernel)
set_option maxRecDepth 20000 in
theorem gX4_init_X3_init : GoodIn wsX4_init (wsX3_init) := ggX4_init_X3_init
theorem dX4_init_0 : decode cX4_init 0 = .ok (.aload_n 0, 1) := by decide +kernel
theorem dX4_init_1 : decode cX4_init 1 = .ok (.invokespecial 3, 3) := by decide +kernel
theorem dX4_init_4 : decode cX4_init 4 = .ok (.aload_n 0, 1) := by decide +kernel
theorem dX4_init_5 : decode cX4_init 5 = .ok (.new 9, 3) := by decide +kernel
theorem dX4_init_8 : decode cX4_init 8 = .ok (.dup, 1) := by decide +kernel
theorem dX4_init_9 : decode cX4_init 9 = .ok (.invokespecial 11, 3) := by decide +kernel
theorem dX4_init_12 : decode cX4_init 12 = .ok (.putfield 12, 3) := by decide +kernel
theorem dX4_init_15 : decode cX4_init 15 = .ok (.aload_n 0, 1) := by decide +kernel
theorem dX4_init_16 : decode cX4_init 16 = .ok (.new 16, 3) := by decide +kernel
theorem dX4_init_19 : decode cX4_init 19 = .ok (.dup, 1) := by decide +kernel
theorem dX4_init_20 : decode cX4_init 20 = .ok (.aload_n 0, 1) := by decide +kernel
theorem dX4_init_21 : decode cX4_init 21 = .ok (.getfield 12, 3) := by decide +kernel
theorem dX4_init_24 : decode cX4_init 24 = .ok (.new 18, 3) := by decide +kernel
theorem dX4_init_27 : decode cX4_init 27 = .ok (.dup, 1) := by decide +kernel
theorem dX4_init_28 : decode cX4_init 28 = .ok (.bipush 100, 2) := by decide +kernel
theorem dX4_init_30 : decode cX4_init 30 = .ok (.invokespecial 20, 3) := by decide +kernel
theorem dX4_init_33 : decode cX4_init 33 = .ok (.invokespecial 23, 3) := by decide +kernel
theorem dX4_init_36 : decode cX4_init 36 = .ok (.putfield 26, 3) := by decide +kernel
theorem dX4_init_39 : decode cX4_init 39 = .ok (.aload_n 0, 1) := by decide +kernel
theorem dX4_init_40 : decode cX4_init 40 = .ok (.new 16, 3) := by decide +kernel
theorem dX4_init_43 : decode cX4_init 43 = .ok (.dup, 1) := by decide +kernel
theorem dX4_init_44 : decode cX4_init 44 = .ok (.aload_n 0, 1) := by decide +kernel
theorem dX4_init_45 : decode cX4_init 45 = .ok (.getfield 12, 3) := by decide +kernel
theorem dX4_init_48 : decode cX4_init 48 = .ok (.new 18, 3) := by decide +kernel
theorem dX4_init_51 : decode cX4_init 51 = .ok (.dup, 1) := by decide +kernel
theorem dX4_init_52 : decode cX4_init 52 = .ok (.iconst 0, 1) := by decide +kernel
theorem dX4_init_53 : decode cX4_init 53 = .ok (.invokespecial 20, 3) := by decide +kernel
theorem dX4_init_56 : decode cX4_init 56 = .ok (.invokespecial 23, 3) := by decide +kernel
theorem dX4_init_59 : decode cX4_init 59 = .ok (.putfield 30, 3) := by decide +kernel
theorem dX4_init_62 : decode cX4_init 62 = .ok (.aload_n 0, 1) := by decide +kernel
theorem dX4_init_63 : decode cX4_init 63 = .ok (.new 33, 3) := by decide +kernel
theorem dX4_init_66 : decode cX4_init 66 = .ok (.dup, 1) := by decide +kernel
theorem dX4_init_67 : decode cX4_init 67 = .ok (.aload_n 0, 1) := by decide +kernel
theorem dX4_init_68 : decode cX4_init 68 = .ok (.getfield 26, 3) := by decide +kernel
theorem dX4_init_71 : decode cX4_init 71 = .ok (.invokespecial 35, 3) := by decide +kernel
theorem dX4_init_74 : decode cX4_init 74 = .ok (.putfield 38, 3) := by decide +kernel
theorem dX4_init_77 : decode cX4_init 77 = .ok (.aload_n 0, 1) := by decide +kernel
theorem dX4_init_78 : decode cX4_init 78 = .ok (.iconst 0, 1) := by decide +kernel
theorem dX4_init_79 : decode cX4_init 79 = .ok (.putfield 42, 3) := by decide +kernel
theorem dX4_init_82 : decode cX4_init 82 = .ok (.return_, 1) := by decide +kernel
set_option maxRecDepth 20000 in
theorem ggX4_servant_X4_isKind : GoodIn wsX4_servant wsX4_isKind := goodIn_r _ [6, 7, 8, 5, 9] rfl (by decide +kernel)
set_option maxRecDepth 20000 in
theorem gX4_servant_X4_isKind : GoodIn wsX4_servant (va_wsS RX4 46 yX4_isKind wsX4_isKind) := goodIn_app (goodIn_r _ [3, 4, 5] rfl (by decide +kernel)) ggX4_servant_X4_isKind
set_option maxRecDepth 20000 in
theorem ggX4_servant_X4_isWithin : GoodIn wsX4_servant wsX4_isWithin := goodIn_r _ [9] rfl (by decide +kernel)
set_option maxRecDepth 20000 in
theorem gX4_servant_X4_isWithin : GoodIn wsX4_servant (va_wsS RX4 50 yX4_isWithin wsX4_isWithin) := goodIn_app (goodIn_r _ [7, 8, 5] rfl (by decide +kernel)) ggX4_servant_X4_isWithin
set_option maxRecDepth 20000 in
theorem ggX4_servant_X3_hasBegun : GoodIn wsX4_servant wsX3_hasBegun := goodIn_r _ [14, 15, 30, 31, 32, 33, 34, 35] rfl (by decide +kernel)
set_option maxRecDepth 20000 in
theorem gX4_servant_X3_hasBegun : GoodIn wsX4_servant (wsV RX4 54 RX3 yX3_hasBegun wsX3_hasBegun) := goodIn_app (goodIn_r _ [10, 11, 12, 13] rfl (by decide +kernel)) ggX4_servant_X3_hasBegun
set_option maxRecDepth 20000 in
theorem ggX4_servant_X2_addServant : GoodIn wsX4_servant wsX2_addServant := goodIn_r _ [20, 21, 22, 23, 24, 36, 37, 38, 39, 40, 41, 42, 43, 44] rfl (by decide +kernel)
set_option maxRecDepth 20000 in
theorem gX4_servant_X2_addServant : GoodIn wsX4_servant (wsV RX4 58 RX2 yX2_addServant wsX2_addServant) := goodIn_app (goodIn_r _ [16, 17, 18, 19] rfl (by decide +kernel)) ggX4_servant_X2_addServant
theorem dX4_servant_0 : decode cX4_servant 0 = .ok (.iload_n 1, 1) := by decide +kernel
theorem dX4_servant_1 : decode cX4_servant 1 = .ok (.invokestatic 46, 3) := by decide +kernel
theorem dX4_servant_4 : decode cX4_servant 4 = .ok (.ifCond .eq 23, 3) := by decide +kernel
theorem dX4_servant_7 : decode cX4_servant 7 = .ok (.iload_n 2, 1) := by decide +kernel
theorem dX4_servant_8 : decode cX4_servant 8 = .ok (.iconst 1, 1) := by decide +kernel
theorem dX4_servant_9 : decode cX4_servant 9 = .ok (.bipush 9, 2) := by decide +kernel
theorem dX4_servant_11 : decode cX4_servant 11 = .ok (.invokestatic 50, 3) := by decide +kernel
theorem dX4_servant_14 : decode cX4_servant 14 = .ok (.ifCond .eq 13, 3) := by decide +kernel
theorem dX4_servant_17 : decode cX4_servant 17 = .ok (.iload_n 3, 1) := by decide +kernel
theorem dX4_servant_18 : decode cX4_servant 18 = .ok (.iconst 1, 1) := by decide +kernel
theorem dX4_servant_19 : decode cX4_servant 19 = .ok (.bipush 60, 2) := by decide +kernel
theorem dX4_servant_21 : decode cX4_servant 21 = .ok (.invokestatic 50, 3) := by decide +kernel
theorem dX4_servant_24 : decode cX4_servant 24 = .ok (.ifCond .ne 6, 3) := by decide +kernel
theorem dX4_servant_27 : decode cX4_servant 27 = .ok (.bipush (-2), 2) := by decide +kernel
theorem dX4_servant_29 : decode cX4_servant 29 = .ok (.ireturn, 1) := by decide +kernel
theorem dX4_servant_30 : decode cX4_servant 30 = .ok (.aload_n 0, 1) := by decide +kernel
theorem dX4_servant_31 : decode cX4_servant 31 = .ok (.getfield 38, 3) := by decide +kernel
theorem dX4_servant_34 : decode cX4_servant 34 = .ok (.invokevirtual 54, 3) := by decide +kernel
theorem dX4_servant_37 : decode cX4_servant 37 = .ok (.ifCond .eq 6, 3) := by decide +kernel
theorem dX4_servant_40 : decode cX4_servant 40 = .ok (.bipush (-3), 2) := by decide +kernel
theorem dX4_servant_42 : decode cX4_servant 42 = .ok (.ireturn, 1) := by decide +kernel
theorem dX4_servant_43 : decode cX4_servant 43 = .ok (.aload_n 0, 1) := by decide +kernel
theorem dX4_servant_44 : decode cX4_servant 44 = .ok (.getfield 12, 3) := by decide +kernel
theorem dX4_servant_47 : decode cX4_servant 47 = .ok (.iload_n 1, 1) := by decide +kernel
theorem dX4_servant_48 : decode cX4_servant 48 = .ok (.iload_n 2, 1) := by decide +kernel
theorem dX4_servant_49 : decode cX4_servant 49 = .ok (.iload_n 3, 1) := by decide +kernel
theorem dX4_servant_50 : decode cX4_servant 50 = .ok (.invokevirtual 58, 3) := by decide +kernel
theorem dX4_servant_53 : decode cX4_servant 53 = .ok (.ireturn, 1) := by decide +kernel
set_option maxRecDepth 20000 in
theorem ggX4_master_X4_isKind : GoodIn wsX4_master wsX4_isKind := goodIn_r _ [6, 7, 8, 5, 9] rfl (by decide +kernel)
set_option maxRecDepth 20000 in
theorem gX4_master_X4_isKind : GoodIn wsX4_master (va_wsS RX4 46 yX4_isKind wsX4_isKind) := goodIn_app (goodIn_r _ [3, 4, 5] rfl (by decide +kernel)) ggX4_master_X4_isKind
set_option maxRecDepth 20000 in
theorem ggX4_master_X4_isWithin : GoodIn wsX4_master wsX4_isWithin := goodIn_r _ [9] rfl (by decide +kernel)
set_option maxRecDepth 20000 in
theorem gX4_master_X4_isWithin : GoodIn wsX4_master (va_wsS RX4 50 yX4_isWithin wsX4_isWithin) := goodIn_app (goodIn_r _ [7, 8, 5] rfl (by decide +kernel)) ggX4_master_X4_isWithin
set_option maxRecDepth 20000 in
theorem ggX4_master_X3_hasBegun : GoodIn wsX4_master wsX3_hasBegun := goodIn_r _ [14, 15, 29, 30, 31, 32, 33, 34] rfl (by decide +kernel)
set_option maxRecDepth 20000 in
theorem gX4_master_X3_hasBegun : GoodIn wsX4_master (wsV RX4 54 RX3 yX3_hasBegun wsX3_hasBegun) := goodIn_app (goodIn_r _ [10, 11, 12, 13] rfl (by decide +kernel)) ggX4_master_X3_hasBegun
set_option maxRecDepth 20000 in
theorem ggX4_master_X2_addMaster : GoodIn wsX4_master wsX2_addMaster := goodIn_r _ [20, 21, 22, 23, 35, 36, 37, 38, 39, 40, 41, 42, 43] rfl (by decide +kernel)
set_option maxRecDepth 20000 in
theorem gX4_master_X2_addMaster : GoodIn wsX4_master (wsV RX4 62 RX2 yX2_addMaster wsX2_addMaster) := goodIn_app (goodIn_r _ [16, 17, 18, 19] rfl (by decide +kernel)) ggX4_master_X2_addMaster
theorem dX4_master_0 : decode cX4_master 0 = .ok (.iload_n 1, 1) := by decide +kernel
theorem dX4_master_1 : decode cX4_master 1 = .ok (.invokestatic 46, 3) := by decide +kernel
theorem dX4_master_4 : decode cX4_master 4 = .ok (.ifCond .eq 13, 3) := by decide +kernel
theorem dX4_master_7 : decode cX4_master 7 = .ok (.iload_n 2, 1) := by decide +kernel
theorem dX4_master_8 : decode cX4_master 8 = .ok (.iconst 1, 1) := by decide +kernel
theorem dX4_master_9 : decode cX4_master 9 = .ok (.bipush 90, 2) := by decide +kernel
theorem dX4_master_11 : decode cX4_master 11 = .ok (.invokestatic 50, 3) := by decide +kernel
theorem dX4_master_14 : decode cX4_master 14 = .ok (.ifCond .ne 6, 3) := by decide +kernel
theorem dX4_master_17 : decode cX4_master 17 = .ok (.bipush (-2), 2) := by decide +kernel
theorem dX4_master_19 : decode cX4_master 19 = .ok (.ireturn, 1) := by decide +kernel
theorem dX4_master_20 : decode cX4_master 20 = .ok (.aload_n 0, 1) := by decide +kernel
theorem dX4_master_21 : decode cX4_master 21 = .ok (.getfield 38, 3) := by decide +kernel
theorem dX4_master_24 : decode cX4_master 24 = .ok (.invokevirtual 54, 3) := by decide +kernel
theorem dX4_master_27 : decode cX4_master 27 = .ok (.ifCond .eq 6, 3) := by decide +kernel
theorem dX4_master_30 : decode cX4_master 30 = .ok (.bipush (-3), 2) := by decide +kernel
theorem dX4_master_32 : decode cX4_master 32 = .ok (.ireturn, 1) := by decide +kernel
theorem dX4_master_33 : decode cX4_master 33 = .ok (.aload_n 0, 1) := by decide +kernel
theorem dX4_master_34 : decode cX4_master 34 = .ok (.getfield 12, 3) := by decide +kernel
theorem dX4_master_37 : decode cX4_master 37 = .ok (.iload_n 1, 1) := by decide +kernel
theorem dX4_master_38 : decode cX4_master 38 = .ok (.iload_n 2, 1) := by decide +kernel
theorem dX4_master_39 : decode cX4_master 39 = .ok (.invokevirtual 62, 3) := by decide +kernel
theorem dX4_master_42 : decode cX4_master 42 = .ok (.ireturn, 1) := by decide +kernel
set_option maxRecDepth 20000 in
theorem ggX4_bar_X2_hasBoth : GoodIn wsX4_bar wsX2_hasBoth := goodIn_r _ [6, 7, 8, 9, 5, 10, 11, 12, 13, 14, 15, 16, 31, 32, 33, 34, 35, 36, 37, 38, 39] rfl (by decide +kernel)
set_option maxRecDepth 20000 in
theorem gX4_bar_X2_hasBoth : GoodIn wsX4_bar (wsV RX4 66 RX2 yX2_hasBoth wsX2_hasBoth) := goodIn_app (goodIn_r _ [2, 3, 4, 5] rfl (by decide +kernel)) ggX4_bar_X2_hasBoth
set_option maxRecDepth 20000 in
theorem ggX4_bar_X2_isBarred : GoodIn wsX4_bar wsX2_isBarred := goodIn_r _ [20, 21, 31, 32, 33, 34, 35, 36, 37, 38, 39] rfl (by decide +kernel)
set_option maxRecDepth 20000 in
theorem gX4_bar_X2_isBarred : GoodIn wsX4_bar (wsV RX4 70 RX2 yX2_isBarred wsX2_isBarred) := goodIn_app (goodIn_r _ [17, 18, 19, 5] rfl (by decide +kernel)) ggX4_bar_X2_isBarred
set_option maxRecDepth 20000 in
theorem ggX4_bar_X2_setBar : GoodIn wsX4_bar wsX2_setBar := goodIn_r _ [25, 21, 31, 32, 33, 34, 35, 36, 37, 38, 39] rfl (by decide +kernel)
set_option maxRecDepth 20000 in
theorem gX4_bar_X2_setBar : GoodIn wsX4_bar (wsV RX4 73 RX2 yX2_setBar wsX2_setBar) := goodIn_app (goodIn_r _ [22, 23, 24, 5] rfl (by decide +kernel)) ggX4_bar_X2_setBar
theorem dX4_bar_0 : decode cX4_bar 0 = .ok (.aload_n 0, 1) := by decide +kernel
theorem dX4_bar_1 : decode cX4_bar 1 = .ok (.getfield 12, 3) := by decide +kernel
theorem dX4_bar_4 : decode cX4_bar 4 = .ok (.iload_n 2, 1) := by decide +kernel
theorem dX4_bar_5 : decode cX4_bar 5 = .ok (.iload_n 1, 1) := by decide +kernel
theorem dX4_bar_6 : decode cX4_bar 6 = .ok (.invokevirtual 66, 3) := by decide +kernel
theorem dX4_bar_9 : decode cX4_bar 9 = .ok (.ifCond .ne 5, 3) := by decide +kernel
theorem dX4_bar_12 : decode cX4_bar 12 = .ok (.iconst (-1), 1) := by decide +kernel
theorem dX4_bar_13 : decode cX4_bar 13 = .ok (.ireturn, 1) := by decide +kernel
theorem dX4_bar_14 : decode cX4_bar 14 = .ok (.aload_n 0, 1) := by decide +kernel
theorem dX4_bar_15 : decode cX4_bar 15 = .ok (.getfield 12, 3) := by decide +kernel
theorem dX4_bar_18 : decode cX4_bar 18 = .ok (.iload_n 2, 1) := by decide +kernel
theorem dX4_bar_19 : decode cX4_bar 19 = .ok (.iload_n 1, 1) := by decide +kernel
theorem dX4_bar_20 : decode cX4_bar 20 = .ok (.invokevirtual 70, 3) := by decide +kernel
theorem dX4_bar_23 : decode cX4_bar 23 = .ok (.ifCond .eq 7, 3) := by decide +kernel
theorem dX4_bar_26 : decode cX4_bar 26 = .ok (.iconst 1, 1) := by decide +kernel
theorem dX4_bar_27 : decode cX4_bar 27 = .ok (.goto 4, 3) := by decide +kernel
theorem dX4_bar_30 : decode cX4_bar 30 = .ok (.iconst 0, 1) := by decide +kernel
theorem dX4_bar_31 : decode cX4_bar 31 = .ok (.istore 4, 2) := by decide +kernel
theorem dX4_bar_33 : decode cX4_bar 33 = .ok (.aload_n 0, 1) := by decide +kernel
theorem dX4_bar_34 : decode cX4_bar 34 = .ok (.getfield 12, 3) := by decide +kernel
theorem dX4_bar_37 : decode cX4_bar 37 = .ok (.iload_n 2, 1) := by decide +kernel
theorem dX4_bar_38 : decode cX4_bar 38 = .ok (.iload_n 1, 1) := by decide +kernel
theorem dX4_bar_39 : decode cX4_bar 39 = .ok (.iload_n 3, 1) := by decide +kernel
theorem dX4_bar_40 : decode cX4_bar 40 = .ok (.invokevirtual 73, 3) := by decide +kernel
theorem dX4_bar_43 : decode cX4_bar 43 = .ok (.iload 4, 2) := by decide +kernel
theorem dX4_bar_45 : decode cX4_bar 45 = .ok (.ireturn, 1) := by decide +kernel
set_option maxRecDepth 20000 in
theorem ggX4_hear_X2_hasBoth : GoodIn wsX4_hear wsX2_hasBoth := goodIn_r _ [6, 7, 8, 9, 5, 10, 11, 12, 13, 14, 15, 16, 35, 36, 37, 38, 39, 40, 41, 42, 43] rfl (by decide +kernel)
set_option maxRecDepth 20000 in
theorem gX4_hear_X2_hasBoth : GoodIn wsX4_hear (wsV RX4 66 RX2 yX2_hasBoth wsX2_hasBoth) := goodIn_app (goodIn_r _ [2, 3, 4, 5] rfl (by decide +kernel)) ggX4_hear_X2_hasBoth
set_option maxRecDepth 20000 in
theorem ggX4_hear_X4_isWithin : GoodIn wsX4_hear wsX4_isWithin := goodIn_r _ [20] rfl (by decide +kernel)
set_option maxRecDepth 20000 in
theorem gX4_hear_X4_isWithin : GoodIn wsX4_hear (va_wsS RX4 50 yX4_isWithin wsX4_isWithin) := goodIn_app (goodIn_r _ [17, 18, 19] rfl (by decide +kernel)) ggX4_hear_X4_isWithin
set_option maxRecDepth 20000 in
theorem ggX4_hear_X2_heldFor : GoodIn wsX4_hear wsX2_heldFor := goodIn_r _ [24, 25, 35, 36, 37, 38, 39, 40, 41, 42, 43] rfl (by decide +kernel)
set_option maxRecDepth 20000 in
theorem gX4_hear_X2_heldFor : GoodIn wsX4_hear (wsV RX4 77 RX2 yX2_heldFor wsX2_heldFor) := goodIn_app (goodIn_r _ [21, 22, 23, 5] rfl (by decide +kernel)) ggX4_hear_X2_heldFor
set_option maxRecDepth 20000 in
theorem ggX4_hear_X2_tell : GoodIn wsX4_hear wsX2_tell := goodIn_r _ [29, 25, 35, 36, 37, 38, 39, 40, 41, 42, 43] rfl (by decide +kernel)
set_option maxRecDepth 20000 in
theorem gX4_hear_X2_tell : GoodIn wsX4_hear (wsV RX4 80 RX2 yX2_tell wsX2_tell) := goodIn_app (goodIn_r _ [26, 27, 28, 5] rfl (by decide +kernel)) ggX4_hear_X2_tell
theorem dX4_hear_0 : decode cX4_hear 0 = .ok (.aload_n 0, 1) := by decide +kernel
theorem dX4_hear_1 : decode cX4_hear 1 = .ok (.getfield 12, 3) := by decide +kernel
theorem dX4_hear_4 : decode cX4_hear 4 = .ok (.iload_n 1, 1) := by decide +kernel
theorem dX4_hear_5 : decode cX4_hear 5 = .ok (.iload_n 2, 1) := by decide +kernel
theorem dX4_hear_6 : decode cX4_hear 6 = .ok (.invokevirtual 66, 3) := by decide +kernel
theorem dX4_hear_9 : decode cX4_hear 9 = .ok (.ifCond .ne 5, 3) := by decide +kernel
theorem dX4_hear_12 : decode cX4_hear 12 = .ok (.iconst (-1), 1) := by decide +kernel
theorem dX4_hear_13 : decode cX4_hear 13 = .ok (.ireturn, 1) := by decide +kernel
theorem dX4_hear_14 : decode cX4_hear 14 = .ok (.iload_n 3, 1) := by decide +kernel
theorem dX4_hear_15 : decode cX4_hear 15 = .ok (.iconst 1, 1) := by decide +kernel
theorem dX4_hear_16 : decode cX4_hear 16 = .ok (.bipush 9, 2) := by decide +kernel
theorem dX4_hear_18 : decode cX4_hear 18 = .ok (.invokestatic 50, 3) := by decide +kernel
theorem dX4_hear_21 : decode cX4_hear 21 = .ok (.ifCond .ne 6, 3) := by decide +kernel
theorem dX4_hear_24 : decode cX4_hear 24 = .ok (.bipush (-2), 2) := by decide +kernel
theorem dX4_hear_26 : decode cX4_hear 26 = .ok (.ireturn, 1) := by decide +kernel
theorem dX4_hear_27 : decode cX4_hear 27 = .ok (.aload_n 0, 1) := by decide +kernel
theorem dX4_hear_28 : decode cX4_hear 28 = .ok (.getfield 12, 3) := by decide +kernel
theorem dX4_hear_31 : decode cX4_hear 31 = .ok (.iload_n 1, 1) := by decide +kernel
theorem dX4_hear_32 : decode cX4_hear 32 = .ok (.iload_n 2, 1) := by decide +kernel
theorem dX4_hear_33 : decode cX4_hear 33 = .ok (.invokevirtual 77, 3) := by decide +kernel
theorem dX4_hear_36 : decode cX4_hear 36 = .ok (.istore 4, 2) := by decide +kernel
theorem dX4_hear_38 : decode cX4_hear 38 = .ok (.aload_n 0, 1) := by decide +kernel
theorem dX4_hear_39 : decode cX4_hear 39 = .ok (.getfield 12, 3) := by decide +kernel
theorem dX4_hear_42 : decode cX4_hear 42 = .ok (.iload_n 1, 1) := by decide +kernel
theorem dX4_hear_43 : decode cX4_hear 43 = .ok (.iload_n 2, 1) := by decide +kernel
theorem dX4_hear_44 : decode cX4_hear 44 = .ok (.iload_n 3, 1) := by decide +kernel
theorem dX4_hear_45 : decode cX4_hear 45 = .ok (.invokevirtual 80, 3) := by decide +kernel
theorem dX4_hear_48 : decode cX4_hear 48 = .ok (.iload 4, 2) := by decide +kernel
theorem dX4_hear_50 : decode cX4_hear 50 = .ok (.ireturn, 1) := by decide +kernel
set_option maxRecDepth 20000 in
theorem ggX4_pass_X2_hasBoth : GoodIn wsX4_pass wsX2_hasBoth := goodIn_r _ [6, 7, 8, 9, 5, 10, 11, 12, 13, 14, 15, 16, 36, 37, 38, 39, 40, 41, 42, 43, 44] rfl (by decide +kernel)
set_option maxRecDepth 20000 in
theorem gX4_pass_X2_hasBoth : GoodIn wsX4_pass (wsV RX4 66 RX2 yX2_hasBoth wsX2_hasBoth) := goodIn_app (goodIn_r _ [2, 3, 4, 5] rfl (by decide +kernel)) ggX4_pass_X2_hasBoth
set_option maxRecDepth 20000 in
theorem ggX4_pass_X2_hasMaster : GoodIn wsX4_pass wsX2_hasMaster := goodIn_r _ [10, 11, 36, 37, 38, 39, 40, 41, 42, 43, 44] rfl (by decide +kernel)
set_option maxRecDepth 20000 in
theorem gX4_pass_X2_hasMaster : GoodIn wsX4_pass (wsV RX4 84 RX2 yX2_hasMaster wsX2_hasMaster) := goodIn_app (goodIn_r _ [17, 8, 9, 5] rfl (by decide +kernel)) ggX4_pass_X2_hasMaster
set_option maxRecDepth 20000 in
theorem ggX4_pass_X2_hasHeard : GoodIn wsX4_pass wsX2_hasHeard := goodIn_r _ [21, 22, 36, 37, 38, 39, 40, 41, 42, 43, 44] rfl (by decide +kernel)
set_option maxRecDepth 20000 in
theorem gX4_pass_X2_hasHeard : GoodIn wsX4_pass (wsV RX4 87 RX2 yX2_hasHeard wsX2_hasHeard) := goodIn_app (goodIn_r _ [18, 19, 20, 5] rfl (by decide +kernel)) ggX4_pass_X2_hasHeard
set_option maxRecDepth 20000 in
theorem ggX4_pass_X2_heldFor : GoodIn wsX4_pass wsX2_heldFor := goodIn_r _ [26, 22, 36, 37, 38, 39, 40, 41, 42, 43, 44] rfl (by decide +kernel)
set_option maxRecDepth 20000 in
theorem gX4_pass_X2_heldFor : GoodIn wsX4_pass (wsV RX4 77 RX2 yX2_heldFor wsX2_heldFor) := goodIn_app (goodIn_r _ [23, 24, 25, 5] rfl (by decide +kernel)) ggX4_pass_X2_heldFor
set_option maxRecDepth 20000 in
theorem ggX4_pass_X2_tell : GoodIn wsX4_pass wsX2_tell := goodIn_r _ [30, 22, 36, 37, 38, 39, 40, 41, 42, 43, 44] rfl (by decide +kernel)
set_option maxRecDepth 20000 in
theorem gX4_pass_X2_tell : GoodIn wsX4_pass (wsV RX4 80 RX2 yX2_tell wsX2_tell) := goodIn_app (goodIn_r _ [27, 28, 29, 5] rfl (by decide +kernel)) ggX4_pass_X2_tell
theorem dX4_pass_0 : decode cX4_pass 0 = .ok (.aload_n 0, 1) := by decide +kernel
theorem dX4_pass_1 : decode cX4_pass 1 = .ok (.getfield 12, 3) := by decide +kernel
theorem dX4_pass_4 : decode cX4_pass 4 = .ok (.iload_n 1, 1) := by decide +kernel
theorem dX4_pass_5 : decode cX4_pass 5 = .ok (.iload_n 3, 1) := by decide +kernel
theorem dX4_pass_6 : decode cX4_pass 6 = .ok (.invokevirtual 66, 3) := by decide +kernel
theorem dX4_pass_9 : decode cX4_pass 9 = .ok (.ifCond .eq 14, 3) := by decide +kernel
theorem dX4_pass_12 : decode cX4_pass 12 = .ok (.aload_n 0, 1) := by decide +kernel
theorem dX4_pass_13 : decode cX4_pass 13 = .ok (.getfield 12, 3) := by decide +kernel
theorem dX4_pass_16 : decode cX4_pass 16 = .ok (.iload_n 2, 1) := by decide +kernel
theorem dX4_pass_17 : decode cX4_pass 17 = .ok (.invokevirtual 84, 3) := by decide +kernel
theorem dX4_pass_20 : decode cX4_pass 20 = .ok (.ifCond .ne 5, 3) := by decide +kernel
theorem dX4_pass_23 : decode cX4_pass 23 = .ok (.iconst (-1), 1) := by decide +kernel
theorem dX4_pass_24 : decode cX4_pass 24 = .ok (.ireturn, 1) := by decide +kernel
theorem dX4_pass_25 : decode cX4_pass 25 = .ok (.iload_n 1, 1) := by decide +kernel
theorem dX4_pass_26 : decode cX4_pass 26 = .ok (.iload_n 2, 1) := by decide +kernel
theorem dX4_pass_27 : decode cX4_pass 27 = .ok (.if_icmp .eq 15, 3) := by decide +kernel
theorem dX4_pass_30 : decode cX4_pass 30 = .ok (.aload_n 0, 1) := by decide +kernel
theorem dX4_pass_31 : decode cX4_pass 31 = .ok (.getfield 12, 3) := by decide +kernel
theorem dX4_pass_34 : decode cX4_pass 34 = .ok (.iload_n 1, 1) := by decide +kernel
theorem dX4_pass_35 : decode cX4_pass 35 = .ok (.iload_n 3, 1) := by decide +kernel
theorem dX4_pass_36 : decode cX4_pass 36 = .ok (.invokevirtual 87, 3) := by decide +kernel
theorem dX4_pass_39 : decode cX4_pass 39 = .ok (.ifCond .ne 6, 3) := by decide +kernel
theorem dX4_pass_42 : decode cX4_pass 42 = .ok (.bipush (-3), 2) := by decide +kernel
theorem dX4_pass_44 : decode cX4_pass 44 = .ok (.ireturn, 1) := by decide +kernel
theorem dX4_pass_45 : decode cX4_pass 45 = .ok (.aload_n 0, 1) := by decide +kernel
theorem dX4_pass_46 : decode cX4_pass 46 = .ok (.getfield 12, 3) := by decide +kernel
theorem dX4_pass_49 : decode cX4_pass 49 = .ok (.iload_n 1, 1) := by decide +kernel
theorem dX4_pass_50 : decode cX4_pass 50 = .ok (.iload_n 3, 1) := by decide +kernel
theorem dX4_pass_51 : decode cX4_pass 51 = .ok (.invokevirtual 77, 3) := by decide +kernel
theorem dX4_pass_54 : decode cX4_pass 54 = .ok (.istore 4, 2) := by decide +kernel
theorem dX4_pass_56 : decode cX4_pass 56 = .ok (.aload_n 0, 1) := by decide +kernel
theorem dX4_pass_57 : decode cX4_pass 57 = .ok (.getfield 12, 3) := by decide +kernel
theorem dX4_pass_60 : decode cX4_pass 60 = .ok (.iload_n 2, 1) := by decide +kernel
theorem dX4_pass_61 : decode cX4_pass 61 = .ok (.iload_n 3, 1) := by decide +kernel
theorem dX4_pass_62 : decode cX4_pass 62 = .ok (.iload 4, 2) := by decide +kernel
theorem dX4_pass_64 : decode cX4_pass 64 = .ok (.invokevirtual 80, 3) := by decide +kernel
theorem dX4_pass_67 : decode cX4_pass 67 = .ok (.iload 4, 2) := by decide +kernel
theorem dX4_pass_69 : decode cX4_pass 69 = .ok (.ireturn, 1) := by decide +kernel
set_option maxRecDepth 20000 in
theorem ggX4_about_X2_hasServant : GoodIn wsX4_about wsX2_hasServant := goodIn_r _ [14, 15, 39, 40, 41, 42, 43, 44, 45, 46, 47] rfl (by decide +kernel)
set_option maxRecDepth 20000 in
theorem gX4_about_X2_hasServant : GoodIn wsX4_about (wsV RX4 90 RX2 yX2_hasServant wsX2_hasServant) := goodIn_app (goodIn_r _ [10, 11, 12, 13] rfl (by decide +kernel)) ggX4_about_X2_hasServant
set_option maxRecDepth 20000 in
theorem ggX4_about_X3_endOf : GoodIn wsX4_about wsX3_endOf := goodIn_r _ [20, 21, 22, 23, 24, 25, 19, 26, 27, 28, 29, 30, 31, 32, 33, 56, 57, 58, 59, 60, 61, 48, 49, 50, 51, 52, 53, 54, 55] rfl (by decide +kernel)
set_option maxRecDepth 20000 in
theorem gX4_about_X3_endOf : GoodIn wsX4_about (wsV RX4 112 RX3 yX3_endOf wsX3_endOf) := goodIn_app (goodIn_r _ [16, 17, 18, 19] rfl (by decide +kernel)) ggX4_about_X3_endOf
theorem dX4_about_0 : decode cX4_about 0 = .ok (.aload_n 0, 1) := by decide +kernel
theorem dX4_about_1 : decode cX4_about 1 = .ok (.getfield 12, 3) := by decide +kernel
theorem dX4_about_4 : decode cX4_about 4 = .ok (.iload_n 1, 1) := by decide +kernel
theorem dX4_about_5 : decode cX4_about 5 = .ok (.invokevirtual 90, 3) := by decide +kernel
theorem dX4_about_8 : decode cX4_about 8 = .ok (.ifCond .ne 5, 3) := by decide +kernel
theorem dX4_about_11 : decode cX4_about 11 = .ok (.iconst (-1), 1) := by decide +kernel
theorem dX4_about_12 : decode cX4_about 12 = .ok (.ireturn, 1) := by decide +kernel
theorem dX4_about_13 : decode cX4_about 13 = .ok (.iload_n 2, 1) := by decide +kernel
theorem dX4_about_14 : decode cX4_about 14 = .ok (.tableswitch 111 0 6 #[42, 52, 62, 72, 82, 92, 102], 42) := by decide +kernel
theorem dX4_about_56 : decode cX4_about 56 = .ok (.aload_n 0, 1) := by decide +kernel
theorem dX4_about_57 : decode cX4_about 57 = .ok (.getfield 12, 3) := by decide +kernel
theorem dX4_about_60 : decode cX4_about 60 = .ok (.getfield 93, 3) := by decide +kernel
theorem dX4_about_63 : decode cX4_about 63 = .ok (.iload_n 1, 1) := by decide +kernel
theorem dX4_about_64 : decode cX4_about 64 = .ok (.iaload, 1) := by decide +kernel
theorem dX4_about_65 : decode cX4_about 65 = .ok (.ireturn, 1) := by decide +kernel
theorem dX4_about_66 : decode cX4_about 66 = .ok (.aload_n 0, 1) := by decide +kernel
theorem dX4_about_67 : decode cX4_about 67 = .ok (.getfield 12, 3) := by decide +kernel
theorem dX4_about_70 : decode cX4_about 70 = .ok (.getfield 97, 3) := by decide +kernel
theorem dX4_about_73 : decode cX4_about 73 = .ok (.iload_n 1, 1) := by decide +kernel
theorem dX4_about_74 : decode cX4_about 74 = .ok (.iaload, 1) := by decide +kernel
theorem dX4_about_75 : decode cX4_about 75 = .ok (.ireturn, 1) := by decide +kernel
theorem dX4_about_76 : decode cX4_about 76 = .ok (.aload_n 0, 1) := by decide +kernel
theorem dX4_about_77 : decode cX4_about 77 = .ok (.getfield 12, 3) := by decide +kernel
theorem dX4_about_80 : decode cX4_about 80 = .ok (.getfield 100, 3) := by decide +kernel
theorem dX4_about_83 : decode cX4_about 83 = .ok (.iload_n 1, 1) := by decide +kernel
theorem dX4_about_84 : decode cX4_about 84 = .ok (.iaload, 1) := by decide +kernel
theorem dX4_about_85 : decode cX4_about 85 = .ok (.ireturn, 1) := by decide +kernel
theorem dX4_about_86 : decode cX4_about 86 = .ok (.aload_n 0, 1) := by decide +kernel
theorem dX4_about_87 : decode cX4_about 87 = .ok (.getfield 26, 3) := by decide +kernel
theorem dX4_about_90 : decode cX4_about 90 = .ok (.getfield 103, 3) := by decide +kernel
theorem dX4_about_93 : decode cX4_about 93 = .ok (.iload_n 1, 1) := by decide +kernel
theorem dX4_about_94 : decode cX4_about 94 = .ok (.iaload, 1) := by decide +kernel
theorem dX4_about_95 : decode cX4_about 95 = .ok (.ireturn, 1) := by decide +kernel
theorem dX4_about_96 : decode cX4_about 96 = .ok (.aload_n 0, 1) := by decide +kernel
theorem dX4_about_97 : decode cX4_about 97 = .ok (.getfield 26, 3) := by decide +kernel
theorem dX4_about_100 : decode cX4_about 100 = .ok (.getfield 106, 3) := by decide +kernel
theorem dX4_about_103 : decode cX4_about 103 = .ok (.iload_n 1, 1) := by decide +kernel
theorem dX4_about_104 : decode cX4_about 104 = .ok (.iaload, 1) := by decide +kernel
theorem dX4_about_105 : decode cX4_about 105 = .ok (.ireturn, 1) := by decide +kernel
theorem dX4_about_106 : decode cX4_about 106 = .ok (.aload_n 0, 1) := by decide +kernel
theorem dX4_about_107 : decode cX4_about 107 = .ok (.getfield 26, 3) := by decide +kernel
theorem dX4_about_110 : decode cX4_about 110 = .ok (.getfield 109, 3) := by decide +kernel
theorem dX4_about_113 : decode cX4_about 113 = .ok (.iload_n 1, 1) := by decide +kernel
theorem dX4_about_114 : decode cX4_about 114 = .ok (.iaload, 1) := by decide +kernel
theorem dX4_about_115 : decode cX4_about 115 = .ok (.ireturn, 1) := by decide +kernel
theorem dX4_about_116 : decode cX4_about 116 = .ok (.aload_n 0, 1) := by decide +kernel
theorem dX4_about_117 : decode cX4_about 117 = .ok (.getfield 38, 3) := by decide +kernel
theorem dX4_about_120 : decode cX4_about 120 = .ok (.iload_n 1, 1) := by decide +kernel
theorem dX4_about_121 : decode cX4_about 121 = .ok (.invokevirtual 112, 3) := by decide +kernel
theorem dX4_about_124 : decode cX4_about 124 = .ok (.ireturn, 1) := by decide +kernel
theorem dX4_about_125 : decode cX4_about 125 = .ok (.bipush (-2), 2) := by decide +kernel
theorem dX4_about_127 : decode cX4_about 127 = .ok (.ireturn, 1) := by decide +kernel
set_option maxRecDepth 20000 in
theorem ggX4_house_X2_hasMaster : GoodIn wsX4_house wsX2_hasMaster := goodIn_r _ [10, 11, 30, 31, 32, 33, 34, 35, 36, 37, 38] rfl (by decide +kernel)
set_option maxRecDepth 20000 in
theorem gX4_house_X2_hasMaster : GoodIn wsX4_house (wsV RX4 84 RX2 yX2_hasMaster wsX2_hasMaster) := goodIn_app (goodIn_r _ [6, 7, 8, 9] rfl (by decide +kernel)) ggX4_house_X2_hasMaster
set_option maxRecDepth 20000 in
theorem ggX4_house_X0_countAsked : GoodIn wsX4_house wsX0_countAsked := goodIn_r _ [16, 17, 18, 19, 20, 21, 22, 23, 24, 39, 40, 41, 42, 43, 44, 45, 46] rfl (by decide +kernel)
set_option maxRecDepth 20000 in
theorem gX4_house_X0_countAsked : GoodIn wsX4_house (wsV RX4 125 RX0 yX0_countAsked wsX0_countAsked) := goodIn_app (goodIn_r _ [12, 13, 14, 15] rfl (by decide +kernel)) ggX4_house_X0_countAsked
theorem dX4_house_0 : decode cX4_house 0 = .ok (.aload_n 0, 1) := by decide +kernel
theorem dX4_house_1 : decode cX4_house 1 = .ok (.getfield 12, 3) := by decide +kernel
theorem dX4_house_4 : decode cX4_house 4 = .ok (.iload_n 1, 1) := by decide +kernel
theorem dX4_house_5 : decode cX4_house 5 = .ok (.invokevirtual 84, 3) := by decide +kernel
theorem dX4_house_8 : decode cX4_house 8 = .ok (.ifCond .ne 5, 3) := by decide +kernel
theorem dX4_house_11 : decode cX4_house 11 = .ok (.iconst (-1), 1) := by decide +kernel
theorem dX4_house_12 : decode cX4_house 12 = .ok (.ireturn, 1) := by decide +kernel
theorem dX4_house_13 : decode cX4_house 13 = .ok (.iload_n 2, 1) := by decide +kernel
theorem dX4_house_14 : decode cX4_house 14 = .ok (.tableswitch 69 0 3 #[30, 40, 50, 60], 30) := by decide +kernel
theorem dX4_house_44 : decode cX4_house 44 = .ok (.aload_n 0, 1) := by decide +kernel
theorem dX4_house_45 : decode cX4_house 45 = .ok (.getfield 12, 3) := by decide +kernel
theorem dX4_house_48 : decode cX4_house 48 = .ok (.getfield 116, 3) := by decide +kernel
theorem dX4_house_51 : decode cX4_house 51 = .ok (.iload_n 1, 1) := by decide +kernel
theorem dX4_house_52 : decode cX4_house 52 = .ok (.iaload, 1) := by decide +kernel
theorem dX4_house_53 : decode cX4_house 53 = .ok (.ireturn, 1) := by decide +kernel
theorem dX4_house_54 : decode cX4_house 54 = .ok (.aload_n 0, 1) := by decide +kernel
theorem dX4_house_55 : decode cX4_house 55 = .ok (.getfield 12, 3) := by decide +kernel
theorem dX4_house_58 : decode cX4_house 58 = .ok (.getfield 119, 3) := by decide +kernel
theorem dX4_house_61 : decode cX4_house 61 = .ok (.iload_n 1, 1) := by decide +kernel
theorem dX4_house_62 : decode cX4_house 62 = .ok (.iaload, 1) := by decide +kernel
theorem dX4_house_63 : decode cX4_house 63 = .ok (.ireturn, 1) := by decide +kernel
theorem dX4_house_64 : decode cX4_house 64 = .ok (.aload_n 0, 1) := by decide +kernel
theorem dX4_house_65 : decode cX4_house 65 = .ok (.getfield 26, 3) := by decide +kernel
theorem dX4_house_68 : decode cX4_house 68 = .ok (.getfield 122, 3) := by decide +kernel
theorem dX4_house_71 : decode cX4_house 71 = .ok (.iload_n 1, 1) := by decide +kernel
theorem dX4_house_72 : decode cX4_house 72 = .ok (.iaload, 1) := by decide +kernel
theorem dX4_house_73 : decode cX4_house 73 = .ok (.ireturn, 1) := by decide +kernel
theorem dX4_house_74 : decode cX4_house 74 = .ok (.aload_n 0, 1) := by decide +kernel
theorem dX4_house_75 : decode cX4_house 75 = .ok (.getfield 26, 3) := by decide +kernel
theorem dX4_house_78 : decode cX4_house 78 = .ok (.iload_n 1, 1) := by decide +kernel
theorem dX4_house_79 : decode cX4_house 79 = .ok (.invokevirtual 125, 3) := by decide +kernel
theorem dX4_house_82 : decode cX4_house 82 = .ok (.ireturn, 1) := by decide +kernel
theorem dX4_house_83 : decode cX4_house 83 = .ok (.bipush (-2), 2) := by decide +kernel
theorem dX4_house_85 : decode cX4_house 85 = .ok (.ireturn, 1) := by decide +kernel
set_option maxRecDepth 20000 in
theorem ggX4_holds_X2_hasBoth : GoodIn wsX4_holds wsX2_hasBoth := goodIn_r _ [6, 7, 8, 9, 5, 10, 11, 12, 13, 14, 15, 16, 27, 28, 29, 30, 31, 32, 33, 34, 35] rfl (by decide +kernel)
set_option maxRecDepth 20000 in
theorem gX4_holds_X2_hasBoth : GoodIn wsX4_holds (wsV RX4 66 RX2 yX2_hasBoth wsX2_hasBoth) := goodIn_app (goodIn_r _ [2, 3, 4, 5] rfl (by decide +kernel)) ggX4_holds_X2_hasBoth
set_option maxRecDepth 20000 in
theorem ggX4_holds_X2_heldFor : GoodIn wsX4_holds wsX2_heldFor := goodIn_r _ [20, 21, 27, 28, 29, 30, 31, 32, 33, 34, 35] rfl (by decide +kernel)
set_option maxRecDepth 20000 in
theorem gX4_holds_X2_heldFor : GoodIn wsX4_holds (wsV RX4 77 RX2 yX2_heldFor wsX2_heldFor) := goodIn_app (goodIn_r _ [17, 18, 19, 5] rfl (by decide +kernel)) ggX4_holds_X2_heldFor
theorem dX4_holds_0 : decode cX4_holds 0 = .ok (.aload_n 0, 1) := by decide +kernel
theorem dX4_holds_1 : decode cX4_holds 1 = .ok (.getfield 12, 3) := by decide +kernel
theorem dX4_holds_4 : decode cX4_holds 4 = .ok (.iload_n 1, 1) := by decide +kernel
theorem dX4_holds_5 : decode cX4_holds 5 = .ok (.iload_n 2, 1) := by decide +kernel
theorem dX4_holds_6 : decode cX4_holds 6 = .ok (.invokevirtual 66, 3) := by decide +kernel
theorem dX4_holds_9 : decode cX4_holds 9 = .ok (.ifCond .eq 15, 3) := by decide +kernel
theorem dX4_holds_12 : decode cX4_holds 12 = .ok (.aload_n 0, 1) := by decide +kernel
theorem dX4_holds_13 : decode cX4_holds 13 = .ok (.getfield 12, 3) := by decide +kernel
theorem dX4_holds_16 : decode cX4_holds 16 = .ok (.iload_n 1, 1) := by decide +kernel
theorem dX4_holds_17 : decode cX4_holds 17 = .ok (.iload_n 2, 1) := by decide +kernel
theorem dX4_holds_18 : decode cX4_holds 18 = .ok (.invokevirtual 77, 3) := by decide +kernel
theorem dX4_holds_21 : decode cX4_holds 21 = .ok (.goto 4, 3) := by decide +kernel
theorem dX4_holds_24 : decode cX4_holds 24 = .ok (.iconst (-1), 1) := by decide +kernel
theorem dX4_holds_25 : decode cX4_holds 25 = .ok (.ireturn, 1) := by decide +kernel
set_option maxRecDepth 20000 in
theorem ggX4_offer_X2_hasBoth : GoodIn wsX4_offer wsX2_hasBoth := goodIn_r _ [6, 7, 8, 9, 5, 10, 11, 12, 13, 14, 15, 16, 40, 41, 42, 43, 44, 45, 46, 47, 48] rfl (by decide +kernel)
set_option maxRecDepth 20000 in
theorem gX4_offer_X2_hasBoth : GoodIn wsX4_offer (wsV RX4 66 RX2 yX2_hasBoth wsX2_hasBoth) := goodIn_app (goodIn_r _ [2, 3, 4, 5] rfl (by decide +kernel)) ggX4_offer_X2_hasBoth
set_option maxRecDepth 20000 in
theorem ggX4_offer_X2_offerTo : GoodIn wsX4_offer wsX2_offerTo := goodIn_r _ [20, 21, 22, 23, 24, 25, 26, 27, 5, 28, 29, 30, 31, 32, 33, 34, 40, 41, 42, 43, 44, 45, 46, 47, 48] rfl (by decide +kernel)
set_option maxRecDepth 20000 in
theorem gX4_offer_X2_offerTo : GoodIn wsX4_offer (wsV RX4 128 RX2 yX2_offerTo wsX2_offerTo) := goodIn_app (goodIn_r _ [17, 18, 19, 5] rfl (by decide +kernel)) ggX4_offer_X2_offerTo
theorem dX4_offer_0 : decode cX4_offer 0 = .ok (.aload_n 0, 1) := by decide +kernel
theorem dX4_offer_1 : decode cX4_offer 1 = .ok (.getfield 12, 3) := by decide +kernel
theorem dX4_offer_4 : decode cX4_offer 4 = .ok (.iload_n 1, 1) := by decide +kernel
theorem dX4_offer_5 : decode cX4_offer 5 = .ok (.iload_n 2, 1) := by decide +kernel
theorem dX4_offer_6 : decode cX4_offer 6 = .ok (.invokevirtual 66, 3) := by decide +kernel
theorem dX4_offer_9 : decode cX4_offer 9 = .ok (.ifCond .eq 15, 3) := by decide +kernel
theorem dX4_offer_12 : decode cX4_offer 12 = .ok (.aload_n 0, 1) := by decide +kernel
theorem dX4_offer_13 : decode cX4_offer 13 = .ok (.getfield 12, 3) := by decide +kernel
theorem dX4_offer_16 : decode cX4_offer 16 = .ok (.iload_n 1, 1) := by decide +kernel
theorem dX4_offer_17 : decode cX4_offer 17 = .ok (.iload_n 2, 1) := by decide +kernel
theorem dX4_offer_18 : decode cX4_offer 18 = .ok (.invokevirtual 128, 3) := by decide +kernel
theorem dX4_offer_21 : decode cX4_offer 21 = .ok (.goto 4, 3) := by decide +kernel
theorem dX4_offer_24 : decode cX4_offer 24 = .ok (.iconst (-1), 1) := by decide +kernel
theorem dX4_offer_25 : decode cX4_offer 25 = .ok (.ireturn, 1) := by decide +kernel
set_option maxRecDepth 20000 in
theorem ggX4_next_X2_hasMaster : GoodIn wsX4_next wsX2_hasMaster := goodIn_r _ [7, 8, 48, 49, 50, 51, 52, 53, 54, 55, 56] rfl (by decide +kernel)
set_option maxRecDepth 20000 in
theorem gX4_next_X2_hasMaster : GoodIn wsX4_next (wsV RX4 84 RX2 yX2_hasMaster wsX2_hasMaster) := goodIn_app (goodIn_r _ [3, 4, 5, 6] rfl (by decide +kernel)) ggX4_next_X2_hasMaster
set_option maxRecDepth 20000 in
theorem ggX4_next_X0_choiceOf : GoodIn wsX4_next wsX0_choiceOf := goodIn_r _ [13, 14, 15, 16, 17, 18, 6, 19, 20, 21, 22, 23, 24, 25, 26, 27, 28, 29, 30, 31, 32, 33, 34, 35, 36, 12, 37, 38, 39, 40, 41, 42, 57, 58, 59, 60, 61, 62, 63, 64, 48, 49, 50, 51, 52, 53, 54, 55, 56] rfl (by decide +kernel)
set_option maxRecDepth 20000 in
theorem gX4_next_X0_choiceOf : GoodIn wsX4_next (wsV RX4 131 RX0 yX0_choiceOf wsX0_choiceOf) := goodIn_app (goodIn_r _ [9, 10, 11, 12] rfl (by decide +kernel)) ggX4_next_X0_choiceOf
theorem dX4_next_0 : decode cX4_next 0 = .ok (.aload_n 0, 1) := by decide +kernel
theorem dX4_next_1 : decode cX4_next 1 = .ok (.getfield 12, 3) := by decide +kernel
theorem dX4_next_4 : decode cX4_next 4 = .ok (.iload_n 1, 1) := by decide +kernel
theorem dX4_next_5 : decode cX4_next 5 = .ok (.invokevirtual 84, 3) := by decide +kernel
theorem dX4_next_8 : decode cX4_next 8 = .ok (.ifCond .eq 14, 3) := by decide +kernel
theorem dX4_next_11 : decode cX4_next 11 = .ok (.aload_n 0, 1) := by decide +kernel
theorem dX4_next_12 : decode cX4_next 12 = .ok (.getfield 26, 3) := by decide +kernel
theorem dX4_next_15 : decode cX4_next 15 = .ok (.iload_n 1, 1) := by decide +kernel
theorem dX4_next_16 : decode cX4_next 16 = .ok (.invokevirtual 131, 3) := by decide +kernel
theorem dX4_next_19 : decode cX4_next 19 = .ok (.goto 4, 3) := by decide +kernel
theorem dX4_next_22 : decode cX4_next 22 = .ok (.iconst (-1), 1) := by decide +kernel
theorem dX4_next_23 : decode cX4_next 23 = .ok (.ireturn, 1) := by decide +kernel
set_option maxRecDepth 20000 in
theorem ggX4_go_X4_isWithin : GoodIn wsX4_go wsX4_isWithin := goodIn_r _ [7] rfl (by decide +kernel)
set_option maxRecDepth 20000 in
theorem gX4_go_X4_isWithin : GoodIn wsX4_go (va_wsS RX4 50 yX4_isWithin wsX4_isWithin) := goodIn_app (goodIn_r _ [4, 5, 6] rfl (by decide +kernel)) ggX4_go_X4_isWithin
set_option maxRecDepth 20000 in
theorem ggX4_go_X3_hasBegun : GoodIn wsX4_go wsX3_hasBegun := goodIn_r _ [12, 13, 109, 110, 111, 112, 113, 114] rfl (by decide +kernel)
set_option maxRecDepth 20000 in
theorem gX4_go_X3_hasBegun : GoodIn wsX4_go (wsV RX4 54 RX3 yX3_hasBegun wsX3_hasBegun) := goodIn_app (goodIn_r _ [8, 9, 10, 11] rfl (by decide +kernel)) ggX4_go_X3_hasBegun
set_option maxRecDepth 20000 in
theorem ggX4_go_X0_goOn : GoodIn wsX4_go wsX0_goOn := goodIn_r _ [18, 19, 20, 21, 22, 23, 24, 25, 26, 17, 27, 28, 29, 30, 31, 32, 33, 34, 35, 36, 37, 38, 39, 40, 41, 42, 43, 44, 45, 46, 47, 48, 49, 50, 51, 52, 53, 54, 55, 56, 57, 58, 59, 60, 61, 62, 63, 64, 65, 66, 67, 68, 69, 70, 71, 72, 73, 74, 75, 76, 77, 78, 79, 80, 81, 82, 83, 84, 85, 86, 87, 88, 89, 90, 91, 101, 102, 103, 104, 105, 106, 107, 108, 115, 116, 117, 118, 119, 120, 121, 122, 123, 124, 125, 126] rfl (by decide +kernel)
set_option maxRecDepth 20000 in
theorem gX4_go_X0_goOn : GoodIn wsX4_go (wsV RX4 134 RX0 yX0_goOn wsX0_goOn) := goodIn_app (goodIn_r _ [14, 15, 16, 17] rfl (by decide +kernel)) ggX4_go_X0_goOn
set_option maxRecDepth 20000 in
theorem ggX4_go_X3_begin : GoodIn wsX4_go wsX3_begin := goodIn_r _ [95, 13, 109, 110, 111, 112, 113, 114] rfl (by decide +kernel)
set_option maxRecDepth 20000 in
theorem gX4_go_X3_begin : GoodIn wsX4_go (wsV RX4 141 RX3 yX3_begin wsX3_begin) := goodIn_app (goodIn_r _ [92, 93, 94, 11] rfl (by decide +kernel)) ggX4_go_X3_begin
theorem dX4_go_0 : decode cX4_go 0 = .ok (.iload_n 1, 1) := by decide +kernel
theorem dX4_go_1 : decode cX4_go 1 = .ok (.iconst 1, 1) := by decide +kernel
theorem dX4_go_2 : decode cX4_go 2 = .ok (.sipush 240, 3) := by decide +kernel
theorem dX4_go_5 : decode cX4_go 5 = .ok (.invokestatic 50, 3) := by decide +kernel
theorem dX4_go_8 : decode cX4_go 8 = .ok (.ifCond .ne 6, 3) := by decide +kernel
theorem dX4_go_11 : decode cX4_go 11 = .ok (.bipush (-2), 2) := by decide +kernel
theorem dX4_go_13 : decode cX4_go 13 = .ok (.ireturn, 1) := by decide +kernel
theorem dX4_go_14 : decode cX4_go 14 = .ok (.aload_n 0, 1) := by decide +kernel
theorem dX4_go_15 : decode cX4_go 15 = .ok (.getfield 38, 3) := by decide +kernel
theorem dX4_go_18 : decode cX4_go 18 = .ok (.invokevirtual 54, 3) := by decide +kernel
theorem dX4_go_21 : decode cX4_go 21 = .ok (.ifCond .eq 6, 3) := by decide +kernel
theorem dX4_go_24 : decode cX4_go 24 = .ok (.bipush (-3), 2) := by decide +kernel
theorem dX4_go_26 : decode cX4_go 26 = .ok (.ireturn, 1) := by decide +kernel
theorem dX4_go_27 : decode cX4_go 27 = .ok (.aload_n 0, 1) := by decide +kernel
theorem dX4_go_28 : decode cX4_go 28 = .ok (.getfield 26, 3) := by decide +kernel
theorem dX4_go_31 : decode cX4_go 31 = .ok (.iload_n 1, 1) := by decide +kernel
theorem dX4_go_32 : decode cX4_go 32 = .ok (.iconst 0, 1) := by decide +kernel
theorem dX4_go_33 : decode cX4_go 33 = .ok (.invokevirtual 134, 3) := by decide +kernel
theorem dX4_go_36 : decode cX4_go 36 = .ok (.aload_n 0, 1) := by decide +kernel
theorem dX4_go_37 : decode cX4_go 37 = .ok (.getfield 26, 3) := by decide +kernel
theorem dX4_go_40 : decode cX4_go 40 = .ok (.getfield 138, 3) := by decide +kernel
theorem dX4_go_43 : decode cX4_go 43 = .ok (.sipush 240, 3) := by decide +kernel
theorem dX4_go_46 : decode cX4_go 46 = .ok (.if_icmp .ne 10, 3) := by decide +kernel
theorem dX4_go_49 : decode cX4_go 49 = .ok (.aload_n 0, 1) := by decide +kernel
theorem dX4_go_50 : decode cX4_go 50 = .ok (.getfield 38, 3) := by decide +kernel
theorem dX4_go_53 : decode cX4_go 53 = .ok (.invokevirtual 141, 3) := by decide +kernel
theorem dX4_go_56 : decode cX4_go 56 = .ok (.aload_n 0, 1) := by decide +kernel
theorem dX4_go_57 : decode cX4_go 57 = .ok (.getfield 26, 3) := by decide +kernel
theorem dX4_go_60 : decode cX4_go 60 = .ok (.getfield 138, 3) := by decide +kernel
theorem dX4_go_63 : decode cX4_go 63 = .ok (.ireturn, 1) := by decide +kernel
theorem dX4_bargains_0 : decode cX4_bargains 0 = .ok (.aload_n 0, 1) := by decide +kernel
theorem dX4_bargains_1 : decode cX4_bargains 1 = .ok (.getfield 26, 3) := by decide +kernel
theorem dX4_bargains_4 : decode cX4_bargains 4 = .ok (.getfield 144, 3) := by decide +kernel
theorem dX4_bargains_7 : decode cX4_bargains 7 = .ok (.getfield 148, 3) := by decide +kernel
theorem dX4_bargains_10 : decode cX4_bargains 10 = .ok (.ireturn, 1) := by decide +kernel
set_option maxRecDepth 20000 in
theorem ggX4_bargain_X1_has : GoodIn wsX4_bargain wsX1_has := goodIn_r _ [7, 8, 31, 32, 33] rfl (by decide +kernel)
set_option maxRecDepth 20000 in
theorem gX4_bargain_X1_has : GoodIn wsX4_bargain (wsV RX4 151 RX1 yX1_has wsX1_has) := goodIn_app (goodIn_r _ [3, 4, 5, 6] rfl (by decide +kernel)) ggX4_bargain_X1_has
set_option maxRecDepth 20000 in
theorem ggX4_bargain_X4_isWithin : GoodIn wsX4_bargain wsX4_isWithin := goodIn_r _ [12] rfl (by decide +kernel)
set_option maxRecDepth 20000 in
theorem gX4_bargain_X4_isWithin : GoodIn wsX4_bargain (va_wsS RX4 50 yX4_isWithin wsX4_isWithin) := goodIn_app (goodIn_r _ [9, 10, 11] rfl (by decide +kernel)) ggX4_bargain_X4_isWithin
set_option maxRecDepth 20000 in
theorem ggX4_bargain_X1_read : GoodIn wsX4_bargain wsX1_read := goodIn_r _ [16, 17, 31, 32, 33] rfl (by decide +kernel)
set_option maxRecDepth 20000 in
theorem gX4_bargain_X1_read : GoodIn wsX4_bargain (wsV RX4 154 RX1 yX1_read wsX1_read) := goodIn_app (goodIn_r _ [13, 14, 15, 6] rfl (by decide +kernel)) ggX4_bargain_X1_read
theorem dX4_bargain_0 : decode cX4_bargain 0 = .ok (.aload_n 0, 1) := by decide +kernel
theorem dX4_bargain_1 : decode cX4_bargain 1 = .ok (.getfield 26, 3) := by decide +kernel
theorem dX4_bargain_4 : decode cX4_bargain 4 = .ok (.getfield 144, 3) := by decide +kernel
theorem dX4_bargain_7 : decode cX4_bargain 7 = .ok (.iload_n 1, 1) := by decide +kernel
theorem dX4_bargain_8 : decode cX4_bargain 8 = .ok (.invokevirtual 151, 3) := by decide +kernel
theorem dX4_bargain_11 : decode cX4_bargain 11 = .ok (.ifCond .ne 5, 3) := by decide +kernel
theorem dX4_bargain_14 : decode cX4_bargain 14 = .ok (.iconst (-1), 1) := by decide +kernel
theorem dX4_bargain_15 : decode cX4_bargain 15 = .ok (.ireturn, 1) := by decide +kernel
theorem dX4_bargain_16 : decode cX4_bargain 16 = .ok (.iload_n 2, 1) := by decide +kernel
theorem dX4_bargain_17 : decode cX4_bargain 17 = .ok (.iconst 0, 1) := by decide +kernel
theorem dX4_bargain_18 : decode cX4_bargain 18 = .ok (.iconst 5, 1) := by decide +kernel
theorem dX4_bargain_19 : decode cX4_bargain 19 = .ok (.invokestatic 50, 3) := by decide +kernel
theorem dX4_bargain_22 : decode cX4_bargain 22 = .ok (.ifCond .ne 6, 3) := by decide +kernel
theorem dX4_bargain_25 : decode cX4_bargain 25 = .ok (.bipush (-2), 2) := by decide +kernel
theorem dX4_bargain_27 : decode cX4_bargain 27 = .ok (.ireturn, 1) := by decide +kernel
theorem dX4_bargain_28 : decode cX4_bargain 28 = .ok (.aload_n 0, 1) := by decide +kernel
theorem dX4_bargain_29 : decode cX4_bargain 29 = .ok (.getfield 26, 3) := by decide +kernel
theorem dX4_bargain_32 : decode cX4_bargain 32 = .ok (.getfield 144, 3) := by decide +kernel
theorem dX4_bargain_35 : decode cX4_bargain 35 = .ok (.iload_n 1, 1) := by decide +kernel
theorem dX4_bargain_36 : decode cX4_bargain 36 = .ok (.iload_n 2, 1) := by decide +kernel
theorem dX4_bargain_37 : decode cX4_bargain 37 = .ok (.invokevirtual 154, 3) := by decide +kernel
theorem dX4_bargain_40 : decode cX4_bargain 40 = .ok (.ireturn, 1) := by decide +kernel
set_option maxRecDepth 20000 in
theorem ggX4_torn_X0_countTorn : GoodIn wsX4_torn wsX0_countTorn := goodIn_r _ [6, 7, 8, 9, 10, 11, 12, 5, 13, 14, 15, 16, 17, 18, 19, 20, 21, 22, 23, 24, 25, 26, 27, 28, 29, 30, 31, 32, 33, 34, 35, 36, 37, 38, 39, 40, 41, 42, 43, 44, 45, 46, 47, 53, 54, 55, 56, 57, 58, 59, 60, 61, 62, 63, 64, 65, 66, 67, 68, 69] rfl (by decide +kernel)
set_option maxRecDepth 20000 in
theorem gX4_torn_X0_countTorn : GoodIn wsX4_torn (wsV RX4 157 RX0 yX0_countTorn wsX0_countTorn) := goodIn_app (goodIn_r _ [2, 3, 4, 5] rfl (by decide +kernel)) ggX4_torn_X0_countTorn
theorem dX4_torn_0 : decode cX4_torn 0 = .ok (.aload_n 0, 1) := by decide +kernel
theorem dX4_torn_1 : decode cX4_torn 1 = .ok (.getfield 26, 3) := by decide +kernel
theorem dX4_torn_4 : decode cX4_torn 4 = .ok (.invokevirtual 157, 3) := by decide +kernel
theorem dX4_torn_7 : decode cX4_torn 7 = .ok (.ireturn, 1) := by decide +kernel
set_option maxRecDepth 20000 in
theorem ggX4_pair_X0_findTorn : GoodIn wsX4_pair wsX0_findTorn := goodIn_r _ [6, 7, 8, 9, 10, 11, 12, 5, 13, 14, 15, 16, 17, 18, 19, 20, 21, 22, 23, 24, 25, 26, 27, 28, 29, 30, 31, 32, 33, 34, 35, 36, 37, 38, 39, 40, 41, 42, 43, 44, 45, 46, 47, 53, 54, 55, 56, 57, 58, 59, 60, 61, 62, 63, 64, 65, 66, 67, 68, 69] rfl (by decide +kernel)
set_option maxRecDepth 20000 in
theorem gX4_pair_X0_findTorn : GoodIn wsX4_pair (wsV RX4 161 RX0 yX0_findTorn wsX0_findTorn) := goodIn_app (goodIn_r _ [2, 3, 4, 5] rfl (by decide +kernel)) ggX4_pair_X0_findTorn
theorem dX4_pair_0 : decode cX4_pair 0 = .ok (.aload_n 0, 1) := by decide +kernel
theorem dX4_pair_1 : decode cX4_pair 1 = .ok (.getfield 26, 3) := by decide +kernel
theorem dX4_pair_4 : decode cX4_pair 4 = .ok (.iload_n 1, 1) := by decide +kernel
theorem dX4_pair_5 : decode cX4_pair 5 = .ok (.invokevirtual 161, 3) := by decide +kernel
theorem dX4_pair_8 : decode cX4_pair 8 = .ok (.ireturn, 1) := by decide +kernel
set_option maxRecDepth 20000 in
theorem ggX4_foretold_X4_isWithin : GoodIn wsX4_foretold wsX4_isWithin := goodIn_r _ [5] rfl (by decide +kernel)
set_option maxRecDepth 20000 in
theorem gX4_foretold_X4_isWithin : GoodIn wsX4_foretold (va_wsS RX4 50 yX4_isWithin wsX4_isWithin) := goodIn_app (goodIn_r _ [2, 3, 4] rfl (by decide +kernel)) ggX4_foretold_X4_isWithin
set_option maxRecDepth 20000 in
theorem ggX4_foretold_X0_startAnew : GoodIn wsX4_foretold wsX0_startAnew := goodIn_r _ [10, 11, 12, 13, 14, 15, 16, 17, 18, 19, 20, 21, 22, 118, 119, 120, 121, 122, 123, 124, 125, 126, 127, 128] rfl (by decide +kernel)
set_option maxRecDepth 20000 in
theorem gX4_foretold_X0_startAnew : GoodIn wsX4_foretold (wsV RX4 164 RX0 yX0_startAnew wsX0_startAnew) := goodIn_app (goodIn_r _ [6, 7, 8, 9] rfl (by decide +kernel)) ggX4_foretold_X0_startAnew
set_option maxRecDepth 20000 in
theorem ggX4_foretold_X0_goOn : GoodIn wsX4_foretold wsX0_goOn := goodIn_r _ [26, 11, 27, 28, 29, 30, 31, 32, 33, 9, 34, 35, 36, 17, 37, 38, 39, 40, 14, 18, 12, 41, 42, 43, 44, 45, 46, 47, 48, 49, 50, 51, 52, 53, 54, 55, 56, 57, 58, 59, 60, 61, 62, 63, 64, 65, 66, 67, 68, 69, 70, 71, 72, 73, 74, 75, 76, 15, 77, 78, 79, 80, 81, 82, 83, 84, 85, 86, 87, 88, 89, 90, 91, 92, 16, 118, 119, 120, 121, 122, 123, 124, 125, 129, 130, 131, 132, 133, 134, 135, 136, 137, 126, 127, 128] rfl (by decide +kernel)
set_option maxRecDepth 20000 in
theorem gX4_foretold_X0_goOn : GoodIn wsX4_foretold (wsV RX4 134 RX0 yX0_goOn wsX0_goOn) := goodIn_app (goodIn_r _ [23, 24, 25, 9] rfl (by decide +kernel)) ggX4_foretold_X0_goOn
set_option maxRecDepth 20000 in
theorem ggX4_foretold_X0_countBound : GoodIn wsX4_foretold wsX0_countBound := goodIn_r _ [96, 35, 45, 77, 78, 79, 9, 80, 14, 118, 119, 120, 121, 122, 123, 124, 125, 129, 130, 131, 132, 133, 134, 135, 136, 137] rfl (by decide +kernel)
set_option maxRecDepth 20000 in
theorem gX4_foretold_X0_countBound : GoodIn wsX4_foretold (wsV RX4 167 RX0 yX0_countBound wsX0_countBound) := goodIn_app (goodIn_r _ [93, 94, 95, 9] rfl (by decide +kernel)) ggX4_foretold_X0_countBound
set_option maxRecDepth 20000 in
theorem ggX4_foretold_X0_countTorn : GoodIn wsX4_foretold wsX0_countTorn := goodIn_r _ [100, 35, 45, 36, 101, 102, 103, 9, 104, 14, 15, 46, 47, 48, 49, 50, 51, 52, 53, 54, 55, 56, 57, 58, 59, 60, 61, 62, 63, 64, 77, 78, 79, 80, 105, 106, 107, 108, 17, 69, 70, 71, 72, 118, 119, 120, 121, 122, 123, 124, 125, 129, 130, 131, 132, 133, 134, 135, 136, 137] rfl (by decide +kernel)
set_option maxRecDepth 20000 in
theorem gX4_foretold_X0_countTorn : GoodIn wsX4_foretold (wsV RX4 157 RX0 yX0_countTorn wsX0_countTorn) := goodIn_app (goodIn_r _ [97, 98, 99, 9] rfl (by decide +kernel)) ggX4_foretold_X0_countTorn
set_option maxRecDepth 20000 in
theorem ggX4_foretold_X0_sumWages : GoodIn wsX4_foretold wsX0_sumWages := goodIn_r _ [112, 35, 45, 15, 77, 78, 79, 9, 80, 14, 118, 119, 120, 121, 122, 123, 124, 125, 129, 130, 131, 132, 133, 134, 135, 136, 137] rfl (by decide +kernel)
set_option maxRecDepth 20000 in
theorem gX4_foretold_X0_sumWages : GoodIn wsX4_foretold (wsV RX4 170 RX0 yX0_sumWages wsX0_sumWages) := goodIn_app (goodIn_r _ [109, 110, 111, 9] rfl (by decide +kernel)) ggX4_foretold_X0_sumWages
theorem dX4_foretold_0 : decode cX4_foretold 0 = .ok (.iload_n 1, 1) := by decide +kernel
theorem dX4_foretold_1 : decode cX4_foretold 1 = .ok (.iconst 0, 1) := by decide +kernel
theorem dX4_foretold_2 : decode cX4_foretold 2 = .ok (.iconst 1, 1) := by decide +kernel
theorem dX4_foretold_3 : decode cX4_foretold 3 = .ok (.invokestatic 50, 3) := by decide +kernel
theorem dX4_foretold_6 : decode cX4_foretold 6 = .ok (.ifCond .eq 12, 3) := by decide +kernel
theorem dX4_foretold_9 : decode cX4_foretold 9 = .ok (.iload_n 2, 1) := by decide +kernel
theorem dX4_foretold_10 : decode cX4_foretold 10 = .ok (.iconst 0, 1) := by decide +kernel
theorem dX4_foretold_11 : decode cX4_foretold 11 = .ok (.iconst 2, 1) := by decide +kernel
theorem dX4_foretold_12 : decode cX4_foretold 12 = .ok (.invokestatic 50, 3) := by decide +kernel
theorem dX4_foretold_15 : decode cX4_foretold 15 = .ok (.ifCond .ne 6, 3) := by decide +kernel
theorem dX4_foretold_18 : decode cX4_foretold 18 = .ok (.bipush (-2), 2) := by decide +kernel
theorem dX4_foretold_20 : decode cX4_foretold 20 = .ok (.ireturn, 1) := by decide +kernel
theorem dX4_foretold_21 : decode cX4_foretold 21 = .ok (.aload_n 0, 1) := by decide +kernel
theorem dX4_foretold_22 : decode cX4_foretold 22 = .ok (.getfield 30, 3) := by decide +kernel
theorem dX4_foretold_25 : decode cX4_foretold 25 = .ok (.invokevirtual 164, 3) := by decide +kernel
theorem dX4_foretold_28 : decode cX4_foretold 28 = .ok (.aload_n 0, 1) := by decide +kernel
theorem dX4_foretold_29 : decode cX4_foretold 29 = .ok (.getfield 30, 3) := by decide +kernel
theorem dX4_foretold_32 : decode cX4_foretold 32 = .ok (.sipush 240, 3) := by decide +kernel
theorem dX4_foretold_35 : decode cX4_foretold 35 = .ok (.iload_n 1, 1) := by decide +kernel
theorem dX4_foretold_36 : decode cX4_foretold 36 = .ok (.iconst 1, 1) := by decide +kernel
theorem dX4_foretold_37 : decode cX4_foretold 37 = .ok (.if_icmp .ne 7, 3) := by decide +kernel
theorem dX4_foretold_40 : decode cX4_foretold 40 = .ok (.iconst 1, 1) := by decide +kernel
theorem dX4_foretold_41 : decode cX4_foretold 41 = .ok (.goto 4, 3) := by decide +kernel
theorem dX4_foretold_44 : decode cX4_foretold 44 = .ok (.iconst 0, 1) := by decide +kernel
theorem dX4_foretold_45 : decode cX4_foretold 45 = .ok (.invokevirtual 134, 3) := by decide +kernel
theorem dX4_foretold_48 : decode cX4_foretold 48 = .ok (.iload_n 2, 1) := by decide +kernel
theorem dX4_foretold_49 : decode cX4_foretold 49 = .ok (.ifCond .ne 11, 3) := by decide +kernel
theorem dX4_foretold_52 : decode cX4_foretold 52 = .ok (.aload_n 0, 1) := by decide +kernel
theorem dX4_foretold_53 : decode cX4_foretold 53 = .ok (.getfield 30, 3) := by decide +kernel
theorem dX4_foretold_56 : decode cX4_foretold 56 = .ok (.invokevirtual 167, 3) := by decide +kernel
theorem dX4_foretold_59 : decode cX4_foretold 59 = .ok (.ireturn, 1) := by decide +kernel
theorem dX4_foretold_60 : decode cX4_foretold 60 = .ok (.iload_n 2, 1) := by decide +kernel
theorem dX4_foretold_61 : decode cX4_foretold 61 = .ok (.iconst 1, 1) := by decide +kernel
theorem dX4_foretold_62 : decode cX4_foretold 62 = .ok (.if_icmp .ne 13, 3) := by decide +kernel
theorem dX4_foretold_65 : decode cX4_foretold 65 = .ok (.aload_n 0, 1) := by decide +kernel
theorem dX4_foretold_66 : decode cX4_foretold 66 = .ok (.getfield 30, 3) := by decide +kernel
theorem dX4_foretold_69 : decode cX4_foretold 69 = .ok (.invokevirtual 157, 3) := by decide +kernel
theorem dX4_foretold_72 : decode cX4_foretold 72 = .ok (.goto 10, 3) := by decide +kernel
theorem dX4_foretold_75 : decode cX4_foretold 75 = .ok (.aload_n 0, 1) := by decide +kernel
theorem dX4_foretold_76 : decode cX4_foretold 76 = .ok (.getfield 30, 3) := by decide +kernel
theorem dX4_foretold_79 : decode cX4_foretold 79 = .ok (.invokevirtual 170, 3) := by decide +kernel
theorem dX4_foretold_82 : decode cX4_foretold 82 = .ok (.ireturn, 1) := by decide +kernel
set_option maxRecDepth 20000 in
theorem ggX4_text_X4_isWithin : GoodIn wsX4_text wsX4_isWithin := goodIn_r _ [5] rfl (by decide +kernel)
set_option maxRecDepth 20000 in
theorem gX4_text_X4_isWithin : GoodIn wsX4_text (va_wsS RX4 50 yX4_isWithin wsX4_isWithin) := goodIn_app (goodIn_r _ [2, 3, 4] rfl (by decide +kernel)) ggX4_text_X4_isWithin
theorem dX4_text_0 : decode cX4_text 0 = .ok (.iload_n 1, 1) := by decide +kernel
theorem dX4_text_1 : decode cX4_text 1 = .ok (.iconst 0, 1) := by decide +kernel
theorem dX4_text_2 : decode cX4_text 2 = .ok (.iconst 1, 1) := by decide +kernel
theorem dX4_text_3 : decode cX4_text 3 = .ok (.invokestatic 50, 3) := by decide +kernel
theorem dX4_text_6 : decode cX4_text 6 = .ok (.ifCond .ne 6, 3) := by decide +kernel
theorem dX4_text_9 : decode cX4_text 9 = .ok (.bipush (-2), 2) := by decide +kernel
theorem dX4_text_11 : decode cX4_text 11 = .ok (.ireturn, 1) := by decide +kernel
theorem dX4_text_12 : decode cX4_text 12 = .ok (.aload_n 0, 1) := by decide +kernel
theorem dX4_text_13 : decode cX4_text 13 = .ok (.getfield 42, 3) := by decide +kernel
theorem dX4_text_16 : decode cX4_text 16 = .ok (.istore_n 2, 1) := by decide +kernel
theorem dX4_text_17 : decode cX4_text 17 = .ok (.aload_n 0, 1) := by decide +kernel
theorem dX4_text_18 : decode cX4_text 18 = .ok (.iload_n 1, 1) := by decide +kernel
theorem dX4_text_19 : decode cX4_text 19 = .ok (.putfield 42, 3) := by decide +kernel
theorem dX4_text_22 : decode cX4_text 22 = .ok (.iload_n 2, 1) := by decide +kernel
theorem dX4_text_23 : decode cX4_text 23 = .ok (.ireturn, 1) := by decide +kernel
set_option maxRecDepth 20000 in
theorem ggX4_days_X4_isWithin : GoodIn wsX4_days wsX4_isWithin := goodIn_r _ [6] rfl (by decide +kernel)
set_option maxRecDepth 20000 in
theorem gX4_days_X4_isWithin : GoodIn wsX4_days (va_wsS RX4 50 yX4_isWithin wsX4_isWithin) := goodIn_app (goodIn_r _ [3, 4, 5] rfl (by decide +kernel)) ggX4_days_X4_isWithin
set_option maxRecDepth 20000 in
theorem ggX4_days_X3_hasBegun : GoodIn wsX4_days wsX3_hasBegun := goodIn_r _ [11, 12, 18, 19, 20, 21, 22, 23] rfl (by decide +kernel)
set_option maxRecDepth 20000 in
theorem gX4_days_X3_hasBegun : GoodIn wsX4_days (wsV RX4 54 RX3 yX3_hasBegun wsX3_hasBegun) := goodIn_app (goodIn_r _ [7, 8, 9, 10] rfl (by decide +kernel)) ggX4_days_X3_hasBegun
theorem dX4_days_0 : decode cX4_days 0 = .ok (.iload_n 1, 1) := by decide +kernel
theorem dX4_days_1 : decode cX4_days 1 = .ok (.iconst 1, 1) := by decide +kernel
theorem dX4_days_2 : decode cX4_days 2 = .ok (.sipush 363, 3) := by decide +kernel
theorem dX4_days_5 : decode cX4_days 5 = .ok (.invokestatic 50, 3) := by decide +kernel
theorem dX4_days_8 : decode cX4_days 8 = .ok (.ifCond .ne 6, 3) := by decide +kernel
theorem dX4_days_11 : decode cX4_days 11 = .ok (.bipush (-2), 2) := by decide +kernel
theorem dX4_days_13 : decode cX4_days 13 = .ok (.ireturn, 1) := by decide +kernel
theorem dX4_days_14 : decode cX4_days 14 = .ok (.aload_n 0, 1) := by decide +kernel
theorem dX4_days_15 : decode cX4_days 15 = .ok (.getfield 38, 3) := by decide +kernel
theorem dX4_days_18 : decode cX4_days 18 = .ok (.invokevirtual 54, 3) := by decide +kernel
theorem dX4_days_21 : decode cX4_days 21 = .ok (.ifCond .ne 6, 3) := by decide +kernel
theorem dX4_days_24 : decode cX4_days 24 = .ok (.bipush (-3), 2) := by decide +kernel
theorem dX4_days_26 : decode cX4_days 26 = .ok (.ireturn, 1) := by decide +kernel
theorem dX4_days_27 : decode cX4_days 27 = .ok (.aload_n 0, 1) := by decide +kernel
theorem dX4_days_28 : decode cX4_days 28 = .ok (.getfield 38, 3) := by decide +kernel
theorem dX4_days_31 : decode cX4_days 31 = .ok (.getfield 173, 3) := by decide +kernel
theorem dX4_days_34 : decode cX4_days 34 = .ok (.iload_n 1, 1) := by decide +kernel
theorem dX4_days_35 : decode cX4_days 35 = .ok (.iadd, 1) := by decide +kernel
theorem dX4_days_36 : decode cX4_days 36 = .ok (.sipush 363, 3) := by decide +kernel
theorem dX4_days_39 : decode cX4_days 39 = .ok (.if_icmp .le 6, 3) := by decide +kernel
theorem dX4_days_42 : decode cX4_days 42 = .ok (.bipush (-4), 2) := by decide +kernel
theorem dX4_days_44 : decode cX4_days 44 = .ok (.ireturn, 1) := by decide +kernel
theorem dX4_days_45 : decode cX4_days 45 = .ok (.aload_n 0, 1) := by decide +kernel
theorem dX4_days_46 : decode cX4_days 46 = .ok (.getfield 38, 3) := by decide +kernel
theorem dX4_days_49 : decode cX4_days 49 = .ok (.dup, 1) := by decide +kernel
theorem dX4_days_50 : decode cX4_days 50 = .ok (.getfield 173, 3) := by decide +kernel
theorem dX4_days_53 : decode cX4_days 53 = .ok (.iload_n 1, 1) := by decide +kernel
theorem dX4_days_54 : decode cX4_days 54 = .ok (.iadd, 1) := by decide +kernel
theorem dX4_days_55 : decode cX4_days 55 = .ok (.putfield 173, 3) := by decide +kernel
theorem dX4_days_58 : decode cX4_days 58 = .ok (.aload_n 0, 1) := by decide +kernel
theorem dX4_days_59 : decode cX4_days 59 = .ok (.getfield 38, 3) := by decide +kernel
theorem dX4_days_62 : decode cX4_days 62 = .ok (.getfield 173, 3) := by decide +kernel
theorem dX4_days_65 : decode cX4_days 65 = .ok (.ireturn, 1) := by decide +kernel
set_option maxRecDepth 20000 in
theorem ggX4_sick_X2_hasServant : GoodIn wsX4_sick wsX2_hasServant := goodIn_r _ [7, 8, 59, 60, 61, 62, 63, 64, 65, 66, 67] rfl (by decide +kernel)
set_option maxRecDepth 20000 in
theorem gX4_sick_X2_hasServant : GoodIn wsX4_sick (wsV RX4 90 RX2 yX2_hasServant wsX2_hasServant) := goodIn_app (goodIn_r _ [3, 4, 5, 6] rfl (by decide +kernel)) ggX4_sick_X2_hasServant
set_option maxRecDepth 20000 in
theorem ggX4_sick_X4_isWithin : GoodIn wsX4_sick wsX4_isWithin := goodIn_r _ [12] rfl (by decide +kernel)
set_option maxRecDepth 20000 in
theorem gX4_sick_X4_isWithin : GoodIn wsX4_sick (va_wsS RX4 50 yX4_isWithin wsX4_isWithin) := goodIn_app (goodIn_r _ [9, 10, 11] rfl (by decide +kernel)) ggX4_sick_X4_isWithin
set_option maxRecDepth 20000 in
theorem ggX4_sick_X3_servesNow : GoodIn wsX4_sick wsX3_servesNow := goodIn_r _ [17, 18, 19, 20, 21, 16, 22, 23, 24, 25, 26, 27, 28, 29, 30, 31, 32, 33, 34, 68, 69, 70, 71, 72, 73, 74, 75, 76, 77, 78, 79, 80, 81] rfl (by decide +kernel)
set_option maxRecDepth 20000 in
theorem gX4_sick_X3_servesNow : GoodIn wsX4_sick (wsV RX4 176 RX3 yX3_servesNow wsX3_servesNow) := goodIn_app (goodIn_r _ [13, 14, 15, 16] rfl (by decide +kernel)) ggX4_sick_X3_servesNow
set_option maxRecDepth 20000 in
theorem ggX4_sick_X3_fallSick : GoodIn wsX4_sick wsX3_fallSick := goodIn_r _ [38, 18, 39, 40, 41, 42, 43, 44, 45, 16, 46, 47, 48, 49, 68, 69, 70, 71, 72, 73] rfl (by decide +kernel)
set_option maxRecDepth 20000 in
theorem gX4_sick_X3_fallSick : GoodIn wsX4_sick (wsV RX4 179 RX3 yX3_fallSick wsX3_fallSick) := goodIn_app (goodIn_r _ [35, 36, 37, 16] rfl (by decide +kernel)) ggX4_sick_X3_fallSick
set_option maxRecDepth 20000 in
theorem ggX4_sick_X3_countSick : GoodIn wsX4_sick wsX3_countSick := goodIn_r _ [53, 43, 44, 45, 16, 46, 47, 48, 49, 68, 69, 70, 71, 72, 73] rfl (by decide +kernel)
set_option maxRecDepth 20000 in
theorem gX4_sick_X3_countSick : GoodIn wsX4_sick (wsV RX4 183 RX3 yX3_countSick wsX3_countSick) := goodIn_app (goodIn_r _ [50, 51, 52, 16] rfl (by decide +kernel)) ggX4_sick_X3_countSick
theorem dX4_sick_0 : decode cX4_sick 0 = .ok (.aload_n 0, 1) := by decide +kernel
theorem dX4_sick_1 : decode cX4_sick 1 = .ok (.getfield 12, 3) := by decide +kernel
theorem dX4_sick_4 : decode cX4_sick 4 = .ok (.iload_n 1, 1) := by decide +kernel
theorem dX4_sick_5 : decode cX4_sick 5 = .ok (.invokevirtual 90, 3) := by decide +kernel
theorem dX4_sick_8 : decode cX4_sick 8 = .ok (.ifCond .ne 5, 3) := by decide +kernel
theorem dX4_sick_11 : decode cX4_sick 11 = .ok (.iconst (-1), 1) := by decide +kernel
theorem dX4_sick_12 : decode cX4_sick 12 = .ok (.ireturn, 1) := by decide +kernel
theorem dX4_sick_13 : decode cX4_sick 13 = .ok (.iload_n 2, 1) := by decide +kernel
theorem dX4_sick_14 : decode cX4_sick 14 = .ok (.iconst 1, 1) := by decide +kernel
theorem dX4_sick_15 : decode cX4_sick 15 = .ok (.sipush 363, 3) := by decide +kernel
theorem dX4_sick_18 : decode cX4_sick 18 = .ok (.invokestatic 50, 3) := by decide +kernel
theorem dX4_sick_21 : decode cX4_sick 21 = .ok (.ifCond .ne 6, 3) := by decide +kernel
theorem dX4_sick_24 : decode cX4_sick 24 = .ok (.bipush (-2), 2) := by decide +kernel
theorem dX4_sick_26 : decode cX4_sick 26 = .ok (.ireturn, 1) := by decide +kernel
theorem dX4_sick_27 : decode cX4_sick 27 = .ok (.aload_n 0, 1) := by decide +kernel
theorem dX4_sick_28 : decode cX4_sick 28 = .ok (.getfield 38, 3) := by decide +kernel
theorem dX4_sick_31 : decode cX4_sick 31 = .ok (.iload_n 1, 1) := by decide +kernel
theorem dX4_sick_32 : decode cX4_sick 32 = .ok (.invokevirtual 176, 3) := by decide +kernel
theorem dX4_sick_35 : decode cX4_sick 35 = .ok (.ifCond .ne 6, 3) := by decide +kernel
theorem dX4_sick_38 : decode cX4_sick 38 = .ok (.bipush (-3), 2) := by decide +kernel
theorem dX4_sick_40 : decode cX4_sick 40 = .ok (.ireturn, 1) := by decide +kernel
theorem dX4_sick_41 : decode cX4_sick 41 = .ok (.aload_n 0, 1) := by decide +kernel
theorem dX4_sick_42 : decode cX4_sick 42 = .ok (.getfield 38, 3) := by decide +kernel
theorem dX4_sick_45 : decode cX4_sick 45 = .ok (.iload_n 1, 1) := by decide +kernel
theorem dX4_sick_46 : decode cX4_sick 46 = .ok (.iload_n 2, 1) := by decide +kernel
theorem dX4_sick_47 : decode cX4_sick 47 = .ok (.invokevirtual 179, 3) := by decide +kernel
theorem dX4_sick_50 : decode cX4_sick 50 = .ok (.aload_n 0, 1) := by decide +kernel
theorem dX4_sick_51 : decode cX4_sick 51 = .ok (.getfield 38, 3) := by decide +kernel
theorem dX4_sick_54 : decode cX4_sick 54 = .ok (.iload_n 1, 1) := by decide +kernel
theorem dX4_sick_55 : decode cX4_sick 55 = .ok (.sipush 363, 3) := by decide +kernel
theorem dX4_sick_58 : decode cX4_sick 58 = .ok (.invokevirtual 183, 3) := by decide +kernel
theorem dX4_sick_61 : decode cX4_sick 61 = .ok (.ireturn, 1) := by decide +kernel
set_option maxRecDepth 20000 in
theorem ggX4_warn_X2_hasServant : GoodIn wsX4_warn wsX2_hasServant := goodIn_r _ [8, 9, 52, 53, 54, 55, 56, 57, 58, 59, 60] rfl (by decide +kernel)
set_option maxRecDepth 20000 in
theorem gX4_warn_X2_hasServant : GoodIn wsX4_warn (wsV RX4 90 RX2 yX2_hasServant wsX2_hasServant) := goodIn_app (goodIn_r _ [4, 5, 6, 7] rfl (by decide +kernel)) ggX4_warn_X2_hasServant
set_option maxRecDepth 20000 in
theorem ggX4_warn_X3_servesNow : GoodIn wsX4_warn wsX3_servesNow := goodIn_r _ [14, 15, 16, 17, 18, 13, 19, 20, 21, 22, 23, 24, 25, 26, 27, 28, 29, 30, 31, 46, 47, 48, 49, 50, 51, 61, 62, 63, 64, 65, 66, 67, 68] rfl (by decide +kernel)
set_option maxRecDepth 20000 in
theorem gX4_warn_X3_servesNow : GoodIn wsX4_warn (wsV RX4 176 RX3 yX3_servesNow wsX3_servesNow) := goodIn_app (goodIn_r _ [10, 11, 12, 13] rfl (by decide +kernel)) ggX4_warn_X3_servesNow
set_option maxRecDepth 20000 in
theorem ggX4_warn_X3_giveWarning : GoodIn wsX4_warn wsX3_giveWarning := goodIn_r _ [35, 36, 25, 15, 37, 38, 39, 40, 46, 47, 48, 49, 50, 51] rfl (by decide +kernel)
set_option maxRecDepth 20000 in
theorem gX4_warn_X3_giveWarning : GoodIn wsX4_warn (wsV RX4 190 RX3 yX3_giveWarning wsX3_giveWarning) := goodIn_app (goodIn_r _ [32, 33, 34, 13] rfl (by decide +kernel)) ggX4_warn_X3_giveWarning
theorem dX4_warn_0 : decode cX4_warn 0 = .ok (.aload_n 0, 1) := by decide +kernel
theorem dX4_warn_1 : decode cX4_warn 1 = .ok (.getfield 12, 3) := by decide +kernel
theorem dX4_warn_4 : decode cX4_warn 4 = .ok (.iload_n 1, 1) := by decide +kernel
theorem dX4_warn_5 : decode cX4_warn 5 = .ok (.invokevirtual 90, 3) := by decide +kernel
theorem dX4_warn_8 : decode cX4_warn 8 = .ok (.ifCond .ne 5, 3) := by decide +kernel
theorem dX4_warn_11 : decode cX4_warn 11 = .ok (.iconst (-1), 1) := by decide +kernel
theorem dX4_warn_12 : decode cX4_warn 12 = .ok (.ireturn, 1) := by decide +kernel
theorem dX4_warn_13 : decode cX4_warn 13 = .ok (.aload_n 0, 1) := by decide +kernel
theorem dX4_warn_14 : decode cX4_warn 14 = .ok (.getfield 38, 3) := by decide +kernel
theorem dX4_warn_17 : decode cX4_warn 17 = .ok (.iload_n 1, 1) := by decide +kernel
theorem dX4_warn_18 : decode cX4_warn 18 = .ok (.invokevirtual 176, 3) := by decide +kernel
theorem dX4_warn_21 : decode cX4_warn 21 = .ok (.ifCond .eq 15, 3) := by decide +kernel
theorem dX4_warn_24 : decode cX4_warn 24 = .ok (.aload_n 0, 1) := by decide +kernel
theorem dX4_warn_25 : decode cX4_warn 25 = .ok (.getfield 38, 3) := by decide +kernel
theorem dX4_warn_28 : decode cX4_warn 28 = .ok (.getfield 186, 3) := by decide +kernel
theorem dX4_warn_31 : decode cX4_warn 31 = .ok (.iload_n 1, 1) := by decide +kernel
theorem dX4_warn_32 : decode cX4_warn 32 = .ok (.baload, 1) := by decide +kernel
theorem dX4_warn_33 : decode cX4_warn 33 = .ok (.ifCond .eq 6, 3) := by decide +kernel
theorem dX4_warn_36 : decode cX4_warn 36 = .ok (.bipush (-3), 2) := by decide +kernel
theorem dX4_warn_38 : decode cX4_warn 38 = .ok (.ireturn, 1) := by decide +kernel
theorem dX4_warn_39 : decode cX4_warn 39 = .ok (.aload_n 0, 1) := by decide +kernel
theorem dX4_warn_40 : decode cX4_warn 40 = .ok (.getfield 38, 3) := by decide +kernel
theorem dX4_warn_43 : decode cX4_warn 43 = .ok (.iload_n 1, 1) := by decide +kernel
theorem dX4_warn_44 : decode cX4_warn 44 = .ok (.invokevirtual 190, 3) := by decide +kernel
theorem dX4_warn_47 : decode cX4_warn 47 = .ok (.ireturn, 1) := by decide +kernel
set_option maxRecDepth 20000 in
theorem ggX4_run_X2_hasServant : GoodIn wsX4_run wsX2_hasServant := goodIn_r _ [9, 10, 48, 49, 50, 51, 52, 53, 54, 55, 56] rfl (by decide +kernel)
set_option maxRecDepth 20000 in
theorem gX4_run_X2_hasServant : GoodIn wsX4_run (wsV RX4 90 RX2 yX2_hasServant wsX2_hasServant) := goodIn_app (goodIn_r _ [5, 6, 7, 8] rfl (by decide +kernel)) ggX4_run_X2_hasServant
set_option maxRecDepth 20000 in
theorem ggX4_run_X3_servesNow : GoodIn wsX4_run wsX3_servesNow := goodIn_r _ [15, 16, 17, 18, 19, 14, 20, 21, 22, 23, 24, 25, 26, 27, 28, 29, 30, 31, 32, 42, 43, 44, 45, 46, 47, 57, 58, 59, 60, 61, 62, 63, 64] rfl (by decide +kernel)
set_option maxRecDepth 20000 in
theorem gX4_run_X3_servesNow : GoodIn wsX4_run (wsV RX4 176 RX3 yX3_servesNow wsX3_servesNow) := goodIn_app (goodIn_r _ [11, 12, 13, 14] rfl (by decide +kernel)) ggX4_run_X3_servesNow
set_option maxRecDepth 20000 in
theorem ggX4_run_X3_leave : GoodIn wsX4_run wsX3_leave := goodIn_r _ [36, 26, 16, 42, 43, 44, 45, 46, 47] rfl (by decide +kernel)
set_option maxRecDepth 20000 in
theorem gX4_run_X3_leave : GoodIn wsX4_run (wsV RX4 196 RX3 yX3_leave wsX3_leave) := goodIn_app (goodIn_r _ [33, 34, 35, 14] rfl (by decide +kernel)) ggX4_run_X3_leave
theorem dX4_run_0 : decode cX4_run 0 = .ok (.aload_n 0, 1) := by decide +kernel
theorem dX4_run_1 : decode cX4_run 1 = .ok (.getfield 12, 3) := by decide +kernel
theorem dX4_run_4 : decode cX4_run 4 = .ok (.iload_n 1, 1) := by decide +kernel
theorem dX4_run_5 : decode cX4_run 5 = .ok (.invokevirtual 90, 3) := by decide +kernel
theorem dX4_run_8 : decode cX4_run 8 = .ok (.ifCond .ne 5, 3) := by decide +kernel
theorem dX4_run_11 : decode cX4_run 11 = .ok (.iconst (-1), 1) := by decide +kernel
theorem dX4_run_12 : decode cX4_run 12 = .ok (.ireturn, 1) := by decide +kernel
theorem dX4_run_13 : decode cX4_run 13 = .ok (.aload_n 0, 1) := by decide +kernel
theorem dX4_run_14 : decode cX4_run 14 = .ok (.getfield 38, 3) := by decide +kernel
theorem dX4_run_17 : decode cX4_run 17 = .ok (.iload_n 1, 1) := by decide +kernel
theorem dX4_run_18 : decode cX4_run 18 = .ok (.invokevirtual 176, 3) := by decide +kernel
theorem dX4_run_21 : decode cX4_run 21 = .ok (.ifCond .ne 6, 3) := by decide +kernel
theorem dX4_run_24 : decode cX4_run 24 = .ok (.bipush (-3), 2) := by decide +kernel
theorem dX4_run_26 : decode cX4_run 26 = .ok (.ireturn, 1) := by decide +kernel
theorem dX4_run_27 : decode cX4_run 27 = .ok (.aload_n 0, 1) := by decide +kernel
theorem dX4_run_28 : decode cX4_run 28 = .ok (.getfield 38, 3) := by decide +kernel
theorem dX4_run_31 : decode cX4_run 31 = .ok (.getfield 193, 3) := by decide +kernel
theorem dX4_run_34 : decode cX4_run 34 = .ok (.iload_n 1, 1) := by decide +kernel
theorem dX4_run_35 : decode cX4_run 35 = .ok (.aload_n 0, 1) := by decide +kernel
theorem dX4_run_36 : decode cX4_run 36 = .ok (.getfield 42, 3) := by decide +kernel
theorem dX4_run_39 : decode cX4_run 39 = .ok (.ifCond .ne 7, 3) := by decide +kernel
theorem dX4_run_42 : decode cX4_run 42 = .ok (.iconst 1, 1) := by decide +kernel
theorem dX4_run_43 : decode cX4_run 43 = .ok (.goto 4, 3) := by decide +kernel
theorem dX4_run_46 : decode cX4_run 46 = .ok (.iconst 0, 1) := by decide +kernel
theorem dX4_run_47 : decode cX4_run 47 = .ok (.bastore, 1) := by decide +kernel
theorem dX4_run_48 : decode cX4_run 48 = .ok (.aload_n 0, 1) := by decide +kernel
theorem dX4_run_49 : decode cX4_run 49 = .ok (.getfield 38, 3) := by decide +kernel
theorem dX4_run_52 : decode cX4_run 52 = .ok (.iload_n 1, 1) := by decide +kernel
theorem dX4_run_53 : decode cX4_run 53 = .ok (.invokevirtual 196, 3) := by decide +kernel
theorem dX4_run_56 : decode cX4_run 56 = .ok (.ireturn, 1) := by decide +kernel
set_option maxRecDepth 20000 in
theorem ggX4_send_X2_hasServant : GoodIn wsX4_send wsX2_hasServant := goodIn_r _ [7, 8, 53, 54, 55, 56, 57, 58, 59, 60, 61] rfl (by decide +kernel)
set_option maxRecDepth 20000 in
theorem gX4_send_X2_hasServant : GoodIn wsX4_send (wsV RX4 90 RX2 yX2_hasServant wsX2_hasServant) := goodIn_app (goodIn_r _ [3, 4, 5, 6] rfl (by decide +kernel)) ggX4_send_X2_hasServant
set_option maxRecDepth 20000 in
theorem ggX4_send_X3_servesNow : GoodIn wsX4_send wsX3_servesNow := goodIn_r _ [13, 14, 15, 16, 17, 12, 18, 19, 20, 21, 22, 23, 24, 25, 26, 27, 28, 29, 30, 62, 63, 64, 65, 66, 67, 68, 69, 70, 71, 72, 73, 74, 75] rfl (by decide +kernel)
set_option maxRecDepth 20000 in
theorem gX4_send_X3_servesNow : GoodIn wsX4_send (wsV RX4 176 RX3 yX3_servesNow wsX3_servesNow) := goodIn_app (goodIn_r _ [9, 10, 11, 12] rfl (by decide +kernel)) ggX4_send_X3_servesNow
set_option maxRecDepth 20000 in
theorem ggX4_send_X4_isHeldAboveSkill : GoodIn wsX4_send wsX4_isHeldAboveSkill := goodIn_r _ [35, 36, 37, 1, 38, 39, 40, 41, 6, 42, 43, 48, 49, 50, 51, 52, 68, 69, 70, 71, 72, 73, 74, 75, 53, 54, 55, 56, 57, 58, 59, 60, 61] rfl (by decide +kernel)
set_option maxRecDepth 20000 in
theorem gX4_send_X4_isHeldAboveSkill : GoodIn wsX4_send (wsV RX4 199 RX4 yX4_isHeldAboveSkill wsX4_isHeldAboveSkill) := goodIn_app (goodIn_r _ [31, 32, 33, 34] rfl (by decide +kernel)) ggX4_send_X4_isHeldAboveSkill
set_option maxRecDepth 20000 in
theorem ggX4_send_X3_leave : GoodIn wsX4_send wsX3_leave := goodIn_r _ [47, 24, 14, 62, 63, 64, 65, 66, 67] rfl (by decide +kernel)
set_option maxRecDepth 20000 in
theorem gX4_send_X3_leave : GoodIn wsX4_send (wsV RX4 196 RX3 yX3_leave wsX3_leave) := goodIn_app (goodIn_r _ [44, 45, 46, 12] rfl (by decide +kernel)) ggX4_send_X3_leave
theorem dX4_send_0 : decode cX4_send 0 = .ok (.aload_n 0, 1) := by decide +kernel
theorem dX4_send_1 : decode cX4_send 1 = .ok (.getfield 12, 3) := by decide +kernel
theorem dX4_send_4 : decode cX4_send 4 = .ok (.iload_n 1, 1) := by decide +kernel
theorem dX4_send_5 : decode cX4_send 5 = .ok (.invokevirtual 90, 3) := by decide +kernel
theorem dX4_send_8 : decode cX4_send 8 = .ok (.ifCond .ne 5, 3) := by decide +kernel
theorem dX4_send_11 : decode cX4_send 11 = .ok (.iconst (-1), 1) := by decide +kernel
theorem dX4_send_12 : decode cX4_send 12 = .ok (.ireturn, 1) := by decide +kernel
theorem dX4_send_13 : decode cX4_send 13 = .ok (.aload_n 0, 1) := by decide +kernel
theorem dX4_send_14 : decode cX4_send 14 = .ok (.getfield 38, 3) := by decide +kernel
theorem dX4_send_17 : decode cX4_send 17 = .ok (.iload_n 1, 1) := by decide +kernel
theorem dX4_send_18 : decode cX4_send 18 = .ok (.invokevirtual 176, 3) := by decide +kernel
theorem dX4_send_21 : decode cX4_send 21 = .ok (.ifCond .eq 11, 3) := by decide +kernel
theorem dX4_send_24 : decode cX4_send 24 = .ok (.aload_n 0, 1) := by decide +kernel
theorem dX4_send_25 : decode cX4_send 25 = .ok (.iload_n 1, 1) := by decide +kernel
theorem dX4_send_26 : decode cX4_send 26 = .ok (.invokevirtual 199, 3) := by decide +kernel
theorem dX4_send_29 : decode cX4_send 29 = .ok (.ifCond .ne 6, 3) := by decide +kernel
theorem dX4_send_32 : decode cX4_send 32 = .ok (.bipush (-3), 2) := by decide +kernel
theorem dX4_send_34 : decode cX4_send 34 = .ok (.ireturn, 1) := by decide +kernel
theorem dX4_send_35 : decode cX4_send 35 = .ok (.aload_n 0, 1) := by decide +kernel
theorem dX4_send_36 : decode cX4_send 36 = .ok (.getfield 38, 3) := by decide +kernel
theorem dX4_send_39 : decode cX4_send 39 = .ok (.iload_n 1, 1) := by decide +kernel
theorem dX4_send_40 : decode cX4_send 40 = .ok (.invokevirtual 196, 3) := by decide +kernel
theorem dX4_send_43 : decode cX4_send 43 = .ok (.ireturn, 1) := by decide +kernel
set_option maxRecDepth 20000 in
theorem ggX4_due_X2_hasServant : GoodIn wsX4_due wsX2_hasServant := goodIn_r _ [8, 9, 57, 58, 59, 60, 61, 62, 63, 64, 65] rfl (by decide +kernel)
set_option maxRecDepth 20000 in
theorem gX4_due_X2_hasServant : GoodIn wsX4_due (wsV RX4 90 RX2 yX2_hasServant wsX2_hasServant) := goodIn_app (goodIn_r _ [4, 5, 6, 7] rfl (by decide +kernel)) ggX4_due_X2_hasServant
set_option maxRecDepth 20000 in
theorem ggX4_due_X4_isDay : GoodIn wsX4_due wsX4_isDay := goodIn_r _ [13, 14, 15, 12, 16] rfl (by decide +kernel)
set_option maxRecDepth 20000 in
theorem gX4_due_X4_isDay : GoodIn wsX4_due (va_wsS RX4 202 yX4_isDay wsX4_isDay) := goodIn_app (goodIn_r _ [10, 11, 12] rfl (by decide +kernel)) ggX4_due_X4_isDay
set_option maxRecDepth 20000 in
theorem ggX4_due_X3_hasBegun : GoodIn wsX4_due wsX3_hasBegun := goodIn_r _ [21, 22, 66, 67, 68, 69, 70, 71] rfl (by decide +kernel)
set_option maxRecDepth 20000 in
theorem gX4_due_X3_hasBegun : GoodIn wsX4_due (wsV RX4 54 RX3 yX3_hasBegun wsX3_hasBegun) := goodIn_app (goodIn_r _ [17, 18, 19, 20] rfl (by decide +kernel)) ggX4_due_X3_hasBegun
set_option maxRecDepth 20000 in
theorem ggX4_due_X0_isBound : GoodIn wsX4_due wsX0_isBound := goodIn_r _ [27, 28, 72, 73, 74, 75, 76, 77, 78, 79] rfl (by decide +kernel)
set_option maxRecDepth 20000 in
theorem gX4_due_X0_isBound : GoodIn wsX4_due (wsV RX4 205 RX0 yX0_isBound wsX0_isBound) := goodIn_app (goodIn_r _ [23, 24, 25, 26] rfl (by decide +kernel)) ggX4_due_X0_isBound
set_option maxRecDepth 20000 in
theorem ggX4_due_X3_wagesDue : GoodIn wsX4_due wsX3_wagesDue := goodIn_r _ [32, 33, 34, 35, 36, 37, 38, 39, 40, 41, 42, 43, 20, 44, 45, 46, 47, 48, 49, 50, 51, 66, 67, 68, 69, 70, 71, 72, 73, 74, 75, 76, 77, 78, 79] rfl (by decide +kernel)
set_option maxRecDepth 20000 in
theorem gX4_due_X3_wagesDue : GoodIn wsX4_due (wsV RX4 208 RX3 yX3_wagesDue wsX3_wagesDue) := goodIn_app (goodIn_r _ [29, 30, 31, 20] rfl (by decide +kernel)) ggX4_due_X3_wagesDue
theorem dX4_due_0 : decode cX4_due 0 = .ok (.aload_n 0, 1) := by decide +kernel
theorem dX4_due_1 : decode cX4_due 1 = .ok (.getfield 12, 3) := by decide +kernel
theorem dX4_due_4 : decode cX4_due 4 = .ok (.iload_n 1, 1) := by decide +kernel
theorem dX4_due_5 : decode cX4_due 5 = .ok (.invokevirtual 90, 3) := by decide +kernel
theorem dX4_due_8 : decode cX4_due 8 = .ok (.ifCond .ne 5, 3) := by decide +kernel
theorem dX4_due_11 : decode cX4_due 11 = .ok (.iconst (-1), 1) := by decide +kernel
theorem dX4_due_12 : decode cX4_due 12 = .ok (.ireturn, 1) := by decide +kernel
theorem dX4_due_13 : decode cX4_due 13 = .ok (.iload_n 2, 1) := by decide +kernel
theorem dX4_due_14 : decode cX4_due 14 = .ok (.invokestatic 202, 3) := by decide +kernel
theorem dX4_due_17 : decode cX4_due 17 = .ok (.ifCond .ne 6, 3) := by decide +kernel
theorem dX4_due_20 : decode cX4_due 20 = .ok (.bipush (-2), 2) := by decide +kernel
theorem dX4_due_22 : decode cX4_due 22 = .ok (.ireturn, 1) := by decide +kernel
theorem dX4_due_23 : decode cX4_due 23 = .ok (.aload_n 0, 1) := by decide +kernel
theorem dX4_due_24 : decode cX4_due 24 = .ok (.getfield 38, 3) := by decide +kernel
theorem dX4_due_27 : decode cX4_due 27 = .ok (.invokevirtual 54, 3) := by decide +kernel
theorem dX4_due_30 : decode cX4_due 30 = .ok (.ifCond .eq 14, 3) := by decide +kernel
theorem dX4_due_33 : decode cX4_due 33 = .ok (.aload_n 0, 1) := by decide +kernel
theorem dX4_due_34 : decode cX4_due 34 = .ok (.getfield 26, 3) := by decide +kernel
theorem dX4_due_37 : decode cX4_due 37 = .ok (.iload_n 1, 1) := by decide +kernel
theorem dX4_due_38 : decode cX4_due 38 = .ok (.invokevirtual 205, 3) := by decide +kernel
theorem dX4_due_41 : decode cX4_due 41 = .ok (.ifCond .ne 6, 3) := by decide +kernel
theorem dX4_due_44 : decode cX4_due 44 = .ok (.bipush (-3), 2) := by decide +kernel
theorem dX4_due_46 : decode cX4_due 46 = .ok (.ireturn, 1) := by decide +kernel
theorem dX4_due_47 : decode cX4_due 47 = .ok (.aload_n 0, 1) := by decide +kernel
theorem dX4_due_48 : decode cX4_due 48 = .ok (.getfield 38, 3) := by decide +kernel
theorem dX4_due_51 : decode cX4_due 51 = .ok (.iload_n 1, 1) := by decide +kernel
theorem dX4_due_52 : decode cX4_due 52 = .ok (.iload_n 2, 1) := by decide +kernel
theorem dX4_due_53 : decode cX4_due 53 = .ok (.invokevirtual 208, 3) := by decide +kernel
theorem dX4_due_56 : decode cX4_due 56 = .ok (.ireturn, 1) := by decide +kernel
set_option maxRecDepth 20000 in
theorem ggX4_owes_X2_hasMaster : GoodIn wsX4_owes wsX2_hasMaster := goodIn_r _ [9, 10, 60, 61, 62, 63, 64, 65, 66, 67, 68] rfl (by decide +kernel)
set_option maxRecDepth 20000 in
theorem gX4_owes_X2_hasMaster : GoodIn wsX4_owes (wsV RX4 84 RX2 yX2_hasMaster wsX2_hasMaster) := goodIn_app (goodIn_r _ [5, 6, 7, 8] rfl (by decide +kernel)) ggX4_owes_X2_hasMaster
set_option maxRecDepth 20000 in
theorem ggX4_owes_X4_isDay : GoodIn wsX4_owes wsX4_isDay := goodIn_r _ [14, 15, 16, 13, 17] rfl (by decide +kernel)
set_option maxRecDepth 20000 in
theorem gX4_owes_X4_isDay : GoodIn wsX4_owes (va_wsS RX4 202 yX4_isDay wsX4_isDay) := goodIn_app (goodIn_r _ [11, 12, 13] rfl (by decide +kernel)) ggX4_owes_X4_isDay
set_option maxRecDepth 20000 in
theorem ggX4_owes_X3_hasBegun : GoodIn wsX4_owes wsX3_hasBegun := goodIn_r _ [22, 23, 69, 70, 71, 72, 73, 74] rfl (by decide +kernel)
set_option maxRecDepth 20000 in
theorem gX4_owes_X3_hasBegun : GoodIn wsX4_owes (wsV RX4 54 RX3 yX3_hasBegun wsX3_hasBegun) := goodIn_app (goodIn_r _ [18, 19, 20, 21] rfl (by decide +kernel)) ggX4_owes_X3_hasBegun
set_option maxRecDepth 20000 in
theorem ggX4_owes_X3_wagesDue : GoodIn wsX4_owes wsX3_wagesDue := goodIn_r _ [27, 28, 29, 30, 31, 32, 33, 34, 35, 36, 37, 38, 21, 39, 40, 41, 42, 43, 44, 45, 46, 69, 70, 71, 72, 73, 74, 52, 53, 54, 55, 56, 57, 58, 59] rfl (by decide +kernel)
set_option maxRecDepth 20000 in
theorem gX4_owes_X3_wagesDue : GoodIn wsX4_owes (wsV RX4 208 RX3 yX3_wagesDue wsX3_wagesDue) := goodIn_app (goodIn_r _ [24, 25, 26, 21] rfl (by decide +kernel)) ggX4_owes_X3_wagesDue
theorem dX4_owes_0 : decode cX4_owes 0 = .ok (.aload_n 0, 1) := by decide +kernel
theorem dX4_owes_1 : decode cX4_owes 1 = .ok (.getfield 12, 3) := by decide +kernel
theorem dX4_owes_4 : decode cX4_owes 4 = .ok (.iload_n 1, 1) := by decide +kernel
theorem dX4_owes_5 : decode cX4_owes 5 = .ok (.invokevirtual 84, 3) := by decide +kernel
theorem dX4_owes_8 : decode cX4_owes 8 = .ok (.ifCond .ne 5, 3) := by decide +kernel
theorem dX4_owes_11 : decode cX4_owes 11 = .ok (.iconst (-1), 1) := by decide +kernel
theorem dX4_owes_12 : decode cX4_owes 12 = .ok (.ireturn, 1) := by decide +kernel
theorem dX4_owes_13 : decode cX4_owes 13 = .ok (.iload_n 2, 1) := by decide +kernel
theorem dX4_owes_14 : decode cX4_owes 14 = .ok (.invokestatic 202, 3) := by decide +kernel
theorem dX4_owes_17 : decode cX4_owes 17 = .ok (.ifCond .ne 6, 3) := by decide +kernel
theorem dX4_owes_20 : decode cX4_owes 20 = .ok (.bipush (-2), 2) := by decide +kernel
theorem dX4_owes_22 : decode cX4_owes 22 = .ok (.ireturn, 1) := by decide +kernel
theorem dX4_owes_23 : decode cX4_owes 23 = .ok (.aload_n 0, 1) := by decide +kernel
theorem dX4_owes_24 : decode cX4_owes 24 = .ok (.getfield 38, 3) := by decide +kernel
theorem dX4_owes_27 : decode cX4_owes 27 = .ok (.invokevirtual 54, 3) := by decide +kernel
theorem dX4_owes_30 : decode cX4_owes 30 = .ok (.ifCond .ne 6, 3) := by decide +kernel
theorem dX4_owes_33 : decode cX4_owes 33 = .ok (.bipush (-3), 2) := by decide +kernel
theorem dX4_owes_35 : decode cX4_owes 35 = .ok (.ireturn, 1) := by decide +kernel
theorem dX4_owes_36 : decode cX4_owes 36 = .ok (.aload_n 0, 1) := by decide +kernel
theorem dX4_owes_37 : decode cX4_owes 37 = .ok (.getfield 26, 3) := by decide +kernel
theorem dX4_owes_40 : decode cX4_owes 40 = .ok (.getfield 122, 3) := by decide +kernel
theorem dX4_owes_43 : decode cX4_owes 43 = .ok (.iload_n 1, 1) := by decide +kernel
theorem dX4_owes_44 : decode cX4_owes 44 = .ok (.iaload, 1) := by decide +kernel
theorem dX4_owes_45 : decode cX4_owes 45 = .ok (.istore_n 3, 1) := by decide +kernel
theorem dX4_owes_46 : decode cX4_owes 46 = .ok (.iload_n 3, 1) := by decide +kernel
theorem dX4_owes_47 : decode cX4_owes 47 = .ok (.bipush (-9), 2) := by decide +kernel
theorem dX4_owes_49 : decode cX4_owes 49 = .ok (.if_icmp .ne 7, 3) := by decide +kernel
theorem dX4_owes_52 : decode cX4_owes 52 = .ok (.iconst 0, 1) := by decide +kernel
theorem dX4_owes_53 : decode cX4_owes 53 = .ok (.goto 12, 3) := by decide +kernel
theorem dX4_owes_56 : decode cX4_owes 56 = .ok (.aload_n 0, 1) := by decide +kernel
theorem dX4_owes_57 : decode cX4_owes 57 = .ok (.getfield 38, 3) := by decide +kernel
theorem dX4_owes_60 : decode cX4_owes 60 = .ok (.iload_n 3, 1) := by decide +kernel
theorem dX4_owes_61 : decode cX4_owes 61 = .ok (.iload_n 2, 1) := by decide +kernel
theorem dX4_owes_62 : decode cX4_owes 62 = .ok (.invokevirtual 208, 3) := by decide +kernel
theorem dX4_owes_65 : decode cX4_owes 65 = .ok (.ireturn, 1) := by decide +kernel
set_option maxRecDepth 20000 in
theorem ggX4_hands_X4_isKind : GoodIn wsX4_hands wsX4_isKind := goodIn_r _ [8, 9, 10, 7, 11] rfl (by decide +kernel)
set_option maxRecDepth 20000 in
theorem gX4_hands_X4_isKind : GoodIn wsX4_hands (va_wsS RX4 46 yX4_isKind wsX4_isKind) := goodIn_app (goodIn_r _ [5, 6, 7] rfl (by decide +kernel)) ggX4_hands_X4_isKind
set_option maxRecDepth 20000 in
theorem ggX4_hands_X4_isDay : GoodIn wsX4_hands wsX4_isDay := goodIn_r _ [14, 9, 10, 7, 11] rfl (by decide +kernel)
set_option maxRecDepth 20000 in
theorem gX4_hands_X4_isDay : GoodIn wsX4_hands (va_wsS RX4 202 yX4_isDay wsX4_isDay) := goodIn_app (goodIn_r _ [12, 13, 7] rfl (by decide +kernel)) ggX4_hands_X4_isDay
set_option maxRecDepth 20000 in
theorem ggX4_hands_X3_hasBegun : GoodIn wsX4_hands wsX3_hasBegun := goodIn_r _ [19, 20, 47, 48, 49, 50, 51, 52] rfl (by decide +kernel)
set_option maxRecDepth 20000 in
theorem gX4_hands_X3_hasBegun : GoodIn wsX4_hands (wsV RX4 54 RX3 yX3_hasBegun wsX3_hasBegun) := goodIn_app (goodIn_r _ [15, 16, 17, 18] rfl (by decide +kernel)) ggX4_hands_X3_hasBegun
set_option maxRecDepth 20000 in
theorem ggX4_hands_X3_servesOn : GoodIn wsX4_hands wsX3_servesOn := goodIn_r _ [24, 25, 26, 27, 28, 29, 30, 31, 32, 47, 48, 49, 50, 51, 52, 53, 54, 55, 56, 57, 58, 59, 60] rfl (by decide +kernel)
set_option maxRecDepth 20000 in
theorem gX4_hands_X3_servesOn : GoodIn wsX4_hands (wsV RX4 214 RX3 yX3_servesOn wsX3_servesOn) := goodIn_app (goodIn_r _ [21, 22, 23, 18] rfl (by decide +kernel)) ggX4_hands_X3_servesOn
theorem dX4_hands_0 : decode cX4_hands 0 = .ok (.iload_n 1, 1) := by decide +kernel
theorem dX4_hands_1 : decode cX4_hands 1 = .ok (.invokestatic 46, 3) := by decide +kernel
theorem dX4_hands_4 : decode cX4_hands 4 = .ok (.ifCond .eq 10, 3) := by decide +kernel
theorem dX4_hands_7 : decode cX4_hands 7 = .ok (.iload_n 2, 1) := by decide +kernel
theorem dX4_hands_8 : decode cX4_hands 8 = .ok (.invokestatic 202, 3) := by decide +kernel
theorem dX4_hands_11 : decode cX4_hands 11 = .ok (.ifCond .ne 6, 3) := by decide +kernel
theorem dX4_hands_14 : decode cX4_hands 14 = .ok (.bipush (-2), 2) := by decide +kernel
theorem dX4_hands_16 : decode cX4_hands 16 = .ok (.ireturn, 1) := by decide +kernel
theorem dX4_hands_17 : decode cX4_hands 17 = .ok (.aload_n 0, 1) := by decide +kernel
theorem dX4_hands_18 : decode cX4_hands 18 = .ok (.getfield 38, 3) := by decide +kernel
theorem dX4_hands_21 : decode cX4_hands 21 = .ok (.invokevirtual 54, 3) := by decide +kernel
theorem dX4_hands_24 : decode cX4_hands 24 = .ok (.ifCond .ne 6, 3) := by decide +kernel
theorem dX4_hands_27 : decode cX4_hands 27 = .ok (.bipush (-3), 2) := by decide +kernel
theorem dX4_hands_29 : decode cX4_hands 29 = .ok (.ireturn, 1) := by decide +kernel
theorem dX4_hands_30 : decode cX4_hands 30 = .ok (.iconst 0, 1) := by decide +kernel
theorem dX4_hands_31 : decode cX4_hands 31 = .ok (.istore_n 3, 1) := by decide +kernel
theorem dX4_hands_32 : decode cX4_hands 32 = .ok (.iconst 0, 1) := by decide +kernel
theorem dX4_hands_33 : decode cX4_hands 33 = .ok (.istore 4, 2) := by decide +kernel
theorem dX4_hands_35 : decode cX4_hands 35 = .ok (.iload 4, 2) := by decide +kernel
theorem dX4_hands_37 : decode cX4_hands 37 = .ok (.aload_n 0, 1) := by decide +kernel
theorem dX4_hands_38 : decode cX4_hands 38 = .ok (.getfield 12, 3) := by decide +kernel
theorem dX4_hands_41 : decode cX4_hands 41 = .ok (.getfield 211, 3) := by decide +kernel
theorem dX4_hands_44 : decode cX4_hands 44 = .ok (.if_icmp .ge 39, 3) := by decide +kernel
theorem dX4_hands_47 : decode cX4_hands 47 = .ok (.aload_n 0, 1) := by decide +kernel
theorem dX4_hands_48 : decode cX4_hands 48 = .ok (.getfield 12, 3) := by decide +kernel
theorem dX4_hands_51 : decode cX4_hands 51 = .ok (.getfield 93, 3) := by decide +kernel
theorem dX4_hands_54 : decode cX4_hands 54 = .ok (.iload 4, 2) := by decide +kernel
theorem dX4_hands_56 : decode cX4_hands 56 = .ok (.iaload, 1) := by decide +kernel
theorem dX4_hands_57 : decode cX4_hands 57 = .ok (.iload_n 1, 1) := by decide +kernel
theorem dX4_hands_58 : decode cX4_hands 58 = .ok (.if_icmp .ne 19, 3) := by decide +kernel
theorem dX4_hands_61 : decode cX4_hands 61 = .ok (.aload_n 0, 1) := by decide +kernel
theorem dX4_hands_62 : decode cX4_hands 62 = .ok (.getfield 38, 3) := by decide +kernel
theorem dX4_hands_65 : decode cX4_hands 65 = .ok (.iload 4, 2) := by decide +kernel
theorem dX4_hands_67 : decode cX4_hands 67 = .ok (.iload_n 2, 1) := by decide +kernel
theorem dX4_hands_68 : decode cX4_hands 68 = .ok (.invokevirtual 214, 3) := by decide +kernel
theorem dX4_hands_71 : decode cX4_hands 71 = .ok (.ifCond .eq 6, 3) := by decide +kernel
theorem dX4_hands_74 : decode cX4_hands 74 = .ok (.iinc 3 1, 3) := by decide +kernel
theorem dX4_hands_77 : decode cX4_hands 77 = .ok (.iinc 4 1, 3) := by decide +kernel
theorem dX4_hands_80 : decode cX4_hands 80 = .ok (.goto (-45), 3) := by decide +kernel
theorem dX4_hands_83 : decode cX4_hands 83 = .ok (.iload_n 3, 1) := by decide +kernel
theorem dX4_hands_84 : decode cX4_hands 84 = .ok (.ireturn, 1) := by decide +kernel
set_option maxRecDepth 20000 in
theorem ggX4_total_X0_countBound : GoodIn wsX4_total wsX0_countBound := goodIn_r _ [13, 14, 15, 16, 17, 18, 12, 19, 20, 40, 41, 42, 43, 44, 45, 46, 47, 31, 32, 33, 34, 35, 36, 37, 38, 39] rfl (by decide +kernel)
set_option maxRecDepth 20000 in
theorem gX4_total_X0_countBound : GoodIn wsX4_total (wsV RX4 167 RX0 yX0_countBound wsX0_countBound) := goodIn_app (goodIn_r _ [9, 10, 11, 12] rfl (by decide +kernel)) ggX4_total_X0_countBound
set_option maxRecDepth 20000 in
theorem ggX4_total_X0_sumWages : GoodIn wsX4_total wsX0_sumWages := goodIn_r _ [24, 14, 15, 25, 16, 17, 18, 12, 19, 20, 40, 41, 42, 43, 44, 45, 46, 47, 31, 32, 33, 34, 35, 36, 37, 38, 39] rfl (by decide +kernel)
set_option maxRecDepth 20000 in
theorem gX4_total_X0_sumWages : GoodIn wsX4_total (wsV RX4 170 RX0 yX0_sumWages wsX0_sumWages) := goodIn_app (goodIn_r _ [21, 22, 23, 12] rfl (by decide +kernel)) ggX4_total_X0_sumWages
theorem dX4_total_0 : decode cX4_total 0 = .ok (.iload_n 1, 1) := by decide +kernel
theorem dX4_total_1 : decode cX4_total 1 = .ok (.tableswitch 96 0 6 #[43, 51, 59, 67, 75, 83, 91], 43) := by decide +kernel
theorem dX4_total_44 : decode cX4_total 44 = .ok (.aload_n 0, 1) := by decide +kernel
theorem dX4_total_45 : decode cX4_total 45 = .ok (.getfield 12, 3) := by decide +kernel
theorem dX4_total_48 : decode cX4_total 48 = .ok (.getfield 211, 3) := by decide +kernel
theorem dX4_total_51 : decode cX4_total 51 = .ok (.ireturn, 1) := by decide +kernel
theorem dX4_total_52 : decode cX4_total 52 = .ok (.aload_n 0, 1) := by decide +kernel
theorem dX4_total_53 : decode cX4_total 53 = .ok (.getfield 12, 3) := by decide +kernel
theorem dX4_total_56 : decode cX4_total 56 = .ok (.getfield 217, 3) := by decide +kernel
theorem dX4_total_59 : decode cX4_total 59 = .ok (.ireturn, 1) := by decide +kernel
theorem dX4_total_60 : decode cX4_total 60 = .ok (.aload_n 0, 1) := by decide +kernel
theorem dX4_total_61 : decode cX4_total 61 = .ok (.getfield 26, 3) := by decide +kernel
theorem dX4_total_64 : decode cX4_total 64 = .ok (.invokevirtual 167, 3) := by decide +kernel
theorem dX4_total_67 : decode cX4_total 67 = .ok (.ireturn, 1) := by decide +kernel
theorem dX4_total_68 : decode cX4_total 68 = .ok (.aload_n 0, 1) := by decide +kernel
theorem dX4_total_69 : decode cX4_total 69 = .ok (.getfield 26, 3) := by decide +kernel
theorem dX4_total_72 : decode cX4_total 72 = .ok (.getfield 138, 3) := by decide +kernel
theorem dX4_total_75 : decode cX4_total 75 = .ok (.ireturn, 1) := by decide +kernel
theorem dX4_total_76 : decode cX4_total 76 = .ok (.aload_n 0, 1) := by decide +kernel
theorem dX4_total_77 : decode cX4_total 77 = .ok (.getfield 38, 3) := by decide +kernel
theorem dX4_total_80 : decode cX4_total 80 = .ok (.getfield 173, 3) := by decide +kernel
theorem dX4_total_83 : decode cX4_total 83 = .ok (.ireturn, 1) := by decide +kernel
theorem dX4_total_84 : decode cX4_total 84 = .ok (.aload_n 0, 1) := by decide +kernel
theorem dX4_total_85 : decode cX4_total 85 = .ok (.getfield 26, 3) := by decide +kernel
theorem dX4_total_88 : decode cX4_total 88 = .ok (.invokevirtual 170, 3) := by decide +kernel
theorem dX4_total_91 : decode cX4_total 91 = .ok (.ireturn, 1) := by decide +kernel
theorem dX4_total_92 : decode cX4_total 92 = .ok (.aload_n 0, 1) := by decide +kernel
theorem dX4_total_93 : decode cX4_total 93 = .ok (.getfield 42, 3) := by decide +kernel
theorem dX4_total_96 : decode cX4_total 96 = .ok (.ireturn, 1) := by decide +kernel
theorem dX4_total_97 : decode cX4_total 97 = .ok (.bipush (-2), 2) := by decide +kernel
theorem dX4_total_99 : decode cX4_total 99 = .ok (.ireturn, 1) := by decide +kernel
set_option maxRecDepth 20000 in
theorem ggX4_isHeldAboveSkill_X2_heldFor : GoodIn wsX4_isHeldAboveSkill wsX2_heldFor := goodIn_r _ [9, 10, 24, 25, 26, 27, 28, 29, 30, 31, 32] rfl (by decide +kernel)
set_option maxRecDepth 20000 in
theorem gX4_isHeldAboveSkill_X2_heldFor : GoodIn wsX4_isHeldAboveSkill (wsV RX4 77 RX2 yX2_heldFor wsX2_heldFor) := goodIn_app (goodIn_r _ [5, 6, 7, 8] rfl (by decide +kernel)) ggX4_isHeldAboveSkill_X2_heldFor
theorem dX4_isHeldAboveSkill_0 : decode cX4_isHeldAboveSkill 0 = .ok (.aload_n 0, 1) := by decide +kernel
theorem dX4_isHeldAboveSkill_1 : decode cX4_isHeldAboveSkill 1 = .ok (.getfield 26, 3) := by decide +kernel
theorem dX4_isHeldAboveSkill_4 : decode cX4_isHeldAboveSkill 4 = .ok (.getfield 103, 3) := by decide +kernel
theorem dX4_isHeldAboveSkill_7 : decode cX4_isHeldAboveSkill 7 = .ok (.iload_n 1, 1) := by decide +kernel
theorem dX4_isHeldAboveSkill_8 : decode cX4_isHeldAboveSkill 8 = .ok (.iaload, 1) := by decide +kernel
theorem dX4_isHeldAboveSkill_9 : decode cX4_isHeldAboveSkill 9 = .ok (.istore_n 2, 1) := by decide +kernel
theorem dX4_isHeldAboveSkill_10 : decode cX4_isHeldAboveSkill 10 = .ok (.iload_n 2, 1) := by decide +kernel
theorem dX4_isHeldAboveSkill_11 : decode cX4_isHeldAboveSkill 11 = .ok (.bipush (-9), 2) := by decide +kernel
theorem dX4_isHeldAboveSkill_13 : decode cX4_isHeldAboveSkill 13 = .ok (.if_icmp .eq 28, 3) := by decide +kernel
theorem dX4_isHeldAboveSkill_16 : decode cX4_isHeldAboveSkill 16 = .ok (.aload_n 0, 1) := by decide +kernel
theorem dX4_isHeldAboveSkill_17 : decode cX4_isHeldAboveSkill 17 = .ok (.getfield 12, 3) := by decide +kernel
theorem dX4_isHeldAboveSkill_20 : decode cX4_isHeldAboveSkill 20 = .ok (.iload_n 2, 1) := by decide +kernel
theorem dX4_isHeldAboveSkill_21 : decode cX4_isHeldAboveSkill 21 = .ok (.iload_n 1, 1) := by decide +kernel
theorem dX4_isHeldAboveSkill_22 : decode cX4_isHeldAboveSkill 22 = .ok (.invokevirtual 77, 3) := by decide +kernel
theorem dX4_isHeldAboveSkill_25 : decode cX4_isHeldAboveSkill 25 = .ok (.aload_n 0, 1) := by decide +kernel
theorem dX4_isHeldAboveSkill_26 : decode cX4_isHeldAboveSkill 26 = .ok (.getfield 12, 3) := by decide +kernel
theorem dX4_isHeldAboveSkill_29 : decode cX4_isHeldAboveSkill 29 = .ok (.getfield 97, 3) := by decide +kernel
theorem dX4_isHeldAboveSkill_32 : decode cX4_isHeldAboveSkill 32 = .ok (.iload_n 1, 1) := by decide +kernel
theorem dX4_isHeldAboveSkill_33 : decode cX4_isHeldAboveSkill 33 = .ok (.iaload, 1) := by decide +kernel
theorem dX4_isHeldAboveSkill_34 : decode cX4_isHeldAboveSkill 34 = .ok (.if_icmp .le 7, 3) := by decide +kernel
theorem dX4_isHeldAboveSkill_37 : decode cX4_isHeldAboveSkill 37 = .ok (.iconst 1, 1) := by decide +kernel
theorem dX4_isHeldAboveSkill_38 : decode cX4_isHeldAboveSkill 38 = .ok (.goto 4, 3) := by decide +kernel
theorem dX4_isHeldAboveSkill_41 : decode cX4_isHeldAboveSkill 41 = .ok (.iconst 0, 1) := by decide +kernel
theorem dX4_isHeldAboveSkill_42 : decode cX4_isHeldAboveSkill 42 = .ok (.ireturn, 1) := by decide +kernel
theorem dX4_isWithin_0 : decode cX4_isWithin 0 = .ok (.iload_n 0, 1) := by decide +kernel
theorem dX4_isWithin_1 : decode cX4_isWithin 1 = .ok (.iload_n 1, 1) := by decide +kernel
theorem dX4_isWithin_2 : decode cX4_isWithin 2 = .ok (.if_icmp .lt 12, 3) := by decide +kernel
theorem dX4_isWithin_5 : decode cX4_isWithin 5 = .ok (.iload_n 0, 1) := by decide +kernel
theorem dX4_isWithin_6 : decode cX4_isWithin 6 = .ok (.iload_n 2, 1) := by decide +kernel
theorem dX4_isWithin_7 : decode cX4_isWithin 7 = .ok (.if_icmp .gt 7, 3) := by decide +kernel
theorem dX4_isWithin_10 : decode cX4_isWithin 10 = .ok (.iconst 1, 1) := by decide +kernel
theorem dX4_isWithin_11 : decode cX4_isWithin 11 = .ok (.goto 4, 3) := by decide +kernel
theorem dX4_isWithin_14 : decode cX4_isWithin 14 = .ok (.iconst 0, 1) := by decide +kernel
theorem dX4_isWithin_15 : decode cX4_isWithin 15 = .ok (.ireturn, 1) := by decide +kernel
set_option maxRecDepth 20000 in
theorem ggX4_isKind_X4_isWithin : GoodIn wsX4_isKind wsX4_isWithin := goodIn_r _ [4] rfl (by decide +kernel)
set_option maxRecDepth 20000 in
theorem gX4_isKind_X4_isWithin : GoodIn wsX4_isKind (va_wsS RX4 50 yX4_isWithin wsX4_isWithin) := goodIn_app (goodIn_r _ [1, 2, 3] rfl (by decide +kernel)) ggX4_isKind_X4_isWithin
theorem dX4_isKind_0 : decode cX4_isKind 0 = .ok (.iload_n 0, 1) := by decide +kernel
theorem dX4_isKind_1 : decode cX4_isKind 1 = .ok (.iconst 0, 1) := by decide +kernel
theorem dX4_isKind_2 : decode cX4_isKind 2 = .ok (.iconst 2, 1) := by decide +kernel
theorem dX4_isKind_3 : decode cX4_isKind 3 = .ok (.invokestatic 50, 3) := by decide +kernel
theorem dX4_isKind_6 : decode cX4_isKind 6 = .ok (.ireturn, 1) := by decide +kernel
set_option maxRecDepth 20000 in
theorem ggX4_isDay_X4_isWithin : GoodIn wsX4_isDay wsX4_isWithin := goodIn_r _ [4] rfl (by decide +kernel)
set_option maxRecDepth 20000 in
theorem gX4_isDay_X4_isWithin : GoodIn wsX4_isDay (va_wsS RX4 50 yX4_isWithin wsX4_isWithin) := goodIn_app (goodIn_r _ [1, 2, 3] rfl (by decide +kernel)) ggX4_isDay_X4_isWithin
theorem dX4_isDay_0 : decode cX4_isDay 0 = .ok (.iload_n 0, 1) := by decide +kernel
theorem dX4_isDay_1 : decode cX4_isDay 1 = .ok (.iconst 0, 1) := by decide +kernel
theorem dX4_isDay_2 : decode cX4_isDay 2 = .ok (.sipush 363, 3) := by decide +kernel
theorem dX4_isDay_5 : decode cX4_isDay 5 = .ok (.invokestatic 50, 3) := by decide +kernel
theorem dX4_isDay_8 : decode cX4_isDay 8 = .ok (.ireturn, 1) := by decide +kernel
