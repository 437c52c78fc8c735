set_option maxRecDepth 20000 in
theorem ggX0_init_X0_startAnew : GoodIn wsX0_init wsX0_startAnew := goodIn_r _ [16, 17, 5, 18, 7, 8, 9, 10, 11, 19, 20, 21, 22, 23, 24, 25, 26, 27, 28, 29, 30, 31, 32, 33] rfl (by decide +kernel)
set_option maxRecDepth 20000 in
theorem gX0_init_X0_startAnew : GoodIn wsX0_init (wsV RX0 35 RX0 yX0_startAnew wsX0_startAnew) := goodIn_app (goodIn_r _ [12, 13, 14, 15] rfl (by decide +kernel)) ggX0_init_X0_startAnew
theorem dX0_init_0 : decode cX0_init 0 = .ok (.aload_n 0, 1) := by decide +kernel
theorem dX0_init_1 : decode cX0_init 1 = .ok (.invokespecial 3, 3) := by decide +kernel
theorem dX0_init_4 : decode cX0_init 4 = .ok (.aload_n 0, 1) := by decide +kernel
theorem dX0_init_5 : decode cX0_init 5 = .ok (.aload_n 1, 1) := by decide +kernel
theorem dX0_init_6 : decode cX0_init 6 = .ok (.putfield 9, 3) := by decide +kernel
theorem dX0_init_9 : decode cX0_init 9 = .ok (.aload_n 0, 1) := by decide +kernel
theorem dX0_init_10 : decode cX0_init 10 = .ok (.aload_n 2, 1) := by decide +kernel
theorem dX0_init_11 : decode cX0_init 11 = .ok (.putfield 15, 3) := by decide +kernel
theorem dX0_init_14 : decode cX0_init 14 = .ok (.aload_n 0, 1) := by decide +kernel
theorem dX0_init_15 : decode cX0_init 15 = .ok (.bipush 10, 2) := by decide +kernel
theorem dX0_init_17 : decode cX0_init 17 = .ok (.newarray .int, 2) := by decide +kernel
theorem dX0_init_19 : decode cX0_init 19 = .ok (.putfield 19, 3) := by decide +kernel
theorem dX0_init_22 : decode cX0_init 22 = .ok (.aload_n 0, 1) := by decide +kernel
theorem dX0_init_23 : decode cX0_init 23 = .ok (.bipush 10, 2) := by decide +kernel
theorem dX0_init_25 : decode cX0_init 25 = .ok (.newarray .int, 2) := by decide +kernel
theorem dX0_init_27 : decode cX0_init 27 = .ok (.putfield 23, 3) := by decide +kernel
theorem dX0_init_30 : decode cX0_init 30 = .ok (.aload_n 0, 1) := by decide +kernel
theorem dX0_init_31 : decode cX0_init 31 = .ok (.bipush 10, 2) := by decide +kernel
theorem dX0_init_33 : decode cX0_init 33 = .ok (.newarray .int, 2) := by decide +kernel
theorem dX0_init_35 : decode cX0_init 35 = .ok (.putfield 26, 3) := by decide +kernel
theorem dX0_init_38 : decode cX0_init 38 = .ok (.aload_n 0, 1) := by decide +kernel
theorem dX0_init_39 : decode cX0_init 39 = .ok (.bipush 10, 2) := by decide +kernel
theorem dX0_init_41 : decode cX0_init 41 = .ok (.newarray .int, 2) := by decide +kernel
theorem dX0_init_43 : decode cX0_init 43 = .ok (.putfield 29, 3) := by decide +kernel
theorem dX0_init_46 : decode cX0_init 46 = .ok (.aload_n 0, 1) := by decide +kernel
theorem dX0_init_47 : decode cX0_init 47 = .ok (.bipush 10, 2) := by decide +kernel
theorem dX0_init_49 : decode cX0_init 49 = .ok (.newarray .int, 2) := by decide +kernel
theorem dX0_init_51 : decode cX0_init 51 = .ok (.putfield 32, 3) := by decide +kernel
theorem dX0_init_54 : decode cX0_init 54 = .ok (.aload_n 0, 1) := by decide +kernel
theorem dX0_init_55 : decode cX0_init 55 = .ok (.invokevirtual 35, 3) := by decide +kernel
theorem dX0_init_58 : decode cX0_init 58 = .ok (.return_, 1) := by decide +kernel
set_option maxRecDepth 20000 in
theorem ggX0_startAnew_J7_fill_53178 : GoodIn wsX0_startAnew wsJ7_fill_53178 := goodIn_r _ [12] rfl (by decide +kernel)
set_option maxRecDepth 20000 in
theorem gX0_startAnew_J7_fill_53178 : GoodIn wsX0_startAnew (va_wsS RX0 47 yJ7_fill_53178 wsJ7_fill_53178) := goodIn_app (goodIn_r _ [9, 10, 11] rfl (by decide +kernel)) ggX0_startAnew_J7_fill_53178
theorem dX0_startAnew_0 : decode cX0_startAnew 0 = .ok (.aload_n 0, 1) := by decide +kernel
theorem dX0_startAnew_1 : decode cX0_startAnew 1 = .ok (.iconst 0, 1) := by decide +kernel
theorem dX0_startAnew_2 : decode cX0_startAnew 2 = .ok (.putfield 38, 3) := by decide +kernel
theorem dX0_startAnew_5 : decode cX0_startAnew 5 = .ok (.aload_n 0, 1) := by decide +kernel
theorem dX0_startAnew_6 : decode cX0_startAnew 6 = .ok (.getfield 15, 3) := by decide +kernel
theorem dX0_startAnew_9 : decode cX0_startAnew 9 = .ok (.iconst 0, 1) := by decide +kernel
theorem dX0_startAnew_10 : decode cX0_startAnew 10 = .ok (.putfield 42, 3) := by decide +kernel
theorem dX0_startAnew_13 : decode cX0_startAnew 13 = .ok (.aload_n 0, 1) := by decide +kernel
theorem dX0_startAnew_14 : decode cX0_startAnew 14 = .ok (.getfield 19, 3) := by decide +kernel
theorem dX0_startAnew_17 : decode cX0_startAnew 17 = .ok (.bipush (-9), 2) := by decide +kernel
theorem dX0_startAnew_19 : decode cX0_startAnew 19 = .ok (.invokestatic 47, 3) := by decide +kernel
theorem dX0_startAnew_22 : decode cX0_startAnew 22 = .ok (.aload_n 0, 1) := by decide +kernel
theorem dX0_startAnew_23 : decode cX0_startAnew 23 = .ok (.getfield 23, 3) := by decide +kernel
theorem dX0_startAnew_26 : decode cX0_startAnew 26 = .ok (.bipush (-9), 2) := by decide +kernel
theorem dX0_startAnew_28 : decode cX0_startAnew 28 = .ok (.invokestatic 47, 3) := by decide +kernel
theorem dX0_startAnew_31 : decode cX0_startAnew 31 = .ok (.aload_n 0, 1) := by decide +kernel
theorem dX0_startAnew_32 : decode cX0_startAnew 32 = .ok (.getfield 26, 3) := by decide +kernel
theorem dX0_startAnew_35 : decode cX0_startAnew 35 = .ok (.bipush (-9), 2) := by decide +kernel
theorem dX0_startAnew_37 : decode cX0_startAnew 37 = .ok (.invokestatic 47, 3) := by decide +kernel
theorem dX0_startAnew_40 : decode cX0_startAnew 40 = .ok (.aload_n 0, 1) := by decide +kernel
theorem dX0_startAnew_41 : decode cX0_startAnew 41 = .ok (.getfield 29, 3) := by decide +kernel
theorem dX0_startAnew_44 : decode cX0_startAnew 44 = .ok (.bipush (-9), 2) := by decide +kernel
theorem dX0_startAnew_46 : decode cX0_startAnew 46 = .ok (.invokestatic 47, 3) := by decide +kernel
theorem dX0_startAnew_49 : decode cX0_startAnew 49 = .ok (.aload_n 0, 1) := by decide +kernel
theorem dX0_startAnew_50 : decode cX0_startAnew 50 = .ok (.getfield 32, 3) := by decide +kernel
theorem dX0_startAnew_53 : decode cX0_startAnew 53 = .ok (.iconst 0, 1) := by decide +kernel
theorem dX0_startAnew_54 : decode cX0_startAnew 54 = .ok (.invokestatic 47, 3) := by decide +kernel
theorem dX0_startAnew_57 : decode cX0_startAnew 57 = .ok (.return_, 1) := by decide +kernel
set_option maxRecDepth 20000 in
theorem ggX0_goOn_X0_playMinute : GoodIn wsX0_goOn wsX0_playMinute := goodIn_r _ [10, 11, 12, 13, 14, 15, 16, 9, 17, 18, 19, 20, 21, 22, 23, 24, 25, 26, 27, 28, 29, 30, 31, 32, 33, 34, 35, 36, 37, 38, 39, 40, 41, 42, 43, 44, 45, 46, 47, 48, 49, 50, 51, 52, 53, 54, 55, 56, 57, 58, 59, 60, 61, 62, 63, 64, 65, 66, 67, 68, 69, 70, 71, 72, 73, 74, 75, 76, 77, 78, 79, 80, 81, 82, 83, 84, 85, 86, 87, 88, 89, 90, 91, 92, 93, 94] rfl (by decide +kernel)
set_option maxRecDepth 20000 in
theorem gX0_goOn_X0_playMinute : GoodIn wsX0_goOn (wsV RX0 59 RX0 yX0_playMinute wsX0_playMinute) := goodIn_app (goodIn_r _ [6, 7, 8, 9] rfl (by decide +kernel)) ggX0_goOn_X0_playMinute
theorem dX0_goOn_0 : decode cX0_goOn 0 = .ok (.aload_n 0, 1) := by decide +kernel
theorem dX0_goOn_1 : decode cX0_goOn 1 = .ok (.getfield 38, 3) := by decide +kernel
theorem dX0_goOn_4 : decode cX0_goOn 4 = .ok (.iload_n 1, 1) := by decide +kernel
theorem dX0_goOn_5 : decode cX0_goOn 5 = .ok (.iadd, 1) := by decide +kernel
theorem dX0_goOn_6 : decode cX0_goOn 6 = .ok (.sipush 240, 3) := by decide +kernel
theorem dX0_goOn_9 : decode cX0_goOn 9 = .ok (.invokestatic 53, 3) := by decide +kernel
theorem dX0_goOn_12 : decode cX0_goOn 12 = .ok (.istore_n 3, 1) := by decide +kernel
theorem dX0_goOn_13 : decode cX0_goOn 13 = .ok (.iconst 1, 1) := by decide +kernel
theorem dX0_goOn_14 : decode cX0_goOn 14 = .ok (.istore 4, 2) := by decide +kernel
theorem dX0_goOn_16 : decode cX0_goOn 16 = .ok (.aload_n 0, 1) := by decide +kernel
theorem dX0_goOn_17 : decode cX0_goOn 17 = .ok (.getfield 38, 3) := by decide +kernel
theorem dX0_goOn_20 : decode cX0_goOn 20 = .ok (.istore 5, 2) := by decide +kernel
theorem dX0_goOn_22 : decode cX0_goOn 22 = .ok (.iload 5, 2) := by decide +kernel
theorem dX0_goOn_24 : decode cX0_goOn 24 = .ok (.iload_n 3, 1) := by decide +kernel
theorem dX0_goOn_25 : decode cX0_goOn 25 = .ok (.if_icmp .ge 23, 3) := by decide +kernel
theorem dX0_goOn_28 : decode cX0_goOn 28 = .ok (.iload 4, 2) := by decide +kernel
theorem dX0_goOn_30 : decode cX0_goOn 30 = .ok (.ifCond .eq 18, 3) := by decide +kernel
theorem dX0_goOn_33 : decode cX0_goOn 33 = .ok (.aload_n 0, 1) := by decide +kernel
theorem dX0_goOn_34 : decode cX0_goOn 34 = .ok (.iload 5, 2) := by decide +kernel
theorem dX0_goOn_36 : decode cX0_goOn 36 = .ok (.iload_n 2, 1) := by decide +kernel
theorem dX0_goOn_37 : decode cX0_goOn 37 = .ok (.invokevirtual 59, 3) := by decide +kernel
theorem dX0_goOn_40 : decode cX0_goOn 40 = .ok (.istore 4, 2) := by decide +kernel
theorem dX0_goOn_42 : decode cX0_goOn 42 = .ok (.iinc 5 1, 3) := by decide +kernel
theorem dX0_goOn_45 : decode cX0_goOn 45 = .ok (.goto (-23), 3) := by decide +kernel
theorem dX0_goOn_48 : decode cX0_goOn 48 = .ok (.aload_n 0, 1) := by decide +kernel
theorem dX0_goOn_49 : decode cX0_goOn 49 = .ok (.iload_n 3, 1) := by decide +kernel
theorem dX0_goOn_50 : decode cX0_goOn 50 = .ok (.putfield 38, 3) := by decide +kernel
theorem dX0_goOn_53 : decode cX0_goOn 53 = .ok (.return_, 1) := by decide +kernel
set_option maxRecDepth 20000 in
theorem ggX0_playMinute_X0_askBest : GoodIn wsX0_playMinute wsX0_askBest := goodIn_r _ [8, 1, 9, 10, 11, 12, 13, 14, 7, 15, 16, 17, 18, 19, 20, 21, 22, 23, 24, 25, 26, 27, 28, 29, 30, 31, 32, 33, 34, 35, 36, 37, 38, 39, 40, 41, 42, 43, 44, 45, 46, 47, 48, 49, 50, 51, 52, 53, 54, 55, 56, 57, 58, 59, 60, 61, 62, 63, 64, 3, 65, 66, 67, 68, 69, 70, 71, 72, 73, 74, 75, 76, 77, 78, 79, 80, 81, 82, 83, 84, 85] rfl (by decide +kernel)
set_option maxRecDepth 20000 in
theorem gX0_playMinute_X0_askBest : GoodIn wsX0_playMinute (wsV RX0 68 RX0 yX0_askBest wsX0_askBest) := goodIn_app (goodIn_r _ [4, 5, 6, 7] rfl (by decide +kernel)) ggX0_playMinute_X0_askBest
theorem dX0_playMinute_0 : decode cX0_playMinute 0 = .ok (.iconst 0, 1) := by decide +kernel
theorem dX0_playMinute_1 : decode cX0_playMinute 1 = .ok (.istore_n 3, 1) := by decide +kernel
theorem dX0_playMinute_2 : decode cX0_playMinute 2 = .ok (.iconst 0, 1) := by decide +kernel
theorem dX0_playMinute_3 : decode cX0_playMinute 3 = .ok (.istore 4, 2) := by decide +kernel
theorem dX0_playMinute_5 : decode cX0_playMinute 5 = .ok (.iload 4, 2) := by decide +kernel
theorem dX0_playMinute_7 : decode cX0_playMinute 7 = .ok (.aload_n 0, 1) := by decide +kernel
theorem dX0_playMinute_8 : decode cX0_playMinute 8 = .ok (.getfield 9, 3) := by decide +kernel
theorem dX0_playMinute_11 : decode cX0_playMinute 11 = .ok (.getfield 63, 3) := by decide +kernel
theorem dX0_playMinute_14 : decode cX0_playMinute 14 = .ok (.if_icmp .ge 56, 3) := by decide +kernel
theorem dX0_playMinute_17 : decode cX0_playMinute 17 = .ok (.iload_n 2, 1) := by decide +kernel
theorem dX0_playMinute_18 : decode cX0_playMinute 18 = .ok (.ifCond .eq 18, 3) := by decide +kernel
theorem dX0_playMinute_21 : decode cX0_playMinute 21 = .ok (.aload_n 0, 1) := by decide +kernel
theorem dX0_playMinute_22 : decode cX0_playMinute 22 = .ok (.getfield 9, 3) := by decide +kernel
theorem dX0_playMinute_25 : decode cX0_playMinute 25 = .ok (.getfield 63, 3) := by decide +kernel
theorem dX0_playMinute_28 : decode cX0_playMinute 28 = .ok (.iconst 1, 1) := by decide +kernel
theorem dX0_playMinute_29 : decode cX0_playMinute 29 = .ok (.isub, 1) := by decide +kernel
theorem dX0_playMinute_30 : decode cX0_playMinute 30 = .ok (.iload 4, 2) := by decide +kernel
theorem dX0_playMinute_32 : decode cX0_playMinute 32 = .ok (.isub, 1) := by decide +kernel
theorem dX0_playMinute_33 : decode cX0_playMinute 33 = .ok (.goto 5, 3) := by decide +kernel
theorem dX0_playMinute_36 : decode cX0_playMinute 36 = .ok (.iload 4, 2) := by decide +kernel
theorem dX0_playMinute_38 : decode cX0_playMinute 38 = .ok (.istore 5, 2) := by decide +kernel
theorem dX0_playMinute_40 : decode cX0_playMinute 40 = .ok (.aload_n 0, 1) := by decide +kernel
theorem dX0_playMinute_41 : decode cX0_playMinute 41 = .ok (.getfield 29, 3) := by decide +kernel
theorem dX0_playMinute_44 : decode cX0_playMinute 44 = .ok (.iload 5, 2) := by decide +kernel
theorem dX0_playMinute_46 : decode cX0_playMinute 46 = .ok (.iaload, 1) := by decide +kernel
theorem dX0_playMinute_47 : decode cX0_playMinute 47 = .ok (.bipush (-9), 2) := by decide +kernel
theorem dX0_playMinute_49 : decode cX0_playMinute 49 = .ok (.if_icmp .ne 15, 3) := by decide +kernel
theorem dX0_playMinute_52 : decode cX0_playMinute 52 = .ok (.aload_n 0, 1) := by decide +kernel
theorem dX0_playMinute_53 : decode cX0_playMinute 53 = .ok (.iload_n 1, 1) := by decide +kernel
theorem dX0_playMinute_54 : decode cX0_playMinute 54 = .ok (.iload 5, 2) := by decide +kernel
theorem dX0_playMinute_56 : decode cX0_playMinute 56 = .ok (.invokevirtual 68, 3) := by decide +kernel
theorem dX0_playMinute_59 : decode cX0_playMinute 59 = .ok (.ifCond .eq 5, 3) := by decide +kernel
theorem dX0_playMinute_62 : decode cX0_playMinute 62 = .ok (.iconst 1, 1) := by decide +kernel
theorem dX0_playMinute_63 : decode cX0_playMinute 63 = .ok (.istore_n 3, 1) := by decide +kernel
theorem dX0_playMinute_64 : decode cX0_playMinute 64 = .ok (.iinc 4 1, 3) := by decide +kernel
theorem dX0_playMinute_67 : decode cX0_playMinute 67 = .ok (.goto (-62), 3) := by decide +kernel
theorem dX0_playMinute_70 : decode cX0_playMinute 70 = .ok (.iload_n 3, 1) := by decide +kernel
theorem dX0_playMinute_71 : decode cX0_playMinute 71 = .ok (.ireturn, 1) := by decide +kernel
set_option maxRecDepth 20000 in
theorem ggX0_askBest_X0_choiceOf : GoodIn wsX0_askBest wsX0_choiceOf := goodIn_r _ [9, 1, 10, 11, 12, 13, 14, 15, 16, 17, 18, 19, 20, 21, 22, 23, 24, 25, 26, 27, 28, 29, 30, 31, 32, 8, 33, 3, 34, 35, 36, 37, 61, 62, 63, 64, 65, 66, 67, 68, 69, 70, 71, 72, 73, 74, 75, 76, 77] rfl (by decide +kernel)
set_option maxRecDepth 20000 in
theorem gX0_askBest_X0_choiceOf : GoodIn wsX0_askBest (wsV RX0 72 RX0 yX0_choiceOf wsX0_choiceOf) := goodIn_app (goodIn_r _ [5, 6, 7, 8] rfl (by decide +kernel)) ggX0_askBest_X0_choiceOf
set_option maxRecDepth 20000 in
theorem ggX0_askBest_X2_offerTo : GoodIn wsX0_askBest wsX2_offerTo := goodIn_r _ [15, 16, 17, 18, 19, 20, 21, 22, 14, 23, 24, 25, 26, 27, 28, 29, 69, 70, 71, 72, 73, 74, 75, 76, 77] rfl (by decide +kernel)
set_option maxRecDepth 20000 in
theorem gX0_askBest_X2_offerTo : GoodIn wsX0_askBest (wsV RX0 76 RX2 yX2_offerTo wsX2_offerTo) := goodIn_app (goodIn_r _ [11, 12, 13, 14] rfl (by decide +kernel)) ggX0_askBest_X2_offerTo
set_option maxRecDepth 20000 in
theorem ggX0_askBest_X0_takes : GoodIn wsX0_askBest wsX0_takes := goodIn_r _ [41, 42, 43, 44, 45, 8, 46, 2, 61, 62, 63, 64, 65, 66, 67, 68] rfl (by decide +kernel)
set_option maxRecDepth 20000 in
theorem gX0_askBest_X0_takes : GoodIn wsX0_askBest (wsV RX0 79 RX0 yX0_takes wsX0_takes) := goodIn_app (goodIn_r _ [38, 39, 40, 8] rfl (by decide +kernel)) ggX0_askBest_X0_takes
set_option maxRecDepth 20000 in
theorem ggX0_askBest_X1_write : GoodIn wsX0_askBest wsX1_write := goodIn_r _ [51, 52, 53, 54, 78, 79, 80] rfl (by decide +kernel)
set_option maxRecDepth 20000 in
theorem gX0_askBest_X1_write : GoodIn wsX0_askBest (wsV RX0 83 RX1 yX1_write wsX1_write) := goodIn_app (goodIn_r _ [47, 48, 49, 50] rfl (by decide +kernel)) ggX0_askBest_X1_write
set_option maxRecDepth 20000 in
theorem ggX0_askBest_X0_bind : GoodIn wsX0_askBest wsX0_bind := goodIn_r _ [58, 2, 59, 42, 60, 61, 62, 63, 64, 65, 66, 67, 68] rfl (by decide +kernel)
set_option maxRecDepth 20000 in
theorem gX0_askBest_X0_bind : GoodIn wsX0_askBest (wsV RX0 87 RX0 yX0_bind wsX0_bind) := goodIn_app (goodIn_r _ [55, 56, 57, 8] rfl (by decide +kernel)) ggX0_askBest_X0_bind
theorem dX0_askBest_0 : decode cX0_askBest 0 = .ok (.aload_n 0, 1) := by decide +kernel
theorem dX0_askBest_1 : decode cX0_askBest 1 = .ok (.iload_n 2, 1) := by decide +kernel
theorem dX0_askBest_2 : decode cX0_askBest 2 = .ok (.invokevirtual 72, 3) := by decide +kernel
theorem dX0_askBest_5 : decode cX0_askBest 5 = .ok (.istore_n 3, 1) := by decide +kernel
theorem dX0_askBest_6 : decode cX0_askBest 6 = .ok (.iload_n 3, 1) := by decide +kernel
theorem dX0_askBest_7 : decode cX0_askBest 7 = .ok (.bipush (-9), 2) := by decide +kernel
theorem dX0_askBest_9 : decode cX0_askBest 9 = .ok (.if_icmp .ne 5, 3) := by decide +kernel
theorem dX0_askBest_12 : decode cX0_askBest 12 = .ok (.iconst 0, 1) := by decide +kernel
theorem dX0_askBest_13 : decode cX0_askBest 13 = .ok (.ireturn, 1) := by decide +kernel
theorem dX0_askBest_14 : decode cX0_askBest 14 = .ok (.aload_n 0, 1) := by decide +kernel
theorem dX0_askBest_15 : decode cX0_askBest 15 = .ok (.getfield 9, 3) := by decide +kernel
theorem dX0_askBest_18 : decode cX0_askBest 18 = .ok (.iload_n 2, 1) := by decide +kernel
theorem dX0_askBest_19 : decode cX0_askBest 19 = .ok (.iload_n 3, 1) := by decide +kernel
theorem dX0_askBest_20 : decode cX0_askBest 20 = .ok (.invokevirtual 76, 3) := by decide +kernel
theorem dX0_askBest_23 : decode cX0_askBest 23 = .ok (.istore 4, 2) := by decide +kernel
theorem dX0_askBest_25 : decode cX0_askBest 25 = .ok (.aload_n 0, 1) := by decide +kernel
theorem dX0_askBest_26 : decode cX0_askBest 26 = .ok (.getfield 19, 3) := by decide +kernel
theorem dX0_askBest_29 : decode cX0_askBest 29 = .ok (.iload_n 3, 1) := by decide +kernel
theorem dX0_askBest_30 : decode cX0_askBest 30 = .ok (.iaload, 1) := by decide +kernel
theorem dX0_askBest_31 : decode cX0_askBest 31 = .ok (.istore 5, 2) := by decide +kernel
theorem dX0_askBest_33 : decode cX0_askBest 33 = .ok (.aload_n 0, 1) := by decide +kernel
theorem dX0_askBest_34 : decode cX0_askBest 34 = .ok (.getfield 32, 3) := by decide +kernel
theorem dX0_askBest_37 : decode cX0_askBest 37 = .ok (.iload_n 2, 1) := by decide +kernel
theorem dX0_askBest_38 : decode cX0_askBest 38 = .ok (.dup2, 1) := by decide +kernel
theorem dX0_askBest_39 : decode cX0_askBest 39 = .ok (.iaload, 1) := by decide +kernel
theorem dX0_askBest_40 : decode cX0_askBest 40 = .ok (.iconst 1, 1) := by decide +kernel
theorem dX0_askBest_41 : decode cX0_askBest 41 = .ok (.iload_n 3, 1) := by decide +kernel
theorem dX0_askBest_42 : decode cX0_askBest 42 = .ok (.ishl, 1) := by decide +kernel
theorem dX0_askBest_43 : decode cX0_askBest 43 = .ok (.ior, 1) := by decide +kernel
theorem dX0_askBest_44 : decode cX0_askBest 44 = .ok (.iastore, 1) := by decide +kernel
theorem dX0_askBest_45 : decode cX0_askBest 45 = .ok (.aload_n 0, 1) := by decide +kernel
theorem dX0_askBest_46 : decode cX0_askBest 46 = .ok (.iload_n 1, 1) := by decide +kernel
theorem dX0_askBest_47 : decode cX0_askBest 47 = .ok (.iload_n 3, 1) := by decide +kernel
theorem dX0_askBest_48 : decode cX0_askBest 48 = .ok (.iload 4, 2) := by decide +kernel
theorem dX0_askBest_50 : decode cX0_askBest 50 = .ok (.invokevirtual 79, 3) := by decide +kernel
theorem dX0_askBest_53 : decode cX0_askBest 53 = .ok (.ifCond .ne 20, 3) := by decide +kernel
theorem dX0_askBest_56 : decode cX0_askBest 56 = .ok (.aload_n 0, 1) := by decide +kernel
theorem dX0_askBest_57 : decode cX0_askBest 57 = .ok (.getfield 15, 3) := by decide +kernel
theorem dX0_askBest_60 : decode cX0_askBest 60 = .ok (.iload_n 1, 1) := by decide +kernel
theorem dX0_askBest_61 : decode cX0_askBest 61 = .ok (.iload_n 2, 1) := by decide +kernel
theorem dX0_askBest_62 : decode cX0_askBest 62 = .ok (.iload_n 3, 1) := by decide +kernel
theorem dX0_askBest_63 : decode cX0_askBest 63 = .ok (.iload 4, 2) := by decide +kernel
theorem dX0_askBest_65 : decode cX0_askBest 65 = .ok (.iconst 0, 1) := by decide +kernel
theorem dX0_askBest_66 : decode cX0_askBest 66 = .ok (.bipush (-9), 2) := by decide +kernel
theorem dX0_askBest_68 : decode cX0_askBest 68 = .ok (.invokevirtual 83, 3) := by decide +kernel
theorem dX0_askBest_71 : decode cX0_askBest 71 = .ok (.iconst 1, 1) := by decide +kernel
theorem dX0_askBest_72 : decode cX0_askBest 72 = .ok (.ireturn, 1) := by decide +kernel
theorem dX0_askBest_73 : decode cX0_askBest 73 = .ok (.iload 5, 2) := by decide +kernel
theorem dX0_askBest_75 : decode cX0_askBest 75 = .ok (.bipush (-9), 2) := by decide +kernel
theorem dX0_askBest_77 : decode cX0_askBest 77 = .ok (.if_icmp .ne 7, 3) := by decide +kernel
theorem dX0_askBest_80 : decode cX0_askBest 80 = .ok (.iconst 1, 1) := by decide +kernel
theorem dX0_askBest_81 : decode cX0_askBest 81 = .ok (.goto 4, 3) := by decide +kernel
theorem dX0_askBest_84 : decode cX0_askBest 84 = .ok (.iconst 2, 1) := by decide +kernel
theorem dX0_askBest_85 : decode cX0_askBest 85 = .ok (.istore 6, 2) := by decide +kernel
theorem dX0_askBest_87 : decode cX0_askBest 87 = .ok (.aload_n 0, 1) := by decide +kernel
theorem dX0_askBest_88 : decode cX0_askBest 88 = .ok (.getfield 15, 3) := by decide +kernel
theorem dX0_askBest_91 : decode cX0_askBest 91 = .ok (.iload_n 1, 1) := by decide +kernel
theorem dX0_askBest_92 : decode cX0_askBest 92 = .ok (.iload_n 2, 1) := by decide +kernel
theorem dX0_askBest_93 : decode cX0_askBest 93 = .ok (.iload_n 3, 1) := by decide +kernel
theorem dX0_askBest_94 : decode cX0_askBest 94 = .ok (.iload 4, 2) := by decide +kernel
theorem dX0_askBest_96 : decode cX0_askBest 96 = .ok (.iload 6, 2) := by decide +kernel
theorem dX0_askBest_98 : decode cX0_askBest 98 = .ok (.iload 5, 2) := by decide +kernel
theorem dX0_askBest_100 : decode cX0_askBest 100 = .ok (.invokevirtual 83, 3) := by decide +kernel
theorem dX0_askBest_103 : decode cX0_askBest 103 = .ok (.aload_n 0, 1) := by decide +kernel
theorem dX0_askBest_104 : decode cX0_askBest 104 = .ok (.iload_n 1, 1) := by decide +kernel
theorem dX0_askBest_105 : decode cX0_askBest 105 = .ok (.iload_n 2, 1) := by decide +kernel
theorem dX0_askBest_106 : decode cX0_askBest 106 = .ok (.iload_n 3, 1) := by decide +kernel
theorem dX0_askBest_107 : decode cX0_askBest 107 = .ok (.iload 4, 2) := by decide +kernel
theorem dX0_askBest_109 : decode cX0_askBest 109 = .ok (.invokevirtual 87, 3) := by decide +kernel
theorem dX0_askBest_112 : decode cX0_askBest 112 = .ok (.iconst 1, 1) := by decide +kernel
theorem dX0_askBest_113 : decode cX0_askBest 113 = .ok (.ireturn, 1) := by decide +kernel
set_option maxRecDepth 20000 in
theorem ggX0_choiceOf_X2_offerTo : GoodIn wsX0_choiceOf wsX2_offerTo := goodIn_r _ [7, 8, 9, 10, 11, 12, 13, 14, 6, 15, 16, 17, 18, 19, 20, 21, 40, 41, 42, 43, 44, 45, 46, 47, 48] rfl (by decide +kernel)
set_option maxRecDepth 20000 in
theorem gX0_choiceOf_X2_offerTo : GoodIn wsX0_choiceOf (wsV RX0 76 RX2 yX2_offerTo wsX2_offerTo) := goodIn_app (goodIn_r _ [3, 4, 5, 6] rfl (by decide +kernel)) ggX0_choiceOf_X2_offerTo
set_option maxRecDepth 20000 in
theorem ggX0_choiceOf_X0_hasAsked : GoodIn wsX0_choiceOf wsX0_hasAsked := goodIn_r _ [26, 27, 32, 33, 34, 35, 36, 37, 38, 39] rfl (by decide +kernel)
set_option maxRecDepth 20000 in
theorem gX0_choiceOf_X0_hasAsked : GoodIn wsX0_choiceOf (wsV RX0 94 RX0 yX0_hasAsked wsX0_hasAsked) := goodIn_app (goodIn_r _ [22, 23, 24, 25] rfl (by decide +kernel)) ggX0_choiceOf_X0_hasAsked
set_option maxRecDepth 20000 in
theorem ggX0_choiceOf_X2_likingAt : GoodIn wsX0_choiceOf wsX2_likingAt := goodIn_r _ [31, 17, 18, 19, 6, 20, 21, 40, 41, 42, 43, 44, 45, 46, 47, 48] rfl (by decide +kernel)
set_option maxRecDepth 20000 in
theorem gX0_choiceOf_X2_likingAt : GoodIn wsX0_choiceOf (wsV RX0 97 RX2 yX2_likingAt wsX2_likingAt) := goodIn_app (goodIn_r _ [28, 29, 30, 6] rfl (by decide +kernel)) ggX0_choiceOf_X2_likingAt
theorem dX0_choiceOf_0 : decode cX0_choiceOf 0 = .ok (.bipush (-9), 2) := by decide +kernel
theorem dX0_choiceOf_2 : decode cX0_choiceOf 2 = .ok (.istore_n 2, 1) := by decide +kernel
theorem dX0_choiceOf_3 : decode cX0_choiceOf 3 = .ok (.iconst 0, 1) := by decide +kernel
theorem dX0_choiceOf_4 : decode cX0_choiceOf 4 = .ok (.istore_n 3, 1) := by decide +kernel
theorem dX0_choiceOf_5 : decode cX0_choiceOf 5 = .ok (.iconst 0, 1) := by decide +kernel
theorem dX0_choiceOf_6 : decode cX0_choiceOf 6 = .ok (.istore 4, 2) := by decide +kernel
theorem dX0_choiceOf_8 : decode cX0_choiceOf 8 = .ok (.iload 4, 2) := by decide +kernel
theorem dX0_choiceOf_10 : decode cX0_choiceOf 10 = .ok (.aload_n 0, 1) := by decide +kernel
theorem dX0_choiceOf_11 : decode cX0_choiceOf 11 = .ok (.getfield 9, 3) := by decide +kernel
theorem dX0_choiceOf_14 : decode cX0_choiceOf 14 = .ok (.getfield 91, 3) := by decide +kernel
theorem dX0_choiceOf_17 : decode cX0_choiceOf 17 = .ok (.if_icmp .ge 73, 3) := by decide +kernel
theorem dX0_choiceOf_20 : decode cX0_choiceOf 20 = .ok (.aload_n 0, 1) := by decide +kernel
theorem dX0_choiceOf_21 : decode cX0_choiceOf 21 = .ok (.getfield 9, 3) := by decide +kernel
theorem dX0_choiceOf_24 : decode cX0_choiceOf 24 = .ok (.iload_n 1, 1) := by decide +kernel
theorem dX0_choiceOf_25 : decode cX0_choiceOf 25 = .ok (.iload 4, 2) := by decide +kernel
theorem dX0_choiceOf_27 : decode cX0_choiceOf 27 = .ok (.invokevirtual 76, 3) := by decide +kernel
theorem dX0_choiceOf_30 : decode cX0_choiceOf 30 = .ok (.istore 5, 2) := by decide +kernel
theorem dX0_choiceOf_32 : decode cX0_choiceOf 32 = .ok (.iload 5, 2) := by decide +kernel
theorem dX0_choiceOf_34 : decode cX0_choiceOf 34 = .ok (.bipush (-9), 2) := by decide +kernel
theorem dX0_choiceOf_36 : decode cX0_choiceOf 36 = .ok (.if_icmp .eq 48, 3) := by decide +kernel
theorem dX0_choiceOf_39 : decode cX0_choiceOf 39 = .ok (.aload_n 0, 1) := by decide +kernel
theorem dX0_choiceOf_40 : decode cX0_choiceOf 40 = .ok (.iload_n 1, 1) := by decide +kernel
theorem dX0_choiceOf_41 : decode cX0_choiceOf 41 = .ok (.iload 4, 2) := by decide +kernel
theorem dX0_choiceOf_43 : decode cX0_choiceOf 43 = .ok (.invokevirtual 94, 3) := by decide +kernel
theorem dX0_choiceOf_46 : decode cX0_choiceOf 46 = .ok (.ifCond .eq 6, 3) := by decide +kernel
theorem dX0_choiceOf_49 : decode cX0_choiceOf 49 = .ok (.goto 35, 3) := by decide +kernel
theorem dX0_choiceOf_52 : decode cX0_choiceOf 52 = .ok (.aload_n 0, 1) := by decide +kernel
theorem dX0_choiceOf_53 : decode cX0_choiceOf 53 = .ok (.getfield 9, 3) := by decide +kernel
theorem dX0_choiceOf_56 : decode cX0_choiceOf 56 = .ok (.iload_n 1, 1) := by decide +kernel
theorem dX0_choiceOf_57 : decode cX0_choiceOf 57 = .ok (.iload 4, 2) := by decide +kernel
theorem dX0_choiceOf_59 : decode cX0_choiceOf 59 = .ok (.iload 5, 2) := by decide +kernel
theorem dX0_choiceOf_61 : decode cX0_choiceOf 61 = .ok (.invokevirtual 97, 3) := by decide +kernel
theorem dX0_choiceOf_64 : decode cX0_choiceOf 64 = .ok (.istore 6, 2) := by decide +kernel
theorem dX0_choiceOf_66 : decode cX0_choiceOf 66 = .ok (.iload_n 2, 1) := by decide +kernel
theorem dX0_choiceOf_67 : decode cX0_choiceOf 67 = .ok (.bipush (-9), 2) := by decide +kernel
theorem dX0_choiceOf_69 : decode cX0_choiceOf 69 = .ok (.if_icmp .eq 9, 3) := by decide +kernel
theorem dX0_choiceOf_72 : decode cX0_choiceOf 72 = .ok (.iload 6, 2) := by decide +kernel
theorem dX0_choiceOf_74 : decode cX0_choiceOf 74 = .ok (.iload_n 3, 1) := by decide +kernel
theorem dX0_choiceOf_75 : decode cX0_choiceOf 75 = .ok (.if_icmp .le 9, 3) := by decide +kernel
theorem dX0_choiceOf_78 : decode cX0_choiceOf 78 = .ok (.iload 4, 2) := by decide +kernel
theorem dX0_choiceOf_80 : decode cX0_choiceOf 80 = .ok (.istore_n 2, 1) := by decide +kernel
theorem dX0_choiceOf_81 : decode cX0_choiceOf 81 = .ok (.iload 6, 2) := by decide +kernel
theorem dX0_choiceOf_83 : decode cX0_choiceOf 83 = .ok (.istore_n 3, 1) := by decide +kernel
theorem dX0_choiceOf_84 : decode cX0_choiceOf 84 = .ok (.iinc 4 1, 3) := by decide +kernel
theorem dX0_choiceOf_87 : decode cX0_choiceOf 87 = .ok (.goto (-79), 3) := by decide +kernel
theorem dX0_choiceOf_90 : decode cX0_choiceOf 90 = .ok (.iload_n 2, 1) := by decide +kernel
theorem dX0_choiceOf_91 : decode cX0_choiceOf 91 = .ok (.ireturn, 1) := by decide +kernel
set_option maxRecDepth 20000 in
theorem ggX0_takes_X0_isBound : GoodIn wsX0_takes wsX0_isBound := goodIn_r _ [6, 7, 8, 9, 10, 11, 12, 13, 14, 15] rfl (by decide +kernel)
set_option maxRecDepth 20000 in
theorem gX0_takes_X0_isBound : GoodIn wsX0_takes (wsV RX0 101 RX0 yX0_isBound wsX0_isBound) := goodIn_app (goodIn_r _ [2, 3, 4, 5] rfl (by decide +kernel)) ggX0_takes_X0_isBound
theorem dX0_takes_0 : decode cX0_takes 0 = .ok (.aload_n 0, 1) := by decide +kernel
theorem dX0_takes_1 : decode cX0_takes 1 = .ok (.iload_n 2, 1) := by decide +kernel
theorem dX0_takes_2 : decode cX0_takes 2 = .ok (.invokevirtual 101, 3) := by decide +kernel
theorem dX0_takes_5 : decode cX0_takes 5 = .ok (.ifCond .eq 19, 3) := by decide +kernel
theorem dX0_takes_8 : decode cX0_takes 8 = .ok (.iload_n 1, 1) := by decide +kernel
theorem dX0_takes_9 : decode cX0_takes 9 = .ok (.bipush 120, 2) := by decide +kernel
theorem dX0_takes_11 : decode cX0_takes 11 = .ok (.if_icmp .ge 17, 3) := by decide +kernel
theorem dX0_takes_14 : decode cX0_takes 14 = .ok (.iload_n 3, 1) := by decide +kernel
theorem dX0_takes_15 : decode cX0_takes 15 = .ok (.aload_n 0, 1) := by decide +kernel
theorem dX0_takes_16 : decode cX0_takes 16 = .ok (.getfield 23, 3) := by decide +kernel
theorem dX0_takes_19 : decode cX0_takes 19 = .ok (.iload_n 2, 1) := by decide +kernel
theorem dX0_takes_20 : decode cX0_takes 20 = .ok (.iaload, 1) := by decide +kernel
theorem dX0_takes_21 : decode cX0_takes 21 = .ok (.if_icmp .le 7, 3) := by decide +kernel
theorem dX0_takes_24 : decode cX0_takes 24 = .ok (.iconst 1, 1) := by decide +kernel
theorem dX0_takes_25 : decode cX0_takes 25 = .ok (.goto 4, 3) := by decide +kernel
theorem dX0_takes_28 : decode cX0_takes 28 = .ok (.iconst 0, 1) := by decide +kernel
theorem dX0_takes_29 : decode cX0_takes 29 = .ok (.ireturn, 1) := by decide +kernel
theorem dX0_bind_0 : decode cX0_bind 0 = .ok (.aload_n 0, 1) := by decide +kernel
theorem dX0_bind_1 : decode cX0_bind 1 = .ok (.getfield 19, 3) := by decide +kernel
theorem dX0_bind_4 : decode cX0_bind 4 = .ok (.iload_n 3, 1) := by decide +kernel
theorem dX0_bind_5 : decode cX0_bind 5 = .ok (.iaload, 1) := by decide +kernel
theorem dX0_bind_6 : decode cX0_bind 6 = .ok (.istore 5, 2) := by decide +kernel
theorem dX0_bind_8 : decode cX0_bind 8 = .ok (.iload 5, 2) := by decide +kernel
theorem dX0_bind_10 : decode cX0_bind 10 = .ok (.bipush (-9), 2) := by decide +kernel
theorem dX0_bind_12 : decode cX0_bind 12 = .ok (.if_icmp .eq 12, 3) := by decide +kernel
theorem dX0_bind_15 : decode cX0_bind 15 = .ok (.aload_n 0, 1) := by decide +kernel
theorem dX0_bind_16 : decode cX0_bind 16 = .ok (.getfield 29, 3) := by decide +kernel
theorem dX0_bind_19 : decode cX0_bind 19 = .ok (.iload 5, 2) := by decide +kernel
theorem dX0_bind_21 : decode cX0_bind 21 = .ok (.bipush (-9), 2) := by decide +kernel
theorem dX0_bind_23 : decode cX0_bind 23 = .ok (.iastore, 1) := by decide +kernel
theorem dX0_bind_24 : decode cX0_bind 24 = .ok (.aload_n 0, 1) := by decide +kernel
theorem dX0_bind_25 : decode cX0_bind 25 = .ok (.getfield 19, 3) := by decide +kernel
theorem dX0_bind_28 : decode cX0_bind 28 = .ok (.iload_n 3, 1) := by decide +kernel
theorem dX0_bind_29 : decode cX0_bind 29 = .ok (.iload_n 2, 1) := by decide +kernel
theorem dX0_bind_30 : decode cX0_bind 30 = .ok (.iastore, 1) := by decide +kernel
theorem dX0_bind_31 : decode cX0_bind 31 = .ok (.aload_n 0, 1) := by decide +kernel
theorem dX0_bind_32 : decode cX0_bind 32 = .ok (.getfield 29, 3) := by decide +kernel
theorem dX0_bind_35 : decode cX0_bind 35 = .ok (.iload_n 2, 1) := by decide +kernel
theorem dX0_bind_36 : decode cX0_bind 36 = .ok (.iload_n 3, 1) := by decide +kernel
theorem dX0_bind_37 : decode cX0_bind 37 = .ok (.iastore, 1) := by decide +kernel
theorem dX0_bind_38 : decode cX0_bind 38 = .ok (.aload_n 0, 1) := by decide +kernel
theorem dX0_bind_39 : decode cX0_bind 39 = .ok (.getfield 23, 3) := by decide +kernel
theorem dX0_bind_42 : decode cX0_bind 42 = .ok (.iload_n 3, 1) := by decide +kernel
theorem dX0_bind_43 : decode cX0_bind 43 = .ok (.iload 4, 2) := by decide +kernel
theorem dX0_bind_45 : decode cX0_bind 45 = .ok (.iastore, 1) := by decide +kernel
theorem dX0_bind_46 : decode cX0_bind 46 = .ok (.aload_n 0, 1) := by decide +kernel
theorem dX0_bind_47 : decode cX0_bind 47 = .ok (.getfield 26, 3) := by decide +kernel
theorem dX0_bind_50 : decode cX0_bind 50 = .ok (.iload_n 3, 1) := by decide +kernel
theorem dX0_bind_51 : decode cX0_bind 51 = .ok (.iload_n 1, 1) := by decide +kernel
theorem dX0_bind_52 : decode cX0_bind 52 = .ok (.iastore, 1) := by decide +kernel
theorem dX0_bind_53 : decode cX0_bind 53 = .ok (.return_, 1) := by decide +kernel
theorem dX0_isBound_0 : decode cX0_isBound 0 = .ok (.aload_n 0, 1) := by decide +kernel
theorem dX0_isBound_1 : decode cX0_isBound 1 = .ok (.getfield 19, 3) := by decide +kernel
theorem dX0_isBound_4 : decode cX0_isBound 4 = .ok (.iload_n 1, 1) := by decide +kernel
theorem dX0_isBound_5 : decode cX0_isBound 5 = .ok (.iaload, 1) := by decide +kernel
theorem dX0_isBound_6 : decode cX0_isBound 6 = .ok (.bipush (-9), 2) := by decide +kernel
theorem dX0_isBound_8 : decode cX0_isBound 8 = .ok (.if_icmp .eq 7, 3) := by decide +kernel
theorem dX0_isBound_11 : decode cX0_isBound 11 = .ok (.iconst 1, 1) := by decide +kernel
theorem dX0_isBound_12 : decode cX0_isBound 12 = .ok (.goto 4, 3) := by decide +kernel
theorem dX0_isBound_15 : decode cX0_isBound 15 = .ok (.iconst 0, 1) := by decide +kernel
theorem dX0_isBound_16 : decode cX0_isBound 16 = .ok (.ireturn, 1) := by decide +kernel
set_option maxRecDepth 20000 in
theorem ggX0_countAsked_J6_bitCount_0f7a4 : GoodIn wsX0_countAsked wsJ6_bitCount_0f7a4 := goodIn_r _ [5, 6, 7, 8] rfl (by decide +kernel)
set_option maxRecDepth 20000 in
theorem gX0_countAsked_J6_bitCount_0f7a4 : GoodIn wsX0_countAsked (va_wsS RX0 105 yJ6_bitCount_0f7a4 wsJ6_bitCount_0f7a4) := goodIn_app (goodIn_r _ [2, 3, 4] rfl (by decide +kernel)) ggX0_countAsked_J6_bitCount_0f7a4
theorem dX0_countAsked_0 : decode cX0_countAsked 0 = .ok (.aload_n 0, 1) := by decide +kernel
theorem dX0_countAsked_1 : decode cX0_countAsked 1 = .ok (.getfield 32, 3) := by decide +kernel
theorem dX0_countAsked_4 : decode cX0_countAsked 4 = .ok (.iload_n 1, 1) := by decide +kernel
theorem dX0_countAsked_5 : decode cX0_countAsked 5 = .ok (.iaload, 1) := by decide +kernel
theorem dX0_countAsked_6 : decode cX0_countAsked 6 = .ok (.invokestatic 105, 3) := by decide +kernel
theorem dX0_countAsked_9 : decode cX0_countAsked 9 = .ok (.ireturn, 1) := by decide +kernel
theorem dX0_hasAsked_0 : decode cX0_hasAsked 0 = .ok (.aload_n 0, 1) := by decide +kernel
theorem dX0_hasAsked_1 : decode cX0_hasAsked 1 = .ok (.getfield 32, 3) := by decide +kernel
theorem dX0_hasAsked_4 : decode cX0_hasAsked 4 = .ok (.iload_n 1, 1) := by decide +kernel
theorem dX0_hasAsked_5 : decode cX0_hasAsked 5 = .ok (.iaload, 1) := by decide +kernel
theorem dX0_hasAsked_6 : decode cX0_hasAsked 6 = .ok (.iconst 1, 1) := by decide +kernel
theorem dX0_hasAsked_7 : decode cX0_hasAsked 7 = .ok (.iload_n 2, 1) := by decide +kernel
theorem dX0_hasAsked_8 : decode cX0_hasAsked 8 = .ok (.ishl, 1) := by decide +kernel
theorem dX0_hasAsked_9 : decode cX0_hasAsked 9 = .ok (.iand, 1) := by decide +kernel
theorem dX0_hasAsked_10 : decode cX0_hasAsked 10 = .ok (.ifCond .eq 7, 3) := by decide +kernel
theorem dX0_hasAsked_13 : decode cX0_hasAsked 13 = .ok (.iconst 1, 1) := by decide +kernel
theorem dX0_hasAsked_14 : decode cX0_hasAsked 14 = .ok (.goto 4, 3) := by decide +kernel
theorem dX0_hasAsked_17 : decode cX0_hasAsked 17 = .ok (.iconst 0, 1) := by decide +kernel
theorem dX0_hasAsked_18 : decode cX0_hasAsked 18 = .ok (.ireturn, 1) := by decide +kernel
set_option maxRecDepth 20000 in
theorem ggX0_countBound_X0_isBound : GoodIn wsX0_countBound wsX0_isBound := goodIn_r _ [7, 8, 9, 10, 11, 12, 13, 14, 15, 16] rfl (by decide +kernel)
set_option maxRecDepth 20000 in
theorem gX0_countBound_X0_isBound : GoodIn wsX0_countBound (wsV RX0 101 RX0 yX0_isBound wsX0_isBound) := goodIn_app (goodIn_r _ [3, 4, 5, 6] rfl (by decide +kernel)) ggX0_countBound_X0_isBound
theorem dX0_countBound_0 : decode cX0_countBound 0 = .ok (.iconst 0, 1) := by decide +kernel
theorem dX0_countBound_1 : decode cX0_countBound 1 = .ok (.istore_n 1, 1) := by decide +kernel
theorem dX0_countBound_2 : decode cX0_countBound 2 = .ok (.iconst 0, 1) := by decide +kernel
theorem dX0_countBound_3 : decode cX0_countBound 3 = .ok (.istore_n 2, 1) := by decide +kernel
theorem dX0_countBound_4 : decode cX0_countBound 4 = .ok (.iload_n 2, 1) := by decide +kernel
theorem dX0_countBound_5 : decode cX0_countBound 5 = .ok (.aload_n 0, 1) := by decide +kernel
theorem dX0_countBound_6 : decode cX0_countBound 6 = .ok (.getfield 9, 3) := by decide +kernel
theorem dX0_countBound_9 : decode cX0_countBound 9 = .ok (.getfield 91, 3) := by decide +kernel
theorem dX0_countBound_12 : decode cX0_countBound 12 = .ok (.if_icmp .ge 20, 3) := by decide +kernel
theorem dX0_countBound_15 : decode cX0_countBound 15 = .ok (.aload_n 0, 1) := by decide +kernel
theorem dX0_countBound_16 : decode cX0_countBound 16 = .ok (.iload_n 2, 1) := by decide +kernel
theorem dX0_countBound_17 : decode cX0_countBound 17 = .ok (.invokevirtual 101, 3) := by decide +kernel
theorem dX0_countBound_20 : decode cX0_countBound 20 = .ok (.ifCond .eq 6, 3) := by decide +kernel
theorem dX0_countBound_23 : decode cX0_countBound 23 = .ok (.iinc 1 1, 3) := by decide +kernel
theorem dX0_countBound_26 : decode cX0_countBound 26 = .ok (.iinc 2 1, 3) := by decide +kernel
theorem dX0_countBound_29 : decode cX0_countBound 29 = .ok (.goto (-25), 3) := by decide +kernel
theorem dX0_countBound_32 : decode cX0_countBound 32 = .ok (.iload_n 1, 1) := by decide +kernel
theorem dX0_countBound_33 : decode cX0_countBound 33 = .ok (.ireturn, 1) := by decide +kernel
set_option maxRecDepth 20000 in
theorem ggX0_sumWages_X0_isBound : GoodIn wsX0_sumWages wsX0_isBound := goodIn_r _ [8, 9, 10, 11, 12, 13, 14, 15, 16, 17] rfl (by decide +kernel)
set_option maxRecDepth 20000 in
theorem gX0_sumWages_X0_isBound : GoodIn wsX0_sumWages (wsV RX0 101 RX0 yX0_isBound wsX0_isBound) := goodIn_app (goodIn_r _ [4, 5, 6, 7] rfl (by decide +kernel)) ggX0_sumWages_X0_isBound
theorem dX0_sumWages_0 : decode cX0_sumWages 0 = .ok (.iconst 0, 1) := by decide +kernel
theorem dX0_sumWages_1 : decode cX0_sumWages 1 = .ok (.istore_n 1, 1) := by decide +kernel
theorem dX0_sumWages_2 : decode cX0_sumWages 2 = .ok (.iconst 0, 1) := by decide +kernel
theorem dX0_sumWages_3 : decode cX0_sumWages 3 = .ok (.istore_n 2, 1) := by decide +kernel
theorem dX0_sumWages_4 : decode cX0_sumWages 4 = .ok (.iload_n 2, 1) := by decide +kernel
theorem dX0_sumWages_5 : decode cX0_sumWages 5 = .ok (.aload_n 0, 1) := by decide +kernel
theorem dX0_sumWages_6 : decode cX0_sumWages 6 = .ok (.getfield 9, 3) := by decide +kernel
theorem dX0_sumWages_9 : decode cX0_sumWages 9 = .ok (.getfield 91, 3) := by decide +kernel
theorem dX0_sumWages_12 : decode cX0_sumWages 12 = .ok (.if_icmp .ge 26, 3) := by decide +kernel
theorem dX0_sumWages_15 : decode cX0_sumWages 15 = .ok (.aload_n 0, 1) := by decide +kernel
theorem dX0_sumWages_16 : decode cX0_sumWages 16 = .ok (.iload_n 2, 1) := by decide +kernel
theorem dX0_sumWages_17 : decode cX0_sumWages 17 = .ok (.invokevirtual 101, 3) := by decide +kernel
theorem dX0_sumWages_20 : decode cX0_sumWages 20 = .ok (.ifCond .eq 12, 3) := by decide +kernel
theorem dX0_sumWages_23 : decode cX0_sumWages 23 = .ok (.iload_n 1, 1) := by decide +kernel
theorem dX0_sumWages_24 : decode cX0_sumWages 24 = .ok (.aload_n 0, 1) := by decide +kernel
theorem dX0_sumWages_25 : decode cX0_sumWages 25 = .ok (.getfield 23, 3) := by decide +kernel
theorem dX0_sumWages_28 : decode cX0_sumWages 28 = .ok (.iload_n 2, 1) := by decide +kernel
theorem dX0_sumWages_29 : decode cX0_sumWages 29 = .ok (.iaload, 1) := by decide +kernel
theorem dX0_sumWages_30 : decode cX0_sumWages 30 = .ok (.iadd, 1) := by decide +kernel
theorem dX0_sumWages_31 : decode cX0_sumWages 31 = .ok (.istore_n 1, 1) := by decide +kernel
theorem dX0_sumWages_32 : decode cX0_sumWages 32 = .ok (.iinc 2 1, 3) := by decide +kernel
theorem dX0_sumWages_35 : decode cX0_sumWages 35 = .ok (.goto (-31), 3) := by decide +kernel
theorem dX0_sumWages_38 : decode cX0_sumWages 38 = .ok (.iload_n 1, 1) := by decide +kernel
theorem dX0_sumWages_39 : decode cX0_sumWages 39 = .ok (.ireturn, 1) := by decide +kernel
set_option maxRecDepth 20000 in
theorem ggX0_countTorn_X0_isTorn : GoodIn wsX0_countTorn wsX0_isTorn := goodIn_r _ [8, 1, 9, 10, 11, 12, 13, 14, 15, 16, 17, 18, 19, 20, 21, 22, 23, 24, 25, 26, 27, 28, 29, 30, 31, 32, 7, 33, 34, 35, 36, 37, 38, 39, 40, 41, 42, 43, 44, 45, 46, 47, 48, 49, 50, 51, 52, 53, 54, 55, 56, 57, 58, 59] rfl (by decide +kernel)
set_option maxRecDepth 20000 in
theorem gX0_countTorn_X0_isTorn : GoodIn wsX0_countTorn (wsV RX0 110 RX0 yX0_isTorn wsX0_isTorn) := goodIn_app (goodIn_r _ [4, 5, 6, 7] rfl (by decide +kernel)) ggX0_countTorn_X0_isTorn
theorem dX0_countTorn_0 : decode cX0_countTorn 0 = .ok (.iconst 0, 1) := by decide +kernel
theorem dX0_countTorn_1 : decode cX0_countTorn 1 = .ok (.istore_n 1, 1) := by decide +kernel
theorem dX0_countTorn_2 : decode cX0_countTorn 2 = .ok (.iconst 0, 1) := by decide +kernel
theorem dX0_countTorn_3 : decode cX0_countTorn 3 = .ok (.istore_n 2, 1) := by decide +kernel
theorem dX0_countTorn_4 : decode cX0_countTorn 4 = .ok (.iload_n 2, 1) := by decide +kernel
theorem dX0_countTorn_5 : decode cX0_countTorn 5 = .ok (.aload_n 0, 1) := by decide +kernel
theorem dX0_countTorn_6 : decode cX0_countTorn 6 = .ok (.getfield 9, 3) := by decide +kernel
theorem dX0_countTorn_9 : decode cX0_countTorn 9 = .ok (.getfield 91, 3) := by decide +kernel
theorem dX0_countTorn_12 : decode cX0_countTorn 12 = .ok (.if_icmp .ge 40, 3) := by decide +kernel
theorem dX0_countTorn_15 : decode cX0_countTorn 15 = .ok (.iconst 0, 1) := by decide +kernel
theorem dX0_countTorn_16 : decode cX0_countTorn 16 = .ok (.istore_n 3, 1) := by decide +kernel
theorem dX0_countTorn_17 : decode cX0_countTorn 17 = .ok (.iload_n 3, 1) := by decide +kernel
theorem dX0_countTorn_18 : decode cX0_countTorn 18 = .ok (.aload_n 0, 1) := by decide +kernel
theorem dX0_countTorn_19 : decode cX0_countTorn 19 = .ok (.getfield 9, 3) := by decide +kernel
theorem dX0_countTorn_22 : decode cX0_countTorn 22 = .ok (.getfield 63, 3) := by decide +kernel
theorem dX0_countTorn_25 : decode cX0_countTorn 25 = .ok (.if_icmp .ge 21, 3) := by decide +kernel
theorem dX0_countTorn_28 : decode cX0_countTorn 28 = .ok (.aload_n 0, 1) := by decide +kernel
theorem dX0_countTorn_29 : decode cX0_countTorn 29 = .ok (.iload_n 2, 1) := by decide +kernel
theorem dX0_countTorn_30 : decode cX0_countTorn 30 = .ok (.iload_n 3, 1) := by decide +kernel
theorem dX0_countTorn_31 : decode cX0_countTorn 31 = .ok (.invokevirtual 110, 3) := by decide +kernel
theorem dX0_countTorn_34 : decode cX0_countTorn 34 = .ok (.ifCond .eq 6, 3) := by decide +kernel
theorem dX0_countTorn_37 : decode cX0_countTorn 37 = .ok (.iinc 1 1, 3) := by decide +kernel
theorem dX0_countTorn_40 : decode cX0_countTorn 40 = .ok (.iinc 3 1, 3) := by decide +kernel
theorem dX0_countTorn_43 : decode cX0_countTorn 43 = .ok (.goto (-26), 3) := by decide +kernel
theorem dX0_countTorn_46 : decode cX0_countTorn 46 = .ok (.iinc 2 1, 3) := by decide +kernel
theorem dX0_countTorn_49 : decode cX0_countTorn 49 = .ok (.goto (-45), 3) := by decide +kernel
theorem dX0_countTorn_52 : decode cX0_countTorn 52 = .ok (.iload_n 1, 1) := by decide +kernel
theorem dX0_countTorn_53 : decode cX0_countTorn 53 = .ok (.ireturn, 1) := by decide +kernel
set_option maxRecDepth 20000 in
theorem ggX0_findTorn_X0_isTorn : GoodIn wsX0_findTorn wsX0_isTorn := goodIn_r _ [8, 1, 9, 10, 11, 12, 13, 14, 15, 16, 17, 18, 19, 20, 21, 22, 23, 24, 25, 26, 27, 28, 29, 30, 31, 32, 7, 33, 34, 35, 36, 37, 38, 39, 40, 41, 42, 43, 44, 45, 46, 47, 48, 49, 50, 51, 52, 53, 54, 55, 56, 57, 58, 59] rfl (by decide +kernel)
set_option maxRecDepth 20000 in
theorem gX0_findTorn_X0_isTorn : GoodIn wsX0_findTorn (wsV RX0 110 RX0 yX0_isTorn wsX0_isTorn) := goodIn_app (goodIn_r _ [4, 5, 6, 7] rfl (by decide +kernel)) ggX0_findTorn_X0_isTorn
theorem dX0_findTorn_0 : decode cX0_findTorn 0 = .ok (.iconst 0, 1) := by decide +kernel
theorem dX0_findTorn_1 : decode cX0_findTorn 1 = .ok (.istore_n 2, 1) := by decide +kernel
theorem dX0_findTorn_2 : decode cX0_findTorn 2 = .ok (.iconst 0, 1) := by decide +kernel
theorem dX0_findTorn_3 : decode cX0_findTorn 3 = .ok (.istore_n 3, 1) := by decide +kernel
theorem dX0_findTorn_4 : decode cX0_findTorn 4 = .ok (.iload_n 3, 1) := by decide +kernel
theorem dX0_findTorn_5 : decode cX0_findTorn 5 = .ok (.aload_n 0, 1) := by decide +kernel
theorem dX0_findTorn_6 : decode cX0_findTorn 6 = .ok (.getfield 9, 3) := by decide +kernel
theorem dX0_findTorn_9 : decode cX0_findTorn 9 = .ok (.getfield 91, 3) := by decide +kernel
theorem dX0_findTorn_12 : decode cX0_findTorn 12 = .ok (.if_icmp .ge 59, 3) := by decide +kernel
theorem dX0_findTorn_15 : decode cX0_findTorn 15 = .ok (.iconst 0, 1) := by decide +kernel
theorem dX0_findTorn_16 : decode cX0_findTorn 16 = .ok (.istore 4, 2) := by decide +kernel
theorem dX0_findTorn_18 : decode cX0_findTorn 18 = .ok (.iload 4, 2) := by decide +kernel
theorem dX0_findTorn_20 : decode cX0_findTorn 20 = .ok (.aload_n 0, 1) := by decide +kernel
theorem dX0_findTorn_21 : decode cX0_findTorn 21 = .ok (.getfield 9, 3) := by decide +kernel
theorem dX0_findTorn_24 : decode cX0_findTorn 24 = .ok (.getfield 63, 3) := by decide +kernel
theorem dX0_findTorn_27 : decode cX0_findTorn 27 = .ok (.if_icmp .ge 38, 3) := by decide +kernel
theorem dX0_findTorn_30 : decode cX0_findTorn 30 = .ok (.aload_n 0, 1) := by decide +kernel
theorem dX0_findTorn_31 : decode cX0_findTorn 31 = .ok (.iload_n 3, 1) := by decide +kernel
theorem dX0_findTorn_32 : decode cX0_findTorn 32 = .ok (.iload 4, 2) := by decide +kernel
theorem dX0_findTorn_34 : decode cX0_findTorn 34 = .ok (.invokevirtual 110, 3) := by decide +kernel
theorem dX0_findTorn_37 : decode cX0_findTorn 37 = .ok (.ifCond .ne 6, 3) := by decide +kernel
theorem dX0_findTorn_40 : decode cX0_findTorn 40 = .ok (.goto 19, 3) := by decide +kernel
theorem dX0_findTorn_43 : decode cX0_findTorn 43 = .ok (.iload_n 2, 1) := by decide +kernel
theorem dX0_findTorn_44 : decode cX0_findTorn 44 = .ok (.iload_n 1, 1) := by decide +kernel
theorem dX0_findTorn_45 : decode cX0_findTorn 45 = .ok (.if_icmp .ne 11, 3) := by decide +kernel
theorem dX0_findTorn_48 : decode cX0_findTorn 48 = .ok (.bipush 10, 2) := by decide +kernel
theorem dX0_findTorn_50 : decode cX0_findTorn 50 = .ok (.iload_n 3, 1) := by decide +kernel
theorem dX0_findTorn_51 : decode cX0_findTorn 51 = .ok (.imul, 1) := by decide +kernel
theorem dX0_findTorn_52 : decode cX0_findTorn 52 = .ok (.iload 4, 2) := by decide +kernel
theorem dX0_findTorn_54 : decode cX0_findTorn 54 = .ok (.iadd, 1) := by decide +kernel
theorem dX0_findTorn_55 : decode cX0_findTorn 55 = .ok (.ireturn, 1) := by decide +kernel
theorem dX0_findTorn_56 : decode cX0_findTorn 56 = .ok (.iinc 2 1, 3) := by decide +kernel
theorem dX0_findTorn_59 : decode cX0_findTorn 59 = .ok (.iinc 4 1, 3) := by decide +kernel
theorem dX0_findTorn_62 : decode cX0_findTorn 62 = .ok (.goto (-44), 3) := by decide +kernel
theorem dX0_findTorn_65 : decode cX0_findTorn 65 = .ok (.iinc 3 1, 3) := by decide +kernel
theorem dX0_findTorn_68 : decode cX0_findTorn 68 = .ok (.goto (-64), 3) := by decide +kernel
theorem dX0_findTorn_71 : decode cX0_findTorn 71 = .ok (.bipush (-9), 2) := by decide +kernel
theorem dX0_findTorn_73 : decode cX0_findTorn 73 = .ok (.ireturn, 1) := by decide +kernel
set_option maxRecDepth 20000 in
theorem ggX0_isTorn_X2_offerTo : GoodIn wsX0_isTorn wsX2_offerTo := goodIn_r _ [8, 9, 10, 11, 12, 13, 14, 15, 7, 16, 17, 18, 19, 20, 21, 22, 45, 46, 47, 48, 49, 50, 51, 52, 53] rfl (by decide +kernel)
set_option maxRecDepth 20000 in
theorem gX0_isTorn_X2_offerTo : GoodIn wsX0_isTorn (wsV RX0 76 RX2 yX2_offerTo wsX2_offerTo) := goodIn_app (goodIn_r _ [4, 5, 6, 7] rfl (by decide +kernel)) ggX0_isTorn_X2_offerTo
set_option maxRecDepth 20000 in
theorem ggX0_isTorn_X0_isBound : GoodIn wsX0_isTorn wsX0_isBound := goodIn_r _ [27, 2, 37, 38, 39, 40, 41, 42, 43, 44] rfl (by decide +kernel)
set_option maxRecDepth 20000 in
theorem gX0_isTorn_X0_isBound : GoodIn wsX0_isTorn (wsV RX0 101 RX0 yX0_isBound wsX0_isBound) := goodIn_app (goodIn_r _ [23, 24, 25, 26] rfl (by decide +kernel)) ggX0_isTorn_X0_isBound
set_option maxRecDepth 20000 in
theorem ggX0_isTorn_X0_wouldRather : GoodIn wsX0_isTorn wsX0_wouldRather := goodIn_r _ [31, 32, 1, 3, 33, 34, 35, 7, 36, 18, 19, 20, 21, 22, 37, 38, 39, 40, 41, 42, 43, 44, 45, 46, 47, 48, 49, 50, 51, 52, 53] rfl (by decide +kernel)
set_option maxRecDepth 20000 in
theorem gX0_isTorn_X0_wouldRather : GoodIn wsX0_isTorn (wsV RX0 113 RX0 yX0_wouldRather wsX0_wouldRather) := goodIn_app (goodIn_r _ [28, 29, 30, 26] rfl (by decide +kernel)) ggX0_isTorn_X0_wouldRather
theorem dX0_isTorn_0 : decode cX0_isTorn 0 = .ok (.aload_n 0, 1) := by decide +kernel
theorem dX0_isTorn_1 : decode cX0_isTorn 1 = .ok (.getfield 9, 3) := by decide +kernel
theorem dX0_isTorn_4 : decode cX0_isTorn 4 = .ok (.iload_n 2, 1) := by decide +kernel
theorem dX0_isTorn_5 : decode cX0_isTorn 5 = .ok (.iload_n 1, 1) := by decide +kernel
theorem dX0_isTorn_6 : decode cX0_isTorn 6 = .ok (.invokevirtual 76, 3) := by decide +kernel
theorem dX0_isTorn_9 : decode cX0_isTorn 9 = .ok (.istore_n 3, 1) := by decide +kernel
theorem dX0_isTorn_10 : decode cX0_isTorn 10 = .ok (.iload_n 3, 1) := by decide +kernel
theorem dX0_isTorn_11 : decode cX0_isTorn 11 = .ok (.bipush (-9), 2) := by decide +kernel
theorem dX0_isTorn_13 : decode cX0_isTorn 13 = .ok (.if_icmp .eq 13, 3) := by decide +kernel
theorem dX0_isTorn_16 : decode cX0_isTorn 16 = .ok (.aload_n 0, 1) := by decide +kernel
theorem dX0_isTorn_17 : decode cX0_isTorn 17 = .ok (.getfield 19, 3) := by decide +kernel
theorem dX0_isTorn_20 : decode cX0_isTorn 20 = .ok (.iload_n 1, 1) := by decide +kernel
theorem dX0_isTorn_21 : decode cX0_isTorn 21 = .ok (.iaload, 1) := by decide +kernel
theorem dX0_isTorn_22 : decode cX0_isTorn 22 = .ok (.iload_n 2, 1) := by decide +kernel
theorem dX0_isTorn_23 : decode cX0_isTorn 23 = .ok (.if_icmp .ne 5, 3) := by decide +kernel
theorem dX0_isTorn_26 : decode cX0_isTorn 26 = .ok (.iconst 0, 1) := by decide +kernel
theorem dX0_isTorn_27 : decode cX0_isTorn 27 = .ok (.ireturn, 1) := by decide +kernel
theorem dX0_isTorn_28 : decode cX0_isTorn 28 = .ok (.aload_n 0, 1) := by decide +kernel
theorem dX0_isTorn_29 : decode cX0_isTorn 29 = .ok (.iload_n 1, 1) := by decide +kernel
theorem dX0_isTorn_30 : decode cX0_isTorn 30 = .ok (.invokevirtual 101, 3) := by decide +kernel
theorem dX0_isTorn_33 : decode cX0_isTorn 33 = .ok (.ifCond .eq 13, 3) := by decide +kernel
theorem dX0_isTorn_36 : decode cX0_isTorn 36 = .ok (.aload_n 0, 1) := by decide +kernel
theorem dX0_isTorn_37 : decode cX0_isTorn 37 = .ok (.getfield 23, 3) := by decide +kernel
theorem dX0_isTorn_40 : decode cX0_isTorn 40 = .ok (.iload_n 1, 1) := by decide +kernel
theorem dX0_isTorn_41 : decode cX0_isTorn 41 = .ok (.iaload, 1) := by decide +kernel
theorem dX0_isTorn_42 : decode cX0_isTorn 42 = .ok (.iload_n 3, 1) := by decide +kernel
theorem dX0_isTorn_43 : decode cX0_isTorn 43 = .ok (.if_icmp .ge 7, 3) := by decide +kernel
theorem dX0_isTorn_46 : decode cX0_isTorn 46 = .ok (.iconst 1, 1) := by decide +kernel
theorem dX0_isTorn_47 : decode cX0_isTorn 47 = .ok (.goto 4, 3) := by decide +kernel
theorem dX0_isTorn_50 : decode cX0_isTorn 50 = .ok (.iconst 0, 1) := by decide +kernel
theorem dX0_isTorn_51 : decode cX0_isTorn 51 = .ok (.istore 4, 2) := by decide +kernel
theorem dX0_isTorn_53 : decode cX0_isTorn 53 = .ok (.iload 4, 2) := by decide +kernel
theorem dX0_isTorn_55 : decode cX0_isTorn 55 = .ok (.ifCond .eq 17, 3) := by decide +kernel
theorem dX0_isTorn_58 : decode cX0_isTorn 58 = .ok (.aload_n 0, 1) := by decide +kernel
theorem dX0_isTorn_59 : decode cX0_isTorn 59 = .ok (.iload_n 2, 1) := by decide +kernel
theorem dX0_isTorn_60 : decode cX0_isTorn 60 = .ok (.iload_n 1, 1) := by decide +kernel
theorem dX0_isTorn_61 : decode cX0_isTorn 61 = .ok (.iload_n 3, 1) := by decide +kernel
theorem dX0_isTorn_62 : decode cX0_isTorn 62 = .ok (.invokevirtual 113, 3) := by decide +kernel
theorem dX0_isTorn_65 : decode cX0_isTorn 65 = .ok (.ifCond .eq 7, 3) := by decide +kernel
theorem dX0_isTorn_68 : decode cX0_isTorn 68 = .ok (.iconst 1, 1) := by decide +kernel
theorem dX0_isTorn_69 : decode cX0_isTorn 69 = .ok (.goto 4, 3) := by decide +kernel
theorem dX0_isTorn_72 : decode cX0_isTorn 72 = .ok (.iconst 0, 1) := by decide +kernel
theorem dX0_isTorn_73 : decode cX0_isTorn 73 = .ok (.ireturn, 1) := by decide +kernel
set_option maxRecDepth 20000 in
theorem ggX0_wouldRather_X2_likingAt : GoodIn wsX0_wouldRather wsX2_likingAt := goodIn_r _ [8, 9, 10, 11, 7, 12, 13, 22, 23, 24, 25, 26, 27, 28, 29, 30] rfl (by decide +kernel)
set_option maxRecDepth 20000 in
theorem gX0_wouldRather_X2_likingAt : GoodIn wsX0_wouldRather (wsV RX0 97 RX2 yX2_likingAt wsX2_likingAt) := goodIn_app (goodIn_r _ [4, 5, 6, 7] rfl (by decide +kernel)) ggX0_wouldRather_X2_likingAt
theorem dX0_wouldRather_0 : decode cX0_wouldRather 0 = .ok (.aload_n 0, 1) := by decide +kernel
theorem dX0_wouldRather_1 : decode cX0_wouldRather 1 = .ok (.getfield 29, 3) := by decide +kernel
theorem dX0_wouldRather_4 : decode cX0_wouldRather 4 = .ok (.iload_n 1, 1) := by decide +kernel
theorem dX0_wouldRather_5 : decode cX0_wouldRather 5 = .ok (.iaload, 1) := by decide +kernel
theorem dX0_wouldRather_6 : decode cX0_wouldRather 6 = .ok (.istore 4, 2) := by decide +kernel
theorem dX0_wouldRather_8 : decode cX0_wouldRather 8 = .ok (.iload 4, 2) := by decide +kernel
theorem dX0_wouldRather_10 : decode cX0_wouldRather 10 = .ok (.bipush (-9), 2) := by decide +kernel
theorem dX0_wouldRather_12 : decode cX0_wouldRather 12 = .ok (.if_icmp .eq 33, 3) := by decide +kernel
theorem dX0_wouldRather_15 : decode cX0_wouldRather 15 = .ok (.aload_n 0, 1) := by decide +kernel
theorem dX0_wouldRather_16 : decode cX0_wouldRather 16 = .ok (.getfield 9, 3) := by decide +kernel
theorem dX0_wouldRather_19 : decode cX0_wouldRather 19 = .ok (.iload_n 1, 1) := by decide +kernel
theorem dX0_wouldRather_20 : decode cX0_wouldRather 20 = .ok (.iload 4, 2) := by decide +kernel
theorem dX0_wouldRather_22 : decode cX0_wouldRather 22 = .ok (.aload_n 0, 1) := by decide +kernel
theorem dX0_wouldRather_23 : decode cX0_wouldRather 23 = .ok (.getfield 23, 3) := by decide +kernel
theorem dX0_wouldRather_26 : decode cX0_wouldRather 26 = .ok (.iload 4, 2) := by decide +kernel
theorem dX0_wouldRather_28 : decode cX0_wouldRather 28 = .ok (.iaload, 1) := by decide +kernel
theorem dX0_wouldRather_29 : decode cX0_wouldRather 29 = .ok (.invokevirtual 97, 3) := by decide +kernel
theorem dX0_wouldRather_32 : decode cX0_wouldRather 32 = .ok (.aload_n 0, 1) := by decide +kernel
theorem dX0_wouldRather_33 : decode cX0_wouldRather 33 = .ok (.getfield 9, 3) := by decide +kernel
theorem dX0_wouldRather_36 : decode cX0_wouldRather 36 = .ok (.iload_n 1, 1) := by decide +kernel
theorem dX0_wouldRather_37 : decode cX0_wouldRather 37 = .ok (.iload_n 2, 1) := by decide +kernel
theorem dX0_wouldRather_38 : decode cX0_wouldRather 38 = .ok (.iload_n 3, 1) := by decide +kernel
theorem dX0_wouldRather_39 : decode cX0_wouldRather 39 = .ok (.invokevirtual 97, 3) := by decide +kernel
theorem dX0_wouldRather_42 : decode cX0_wouldRather 42 = .ok (.if_icmp .ge 7, 3) := by decide +kernel
theorem dX0_wouldRather_45 : decode cX0_wouldRather 45 = .ok (.iconst 1, 1) := by decide +kernel
theorem dX0_wouldRather_46 : decode cX0_wouldRather 46 = .ok (.goto 4, 3) := by decide +kernel
theorem dX0_wouldRather_49 : decode cX0_wouldRather 49 = .ok (.iconst 0, 1) := by decide +kernel
theorem dX0_wouldRather_50 : decode cX0_wouldRather 50 = .ok (.ireturn, 1) := by decide +kernel
theorem dX1_init_0 : decode cX1_init 0 = .ok (.aload_n 0, 1) := by decide +kernel
theorem dX1_init_1 : decode cX1_init 1 = .ok (.invokespecial 1, 3) := by decide +kernel
theorem dX1_init_4 : decode cX1_init 4 = .ok (.aload_n 0, 1) := by decide +kernel
theorem dX1_init_5 : decode cX1_init 5 = .ok (.iload_n 1, 1) := by decide +kernel
theorem dX1_init_6 : decode cX1_init 6 = .ok (.iconst 0, 1) := by decide +kernel
theorem dX1_init_7 : decode cX1_init 7 = .ok (.invokestatic 7, 3) := by decide +kernel
theorem dX1_init_10 : decode cX1_init 10 = .ok (.putfield 13, 3) := by decide +kernel
theorem dX1_init_13 : decode cX1_init 13 = .ok (.aload_n 0, 1) := by decide +kernel
theorem dX1_init_14 : decode cX1_init 14 = .ok (.aload_n 0, 1) := by decide +kernel
theorem dX1_init_15 : decode cX1_init 15 = .ok (.getfield 13, 3) := by decide +kernel
theorem dX1_init_18 : decode cX1_init 18 = .ok (.bipush 6, 2) := by decide +kernel
theorem dX1_init_20 : decode cX1_init 20 = .ok (.imul, 1) := by decide +kernel
theorem dX1_init_21 : decode cX1_init 21 = .ok (.newarray .int, 2) := by decide +kernel
theorem dX1_init_23 : decode cX1_init 23 = .ok (.putfield 19, 3) := by decide +kernel
theorem dX1_init_26 : decode cX1_init 26 = .ok (.return_, 1) := by decide +kernel
theorem dX1_write_0 : decode cX1_write 0 = .ok (.aload_n 0, 1) := by decide +kernel
theorem dX1_write_1 : decode cX1_write 1 = .ok (.getfield 23, 3) := by decide +kernel
theorem dX1_write_4 : decode cX1_write 4 = .ok (.aload_n 0, 1) := by decide +kernel
theorem dX1_write_5 : decode cX1_write 5 = .ok (.getfield 13, 3) := by decide +kernel
theorem dX1_write_8 : decode cX1_write 8 = .ok (.if_icmp .lt 4, 3) := by decide +kernel
theorem dX1_write_11 : decode cX1_write 11 = .ok (.return_, 1) := by decide +kernel
theorem dX1_write_12 : decode cX1_write 12 = .ok (.aload_n 0, 1) := by decide +kernel
theorem dX1_write_13 : decode cX1_write 13 = .ok (.getfield 23, 3) := by decide +kernel
theorem dX1_write_16 : decode cX1_write 16 = .ok (.bipush 6, 2) := by decide +kernel
theorem dX1_write_18 : decode cX1_write 18 = .ok (.imul, 1) := by decide +kernel
theorem dX1_write_19 : decode cX1_write 19 = .ok (.istore 7, 2) := by decide +kernel
theorem dX1_write_21 : decode cX1_write 21 = .ok (.aload_n 0, 1) := by decide +kernel
theorem dX1_write_22 : decode cX1_write 22 = .ok (.getfield 19, 3) := by decide +kernel
theorem dX1_write_25 : decode cX1_write 25 = .ok (.iload 7, 2) := by decide +kernel
theorem dX1_write_27 : decode cX1_write 27 = .ok (.iload_n 1, 1) := by decide +kernel
theorem dX1_write_28 : decode cX1_write 28 = .ok (.iastore, 1) := by decide +kernel
theorem dX1_write_29 : decode cX1_write 29 = .ok (.aload_n 0, 1) := by decide +kernel
theorem dX1_write_30 : decode cX1_write 30 = .ok (.getfield 19, 3) := by decide +kernel
theorem dX1_write_33 : decode cX1_write 33 = .ok (.iload 7, 2) := by decide +kernel
theorem dX1_write_35 : decode cX1_write 35 = .ok (.iconst 1, 1) := by decide +kernel
theorem dX1_write_36 : decode cX1_write 36 = .ok (.iadd, 1) := by decide +kernel
theorem dX1_write_37 : decode cX1_write 37 = .ok (.iload_n 2, 1) := by decide +kernel
theorem dX1_write_38 : decode cX1_write 38 = .ok (.iastore, 1) := by decide +kernel
theorem dX1_write_39 : decode cX1_write 39 = .ok (.aload_n 0, 1) := by decide +kernel
theorem dX1_write_40 : decode cX1_write 40 = .ok (.getfield 19, 3) := by decide +kernel
theorem dX1_write_43 : decode cX1_write 43 = .ok (.iload 7, 2) := by decide +kernel
theorem dX1_write_45 : decode cX1_write 45 = .ok (.iconst 2, 1) := by decide +kernel
theorem dX1_write_46 : decode cX1_write 46 = .ok (.iadd, 1) := by decide +kernel
theorem dX1_write_47 : decode cX1_write 47 = .ok (.iload_n 3, 1) := by decide +kernel
theorem dX1_write_48 : decode cX1_write 48 = .ok (.iastore, 1) := by decide +kernel
theorem dX1_write_49 : decode cX1_write 49 = .ok (.aload_n 0, 1) := by decide +kernel
theorem dX1_write_50 : decode cX1_write 50 = .ok (.getfield 19, 3) := by decide +kernel
theorem dX1_write_53 : decode cX1_write 53 = .ok (.iload 7, 2) := by decide +kernel
theorem dX1_write_55 : decode cX1_write 55 = .ok (.iconst 3, 1) := by decide +kernel
theorem dX1_write_56 : decode cX1_write 56 = .ok (.iadd, 1) := by decide +kernel
theorem dX1_write_57 : decode cX1_write 57 = .ok (.iload 4, 2) := by decide +kernel
theorem dX1_write_59 : decode cX1_write 59 = .ok (.iastore, 1) := by decide +kernel
theorem dX1_write_60 : decode cX1_write 60 = .ok (.aload_n 0, 1) := by decide +kernel
theorem dX1_write_61 : decode cX1_write 61 = .ok (.getfield 19, 3) := by decide +kernel
theorem dX1_write_64 : decode cX1_write 64 = .ok (.iload 7, 2) := by decide +kernel
theorem dX1_write_66 : decode cX1_write 66 = .ok (.iconst 4, 1) := by decide +kernel
theorem dX1_write_67 : decode cX1_write 67 = .ok (.iadd, 1) := by decide +kernel
theorem dX1_write_68 : decode cX1_write 68 = .ok (.iload 5, 2) := by decide +kernel
theorem dX1_write_70 : decode cX1_write 70 = .ok (.iastore, 1) := by decide +kernel
theorem dX1_write_71 : decode cX1_write 71 = .ok (.aload_n 0, 1) := by decide +kernel
theorem dX1_write_72 : decode cX1_write 72 = .ok (.getfield 19, 3) := by decide +kernel
theorem dX1_write_75 : decode cX1_write 75 = .ok (.iload 7, 2) := by decide +kernel
theorem dX1_write_77 : decode cX1_write 77 = .ok (.iconst 5, 1) := by decide +kernel
theorem dX1_write_78 : decode cX1_write 78 = .ok (.iadd, 1) := by decide +kernel
theorem dX1_write_79 : decode cX1_write 79 = .ok (.iload 6, 2) := by decide +kernel
theorem dX1_write_81 : decode cX1_write 81 = .ok (.iastore, 1) := by decide +kernel
theorem dX1_write_82 : decode cX1_write 82 = .ok (.aload_n 0, 1) := by decide +kernel
theorem dX1_write_83 : decode cX1_write 83 = .ok (.dup, 1) := by decide +kernel
theorem dX1_write_84 : decode cX1_write 84 = .ok (.getfield 23, 3) := by decide +kernel
theorem dX1_write_87 : decode cX1_write 87 = .ok (.iconst 1, 1) := by decide +kernel
theorem dX1_write_88 : decode cX1_write 88 = .ok (.iadd, 1) := by decide +kernel
theorem dX1_write_89 : decode cX1_write 89 = .ok (.putfield 23, 3) := by decide +kernel
theorem dX1_write_92 : decode cX1_write 92 = .ok (.return_, 1) := by decide +kernel
theorem dX1_has_0 : decode cX1_has 0 = .ok (.iload_n 1, 1) := by decide +kernel
theorem dX1_has_1 : decode cX1_has 1 = .ok (.ifCond .lt 15, 3) := by decide +kernel
theorem dX1_has_4 : decode cX1_has 4 = .ok (.iload_n 1, 1) := by decide +kernel
theorem dX1_has_5 : decode cX1_has 5 = .ok (.aload_n 0, 1) := by decide +kernel
theorem dX1_has_6 : decode cX1_has 6 = .ok (.getfield 23, 3) := by decide +kernel
theorem dX1_has_9 : decode cX1_has 9 = .ok (.if_icmp .ge 7, 3) := by decide +kernel
theorem dX1_has_12 : decode cX1_has 12 = .ok (.iconst 1, 1) := by decide +kernel
theorem dX1_has_13 : decode cX1_has 13 = .ok (.goto 4, 3) := by decide +kernel
theorem dX1_has_16 : decode cX1_has 16 = .ok (.iconst 0, 1) := by decide +kernel
theorem dX1_has_17 : decode cX1_has 17 = .ok (.ireturn, 1) := by decide +kernel
theorem dX1_read_0 : decode cX1_read 0 = .ok (.aload_n 0, 1) := by decide +kernel
theorem dX1_read_1 : decode cX1_read 1 = .ok (.getfield 19, 3) := by decide +kernel
theorem dX1_read_4 : decode cX1_read 4 = .ok (.iload_n 1, 1) := by decide +kernel
theorem dX1_read_5 : decode cX1_read 5 = .ok (.bipush 6, 2) := by decide +kernel
theorem dX1_read_7 : decode cX1_read 7 = .ok (.imul, 1) := by decide +kernel
theorem dX1_read_8 : decode cX1_read 8 = .ok (.iload_n 2, 1) := by decide +kernel
theorem dX1_read_9 : decode cX1_read 9 = .ok (.iadd, 1) := by decide +kernel
theorem dX1_read_10 : decode cX1_read 10 = .ok (.iaload, 1) := by decide +kernel
theorem dX1_read_11 : decode cX1_read 11 = .ok (.ireturn, 1) := by decide +kernel
