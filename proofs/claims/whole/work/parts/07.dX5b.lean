set_option maxRecDepth 20000 in
theorem ggX5_go_X5_in : GoodIn wsX5_go wsX5_in := goodIn_r _ [10] rfl (by decide +kernel)
set_option maxRecDepth 20000 in
theorem gX5_go_X5_in : GoodIn wsX5_go (va_wsS RX5 84 yX5_in wsX5_in) := goodIn_app (goodIn_r _ [7, 8, 9] rfl (by decide +kernel)) ggX5_go_X5_in
set_option maxRecDepth 20000 in
theorem ggX5_go_X5_ask : GoodIn wsX5_go wsX5_ask := goodIn_r _ [14, 15, 16, 17, 4, 18, 19, 20, 21, 22, 23, 24, 9, 25, 26, 27, 28, 29, 30, 31, 32, 33, 34, 35, 36, 37, 38, 39, 40, 41, 42, 43, 44, 45, 46, 47, 48, 49, 50, 51, 52, 53, 54, 55, 56, 57, 58, 59, 60, 61, 62, 63, 64, 65, 66, 67, 68] rfl (by decide +kernel)
set_option maxRecDepth 20000 in
theorem gX5_go_X5_ask : GoodIn wsX5_go (wsV RX5 125 RX5 yX5_ask wsX5_ask) := goodIn_app (goodIn_r _ [11, 12, 13, 9] rfl (by decide +kernel)) ggX5_go_X5_ask
theorem dX5_go_0 : decode cX5_go 0 = .ok (.aload_n 0, 1) := by decide +kernel
theorem dX5_go_1 : decode cX5_go 1 = .ok (.iconst 0, 1) := by decide +kernel
theorem dX5_go_2 : decode cX5_go 2 = .ok (.putfield 78, 3) := by decide +kernel
theorem dX5_go_5 : decode cX5_go 5 = .ok (.iload_n 1, 1) := by decide +kernel
theorem dX5_go_6 : decode cX5_go 6 = .ok (.i2l, 1) := by decide +kernel
theorem dX5_go_7 : decode cX5_go 7 = .ok (.lconst 1, 1) := by decide +kernel
theorem dX5_go_8 : decode cX5_go 8 = .ok (.ldc2_w 123, 3) := by decide +kernel
theorem dX5_go_11 : decode cX5_go 11 = .ok (.invokestatic 84, 3) := by decide +kernel
theorem dX5_go_14 : decode cX5_go 14 = .ok (.ifCond .ne 6, 3) := by decide +kernel
theorem dX5_go_17 : decode cX5_go 17 = .ok (.bipush (-2), 2) := by decide +kernel
theorem dX5_go_19 : decode cX5_go 19 = .ok (.ireturn, 1) := by decide +kernel
theorem dX5_go_20 : decode cX5_go 20 = .ok (.aload_n 0, 1) := by decide +kernel
theorem dX5_go_21 : decode cX5_go 21 = .ok (.getfield 50, 3) := by decide +kernel
theorem dX5_go_24 : decode cX5_go 24 = .ok (.bipush (-9), 2) := by decide +kernel
theorem dX5_go_26 : decode cX5_go 26 = .ok (.if_icmp .eq 6, 3) := by decide +kernel
theorem dX5_go_29 : decode cX5_go 29 = .ok (.bipush (-3), 2) := by decide +kernel
theorem dX5_go_31 : decode cX5_go 31 = .ok (.ireturn, 1) := by decide +kernel
theorem dX5_go_32 : decode cX5_go 32 = .ok (.iconst 0, 1) := by decide +kernel
theorem dX5_go_33 : decode cX5_go 33 = .ok (.istore_n 2, 1) := by decide +kernel
theorem dX5_go_34 : decode cX5_go 34 = .ok (.iload_n 2, 1) := by decide +kernel
theorem dX5_go_35 : decode cX5_go 35 = .ok (.iload_n 1, 1) := by decide +kernel
theorem dX5_go_36 : decode cX5_go 36 = .ok (.if_icmp .ge 50, 3) := by decide +kernel
theorem dX5_go_39 : decode cX5_go 39 = .ok (.aload_n 0, 1) := by decide +kernel
theorem dX5_go_40 : decode cX5_go 40 = .ok (.getfield 117, 3) := by decide +kernel
theorem dX5_go_43 : decode cX5_go 43 = .ok (.sipush 240, 3) := by decide +kernel
theorem dX5_go_46 : decode cX5_go 46 = .ok (.if_icmp .ge 40, 3) := by decide +kernel
theorem dX5_go_49 : decode cX5_go 49 = .ok (.iconst 0, 1) := by decide +kernel
theorem dX5_go_50 : decode cX5_go 50 = .ok (.istore_n 3, 1) := by decide +kernel
theorem dX5_go_51 : decode cX5_go 51 = .ok (.iload_n 3, 1) := by decide +kernel
theorem dX5_go_52 : decode cX5_go 52 = .ok (.aload_n 0, 1) := by decide +kernel
theorem dX5_go_53 : decode cX5_go 53 = .ok (.getfield 88, 3) := by decide +kernel
theorem dX5_go_56 : decode cX5_go 56 = .ok (.if_icmp .ge 14, 3) := by decide +kernel
theorem dX5_go_59 : decode cX5_go 59 = .ok (.aload_n 0, 1) := by decide +kernel
theorem dX5_go_60 : decode cX5_go 60 = .ok (.iload_n 3, 1) := by decide +kernel
theorem dX5_go_61 : decode cX5_go 61 = .ok (.invokevirtual 125, 3) := by decide +kernel
theorem dX5_go_64 : decode cX5_go 64 = .ok (.iinc 3 1, 3) := by decide +kernel
theorem dX5_go_67 : decode cX5_go 67 = .ok (.goto (-16), 3) := by decide +kernel
theorem dX5_go_70 : decode cX5_go 70 = .ok (.aload_n 0, 1) := by decide +kernel
theorem dX5_go_71 : decode cX5_go 71 = .ok (.dup, 1) := by decide +kernel
theorem dX5_go_72 : decode cX5_go 72 = .ok (.getfield 117, 3) := by decide +kernel
theorem dX5_go_75 : decode cX5_go 75 = .ok (.iconst 1, 1) := by decide +kernel
theorem dX5_go_76 : decode cX5_go 76 = .ok (.iadd, 1) := by decide +kernel
theorem dX5_go_77 : decode cX5_go 77 = .ok (.putfield 117, 3) := by decide +kernel
theorem dX5_go_80 : decode cX5_go 80 = .ok (.iinc 2 1, 3) := by decide +kernel
theorem dX5_go_83 : decode cX5_go 83 = .ok (.goto (-49), 3) := by decide +kernel
theorem dX5_go_86 : decode cX5_go 86 = .ok (.aload_n 0, 1) := by decide +kernel
theorem dX5_go_87 : decode cX5_go 87 = .ok (.getfield 117, 3) := by decide +kernel
theorem dX5_go_90 : decode cX5_go 90 = .ok (.sipush 240, 3) := by decide +kernel
theorem dX5_go_93 : decode cX5_go 93 = .ok (.if_icmp .ne 31, 3) := by decide +kernel
theorem dX5_go_96 : decode cX5_go 96 = .ok (.aload_n 0, 1) := by decide +kernel
theorem dX5_go_97 : decode cX5_go 97 = .ok (.iconst 0, 1) := by decide +kernel
theorem dX5_go_98 : decode cX5_go 98 = .ok (.putfield 50, 3) := by decide +kernel
theorem dX5_go_101 : decode cX5_go 101 = .ok (.iconst 0, 1) := by decide +kernel
theorem dX5_go_102 : decode cX5_go 102 = .ok (.istore_n 2, 1) := by decide +kernel
theorem dX5_go_103 : decode cX5_go 103 = .ok (.iload_n 2, 1) := by decide +kernel
theorem dX5_go_104 : decode cX5_go 104 = .ok (.bipush 10, 2) := by decide +kernel
theorem dX5_go_106 : decode cX5_go 106 = .ok (.if_icmp .ge 18, 3) := by decide +kernel
theorem dX5_go_109 : decode cX5_go 109 = .ok (.aload_n 0, 1) := by decide +kernel
theorem dX5_go_110 : decode cX5_go 110 = .ok (.getfield 54, 3) := by decide +kernel
theorem dX5_go_113 : decode cX5_go 113 = .ok (.iload_n 2, 1) := by decide +kernel
theorem dX5_go_114 : decode cX5_go 114 = .ok (.sipush 363, 3) := by decide +kernel
theorem dX5_go_117 : decode cX5_go 117 = .ok (.iastore, 1) := by decide +kernel
theorem dX5_go_118 : decode cX5_go 118 = .ok (.iinc 2 1, 3) := by decide +kernel
theorem dX5_go_121 : decode cX5_go 121 = .ok (.goto (-18), 3) := by decide +kernel
theorem dX5_go_124 : decode cX5_go 124 = .ok (.aload_n 0, 1) := by decide +kernel
theorem dX5_go_125 : decode cX5_go 125 = .ok (.getfield 117, 3) := by decide +kernel
theorem dX5_go_128 : decode cX5_go 128 = .ok (.ireturn, 1) := by decide +kernel
theorem dX5_bargains_0 : decode cX5_bargains 0 = .ok (.aload_n 0, 1) := by decide +kernel
theorem dX5_bargains_1 : decode cX5_bargains 1 = .ok (.iconst 0, 1) := by decide +kernel
theorem dX5_bargains_2 : decode cX5_bargains 2 = .ok (.putfield 78, 3) := by decide +kernel
theorem dX5_bargains_5 : decode cX5_bargains 5 = .ok (.aload_n 0, 1) := by decide +kernel
theorem dX5_bargains_6 : decode cX5_bargains 6 = .ok (.getfield 120, 3) := by decide +kernel
theorem dX5_bargains_9 : decode cX5_bargains 9 = .ok (.ireturn, 1) := by decide +kernel
set_option maxRecDepth 20000 in
theorem ggX5_bargain_X5_in : GoodIn wsX5_bargain wsX5_in := goodIn_r _ [8] rfl (by decide +kernel)
set_option maxRecDepth 20000 in
theorem gX5_bargain_X5_in : GoodIn wsX5_bargain (va_wsS RX5 84 yX5_in wsX5_in) := goodIn_app (goodIn_r _ [5, 6, 7] rfl (by decide +kernel)) ggX5_bargain_X5_in
theorem dX5_bargain_0 : decode cX5_bargain 0 = .ok (.aload_n 0, 1) := by decide +kernel
theorem dX5_bargain_1 : decode cX5_bargain 1 = .ok (.iconst 0, 1) := by decide +kernel
theorem dX5_bargain_2 : decode cX5_bargain 2 = .ok (.putfield 78, 3) := by decide +kernel
theorem dX5_bargain_5 : decode cX5_bargain 5 = .ok (.iload_n 1, 1) := by decide +kernel
theorem dX5_bargain_6 : decode cX5_bargain 6 = .ok (.i2l, 1) := by decide +kernel
theorem dX5_bargain_7 : decode cX5_bargain 7 = .ok (.lconst 0, 1) := by decide +kernel
theorem dX5_bargain_8 : decode cX5_bargain 8 = .ok (.aload_n 0, 1) := by decide +kernel
theorem dX5_bargain_9 : decode cX5_bargain 9 = .ok (.getfield 120, 3) := by decide +kernel
theorem dX5_bargain_12 : decode cX5_bargain 12 = .ok (.iconst 1, 1) := by decide +kernel
theorem dX5_bargain_13 : decode cX5_bargain 13 = .ok (.isub, 1) := by decide +kernel
theorem dX5_bargain_14 : decode cX5_bargain 14 = .ok (.i2l, 1) := by decide +kernel
theorem dX5_bargain_15 : decode cX5_bargain 15 = .ok (.invokestatic 84, 3) := by decide +kernel
theorem dX5_bargain_18 : decode cX5_bargain 18 = .ok (.ifCond .ne 5, 3) := by decide +kernel
theorem dX5_bargain_21 : decode cX5_bargain 21 = .ok (.iconst (-1), 1) := by decide +kernel
theorem dX5_bargain_22 : decode cX5_bargain 22 = .ok (.ireturn, 1) := by decide +kernel
theorem dX5_bargain_23 : decode cX5_bargain 23 = .ok (.iload_n 2, 1) := by decide +kernel
theorem dX5_bargain_24 : decode cX5_bargain 24 = .ok (.i2l, 1) := by decide +kernel
theorem dX5_bargain_25 : decode cX5_bargain 25 = .ok (.lconst 0, 1) := by decide +kernel
theorem dX5_bargain_26 : decode cX5_bargain 26 = .ok (.ldc2_w 129, 3) := by decide +kernel
theorem dX5_bargain_29 : decode cX5_bargain 29 = .ok (.invokestatic 84, 3) := by decide +kernel
theorem dX5_bargain_32 : decode cX5_bargain 32 = .ok (.ifCond .eq 17, 3) := by decide +kernel
theorem dX5_bargain_35 : decode cX5_bargain 35 = .ok (.aload_n 0, 1) := by decide +kernel
theorem dX5_bargain_36 : decode cX5_bargain 36 = .ok (.getfield 47, 3) := by decide +kernel
theorem dX5_bargain_39 : decode cX5_bargain 39 = .ok (.bipush 6, 2) := by decide +kernel
theorem dX5_bargain_41 : decode cX5_bargain 41 = .ok (.iload_n 1, 1) := by decide +kernel
theorem dX5_bargain_42 : decode cX5_bargain 42 = .ok (.imul, 1) := by decide +kernel
theorem dX5_bargain_43 : decode cX5_bargain 43 = .ok (.iload_n 2, 1) := by decide +kernel
theorem dX5_bargain_44 : decode cX5_bargain 44 = .ok (.iadd, 1) := by decide +kernel
theorem dX5_bargain_45 : decode cX5_bargain 45 = .ok (.iaload, 1) := by decide +kernel
theorem dX5_bargain_46 : decode cX5_bargain 46 = .ok (.goto 5, 3) := by decide +kernel
theorem dX5_bargain_49 : decode cX5_bargain 49 = .ok (.bipush (-2), 2) := by decide +kernel
theorem dX5_bargain_51 : decode cX5_bargain 51 = .ok (.ireturn, 1) := by decide +kernel
set_option maxRecDepth 20000 in
theorem ggX5_torn_X5_isTorn : GoodIn wsX5_torn wsX5_isTorn := goodIn_r _ [11, 12, 13, 14, 10, 15, 16, 17, 18, 19, 20, 21, 22, 23, 24, 25, 26, 27, 28, 29, 30, 31, 32, 33, 34, 35, 36, 37, 38, 39, 40, 41, 42, 43, 44, 45, 46, 47, 48, 49, 50, 51, 52, 53] rfl (by decide +kernel)
set_option maxRecDepth 20000 in
theorem gX5_torn_X5_isTorn : GoodIn wsX5_torn (wsV RX5 131 RX5 yX5_isTorn wsX5_isTorn) := goodIn_app (goodIn_r _ [7, 8, 9, 10] rfl (by decide +kernel)) ggX5_torn_X5_isTorn
theorem dX5_torn_0 : decode cX5_torn 0 = .ok (.aload_n 0, 1) := by decide +kernel
theorem dX5_torn_1 : decode cX5_torn 1 = .ok (.iconst 0, 1) := by decide +kernel
theorem dX5_torn_2 : decode cX5_torn 2 = .ok (.putfield 78, 3) := by decide +kernel
theorem dX5_torn_5 : decode cX5_torn 5 = .ok (.iconst 0, 1) := by decide +kernel
theorem dX5_torn_6 : decode cX5_torn 6 = .ok (.istore_n 1, 1) := by decide +kernel
theorem dX5_torn_7 : decode cX5_torn 7 = .ok (.iconst 0, 1) := by decide +kernel
theorem dX5_torn_8 : decode cX5_torn 8 = .ok (.istore_n 2, 1) := by decide +kernel
theorem dX5_torn_9 : decode cX5_torn 9 = .ok (.iload_n 2, 1) := by decide +kernel
theorem dX5_torn_10 : decode cX5_torn 10 = .ok (.aload_n 0, 1) := by decide +kernel
theorem dX5_torn_11 : decode cX5_torn 11 = .ok (.getfield 81, 3) := by decide +kernel
theorem dX5_torn_14 : decode cX5_torn 14 = .ok (.if_icmp .ge 54, 3) := by decide +kernel
theorem dX5_torn_17 : decode cX5_torn 17 = .ok (.iconst 0, 1) := by decide +kernel
theorem dX5_torn_18 : decode cX5_torn 18 = .ok (.istore_n 3, 1) := by decide +kernel
theorem dX5_torn_19 : decode cX5_torn 19 = .ok (.iload_n 3, 1) := by decide +kernel
theorem dX5_torn_20 : decode cX5_torn 20 = .ok (.aload_n 0, 1) := by decide +kernel
theorem dX5_torn_21 : decode cX5_torn 21 = .ok (.getfield 88, 3) := by decide +kernel
theorem dX5_torn_24 : decode cX5_torn 24 = .ok (.if_icmp .ge 38, 3) := by decide +kernel
theorem dX5_torn_27 : decode cX5_torn 27 = .ok (.iload_n 1, 1) := by decide +kernel
theorem dX5_torn_28 : decode cX5_torn 28 = .ok (.aload_n 0, 1) := by decide +kernel
theorem dX5_torn_29 : decode cX5_torn 29 = .ok (.iload_n 2, 1) := by decide +kernel
theorem dX5_torn_30 : decode cX5_torn 30 = .ok (.iload_n 3, 1) := by decide +kernel
theorem dX5_torn_31 : decode cX5_torn 31 = .ok (.aload_n 0, 1) := by decide +kernel
theorem dX5_torn_32 : decode cX5_torn 32 = .ok (.getfield 35, 3) := by decide +kernel
theorem dX5_torn_35 : decode cX5_torn 35 = .ok (.aload_n 0, 1) := by decide +kernel
theorem dX5_torn_36 : decode cX5_torn 36 = .ok (.getfield 38, 3) := by decide +kernel
theorem dX5_torn_39 : decode cX5_torn 39 = .ok (.aload_n 0, 1) := by decide +kernel
theorem dX5_torn_40 : decode cX5_torn 40 = .ok (.getfield 44, 3) := by decide +kernel
theorem dX5_torn_43 : decode cX5_torn 43 = .ok (.invokevirtual 131, 3) := by decide +kernel
theorem dX5_torn_46 : decode cX5_torn 46 = .ok (.ifCond .eq 7, 3) := by decide +kernel
theorem dX5_torn_49 : decode cX5_torn 49 = .ok (.iconst 1, 1) := by decide +kernel
theorem dX5_torn_50 : decode cX5_torn 50 = .ok (.goto 4, 3) := by decide +kernel
theorem dX5_torn_53 : decode cX5_torn 53 = .ok (.iconst 0, 1) := by decide +kernel
theorem dX5_torn_54 : decode cX5_torn 54 = .ok (.iadd, 1) := by decide +kernel
theorem dX5_torn_55 : decode cX5_torn 55 = .ok (.istore_n 1, 1) := by decide +kernel
theorem dX5_torn_56 : decode cX5_torn 56 = .ok (.iinc 3 1, 3) := by decide +kernel
theorem dX5_torn_59 : decode cX5_torn 59 = .ok (.goto (-40), 3) := by decide +kernel
theorem dX5_torn_62 : decode cX5_torn 62 = .ok (.iinc 2 1, 3) := by decide +kernel
theorem dX5_torn_65 : decode cX5_torn 65 = .ok (.goto (-56), 3) := by decide +kernel
theorem dX5_torn_68 : decode cX5_torn 68 = .ok (.iload_n 1, 1) := by decide +kernel
theorem dX5_torn_69 : decode cX5_torn 69 = .ok (.ireturn, 1) := by decide +kernel
set_option maxRecDepth 20000 in
theorem ggX5_pair_X5_isTorn : GoodIn wsX5_pair wsX5_isTorn := goodIn_r _ [11, 12, 13, 14, 10, 15, 16, 17, 18, 19, 20, 21, 22, 23, 24, 25, 26, 27, 28, 29, 30, 31, 32, 33, 34, 35, 36, 37, 38, 39, 40, 41, 42, 43, 44, 45, 46, 47, 48, 49, 50, 51, 52, 53] rfl (by decide +kernel)
set_option maxRecDepth 20000 in
theorem gX5_pair_X5_isTorn : GoodIn wsX5_pair (wsV RX5 131 RX5 yX5_isTorn wsX5_isTorn) := goodIn_app (goodIn_r _ [7, 8, 9, 10] rfl (by decide +kernel)) ggX5_pair_X5_isTorn
theorem dX5_pair_0 : decode cX5_pair 0 = .ok (.aload_n 0, 1) := by decide +kernel
theorem dX5_pair_1 : decode cX5_pair 1 = .ok (.iconst 0, 1) := by decide +kernel
theorem dX5_pair_2 : decode cX5_pair 2 = .ok (.putfield 78, 3) := by decide +kernel
theorem dX5_pair_5 : decode cX5_pair 5 = .ok (.iconst 0, 1) := by decide +kernel
theorem dX5_pair_6 : decode cX5_pair 6 = .ok (.istore_n 2, 1) := by decide +kernel
theorem dX5_pair_7 : decode cX5_pair 7 = .ok (.iconst 0, 1) := by decide +kernel
theorem dX5_pair_8 : decode cX5_pair 8 = .ok (.istore_n 3, 1) := by decide +kernel
theorem dX5_pair_9 : decode cX5_pair 9 = .ok (.iload_n 3, 1) := by decide +kernel
theorem dX5_pair_10 : decode cX5_pair 10 = .ok (.aload_n 0, 1) := by decide +kernel
theorem dX5_pair_11 : decode cX5_pair 11 = .ok (.getfield 81, 3) := by decide +kernel
theorem dX5_pair_14 : decode cX5_pair 14 = .ok (.if_icmp .ge 65, 3) := by decide +kernel
theorem dX5_pair_17 : decode cX5_pair 17 = .ok (.iconst 0, 1) := by decide +kernel
theorem dX5_pair_18 : decode cX5_pair 18 = .ok (.istore 4, 2) := by decide +kernel
theorem dX5_pair_20 : decode cX5_pair 20 = .ok (.iload 4, 2) := by decide +kernel
theorem dX5_pair_22 : decode cX5_pair 22 = .ok (.aload_n 0, 1) := by decide +kernel
theorem dX5_pair_23 : decode cX5_pair 23 = .ok (.getfield 88, 3) := by decide +kernel
theorem dX5_pair_26 : decode cX5_pair 26 = .ok (.if_icmp .ge 47, 3) := by decide +kernel
theorem dX5_pair_29 : decode cX5_pair 29 = .ok (.aload_n 0, 1) := by decide +kernel
theorem dX5_pair_30 : decode cX5_pair 30 = .ok (.iload_n 3, 1) := by decide +kernel
theorem dX5_pair_31 : decode cX5_pair 31 = .ok (.iload 4, 2) := by decide +kernel
theorem dX5_pair_33 : decode cX5_pair 33 = .ok (.aload_n 0, 1) := by decide +kernel
theorem dX5_pair_34 : decode cX5_pair 34 = .ok (.getfield 35, 3) := by decide +kernel
theorem dX5_pair_37 : decode cX5_pair 37 = .ok (.aload_n 0, 1) := by decide +kernel
theorem dX5_pair_38 : decode cX5_pair 38 = .ok (.getfield 38, 3) := by decide +kernel
theorem dX5_pair_41 : decode cX5_pair 41 = .ok (.aload_n 0, 1) := by decide +kernel
theorem dX5_pair_42 : decode cX5_pair 42 = .ok (.getfield 44, 3) := by decide +kernel
theorem dX5_pair_45 : decode cX5_pair 45 = .ok (.invokevirtual 131, 3) := by decide +kernel
theorem dX5_pair_48 : decode cX5_pair 48 = .ok (.ifCond .eq 19, 3) := by decide +kernel
theorem dX5_pair_51 : decode cX5_pair 51 = .ok (.iload_n 2, 1) := by decide +kernel
theorem dX5_pair_52 : decode cX5_pair 52 = .ok (.iload_n 1, 1) := by decide +kernel
theorem dX5_pair_53 : decode cX5_pair 53 = .ok (.if_icmp .ne 11, 3) := by decide +kernel
theorem dX5_pair_56 : decode cX5_pair 56 = .ok (.bipush 10, 2) := by decide +kernel
theorem dX5_pair_58 : decode cX5_pair 58 = .ok (.iload_n 3, 1) := by decide +kernel
theorem dX5_pair_59 : decode cX5_pair 59 = .ok (.imul, 1) := by decide +kernel
theorem dX5_pair_60 : decode cX5_pair 60 = .ok (.iload 4, 2) := by decide +kernel
theorem dX5_pair_62 : decode cX5_pair 62 = .ok (.iadd, 1) := by decide +kernel
theorem dX5_pair_63 : decode cX5_pair 63 = .ok (.ireturn, 1) := by decide +kernel
theorem dX5_pair_64 : decode cX5_pair 64 = .ok (.iinc 2 1, 3) := by decide +kernel
theorem dX5_pair_67 : decode cX5_pair 67 = .ok (.iinc 4 1, 3) := by decide +kernel
theorem dX5_pair_70 : decode cX5_pair 70 = .ok (.goto (-50), 3) := by decide +kernel
theorem dX5_pair_73 : decode cX5_pair 73 = .ok (.iinc 3 1, 3) := by decide +kernel
theorem dX5_pair_76 : decode cX5_pair 76 = .ok (.goto (-67), 3) := by decide +kernel
theorem dX5_pair_79 : decode cX5_pair 79 = .ok (.bipush (-9), 2) := by decide +kernel
theorem dX5_pair_81 : decode cX5_pair 81 = .ok (.ireturn, 1) := by decide +kernel
set_option maxRecDepth 20000 in
theorem ggX5_foretell_X5_nextOf : GoodIn wsX5_foretell wsX5_nextOf := goodIn_r _ [10, 11, 12, 13, 14, 9, 15, 16, 17, 18, 19, 20, 21, 22, 23, 24, 25, 26, 27, 28, 29, 30, 31, 32, 33, 34, 35, 36, 37, 38, 39, 40, 41, 42, 43, 44, 45, 46, 47, 48, 49, 50, 51, 52, 53] rfl (by decide +kernel)
set_option maxRecDepth 20000 in
theorem gX5_foretell_X5_nextOf : GoodIn wsX5_foretell (wsV RX5 113 RX5 yX5_nextOf wsX5_nextOf) := goodIn_app (goodIn_r _ [6, 7, 8, 9] rfl (by decide +kernel)) ggX5_foretell_X5_nextOf
set_option maxRecDepth 20000 in
theorem ggX5_foretell_X5_offerOf : GoodIn wsX5_foretell wsX5_offerOf := goodIn_r _ [15, 16, 17, 18, 19, 20, 21, 22, 23, 9, 24, 25, 26, 27, 28, 29, 30, 31, 32, 33, 34, 35, 36, 37, 38, 39, 40, 41, 42, 43, 44, 45, 46, 47, 48, 49, 50, 51, 52, 53] rfl (by decide +kernel)
set_option maxRecDepth 20000 in
theorem gX5_foretell_X5_offerOf : GoodIn wsX5_foretell (wsV RX5 95 RX5 yX5_offerOf wsX5_offerOf) := goodIn_app (goodIn_r _ [12, 13, 14, 9] rfl (by decide +kernel)) ggX5_foretell_X5_offerOf
theorem dX5_foretell_0 : decode cX5_foretell 0 = .ok (.iconst 0, 1) := by decide +kernel
theorem dX5_foretell_1 : decode cX5_foretell 1 = .ok (.istore_n 2, 1) := by decide +kernel
theorem dX5_foretell_2 : decode cX5_foretell 2 = .ok (.iload_n 2, 1) := by decide +kernel
theorem dX5_foretell_3 : decode cX5_foretell 3 = .ok (.bipush 100, 2) := by decide +kernel
theorem dX5_foretell_5 : decode cX5_foretell 5 = .ok (.if_icmp .ge 16, 3) := by decide +kernel
theorem dX5_foretell_8 : decode cX5_foretell 8 = .ok (.aload_n 0, 1) := by decide +kernel
theorem dX5_foretell_9 : decode cX5_foretell 9 = .ok (.getfield 66, 3) := by decide +kernel
theorem dX5_foretell_12 : decode cX5_foretell 12 = .ok (.iload_n 2, 1) := by decide +kernel
theorem dX5_foretell_13 : decode cX5_foretell 13 = .ok (.iconst 0, 1) := by decide +kernel
theorem dX5_foretell_14 : decode cX5_foretell 14 = .ok (.bastore, 1) := by decide +kernel
theorem dX5_foretell_15 : decode cX5_foretell 15 = .ok (.iinc 2 1, 3) := by decide +kernel
theorem dX5_foretell_18 : decode cX5_foretell 18 = .ok (.goto (-16), 3) := by decide +kernel
theorem dX5_foretell_21 : decode cX5_foretell 21 = .ok (.iconst 0, 1) := by decide +kernel
theorem dX5_foretell_22 : decode cX5_foretell 22 = .ok (.istore_n 2, 1) := by decide +kernel
theorem dX5_foretell_23 : decode cX5_foretell 23 = .ok (.iload_n 2, 1) := by decide +kernel
theorem dX5_foretell_24 : decode cX5_foretell 24 = .ok (.bipush 10, 2) := by decide +kernel
theorem dX5_foretell_26 : decode cX5_foretell 26 = .ok (.if_icmp .ge 25, 3) := by decide +kernel
theorem dX5_foretell_29 : decode cX5_foretell 29 = .ok (.aload_n 0, 1) := by decide +kernel
theorem dX5_foretell_30 : decode cX5_foretell 30 = .ok (.getfield 69, 3) := by decide +kernel
theorem dX5_foretell_33 : decode cX5_foretell 33 = .ok (.iload_n 2, 1) := by decide +kernel
theorem dX5_foretell_34 : decode cX5_foretell 34 = .ok (.bipush (-9), 2) := by decide +kernel
theorem dX5_foretell_36 : decode cX5_foretell 36 = .ok (.iastore, 1) := by decide +kernel
theorem dX5_foretell_37 : decode cX5_foretell 37 = .ok (.aload_n 0, 1) := by decide +kernel
theorem dX5_foretell_38 : decode cX5_foretell 38 = .ok (.getfield 75, 3) := by decide +kernel
theorem dX5_foretell_41 : decode cX5_foretell 41 = .ok (.iload_n 2, 1) := by decide +kernel
theorem dX5_foretell_42 : decode cX5_foretell 42 = .ok (.bipush (-9), 2) := by decide +kernel
theorem dX5_foretell_44 : decode cX5_foretell 44 = .ok (.iastore, 1) := by decide +kernel
theorem dX5_foretell_45 : decode cX5_foretell 45 = .ok (.iinc 2 1, 3) := by decide +kernel
theorem dX5_foretell_48 : decode cX5_foretell 48 = .ok (.goto (-25), 3) := by decide +kernel
theorem dX5_foretell_51 : decode cX5_foretell 51 = .ok (.iconst 0, 1) := by decide +kernel
theorem dX5_foretell_52 : decode cX5_foretell 52 = .ok (.istore_n 2, 1) := by decide +kernel
theorem dX5_foretell_53 : decode cX5_foretell 53 = .ok (.iload_n 2, 1) := by decide +kernel
theorem dX5_foretell_54 : decode cX5_foretell 54 = .ok (.sipush 240, 3) := by decide +kernel
theorem dX5_foretell_57 : decode cX5_foretell 57 = .ok (.if_icmp .ge 186, 3) := by decide +kernel
theorem dX5_foretell_60 : decode cX5_foretell 60 = .ok (.iconst 0, 1) := by decide +kernel
theorem dX5_foretell_61 : decode cX5_foretell 61 = .ok (.istore_n 3, 1) := by decide +kernel
theorem dX5_foretell_62 : decode cX5_foretell 62 = .ok (.iload_n 3, 1) := by decide +kernel
theorem dX5_foretell_63 : decode cX5_foretell 63 = .ok (.aload_n 0, 1) := by decide +kernel
theorem dX5_foretell_64 : decode cX5_foretell 64 = .ok (.getfield 88, 3) := by decide +kernel
theorem dX5_foretell_67 : decode cX5_foretell 67 = .ok (.if_icmp .ge 170, 3) := by decide +kernel
theorem dX5_foretell_70 : decode cX5_foretell 70 = .ok (.iload_n 1, 1) := by decide +kernel
theorem dX5_foretell_71 : decode cX5_foretell 71 = .ok (.ifCond .eq 14, 3) := by decide +kernel
theorem dX5_foretell_74 : decode cX5_foretell 74 = .ok (.aload_n 0, 1) := by decide +kernel
theorem dX5_foretell_75 : decode cX5_foretell 75 = .ok (.getfield 88, 3) := by decide +kernel
theorem dX5_foretell_78 : decode cX5_foretell 78 = .ok (.iconst 1, 1) := by decide +kernel
theorem dX5_foretell_79 : decode cX5_foretell 79 = .ok (.isub, 1) := by decide +kernel
theorem dX5_foretell_80 : decode cX5_foretell 80 = .ok (.iload_n 3, 1) := by decide +kernel
theorem dX5_foretell_81 : decode cX5_foretell 81 = .ok (.isub, 1) := by decide +kernel
theorem dX5_foretell_82 : decode cX5_foretell 82 = .ok (.goto 4, 3) := by decide +kernel
theorem dX5_foretell_85 : decode cX5_foretell 85 = .ok (.iload_n 3, 1) := by decide +kernel
theorem dX5_foretell_86 : decode cX5_foretell 86 = .ok (.istore 4, 2) := by decide +kernel
theorem dX5_foretell_88 : decode cX5_foretell 88 = .ok (.aload_n 0, 1) := by decide +kernel
theorem dX5_foretell_89 : decode cX5_foretell 89 = .ok (.getfield 75, 3) := by decide +kernel
theorem dX5_foretell_92 : decode cX5_foretell 92 = .ok (.iload 4, 2) := by decide +kernel
theorem dX5_foretell_94 : decode cX5_foretell 94 = .ok (.iaload, 1) := by decide +kernel
theorem dX5_foretell_95 : decode cX5_foretell 95 = .ok (.bipush (-9), 2) := by decide +kernel
theorem dX5_foretell_97 : decode cX5_foretell 97 = .ok (.if_icmp .ne 16, 3) := by decide +kernel
theorem dX5_foretell_100 : decode cX5_foretell 100 = .ok (.aload_n 0, 1) := by decide +kernel
theorem dX5_foretell_101 : decode cX5_foretell 101 = .ok (.iload 4, 2) := by decide +kernel
theorem dX5_foretell_103 : decode cX5_foretell 103 = .ok (.aload_n 0, 1) := by decide +kernel
theorem dX5_foretell_104 : decode cX5_foretell 104 = .ok (.getfield 66, 3) := by decide +kernel
theorem dX5_foretell_107 : decode cX5_foretell 107 = .ok (.invokevirtual 113, 3) := by decide +kernel
theorem dX5_foretell_110 : decode cX5_foretell 110 = .ok (.goto 5, 3) := by decide +kernel
theorem dX5_foretell_113 : decode cX5_foretell 113 = .ok (.bipush (-9), 2) := by decide +kernel
theorem dX5_foretell_115 : decode cX5_foretell 115 = .ok (.istore 5, 2) := by decide +kernel
theorem dX5_foretell_117 : decode cX5_foretell 117 = .ok (.iload 5, 2) := by decide +kernel
theorem dX5_foretell_119 : decode cX5_foretell 119 = .ok (.bipush (-9), 2) := by decide +kernel
theorem dX5_foretell_121 : decode cX5_foretell 121 = .ok (.if_icmp .eq 110, 3) := by decide +kernel
theorem dX5_foretell_124 : decode cX5_foretell 124 = .ok (.aload_n 0, 1) := by decide +kernel
theorem dX5_foretell_125 : decode cX5_foretell 125 = .ok (.iload 4, 2) := by decide +kernel
theorem dX5_foretell_127 : decode cX5_foretell 127 = .ok (.iload 5, 2) := by decide +kernel
theorem dX5_foretell_129 : decode cX5_foretell 129 = .ok (.invokevirtual 95, 3) := by decide +kernel
theorem dX5_foretell_132 : decode cX5_foretell 132 = .ok (.istore 6, 2) := by decide +kernel
theorem dX5_foretell_134 : decode cX5_foretell 134 = .ok (.aload_n 0, 1) := by decide +kernel
theorem dX5_foretell_135 : decode cX5_foretell 135 = .ok (.getfield 66, 3) := by decide +kernel
theorem dX5_foretell_138 : decode cX5_foretell 138 = .ok (.bipush 10, 2) := by decide +kernel
theorem dX5_foretell_140 : decode cX5_foretell 140 = .ok (.iload 4, 2) := by decide +kernel
theorem dX5_foretell_142 : decode cX5_foretell 142 = .ok (.imul, 1) := by decide +kernel
theorem dX5_foretell_143 : decode cX5_foretell 143 = .ok (.iload 5, 2) := by decide +kernel
theorem dX5_foretell_145 : decode cX5_foretell 145 = .ok (.iadd, 1) := by decide +kernel
theorem dX5_foretell_146 : decode cX5_foretell 146 = .ok (.iconst 1, 1) := by decide +kernel
theorem dX5_foretell_147 : decode cX5_foretell 147 = .ok (.bastore, 1) := by decide +kernel
theorem dX5_foretell_148 : decode cX5_foretell 148 = .ok (.aload_n 0, 1) := by decide +kernel
theorem dX5_foretell_149 : decode cX5_foretell 149 = .ok (.getfield 69, 3) := by decide +kernel
theorem dX5_foretell_152 : decode cX5_foretell 152 = .ok (.iload 5, 2) := by decide +kernel
theorem dX5_foretell_154 : decode cX5_foretell 154 = .ok (.iaload, 1) := by decide +kernel
theorem dX5_foretell_155 : decode cX5_foretell 155 = .ok (.bipush (-9), 2) := by decide +kernel
theorem dX5_foretell_157 : decode cX5_foretell 157 = .ok (.if_icmp .eq 21, 3) := by decide +kernel
theorem dX5_foretell_160 : decode cX5_foretell 160 = .ok (.iload_n 2, 1) := by decide +kernel
theorem dX5_foretell_161 : decode cX5_foretell 161 = .ok (.bipush 120, 2) := by decide +kernel
theorem dX5_foretell_163 : decode cX5_foretell 163 = .ok (.if_icmp .ge 68, 3) := by decide +kernel
theorem dX5_foretell_166 : decode cX5_foretell 166 = .ok (.iload 6, 2) := by decide +kernel
theorem dX5_foretell_168 : decode cX5_foretell 168 = .ok (.aload_n 0, 1) := by decide +kernel
theorem dX5_foretell_169 : decode cX5_foretell 169 = .ok (.getfield 72, 3) := by decide +kernel
theorem dX5_foretell_172 : decode cX5_foretell 172 = .ok (.iload 5, 2) := by decide +kernel
theorem dX5_foretell_174 : decode cX5_foretell 174 = .ok (.iaload, 1) := by decide +kernel
theorem dX5_foretell_175 : decode cX5_foretell 175 = .ok (.if_icmp .le 56, 3) := by decide +kernel
theorem dX5_foretell_178 : decode cX5_foretell 178 = .ok (.aload_n 0, 1) := by decide +kernel
theorem dX5_foretell_179 : decode cX5_foretell 179 = .ok (.getfield 69, 3) := by decide +kernel
theorem dX5_foretell_182 : decode cX5_foretell 182 = .ok (.iload 5, 2) := by decide +kernel
theorem dX5_foretell_184 : decode cX5_foretell 184 = .ok (.iaload, 1) := by decide +kernel
theorem dX5_foretell_185 : decode cX5_foretell 185 = .ok (.bipush (-9), 2) := by decide +kernel
theorem dX5_foretell_187 : decode cX5_foretell 187 = .ok (.if_icmp .eq 17, 3) := by decide +kernel
theorem dX5_foretell_190 : decode cX5_foretell 190 = .ok (.aload_n 0, 1) := by decide +kernel
theorem dX5_foretell_191 : decode cX5_foretell 191 = .ok (.getfield 75, 3) := by decide +kernel
theorem dX5_foretell_194 : decode cX5_foretell 194 = .ok (.aload_n 0, 1) := by decide +kernel
theorem dX5_foretell_195 : decode cX5_foretell 195 = .ok (.getfield 69, 3) := by decide +kernel
theorem dX5_foretell_198 : decode cX5_foretell 198 = .ok (.iload 5, 2) := by decide +kernel
theorem dX5_foretell_200 : decode cX5_foretell 200 = .ok (.iaload, 1) := by decide +kernel
theorem dX5_foretell_201 : decode cX5_foretell 201 = .ok (.bipush (-9), 2) := by decide +kernel
theorem dX5_foretell_203 : decode cX5_foretell 203 = .ok (.iastore, 1) := by decide +kernel
theorem dX5_foretell_204 : decode cX5_foretell 204 = .ok (.aload_n 0, 1) := by decide +kernel
theorem dX5_foretell_205 : decode cX5_foretell 205 = .ok (.getfield 69, 3) := by decide +kernel
theorem dX5_foretell_208 : decode cX5_foretell 208 = .ok (.iload 5, 2) := by decide +kernel
theorem dX5_foretell_210 : decode cX5_foretell 210 = .ok (.iload 4, 2) := by decide +kernel
theorem dX5_foretell_212 : decode cX5_foretell 212 = .ok (.iastore, 1) := by decide +kernel
theorem dX5_foretell_213 : decode cX5_foretell 213 = .ok (.aload_n 0, 1) := by decide +kernel
theorem dX5_foretell_214 : decode cX5_foretell 214 = .ok (.getfield 72, 3) := by decide +kernel
theorem dX5_foretell_217 : decode cX5_foretell 217 = .ok (.iload 5, 2) := by decide +kernel
theorem dX5_foretell_219 : decode cX5_foretell 219 = .ok (.iload 6, 2) := by decide +kernel
theorem dX5_foretell_221 : decode cX5_foretell 221 = .ok (.iastore, 1) := by decide +kernel
theorem dX5_foretell_222 : decode cX5_foretell 222 = .ok (.aload_n 0, 1) := by decide +kernel
theorem dX5_foretell_223 : decode cX5_foretell 223 = .ok (.getfield 75, 3) := by decide +kernel
theorem dX5_foretell_226 : decode cX5_foretell 226 = .ok (.iload 4, 2) := by decide +kernel
theorem dX5_foretell_228 : decode cX5_foretell 228 = .ok (.iload 5, 2) := by decide +kernel
theorem dX5_foretell_230 : decode cX5_foretell 230 = .ok (.iastore, 1) := by decide +kernel
theorem dX5_foretell_231 : decode cX5_foretell 231 = .ok (.iinc 3 1, 3) := by decide +kernel
theorem dX5_foretell_234 : decode cX5_foretell 234 = .ok (.goto (-172), 3) := by decide +kernel
theorem dX5_foretell_237 : decode cX5_foretell 237 = .ok (.iinc 2 1, 3) := by decide +kernel
theorem dX5_foretell_240 : decode cX5_foretell 240 = .ok (.goto (-187), 3) := by decide +kernel
theorem dX5_foretell_243 : decode cX5_foretell 243 = .ok (.return_, 1) := by decide +kernel
set_option maxRecDepth 20000 in
theorem ggX5_foretold_X5_in : GoodIn wsX5_foretold wsX5_in := goodIn_r _ [11] rfl (by decide +kernel)
set_option maxRecDepth 20000 in
theorem gX5_foretold_X5_in : GoodIn wsX5_foretold (va_wsS RX5 84 yX5_in wsX5_in) := goodIn_app (goodIn_r _ [8, 9, 10] rfl (by decide +kernel)) ggX5_foretold_X5_in
set_option maxRecDepth 20000 in
theorem ggX5_foretold_X5_foretell : GoodIn wsX5_foretold wsX5_foretell := goodIn_r _ [15, 16, 4, 7, 6, 5, 17, 18, 19, 10, 20, 3, 21, 22, 23, 24, 25, 26, 27, 28, 29, 30, 31, 32, 33, 34, 39, 40, 41, 42, 43, 44, 45, 46, 47, 48, 49, 50, 51, 52, 53, 54, 55, 56, 57, 58, 59, 60, 61, 62, 63, 64, 65, 66] rfl (by decide +kernel)
set_option maxRecDepth 20000 in
theorem gX5_foretold_X5_foretell : GoodIn wsX5_foretold (wsV RX5 135 RX5 yX5_foretell wsX5_foretell) := goodIn_app (goodIn_r _ [12, 13, 14, 10] rfl (by decide +kernel)) ggX5_foretold_X5_foretell
set_option maxRecDepth 20000 in
theorem ggX5_foretold_X5_isTorn : GoodIn wsX5_foretold wsX5_isTorn := goodIn_r _ [38, 21, 22, 23, 10, 24, 25, 26, 27, 28, 29, 30, 31, 32, 33, 34, 39, 40, 41, 42, 43, 44, 45, 46, 47, 48, 49, 50, 51, 52, 53, 54, 55, 56, 57, 58, 59, 60, 61, 62, 63, 64, 65, 66] rfl (by decide +kernel)
set_option maxRecDepth 20000 in
theorem gX5_foretold_X5_isTorn : GoodIn wsX5_foretold (wsV RX5 131 RX5 yX5_isTorn wsX5_isTorn) := goodIn_app (goodIn_r _ [35, 36, 37, 10] rfl (by decide +kernel)) ggX5_foretold_X5_isTorn
theorem dX5_foretold_0 : decode cX5_foretold 0 = .ok (.aload_n 0, 1) := by decide +kernel
theorem dX5_foretold_1 : decode cX5_foretold 1 = .ok (.iconst 0, 1) := by decide +kernel
theorem dX5_foretold_2 : decode cX5_foretold 2 = .ok (.putfield 78, 3) := by decide +kernel
theorem dX5_foretold_5 : decode cX5_foretold 5 = .ok (.iload_n 1, 1) := by decide +kernel
theorem dX5_foretold_6 : decode cX5_foretold 6 = .ok (.i2l, 1) := by decide +kernel
theorem dX5_foretold_7 : decode cX5_foretold 7 = .ok (.lconst 0, 1) := by decide +kernel
theorem dX5_foretold_8 : decode cX5_foretold 8 = .ok (.lconst 1, 1) := by decide +kernel
theorem dX5_foretold_9 : decode cX5_foretold 9 = .ok (.invokestatic 84, 3) := by decide +kernel
theorem dX5_foretold_12 : decode cX5_foretold 12 = .ok (.ifCond .eq 15, 3) := by decide +kernel
theorem dX5_foretold_15 : decode cX5_foretold 15 = .ok (.iload_n 2, 1) := by decide +kernel
theorem dX5_foretold_16 : decode cX5_foretold 16 = .ok (.i2l, 1) := by decide +kernel
theorem dX5_foretold_17 : decode cX5_foretold 17 = .ok (.lconst 0, 1) := by decide +kernel
theorem dX5_foretold_18 : decode cX5_foretold 18 = .ok (.ldc2_w 98, 3) := by decide +kernel
theorem dX5_foretold_21 : decode cX5_foretold 21 = .ok (.invokestatic 84, 3) := by decide +kernel
theorem dX5_foretold_24 : decode cX5_foretold 24 = .ok (.ifCond .ne 6, 3) := by decide +kernel
theorem dX5_foretold_27 : decode cX5_foretold 27 = .ok (.bipush (-2), 2) := by decide +kernel
theorem dX5_foretold_29 : decode cX5_foretold 29 = .ok (.ireturn, 1) := by decide +kernel
theorem dX5_foretold_30 : decode cX5_foretold 30 = .ok (.aload_n 0, 1) := by decide +kernel
theorem dX5_foretold_31 : decode cX5_foretold 31 = .ok (.iload_n 1, 1) := by decide +kernel
theorem dX5_foretold_32 : decode cX5_foretold 32 = .ok (.iconst 1, 1) := by decide +kernel
theorem dX5_foretold_33 : decode cX5_foretold 33 = .ok (.if_icmp .ne 7, 3) := by decide +kernel
theorem dX5_foretold_36 : decode cX5_foretold 36 = .ok (.iconst 1, 1) := by decide +kernel
theorem dX5_foretold_37 : decode cX5_foretold 37 = .ok (.goto 4, 3) := by decide +kernel
theorem dX5_foretold_40 : decode cX5_foretold 40 = .ok (.iconst 0, 1) := by decide +kernel
theorem dX5_foretold_41 : decode cX5_foretold 41 = .ok (.invokevirtual 135, 3) := by decide +kernel
theorem dX5_foretold_44 : decode cX5_foretold 44 = .ok (.iconst 0, 1) := by decide +kernel
theorem dX5_foretold_45 : decode cX5_foretold 45 = .ok (.istore_n 3, 1) := by decide +kernel
theorem dX5_foretold_46 : decode cX5_foretold 46 = .ok (.iconst 0, 1) := by decide +kernel
theorem dX5_foretold_47 : decode cX5_foretold 47 = .ok (.istore 4, 2) := by decide +kernel
theorem dX5_foretold_49 : decode cX5_foretold 49 = .ok (.iload 4, 2) := by decide +kernel
theorem dX5_foretold_51 : decode cX5_foretold 51 = .ok (.aload_n 0, 1) := by decide +kernel
theorem dX5_foretold_52 : decode cX5_foretold 52 = .ok (.getfield 81, 3) := by decide +kernel
theorem dX5_foretold_55 : decode cX5_foretold 55 = .ok (.if_icmp .ge 100, 3) := by decide +kernel
theorem dX5_foretold_58 : decode cX5_foretold 58 = .ok (.iload_n 2, 1) := by decide +kernel
theorem dX5_foretold_59 : decode cX5_foretold 59 = .ok (.iconst 1, 1) := by decide +kernel
theorem dX5_foretold_60 : decode cX5_foretold 60 = .ok (.if_icmp .eq 40, 3) := by decide +kernel
theorem dX5_foretold_63 : decode cX5_foretold 63 = .ok (.iload_n 3, 1) := by decide +kernel
theorem dX5_foretold_64 : decode cX5_foretold 64 = .ok (.aload_n 0, 1) := by decide +kernel
theorem dX5_foretold_65 : decode cX5_foretold 65 = .ok (.getfield 69, 3) := by decide +kernel
theorem dX5_foretold_68 : decode cX5_foretold 68 = .ok (.iload 4, 2) := by decide +kernel
theorem dX5_foretold_70 : decode cX5_foretold 70 = .ok (.iaload, 1) := by decide +kernel
theorem dX5_foretold_71 : decode cX5_foretold 71 = .ok (.bipush (-9), 2) := by decide +kernel
theorem dX5_foretold_73 : decode cX5_foretold 73 = .ok (.if_icmp .ne 7, 3) := by decide +kernel
theorem dX5_foretold_76 : decode cX5_foretold 76 = .ok (.iconst 0, 1) := by decide +kernel
theorem dX5_foretold_77 : decode cX5_foretold 77 = .ok (.goto 18, 3) := by decide +kernel
theorem dX5_foretold_80 : decode cX5_foretold 80 = .ok (.iload_n 2, 1) := by decide +kernel
theorem dX5_foretold_81 : decode cX5_foretold 81 = .ok (.ifCond .ne 7, 3) := by decide +kernel
theorem dX5_foretold_84 : decode cX5_foretold 84 = .ok (.iconst 1, 1) := by decide +kernel
theorem dX5_foretold_85 : decode cX5_foretold 85 = .ok (.goto 10, 3) := by decide +kernel
theorem dX5_foretold_88 : decode cX5_foretold 88 = .ok (.aload_n 0, 1) := by decide +kernel
theorem dX5_foretold_89 : decode cX5_foretold 89 = .ok (.getfield 72, 3) := by decide +kernel
theorem dX5_foretold_92 : decode cX5_foretold 92 = .ok (.iload 4, 2) := by decide +kernel
theorem dX5_foretold_94 : decode cX5_foretold 94 = .ok (.iaload, 1) := by decide +kernel
theorem dX5_foretold_95 : decode cX5_foretold 95 = .ok (.iadd, 1) := by decide +kernel
theorem dX5_foretold_96 : decode cX5_foretold 96 = .ok (.istore_n 3, 1) := by decide +kernel
theorem dX5_foretold_97 : decode cX5_foretold 97 = .ok (.goto 52, 3) := by decide +kernel
theorem dX5_foretold_100 : decode cX5_foretold 100 = .ok (.iconst 0, 1) := by decide +kernel
theorem dX5_foretold_101 : decode cX5_foretold 101 = .ok (.istore 5, 2) := by decide +kernel
theorem dX5_foretold_103 : decode cX5_foretold 103 = .ok (.iload 5, 2) := by decide +kernel
theorem dX5_foretold_105 : decode cX5_foretold 105 = .ok (.aload_n 0, 1) := by decide +kernel
theorem dX5_foretold_106 : decode cX5_foretold 106 = .ok (.getfield 88, 3) := by decide +kernel
theorem dX5_foretold_109 : decode cX5_foretold 109 = .ok (.if_icmp .ge 40, 3) := by decide +kernel
theorem dX5_foretold_112 : decode cX5_foretold 112 = .ok (.iload_n 3, 1) := by decide +kernel
theorem dX5_foretold_113 : decode cX5_foretold 113 = .ok (.aload_n 0, 1) := by decide +kernel
theorem dX5_foretold_114 : decode cX5_foretold 114 = .ok (.iload 4, 2) := by decide +kernel
theorem dX5_foretold_116 : decode cX5_foretold 116 = .ok (.iload 5, 2) := by decide +kernel
theorem dX5_foretold_118 : decode cX5_foretold 118 = .ok (.aload_n 0, 1) := by decide +kernel
theorem dX5_foretold_119 : decode cX5_foretold 119 = .ok (.getfield 69, 3) := by decide +kernel
theorem dX5_foretold_122 : decode cX5_foretold 122 = .ok (.aload_n 0, 1) := by decide +kernel
theorem dX5_foretold_123 : decode cX5_foretold 123 = .ok (.getfield 72, 3) := by decide +kernel
theorem dX5_foretold_126 : decode cX5_foretold 126 = .ok (.aload_n 0, 1) := by decide +kernel
theorem dX5_foretold_127 : decode cX5_foretold 127 = .ok (.getfield 75, 3) := by decide +kernel
theorem dX5_foretold_130 : decode cX5_foretold 130 = .ok (.invokevirtual 131, 3) := by decide +kernel
theorem dX5_foretold_133 : decode cX5_foretold 133 = .ok (.ifCond .eq 7, 3) := by decide +kernel
theorem dX5_foretold_136 : decode cX5_foretold 136 = .ok (.iconst 1, 1) := by decide +kernel
theorem dX5_foretold_137 : decode cX5_foretold 137 = .ok (.goto 4, 3) := by decide +kernel
theorem dX5_foretold_140 : decode cX5_foretold 140 = .ok (.iconst 0, 1) := by decide +kernel
theorem dX5_foretold_141 : decode cX5_foretold 141 = .ok (.iadd, 1) := by decide +kernel
theorem dX5_foretold_142 : decode cX5_foretold 142 = .ok (.istore_n 3, 1) := by decide +kernel
theorem dX5_foretold_143 : decode cX5_foretold 143 = .ok (.iinc 5 1, 3) := by decide +kernel
theorem dX5_foretold_146 : decode cX5_foretold 146 = .ok (.goto (-43), 3) := by decide +kernel
theorem dX5_foretold_149 : decode cX5_foretold 149 = .ok (.iinc 4 1, 3) := by decide +kernel
theorem dX5_foretold_152 : decode cX5_foretold 152 = .ok (.goto (-103), 3) := by decide +kernel
theorem dX5_foretold_155 : decode cX5_foretold 155 = .ok (.iload_n 3, 1) := by decide +kernel
theorem dX5_foretold_156 : decode cX5_foretold 156 = .ok (.ireturn, 1) := by decide +kernel
set_option maxRecDepth 20000 in
theorem ggX5_text_X5_in : GoodIn wsX5_text wsX5_in := goodIn_r _ [6] rfl (by decide +kernel)
set_option maxRecDepth 20000 in
theorem gX5_text_X5_in : GoodIn wsX5_text (va_wsS RX5 84 yX5_in wsX5_in) := goodIn_app (goodIn_r _ [3, 4, 5] rfl (by decide +kernel)) ggX5_text_X5_in
theorem dX5_text_0 : decode cX5_text 0 = .ok (.aload_n 0, 1) := by decide +kernel
theorem dX5_text_1 : decode cX5_text 1 = .ok (.iconst 0, 1) := by decide +kernel
theorem dX5_text_2 : decode cX5_text 2 = .ok (.putfield 78, 3) := by decide +kernel
theorem dX5_text_5 : decode cX5_text 5 = .ok (.iload_n 1, 1) := by decide +kernel
theorem dX5_text_6 : decode cX5_text 6 = .ok (.i2l, 1) := by decide +kernel
theorem dX5_text_7 : decode cX5_text 7 = .ok (.lconst 0, 1) := by decide +kernel
theorem dX5_text_8 : decode cX5_text 8 = .ok (.lconst 1, 1) := by decide +kernel
theorem dX5_text_9 : decode cX5_text 9 = .ok (.invokestatic 84, 3) := by decide +kernel
theorem dX5_text_12 : decode cX5_text 12 = .ok (.ifCond .ne 6, 3) := by decide +kernel
theorem dX5_text_15 : decode cX5_text 15 = .ok (.bipush (-2), 2) := by decide +kernel
theorem dX5_text_17 : decode cX5_text 17 = .ok (.ireturn, 1) := by decide +kernel
theorem dX5_text_18 : decode cX5_text 18 = .ok (.aload_n 0, 1) := by decide +kernel
theorem dX5_text_19 : decode cX5_text 19 = .ok (.getfield 139, 3) := by decide +kernel
theorem dX5_text_22 : decode cX5_text 22 = .ok (.istore_n 2, 1) := by decide +kernel
theorem dX5_text_23 : decode cX5_text 23 = .ok (.aload_n 0, 1) := by decide +kernel
theorem dX5_text_24 : decode cX5_text 24 = .ok (.iload_n 1, 1) := by decide +kernel
theorem dX5_text_25 : decode cX5_text 25 = .ok (.putfield 139, 3) := by decide +kernel
theorem dX5_text_28 : decode cX5_text 28 = .ok (.iload_n 2, 1) := by decide +kernel
theorem dX5_text_29 : decode cX5_text 29 = .ok (.ireturn, 1) := by decide +kernel
set_option maxRecDepth 20000 in
theorem ggX5_days_X5_in : GoodIn wsX5_days wsX5_in := goodIn_r _ [7] rfl (by decide +kernel)
set_option maxRecDepth 20000 in
theorem gX5_days_X5_in : GoodIn wsX5_days (va_wsS RX5 84 yX5_in wsX5_in) := goodIn_app (goodIn_r _ [4, 5, 6] rfl (by decide +kernel)) ggX5_days_X5_in
theorem dX5_days_0 : decode cX5_days 0 = .ok (.aload_n 0, 1) := by decide +kernel
theorem dX5_days_1 : decode cX5_days 1 = .ok (.iconst 0, 1) := by decide +kernel
theorem dX5_days_2 : decode cX5_days 2 = .ok (.putfield 78, 3) := by decide +kernel
theorem dX5_days_5 : decode cX5_days 5 = .ok (.iload_n 1, 1) := by decide +kernel
theorem dX5_days_6 : decode cX5_days 6 = .ok (.i2l, 1) := by decide +kernel
theorem dX5_days_7 : decode cX5_days 7 = .ok (.lconst 1, 1) := by decide +kernel
theorem dX5_days_8 : decode cX5_days 8 = .ok (.ldc2_w 142, 3) := by decide +kernel
theorem dX5_days_11 : decode cX5_days 11 = .ok (.invokestatic 84, 3) := by decide +kernel
theorem dX5_days_14 : decode cX5_days 14 = .ok (.ifCond .ne 6, 3) := by decide +kernel
theorem dX5_days_17 : decode cX5_days 17 = .ok (.bipush (-2), 2) := by decide +kernel
theorem dX5_days_19 : decode cX5_days 19 = .ok (.ireturn, 1) := by decide +kernel
theorem dX5_days_20 : decode cX5_days 20 = .ok (.aload_n 0, 1) := by decide +kernel
theorem dX5_days_21 : decode cX5_days 21 = .ok (.getfield 50, 3) := by decide +kernel
theorem dX5_days_24 : decode cX5_days 24 = .ok (.bipush (-9), 2) := by decide +kernel
theorem dX5_days_26 : decode cX5_days 26 = .ok (.if_icmp .ne 6, 3) := by decide +kernel
theorem dX5_days_29 : decode cX5_days 29 = .ok (.bipush (-3), 2) := by decide +kernel
theorem dX5_days_31 : decode cX5_days 31 = .ok (.ireturn, 1) := by decide +kernel
theorem dX5_days_32 : decode cX5_days 32 = .ok (.aload_n 0, 1) := by decide +kernel
theorem dX5_days_33 : decode cX5_days 33 = .ok (.getfield 50, 3) := by decide +kernel
theorem dX5_days_36 : decode cX5_days 36 = .ok (.iload_n 1, 1) := by decide +kernel
theorem dX5_days_37 : decode cX5_days 37 = .ok (.iadd, 1) := by decide +kernel
theorem dX5_days_38 : decode cX5_days 38 = .ok (.sipush 363, 3) := by decide +kernel
theorem dX5_days_41 : decode cX5_days 41 = .ok (.if_icmp .le 6, 3) := by decide +kernel
theorem dX5_days_44 : decode cX5_days 44 = .ok (.bipush (-4), 2) := by decide +kernel
theorem dX5_days_46 : decode cX5_days 46 = .ok (.ireturn, 1) := by decide +kernel
theorem dX5_days_47 : decode cX5_days 47 = .ok (.aload_n 0, 1) := by decide +kernel
theorem dX5_days_48 : decode cX5_days 48 = .ok (.dup, 1) := by decide +kernel
theorem dX5_days_49 : decode cX5_days 49 = .ok (.getfield 50, 3) := by decide +kernel
theorem dX5_days_52 : decode cX5_days 52 = .ok (.iload_n 1, 1) := by decide +kernel
theorem dX5_days_53 : decode cX5_days 53 = .ok (.iadd, 1) := by decide +kernel
theorem dX5_days_54 : decode cX5_days 54 = .ok (.putfield 50, 3) := by decide +kernel
theorem dX5_days_57 : decode cX5_days 57 = .ok (.aload_n 0, 1) := by decide +kernel
theorem dX5_days_58 : decode cX5_days 58 = .ok (.getfield 50, 3) := by decide +kernel
theorem dX5_days_61 : decode cX5_days 61 = .ok (.ireturn, 1) := by decide +kernel
theorem dX5_serves_0 : decode cX5_serves 0 = .ok (.aload_n 0, 1) := by decide +kernel
theorem dX5_serves_1 : decode cX5_serves 1 = .ok (.getfield 35, 3) := by decide +kernel
theorem dX5_serves_4 : decode cX5_serves 4 = .ok (.iload_n 1, 1) := by decide +kernel
theorem dX5_serves_5 : decode cX5_serves 5 = .ok (.iaload, 1) := by decide +kernel
theorem dX5_serves_6 : decode cX5_serves 6 = .ok (.bipush (-9), 2) := by decide +kernel
theorem dX5_serves_8 : decode cX5_serves 8 = .ok (.if_icmp .eq 17, 3) := by decide +kernel
theorem dX5_serves_11 : decode cX5_serves 11 = .ok (.iload_n 2, 1) := by decide +kernel
theorem dX5_serves_12 : decode cX5_serves 12 = .ok (.aload_n 0, 1) := by decide +kernel
theorem dX5_serves_13 : decode cX5_serves 13 = .ok (.getfield 54, 3) := by decide +kernel
theorem dX5_serves_16 : decode cX5_serves 16 = .ok (.iload_n 1, 1) := by decide +kernel
theorem dX5_serves_17 : decode cX5_serves 17 = .ok (.iaload, 1) := by decide +kernel
theorem dX5_serves_18 : decode cX5_serves 18 = .ok (.if_icmp .gt 7, 3) := by decide +kernel
theorem dX5_serves_21 : decode cX5_serves 21 = .ok (.iconst 1, 1) := by decide +kernel
theorem dX5_serves_22 : decode cX5_serves 22 = .ok (.goto 4, 3) := by decide +kernel
theorem dX5_serves_25 : decode cX5_serves 25 = .ok (.iconst 0, 1) := by decide +kernel
theorem dX5_serves_26 : decode cX5_serves 26 = .ok (.ireturn, 1) := by decide +kernel
set_option maxRecDepth 20000 in
theorem ggX5_sick_X5_noServant : GoodIn wsX5_sick wsX5_noServant := goodIn_r _ [9, 10, 11, 12, 8, 13, 20, 21, 22, 23, 24, 25, 26, 27, 28, 29, 30, 31, 32, 33, 34, 35, 36, 37, 38, 39, 40, 41, 42, 43, 44, 45, 46, 47] rfl (by decide +kernel)
set_option maxRecDepth 20000 in
theorem gX5_sick_X5_noServant : GoodIn wsX5_sick (wsV RX5 106 RX5 yX5_noServant wsX5_noServant) := goodIn_app (goodIn_r _ [5, 6, 7, 8] rfl (by decide +kernel)) ggX5_sick_X5_noServant
set_option maxRecDepth 20000 in
theorem ggX5_sick_X5_in : GoodIn wsX5_sick wsX5_in := goodIn_r _ [13] rfl (by decide +kernel)
set_option maxRecDepth 20000 in
theorem gX5_sick_X5_in : GoodIn wsX5_sick (va_wsS RX5 84 yX5_in wsX5_in) := goodIn_app (goodIn_r _ [11, 12, 8] rfl (by decide +kernel)) ggX5_sick_X5_in
set_option maxRecDepth 20000 in
theorem ggX5_sick_X5_serves : GoodIn wsX5_sick wsX5_serves := goodIn_r _ [17, 18, 19, 20, 21, 22, 23, 24, 25, 26, 27, 28, 29, 30, 31, 32, 33, 34, 35, 36, 37, 38, 39, 40, 41, 42, 43, 44, 45, 46, 47] rfl (by decide +kernel)
set_option maxRecDepth 20000 in
theorem gX5_sick_X5_serves : GoodIn wsX5_sick (wsV RX5 144 RX5 yX5_serves wsX5_serves) := goodIn_app (goodIn_r _ [14, 15, 16, 8] rfl (by decide +kernel)) ggX5_sick_X5_serves
theorem dX5_sick_0 : decode cX5_sick 0 = .ok (.aload_n 0, 1) := by decide +kernel
theorem dX5_sick_1 : decode cX5_sick 1 = .ok (.iconst 0, 1) := by decide +kernel
theorem dX5_sick_2 : decode cX5_sick 2 = .ok (.putfield 78, 3) := by decide +kernel
theorem dX5_sick_5 : decode cX5_sick 5 = .ok (.aload_n 0, 1) := by decide +kernel
theorem dX5_sick_6 : decode cX5_sick 6 = .ok (.iload_n 1, 1) := by decide +kernel
theorem dX5_sick_7 : decode cX5_sick 7 = .ok (.invokevirtual 106, 3) := by decide +kernel
theorem dX5_sick_10 : decode cX5_sick 10 = .ok (.ifCond .eq 5, 3) := by decide +kernel
theorem dX5_sick_13 : decode cX5_sick 13 = .ok (.iconst (-1), 1) := by decide +kernel
theorem dX5_sick_14 : decode cX5_sick 14 = .ok (.ireturn, 1) := by decide +kernel
theorem dX5_sick_15 : decode cX5_sick 15 = .ok (.iload_n 2, 1) := by decide +kernel
theorem dX5_sick_16 : decode cX5_sick 16 = .ok (.i2l, 1) := by decide +kernel
theorem dX5_sick_17 : decode cX5_sick 17 = .ok (.lconst 1, 1) := by decide +kernel
theorem dX5_sick_18 : decode cX5_sick 18 = .ok (.ldc2_w 142, 3) := by decide +kernel
theorem dX5_sick_21 : decode cX5_sick 21 = .ok (.invokestatic 84, 3) := by decide +kernel
theorem dX5_sick_24 : decode cX5_sick 24 = .ok (.ifCond .ne 6, 3) := by decide +kernel
theorem dX5_sick_27 : decode cX5_sick 27 = .ok (.bipush (-2), 2) := by decide +kernel
theorem dX5_sick_29 : decode cX5_sick 29 = .ok (.ireturn, 1) := by decide +kernel
theorem dX5_sick_30 : decode cX5_sick 30 = .ok (.aload_n 0, 1) := by decide +kernel
theorem dX5_sick_31 : decode cX5_sick 31 = .ok (.getfield 50, 3) := by decide +kernel
theorem dX5_sick_34 : decode cX5_sick 34 = .ok (.bipush (-9), 2) := by decide +kernel
theorem dX5_sick_36 : decode cX5_sick 36 = .ok (.if_icmp .eq 15, 3) := by decide +kernel
theorem dX5_sick_39 : decode cX5_sick 39 = .ok (.aload_n 0, 1) := by decide +kernel
theorem dX5_sick_40 : decode cX5_sick 40 = .ok (.iload_n 1, 1) := by decide +kernel
theorem dX5_sick_41 : decode cX5_sick 41 = .ok (.aload_n 0, 1) := by decide +kernel
theorem dX5_sick_42 : decode cX5_sick 42 = .ok (.getfield 50, 3) := by decide +kernel
theorem dX5_sick_45 : decode cX5_sick 45 = .ok (.invokevirtual 144, 3) := by decide +kernel
theorem dX5_sick_48 : decode cX5_sick 48 = .ok (.ifCond .ne 6, 3) := by decide +kernel
theorem dX5_sick_51 : decode cX5_sick 51 = .ok (.bipush (-3), 2) := by decide +kernel
theorem dX5_sick_53 : decode cX5_sick 53 = .ok (.ireturn, 1) := by decide +kernel
theorem dX5_sick_54 : decode cX5_sick 54 = .ok (.iconst 0, 1) := by decide +kernel
theorem dX5_sick_55 : decode cX5_sick 55 = .ok (.istore_n 3, 1) := by decide +kernel
theorem dX5_sick_56 : decode cX5_sick 56 = .ok (.iconst 0, 1) := by decide +kernel
theorem dX5_sick_57 : decode cX5_sick 57 = .ok (.istore 4, 2) := by decide +kernel
theorem dX5_sick_59 : decode cX5_sick 59 = .ok (.iload 4, 2) := by decide +kernel
theorem dX5_sick_61 : decode cX5_sick 61 = .ok (.sipush 363, 3) := by decide +kernel
theorem dX5_sick_64 : decode cX5_sick 64 = .ok (.if_icmp .gt 87, 3) := by decide +kernel
theorem dX5_sick_67 : decode cX5_sick 67 = .ok (.aload_n 0, 1) := by decide +kernel
theorem dX5_sick_68 : decode cX5_sick 68 = .ok (.getfield 63, 3) := by decide +kernel
theorem dX5_sick_71 : decode cX5_sick 71 = .ok (.sipush 364, 3) := by decide +kernel
theorem dX5_sick_74 : decode cX5_sick 74 = .ok (.iload_n 1, 1) := by decide +kernel
theorem dX5_sick_75 : decode cX5_sick 75 = .ok (.imul, 1) := by decide +kernel
theorem dX5_sick_76 : decode cX5_sick 76 = .ok (.iload 4, 2) := by decide +kernel
theorem dX5_sick_78 : decode cX5_sick 78 = .ok (.iadd, 1) := by decide +kernel
theorem dX5_sick_79 : decode cX5_sick 79 = .ok (.aload_n 0, 1) := by decide +kernel
theorem dX5_sick_80 : decode cX5_sick 80 = .ok (.getfield 63, 3) := by decide +kernel
theorem dX5_sick_83 : decode cX5_sick 83 = .ok (.sipush 364, 3) := by decide +kernel
theorem dX5_sick_86 : decode cX5_sick 86 = .ok (.iload_n 1, 1) := by decide +kernel
theorem dX5_sick_87 : decode cX5_sick 87 = .ok (.imul, 1) := by decide +kernel
theorem dX5_sick_88 : decode cX5_sick 88 = .ok (.iload 4, 2) := by decide +kernel
theorem dX5_sick_90 : decode cX5_sick 90 = .ok (.iadd, 1) := by decide +kernel
theorem dX5_sick_91 : decode cX5_sick 91 = .ok (.baload, 1) := by decide +kernel
theorem dX5_sick_92 : decode cX5_sick 92 = .ok (.ifCond .ne 23, 3) := by decide +kernel
theorem dX5_sick_95 : decode cX5_sick 95 = .ok (.iload 4, 2) := by decide +kernel
theorem dX5_sick_97 : decode cX5_sick 97 = .ok (.aload_n 0, 1) := by decide +kernel
theorem dX5_sick_98 : decode cX5_sick 98 = .ok (.getfield 50, 3) := by decide +kernel
theorem dX5_sick_101 : decode cX5_sick 101 = .ok (.if_icmp .lt 18, 3) := by decide +kernel
theorem dX5_sick_104 : decode cX5_sick 104 = .ok (.iload 4, 2) := by decide +kernel
theorem dX5_sick_106 : decode cX5_sick 106 = .ok (.aload_n 0, 1) := by decide +kernel
theorem dX5_sick_107 : decode cX5_sick 107 = .ok (.getfield 50, 3) := by decide +kernel
theorem dX5_sick_110 : decode cX5_sick 110 = .ok (.iload_n 2, 1) := by decide +kernel
theorem dX5_sick_111 : decode cX5_sick 111 = .ok (.iadd, 1) := by decide +kernel
theorem dX5_sick_112 : decode cX5_sick 112 = .ok (.if_icmp .ge 7, 3) := by decide +kernel
theorem dX5_sick_115 : decode cX5_sick 115 = .ok (.iconst 1, 1) := by decide +kernel
theorem dX5_sick_116 : decode cX5_sick 116 = .ok (.goto 4, 3) := by decide +kernel
theorem dX5_sick_119 : decode cX5_sick 119 = .ok (.iconst 0, 1) := by decide +kernel
theorem dX5_sick_120 : decode cX5_sick 120 = .ok (.bastore, 1) := by decide +kernel
theorem dX5_sick_121 : decode cX5_sick 121 = .ok (.iload_n 3, 1) := by decide +kernel
theorem dX5_sick_122 : decode cX5_sick 122 = .ok (.aload_n 0, 1) := by decide +kernel
theorem dX5_sick_123 : decode cX5_sick 123 = .ok (.getfield 63, 3) := by decide +kernel
theorem dX5_sick_126 : decode cX5_sick 126 = .ok (.sipush 364, 3) := by decide +kernel
theorem dX5_sick_129 : decode cX5_sick 129 = .ok (.iload_n 1, 1) := by decide +kernel
theorem dX5_sick_130 : decode cX5_sick 130 = .ok (.imul, 1) := by decide +kernel
theorem dX5_sick_131 : decode cX5_sick 131 = .ok (.iload 4, 2) := by decide +kernel
theorem dX5_sick_133 : decode cX5_sick 133 = .ok (.iadd, 1) := by decide +kernel
theorem dX5_sick_134 : decode cX5_sick 134 = .ok (.baload, 1) := by decide +kernel
theorem dX5_sick_135 : decode cX5_sick 135 = .ok (.ifCond .eq 7, 3) := by decide +kernel
theorem dX5_sick_138 : decode cX5_sick 138 = .ok (.iconst 1, 1) := by decide +kernel
theorem dX5_sick_139 : decode cX5_sick 139 = .ok (.goto 4, 3) := by decide +kernel
theorem dX5_sick_142 : decode cX5_sick 142 = .ok (.iconst 0, 1) := by decide +kernel
theorem dX5_sick_143 : decode cX5_sick 143 = .ok (.iadd, 1) := by decide +kernel
theorem dX5_sick_144 : decode cX5_sick 144 = .ok (.istore_n 3, 1) := by decide +kernel
theorem dX5_sick_145 : decode cX5_sick 145 = .ok (.iinc 4 1, 3) := by decide +kernel
theorem dX5_sick_148 : decode cX5_sick 148 = .ok (.goto (-89), 3) := by decide +kernel
theorem dX5_sick_151 : decode cX5_sick 151 = .ok (.iload_n 3, 1) := by decide +kernel
theorem dX5_sick_152 : decode cX5_sick 152 = .ok (.ireturn, 1) := by decide +kernel
set_option maxRecDepth 20000 in
theorem ggX5_warn_X5_noServant : GoodIn wsX5_warn wsX5_noServant := goodIn_r _ [9, 10, 11, 12, 8, 13, 19, 20, 21, 22, 23, 24, 25, 26, 27, 28, 29, 30, 31, 32, 33, 34, 35, 36, 37, 38, 39, 40, 41, 42, 43, 44, 45, 46] rfl (by decide +kernel)
set_option maxRecDepth 20000 in
theorem gX5_warn_X5_noServant : GoodIn wsX5_warn (wsV RX5 106 RX5 yX5_noServant wsX5_noServant) := goodIn_app (goodIn_r _ [5, 6, 7, 8] rfl (by decide +kernel)) ggX5_warn_X5_noServant
set_option maxRecDepth 20000 in
theorem ggX5_warn_X5_serves : GoodIn wsX5_warn wsX5_serves := goodIn_r _ [17, 18, 4, 19, 20, 21, 22, 23, 24, 25, 26, 27, 28, 29, 30, 31, 32, 33, 34, 35, 36, 37, 38, 39, 40, 41, 42, 43, 44, 45, 46] rfl (by decide +kernel)
set_option maxRecDepth 20000 in
theorem gX5_warn_X5_serves : GoodIn wsX5_warn (wsV RX5 144 RX5 yX5_serves wsX5_serves) := goodIn_app (goodIn_r _ [14, 15, 16, 8] rfl (by decide +kernel)) ggX5_warn_X5_serves
theorem dX5_warn_0 : decode cX5_warn 0 = .ok (.aload_n 0, 1) := by decide +kernel
theorem dX5_warn_1 : decode cX5_warn 1 = .ok (.iconst 0, 1) := by decide +kernel
theorem dX5_warn_2 : decode cX5_warn 2 = .ok (.putfield 78, 3) := by decide +kernel
theorem dX5_warn_5 : decode cX5_warn 5 = .ok (.aload_n 0, 1) := by decide +kernel
theorem dX5_warn_6 : decode cX5_warn 6 = .ok (.iload_n 1, 1) := by decide +kernel
theorem dX5_warn_7 : decode cX5_warn 7 = .ok (.invokevirtual 106, 3) := by decide +kernel
theorem dX5_warn_10 : decode cX5_warn 10 = .ok (.ifCond .eq 5, 3) := by decide +kernel
theorem dX5_warn_13 : decode cX5_warn 13 = .ok (.iconst (-1), 1) := by decide +kernel
theorem dX5_warn_14 : decode cX5_warn 14 = .ok (.ireturn, 1) := by decide +kernel
theorem dX5_warn_15 : decode cX5_warn 15 = .ok (.aload_n 0, 1) := by decide +kernel
theorem dX5_warn_16 : decode cX5_warn 16 = .ok (.getfield 50, 3) := by decide +kernel
theorem dX5_warn_19 : decode cX5_warn 19 = .ok (.bipush (-9), 2) := by decide +kernel
theorem dX5_warn_21 : decode cX5_warn 21 = .ok (.if_icmp .eq 24, 3) := by decide +kernel
theorem dX5_warn_24 : decode cX5_warn 24 = .ok (.aload_n 0, 1) := by decide +kernel
theorem dX5_warn_25 : decode cX5_warn 25 = .ok (.iload_n 1, 1) := by decide +kernel
theorem dX5_warn_26 : decode cX5_warn 26 = .ok (.aload_n 0, 1) := by decide +kernel
theorem dX5_warn_27 : decode cX5_warn 27 = .ok (.getfield 50, 3) := by decide +kernel
theorem dX5_warn_30 : decode cX5_warn 30 = .ok (.invokevirtual 144, 3) := by decide +kernel
theorem dX5_warn_33 : decode cX5_warn 33 = .ok (.ifCond .eq 12, 3) := by decide +kernel
theorem dX5_warn_36 : decode cX5_warn 36 = .ok (.aload_n 0, 1) := by decide +kernel
theorem dX5_warn_37 : decode cX5_warn 37 = .ok (.getfield 57, 3) := by decide +kernel
theorem dX5_warn_40 : decode cX5_warn 40 = .ok (.iload_n 1, 1) := by decide +kernel
theorem dX5_warn_41 : decode cX5_warn 41 = .ok (.baload, 1) := by decide +kernel
theorem dX5_warn_42 : decode cX5_warn 42 = .ok (.ifCond .eq 6, 3) := by decide +kernel
theorem dX5_warn_45 : decode cX5_warn 45 = .ok (.bipush (-3), 2) := by decide +kernel
theorem dX5_warn_47 : decode cX5_warn 47 = .ok (.ireturn, 1) := by decide +kernel
theorem dX5_warn_48 : decode cX5_warn 48 = .ok (.aload_n 0, 1) := by decide +kernel
theorem dX5_warn_49 : decode cX5_warn 49 = .ok (.getfield 57, 3) := by decide +kernel
theorem dX5_warn_52 : decode cX5_warn 52 = .ok (.iload_n 1, 1) := by decide +kernel
theorem dX5_warn_53 : decode cX5_warn 53 = .ok (.iconst 1, 1) := by decide +kernel
theorem dX5_warn_54 : decode cX5_warn 54 = .ok (.bastore, 1) := by decide +kernel
theorem dX5_warn_55 : decode cX5_warn 55 = .ok (.aload_n 0, 1) := by decide +kernel
theorem dX5_warn_56 : decode cX5_warn 56 = .ok (.getfield 54, 3) := by decide +kernel
theorem dX5_warn_59 : decode cX5_warn 59 = .ok (.iload_n 1, 1) := by decide +kernel
theorem dX5_warn_60 : decode cX5_warn 60 = .ok (.aload_n 0, 1) := by decide +kernel
theorem dX5_warn_61 : decode cX5_warn 61 = .ok (.getfield 50, 3) := by decide +kernel
theorem dX5_warn_64 : decode cX5_warn 64 = .ok (.bipush 27, 2) := by decide +kernel
theorem dX5_warn_66 : decode cX5_warn 66 = .ok (.iadd, 1) := by decide +kernel
theorem dX5_warn_67 : decode cX5_warn 67 = .ok (.sipush 363, 3) := by decide +kernel
theorem dX5_warn_70 : decode cX5_warn 70 = .ok (.if_icmp .le 9, 3) := by decide +kernel
theorem dX5_warn_73 : decode cX5_warn 73 = .ok (.sipush 363, 3) := by decide +kernel
theorem dX5_warn_76 : decode cX5_warn 76 = .ok (.goto 10, 3) := by decide +kernel
theorem dX5_warn_79 : decode cX5_warn 79 = .ok (.aload_n 0, 1) := by decide +kernel
theorem dX5_warn_80 : decode cX5_warn 80 = .ok (.getfield 50, 3) := by decide +kernel
theorem dX5_warn_83 : decode cX5_warn 83 = .ok (.bipush 27, 2) := by decide +kernel
theorem dX5_warn_85 : decode cX5_warn 85 = .ok (.iadd, 1) := by decide +kernel
theorem dX5_warn_86 : decode cX5_warn 86 = .ok (.iastore, 1) := by decide +kernel
theorem dX5_warn_87 : decode cX5_warn 87 = .ok (.aload_n 0, 1) := by decide +kernel
theorem dX5_warn_88 : decode cX5_warn 88 = .ok (.getfield 54, 3) := by decide +kernel
theorem dX5_warn_91 : decode cX5_warn 91 = .ok (.iload_n 1, 1) := by decide +kernel
theorem dX5_warn_92 : decode cX5_warn 92 = .ok (.iaload, 1) := by decide +kernel
theorem dX5_warn_93 : decode cX5_warn 93 = .ok (.ireturn, 1) := by decide +kernel
set_option maxRecDepth 20000 in
theorem ggX5_run_X5_noServant : GoodIn wsX5_run wsX5_noServant := goodIn_r _ [10, 11, 12, 13, 9, 14, 20, 21, 22, 23, 24, 25, 26, 27, 28, 29, 30, 31, 32, 33, 34, 35, 36, 37, 38, 39, 40, 41, 42, 43, 44, 45, 46, 47] rfl (by decide +kernel)
set_option maxRecDepth 20000 in
theorem gX5_run_X5_noServant : GoodIn wsX5_run (wsV RX5 106 RX5 yX5_noServant wsX5_noServant) := goodIn_app (goodIn_r _ [6, 7, 8, 9] rfl (by decide +kernel)) ggX5_run_X5_noServant
set_option maxRecDepth 20000 in
theorem ggX5_run_X5_serves : GoodIn wsX5_run wsX5_serves := goodIn_r _ [18, 19, 3, 20, 21, 22, 23, 24, 25, 26, 27, 28, 29, 30, 31, 32, 33, 34, 35, 36, 37, 38, 39, 40, 41, 42, 43, 44, 45, 46, 47] rfl (by decide +kernel)
set_option maxRecDepth 20000 in
theorem gX5_run_X5_serves : GoodIn wsX5_run (wsV RX5 144 RX5 yX5_serves wsX5_serves) := goodIn_app (goodIn_r _ [15, 16, 17, 9] rfl (by decide +kernel)) ggX5_run_X5_serves
theorem dX5_run_0 : decode cX5_run 0 = .ok (.aload_n 0, 1) := by decide +kernel
theorem dX5_run_1 : decode cX5_run 1 = .ok (.iconst 0, 1) := by decide +kernel
theorem dX5_run_2 : decode cX5_run 2 = .ok (.putfield 78, 3) := by decide +kernel
theorem dX5_run_5 : decode cX5_run 5 = .ok (.aload_n 0, 1) := by decide +kernel
theorem dX5_run_6 : decode cX5_run 6 = .ok (.iload_n 1, 1) := by decide +kernel
theorem dX5_run_7 : decode cX5_run 7 = .ok (.invokevirtual 106, 3) := by decide +kernel
theorem dX5_run_10 : decode cX5_run 10 = .ok (.ifCond .eq 5, 3) := by decide +kernel
theorem dX5_run_13 : decode cX5_run 13 = .ok (.iconst (-1), 1) := by decide +kernel
theorem dX5_run_14 : decode cX5_run 14 = .ok (.ireturn, 1) := by decide +kernel
theorem dX5_run_15 : decode cX5_run 15 = .ok (.aload_n 0, 1) := by decide +kernel
theorem dX5_run_16 : decode cX5_run 16 = .ok (.getfield 50, 3) := by decide +kernel
theorem dX5_run_19 : decode cX5_run 19 = .ok (.bipush (-9), 2) := by decide +kernel
theorem dX5_run_21 : decode cX5_run 21 = .ok (.if_icmp .eq 15, 3) := by decide +kernel
theorem dX5_run_24 : decode cX5_run 24 = .ok (.aload_n 0, 1) := by decide +kernel
theorem dX5_run_25 : decode cX5_run 25 = .ok (.iload_n 1, 1) := by decide +kernel
theorem dX5_run_26 : decode cX5_run 26 = .ok (.aload_n 0, 1) := by decide +kernel
theorem dX5_run_27 : decode cX5_run 27 = .ok (.getfield 50, 3) := by decide +kernel
theorem dX5_run_30 : decode cX5_run 30 = .ok (.invokevirtual 144, 3) := by decide +kernel
theorem dX5_run_33 : decode cX5_run 33 = .ok (.ifCond .ne 6, 3) := by decide +kernel
theorem dX5_run_36 : decode cX5_run 36 = .ok (.bipush (-3), 2) := by decide +kernel
theorem dX5_run_38 : decode cX5_run 38 = .ok (.ireturn, 1) := by decide +kernel
theorem dX5_run_39 : decode cX5_run 39 = .ok (.aload_n 0, 1) := by decide +kernel
theorem dX5_run_40 : decode cX5_run 40 = .ok (.getfield 54, 3) := by decide +kernel
theorem dX5_run_43 : decode cX5_run 43 = .ok (.iload_n 1, 1) := by decide +kernel
theorem dX5_run_44 : decode cX5_run 44 = .ok (.aload_n 0, 1) := by decide +kernel
theorem dX5_run_45 : decode cX5_run 45 = .ok (.getfield 50, 3) := by decide +kernel
theorem dX5_run_48 : decode cX5_run 48 = .ok (.iconst 1, 1) := by decide +kernel
theorem dX5_run_49 : decode cX5_run 49 = .ok (.isub, 1) := by decide +kernel
theorem dX5_run_50 : decode cX5_run 50 = .ok (.iastore, 1) := by decide +kernel
theorem dX5_run_51 : decode cX5_run 51 = .ok (.aload_n 0, 1) := by decide +kernel
theorem dX5_run_52 : decode cX5_run 52 = .ok (.getfield 60, 3) := by decide +kernel
theorem dX5_run_55 : decode cX5_run 55 = .ok (.iload_n 1, 1) := by decide +kernel
theorem dX5_run_56 : decode cX5_run 56 = .ok (.aload_n 0, 1) := by decide +kernel
theorem dX5_run_57 : decode cX5_run 57 = .ok (.getfield 139, 3) := by decide +kernel
theorem dX5_run_60 : decode cX5_run 60 = .ok (.ifCond .ne 7, 3) := by decide +kernel
theorem dX5_run_63 : decode cX5_run 63 = .ok (.iconst 1, 1) := by decide +kernel
theorem dX5_run_64 : decode cX5_run 64 = .ok (.goto 4, 3) := by decide +kernel
theorem dX5_run_67 : decode cX5_run 67 = .ok (.iconst 0, 1) := by decide +kernel
theorem dX5_run_68 : decode cX5_run 68 = .ok (.bastore, 1) := by decide +kernel
theorem dX5_run_69 : decode cX5_run 69 = .ok (.aload_n 0, 1) := by decide +kernel
theorem dX5_run_70 : decode cX5_run 70 = .ok (.getfield 54, 3) := by decide +kernel
theorem dX5_run_73 : decode cX5_run 73 = .ok (.iload_n 1, 1) := by decide +kernel
theorem dX5_run_74 : decode cX5_run 74 = .ok (.iaload, 1) := by decide +kernel
theorem dX5_run_75 : decode cX5_run 75 = .ok (.ireturn, 1) := by decide +kernel
set_option maxRecDepth 20000 in
theorem ggX5_send_X5_noServant : GoodIn wsX5_send wsX5_noServant := goodIn_r _ [10, 11, 12, 13, 9, 14, 24, 25, 26, 27, 28, 29, 30, 31, 32, 33, 34, 35, 36, 37, 38, 39, 40, 41, 42, 43, 44, 45, 46, 47, 48, 49, 50, 51] rfl (by decide +kernel)
set_option maxRecDepth 20000 in
theorem gX5_send_X5_noServant : GoodIn wsX5_send (wsV RX5 106 RX5 yX5_noServant wsX5_noServant) := goodIn_app (goodIn_r _ [6, 7, 8, 9] rfl (by decide +kernel)) ggX5_send_X5_noServant
set_option maxRecDepth 20000 in
theorem ggX5_send_X5_serves : GoodIn wsX5_send wsX5_serves := goodIn_r _ [18, 3, 5, 24, 25, 26, 27, 28, 29, 30, 31, 32, 33, 34, 35, 36, 37, 38, 39, 40, 41, 42, 43, 44, 45, 46, 47, 48, 49, 50, 51] rfl (by decide +kernel)
set_option maxRecDepth 20000 in
theorem gX5_send_X5_serves : GoodIn wsX5_send (wsV RX5 144 RX5 yX5_serves wsX5_serves) := goodIn_app (goodIn_r _ [15, 16, 17, 9] rfl (by decide +kernel)) ggX5_send_X5_serves
set_option maxRecDepth 20000 in
theorem ggX5_send_X5_held : GoodIn wsX5_send wsX5_held := goodIn_r _ [22, 23, 24, 25, 26, 27, 28, 29, 30, 31, 32, 33, 34, 35, 36, 37, 38, 39, 40, 41, 42, 43, 44, 45, 46, 47, 48, 49, 50, 51] rfl (by decide +kernel)
set_option maxRecDepth 20000 in
theorem gX5_send_X5_held : GoodIn wsX5_send (wsV RX5 91 RX5 yX5_held wsX5_held) := goodIn_app (goodIn_r _ [19, 20, 21, 9] rfl (by decide +kernel)) ggX5_send_X5_held
theorem dX5_send_0 : decode cX5_send 0 = .ok (.aload_n 0, 1) := by decide +kernel
theorem dX5_send_1 : decode cX5_send 1 = .ok (.iconst 0, 1) := by decide +kernel
theorem dX5_send_2 : decode cX5_send 2 = .ok (.putfield 78, 3) := by decide +kernel
theorem dX5_send_5 : decode cX5_send 5 = .ok (.aload_n 0, 1) := by decide +kernel
theorem dX5_send_6 : decode cX5_send 6 = .ok (.iload_n 1, 1) := by decide +kernel
theorem dX5_send_7 : decode cX5_send 7 = .ok (.invokevirtual 106, 3) := by decide +kernel
theorem dX5_send_10 : decode cX5_send 10 = .ok (.ifCond .eq 5, 3) := by decide +kernel
theorem dX5_send_13 : decode cX5_send 13 = .ok (.iconst (-1), 1) := by decide +kernel
theorem dX5_send_14 : decode cX5_send 14 = .ok (.ireturn, 1) := by decide +kernel
theorem dX5_send_15 : decode cX5_send 15 = .ok (.aload_n 0, 1) := by decide +kernel
theorem dX5_send_16 : decode cX5_send 16 = .ok (.getfield 50, 3) := by decide +kernel
theorem dX5_send_19 : decode cX5_send 19 = .ok (.bipush (-9), 2) := by decide +kernel
theorem dX5_send_21 : decode cX5_send 21 = .ok (.if_icmp .eq 35, 3) := by decide +kernel
theorem dX5_send_24 : decode cX5_send 24 = .ok (.aload_n 0, 1) := by decide +kernel
theorem dX5_send_25 : decode cX5_send 25 = .ok (.iload_n 1, 1) := by decide +kernel
theorem dX5_send_26 : decode cX5_send 26 = .ok (.aload_n 0, 1) := by decide +kernel
theorem dX5_send_27 : decode cX5_send 27 = .ok (.getfield 50, 3) := by decide +kernel
theorem dX5_send_30 : decode cX5_send 30 = .ok (.invokevirtual 144, 3) := by decide +kernel
theorem dX5_send_33 : decode cX5_send 33 = .ok (.ifCond .eq 23, 3) := by decide +kernel
theorem dX5_send_36 : decode cX5_send 36 = .ok (.aload_n 0, 1) := by decide +kernel
theorem dX5_send_37 : decode cX5_send 37 = .ok (.aload_n 0, 1) := by decide +kernel
theorem dX5_send_38 : decode cX5_send 38 = .ok (.getfield 35, 3) := by decide +kernel
theorem dX5_send_41 : decode cX5_send 41 = .ok (.iload_n 1, 1) := by decide +kernel
theorem dX5_send_42 : decode cX5_send 42 = .ok (.iaload, 1) := by decide +kernel
theorem dX5_send_43 : decode cX5_send 43 = .ok (.iload_n 1, 1) := by decide +kernel
theorem dX5_send_44 : decode cX5_send 44 = .ok (.invokevirtual 91, 3) := by decide +kernel
theorem dX5_send_47 : decode cX5_send 47 = .ok (.aload_n 0, 1) := by decide +kernel
theorem dX5_send_48 : decode cX5_send 48 = .ok (.getfield 13, 3) := by decide +kernel
theorem dX5_send_51 : decode cX5_send 51 = .ok (.iload_n 1, 1) := by decide +kernel
theorem dX5_send_52 : decode cX5_send 52 = .ok (.iaload, 1) := by decide +kernel
theorem dX5_send_53 : decode cX5_send 53 = .ok (.if_icmp .gt 6, 3) := by decide +kernel
theorem dX5_send_56 : decode cX5_send 56 = .ok (.bipush (-3), 2) := by decide +kernel
theorem dX5_send_58 : decode cX5_send 58 = .ok (.ireturn, 1) := by decide +kernel
theorem dX5_send_59 : decode cX5_send 59 = .ok (.aload_n 0, 1) := by decide +kernel
theorem dX5_send_60 : decode cX5_send 60 = .ok (.getfield 54, 3) := by decide +kernel
theorem dX5_send_63 : decode cX5_send 63 = .ok (.iload_n 1, 1) := by decide +kernel
theorem dX5_send_64 : decode cX5_send 64 = .ok (.aload_n 0, 1) := by decide +kernel
theorem dX5_send_65 : decode cX5_send 65 = .ok (.getfield 50, 3) := by decide +kernel
theorem dX5_send_68 : decode cX5_send 68 = .ok (.iconst 1, 1) := by decide +kernel
theorem dX5_send_69 : decode cX5_send 69 = .ok (.isub, 1) := by decide +kernel
theorem dX5_send_70 : decode cX5_send 70 = .ok (.iastore, 1) := by decide +kernel
theorem dX5_send_71 : decode cX5_send 71 = .ok (.aload_n 0, 1) := by decide +kernel
theorem dX5_send_72 : decode cX5_send 72 = .ok (.getfield 54, 3) := by decide +kernel
theorem dX5_send_75 : decode cX5_send 75 = .ok (.iload_n 1, 1) := by decide +kernel
theorem dX5_send_76 : decode cX5_send 76 = .ok (.iaload, 1) := by decide +kernel
theorem dX5_send_77 : decode cX5_send 77 = .ok (.ireturn, 1) := by decide +kernel
theorem dX5_dueOf_0 : decode cX5_dueOf 0 = .ok (.iconst 0, 1) := by decide +kernel
theorem dX5_dueOf_1 : decode cX5_dueOf 1 = .ok (.istore_n 3, 1) := by decide +kernel
theorem dX5_dueOf_2 : decode cX5_dueOf 2 = .ok (.iconst 0, 1) := by decide +kernel
theorem dX5_dueOf_3 : decode cX5_dueOf 3 = .ok (.istore 4, 2) := by decide +kernel
theorem dX5_dueOf_5 : decode cX5_dueOf 5 = .ok (.iload 4, 2) := by decide +kernel
theorem dX5_dueOf_7 : decode cX5_dueOf 7 = .ok (.iload_n 2, 1) := by decide +kernel
theorem dX5_dueOf_8 : decode cX5_dueOf 8 = .ok (.if_icmp .gt 44, 3) := by decide +kernel
theorem dX5_dueOf_11 : decode cX5_dueOf 11 = .ok (.iload 4, 2) := by decide +kernel
theorem dX5_dueOf_13 : decode cX5_dueOf 13 = .ok (.aload_n 0, 1) := by decide +kernel
theorem dX5_dueOf_14 : decode cX5_dueOf 14 = .ok (.getfield 54, 3) := by decide +kernel
theorem dX5_dueOf_17 : decode cX5_dueOf 17 = .ok (.iload_n 1, 1) := by decide +kernel
theorem dX5_dueOf_18 : decode cX5_dueOf 18 = .ok (.iaload, 1) := by decide +kernel
theorem dX5_dueOf_19 : decode cX5_dueOf 19 = .ok (.if_icmp .gt 33, 3) := by decide +kernel
theorem dX5_dueOf_22 : decode cX5_dueOf 22 = .ok (.iload_n 3, 1) := by decide +kernel
theorem dX5_dueOf_23 : decode cX5_dueOf 23 = .ok (.aload_n 0, 1) := by decide +kernel
theorem dX5_dueOf_24 : decode cX5_dueOf 24 = .ok (.getfield 63, 3) := by decide +kernel
theorem dX5_dueOf_27 : decode cX5_dueOf 27 = .ok (.sipush 364, 3) := by decide +kernel
theorem dX5_dueOf_30 : decode cX5_dueOf 30 = .ok (.iload_n 1, 1) := by decide +kernel
theorem dX5_dueOf_31 : decode cX5_dueOf 31 = .ok (.imul, 1) := by decide +kernel
theorem dX5_dueOf_32 : decode cX5_dueOf 32 = .ok (.iload 4, 2) := by decide +kernel
theorem dX5_dueOf_34 : decode cX5_dueOf 34 = .ok (.iadd, 1) := by decide +kernel
theorem dX5_dueOf_35 : decode cX5_dueOf 35 = .ok (.baload, 1) := by decide +kernel
theorem dX5_dueOf_36 : decode cX5_dueOf 36 = .ok (.ifCond .eq 7, 3) := by decide +kernel
theorem dX5_dueOf_39 : decode cX5_dueOf 39 = .ok (.iconst 1, 1) := by decide +kernel
theorem dX5_dueOf_40 : decode cX5_dueOf 40 = .ok (.goto 4, 3) := by decide +kernel
theorem dX5_dueOf_43 : decode cX5_dueOf 43 = .ok (.iconst 2, 1) := by decide +kernel
theorem dX5_dueOf_44 : decode cX5_dueOf 44 = .ok (.iadd, 1) := by decide +kernel
theorem dX5_dueOf_45 : decode cX5_dueOf 45 = .ok (.istore_n 3, 1) := by decide +kernel
theorem dX5_dueOf_46 : decode cX5_dueOf 46 = .ok (.iinc 4 1, 3) := by decide +kernel
theorem dX5_dueOf_49 : decode cX5_dueOf 49 = .ok (.goto (-44), 3) := by decide +kernel
theorem dX5_dueOf_52 : decode cX5_dueOf 52 = .ok (.aload_n 0, 1) := by decide +kernel
theorem dX5_dueOf_53 : decode cX5_dueOf 53 = .ok (.getfield 60, 3) := by decide +kernel
theorem dX5_dueOf_56 : decode cX5_dueOf 56 = .ok (.iload_n 1, 1) := by decide +kernel
theorem dX5_dueOf_57 : decode cX5_dueOf 57 = .ok (.baload, 1) := by decide +kernel
theorem dX5_dueOf_58 : decode cX5_dueOf 58 = .ok (.ifCond .eq 7, 3) := by decide +kernel
theorem dX5_dueOf_61 : decode cX5_dueOf 61 = .ok (.iconst 0, 1) := by decide +kernel
theorem dX5_dueOf_62 : decode cX5_dueOf 62 = .ok (.goto 18, 3) := by decide +kernel
theorem dX5_dueOf_65 : decode cX5_dueOf 65 = .ok (.bipush 12, 2) := by decide +kernel
theorem dX5_dueOf_67 : decode cX5_dueOf 67 = .ok (.aload_n 0, 1) := by decide +kernel
theorem dX5_dueOf_68 : decode cX5_dueOf 68 = .ok (.getfield 38, 3) := by decide +kernel
theorem dX5_dueOf_71 : decode cX5_dueOf 71 = .ok (.iload_n 1, 1) := by decide +kernel
theorem dX5_dueOf_72 : decode cX5_dueOf 72 = .ok (.iaload, 1) := by decide +kernel
theorem dX5_dueOf_73 : decode cX5_dueOf 73 = .ok (.imul, 1) := by decide +kernel
theorem dX5_dueOf_74 : decode cX5_dueOf 74 = .ok (.iload_n 3, 1) := by decide +kernel
theorem dX5_dueOf_75 : decode cX5_dueOf 75 = .ok (.imul, 1) := by decide +kernel
theorem dX5_dueOf_76 : decode cX5_dueOf 76 = .ok (.sipush 728, 3) := by decide +kernel
theorem dX5_dueOf_79 : decode cX5_dueOf 79 = .ok (.idiv, 1) := by decide +kernel
theorem dX5_dueOf_80 : decode cX5_dueOf 80 = .ok (.ireturn, 1) := by decide +kernel
set_option maxRecDepth 20000 in
theorem ggX5_due_X5_noServant : GoodIn wsX5_due wsX5_noServant := goodIn_r _ [9, 10, 11, 12, 8, 13, 22, 23, 24, 25, 26, 27, 28, 29, 30, 31, 32, 33, 34, 35, 36, 37, 38, 39, 40, 41, 42, 43, 44, 45, 46, 47, 48, 49] rfl (by decide +kernel)
set_option maxRecDepth 20000 in
theorem gX5_due_X5_noServant : GoodIn wsX5_due (wsV RX5 106 RX5 yX5_noServant wsX5_noServant) := goodIn_app (goodIn_r _ [5, 6, 7, 8] rfl (by decide +kernel)) ggX5_due_X5_noServant
set_option maxRecDepth 20000 in
theorem ggX5_due_X5_in : GoodIn wsX5_due wsX5_in := goodIn_r _ [13] rfl (by decide +kernel)
set_option maxRecDepth 20000 in
theorem gX5_due_X5_in : GoodIn wsX5_due (va_wsS RX5 84 yX5_in wsX5_in) := goodIn_app (goodIn_r _ [11, 12, 8] rfl (by decide +kernel)) ggX5_due_X5_in
set_option maxRecDepth 20000 in
theorem ggX5_due_X5_dueOf : GoodIn wsX5_due wsX5_dueOf := goodIn_r _ [17, 18, 19, 20, 21, 22, 23, 24, 25, 26, 27, 28, 29, 30, 31, 32, 33, 34, 35, 36, 37, 38, 39, 40, 41, 42, 43, 44, 45, 46, 47, 48, 49] rfl (by decide +kernel)
set_option maxRecDepth 20000 in
theorem gX5_due_X5_dueOf : GoodIn wsX5_due (wsV RX5 148 RX5 yX5_dueOf wsX5_dueOf) := goodIn_app (goodIn_r _ [14, 15, 16, 8] rfl (by decide +kernel)) ggX5_due_X5_dueOf
theorem dX5_due_0 : decode cX5_due 0 = .ok (.aload_n 0, 1) := by decide +kernel
theorem dX5_due_1 : decode cX5_due 1 = .ok (.iconst 0, 1) := by decide +kernel
theorem dX5_due_2 : decode cX5_due 2 = .ok (.putfield 78, 3) := by decide +kernel
theorem dX5_due_5 : decode cX5_due 5 = .ok (.aload_n 0, 1) := by decide +kernel
theorem dX5_due_6 : decode cX5_due 6 = .ok (.iload_n 1, 1) := by decide +kernel
theorem dX5_due_7 : decode cX5_due 7 = .ok (.invokevirtual 106, 3) := by decide +kernel
theorem dX5_due_10 : decode cX5_due 10 = .ok (.ifCond .eq 5, 3) := by decide +kernel
theorem dX5_due_13 : decode cX5_due 13 = .ok (.iconst (-1), 1) := by decide +kernel
theorem dX5_due_14 : decode cX5_due 14 = .ok (.ireturn, 1) := by decide +kernel
theorem dX5_due_15 : decode cX5_due 15 = .ok (.iload_n 2, 1) := by decide +kernel
theorem dX5_due_16 : decode cX5_due 16 = .ok (.i2l, 1) := by decide +kernel
theorem dX5_due_17 : decode cX5_due 17 = .ok (.lconst 0, 1) := by decide +kernel
theorem dX5_due_18 : decode cX5_due 18 = .ok (.ldc2_w 142, 3) := by decide +kernel
theorem dX5_due_21 : decode cX5_due 21 = .ok (.invokestatic 84, 3) := by decide +kernel
theorem dX5_due_24 : decode cX5_due 24 = .ok (.ifCond .ne 6, 3) := by decide +kernel
theorem dX5_due_27 : decode cX5_due 27 = .ok (.bipush (-2), 2) := by decide +kernel
theorem dX5_due_29 : decode cX5_due 29 = .ok (.ireturn, 1) := by decide +kernel
theorem dX5_due_30 : decode cX5_due 30 = .ok (.aload_n 0, 1) := by decide +kernel
theorem dX5_due_31 : decode cX5_due 31 = .ok (.getfield 50, 3) := by decide +kernel
theorem dX5_due_34 : decode cX5_due 34 = .ok (.bipush (-9), 2) := by decide +kernel
theorem dX5_due_36 : decode cX5_due 36 = .ok (.if_icmp .eq 14, 3) := by decide +kernel
theorem dX5_due_39 : decode cX5_due 39 = .ok (.aload_n 0, 1) := by decide +kernel
theorem dX5_due_40 : decode cX5_due 40 = .ok (.getfield 35, 3) := by decide +kernel
theorem dX5_due_43 : decode cX5_due 43 = .ok (.iload_n 1, 1) := by decide +kernel
theorem dX5_due_44 : decode cX5_due 44 = .ok (.iaload, 1) := by decide +kernel
theorem dX5_due_45 : decode cX5_due 45 = .ok (.bipush (-9), 2) := by decide +kernel
theorem dX5_due_47 : decode cX5_due 47 = .ok (.if_icmp .ne 8, 3) := by decide +kernel
theorem dX5_due_50 : decode cX5_due 50 = .ok (.bipush (-3), 2) := by decide +kernel
theorem dX5_due_52 : decode cX5_due 52 = .ok (.goto 9, 3) := by decide +kernel
theorem dX5_due_55 : decode cX5_due 55 = .ok (.aload_n 0, 1) := by decide +kernel
theorem dX5_due_56 : decode cX5_due 56 = .ok (.iload_n 1, 1) := by decide +kernel
theorem dX5_due_57 : decode cX5_due 57 = .ok (.iload_n 2, 1) := by decide +kernel
theorem dX5_due_58 : decode cX5_due 58 = .ok (.invokevirtual 148, 3) := by decide +kernel
theorem dX5_due_61 : decode cX5_due 61 = .ok (.ireturn, 1) := by decide +kernel
set_option maxRecDepth 20000 in
theorem ggX5_owes_X5_noMaster : GoodIn wsX5_owes wsX5_noMaster := goodIn_r _ [9, 10, 11, 12, 8, 13, 22, 23, 24, 25, 26, 27, 28, 29, 30, 31, 32, 33, 34, 35, 36, 37, 38, 39, 40, 41, 42, 43, 44, 45, 46, 47, 48, 49] rfl (by decide +kernel)
set_option maxRecDepth 20000 in
theorem gX5_owes_X5_noMaster : GoodIn wsX5_owes (wsV RX5 110 RX5 yX5_noMaster wsX5_noMaster) := goodIn_app (goodIn_r _ [5, 6, 7, 8] rfl (by decide +kernel)) ggX5_owes_X5_noMaster
set_option maxRecDepth 20000 in
theorem ggX5_owes_X5_in : GoodIn wsX5_owes wsX5_in := goodIn_r _ [13] rfl (by decide +kernel)
set_option maxRecDepth 20000 in
theorem gX5_owes_X5_in : GoodIn wsX5_owes (va_wsS RX5 84 yX5_in wsX5_in) := goodIn_app (goodIn_r _ [11, 12, 8] rfl (by decide +kernel)) ggX5_owes_X5_in
set_option maxRecDepth 20000 in
theorem ggX5_owes_X5_dueOf : GoodIn wsX5_owes wsX5_dueOf := goodIn_r _ [17, 18, 19, 20, 21, 22, 23, 24, 25, 26, 27, 28, 29, 30, 31, 32, 33, 34, 35, 36, 37, 38, 39, 40, 41, 42, 43, 44, 45, 46, 47, 48, 49] rfl (by decide +kernel)
set_option maxRecDepth 20000 in
theorem gX5_owes_X5_dueOf : GoodIn wsX5_owes (wsV RX5 148 RX5 yX5_dueOf wsX5_dueOf) := goodIn_app (goodIn_r _ [14, 15, 16, 8] rfl (by decide +kernel)) ggX5_owes_X5_dueOf
theorem dX5_owes_0 : decode cX5_owes 0 = .ok (.aload_n 0, 1) := by decide +kernel
theorem dX5_owes_1 : decode cX5_owes 1 = .ok (.iconst 0, 1) := by decide +kernel
theorem dX5_owes_2 : decode cX5_owes 2 = .ok (.putfield 78, 3) := by decide +kernel
theorem dX5_owes_5 : decode cX5_owes 5 = .ok (.aload_n 0, 1) := by decide +kernel
theorem dX5_owes_6 : decode cX5_owes 6 = .ok (.iload_n 1, 1) := by decide +kernel
theorem dX5_owes_7 : decode cX5_owes 7 = .ok (.invokevirtual 110, 3) := by decide +kernel
theorem dX5_owes_10 : decode cX5_owes 10 = .ok (.ifCond .eq 5, 3) := by decide +kernel
theorem dX5_owes_13 : decode cX5_owes 13 = .ok (.iconst (-1), 1) := by decide +kernel
theorem dX5_owes_14 : decode cX5_owes 14 = .ok (.ireturn, 1) := by decide +kernel
theorem dX5_owes_15 : decode cX5_owes 15 = .ok (.iload_n 2, 1) := by decide +kernel
theorem dX5_owes_16 : decode cX5_owes 16 = .ok (.i2l, 1) := by decide +kernel
theorem dX5_owes_17 : decode cX5_owes 17 = .ok (.lconst 0, 1) := by decide +kernel
theorem dX5_owes_18 : decode cX5_owes 18 = .ok (.ldc2_w 142, 3) := by decide +kernel
theorem dX5_owes_21 : decode cX5_owes 21 = .ok (.invokestatic 84, 3) := by decide +kernel
theorem dX5_owes_24 : decode cX5_owes 24 = .ok (.ifCond .ne 6, 3) := by decide +kernel
theorem dX5_owes_27 : decode cX5_owes 27 = .ok (.bipush (-2), 2) := by decide +kernel
theorem dX5_owes_29 : decode cX5_owes 29 = .ok (.ireturn, 1) := by decide +kernel
theorem dX5_owes_30 : decode cX5_owes 30 = .ok (.aload_n 0, 1) := by decide +kernel
theorem dX5_owes_31 : decode cX5_owes 31 = .ok (.getfield 50, 3) := by decide +kernel
theorem dX5_owes_34 : decode cX5_owes 34 = .ok (.bipush (-9), 2) := by decide +kernel
theorem dX5_owes_36 : decode cX5_owes 36 = .ok (.if_icmp .ne 8, 3) := by decide +kernel
theorem dX5_owes_39 : decode cX5_owes 39 = .ok (.bipush (-3), 2) := by decide +kernel
theorem dX5_owes_41 : decode cX5_owes 41 = .ok (.goto 29, 3) := by decide +kernel
theorem dX5_owes_44 : decode cX5_owes 44 = .ok (.aload_n 0, 1) := by decide +kernel
theorem dX5_owes_45 : decode cX5_owes 45 = .ok (.getfield 44, 3) := by decide +kernel
theorem dX5_owes_48 : decode cX5_owes 48 = .ok (.iload_n 1, 1) := by decide +kernel
theorem dX5_owes_49 : decode cX5_owes 49 = .ok (.iaload, 1) := by decide +kernel
theorem dX5_owes_50 : decode cX5_owes 50 = .ok (.bipush (-9), 2) := by decide +kernel
theorem dX5_owes_52 : decode cX5_owes 52 = .ok (.if_icmp .ne 7, 3) := by decide +kernel
theorem dX5_owes_55 : decode cX5_owes 55 = .ok (.iconst 0, 1) := by decide +kernel
theorem dX5_owes_56 : decode cX5_owes 56 = .ok (.goto 14, 3) := by decide +kernel
theorem dX5_owes_59 : decode cX5_owes 59 = .ok (.aload_n 0, 1) := by decide +kernel
theorem dX5_owes_60 : decode cX5_owes 60 = .ok (.aload_n 0, 1) := by decide +kernel
theorem dX5_owes_61 : decode cX5_owes 61 = .ok (.getfield 44, 3) := by decide +kernel
theorem dX5_owes_64 : decode cX5_owes 64 = .ok (.iload_n 1, 1) := by decide +kernel
theorem dX5_owes_65 : decode cX5_owes 65 = .ok (.iaload, 1) := by decide +kernel
theorem dX5_owes_66 : decode cX5_owes 66 = .ok (.iload_n 2, 1) := by decide +kernel
theorem dX5_owes_67 : decode cX5_owes 67 = .ok (.invokevirtual 148, 3) := by decide +kernel
theorem dX5_owes_70 : decode cX5_owes 70 = .ok (.ireturn, 1) := by decide +kernel
set_option maxRecDepth 20000 in
theorem ggX5_hands_X5_in : GoodIn wsX5_hands wsX5_in := goodIn_r _ [10] rfl (by decide +kernel)
set_option maxRecDepth 20000 in
theorem gX5_hands_X5_in : GoodIn wsX5_hands (va_wsS RX5 84 yX5_in wsX5_in) := goodIn_app (goodIn_r _ [7, 8, 9] rfl (by decide +kernel)) ggX5_hands_X5_in
set_option maxRecDepth 20000 in
theorem ggX5_hands_X5_serves : GoodIn wsX5_hands wsX5_serves := goodIn_r _ [14, 15, 16, 17, 18, 19, 20, 21, 22, 23, 24, 25, 26, 27, 28, 29, 30, 31, 32, 33, 34, 35, 36, 37, 38, 39, 40, 41, 42, 43, 44] rfl (by decide +kernel)
set_option maxRecDepth 20000 in
theorem gX5_hands_X5_serves : GoodIn wsX5_hands (wsV RX5 144 RX5 yX5_serves wsX5_serves) := goodIn_app (goodIn_r _ [11, 12, 13, 9] rfl (by decide +kernel)) ggX5_hands_X5_serves
theorem dX5_hands_0 : decode cX5_hands 0 = .ok (.aload_n 0, 1) := by decide +kernel
theorem dX5_hands_1 : decode cX5_hands 1 = .ok (.iconst 0, 1) := by decide +kernel
theorem dX5_hands_2 : decode cX5_hands 2 = .ok (.putfield 78, 3) := by decide +kernel
theorem dX5_hands_5 : decode cX5_hands 5 = .ok (.iload_n 1, 1) := by decide +kernel
theorem dX5_hands_6 : decode cX5_hands 6 = .ok (.i2l, 1) := by decide +kernel
theorem dX5_hands_7 : decode cX5_hands 7 = .ok (.lconst 0, 1) := by decide +kernel
theorem dX5_hands_8 : decode cX5_hands 8 = .ok (.ldc2_w 98, 3) := by decide +kernel
theorem dX5_hands_11 : decode cX5_hands 11 = .ok (.invokestatic 84, 3) := by decide +kernel
theorem dX5_hands_14 : decode cX5_hands 14 = .ok (.ifCond .eq 15, 3) := by decide +kernel
theorem dX5_hands_17 : decode cX5_hands 17 = .ok (.iload_n 2, 1) := by decide +kernel
theorem dX5_hands_18 : decode cX5_hands 18 = .ok (.i2l, 1) := by decide +kernel
theorem dX5_hands_19 : decode cX5_hands 19 = .ok (.lconst 0, 1) := by decide +kernel
theorem dX5_hands_20 : decode cX5_hands 20 = .ok (.ldc2_w 142, 3) := by decide +kernel
theorem dX5_hands_23 : decode cX5_hands 23 = .ok (.invokestatic 84, 3) := by decide +kernel
theorem dX5_hands_26 : decode cX5_hands 26 = .ok (.ifCond .ne 6, 3) := by decide +kernel
theorem dX5_hands_29 : decode cX5_hands 29 = .ok (.bipush (-2), 2) := by decide +kernel
theorem dX5_hands_31 : decode cX5_hands 31 = .ok (.ireturn, 1) := by decide +kernel
theorem dX5_hands_32 : decode cX5_hands 32 = .ok (.aload_n 0, 1) := by decide +kernel
theorem dX5_hands_33 : decode cX5_hands 33 = .ok (.getfield 50, 3) := by decide +kernel
theorem dX5_hands_36 : decode cX5_hands 36 = .ok (.bipush (-9), 2) := by decide +kernel
theorem dX5_hands_38 : decode cX5_hands 38 = .ok (.if_icmp .ne 6, 3) := by decide +kernel
theorem dX5_hands_41 : decode cX5_hands 41 = .ok (.bipush (-3), 2) := by decide +kernel
theorem dX5_hands_43 : decode cX5_hands 43 = .ok (.ireturn, 1) := by decide +kernel
theorem dX5_hands_44 : decode cX5_hands 44 = .ok (.iconst 0, 1) := by decide +kernel
theorem dX5_hands_45 : decode cX5_hands 45 = .ok (.istore_n 3, 1) := by decide +kernel
theorem dX5_hands_46 : decode cX5_hands 46 = .ok (.iconst 0, 1) := by decide +kernel
theorem dX5_hands_47 : decode cX5_hands 47 = .ok (.istore 4, 2) := by decide +kernel
theorem dX5_hands_49 : decode cX5_hands 49 = .ok (.iload 4, 2) := by decide +kernel
theorem dX5_hands_51 : decode cX5_hands 51 = .ok (.aload_n 0, 1) := by decide +kernel
theorem dX5_hands_52 : decode cX5_hands 52 = .ok (.getfield 81, 3) := by decide +kernel
theorem dX5_hands_55 : decode cX5_hands 55 = .ok (.if_icmp .ge 38, 3) := by decide +kernel
theorem dX5_hands_58 : decode cX5_hands 58 = .ok (.iload_n 3, 1) := by decide +kernel
theorem dX5_hands_59 : decode cX5_hands 59 = .ok (.aload_n 0, 1) := by decide +kernel
theorem dX5_hands_60 : decode cX5_hands 60 = .ok (.getfield 7, 3) := by decide +kernel
theorem dX5_hands_63 : decode cX5_hands 63 = .ok (.iload 4, 2) := by decide +kernel
theorem dX5_hands_65 : decode cX5_hands 65 = .ok (.iaload, 1) := by decide +kernel
theorem dX5_hands_66 : decode cX5_hands 66 = .ok (.iload_n 1, 1) := by decide +kernel
theorem dX5_hands_67 : decode cX5_hands 67 = .ok (.if_icmp .ne 17, 3) := by decide +kernel
theorem dX5_hands_70 : decode cX5_hands 70 = .ok (.aload_n 0, 1) := by decide +kernel
theorem dX5_hands_71 : decode cX5_hands 71 = .ok (.iload 4, 2) := by decide +kernel
theorem dX5_hands_73 : decode cX5_hands 73 = .ok (.iload_n 2, 1) := by decide +kernel
theorem dX5_hands_74 : decode cX5_hands 74 = .ok (.invokevirtual 144, 3) := by decide +kernel
theorem dX5_hands_77 : decode cX5_hands 77 = .ok (.ifCond .eq 7, 3) := by decide +kernel
theorem dX5_hands_80 : decode cX5_hands 80 = .ok (.iconst 1, 1) := by decide +kernel
theorem dX5_hands_81 : decode cX5_hands 81 = .ok (.goto 4, 3) := by decide +kernel
theorem dX5_hands_84 : decode cX5_hands 84 = .ok (.iconst 0, 1) := by decide +kernel
theorem dX5_hands_85 : decode cX5_hands 85 = .ok (.iadd, 1) := by decide +kernel
theorem dX5_hands_86 : decode cX5_hands 86 = .ok (.istore_n 3, 1) := by decide +kernel
theorem dX5_hands_87 : decode cX5_hands 87 = .ok (.iinc 4 1, 3) := by decide +kernel
theorem dX5_hands_90 : decode cX5_hands 90 = .ok (.goto (-41), 3) := by decide +kernel
theorem dX5_hands_93 : decode cX5_hands 93 = .ok (.iload_n 3, 1) := by decide +kernel
theorem dX5_hands_94 : decode cX5_hands 94 = .ok (.ireturn, 1) := by decide +kernel
theorem dX5_total_0 : decode cX5_total 0 = .ok (.aload_n 0, 1) := by decide +kernel
theorem dX5_total_1 : decode cX5_total 1 = .ok (.iconst 0, 1) := by decide +kernel
theorem dX5_total_2 : decode cX5_total 2 = .ok (.putfield 78, 3) := by decide +kernel
theorem dX5_total_5 : decode cX5_total 5 = .ok (.iconst 0, 1) := by decide +kernel
theorem dX5_total_6 : decode cX5_total 6 = .ok (.istore_n 2, 1) := by decide +kernel
theorem dX5_total_7 : decode cX5_total 7 = .ok (.iconst 0, 1) := by decide +kernel
theorem dX5_total_8 : decode cX5_total 8 = .ok (.istore_n 3, 1) := by decide +kernel
theorem dX5_total_9 : decode cX5_total 9 = .ok (.iconst 0, 1) := by decide +kernel
theorem dX5_total_10 : decode cX5_total 10 = .ok (.istore 4, 2) := by decide +kernel
theorem dX5_total_12 : decode cX5_total 12 = .ok (.iload 4, 2) := by decide +kernel
theorem dX5_total_14 : decode cX5_total 14 = .ok (.aload_n 0, 1) := by decide +kernel
theorem dX5_total_15 : decode cX5_total 15 = .ok (.getfield 81, 3) := by decide +kernel
theorem dX5_total_18 : decode cX5_total 18 = .ok (.if_icmp .ge 55, 3) := by decide +kernel
theorem dX5_total_21 : decode cX5_total 21 = .ok (.iload_n 2, 1) := by decide +kernel
theorem dX5_total_22 : decode cX5_total 22 = .ok (.aload_n 0, 1) := by decide +kernel
theorem dX5_total_23 : decode cX5_total 23 = .ok (.getfield 35, 3) := by decide +kernel
theorem dX5_total_26 : decode cX5_total 26 = .ok (.iload 4, 2) := by decide +kernel
theorem dX5_total_28 : decode cX5_total 28 = .ok (.iaload, 1) := by decide +kernel
theorem dX5_total_29 : decode cX5_total 29 = .ok (.bipush (-9), 2) := by decide +kernel
theorem dX5_total_31 : decode cX5_total 31 = .ok (.if_icmp .ne 7, 3) := by decide +kernel
theorem dX5_total_34 : decode cX5_total 34 = .ok (.iconst 0, 1) := by decide +kernel
theorem dX5_total_35 : decode cX5_total 35 = .ok (.goto 4, 3) := by decide +kernel
theorem dX5_total_38 : decode cX5_total 38 = .ok (.iconst 1, 1) := by decide +kernel
theorem dX5_total_39 : decode cX5_total 39 = .ok (.iadd, 1) := by decide +kernel
theorem dX5_total_40 : decode cX5_total 40 = .ok (.istore_n 2, 1) := by decide +kernel
theorem dX5_total_41 : decode cX5_total 41 = .ok (.iload_n 3, 1) := by decide +kernel
theorem dX5_total_42 : decode cX5_total 42 = .ok (.aload_n 0, 1) := by decide +kernel
theorem dX5_total_43 : decode cX5_total 43 = .ok (.getfield 35, 3) := by decide +kernel
theorem dX5_total_46 : decode cX5_total 46 = .ok (.iload 4, 2) := by decide +kernel
theorem dX5_total_48 : decode cX5_total 48 = .ok (.iaload, 1) := by decide +kernel
theorem dX5_total_49 : decode cX5_total 49 = .ok (.bipush (-9), 2) := by decide +kernel
theorem dX5_total_51 : decode cX5_total 51 = .ok (.if_icmp .ne 7, 3) := by decide +kernel
theorem dX5_total_54 : decode cX5_total 54 = .ok (.iconst 0, 1) := by decide +kernel
theorem dX5_total_55 : decode cX5_total 55 = .ok (.goto 10, 3) := by decide +kernel
theorem dX5_total_58 : decode cX5_total 58 = .ok (.aload_n 0, 1) := by decide +kernel
theorem dX5_total_59 : decode cX5_total 59 = .ok (.getfield 38, 3) := by decide +kernel
theorem dX5_total_62 : decode cX5_total 62 = .ok (.iload 4, 2) := by decide +kernel
theorem dX5_total_64 : decode cX5_total 64 = .ok (.iaload, 1) := by decide +kernel
theorem dX5_total_65 : decode cX5_total 65 = .ok (.iadd, 1) := by decide +kernel
theorem dX5_total_66 : decode cX5_total 66 = .ok (.istore_n 3, 1) := by decide +kernel
theorem dX5_total_67 : decode cX5_total 67 = .ok (.iinc 4 1, 3) := by decide +kernel
theorem dX5_total_70 : decode cX5_total 70 = .ok (.goto (-58), 3) := by decide +kernel
theorem dX5_total_73 : decode cX5_total 73 = .ok (.iload_n 1, 1) := by decide +kernel
theorem dX5_total_74 : decode cX5_total 74 = .ok (.tableswitch 71 0 6 #[42, 47, 52, 54, 59, 64, 66], 42) := by decide +kernel
theorem dX5_total_116 : decode cX5_total 116 = .ok (.aload_n 0, 1) := by decide +kernel
theorem dX5_total_117 : decode cX5_total 117 = .ok (.getfield 81, 3) := by decide +kernel
theorem dX5_total_120 : decode cX5_total 120 = .ok (.ireturn, 1) := by decide +kernel
theorem dX5_total_121 : decode cX5_total 121 = .ok (.aload_n 0, 1) := by decide +kernel
theorem dX5_total_122 : decode cX5_total 122 = .ok (.getfield 88, 3) := by decide +kernel
theorem dX5_total_125 : decode cX5_total 125 = .ok (.ireturn, 1) := by decide +kernel
theorem dX5_total_126 : decode cX5_total 126 = .ok (.iload_n 2, 1) := by decide +kernel
theorem dX5_total_127 : decode cX5_total 127 = .ok (.ireturn, 1) := by decide +kernel
theorem dX5_total_128 : decode cX5_total 128 = .ok (.aload_n 0, 1) := by decide +kernel
theorem dX5_total_129 : decode cX5_total 129 = .ok (.getfield 117, 3) := by decide +kernel
theorem dX5_total_132 : decode cX5_total 132 = .ok (.ireturn, 1) := by decide +kernel
theorem dX5_total_133 : decode cX5_total 133 = .ok (.aload_n 0, 1) := by decide +kernel
theorem dX5_total_134 : decode cX5_total 134 = .ok (.getfield 50, 3) := by decide +kernel
theorem dX5_total_137 : decode cX5_total 137 = .ok (.ireturn, 1) := by decide +kernel
theorem dX5_total_138 : decode cX5_total 138 = .ok (.iload_n 3, 1) := by decide +kernel
theorem dX5_total_139 : decode cX5_total 139 = .ok (.ireturn, 1) := by decide +kernel
theorem dX5_total_140 : decode cX5_total 140 = .ok (.aload_n 0, 1) := by decide +kernel
theorem dX5_total_141 : decode cX5_total 141 = .ok (.getfield 139, 3) := by decide +kernel
theorem dX5_total_144 : decode cX5_total 144 = .ok (.ireturn, 1) := by decide +kernel
theorem dX5_total_145 : decode cX5_total 145 = .ok (.bipush (-2), 2) := by decide +kernel
theorem dX5_total_147 : decode cX5_total 147 = .ok (.ireturn, 1) := by decide +kernel
theorem dJ6_bitCount_0f7a4_0 : decode cJ6_bitCount_0f7a4 0 = .ok (.iload_n 0, 1) := by decide +kernel
theorem dJ6_bitCount_0f7a4_1 : decode cJ6_bitCount_0f7a4 1 = .ok (.iload_n 0, 1) := by decide +kernel
theorem dJ6_bitCount_0f7a4_2 : decode cJ6_bitCount_0f7a4 2 = .ok (.iconst 1, 1) := by decide +kernel
theorem dJ6_bitCount_0f7a4_3 : decode cJ6_bitCount_0f7a4 3 = .ok (.iushr, 1) := by decide +kernel
theorem dJ6_bitCount_0f7a4_4 : decode cJ6_bitCount_0f7a4 4 = .ok (.ldc_w 265, 3) := by decide +kernel
theorem dJ6_bitCount_0f7a4_7 : decode cJ6_bitCount_0f7a4 7 = .ok (.iand, 1) := by decide +kernel
theorem dJ6_bitCount_0f7a4_8 : decode cJ6_bitCount_0f7a4 8 = .ok (.isub, 1) := by decide +kernel
theorem dJ6_bitCount_0f7a4_9 : decode cJ6_bitCount_0f7a4 9 = .ok (.istore_n 0, 1) := by decide +kernel
theorem dJ6_bitCount_0f7a4_10 : decode cJ6_bitCount_0f7a4 10 = .ok (.iload_n 0, 1) := by decide +kernel
theorem dJ6_bitCount_0f7a4_11 : decode cJ6_bitCount_0f7a4 11 = .ok (.ldc_w 266, 3) := by decide +kernel
theorem dJ6_bitCount_0f7a4_14 : decode cJ6_bitCount_0f7a4 14 = .ok (.iand, 1) := by decide +kernel
theorem dJ6_bitCount_0f7a4_15 : decode cJ6_bitCount_0f7a4 15 = .ok (.iload_n 0, 1) := by decide +kernel
theorem dJ6_bitCount_0f7a4_16 : decode cJ6_bitCount_0f7a4 16 = .ok (.iconst 2, 1) := by decide +kernel
theorem dJ6_bitCount_0f7a4_17 : decode cJ6_bitCount_0f7a4 17 = .ok (.iushr, 1) := by decide +kernel
theorem dJ6_bitCount_0f7a4_18 : decode cJ6_bitCount_0f7a4 18 = .ok (.ldc_w 266, 3) := by decide +kernel
theorem dJ6_bitCount_0f7a4_21 : decode cJ6_bitCount_0f7a4 21 = .ok (.iand, 1) := by decide +kernel
theorem dJ6_bitCount_0f7a4_22 : decode cJ6_bitCount_0f7a4 22 = .ok (.iadd, 1) := by decide +kernel
theorem dJ6_bitCount_0f7a4_23 : decode cJ6_bitCount_0f7a4 23 = .ok (.istore_n 0, 1) := by decide +kernel
theorem dJ6_bitCount_0f7a4_24 : decode cJ6_bitCount_0f7a4 24 = .ok (.iload_n 0, 1) := by decide +kernel
theorem dJ6_bitCount_0f7a4_25 : decode cJ6_bitCount_0f7a4 25 = .ok (.iload_n 0, 1) := by decide +kernel
theorem dJ6_bitCount_0f7a4_26 : decode cJ6_bitCount_0f7a4 26 = .ok (.iconst 4, 1) := by decide +kernel
theorem dJ6_bitCount_0f7a4_27 : decode cJ6_bitCount_0f7a4 27 = .ok (.iushr, 1) := by decide +kernel
theorem dJ6_bitCount_0f7a4_28 : decode cJ6_bitCount_0f7a4 28 = .ok (.iadd, 1) := by decide +kernel
theorem dJ6_bitCount_0f7a4_29 : decode cJ6_bitCount_0f7a4 29 = .ok (.ldc_w 267, 3) := by decide +kernel
theorem dJ6_bitCount_0f7a4_32 : decode cJ6_bitCount_0f7a4 32 = .ok (.iand, 1) := by decide +kernel
theorem dJ6_bitCount_0f7a4_33 : decode cJ6_bitCount_0f7a4 33 = .ok (.istore_n 0, 1) := by decide +kernel
theorem dJ6_bitCount_0f7a4_34 : decode cJ6_bitCount_0f7a4 34 = .ok (.iload_n 0, 1) := by decide +kernel
theorem dJ6_bitCount_0f7a4_35 : decode cJ6_bitCount_0f7a4 35 = .ok (.iload_n 0, 1) := by decide +kernel
theorem dJ6_bitCount_0f7a4_36 : decode cJ6_bitCount_0f7a4 36 = .ok (.bipush 8, 2) := by decide +kernel
theorem dJ6_bitCount_0f7a4_38 : decode cJ6_bitCount_0f7a4 38 = .ok (.iushr, 1) := by decide +kernel
theorem dJ6_bitCount_0f7a4_39 : decode cJ6_bitCount_0f7a4 39 = .ok (.iadd, 1) := by decide +kernel
theorem dJ6_bitCount_0f7a4_40 : decode cJ6_bitCount_0f7a4 40 = .ok (.istore_n 0, 1) := by decide +kernel
theorem dJ6_bitCount_0f7a4_41 : decode cJ6_bitCount_0f7a4 41 = .ok (.iload_n 0, 1) := by decide +kernel
theorem dJ6_bitCount_0f7a4_42 : decode cJ6_bitCount_0f7a4 42 = .ok (.iload_n 0, 1) := by decide +kernel
theorem dJ6_bitCount_0f7a4_43 : decode cJ6_bitCount_0f7a4 43 = .ok (.bipush 16, 2) := by decide +kernel
theorem dJ6_bitCount_0f7a4_45 : decode cJ6_bitCount_0f7a4 45 = .ok (.iushr, 1) := by decide +kernel
theorem dJ6_bitCount_0f7a4_46 : decode cJ6_bitCount_0f7a4 46 = .ok (.iadd, 1) := by decide +kernel
theorem dJ6_bitCount_0f7a4_47 : decode cJ6_bitCount_0f7a4 47 = .ok (.istore_n 0, 1) := by decide +kernel
theorem dJ6_bitCount_0f7a4_48 : decode cJ6_bitCount_0f7a4 48 = .ok (.iload_n 0, 1) := by decide +kernel
theorem dJ6_bitCount_0f7a4_49 : decode cJ6_bitCount_0f7a4 49 = .ok (.bipush 63, 2) := by decide +kernel
theorem dJ6_bitCount_0f7a4_51 : decode cJ6_bitCount_0f7a4 51 = .ok (.iand, 1) := by decide +kernel
theorem dJ6_bitCount_0f7a4_52 : decode cJ6_bitCount_0f7a4 52 = .ok (.ireturn, 1) := by decide +kernel
theorem dJ9_max_7cf53_0 : decode cJ9_max_7cf53 0 = .ok (.iload_n 0, 1) := by decide +kernel
theorem dJ9_max_7cf53_1 : decode cJ9_max_7cf53 1 = .ok (.iload_n 1, 1) := by decide +kernel
theorem dJ9_max_7cf53_2 : decode cJ9_max_7cf53 2 = .ok (.if_icmp .lt 7, 3) := by decide +kernel
theorem dJ9_max_7cf53_5 : decode cJ9_max_7cf53 5 = .ok (.iload_n 0, 1) := by decide +kernel
theorem dJ9_max_7cf53_6 : decode cJ9_max_7cf53 6 = .ok (.goto 4, 3) := by decide +kernel
theorem dJ9_max_7cf53_9 : decode cJ9_max_7cf53 9 = .ok (.iload_n 1, 1) := by decide +kernel
theorem dJ9_max_7cf53_10 : decode cJ9_max_7cf53 10 = .ok (.ireturn, 1) := by decide +kernel
theorem dJ9_min_7cf53_0 : decode cJ9_min_7cf53 0 = .ok (.iload_n 0, 1) := by decide +kernel
theorem dJ9_min_7cf53_1 : decode cJ9_min_7cf53 1 = .ok (.iload_n 1, 1) := by decide +kernel
theorem dJ9_min_7cf53_2 : decode cJ9_min_7cf53 2 = .ok (.if_icmp .gt 7, 3) := by decide +kernel
theorem dJ9_min_7cf53_5 : decode cJ9_min_7cf53 5 = .ok (.iload_n 0, 1) := by decide +kernel
theorem dJ9_min_7cf53_6 : decode cJ9_min_7cf53 6 = .ok (.goto 4, 3) := by decide +kernel
theorem dJ9_min_7cf53_9 : decode cJ9_min_7cf53 9 = .ok (.iload_n 1, 1) := by decide +kernel
theorem dJ9_min_7cf53_10 : decode cJ9_min_7cf53 10 = .ok (.ireturn, 1) := by decide +kernel
theorem dJ7_fill_53178_0 : decode cJ7_fill_53178 0 = .ok (.iconst 0, 1) := by decide +kernel
theorem dJ7_fill_53178_1 : decode cJ7_fill_53178 1 = .ok (.istore_n 2, 1) := by decide +kernel
theorem dJ7_fill_53178_2 : decode cJ7_fill_53178 2 = .ok (.aload_n 0, 1) := by decide +kernel
theorem dJ7_fill_53178_3 : decode cJ7_fill_53178 3 = .ok (.arraylength, 1) := by decide +kernel
theorem dJ7_fill_53178_4 : decode cJ7_fill_53178 4 = .ok (.istore_n 3, 1) := by decide +kernel
theorem dJ7_fill_53178_5 : decode cJ7_fill_53178 5 = .ok (.iload_n 2, 1) := by decide +kernel
theorem dJ7_fill_53178_6 : decode cJ7_fill_53178 6 = .ok (.iload_n 3, 1) := by decide +kernel
theorem dJ7_fill_53178_7 : decode cJ7_fill_53178 7 = .ok (.if_icmp .ge 13, 3) := by decide +kernel
theorem dJ7_fill_53178_10 : decode cJ7_fill_53178 10 = .ok (.aload_n 0, 1) := by decide +kernel
theorem dJ7_fill_53178_11 : decode cJ7_fill_53178 11 = .ok (.iload_n 2, 1) := by decide +kernel
theorem dJ7_fill_53178_12 : decode cJ7_fill_53178 12 = .ok (.iload_n 1, 1) := by decide +kernel
theorem dJ7_fill_53178_13 : decode cJ7_fill_53178 13 = .ok (.iastore, 1) := by decide +kernel
theorem dJ7_fill_53178_14 : decode cJ7_fill_53178 14 = .ok (.iinc 2 1, 3) := by decide +kernel
theorem dJ7_fill_53178_17 : decode cJ7_fill_53178 17 = .ok (.goto (-12), 3) := by decide +kernel
theorem dJ7_fill_53178_20 : decode cJ7_fill_53178 20 = .ok (.return_, 1) := by decide +kernel
