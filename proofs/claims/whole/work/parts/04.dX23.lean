theorem dX2_init_0 : decode cX2_init 0 = .ok (.aload_n 0, 1) := by decide +kernel
theorem dX2_init_1 : decode cX2_init 1 = .ok (.invokespecial 3, 3) := by decide +kernel
theorem dX2_init_4 : decode cX2_init 4 = .ok (.aload_n 0, 1) := by decide +kernel
theorem dX2_init_5 : decode cX2_init 5 = .ok (.bipush 10, 2) := by decide +kernel
theorem dX2_init_7 : decode cX2_init 7 = .ok (.newarray .int, 2) := by decide +kernel
theorem dX2_init_9 : decode cX2_init 9 = .ok (.putfield 9, 3) := by decide +kernel
theorem dX2_init_12 : decode cX2_init 12 = .ok (.aload_n 0, 1) := by decide +kernel
theorem dX2_init_13 : decode cX2_init 13 = .ok (.bipush 10, 2) := by decide +kernel
theorem dX2_init_15 : decode cX2_init 15 = .ok (.newarray .int, 2) := by decide +kernel
theorem dX2_init_17 : decode cX2_init 17 = .ok (.putfield 15, 3) := by decide +kernel
theorem dX2_init_20 : decode cX2_init 20 = .ok (.aload_n 0, 1) := by decide +kernel
theorem dX2_init_21 : decode cX2_init 21 = .ok (.bipush 10, 2) := by decide +kernel
theorem dX2_init_23 : decode cX2_init 23 = .ok (.newarray .int, 2) := by decide +kernel
theorem dX2_init_25 : decode cX2_init 25 = .ok (.putfield 18, 3) := by decide +kernel
theorem dX2_init_28 : decode cX2_init 28 = .ok (.aload_n 0, 1) := by decide +kernel
theorem dX2_init_29 : decode cX2_init 29 = .ok (.bipush 10, 2) := by decide +kernel
theorem dX2_init_31 : decode cX2_init 31 = .ok (.newarray .int, 2) := by decide +kernel
theorem dX2_init_33 : decode cX2_init 33 = .ok (.putfield 21, 3) := by decide +kernel
theorem dX2_init_36 : decode cX2_init 36 = .ok (.aload_n 0, 1) := by decide +kernel
theorem dX2_init_37 : decode cX2_init 37 = .ok (.bipush 10, 2) := by decide +kernel
theorem dX2_init_39 : decode cX2_init 39 = .ok (.newarray .int, 2) := by decide +kernel
theorem dX2_init_41 : decode cX2_init 41 = .ok (.putfield 24, 3) := by decide +kernel
theorem dX2_init_44 : decode cX2_init 44 = .ok (.aload_n 0, 1) := by decide +kernel
theorem dX2_init_45 : decode cX2_init 45 = .ok (.bipush 10, 2) := by decide +kernel
theorem dX2_init_47 : decode cX2_init 47 = .ok (.bipush 10, 2) := by decide +kernel
theorem dX2_init_49 : decode cX2_init 49 = .ok (.multianewarray 27 2, 4) := by decide +kernel
theorem dX2_init_53 : decode cX2_init 53 = .ok (.putfield 29, 3) := by decide +kernel
theorem dX2_init_56 : decode cX2_init 56 = .ok (.aload_n 0, 1) := by decide +kernel
theorem dX2_init_57 : decode cX2_init 57 = .ok (.bipush 10, 2) := by decide +kernel
theorem dX2_init_59 : decode cX2_init 59 = .ok (.newarray .int, 2) := by decide +kernel
theorem dX2_init_61 : decode cX2_init 61 = .ok (.putfield 32, 3) := by decide +kernel
theorem dX2_init_64 : decode cX2_init 64 = .ok (.return_, 1) := by decide +kernel
theorem dX2_addServant_0 : decode cX2_addServant 0 = .ok (.aload_n 0, 1) := by decide +kernel
theorem dX2_addServant_1 : decode cX2_addServant 1 = .ok (.getfield 35, 3) := by decide +kernel
theorem dX2_addServant_4 : decode cX2_addServant 4 = .ok (.bipush 10, 2) := by decide +kernel
theorem dX2_addServant_6 : decode cX2_addServant 6 = .ok (.if_icmp .lt 6, 3) := by decide +kernel
theorem dX2_addServant_9 : decode cX2_addServant 9 = .ok (.bipush (-4), 2) := by decide +kernel
theorem dX2_addServant_11 : decode cX2_addServant 11 = .ok (.ireturn, 1) := by decide +kernel
theorem dX2_addServant_12 : decode cX2_addServant 12 = .ok (.aload_n 0, 1) := by decide +kernel
theorem dX2_addServant_13 : decode cX2_addServant 13 = .ok (.getfield 9, 3) := by decide +kernel
theorem dX2_addServant_16 : decode cX2_addServant 16 = .ok (.aload_n 0, 1) := by decide +kernel
theorem dX2_addServant_17 : decode cX2_addServant 17 = .ok (.getfield 35, 3) := by decide +kernel
theorem dX2_addServant_20 : decode cX2_addServant 20 = .ok (.iload_n 1, 1) := by decide +kernel
theorem dX2_addServant_21 : decode cX2_addServant 21 = .ok (.iastore, 1) := by decide +kernel
theorem dX2_addServant_22 : decode cX2_addServant 22 = .ok (.aload_n 0, 1) := by decide +kernel
theorem dX2_addServant_23 : decode cX2_addServant 23 = .ok (.getfield 15, 3) := by decide +kernel
theorem dX2_addServant_26 : decode cX2_addServant 26 = .ok (.aload_n 0, 1) := by decide +kernel
theorem dX2_addServant_27 : decode cX2_addServant 27 = .ok (.getfield 35, 3) := by decide +kernel
theorem dX2_addServant_30 : decode cX2_addServant 30 = .ok (.iload_n 2, 1) := by decide +kernel
theorem dX2_addServant_31 : decode cX2_addServant 31 = .ok (.iastore, 1) := by decide +kernel
theorem dX2_addServant_32 : decode cX2_addServant 32 = .ok (.aload_n 0, 1) := by decide +kernel
theorem dX2_addServant_33 : decode cX2_addServant 33 = .ok (.getfield 18, 3) := by decide +kernel
theorem dX2_addServant_36 : decode cX2_addServant 36 = .ok (.aload_n 0, 1) := by decide +kernel
theorem dX2_addServant_37 : decode cX2_addServant 37 = .ok (.getfield 35, 3) := by decide +kernel
theorem dX2_addServant_40 : decode cX2_addServant 40 = .ok (.iload_n 3, 1) := by decide +kernel
theorem dX2_addServant_41 : decode cX2_addServant 41 = .ok (.iastore, 1) := by decide +kernel
theorem dX2_addServant_42 : decode cX2_addServant 42 = .ok (.aload_n 0, 1) := by decide +kernel
theorem dX2_addServant_43 : decode cX2_addServant 43 = .ok (.dup, 1) := by decide +kernel
theorem dX2_addServant_44 : decode cX2_addServant 44 = .ok (.getfield 35, 3) := by decide +kernel
theorem dX2_addServant_47 : decode cX2_addServant 47 = .ok (.iconst 1, 1) := by decide +kernel
theorem dX2_addServant_48 : decode cX2_addServant 48 = .ok (.iadd, 1) := by decide +kernel
theorem dX2_addServant_49 : decode cX2_addServant 49 = .ok (.putfield 35, 3) := by decide +kernel
theorem dX2_addServant_52 : decode cX2_addServant 52 = .ok (.aload_n 0, 1) := by decide +kernel
theorem dX2_addServant_53 : decode cX2_addServant 53 = .ok (.getfield 35, 3) := by decide +kernel
theorem dX2_addServant_56 : decode cX2_addServant 56 = .ok (.iconst 1, 1) := by decide +kernel
theorem dX2_addServant_57 : decode cX2_addServant 57 = .ok (.isub, 1) := by decide +kernel
theorem dX2_addServant_58 : decode cX2_addServant 58 = .ok (.ireturn, 1) := by decide +kernel
theorem dX2_addMaster_0 : decode cX2_addMaster 0 = .ok (.aload_n 0, 1) := by decide +kernel
theorem dX2_addMaster_1 : decode cX2_addMaster 1 = .ok (.getfield 39, 3) := by decide +kernel
theorem dX2_addMaster_4 : decode cX2_addMaster 4 = .ok (.bipush 10, 2) := by decide +kernel
theorem dX2_addMaster_6 : decode cX2_addMaster 6 = .ok (.if_icmp .lt 6, 3) := by decide +kernel
theorem dX2_addMaster_9 : decode cX2_addMaster 9 = .ok (.bipush (-4), 2) := by decide +kernel
theorem dX2_addMaster_11 : decode cX2_addMaster 11 = .ok (.ireturn, 1) := by decide +kernel
theorem dX2_addMaster_12 : decode cX2_addMaster 12 = .ok (.aload_n 0, 1) := by decide +kernel
theorem dX2_addMaster_13 : decode cX2_addMaster 13 = .ok (.getfield 21, 3) := by decide +kernel
theorem dX2_addMaster_16 : decode cX2_addMaster 16 = .ok (.aload_n 0, 1) := by decide +kernel
theorem dX2_addMaster_17 : decode cX2_addMaster 17 = .ok (.getfield 39, 3) := by decide +kernel
theorem dX2_addMaster_20 : decode cX2_addMaster 20 = .ok (.iload_n 1, 1) := by decide +kernel
theorem dX2_addMaster_21 : decode cX2_addMaster 21 = .ok (.iastore, 1) := by decide +kernel
theorem dX2_addMaster_22 : decode cX2_addMaster 22 = .ok (.aload_n 0, 1) := by decide +kernel
theorem dX2_addMaster_23 : decode cX2_addMaster 23 = .ok (.getfield 24, 3) := by decide +kernel
theorem dX2_addMaster_26 : decode cX2_addMaster 26 = .ok (.aload_n 0, 1) := by decide +kernel
theorem dX2_addMaster_27 : decode cX2_addMaster 27 = .ok (.getfield 39, 3) := by decide +kernel
theorem dX2_addMaster_30 : decode cX2_addMaster 30 = .ok (.iload_n 2, 1) := by decide +kernel
theorem dX2_addMaster_31 : decode cX2_addMaster 31 = .ok (.iastore, 1) := by decide +kernel
theorem dX2_addMaster_32 : decode cX2_addMaster 32 = .ok (.aload_n 0, 1) := by decide +kernel
theorem dX2_addMaster_33 : decode cX2_addMaster 33 = .ok (.dup, 1) := by decide +kernel
theorem dX2_addMaster_34 : decode cX2_addMaster 34 = .ok (.getfield 39, 3) := by decide +kernel
theorem dX2_addMaster_37 : decode cX2_addMaster 37 = .ok (.iconst 1, 1) := by decide +kernel
theorem dX2_addMaster_38 : decode cX2_addMaster 38 = .ok (.iadd, 1) := by decide +kernel
theorem dX2_addMaster_39 : decode cX2_addMaster 39 = .ok (.putfield 39, 3) := by decide +kernel
theorem dX2_addMaster_42 : decode cX2_addMaster 42 = .ok (.aload_n 0, 1) := by decide +kernel
theorem dX2_addMaster_43 : decode cX2_addMaster 43 = .ok (.getfield 39, 3) := by decide +kernel
theorem dX2_addMaster_46 : decode cX2_addMaster 46 = .ok (.iconst 1, 1) := by decide +kernel
theorem dX2_addMaster_47 : decode cX2_addMaster 47 = .ok (.isub, 1) := by decide +kernel
theorem dX2_addMaster_48 : decode cX2_addMaster 48 = .ok (.ireturn, 1) := by decide +kernel
theorem dX2_hasServant_0 : decode cX2_hasServant 0 = .ok (.iload_n 1, 1) := by decide +kernel
theorem dX2_hasServant_1 : decode cX2_hasServant 1 = .ok (.ifCond .lt 15, 3) := by decide +kernel
theorem dX2_hasServant_4 : decode cX2_hasServant 4 = .ok (.iload_n 1, 1) := by decide +kernel
theorem dX2_hasServant_5 : decode cX2_hasServant 5 = .ok (.aload_n 0, 1) := by decide +kernel
theorem dX2_hasServant_6 : decode cX2_hasServant 6 = .ok (.getfield 35, 3) := by decide +kernel
theorem dX2_hasServant_9 : decode cX2_hasServant 9 = .ok (.if_icmp .ge 7, 3) := by decide +kernel
theorem dX2_hasServant_12 : decode cX2_hasServant 12 = .ok (.iconst 1, 1) := by decide +kernel
theorem dX2_hasServant_13 : decode cX2_hasServant 13 = .ok (.goto 4, 3) := by decide +kernel
theorem dX2_hasServant_16 : decode cX2_hasServant 16 = .ok (.iconst 0, 1) := by decide +kernel
theorem dX2_hasServant_17 : decode cX2_hasServant 17 = .ok (.ireturn, 1) := by decide +kernel
theorem dX2_hasMaster_0 : decode cX2_hasMaster 0 = .ok (.iload_n 1, 1) := by decide +kernel
theorem dX2_hasMaster_1 : decode cX2_hasMaster 1 = .ok (.ifCond .lt 15, 3) := by decide +kernel
theorem dX2_hasMaster_4 : decode cX2_hasMaster 4 = .ok (.iload_n 1, 1) := by decide +kernel
theorem dX2_hasMaster_5 : decode cX2_hasMaster 5 = .ok (.aload_n 0, 1) := by decide +kernel
theorem dX2_hasMaster_6 : decode cX2_hasMaster 6 = .ok (.getfield 39, 3) := by decide +kernel
theorem dX2_hasMaster_9 : decode cX2_hasMaster 9 = .ok (.if_icmp .ge 7, 3) := by decide +kernel
theorem dX2_hasMaster_12 : decode cX2_hasMaster 12 = .ok (.iconst 1, 1) := by decide +kernel
theorem dX2_hasMaster_13 : decode cX2_hasMaster 13 = .ok (.goto 4, 3) := by decide +kernel
theorem dX2_hasMaster_16 : decode cX2_hasMaster 16 = .ok (.iconst 0, 1) := by decide +kernel
theorem dX2_hasMaster_17 : decode cX2_hasMaster 17 = .ok (.ireturn, 1) := by decide +kernel
set_option maxRecDepth 20000 in
theorem ggX2_hasBoth_X2_hasMaster : GoodIn wsX2_hasBoth wsX2_hasMaster := goodIn_r _ [5, 6, 12, 13, 14, 15, 16, 17, 18, 19, 20] rfl (by decide +kernel)
set_option maxRecDepth 20000 in
theorem gX2_hasBoth_X2_hasMaster : GoodIn wsX2_hasBoth (wsV RX2 42 RX2 yX2_hasMaster wsX2_hasMaster) := goodIn_app (goodIn_r _ [1, 2, 3, 4] rfl (by decide +kernel)) ggX2_hasBoth_X2_hasMaster
set_option maxRecDepth 20000 in
theorem ggX2_hasBoth_X2_hasServant : GoodIn wsX2_hasBoth wsX2_hasServant := goodIn_r _ [10, 11, 12, 13, 14, 15, 16, 17, 18, 19, 20] rfl (by decide +kernel)
set_option maxRecDepth 20000 in
theorem gX2_hasBoth_X2_hasServant : GoodIn wsX2_hasBoth (wsV RX2 46 RX2 yX2_hasServant wsX2_hasServant) := goodIn_app (goodIn_r _ [7, 8, 9, 4] rfl (by decide +kernel)) ggX2_hasBoth_X2_hasServant
theorem dX2_hasBoth_0 : decode cX2_hasBoth 0 = .ok (.aload_n 0, 1) := by decide +kernel
theorem dX2_hasBoth_1 : decode cX2_hasBoth 1 = .ok (.iload_n 1, 1) := by decide +kernel
theorem dX2_hasBoth_2 : decode cX2_hasBoth 2 = .ok (.invokevirtual 42, 3) := by decide +kernel
theorem dX2_hasBoth_5 : decode cX2_hasBoth 5 = .ok (.ifCond .eq 15, 3) := by decide +kernel
theorem dX2_hasBoth_8 : decode cX2_hasBoth 8 = .ok (.aload_n 0, 1) := by decide +kernel
theorem dX2_hasBoth_9 : decode cX2_hasBoth 9 = .ok (.iload_n 2, 1) := by decide +kernel
theorem dX2_hasBoth_10 : decode cX2_hasBoth 10 = .ok (.invokevirtual 46, 3) := by decide +kernel
theorem dX2_hasBoth_13 : decode cX2_hasBoth 13 = .ok (.ifCond .eq 7, 3) := by decide +kernel
theorem dX2_hasBoth_16 : decode cX2_hasBoth 16 = .ok (.iconst 1, 1) := by decide +kernel
theorem dX2_hasBoth_17 : decode cX2_hasBoth 17 = .ok (.goto 4, 3) := by decide +kernel
theorem dX2_hasBoth_20 : decode cX2_hasBoth 20 = .ok (.iconst 0, 1) := by decide +kernel
theorem dX2_hasBoth_21 : decode cX2_hasBoth 21 = .ok (.ireturn, 1) := by decide +kernel
theorem dX2_isBarred_0 : decode cX2_isBarred 0 = .ok (.aload_n 0, 1) := by decide +kernel
theorem dX2_isBarred_1 : decode cX2_isBarred 1 = .ok (.getfield 32, 3) := by decide +kernel
theorem dX2_isBarred_4 : decode cX2_isBarred 4 = .ok (.iload_n 1, 1) := by decide +kernel
theorem dX2_isBarred_5 : decode cX2_isBarred 5 = .ok (.iaload, 1) := by decide +kernel
theorem dX2_isBarred_6 : decode cX2_isBarred 6 = .ok (.iconst 1, 1) := by decide +kernel
theorem dX2_isBarred_7 : decode cX2_isBarred 7 = .ok (.iload_n 2, 1) := by decide +kernel
theorem dX2_isBarred_8 : decode cX2_isBarred 8 = .ok (.ishl, 1) := by decide +kernel
theorem dX2_isBarred_9 : decode cX2_isBarred 9 = .ok (.iand, 1) := by decide +kernel
theorem dX2_isBarred_10 : decode cX2_isBarred 10 = .ok (.ifCond .eq 7, 3) := by decide +kernel
theorem dX2_isBarred_13 : decode cX2_isBarred 13 = .ok (.iconst 1, 1) := by decide +kernel
theorem dX2_isBarred_14 : decode cX2_isBarred 14 = .ok (.goto 4, 3) := by decide +kernel
theorem dX2_isBarred_17 : decode cX2_isBarred 17 = .ok (.iconst 0, 1) := by decide +kernel
theorem dX2_isBarred_18 : decode cX2_isBarred 18 = .ok (.ireturn, 1) := by decide +kernel
theorem dX2_setBar_0 : decode cX2_setBar 0 = .ok (.iload_n 3, 1) := by decide +kernel
theorem dX2_setBar_1 : decode cX2_setBar 1 = .ok (.ifCond .eq 18, 3) := by decide +kernel
theorem dX2_setBar_4 : decode cX2_setBar 4 = .ok (.aload_n 0, 1) := by decide +kernel
theorem dX2_setBar_5 : decode cX2_setBar 5 = .ok (.getfield 32, 3) := by decide +kernel
theorem dX2_setBar_8 : decode cX2_setBar 8 = .ok (.iload_n 1, 1) := by decide +kernel
theorem dX2_setBar_9 : decode cX2_setBar 9 = .ok (.dup2, 1) := by decide +kernel
theorem dX2_setBar_10 : decode cX2_setBar 10 = .ok (.iaload, 1) := by decide +kernel
theorem dX2_setBar_11 : decode cX2_setBar 11 = .ok (.iconst 1, 1) := by decide +kernel
theorem dX2_setBar_12 : decode cX2_setBar 12 = .ok (.iload_n 2, 1) := by decide +kernel
theorem dX2_setBar_13 : decode cX2_setBar 13 = .ok (.ishl, 1) := by decide +kernel
theorem dX2_setBar_14 : decode cX2_setBar 14 = .ok (.ior, 1) := by decide +kernel
theorem dX2_setBar_15 : decode cX2_setBar 15 = .ok (.iastore, 1) := by decide +kernel
theorem dX2_setBar_16 : decode cX2_setBar 16 = .ok (.goto 17, 3) := by decide +kernel
theorem dX2_setBar_19 : decode cX2_setBar 19 = .ok (.aload_n 0, 1) := by decide +kernel
theorem dX2_setBar_20 : decode cX2_setBar 20 = .ok (.getfield 32, 3) := by decide +kernel
theorem dX2_setBar_23 : decode cX2_setBar 23 = .ok (.iload_n 1, 1) := by decide +kernel
theorem dX2_setBar_24 : decode cX2_setBar 24 = .ok (.dup2, 1) := by decide +kernel
theorem dX2_setBar_25 : decode cX2_setBar 25 = .ok (.iaload, 1) := by decide +kernel
theorem dX2_setBar_26 : decode cX2_setBar 26 = .ok (.iconst 1, 1) := by decide +kernel
theorem dX2_setBar_27 : decode cX2_setBar 27 = .ok (.iload_n 2, 1) := by decide +kernel
theorem dX2_setBar_28 : decode cX2_setBar 28 = .ok (.ishl, 1) := by decide +kernel
theorem dX2_setBar_29 : decode cX2_setBar 29 = .ok (.iconst (-1), 1) := by decide +kernel
theorem dX2_setBar_30 : decode cX2_setBar 30 = .ok (.ixor, 1) := by decide +kernel
theorem dX2_setBar_31 : decode cX2_setBar 31 = .ok (.iand, 1) := by decide +kernel
theorem dX2_setBar_32 : decode cX2_setBar 32 = .ok (.iastore, 1) := by decide +kernel
theorem dX2_setBar_33 : decode cX2_setBar 33 = .ok (.return_, 1) := by decide +kernel
theorem dX2_tell_0 : decode cX2_tell 0 = .ok (.aload_n 0, 1) := by decide +kernel
theorem dX2_tell_1 : decode cX2_tell 1 = .ok (.getfield 29, 3) := by decide +kernel
theorem dX2_tell_4 : decode cX2_tell 4 = .ok (.iload_n 1, 1) := by decide +kernel
theorem dX2_tell_5 : decode cX2_tell 5 = .ok (.aaload, 1) := by decide +kernel
theorem dX2_tell_6 : decode cX2_tell 6 = .ok (.iload_n 2, 1) := by decide +kernel
theorem dX2_tell_7 : decode cX2_tell 7 = .ok (.iload_n 3, 1) := by decide +kernel
theorem dX2_tell_8 : decode cX2_tell 8 = .ok (.iastore, 1) := by decide +kernel
theorem dX2_tell_9 : decode cX2_tell 9 = .ok (.return_, 1) := by decide +kernel
theorem dX2_hasHeard_0 : decode cX2_hasHeard 0 = .ok (.aload_n 0, 1) := by decide +kernel
theorem dX2_hasHeard_1 : decode cX2_hasHeard 1 = .ok (.getfield 29, 3) := by decide +kernel
theorem dX2_hasHeard_4 : decode cX2_hasHeard 4 = .ok (.iload_n 1, 1) := by decide +kernel
theorem dX2_hasHeard_5 : decode cX2_hasHeard 5 = .ok (.aaload, 1) := by decide +kernel
theorem dX2_hasHeard_6 : decode cX2_hasHeard 6 = .ok (.iload_n 2, 1) := by decide +kernel
theorem dX2_hasHeard_7 : decode cX2_hasHeard 7 = .ok (.iaload, 1) := by decide +kernel
theorem dX2_hasHeard_8 : decode cX2_hasHeard 8 = .ok (.ifCond .eq 7, 3) := by decide +kernel
theorem dX2_hasHeard_11 : decode cX2_hasHeard 11 = .ok (.iconst 1, 1) := by decide +kernel
theorem dX2_hasHeard_12 : decode cX2_hasHeard 12 = .ok (.goto 4, 3) := by decide +kernel
theorem dX2_hasHeard_15 : decode cX2_hasHeard 15 = .ok (.iconst 0, 1) := by decide +kernel
theorem dX2_hasHeard_16 : decode cX2_hasHeard 16 = .ok (.ireturn, 1) := by decide +kernel
theorem dX2_heldFor_0 : decode cX2_heldFor 0 = .ok (.aload_n 0, 1) := by decide +kernel
theorem dX2_heldFor_1 : decode cX2_heldFor 1 = .ok (.getfield 29, 3) := by decide +kernel
theorem dX2_heldFor_4 : decode cX2_heldFor 4 = .ok (.iload_n 1, 1) := by decide +kernel
theorem dX2_heldFor_5 : decode cX2_heldFor 5 = .ok (.aaload, 1) := by decide +kernel
theorem dX2_heldFor_6 : decode cX2_heldFor 6 = .ok (.iload_n 2, 1) := by decide +kernel
theorem dX2_heldFor_7 : decode cX2_heldFor 7 = .ok (.iaload, 1) := by decide +kernel
theorem dX2_heldFor_8 : decode cX2_heldFor 8 = .ok (.istore_n 3, 1) := by decide +kernel
theorem dX2_heldFor_9 : decode cX2_heldFor 9 = .ok (.iload_n 3, 1) := by decide +kernel
theorem dX2_heldFor_10 : decode cX2_heldFor 10 = .ok (.ifCond .ne 7, 3) := by decide +kernel
theorem dX2_heldFor_13 : decode cX2_heldFor 13 = .ok (.iconst 5, 1) := by decide +kernel
theorem dX2_heldFor_14 : decode cX2_heldFor 14 = .ok (.goto 4, 3) := by decide +kernel
theorem dX2_heldFor_17 : decode cX2_heldFor 17 = .ok (.iload_n 3, 1) := by decide +kernel
theorem dX2_heldFor_18 : decode cX2_heldFor 18 = .ok (.ireturn, 1) := by decide +kernel
set_option maxRecDepth 20000 in
theorem ggX2_offerTo_X2_isBarred : GoodIn wsX2_offerTo wsX2_isBarred := goodIn_r _ [9, 10, 16, 17, 18, 19, 20, 21, 22, 23, 24] rfl (by decide +kernel)
set_option maxRecDepth 20000 in
theorem gX2_offerTo_X2_isBarred : GoodIn wsX2_offerTo (wsV RX2 49 RX2 yX2_isBarred wsX2_isBarred) := goodIn_app (goodIn_r _ [5, 6, 7, 8] rfl (by decide +kernel)) ggX2_offerTo_X2_isBarred
set_option maxRecDepth 20000 in
theorem ggX2_offerTo_X2_heldFor : GoodIn wsX2_offerTo wsX2_heldFor := goodIn_r _ [14, 15, 16, 17, 18, 19, 20, 21, 22, 23, 24] rfl (by decide +kernel)
set_option maxRecDepth 20000 in
theorem gX2_offerTo_X2_heldFor : GoodIn wsX2_offerTo (wsV RX2 53 RX2 yX2_heldFor wsX2_heldFor) := goodIn_app (goodIn_r _ [11, 12, 13, 8] rfl (by decide +kernel)) ggX2_offerTo_X2_heldFor
theorem dX2_offerTo_0 : decode cX2_offerTo 0 = .ok (.aload_n 0, 1) := by decide +kernel
theorem dX2_offerTo_1 : decode cX2_offerTo 1 = .ok (.getfield 21, 3) := by decide +kernel
theorem dX2_offerTo_4 : decode cX2_offerTo 4 = .ok (.iload_n 1, 1) := by decide +kernel
theorem dX2_offerTo_5 : decode cX2_offerTo 5 = .ok (.iaload, 1) := by decide +kernel
theorem dX2_offerTo_6 : decode cX2_offerTo 6 = .ok (.aload_n 0, 1) := by decide +kernel
theorem dX2_offerTo_7 : decode cX2_offerTo 7 = .ok (.getfield 9, 3) := by decide +kernel
theorem dX2_offerTo_10 : decode cX2_offerTo 10 = .ok (.iload_n 2, 1) := by decide +kernel
theorem dX2_offerTo_11 : decode cX2_offerTo 11 = .ok (.iaload, 1) := by decide +kernel
theorem dX2_offerTo_12 : decode cX2_offerTo 12 = .ok (.if_icmp .ne 12, 3) := by decide +kernel
theorem dX2_offerTo_15 : decode cX2_offerTo 15 = .ok (.aload_n 0, 1) := by decide +kernel
theorem dX2_offerTo_16 : decode cX2_offerTo 16 = .ok (.iload_n 1, 1) := by decide +kernel
theorem dX2_offerTo_17 : decode cX2_offerTo 17 = .ok (.iload_n 2, 1) := by decide +kernel
theorem dX2_offerTo_18 : decode cX2_offerTo 18 = .ok (.invokevirtual 49, 3) := by decide +kernel
theorem dX2_offerTo_21 : decode cX2_offerTo 21 = .ok (.ifCond .eq 6, 3) := by decide +kernel
theorem dX2_offerTo_24 : decode cX2_offerTo 24 = .ok (.bipush (-9), 2) := by decide +kernel
theorem dX2_offerTo_26 : decode cX2_offerTo 26 = .ok (.ireturn, 1) := by decide +kernel
theorem dX2_offerTo_27 : decode cX2_offerTo 27 = .ok (.aload_n 0, 1) := by decide +kernel
theorem dX2_offerTo_28 : decode cX2_offerTo 28 = .ok (.getfield 24, 3) := by decide +kernel
theorem dX2_offerTo_31 : decode cX2_offerTo 31 = .ok (.iload_n 1, 1) := by decide +kernel
theorem dX2_offerTo_32 : decode cX2_offerTo 32 = .ok (.iaload, 1) := by decide +kernel
theorem dX2_offerTo_33 : decode cX2_offerTo 33 = .ok (.iconst 3, 1) := by decide +kernel
theorem dX2_offerTo_34 : decode cX2_offerTo 34 = .ok (.bipush 9, 2) := by decide +kernel
theorem dX2_offerTo_36 : decode cX2_offerTo 36 = .ok (.aload_n 0, 1) := by decide +kernel
theorem dX2_offerTo_37 : decode cX2_offerTo 37 = .ok (.iload_n 1, 1) := by decide +kernel
theorem dX2_offerTo_38 : decode cX2_offerTo 38 = .ok (.iload_n 2, 1) := by decide +kernel
theorem dX2_offerTo_39 : decode cX2_offerTo 39 = .ok (.invokevirtual 53, 3) := by decide +kernel
theorem dX2_offerTo_42 : decode cX2_offerTo 42 = .ok (.isub, 1) := by decide +kernel
theorem dX2_offerTo_43 : decode cX2_offerTo 43 = .ok (.imul, 1) := by decide +kernel
theorem dX2_offerTo_44 : decode cX2_offerTo 44 = .ok (.isub, 1) := by decide +kernel
theorem dX2_offerTo_45 : decode cX2_offerTo 45 = .ok (.istore_n 3, 1) := by decide +kernel
theorem dX2_offerTo_46 : decode cX2_offerTo 46 = .ok (.iload_n 3, 1) := by decide +kernel
theorem dX2_offerTo_47 : decode cX2_offerTo 47 = .ok (.aload_n 0, 1) := by decide +kernel
theorem dX2_offerTo_48 : decode cX2_offerTo 48 = .ok (.getfield 18, 3) := by decide +kernel
theorem dX2_offerTo_51 : decode cX2_offerTo 51 = .ok (.iload_n 2, 1) := by decide +kernel
theorem dX2_offerTo_52 : decode cX2_offerTo 52 = .ok (.iaload, 1) := by decide +kernel
theorem dX2_offerTo_53 : decode cX2_offerTo 53 = .ok (.if_icmp .ge 8, 3) := by decide +kernel
theorem dX2_offerTo_56 : decode cX2_offerTo 56 = .ok (.bipush (-9), 2) := by decide +kernel
theorem dX2_offerTo_58 : decode cX2_offerTo 58 = .ok (.goto 13, 3) := by decide +kernel
theorem dX2_offerTo_61 : decode cX2_offerTo 61 = .ok (.iload_n 3, 1) := by decide +kernel
theorem dX2_offerTo_62 : decode cX2_offerTo 62 = .ok (.aload_n 0, 1) := by decide +kernel
theorem dX2_offerTo_63 : decode cX2_offerTo 63 = .ok (.getfield 18, 3) := by decide +kernel
theorem dX2_offerTo_66 : decode cX2_offerTo 66 = .ok (.iload_n 2, 1) := by decide +kernel
theorem dX2_offerTo_67 : decode cX2_offerTo 67 = .ok (.iaload, 1) := by decide +kernel
theorem dX2_offerTo_68 : decode cX2_offerTo 68 = .ok (.iadd, 1) := by decide +kernel
theorem dX2_offerTo_69 : decode cX2_offerTo 69 = .ok (.iconst 2, 1) := by decide +kernel
theorem dX2_offerTo_70 : decode cX2_offerTo 70 = .ok (.idiv, 1) := by decide +kernel
theorem dX2_offerTo_71 : decode cX2_offerTo 71 = .ok (.ireturn, 1) := by decide +kernel
set_option maxRecDepth 20000 in
theorem ggX2_likingAt_X2_heldFor : GoodIn wsX2_likingAt wsX2_heldFor := goodIn_r _ [5, 6, 7, 8, 9, 10, 11, 12, 13, 14, 15] rfl (by decide +kernel)
set_option maxRecDepth 20000 in
theorem gX2_likingAt_X2_heldFor : GoodIn wsX2_likingAt (wsV RX2 53 RX2 yX2_heldFor wsX2_heldFor) := goodIn_app (goodIn_r _ [1, 2, 3, 4] rfl (by decide +kernel)) ggX2_likingAt_X2_heldFor
theorem dX2_likingAt_0 : decode cX2_likingAt 0 = .ok (.bipush 10, 2) := by decide +kernel
theorem dX2_likingAt_2 : decode cX2_likingAt 2 = .ok (.aload_n 0, 1) := by decide +kernel
theorem dX2_likingAt_3 : decode cX2_likingAt 3 = .ok (.iload_n 1, 1) := by decide +kernel
theorem dX2_likingAt_4 : decode cX2_likingAt 4 = .ok (.iload_n 2, 1) := by decide +kernel
theorem dX2_likingAt_5 : decode cX2_likingAt 5 = .ok (.invokevirtual 53, 3) := by decide +kernel
theorem dX2_likingAt_8 : decode cX2_likingAt 8 = .ok (.imul, 1) := by decide +kernel
theorem dX2_likingAt_9 : decode cX2_likingAt 9 = .ok (.iload_n 3, 1) := by decide +kernel
theorem dX2_likingAt_10 : decode cX2_likingAt 10 = .ok (.isub, 1) := by decide +kernel
theorem dX2_likingAt_11 : decode cX2_likingAt 11 = .ok (.ireturn, 1) := by decide +kernel
set_option maxRecDepth 20000 in
theorem ggX3_init_J7_fill_53178 : GoodIn wsX3_init wsJ7_fill_53178 := goodIn_r _ [16] rfl (by decide +kernel)
set_option maxRecDepth 20000 in
theorem gX3_init_J7_fill_53178 : GoodIn wsX3_init (va_wsS RX3 23 yJ7_fill_53178 wsJ7_fill_53178) := goodIn_app (goodIn_r _ [13, 14, 15] rfl (by decide +kernel)) ggX3_init_J7_fill_53178
theorem dX3_init_0 : decode cX3_init 0 = .ok (.aload_n 0, 1) := by decide +kernel
theorem dX3_init_1 : decode cX3_init 1 = .ok (.invokespecial 3, 3) := by decide +kernel
theorem dX3_init_4 : decode cX3_init 4 = .ok (.aload_n 0, 1) := by decide +kernel
theorem dX3_init_5 : decode cX3_init 5 = .ok (.aload_n 1, 1) := by decide +kernel
theorem dX3_init_6 : decode cX3_init 6 = .ok (.putfield 9, 3) := by decide +kernel
theorem dX3_init_9 : decode cX3_init 9 = .ok (.aload_n 0, 1) := by decide +kernel
theorem dX3_init_10 : decode cX3_init 10 = .ok (.bipush (-9), 2) := by decide +kernel
theorem dX3_init_12 : decode cX3_init 12 = .ok (.putfield 15, 3) := by decide +kernel
theorem dX3_init_15 : decode cX3_init 15 = .ok (.aload_n 0, 1) := by decide +kernel
theorem dX3_init_16 : decode cX3_init 16 = .ok (.bipush 10, 2) := by decide +kernel
theorem dX3_init_18 : decode cX3_init 18 = .ok (.newarray .int, 2) := by decide +kernel
theorem dX3_init_20 : decode cX3_init 20 = .ok (.putfield 19, 3) := by decide +kernel
theorem dX3_init_23 : decode cX3_init 23 = .ok (.aload_n 0, 1) := by decide +kernel
theorem dX3_init_24 : decode cX3_init 24 = .ok (.getfield 19, 3) := by decide +kernel
theorem dX3_init_27 : decode cX3_init 27 = .ok (.sipush 363, 3) := by decide +kernel
theorem dX3_init_30 : decode cX3_init 30 = .ok (.invokestatic 23, 3) := by decide +kernel
theorem dX3_init_33 : decode cX3_init 33 = .ok (.aload_n 0, 1) := by decide +kernel
theorem dX3_init_34 : decode cX3_init 34 = .ok (.bipush 10, 2) := by decide +kernel
theorem dX3_init_36 : decode cX3_init 36 = .ok (.newarray .boolean, 2) := by decide +kernel
theorem dX3_init_38 : decode cX3_init 38 = .ok (.putfield 29, 3) := by decide +kernel
theorem dX3_init_41 : decode cX3_init 41 = .ok (.aload_n 0, 1) := by decide +kernel
theorem dX3_init_42 : decode cX3_init 42 = .ok (.bipush 10, 2) := by decide +kernel
theorem dX3_init_44 : decode cX3_init 44 = .ok (.newarray .boolean, 2) := by decide +kernel
theorem dX3_init_46 : decode cX3_init 46 = .ok (.putfield 33, 3) := by decide +kernel
theorem dX3_init_49 : decode cX3_init 49 = .ok (.aload_n 0, 1) := by decide +kernel
theorem dX3_init_50 : decode cX3_init 50 = .ok (.bipush 60, 2) := by decide +kernel
theorem dX3_init_52 : decode cX3_init 52 = .ok (.newarray .long, 2) := by decide +kernel
theorem dX3_init_54 : decode cX3_init 54 = .ok (.putfield 36, 3) := by decide +kernel
theorem dX3_init_57 : decode cX3_init 57 = .ok (.return_, 1) := by decide +kernel
theorem dX3_begin_0 : decode cX3_begin 0 = .ok (.aload_n 0, 1) := by decide +kernel
theorem dX3_begin_1 : decode cX3_begin 1 = .ok (.iconst 0, 1) := by decide +kernel
theorem dX3_begin_2 : decode cX3_begin 2 = .ok (.putfield 15, 3) := by decide +kernel
theorem dX3_begin_5 : decode cX3_begin 5 = .ok (.return_, 1) := by decide +kernel
theorem dX3_hasBegun_0 : decode cX3_hasBegun 0 = .ok (.aload_n 0, 1) := by decide +kernel
theorem dX3_hasBegun_1 : decode cX3_hasBegun 1 = .ok (.getfield 15, 3) := by decide +kernel
theorem dX3_hasBegun_4 : decode cX3_hasBegun 4 = .ok (.bipush (-9), 2) := by decide +kernel
theorem dX3_hasBegun_6 : decode cX3_hasBegun 6 = .ok (.if_icmp .eq 7, 3) := by decide +kernel
theorem dX3_hasBegun_9 : decode cX3_hasBegun 9 = .ok (.iconst 1, 1) := by decide +kernel
theorem dX3_hasBegun_10 : decode cX3_hasBegun 10 = .ok (.goto 4, 3) := by decide +kernel
theorem dX3_hasBegun_13 : decode cX3_hasBegun 13 = .ok (.iconst 0, 1) := by decide +kernel
theorem dX3_hasBegun_14 : decode cX3_hasBegun 14 = .ok (.ireturn, 1) := by decide +kernel
set_option maxRecDepth 20000 in
theorem ggX3_servesOn_X0_isBound : GoodIn wsX3_servesOn wsX0_isBound := goodIn_r _ [7, 8, 15, 16, 17, 18, 19, 20, 21, 22] rfl (by decide +kernel)
set_option maxRecDepth 20000 in
theorem gX3_servesOn_X0_isBound : GoodIn wsX3_servesOn (wsV RX3 40 RX0 yX0_isBound wsX0_isBound) := goodIn_app (goodIn_r _ [3, 4, 5, 6] rfl (by decide +kernel)) ggX3_servesOn_X0_isBound
theorem dX3_servesOn_0 : decode cX3_servesOn 0 = .ok (.aload_n 0, 1) := by decide +kernel
theorem dX3_servesOn_1 : decode cX3_servesOn 1 = .ok (.getfield 9, 3) := by decide +kernel
theorem dX3_servesOn_4 : decode cX3_servesOn 4 = .ok (.iload_n 1, 1) := by decide +kernel
theorem dX3_servesOn_5 : decode cX3_servesOn 5 = .ok (.invokevirtual 40, 3) := by decide +kernel
theorem dX3_servesOn_8 : decode cX3_servesOn 8 = .ok (.ifCond .eq 17, 3) := by decide +kernel
theorem dX3_servesOn_11 : decode cX3_servesOn 11 = .ok (.iload_n 2, 1) := by decide +kernel
theorem dX3_servesOn_12 : decode cX3_servesOn 12 = .ok (.aload_n 0, 1) := by decide +kernel
theorem dX3_servesOn_13 : decode cX3_servesOn 13 = .ok (.getfield 19, 3) := by decide +kernel
theorem dX3_servesOn_16 : decode cX3_servesOn 16 = .ok (.iload_n 1, 1) := by decide +kernel
theorem dX3_servesOn_17 : decode cX3_servesOn 17 = .ok (.iaload, 1) := by decide +kernel
theorem dX3_servesOn_18 : decode cX3_servesOn 18 = .ok (.if_icmp .gt 7, 3) := by decide +kernel
theorem dX3_servesOn_21 : decode cX3_servesOn 21 = .ok (.iconst 1, 1) := by decide +kernel
theorem dX3_servesOn_22 : decode cX3_servesOn 22 = .ok (.goto 4, 3) := by decide +kernel
theorem dX3_servesOn_25 : decode cX3_servesOn 25 = .ok (.iconst 0, 1) := by decide +kernel
theorem dX3_servesOn_26 : decode cX3_servesOn 26 = .ok (.ireturn, 1) := by decide +kernel
set_option maxRecDepth 20000 in
theorem ggX3_servesNow_X3_hasBegun : GoodIn wsX3_servesNow wsX3_hasBegun := goodIn_r _ [6, 1, 19, 20, 21, 22, 23, 24] rfl (by decide +kernel)
set_option maxRecDepth 20000 in
theorem gX3_servesNow_X3_hasBegun : GoodIn wsX3_servesNow (wsV RX3 46 RX3 yX3_hasBegun wsX3_hasBegun) := goodIn_app (goodIn_r _ [2, 3, 4, 5] rfl (by decide +kernel)) ggX3_servesNow_X3_hasBegun
set_option maxRecDepth 20000 in
theorem ggX3_servesNow_X3_servesOn : GoodIn wsX3_servesNow wsX3_servesOn := goodIn_r _ [10, 11, 12, 13, 14, 15, 16, 17, 18, 19, 20, 21, 22, 23, 24, 25, 26, 27, 28, 29, 30, 31, 32] rfl (by decide +kernel)
set_option maxRecDepth 20000 in
theorem gX3_servesNow_X3_servesOn : GoodIn wsX3_servesNow (wsV RX3 50 RX3 yX3_servesOn wsX3_servesOn) := goodIn_app (goodIn_r _ [7, 8, 9, 5] rfl (by decide +kernel)) ggX3_servesNow_X3_servesOn
theorem dX3_servesNow_0 : decode cX3_servesNow 0 = .ok (.aload_n 0, 1) := by decide +kernel
theorem dX3_servesNow_1 : decode cX3_servesNow 1 = .ok (.invokevirtual 46, 3) := by decide +kernel
theorem dX3_servesNow_4 : decode cX3_servesNow 4 = .ok (.ifCond .eq 19, 3) := by decide +kernel
theorem dX3_servesNow_7 : decode cX3_servesNow 7 = .ok (.aload_n 0, 1) := by decide +kernel
theorem dX3_servesNow_8 : decode cX3_servesNow 8 = .ok (.iload_n 1, 1) := by decide +kernel
theorem dX3_servesNow_9 : decode cX3_servesNow 9 = .ok (.aload_n 0, 1) := by decide +kernel
theorem dX3_servesNow_10 : decode cX3_servesNow 10 = .ok (.getfield 15, 3) := by decide +kernel
theorem dX3_servesNow_13 : decode cX3_servesNow 13 = .ok (.invokevirtual 50, 3) := by decide +kernel
theorem dX3_servesNow_16 : decode cX3_servesNow 16 = .ok (.ifCond .eq 7, 3) := by decide +kernel
theorem dX3_servesNow_19 : decode cX3_servesNow 19 = .ok (.iconst 1, 1) := by decide +kernel
theorem dX3_servesNow_20 : decode cX3_servesNow 20 = .ok (.goto 4, 3) := by decide +kernel
theorem dX3_servesNow_23 : decode cX3_servesNow 23 = .ok (.iconst 0, 1) := by decide +kernel
theorem dX3_servesNow_24 : decode cX3_servesNow 24 = .ok (.ireturn, 1) := by decide +kernel
set_option maxRecDepth 20000 in
theorem ggX3_endOf_X3_hasBegun : GoodIn wsX3_endOf wsX3_hasBegun := goodIn_r _ [7, 8, 15, 16, 17, 18, 19, 20] rfl (by decide +kernel)
set_option maxRecDepth 20000 in
theorem gX3_endOf_X3_hasBegun : GoodIn wsX3_endOf (wsV RX3 46 RX3 yX3_hasBegun wsX3_hasBegun) := goodIn_app (goodIn_r _ [3, 4, 5, 6] rfl (by decide +kernel)) ggX3_endOf_X3_hasBegun
set_option maxRecDepth 20000 in
theorem ggX3_endOf_X0_isBound : GoodIn wsX3_endOf wsX0_isBound := goodIn_r _ [13, 14, 21, 22, 23, 24, 25, 26, 27, 28] rfl (by decide +kernel)
set_option maxRecDepth 20000 in
theorem gX3_endOf_X0_isBound : GoodIn wsX3_endOf (wsV RX3 40 RX0 yX0_isBound wsX0_isBound) := goodIn_app (goodIn_r _ [9, 10, 11, 12] rfl (by decide +kernel)) ggX3_endOf_X0_isBound
theorem dX3_endOf_0 : decode cX3_endOf 0 = .ok (.aload_n 0, 1) := by decide +kernel
theorem dX3_endOf_1 : decode cX3_endOf 1 = .ok (.invokevirtual 46, 3) := by decide +kernel
theorem dX3_endOf_4 : decode cX3_endOf 4 = .ok (.ifCond .eq 23, 3) := by decide +kernel
theorem dX3_endOf_7 : decode cX3_endOf 7 = .ok (.aload_n 0, 1) := by decide +kernel
theorem dX3_endOf_8 : decode cX3_endOf 8 = .ok (.getfield 9, 3) := by decide +kernel
theorem dX3_endOf_11 : decode cX3_endOf 11 = .ok (.iload_n 1, 1) := by decide +kernel
theorem dX3_endOf_12 : decode cX3_endOf 12 = .ok (.invokevirtual 40, 3) := by decide +kernel
theorem dX3_endOf_15 : decode cX3_endOf 15 = .ok (.ifCond .eq 12, 3) := by decide +kernel
theorem dX3_endOf_18 : decode cX3_endOf 18 = .ok (.aload_n 0, 1) := by decide +kernel
theorem dX3_endOf_19 : decode cX3_endOf 19 = .ok (.getfield 19, 3) := by decide +kernel
theorem dX3_endOf_22 : decode cX3_endOf 22 = .ok (.iload_n 1, 1) := by decide +kernel
theorem dX3_endOf_23 : decode cX3_endOf 23 = .ok (.iaload, 1) := by decide +kernel
theorem dX3_endOf_24 : decode cX3_endOf 24 = .ok (.goto 5, 3) := by decide +kernel
theorem dX3_endOf_27 : decode cX3_endOf 27 = .ok (.bipush (-9), 2) := by decide +kernel
theorem dX3_endOf_29 : decode cX3_endOf 29 = .ok (.ireturn, 1) := by decide +kernel
set_option maxRecDepth 20000 in
theorem ggX3_fallSick_X3_wordOf : GoodIn wsX3_fallSick wsX3_wordOf := goodIn_r _ [10] rfl (by decide +kernel)
set_option maxRecDepth 20000 in
theorem gX3_fallSick_X3_wordOf : GoodIn wsX3_fallSick (va_wsS RX3 60 yX3_wordOf wsX3_wordOf) := goodIn_app (goodIn_r _ [7, 8, 9] rfl (by decide +kernel)) ggX3_fallSick_X3_wordOf
set_option maxRecDepth 20000 in
theorem ggX3_fallSick_X3_dayBit : GoodIn wsX3_fallSick wsX3_dayBit := goodIn_r _ [13] rfl (by decide +kernel)
set_option maxRecDepth 20000 in
theorem gX3_fallSick_X3_dayBit : GoodIn wsX3_fallSick (va_wsS RX3 63 yX3_dayBit wsX3_dayBit) := goodIn_app (goodIn_r _ [11, 12, 9] rfl (by decide +kernel)) ggX3_fallSick_X3_dayBit
theorem dX3_fallSick_0 : decode cX3_fallSick 0 = .ok (.aload_n 0, 1) := by decide +kernel
theorem dX3_fallSick_1 : decode cX3_fallSick 1 = .ok (.getfield 15, 3) := by decide +kernel
theorem dX3_fallSick_4 : decode cX3_fallSick 4 = .ok (.iload_n 2, 1) := by decide +kernel
theorem dX3_fallSick_5 : decode cX3_fallSick 5 = .ok (.iadd, 1) := by decide +kernel
theorem dX3_fallSick_6 : decode cX3_fallSick 6 = .ok (.iconst 1, 1) := by decide +kernel
theorem dX3_fallSick_7 : decode cX3_fallSick 7 = .ok (.isub, 1) := by decide +kernel
theorem dX3_fallSick_8 : decode cX3_fallSick 8 = .ok (.sipush 363, 3) := by decide +kernel
theorem dX3_fallSick_11 : decode cX3_fallSick 11 = .ok (.invokestatic 54, 3) := by decide +kernel
theorem dX3_fallSick_14 : decode cX3_fallSick 14 = .ok (.istore_n 3, 1) := by decide +kernel
theorem dX3_fallSick_15 : decode cX3_fallSick 15 = .ok (.aload_n 0, 1) := by decide +kernel
theorem dX3_fallSick_16 : decode cX3_fallSick 16 = .ok (.getfield 15, 3) := by decide +kernel
theorem dX3_fallSick_19 : decode cX3_fallSick 19 = .ok (.istore 4, 2) := by decide +kernel
theorem dX3_fallSick_21 : decode cX3_fallSick 21 = .ok (.iload 4, 2) := by decide +kernel
theorem dX3_fallSick_23 : decode cX3_fallSick 23 = .ok (.iload_n 3, 1) := by decide +kernel
theorem dX3_fallSick_24 : decode cX3_fallSick 24 = .ok (.if_icmp .gt 28, 3) := by decide +kernel
theorem dX3_fallSick_27 : decode cX3_fallSick 27 = .ok (.aload_n 0, 1) := by decide +kernel
theorem dX3_fallSick_28 : decode cX3_fallSick 28 = .ok (.getfield 36, 3) := by decide +kernel
theorem dX3_fallSick_31 : decode cX3_fallSick 31 = .ok (.iload_n 1, 1) := by decide +kernel
theorem dX3_fallSick_32 : decode cX3_fallSick 32 = .ok (.iload 4, 2) := by decide +kernel
theorem dX3_fallSick_34 : decode cX3_fallSick 34 = .ok (.invokestatic 60, 3) := by decide +kernel
theorem dX3_fallSick_37 : decode cX3_fallSick 37 = .ok (.dup2, 1) := by decide +kernel
theorem dX3_fallSick_38 : decode cX3_fallSick 38 = .ok (.laload, 1) := by decide +kernel
theorem dX3_fallSick_39 : decode cX3_fallSick 39 = .ok (.iload 4, 2) := by decide +kernel
theorem dX3_fallSick_41 : decode cX3_fallSick 41 = .ok (.invokestatic 63, 3) := by decide +kernel
theorem dX3_fallSick_44 : decode cX3_fallSick 44 = .ok (.lor, 1) := by decide +kernel
theorem dX3_fallSick_45 : decode cX3_fallSick 45 = .ok (.lastore, 1) := by decide +kernel
theorem dX3_fallSick_46 : decode cX3_fallSick 46 = .ok (.iinc 4 1, 3) := by decide +kernel
theorem dX3_fallSick_49 : decode cX3_fallSick 49 = .ok (.goto (-28), 3) := by decide +kernel
theorem dX3_fallSick_52 : decode cX3_fallSick 52 = .ok (.return_, 1) := by decide +kernel
set_option maxRecDepth 20000 in
theorem ggX3_countSick_X3_wordOf : GoodIn wsX3_countSick wsX3_wordOf := goodIn_r _ [5] rfl (by decide +kernel)
set_option maxRecDepth 20000 in
theorem gX3_countSick_X3_wordOf : GoodIn wsX3_countSick (va_wsS RX3 60 yX3_wordOf wsX3_wordOf) := goodIn_app (goodIn_r _ [2, 3, 4] rfl (by decide +kernel)) ggX3_countSick_X3_wordOf
set_option maxRecDepth 20000 in
theorem ggX3_countSick_X3_dayBit : GoodIn wsX3_countSick wsX3_dayBit := goodIn_r _ [8] rfl (by decide +kernel)
set_option maxRecDepth 20000 in
theorem gX3_countSick_X3_dayBit : GoodIn wsX3_countSick (va_wsS RX3 63 yX3_dayBit wsX3_dayBit) := goodIn_app (goodIn_r _ [6, 7, 4] rfl (by decide +kernel)) ggX3_countSick_X3_dayBit
theorem dX3_countSick_0 : decode cX3_countSick 0 = .ok (.iconst 0, 1) := by decide +kernel
theorem dX3_countSick_1 : decode cX3_countSick 1 = .ok (.istore_n 3, 1) := by decide +kernel
theorem dX3_countSick_2 : decode cX3_countSick 2 = .ok (.iconst 0, 1) := by decide +kernel
theorem dX3_countSick_3 : decode cX3_countSick 3 = .ok (.istore 4, 2) := by decide +kernel
theorem dX3_countSick_5 : decode cX3_countSick 5 = .ok (.iload 4, 2) := by decide +kernel
theorem dX3_countSick_7 : decode cX3_countSick 7 = .ok (.iload_n 2, 1) := by decide +kernel
theorem dX3_countSick_8 : decode cX3_countSick 8 = .ok (.if_icmp .gt 34, 3) := by decide +kernel
theorem dX3_countSick_11 : decode cX3_countSick 11 = .ok (.aload_n 0, 1) := by decide +kernel
theorem dX3_countSick_12 : decode cX3_countSick 12 = .ok (.getfield 36, 3) := by decide +kernel
theorem dX3_countSick_15 : decode cX3_countSick 15 = .ok (.iload_n 1, 1) := by decide +kernel
theorem dX3_countSick_16 : decode cX3_countSick 16 = .ok (.iload 4, 2) := by decide +kernel
theorem dX3_countSick_18 : decode cX3_countSick 18 = .ok (.invokestatic 60, 3) := by decide +kernel
theorem dX3_countSick_21 : decode cX3_countSick 21 = .ok (.laload, 1) := by decide +kernel
theorem dX3_countSick_22 : decode cX3_countSick 22 = .ok (.iload 4, 2) := by decide +kernel
theorem dX3_countSick_24 : decode cX3_countSick 24 = .ok (.invokestatic 63, 3) := by decide +kernel
theorem dX3_countSick_27 : decode cX3_countSick 27 = .ok (.land, 1) := by decide +kernel
theorem dX3_countSick_28 : decode cX3_countSick 28 = .ok (.lconst 0, 1) := by decide +kernel
theorem dX3_countSick_29 : decode cX3_countSick 29 = .ok (.lcmp, 1) := by decide +kernel
theorem dX3_countSick_30 : decode cX3_countSick 30 = .ok (.ifCond .eq 6, 3) := by decide +kernel
theorem dX3_countSick_33 : decode cX3_countSick 33 = .ok (.iinc 3 1, 3) := by decide +kernel
theorem dX3_countSick_36 : decode cX3_countSick 36 = .ok (.iinc 4 1, 3) := by decide +kernel
theorem dX3_countSick_39 : decode cX3_countSick 39 = .ok (.goto (-34), 3) := by decide +kernel
theorem dX3_countSick_42 : decode cX3_countSick 42 = .ok (.iload_n 3, 1) := by decide +kernel
theorem dX3_countSick_43 : decode cX3_countSick 43 = .ok (.ireturn, 1) := by decide +kernel
theorem dX3_wordOf_0 : decode cX3_wordOf 0 = .ok (.iload_n 0, 1) := by decide +kernel
theorem dX3_wordOf_1 : decode cX3_wordOf 1 = .ok (.bipush 6, 2) := by decide +kernel
theorem dX3_wordOf_3 : decode cX3_wordOf 3 = .ok (.imul, 1) := by decide +kernel
theorem dX3_wordOf_4 : decode cX3_wordOf 4 = .ok (.iload_n 1, 1) := by decide +kernel
theorem dX3_wordOf_5 : decode cX3_wordOf 5 = .ok (.bipush 64, 2) := by decide +kernel
theorem dX3_wordOf_7 : decode cX3_wordOf 7 = .ok (.idiv, 1) := by decide +kernel
theorem dX3_wordOf_8 : decode cX3_wordOf 8 = .ok (.iadd, 1) := by decide +kernel
theorem dX3_wordOf_9 : decode cX3_wordOf 9 = .ok (.ireturn, 1) := by decide +kernel
theorem dX3_dayBit_0 : decode cX3_dayBit 0 = .ok (.lconst 1, 1) := by decide +kernel
theorem dX3_dayBit_1 : decode cX3_dayBit 1 = .ok (.iload_n 0, 1) := by decide +kernel
theorem dX3_dayBit_2 : decode cX3_dayBit 2 = .ok (.bipush 64, 2) := by decide +kernel
theorem dX3_dayBit_4 : decode cX3_dayBit 4 = .ok (.irem, 1) := by decide +kernel
theorem dX3_dayBit_5 : decode cX3_dayBit 5 = .ok (.lshl, 1) := by decide +kernel
theorem dX3_dayBit_6 : decode cX3_dayBit 6 = .ok (.lreturn, 1) := by decide +kernel
theorem dX3_giveWarning_0 : decode cX3_giveWarning 0 = .ok (.aload_n 0, 1) := by decide +kernel
theorem dX3_giveWarning_1 : decode cX3_giveWarning 1 = .ok (.getfield 29, 3) := by decide +kernel
theorem dX3_giveWarning_4 : decode cX3_giveWarning 4 = .ok (.iload_n 1, 1) := by decide +kernel
theorem dX3_giveWarning_5 : decode cX3_giveWarning 5 = .ok (.iconst 1, 1) := by decide +kernel
theorem dX3_giveWarning_6 : decode cX3_giveWarning 6 = .ok (.bastore, 1) := by decide +kernel
theorem dX3_giveWarning_7 : decode cX3_giveWarning 7 = .ok (.aload_n 0, 1) := by decide +kernel
theorem dX3_giveWarning_8 : decode cX3_giveWarning 8 = .ok (.getfield 19, 3) := by decide +kernel
theorem dX3_giveWarning_11 : decode cX3_giveWarning 11 = .ok (.iload_n 1, 1) := by decide +kernel
theorem dX3_giveWarning_12 : decode cX3_giveWarning 12 = .ok (.aload_n 0, 1) := by decide +kernel
theorem dX3_giveWarning_13 : decode cX3_giveWarning 13 = .ok (.getfield 15, 3) := by decide +kernel
theorem dX3_giveWarning_16 : decode cX3_giveWarning 16 = .ok (.bipush 27, 2) := by decide +kernel
theorem dX3_giveWarning_18 : decode cX3_giveWarning 18 = .ok (.iadd, 1) := by decide +kernel
theorem dX3_giveWarning_19 : decode cX3_giveWarning 19 = .ok (.sipush 363, 3) := by decide +kernel
theorem dX3_giveWarning_22 : decode cX3_giveWarning 22 = .ok (.invokestatic 54, 3) := by decide +kernel
theorem dX3_giveWarning_25 : decode cX3_giveWarning 25 = .ok (.iastore, 1) := by decide +kernel
theorem dX3_giveWarning_26 : decode cX3_giveWarning 26 = .ok (.aload_n 0, 1) := by decide +kernel
theorem dX3_giveWarning_27 : decode cX3_giveWarning 27 = .ok (.getfield 19, 3) := by decide +kernel
theorem dX3_giveWarning_30 : decode cX3_giveWarning 30 = .ok (.iload_n 1, 1) := by decide +kernel
theorem dX3_giveWarning_31 : decode cX3_giveWarning 31 = .ok (.iaload, 1) := by decide +kernel
theorem dX3_giveWarning_32 : decode cX3_giveWarning 32 = .ok (.ireturn, 1) := by decide +kernel
theorem dX3_leave_0 : decode cX3_leave 0 = .ok (.aload_n 0, 1) := by decide +kernel
theorem dX3_leave_1 : decode cX3_leave 1 = .ok (.getfield 19, 3) := by decide +kernel
theorem dX3_leave_4 : decode cX3_leave 4 = .ok (.iload_n 1, 1) := by decide +kernel
theorem dX3_leave_5 : decode cX3_leave 5 = .ok (.aload_n 0, 1) := by decide +kernel
theorem dX3_leave_6 : decode cX3_leave 6 = .ok (.getfield 15, 3) := by decide +kernel
theorem dX3_leave_9 : decode cX3_leave 9 = .ok (.iconst 1, 1) := by decide +kernel
theorem dX3_leave_10 : decode cX3_leave 10 = .ok (.isub, 1) := by decide +kernel
theorem dX3_leave_11 : decode cX3_leave 11 = .ok (.iastore, 1) := by decide +kernel
theorem dX3_leave_12 : decode cX3_leave 12 = .ok (.aload_n 0, 1) := by decide +kernel
theorem dX3_leave_13 : decode cX3_leave 13 = .ok (.getfield 19, 3) := by decide +kernel
theorem dX3_leave_16 : decode cX3_leave 16 = .ok (.iload_n 1, 1) := by decide +kernel
theorem dX3_leave_17 : decode cX3_leave 17 = .ok (.iaload, 1) := by decide +kernel
theorem dX3_leave_18 : decode cX3_leave 18 = .ok (.ireturn, 1) := by decide +kernel
set_option maxRecDepth 20000 in
theorem ggX3_wagesDue_X3_countSick : GoodIn wsX3_wagesDue wsX3_countSick := goodIn_r _ [13, 14, 15, 16, 12, 17, 18, 19, 20, 21, 22, 23, 24, 25, 26] rfl (by decide +kernel)
set_option maxRecDepth 20000 in
theorem gX3_wagesDue_X3_countSick : GoodIn wsX3_wagesDue (wsV RX3 67 RX3 yX3_countSick wsX3_countSick) := goodIn_app (goodIn_r _ [9, 10, 11, 12] rfl (by decide +kernel)) ggX3_wagesDue_X3_countSick
theorem dX3_wagesDue_0 : decode cX3_wagesDue 0 = .ok (.aload_n 0, 1) := by decide +kernel
theorem dX3_wagesDue_1 : decode cX3_wagesDue 1 = .ok (.getfield 33, 3) := by decide +kernel
theorem dX3_wagesDue_4 : decode cX3_wagesDue 4 = .ok (.iload_n 1, 1) := by decide +kernel
theorem dX3_wagesDue_5 : decode cX3_wagesDue 5 = .ok (.baload, 1) := by decide +kernel
theorem dX3_wagesDue_6 : decode cX3_wagesDue 6 = .ok (.ifCond .eq 5, 3) := by decide +kernel
theorem dX3_wagesDue_9 : decode cX3_wagesDue 9 = .ok (.iconst 0, 1) := by decide +kernel
theorem dX3_wagesDue_10 : decode cX3_wagesDue 10 = .ok (.ireturn, 1) := by decide +kernel
theorem dX3_wagesDue_11 : decode cX3_wagesDue 11 = .ok (.iload_n 2, 1) := by decide +kernel
theorem dX3_wagesDue_12 : decode cX3_wagesDue 12 = .ok (.aload_n 0, 1) := by decide +kernel
theorem dX3_wagesDue_13 : decode cX3_wagesDue 13 = .ok (.getfield 19, 3) := by decide +kernel
theorem dX3_wagesDue_16 : decode cX3_wagesDue 16 = .ok (.iload_n 1, 1) := by decide +kernel
theorem dX3_wagesDue_17 : decode cX3_wagesDue 17 = .ok (.iaload, 1) := by decide +kernel
theorem dX3_wagesDue_18 : decode cX3_wagesDue 18 = .ok (.invokestatic 54, 3) := by decide +kernel
theorem dX3_wagesDue_21 : decode cX3_wagesDue 21 = .ok (.istore_n 3, 1) := by decide +kernel
theorem dX3_wagesDue_22 : decode cX3_wagesDue 22 = .ok (.iconst 2, 1) := by decide +kernel
theorem dX3_wagesDue_23 : decode cX3_wagesDue 23 = .ok (.iload_n 3, 1) := by decide +kernel
theorem dX3_wagesDue_24 : decode cX3_wagesDue 24 = .ok (.iconst 1, 1) := by decide +kernel
theorem dX3_wagesDue_25 : decode cX3_wagesDue 25 = .ok (.iadd, 1) := by decide +kernel
theorem dX3_wagesDue_26 : decode cX3_wagesDue 26 = .ok (.imul, 1) := by decide +kernel
theorem dX3_wagesDue_27 : decode cX3_wagesDue 27 = .ok (.aload_n 0, 1) := by decide +kernel
theorem dX3_wagesDue_28 : decode cX3_wagesDue 28 = .ok (.iload_n 1, 1) := by decide +kernel
theorem dX3_wagesDue_29 : decode cX3_wagesDue 29 = .ok (.iload_n 3, 1) := by decide +kernel
theorem dX3_wagesDue_30 : decode cX3_wagesDue 30 = .ok (.invokevirtual 67, 3) := by decide +kernel
theorem dX3_wagesDue_33 : decode cX3_wagesDue 33 = .ok (.isub, 1) := by decide +kernel
theorem dX3_wagesDue_34 : decode cX3_wagesDue 34 = .ok (.istore 4, 2) := by decide +kernel
theorem dX3_wagesDue_36 : decode cX3_wagesDue 36 = .ok (.bipush 12, 2) := by decide +kernel
theorem dX3_wagesDue_38 : decode cX3_wagesDue 38 = .ok (.aload_n 0, 1) := by decide +kernel
theorem dX3_wagesDue_39 : decode cX3_wagesDue 39 = .ok (.getfield 9, 3) := by decide +kernel
theorem dX3_wagesDue_42 : decode cX3_wagesDue 42 = .ok (.getfield 70, 3) := by decide +kernel
theorem dX3_wagesDue_45 : decode cX3_wagesDue 45 = .ok (.iload_n 1, 1) := by decide +kernel
theorem dX3_wagesDue_46 : decode cX3_wagesDue 46 = .ok (.iaload, 1) := by decide +kernel
theorem dX3_wagesDue_47 : decode cX3_wagesDue 47 = .ok (.imul, 1) := by decide +kernel
theorem dX3_wagesDue_48 : decode cX3_wagesDue 48 = .ok (.iload 4, 2) := by decide +kernel
theorem dX3_wagesDue_50 : decode cX3_wagesDue 50 = .ok (.imul, 1) := by decide +kernel
theorem dX3_wagesDue_51 : decode cX3_wagesDue 51 = .ok (.sipush 728, 3) := by decide +kernel
theorem dX3_wagesDue_54 : decode cX3_wagesDue 54 = .ok (.idiv, 1) := by decide +kernel
theorem dX3_wagesDue_55 : decode cX3_wagesDue 55 = .ok (.ireturn, 1) := by decide +kernel
