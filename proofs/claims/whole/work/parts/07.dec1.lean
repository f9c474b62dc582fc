theorem d_Bs_init_0 : decode b_Bs_init 0 = .ok (.aload_n 0, 1) := by decide +kernel
theorem d_Bs_init_1 : decode b_Bs_init 1 = .ok (.invokespecial 3, 3) := by decide +kernel
theorem d_Bs_init_4 : decode b_Bs_init 4 = .ok (.aload_n 0, 1) := by decide +kernel
theorem d_Bs_init_5 : decode b_Bs_init 5 = .ok (.sipush 256, 3) := by decide +kernel
theorem d_Bs_init_8 : decode b_Bs_init 8 = .ok (.anewarray 9, 3) := by decide +kernel
theorem d_Bs_init_11 : decode b_Bs_init 11 = .ok (.putfield 11, 3) := by decide +kernel
theorem d_Bs_init_14 : decode b_Bs_init 14 = .ok (.return_, 1) := by decide +kernel
theorem d_Bs_isFull_0 : decode b_Bs_isFull 0 = .ok (.aload_n 0, 1) := by decide +kernel
theorem d_Bs_isFull_1 : decode b_Bs_isFull 1 = .ok (.getfield 17, 3) := by decide +kernel
theorem d_Bs_isFull_4 : decode b_Bs_isFull 4 = .ok (.sipush 256, 3) := by decide +kernel
theorem d_Bs_isFull_7 : decode b_Bs_isFull 7 = .ok (.if_icmp .lt 7, 3) := by decide +kernel
theorem d_Bs_isFull_10 : decode b_Bs_isFull 10 = .ok (.iconst 1, 1) := by decide +kernel
theorem d_Bs_isFull_11 : decode b_Bs_isFull 11 = .ok (.goto 4, 3) := by decide +kernel
theorem d_Bs_isFull_14 : decode b_Bs_isFull 14 = .ok (.iconst 0, 1) := by decide +kernel
theorem d_Bs_isFull_15 : decode b_Bs_isFull 15 = .ok (.ireturn, 1) := by decide +kernel
theorem d_Bs_at_0 : decode b_Bs_at 0 = .ok (.iload_n 1, 1) := by decide +kernel
theorem d_Bs_at_1 : decode b_Bs_at 1 = .ok (.ifCond .lt 20, 3) := by decide +kernel
theorem d_Bs_at_4 : decode b_Bs_at 4 = .ok (.iload_n 1, 1) := by decide +kernel
theorem d_Bs_at_5 : decode b_Bs_at 5 = .ok (.aload_n 0, 1) := by decide +kernel
theorem d_Bs_at_6 : decode b_Bs_at 6 = .ok (.getfield 17, 3) := by decide +kernel
theorem d_Bs_at_9 : decode b_Bs_at 9 = .ok (.if_icmp .ge 12, 3) := by decide +kernel
theorem d_Bs_at_12 : decode b_Bs_at 12 = .ok (.aload_n 0, 1) := by decide +kernel
theorem d_Bs_at_13 : decode b_Bs_at 13 = .ok (.getfield 11, 3) := by decide +kernel
theorem d_Bs_at_16 : decode b_Bs_at 16 = .ok (.iload_n 1, 1) := by decide +kernel
theorem d_Bs_at_17 : decode b_Bs_at 17 = .ok (.aaload, 1) := by decide +kernel
theorem d_Bs_at_18 : decode b_Bs_at 18 = .ok (.goto 4, 3) := by decide +kernel
theorem d_Bs_at_21 : decode b_Bs_at 21 = .ok (.aconst_null, 1) := by decide +kernel
theorem d_Bs_at_22 : decode b_Bs_at 22 = .ok (.areturn, 1) := by decide +kernel
theorem d_Bs_indexOf_0 : decode b_Bs_indexOf 0 = .ok (.iconst 0, 1) := by decide +kernel
theorem d_Bs_indexOf_1 : decode b_Bs_indexOf 1 = .ok (.istore_n 2, 1) := by decide +kernel
theorem d_Bs_indexOf_2 : decode b_Bs_indexOf 2 = .ok (.iload_n 2, 1) := by decide +kernel
theorem d_Bs_indexOf_3 : decode b_Bs_indexOf 3 = .ok (.aload_n 0, 1) := by decide +kernel
theorem d_Bs_indexOf_4 : decode b_Bs_indexOf 4 = .ok (.getfield 17, 3) := by decide +kernel
theorem d_Bs_indexOf_7 : decode b_Bs_indexOf 7 = .ok (.if_icmp .ge 21, 3) := by decide +kernel
theorem d_Bs_indexOf_10 : decode b_Bs_indexOf 10 = .ok (.aload_n 0, 1) := by decide +kernel
theorem d_Bs_indexOf_11 : decode b_Bs_indexOf 11 = .ok (.getfield 11, 3) := by decide +kernel
theorem d_Bs_indexOf_14 : decode b_Bs_indexOf 14 = .ok (.iload_n 2, 1) := by decide +kernel
theorem d_Bs_indexOf_15 : decode b_Bs_indexOf 15 = .ok (.aaload, 1) := by decide +kernel
theorem d_Bs_indexOf_16 : decode b_Bs_indexOf 16 = .ok (.aload_n 1, 1) := by decide +kernel
theorem d_Bs_indexOf_17 : decode b_Bs_indexOf 17 = .ok (.if_acmp .ne 5, 3) := by decide +kernel
theorem d_Bs_indexOf_20 : decode b_Bs_indexOf 20 = .ok (.iload_n 2, 1) := by decide +kernel
theorem d_Bs_indexOf_21 : decode b_Bs_indexOf 21 = .ok (.ireturn, 1) := by decide +kernel
theorem d_Bs_indexOf_22 : decode b_Bs_indexOf 22 = .ok (.iinc 2 1, 3) := by decide +kernel
theorem d_Bs_indexOf_25 : decode b_Bs_indexOf 25 = .ok (.goto (-23), 3) := by decide +kernel
theorem d_Bs_indexOf_28 : decode b_Bs_indexOf 28 = .ok (.iconst (-1), 1) := by decide +kernel
theorem d_Bs_indexOf_29 : decode b_Bs_indexOf 29 = .ok (.ireturn, 1) := by decide +kernel
theorem d_Bs_endOfTree_0 : decode b_Bs_endOfTree 0 = .ok (.aload_n 0, 1) := by decide +kernel
theorem d_Bs_endOfTree_1 : decode b_Bs_endOfTree 1 = .ok (.iload_n 1, 1) := by decide +kernel
theorem d_Bs_endOfTree_2 : decode b_Bs_endOfTree 2 = .ok (.invokevirtual 21, 3) := by decide +kernel
theorem d_Bs_endOfTree_5 : decode b_Bs_endOfTree 5 = .ok (.astore_n 2, 1) := by decide +kernel
theorem d_Bs_endOfTree_6 : decode b_Bs_endOfTree 6 = .ok (.aload_n 2, 1) := by decide +kernel
theorem d_Bs_endOfTree_7 : decode b_Bs_endOfTree 7 = .ok (.ifnonnull 8, 3) := by decide +kernel
theorem d_Bs_endOfTree_10 : decode b_Bs_endOfTree 10 = .ok (.aload_n 0, 1) := by decide +kernel
theorem d_Bs_endOfTree_11 : decode b_Bs_endOfTree 11 = .ok (.getfield 17, 3) := by decide +kernel
theorem d_Bs_endOfTree_14 : decode b_Bs_endOfTree 14 = .ok (.ireturn, 1) := by decide +kernel
theorem d_Bs_endOfTree_15 : decode b_Bs_endOfTree 15 = .ok (.iload_n 1, 1) := by decide +kernel
theorem d_Bs_endOfTree_16 : decode b_Bs_endOfTree 16 = .ok (.iconst 1, 1) := by decide +kernel
theorem d_Bs_endOfTree_17 : decode b_Bs_endOfTree 17 = .ok (.iadd, 1) := by decide +kernel
theorem d_Bs_endOfTree_18 : decode b_Bs_endOfTree 18 = .ok (.istore_n 3, 1) := by decide +kernel
theorem d_Bs_endOfTree_19 : decode b_Bs_endOfTree 19 = .ok (.iload_n 3, 1) := by decide +kernel
theorem d_Bs_endOfTree_20 : decode b_Bs_endOfTree 20 = .ok (.aload_n 0, 1) := by decide +kernel
theorem d_Bs_endOfTree_21 : decode b_Bs_endOfTree 21 = .ok (.getfield 17, 3) := by decide +kernel
theorem d_Bs_endOfTree_24 : decode b_Bs_endOfTree 24 = .ok (.if_icmp .ge 31, 3) := by decide +kernel
theorem d_Bs_endOfTree_27 : decode b_Bs_endOfTree 27 = .ok (.aload_n 0, 1) := by decide +kernel
theorem d_Bs_endOfTree_28 : decode b_Bs_endOfTree 28 = .ok (.getfield 11, 3) := by decide +kernel
theorem d_Bs_endOfTree_31 : decode b_Bs_endOfTree 31 = .ok (.iload_n 3, 1) := by decide +kernel
theorem d_Bs_endOfTree_32 : decode b_Bs_endOfTree 32 = .ok (.aaload, 1) := by decide +kernel
theorem d_Bs_endOfTree_33 : decode b_Bs_endOfTree 33 = .ok (.getfield 25, 3) := by decide +kernel
theorem d_Bs_endOfTree_36 : decode b_Bs_endOfTree 36 = .ok (.getfield 29, 3) := by decide +kernel
theorem d_Bs_endOfTree_39 : decode b_Bs_endOfTree 39 = .ok (.aload_n 2, 1) := by decide +kernel
theorem d_Bs_endOfTree_40 : decode b_Bs_endOfTree 40 = .ok (.getfield 25, 3) := by decide +kernel
theorem d_Bs_endOfTree_43 : decode b_Bs_endOfTree 43 = .ok (.getfield 29, 3) := by decide +kernel
theorem d_Bs_endOfTree_46 : decode b_Bs_endOfTree 46 = .ok (.if_icmp .le 9, 3) := by decide +kernel
theorem d_Bs_endOfTree_49 : decode b_Bs_endOfTree 49 = .ok (.iinc 3 1, 3) := by decide +kernel
theorem d_Bs_endOfTree_52 : decode b_Bs_endOfTree 52 = .ok (.goto (-33), 3) := by decide +kernel
theorem d_Bs_endOfTree_55 : decode b_Bs_endOfTree 55 = .ok (.iload_n 3, 1) := by decide +kernel
theorem d_Bs_endOfTree_56 : decode b_Bs_endOfTree 56 = .ok (.ireturn, 1) := by decide +kernel
theorem d_Bs_hasEqualTwin_0 : decode b_Bs_hasEqualTwin 0 = .ok (.iconst 0, 1) := by decide +kernel
theorem d_Bs_hasEqualTwin_1 : decode b_Bs_hasEqualTwin 1 = .ok (.istore_n 2, 1) := by decide +kernel
theorem d_Bs_hasEqualTwin_2 : decode b_Bs_hasEqualTwin 2 = .ok (.iload_n 2, 1) := by decide +kernel
theorem d_Bs_hasEqualTwin_3 : decode b_Bs_hasEqualTwin 3 = .ok (.aload_n 0, 1) := by decide +kernel
theorem d_Bs_hasEqualTwin_4 : decode b_Bs_hasEqualTwin 4 = .ok (.getfield 17, 3) := by decide +kernel
theorem d_Bs_hasEqualTwin_7 : decode b_Bs_hasEqualTwin 7 = .ok (.if_icmp .ge 24, 3) := by decide +kernel
theorem d_Bs_hasEqualTwin_10 : decode b_Bs_hasEqualTwin 10 = .ok (.aload_n 0, 1) := by decide +kernel
theorem d_Bs_hasEqualTwin_11 : decode b_Bs_hasEqualTwin 11 = .ok (.getfield 11, 3) := by decide +kernel
theorem d_Bs_hasEqualTwin_14 : decode b_Bs_hasEqualTwin 14 = .ok (.iload_n 2, 1) := by decide +kernel
theorem d_Bs_hasEqualTwin_15 : decode b_Bs_hasEqualTwin 15 = .ok (.aaload, 1) := by decide +kernel
theorem d_Bs_hasEqualTwin_16 : decode b_Bs_hasEqualTwin 16 = .ok (.aload_n 1, 1) := by decide +kernel
theorem d_Bs_hasEqualTwin_17 : decode b_Bs_hasEqualTwin 17 = .ok (.invokevirtual 34, 3) := by decide +kernel
theorem d_Bs_hasEqualTwin_20 : decode b_Bs_hasEqualTwin 20 = .ok (.ifCond .eq 5, 3) := by decide +kernel
theorem d_Bs_hasEqualTwin_23 : decode b_Bs_hasEqualTwin 23 = .ok (.iconst 1, 1) := by decide +kernel
theorem d_Bs_hasEqualTwin_24 : decode b_Bs_hasEqualTwin 24 = .ok (.ireturn, 1) := by decide +kernel
theorem d_Bs_hasEqualTwin_25 : decode b_Bs_hasEqualTwin 25 = .ok (.iinc 2 1, 3) := by decide +kernel
theorem d_Bs_hasEqualTwin_28 : decode b_Bs_hasEqualTwin 28 = .ok (.goto (-26), 3) := by decide +kernel
theorem d_Bs_hasEqualTwin_31 : decode b_Bs_hasEqualTwin 31 = .ok (.iconst 0, 1) := by decide +kernel
theorem d_Bs_hasEqualTwin_32 : decode b_Bs_hasEqualTwin 32 = .ok (.ireturn, 1) := by decide +kernel
theorem d_Bs_hasToldTwinBehind_0 : decode b_Bs_hasToldTwinBehind 0 = .ok (.iload_n 1, 1) := by decide +kernel
theorem d_Bs_hasToldTwinBehind_1 : decode b_Bs_hasToldTwinBehind 1 = .ok (.iconst 1, 1) := by decide +kernel
theorem d_Bs_hasToldTwinBehind_2 : decode b_Bs_hasToldTwinBehind 2 = .ok (.iadd, 1) := by decide +kernel
theorem d_Bs_hasToldTwinBehind_3 : decode b_Bs_hasToldTwinBehind 3 = .ok (.istore 4, 2) := by decide +kernel
theorem d_Bs_hasToldTwinBehind_5 : decode b_Bs_hasToldTwinBehind 5 = .ok (.iload 4, 2) := by decide +kernel
theorem d_Bs_hasToldTwinBehind_7 : decode b_Bs_hasToldTwinBehind 7 = .ok (.aload_n 0, 1) := by decide +kernel
theorem d_Bs_hasToldTwinBehind_8 : decode b_Bs_hasToldTwinBehind 8 = .ok (.getfield 17, 3) := by decide +kernel
theorem d_Bs_hasToldTwinBehind_11 : decode b_Bs_hasToldTwinBehind 11 = .ok (.if_icmp .ge 65, 3) := by decide +kernel
theorem d_Bs_hasToldTwinBehind_14 : decode b_Bs_hasToldTwinBehind 14 = .ok (.aload_n 0, 1) := by decide +kernel
theorem d_Bs_hasToldTwinBehind_15 : decode b_Bs_hasToldTwinBehind 15 = .ok (.getfield 11, 3) := by decide +kernel
theorem d_Bs_hasToldTwinBehind_18 : decode b_Bs_hasToldTwinBehind 18 = .ok (.iload 4, 2) := by decide +kernel
theorem d_Bs_hasToldTwinBehind_20 : decode b_Bs_hasToldTwinBehind 20 = .ok (.aaload, 1) := by decide +kernel
theorem d_Bs_hasToldTwinBehind_21 : decode b_Bs_hasToldTwinBehind 21 = .ok (.getfield 25, 3) := by decide +kernel
theorem d_Bs_hasToldTwinBehind_24 : decode b_Bs_hasToldTwinBehind 24 = .ok (.getfield 29, 3) := by decide +kernel
theorem d_Bs_hasToldTwinBehind_27 : decode b_Bs_hasToldTwinBehind 27 = .ok (.aload_n 2, 1) := by decide +kernel
theorem d_Bs_hasToldTwinBehind_28 : decode b_Bs_hasToldTwinBehind 28 = .ok (.getfield 25, 3) := by decide +kernel
theorem d_Bs_hasToldTwinBehind_31 : decode b_Bs_hasToldTwinBehind 31 = .ok (.getfield 29, 3) := by decide +kernel
theorem d_Bs_hasToldTwinBehind_34 : decode b_Bs_hasToldTwinBehind 34 = .ok (.if_icmp .lt 42, 3) := by decide +kernel
theorem d_Bs_hasToldTwinBehind_37 : decode b_Bs_hasToldTwinBehind 37 = .ok (.aload_n 0, 1) := by decide +kernel
theorem d_Bs_hasToldTwinBehind_38 : decode b_Bs_hasToldTwinBehind 38 = .ok (.getfield 11, 3) := by decide +kernel
theorem d_Bs_hasToldTwinBehind_41 : decode b_Bs_hasToldTwinBehind 41 = .ok (.iload 4, 2) := by decide +kernel
theorem d_Bs_hasToldTwinBehind_43 : decode b_Bs_hasToldTwinBehind 43 = .ok (.aaload, 1) := by decide +kernel
theorem d_Bs_hasToldTwinBehind_44 : decode b_Bs_hasToldTwinBehind 44 = .ok (.aload_n 2, 1) := by decide +kernel
theorem d_Bs_hasToldTwinBehind_45 : decode b_Bs_hasToldTwinBehind 45 = .ok (.invokevirtual 38, 3) := by decide +kernel
theorem d_Bs_hasToldTwinBehind_48 : decode b_Bs_hasToldTwinBehind 48 = .ok (.ifCond .eq 22, 3) := by decide +kernel
theorem d_Bs_hasToldTwinBehind_51 : decode b_Bs_hasToldTwinBehind 51 = .ok (.aload_n 3, 1) := by decide +kernel
theorem d_Bs_hasToldTwinBehind_52 : decode b_Bs_hasToldTwinBehind 52 = .ok (.aload_n 0, 1) := by decide +kernel
theorem d_Bs_hasToldTwinBehind_53 : decode b_Bs_hasToldTwinBehind 53 = .ok (.getfield 11, 3) := by decide +kernel
theorem d_Bs_hasToldTwinBehind_56 : decode b_Bs_hasToldTwinBehind 56 = .ok (.iload 4, 2) := by decide +kernel
theorem d_Bs_hasToldTwinBehind_58 : decode b_Bs_hasToldTwinBehind 58 = .ok (.aaload, 1) := by decide +kernel
theorem d_Bs_hasToldTwinBehind_59 : decode b_Bs_hasToldTwinBehind 59 = .ok (.getfield 41, 3) := by decide +kernel
theorem d_Bs_hasToldTwinBehind_62 : decode b_Bs_hasToldTwinBehind 62 = .ok (.invokevirtual 45, 3) := by decide +kernel
theorem d_Bs_hasToldTwinBehind_65 : decode b_Bs_hasToldTwinBehind 65 = .ok (.ifCond .eq 5, 3) := by decide +kernel
theorem d_Bs_hasToldTwinBehind_68 : decode b_Bs_hasToldTwinBehind 68 = .ok (.iconst 1, 1) := by decide +kernel
theorem d_Bs_hasToldTwinBehind_69 : decode b_Bs_hasToldTwinBehind 69 = .ok (.ireturn, 1) := by decide +kernel
theorem d_Bs_hasToldTwinBehind_70 : decode b_Bs_hasToldTwinBehind 70 = .ok (.iinc 4 1, 3) := by decide +kernel
theorem d_Bs_hasToldTwinBehind_73 : decode b_Bs_hasToldTwinBehind 73 = .ok (.goto (-68), 3) := by decide +kernel
theorem d_Bs_hasToldTwinBehind_76 : decode b_Bs_hasToldTwinBehind 76 = .ok (.iconst 0, 1) := by decide +kernel
theorem d_Bs_hasToldTwinBehind_77 : decode b_Bs_hasToldTwinBehind 77 = .ok (.ireturn, 1) := by decide +kernel
theorem d_Bs_placeFor_0 : decode b_Bs_placeFor 0 = .ok (.aload_n 0, 1) := by decide +kernel
theorem d_Bs_placeFor_1 : decode b_Bs_placeFor 1 = .ok (.aload_n 1, 1) := by decide +kernel
theorem d_Bs_placeFor_2 : decode b_Bs_placeFor 2 = .ok (.getfield 51, 3) := by decide +kernel
theorem d_Bs_placeFor_5 : decode b_Bs_placeFor 5 = .ok (.invokevirtual 55, 3) := by decide +kernel
theorem d_Bs_placeFor_8 : decode b_Bs_placeFor 8 = .ok (.istore_n 3, 1) := by decide +kernel
theorem d_Bs_placeFor_9 : decode b_Bs_placeFor 9 = .ok (.aload_n 0, 1) := by decide +kernel
theorem d_Bs_placeFor_10 : decode b_Bs_placeFor 10 = .ok (.iload_n 3, 1) := by decide +kernel
theorem d_Bs_placeFor_11 : decode b_Bs_placeFor 11 = .ok (.invokevirtual 59, 3) := by decide +kernel
theorem d_Bs_placeFor_14 : decode b_Bs_placeFor 14 = .ok (.istore 4, 2) := by decide +kernel
theorem d_Bs_placeFor_16 : decode b_Bs_placeFor 16 = .ok (.iload_n 3, 1) := by decide +kernel
theorem d_Bs_placeFor_17 : decode b_Bs_placeFor 17 = .ok (.iconst 1, 1) := by decide +kernel
theorem d_Bs_placeFor_18 : decode b_Bs_placeFor 18 = .ok (.iadd, 1) := by decide +kernel
theorem d_Bs_placeFor_19 : decode b_Bs_placeFor 19 = .ok (.istore 5, 2) := by decide +kernel
theorem d_Bs_placeFor_21 : decode b_Bs_placeFor 21 = .ok (.iload 5, 2) := by decide +kernel
theorem d_Bs_placeFor_23 : decode b_Bs_placeFor 23 = .ok (.iload 4, 2) := by decide +kernel
theorem d_Bs_placeFor_25 : decode b_Bs_placeFor 25 = .ok (.if_icmp .ge 44, 3) := by decide +kernel
theorem d_Bs_placeFor_28 : decode b_Bs_placeFor 28 = .ok (.aload_n 0, 1) := by decide +kernel
theorem d_Bs_placeFor_29 : decode b_Bs_placeFor 29 = .ok (.getfield 11, 3) := by decide +kernel
theorem d_Bs_placeFor_32 : decode b_Bs_placeFor 32 = .ok (.iload 5, 2) := by decide +kernel
theorem d_Bs_placeFor_34 : decode b_Bs_placeFor 34 = .ok (.aaload, 1) := by decide +kernel
theorem d_Bs_placeFor_35 : decode b_Bs_placeFor 35 = .ok (.getfield 51, 3) := by decide +kernel
theorem d_Bs_placeFor_38 : decode b_Bs_placeFor 38 = .ok (.aload_n 1, 1) := by decide +kernel
theorem d_Bs_placeFor_39 : decode b_Bs_placeFor 39 = .ok (.getfield 51, 3) := by decide +kernel
theorem d_Bs_placeFor_42 : decode b_Bs_placeFor 42 = .ok (.if_acmp .ne 21, 3) := by decide +kernel
theorem d_Bs_placeFor_45 : decode b_Bs_placeFor 45 = .ok (.aload_n 1, 1) := by decide +kernel
theorem d_Bs_placeFor_46 : decode b_Bs_placeFor 46 = .ok (.aload_n 0, 1) := by decide +kernel
theorem d_Bs_placeFor_47 : decode b_Bs_placeFor 47 = .ok (.getfield 11, 3) := by decide +kernel
theorem d_Bs_placeFor_50 : decode b_Bs_placeFor 50 = .ok (.iload 5, 2) := by decide +kernel
theorem d_Bs_placeFor_52 : decode b_Bs_placeFor 52 = .ok (.aaload, 1) := by decide +kernel
theorem d_Bs_placeFor_53 : decode b_Bs_placeFor 53 = .ok (.aload_n 2, 1) := by decide +kernel
theorem d_Bs_placeFor_54 : decode b_Bs_placeFor 54 = .ok (.invokestatic 63, 3) := by decide +kernel
theorem d_Bs_placeFor_57 : decode b_Bs_placeFor 57 = .ok (.ifCond .eq 6, 3) := by decide +kernel
theorem d_Bs_placeFor_60 : decode b_Bs_placeFor 60 = .ok (.iload 5, 2) := by decide +kernel
theorem d_Bs_placeFor_62 : decode b_Bs_placeFor 62 = .ok (.ireturn, 1) := by decide +kernel
theorem d_Bs_placeFor_63 : decode b_Bs_placeFor 63 = .ok (.iinc 5 1, 3) := by decide +kernel
theorem d_Bs_placeFor_66 : decode b_Bs_placeFor 66 = .ok (.goto (-45), 3) := by decide +kernel
theorem d_Bs_placeFor_69 : decode b_Bs_placeFor 69 = .ok (.iload 4, 2) := by decide +kernel
theorem d_Bs_placeFor_71 : decode b_Bs_placeFor 71 = .ok (.ireturn, 1) := by decide +kernel
theorem d_Bs_goesAhead_0 : decode b_Bs_goesAhead 0 = .ok (.aload_n 0, 1) := by decide +kernel
theorem d_Bs_goesAhead_1 : decode b_Bs_goesAhead 1 = .ok (.getfield 25, 3) := by decide +kernel
theorem d_Bs_goesAhead_4 : decode b_Bs_goesAhead 4 = .ok (.aload_n 1, 1) := by decide +kernel
theorem d_Bs_goesAhead_5 : decode b_Bs_goesAhead 5 = .ok (.getfield 25, 3) := by decide +kernel
theorem d_Bs_goesAhead_8 : decode b_Bs_goesAhead 8 = .ok (.if_acmp .eq 26, 3) := by decide +kernel
theorem d_Bs_goesAhead_11 : decode b_Bs_goesAhead 11 = .ok (.aload_n 0, 1) := by decide +kernel
theorem d_Bs_goesAhead_12 : decode b_Bs_goesAhead 12 = .ok (.getfield 25, 3) := by decide +kernel
theorem d_Bs_goesAhead_15 : decode b_Bs_goesAhead 15 = .ok (.getfield 67, 3) := by decide +kernel
theorem d_Bs_goesAhead_18 : decode b_Bs_goesAhead 18 = .ok (.aload_n 1, 1) := by decide +kernel
theorem d_Bs_goesAhead_19 : decode b_Bs_goesAhead 19 = .ok (.getfield 25, 3) := by decide +kernel
theorem d_Bs_goesAhead_22 : decode b_Bs_goesAhead 22 = .ok (.getfield 67, 3) := by decide +kernel
theorem d_Bs_goesAhead_25 : decode b_Bs_goesAhead 25 = .ok (.if_icmp .ge 7, 3) := by decide +kernel
theorem d_Bs_goesAhead_28 : decode b_Bs_goesAhead 28 = .ok (.iconst 1, 1) := by decide +kernel
theorem d_Bs_goesAhead_29 : decode b_Bs_goesAhead 29 = .ok (.goto 4, 3) := by decide +kernel
theorem d_Bs_goesAhead_32 : decode b_Bs_goesAhead 32 = .ok (.iconst 0, 1) := by decide +kernel
theorem d_Bs_goesAhead_33 : decode b_Bs_goesAhead 33 = .ok (.ireturn, 1) := by decide +kernel
theorem d_Bs_goesAhead_34 : decode b_Bs_goesAhead 34 = .ok (.aload_n 0, 1) := by decide +kernel
theorem d_Bs_goesAhead_35 : decode b_Bs_goesAhead 35 = .ok (.getfield 41, 3) := by decide +kernel
theorem d_Bs_goesAhead_38 : decode b_Bs_goesAhead 38 = .ok (.aload_n 1, 1) := by decide +kernel
theorem d_Bs_goesAhead_39 : decode b_Bs_goesAhead 39 = .ok (.getfield 41, 3) := by decide +kernel
theorem d_Bs_goesAhead_42 : decode b_Bs_goesAhead 42 = .ok (.lcmp, 1) := by decide +kernel
theorem d_Bs_goesAhead_43 : decode b_Bs_goesAhead 43 = .ok (.ifCond .eq 21, 3) := by decide +kernel
theorem d_Bs_goesAhead_46 : decode b_Bs_goesAhead 46 = .ok (.aload_n 0, 1) := by decide +kernel
theorem d_Bs_goesAhead_47 : decode b_Bs_goesAhead 47 = .ok (.getfield 41, 3) := by decide +kernel
theorem d_Bs_goesAhead_50 : decode b_Bs_goesAhead 50 = .ok (.aload_n 1, 1) := by decide +kernel
theorem d_Bs_goesAhead_51 : decode b_Bs_goesAhead 51 = .ok (.getfield 41, 3) := by decide +kernel
theorem d_Bs_goesAhead_54 : decode b_Bs_goesAhead 54 = .ok (.lcmp, 1) := by decide +kernel
theorem d_Bs_goesAhead_55 : decode b_Bs_goesAhead 55 = .ok (.ifCond .ge 7, 3) := by decide +kernel
theorem d_Bs_goesAhead_58 : decode b_Bs_goesAhead 58 = .ok (.iconst 1, 1) := by decide +kernel
theorem d_Bs_goesAhead_59 : decode b_Bs_goesAhead 59 = .ok (.goto 4, 3) := by decide +kernel
theorem d_Bs_goesAhead_62 : decode b_Bs_goesAhead 62 = .ok (.iconst 0, 1) := by decide +kernel
theorem d_Bs_goesAhead_63 : decode b_Bs_goesAhead 63 = .ok (.ireturn, 1) := by decide +kernel
theorem d_Bs_goesAhead_64 : decode b_Bs_goesAhead 64 = .ok (.aload_n 0, 1) := by decide +kernel
theorem d_Bs_goesAhead_65 : decode b_Bs_goesAhead 65 = .ok (.getfield 25, 3) := by decide +kernel
theorem d_Bs_goesAhead_68 : decode b_Bs_goesAhead 68 = .ok (.getfield 70, 3) := by decide +kernel
theorem d_Bs_goesAhead_71 : decode b_Bs_goesAhead 71 = .ok (.ifCond .eq 14, 3) := by decide +kernel
theorem d_Bs_goesAhead_74 : decode b_Bs_goesAhead 74 = .ok (.aload_n 0, 1) := by decide +kernel
theorem d_Bs_goesAhead_75 : decode b_Bs_goesAhead 75 = .ok (.getfield 25, 3) := by decide +kernel
theorem d_Bs_goesAhead_78 : decode b_Bs_goesAhead 78 = .ok (.getfield 70, 3) := by decide +kernel
theorem d_Bs_goesAhead_81 : decode b_Bs_goesAhead 81 = .ok (.iconst 1, 1) := by decide +kernel
theorem d_Bs_goesAhead_82 : decode b_Bs_goesAhead 82 = .ok (.if_icmp .ne 19, 3) := by decide +kernel
theorem d_Bs_goesAhead_85 : decode b_Bs_goesAhead 85 = .ok (.aload_n 0, 1) := by decide +kernel
theorem d_Bs_goesAhead_86 : decode b_Bs_goesAhead 86 = .ok (.getfield 25, 3) := by decide +kernel
theorem d_Bs_goesAhead_89 : decode b_Bs_goesAhead 89 = .ok (.getfield 70, 3) := by decide +kernel
theorem d_Bs_goesAhead_92 : decode b_Bs_goesAhead 92 = .ok (.ifCond .ne 7, 3) := by decide +kernel
theorem d_Bs_goesAhead_95 : decode b_Bs_goesAhead 95 = .ok (.iconst 1, 1) := by decide +kernel
theorem d_Bs_goesAhead_96 : decode b_Bs_goesAhead 96 = .ok (.goto 4, 3) := by decide +kernel
theorem d_Bs_goesAhead_99 : decode b_Bs_goesAhead 99 = .ok (.iconst 0, 1) := by decide +kernel
theorem d_Bs_goesAhead_100 : decode b_Bs_goesAhead 100 = .ok (.ireturn, 1) := by decide +kernel
theorem d_Bs_goesAhead_101 : decode b_Bs_goesAhead 101 = .ok (.aload_n 2, 1) := by decide +kernel
theorem d_Bs_goesAhead_102 : decode b_Bs_goesAhead 102 = .ok (.ifnull 15, 3) := by decide +kernel
theorem d_Bs_goesAhead_105 : decode b_Bs_goesAhead 105 = .ok (.aload_n 2, 1) := by decide +kernel
theorem d_Bs_goesAhead_106 : decode b_Bs_goesAhead 106 = .ok (.aload_n 0, 1) := by decide +kernel
theorem d_Bs_goesAhead_107 : decode b_Bs_goesAhead 107 = .ok (.invokevirtual 34, 3) := by decide +kernel
theorem d_Bs_goesAhead_110 : decode b_Bs_goesAhead 110 = .ok (.ifCond .eq 7, 3) := by decide +kernel
theorem d_Bs_goesAhead_113 : decode b_Bs_goesAhead 113 = .ok (.iconst 1, 1) := by decide +kernel
theorem d_Bs_goesAhead_114 : decode b_Bs_goesAhead 114 = .ok (.goto 4, 3) := by decide +kernel
theorem d_Bs_goesAhead_117 : decode b_Bs_goesAhead 117 = .ok (.iconst 0, 1) := by decide +kernel
theorem d_Bs_goesAhead_118 : decode b_Bs_goesAhead 118 = .ok (.istore_n 3, 1) := by decide +kernel
theorem d_Bs_goesAhead_119 : decode b_Bs_goesAhead 119 = .ok (.iload_n 3, 1) := by decide +kernel
theorem d_Bs_goesAhead_120 : decode b_Bs_goesAhead 120 = .ok (.ifCond .eq 8, 3) := by decide +kernel
theorem d_Bs_goesAhead_123 : decode b_Bs_goesAhead 123 = .ok (.aload_n 1, 1) := by decide +kernel
theorem d_Bs_goesAhead_124 : decode b_Bs_goesAhead 124 = .ok (.aload_n 2, 1) := by decide +kernel
theorem d_Bs_goesAhead_125 : decode b_Bs_goesAhead 125 = .ok (.if_acmp .ne 7, 3) := by decide +kernel
theorem d_Bs_goesAhead_128 : decode b_Bs_goesAhead 128 = .ok (.iconst 1, 1) := by decide +kernel
theorem d_Bs_goesAhead_129 : decode b_Bs_goesAhead 129 = .ok (.goto 4, 3) := by decide +kernel
theorem d_Bs_goesAhead_132 : decode b_Bs_goesAhead 132 = .ok (.iconst 0, 1) := by decide +kernel
theorem d_Bs_goesAhead_133 : decode b_Bs_goesAhead 133 = .ok (.ireturn, 1) := by decide +kernel
theorem d_Bs_putAt_0 : decode b_Bs_putAt 0 = .ok (.aload_n 0, 1) := by decide +kernel
theorem d_Bs_putAt_1 : decode b_Bs_putAt 1 = .ok (.invokevirtual 73, 3) := by decide +kernel
theorem d_Bs_putAt_4 : decode b_Bs_putAt 4 = .ok (.ifCond .ne 15, 3) := by decide +kernel
theorem d_Bs_putAt_7 : decode b_Bs_putAt 7 = .ok (.iload_n 1, 1) := by decide +kernel
theorem d_Bs_putAt_8 : decode b_Bs_putAt 8 = .ok (.ifCond .lt 11, 3) := by decide +kernel
theorem d_Bs_putAt_11 : decode b_Bs_putAt 11 = .ok (.iload_n 1, 1) := by decide +kernel
theorem d_Bs_putAt_12 : decode b_Bs_putAt 12 = .ok (.aload_n 0, 1) := by decide +kernel
theorem d_Bs_putAt_13 : decode b_Bs_putAt 13 = .ok (.getfield 17, 3) := by decide +kernel
theorem d_Bs_putAt_16 : decode b_Bs_putAt 16 = .ok (.if_icmp .le 4, 3) := by decide +kernel
theorem d_Bs_putAt_19 : decode b_Bs_putAt 19 = .ok (.return_, 1) := by decide +kernel
theorem d_Bs_putAt_20 : decode b_Bs_putAt 20 = .ok (.aload_n 0, 1) := by decide +kernel
theorem d_Bs_putAt_21 : decode b_Bs_putAt 21 = .ok (.getfield 17, 3) := by decide +kernel
theorem d_Bs_putAt_24 : decode b_Bs_putAt 24 = .ok (.istore_n 3, 1) := by decide +kernel
theorem d_Bs_putAt_25 : decode b_Bs_putAt 25 = .ok (.iload_n 3, 1) := by decide +kernel
theorem d_Bs_putAt_26 : decode b_Bs_putAt 26 = .ok (.iload_n 1, 1) := by decide +kernel
theorem d_Bs_putAt_27 : decode b_Bs_putAt 27 = .ok (.if_icmp .le 23, 3) := by decide +kernel
theorem d_Bs_putAt_30 : decode b_Bs_putAt 30 = .ok (.aload_n 0, 1) := by decide +kernel
theorem d_Bs_putAt_31 : decode b_Bs_putAt 31 = .ok (.getfield 11, 3) := by decide +kernel
theorem d_Bs_putAt_34 : decode b_Bs_putAt 34 = .ok (.iload_n 3, 1) := by decide +kernel
theorem d_Bs_putAt_35 : decode b_Bs_putAt 35 = .ok (.aload_n 0, 1) := by decide +kernel
theorem d_Bs_putAt_36 : decode b_Bs_putAt 36 = .ok (.getfield 11, 3) := by decide +kernel
theorem d_Bs_putAt_39 : decode b_Bs_putAt 39 = .ok (.iload_n 3, 1) := by decide +kernel
theorem d_Bs_putAt_40 : decode b_Bs_putAt 40 = .ok (.iconst 1, 1) := by decide +kernel
theorem d_Bs_putAt_41 : decode b_Bs_putAt 41 = .ok (.isub, 1) := by decide +kernel
theorem d_Bs_putAt_42 : decode b_Bs_putAt 42 = .ok (.aaload, 1) := by decide +kernel
theorem d_Bs_putAt_43 : decode b_Bs_putAt 43 = .ok (.aastore, 1) := by decide +kernel
theorem d_Bs_putAt_44 : decode b_Bs_putAt 44 = .ok (.iinc 3 (-1), 3) := by decide +kernel
theorem d_Bs_putAt_47 : decode b_Bs_putAt 47 = .ok (.goto (-22), 3) := by decide +kernel
theorem d_Bs_putAt_50 : decode b_Bs_putAt 50 = .ok (.aload_n 0, 1) := by decide +kernel
theorem d_Bs_putAt_51 : decode b_Bs_putAt 51 = .ok (.getfield 11, 3) := by decide +kernel
theorem d_Bs_putAt_54 : decode b_Bs_putAt 54 = .ok (.iload_n 1, 1) := by decide +kernel
theorem d_Bs_putAt_55 : decode b_Bs_putAt 55 = .ok (.aload_n 2, 1) := by decide +kernel
theorem d_Bs_putAt_56 : decode b_Bs_putAt 56 = .ok (.aastore, 1) := by decide +kernel
theorem d_Bs_putAt_57 : decode b_Bs_putAt 57 = .ok (.aload_n 0, 1) := by decide +kernel
theorem d_Bs_putAt_58 : decode b_Bs_putAt 58 = .ok (.dup, 1) := by decide +kernel
theorem d_Bs_putAt_59 : decode b_Bs_putAt 59 = .ok (.getfield 17, 3) := by decide +kernel
theorem d_Bs_putAt_62 : decode b_Bs_putAt 62 = .ok (.iconst 1, 1) := by decide +kernel
theorem d_Bs_putAt_63 : decode b_Bs_putAt 63 = .ok (.iadd, 1) := by decide +kernel
theorem d_Bs_putAt_64 : decode b_Bs_putAt 64 = .ok (.putfield 17, 3) := by decide +kernel
theorem d_Bs_putAt_67 : decode b_Bs_putAt 67 = .ok (.return_, 1) := by decide +kernel
theorem d_Bs_removeTree_0 : decode b_Bs_removeTree 0 = .ok (.aload_n 0, 1) := by decide +kernel
theorem d_Bs_removeTree_1 : decode b_Bs_removeTree 1 = .ok (.iload_n 1, 1) := by decide +kernel
theorem d_Bs_removeTree_2 : decode b_Bs_removeTree 2 = .ok (.invokevirtual 21, 3) := by decide +kernel
theorem d_Bs_removeTree_5 : decode b_Bs_removeTree 5 = .ok (.ifnonnull 4, 3) := by decide +kernel
theorem d_Bs_removeTree_8 : decode b_Bs_removeTree 8 = .ok (.return_, 1) := by decide +kernel
theorem d_Bs_removeTree_9 : decode b_Bs_removeTree 9 = .ok (.aload_n 0, 1) := by decide +kernel
theorem d_Bs_removeTree_10 : decode b_Bs_removeTree 10 = .ok (.iload_n 1, 1) := by decide +kernel
theorem d_Bs_removeTree_11 : decode b_Bs_removeTree 11 = .ok (.invokevirtual 59, 3) := by decide +kernel
theorem d_Bs_removeTree_14 : decode b_Bs_removeTree 14 = .ok (.istore_n 2, 1) := by decide +kernel
theorem d_Bs_removeTree_15 : decode b_Bs_removeTree 15 = .ok (.iload_n 2, 1) := by decide +kernel
theorem d_Bs_removeTree_16 : decode b_Bs_removeTree 16 = .ok (.iload_n 1, 1) := by decide +kernel
theorem d_Bs_removeTree_17 : decode b_Bs_removeTree 17 = .ok (.isub, 1) := by decide +kernel
theorem d_Bs_removeTree_18 : decode b_Bs_removeTree 18 = .ok (.istore_n 3, 1) := by decide +kernel
theorem d_Bs_removeTree_19 : decode b_Bs_removeTree 19 = .ok (.iload_n 2, 1) := by decide +kernel
theorem d_Bs_removeTree_20 : decode b_Bs_removeTree 20 = .ok (.istore 4, 2) := by decide +kernel
theorem d_Bs_removeTree_22 : decode b_Bs_removeTree 22 = .ok (.iload 4, 2) := by decide +kernel
theorem d_Bs_removeTree_24 : decode b_Bs_removeTree 24 = .ok (.aload_n 0, 1) := by decide +kernel
theorem d_Bs_removeTree_25 : decode b_Bs_removeTree 25 = .ok (.getfield 17, 3) := by decide +kernel
theorem d_Bs_removeTree_28 : decode b_Bs_removeTree 28 = .ok (.if_icmp .ge 25, 3) := by decide +kernel
theorem d_Bs_removeTree_31 : decode b_Bs_removeTree 31 = .ok (.aload_n 0, 1) := by decide +kernel
theorem d_Bs_removeTree_32 : decode b_Bs_removeTree 32 = .ok (.getfield 11, 3) := by decide +kernel
theorem d_Bs_removeTree_35 : decode b_Bs_removeTree 35 = .ok (.iload 4, 2) := by decide +kernel
theorem d_Bs_removeTree_37 : decode b_Bs_removeTree 37 = .ok (.iload_n 3, 1) := by decide +kernel
theorem d_Bs_removeTree_38 : decode b_Bs_removeTree 38 = .ok (.isub, 1) := by decide +kernel
theorem d_Bs_removeTree_39 : decode b_Bs_removeTree 39 = .ok (.aload_n 0, 1) := by decide +kernel
theorem d_Bs_removeTree_40 : decode b_Bs_removeTree 40 = .ok (.getfield 11, 3) := by decide +kernel
theorem d_Bs_removeTree_43 : decode b_Bs_removeTree 43 = .ok (.iload 4, 2) := by decide +kernel
theorem d_Bs_removeTree_45 : decode b_Bs_removeTree 45 = .ok (.aaload, 1) := by decide +kernel
theorem d_Bs_removeTree_46 : decode b_Bs_removeTree 46 = .ok (.aastore, 1) := by decide +kernel
theorem d_Bs_removeTree_47 : decode b_Bs_removeTree 47 = .ok (.iinc 4 1, 3) := by decide +kernel
theorem d_Bs_removeTree_50 : decode b_Bs_removeTree 50 = .ok (.goto (-28), 3) := by decide +kernel
theorem d_Bs_removeTree_53 : decode b_Bs_removeTree 53 = .ok (.aload_n 0, 1) := by decide +kernel
theorem d_Bs_removeTree_54 : decode b_Bs_removeTree 54 = .ok (.getfield 17, 3) := by decide +kernel
theorem d_Bs_removeTree_57 : decode b_Bs_removeTree 57 = .ok (.iload_n 3, 1) := by decide +kernel
theorem d_Bs_removeTree_58 : decode b_Bs_removeTree 58 = .ok (.isub, 1) := by decide +kernel
theorem d_Bs_removeTree_59 : decode b_Bs_removeTree 59 = .ok (.istore 4, 2) := by decide +kernel
theorem d_Bs_removeTree_61 : decode b_Bs_removeTree 61 = .ok (.iload 4, 2) := by decide +kernel
theorem d_Bs_removeTree_63 : decode b_Bs_removeTree 63 = .ok (.aload_n 0, 1) := by decide +kernel
theorem d_Bs_removeTree_64 : decode b_Bs_removeTree 64 = .ok (.getfield 17, 3) := by decide +kernel
theorem d_Bs_removeTree_67 : decode b_Bs_removeTree 67 = .ok (.if_icmp .ge 17, 3) := by decide +kernel
theorem d_Bs_removeTree_70 : decode b_Bs_removeTree 70 = .ok (.aload_n 0, 1) := by decide +kernel
theorem d_Bs_removeTree_71 : decode b_Bs_removeTree 71 = .ok (.getfield 11, 3) := by decide +kernel
theorem d_Bs_removeTree_74 : decode b_Bs_removeTree 74 = .ok (.iload 4, 2) := by decide +kernel
theorem d_Bs_removeTree_76 : decode b_Bs_removeTree 76 = .ok (.aconst_null, 1) := by decide +kernel
theorem d_Bs_removeTree_77 : decode b_Bs_removeTree 77 = .ok (.aastore, 1) := by decide +kernel
theorem d_Bs_removeTree_78 : decode b_Bs_removeTree 78 = .ok (.iinc 4 1, 3) := by decide +kernel
theorem d_Bs_removeTree_81 : decode b_Bs_removeTree 81 = .ok (.goto (-20), 3) := by decide +kernel
theorem d_Bs_removeTree_84 : decode b_Bs_removeTree 84 = .ok (.aload_n 0, 1) := by decide +kernel
theorem d_Bs_removeTree_85 : decode b_Bs_removeTree 85 = .ok (.dup, 1) := by decide +kernel
theorem d_Bs_removeTree_86 : decode b_Bs_removeTree 86 = .ok (.getfield 17, 3) := by decide +kernel
theorem d_Bs_removeTree_89 : decode b_Bs_removeTree 89 = .ok (.iload_n 3, 1) := by decide +kernel
theorem d_Bs_removeTree_90 : decode b_Bs_removeTree 90 = .ok (.isub, 1) := by decide +kernel
theorem d_Bs_removeTree_91 : decode b_Bs_removeTree 91 = .ok (.putfield 17, 3) := by decide +kernel
theorem d_Bs_removeTree_94 : decode b_Bs_removeTree 94 = .ok (.return_, 1) := by decide +kernel
theorem d_Kd_init_0 : decode b_Kd_init 0 = .ok (.aload_n 0, 1) := by decide +kernel
theorem d_Kd_init_1 : decode b_Kd_init 1 = .ok (.invokespecial 3, 3) := by decide +kernel
theorem d_Kd_init_4 : decode b_Kd_init 4 = .ok (.aload_n 0, 1) := by decide +kernel
theorem d_Kd_init_5 : decode b_Kd_init 5 = .ok (.iconst 1, 1) := by decide +kernel
theorem d_Kd_init_6 : decode b_Kd_init 6 = .ok (.putfield 9, 3) := by decide +kernel
theorem d_Kd_init_9 : decode b_Kd_init 9 = .ok (.aload_n 0, 1) := by decide +kernel
theorem d_Kd_init_10 : decode b_Kd_init 10 = .ok (.iload_n 1, 1) := by decide +kernel
theorem d_Kd_init_11 : decode b_Kd_init 11 = .ok (.putfield 15, 3) := by decide +kernel
theorem d_Kd_init_14 : decode b_Kd_init 14 = .ok (.aload_n 0, 1) := by decide +kernel
theorem d_Kd_init_15 : decode b_Kd_init 15 = .ok (.aload_n 2, 1) := by decide +kernel
theorem d_Kd_init_16 : decode b_Kd_init 16 = .ok (.ifnonnull 7, 3) := by decide +kernel
theorem d_Kd_init_19 : decode b_Kd_init 19 = .ok (.iconst 1, 1) := by decide +kernel
theorem d_Kd_init_20 : decode b_Kd_init 20 = .ok (.goto 9, 3) := by decide +kernel
theorem d_Kd_init_23 : decode b_Kd_init 23 = .ok (.aload_n 2, 1) := by decide +kernel
theorem d_Kd_init_24 : decode b_Kd_init 24 = .ok (.getfield 18, 3) := by decide +kernel
theorem d_Kd_init_27 : decode b_Kd_init 27 = .ok (.iconst 1, 1) := by decide +kernel
theorem d_Kd_init_28 : decode b_Kd_init 28 = .ok (.iadd, 1) := by decide +kernel
theorem d_Kd_init_29 : decode b_Kd_init 29 = .ok (.putfield 18, 3) := by decide +kernel
theorem d_Kd_init_32 : decode b_Kd_init 32 = .ok (.aload_n 0, 1) := by decide +kernel
theorem d_Kd_init_33 : decode b_Kd_init 33 = .ok (.aload_n 2, 1) := by decide +kernel
theorem d_Kd_init_34 : decode b_Kd_init 34 = .ok (.putfield 21, 3) := by decide +kernel
theorem d_Kd_init_37 : decode b_Kd_init 37 = .ok (.aload_n 0, 1) := by decide +kernel
theorem d_Kd_init_38 : decode b_Kd_init 38 = .ok (.iload_n 3, 1) := by decide +kernel
theorem d_Kd_init_39 : decode b_Kd_init 39 = .ok (.putfield 25, 3) := by decide +kernel
theorem d_Kd_init_42 : decode b_Kd_init 42 = .ok (.return_, 1) := by decide +kernel
theorem d_Kd_liesBelow_0 : decode b_Kd_liesBelow 0 = .ok (.aload_n 0, 1) := by decide +kernel
theorem d_Kd_liesBelow_1 : decode b_Kd_liesBelow 1 = .ok (.getfield 21, 3) := by decide +kernel
theorem d_Kd_liesBelow_4 : decode b_Kd_liesBelow 4 = .ok (.astore_n 2, 1) := by decide +kernel
theorem d_Kd_liesBelow_5 : decode b_Kd_liesBelow 5 = .ok (.aload_n 2, 1) := by decide +kernel
theorem d_Kd_liesBelow_6 : decode b_Kd_liesBelow 6 = .ok (.ifnull 18, 3) := by decide +kernel
theorem d_Kd_liesBelow_9 : decode b_Kd_liesBelow 9 = .ok (.aload_n 2, 1) := by decide +kernel
theorem d_Kd_liesBelow_10 : decode b_Kd_liesBelow 10 = .ok (.aload_n 1, 1) := by decide +kernel
theorem d_Kd_liesBelow_11 : decode b_Kd_liesBelow 11 = .ok (.if_acmp .ne 5, 3) := by decide +kernel
theorem d_Kd_liesBelow_14 : decode b_Kd_liesBelow 14 = .ok (.iconst 1, 1) := by decide +kernel
theorem d_Kd_liesBelow_15 : decode b_Kd_liesBelow 15 = .ok (.ireturn, 1) := by decide +kernel
theorem d_Kd_liesBelow_16 : decode b_Kd_liesBelow 16 = .ok (.aload_n 2, 1) := by decide +kernel
theorem d_Kd_liesBelow_17 : decode b_Kd_liesBelow 17 = .ok (.getfield 21, 3) := by decide +kernel
theorem d_Kd_liesBelow_20 : decode b_Kd_liesBelow 20 = .ok (.astore_n 2, 1) := by decide +kernel
theorem d_Kd_liesBelow_21 : decode b_Kd_liesBelow 21 = .ok (.goto (-16), 3) := by decide +kernel
theorem d_Kd_liesBelow_24 : decode b_Kd_liesBelow 24 = .ok (.iconst 0, 1) := by decide +kernel
theorem d_Kd_liesBelow_25 : decode b_Kd_liesBelow 25 = .ok (.ireturn, 1) := by decide +kernel
theorem d_Pt_init_0 : decode b_Pt_init 0 = .ok (.aload_n 0, 1) := by decide +kernel
theorem d_Pt_init_1 : decode b_Pt_init 1 = .ok (.invokespecial 1, 3) := by decide +kernel
theorem d_Pt_init_4 : decode b_Pt_init 4 = .ok (.return_, 1) := by decide +kernel
theorem d_Pt_fill_0 : decode b_Pt_fill 0 = .ok (.aload_n 0, 1) := by decide +kernel
theorem d_Pt_fill_1 : decode b_Pt_fill 1 = .ok (.aload_n 1, 1) := by decide +kernel
theorem d_Pt_fill_2 : decode b_Pt_fill 2 = .ok (.putfield 7, 3) := by decide +kernel
theorem d_Pt_fill_5 : decode b_Pt_fill 5 = .ok (.aload_n 0, 1) := by decide +kernel
theorem d_Pt_fill_6 : decode b_Pt_fill 6 = .ok (.iload_n 2, 1) := by decide +kernel
theorem d_Pt_fill_7 : decode b_Pt_fill 7 = .ok (.putfield 13, 3) := by decide +kernel
theorem d_Pt_fill_10 : decode b_Pt_fill 10 = .ok (.aload_n 0, 1) := by decide +kernel
theorem d_Pt_fill_11 : decode b_Pt_fill 11 = .ok (.lload_n 3, 1) := by decide +kernel
theorem d_Pt_fill_12 : decode b_Pt_fill 12 = .ok (.putfield 17, 3) := by decide +kernel
theorem d_Pt_fill_15 : decode b_Pt_fill 15 = .ok (.aload_n 0, 1) := by decide +kernel
theorem d_Pt_fill_16 : decode b_Pt_fill 16 = .ok (.iconst 0, 1) := by decide +kernel
theorem d_Pt_fill_17 : decode b_Pt_fill 17 = .ok (.putfield 21, 3) := by decide +kernel
theorem d_Pt_fill_20 : decode b_Pt_fill 20 = .ok (.return_, 1) := by decide +kernel
theorem d_Pt_has_0 : decode b_Pt_has 0 = .ok (.aload_n 0, 1) := by decide +kernel
theorem d_Pt_has_1 : decode b_Pt_has 1 = .ok (.getfield 21, 3) := by decide +kernel
theorem d_Pt_has_4 : decode b_Pt_has 4 = .ok (.iload_n 1, 1) := by decide +kernel
theorem d_Pt_has_5 : decode b_Pt_has 5 = .ok (.iand, 1) := by decide +kernel
theorem d_Pt_has_6 : decode b_Pt_has 6 = .ok (.ifCond .eq 7, 3) := by decide +kernel
theorem d_Pt_has_9 : decode b_Pt_has 9 = .ok (.iconst 1, 1) := by decide +kernel
theorem d_Pt_has_10 : decode b_Pt_has 10 = .ok (.goto 4, 3) := by decide +kernel
theorem d_Pt_has_13 : decode b_Pt_has 13 = .ok (.iconst 0, 1) := by decide +kernel
theorem d_Pt_has_14 : decode b_Pt_has 14 = .ok (.ireturn, 1) := by decide +kernel
theorem d_Pt_tells_0 : decode b_Pt_tells 0 = .ok (.aload_n 0, 1) := by decide +kernel
theorem d_Pt_tells_1 : decode b_Pt_tells 1 = .ok (.getfield 13, 3) := by decide +kernel
theorem d_Pt_tells_4 : decode b_Pt_tells 4 = .ok (.tableswitch 130 1 6 #[40, 55, 70, 85, 100, 115], 40) := by decide +kernel
theorem d_Pt_tells_44 : decode b_Pt_tells 44 = .ok (.lload_n 1, 1) := by decide +kernel
theorem d_Pt_tells_45 : decode b_Pt_tells 45 = .ok (.aload_n 0, 1) := by decide +kernel
theorem d_Pt_tells_46 : decode b_Pt_tells 46 = .ok (.getfield 17, 3) := by decide +kernel
theorem d_Pt_tells_49 : decode b_Pt_tells 49 = .ok (.lcmp, 1) := by decide +kernel
theorem d_Pt_tells_50 : decode b_Pt_tells 50 = .ok (.ifCond .ne 7, 3) := by decide +kernel
theorem d_Pt_tells_53 : decode b_Pt_tells 53 = .ok (.iconst 1, 1) := by decide +kernel
theorem d_Pt_tells_54 : decode b_Pt_tells 54 = .ok (.goto 4, 3) := by decide +kernel
theorem d_Pt_tells_57 : decode b_Pt_tells 57 = .ok (.iconst 0, 1) := by decide +kernel
theorem d_Pt_tells_58 : decode b_Pt_tells 58 = .ok (.ireturn, 1) := by decide +kernel
theorem d_Pt_tells_59 : decode b_Pt_tells 59 = .ok (.lload_n 1, 1) := by decide +kernel
theorem d_Pt_tells_60 : decode b_Pt_tells 60 = .ok (.aload_n 0, 1) := by decide +kernel
theorem d_Pt_tells_61 : decode b_Pt_tells 61 = .ok (.getfield 17, 3) := by decide +kernel
theorem d_Pt_tells_64 : decode b_Pt_tells 64 = .ok (.lcmp, 1) := by decide +kernel
theorem d_Pt_tells_65 : decode b_Pt_tells 65 = .ok (.ifCond .le 7, 3) := by decide +kernel
theorem d_Pt_tells_68 : decode b_Pt_tells 68 = .ok (.iconst 1, 1) := by decide +kernel
theorem d_Pt_tells_69 : decode b_Pt_tells 69 = .ok (.goto 4, 3) := by decide +kernel
theorem d_Pt_tells_72 : decode b_Pt_tells 72 = .ok (.iconst 0, 1) := by decide +kernel
theorem d_Pt_tells_73 : decode b_Pt_tells 73 = .ok (.ireturn, 1) := by decide +kernel
theorem d_Pt_tells_74 : decode b_Pt_tells 74 = .ok (.lload_n 1, 1) := by decide +kernel
theorem d_Pt_tells_75 : decode b_Pt_tells 75 = .ok (.aload_n 0, 1) := by decide +kernel
theorem d_Pt_tells_76 : decode b_Pt_tells 76 = .ok (.getfield 17, 3) := by decide +kernel
theorem d_Pt_tells_79 : decode b_Pt_tells 79 = .ok (.lcmp, 1) := by decide +kernel
theorem d_Pt_tells_80 : decode b_Pt_tells 80 = .ok (.ifCond .ge 7, 3) := by decide +kernel
theorem d_Pt_tells_83 : decode b_Pt_tells 83 = .ok (.iconst 1, 1) := by decide +kernel
theorem d_Pt_tells_84 : decode b_Pt_tells 84 = .ok (.goto 4, 3) := by decide +kernel
theorem d_Pt_tells_87 : decode b_Pt_tells 87 = .ok (.iconst 0, 1) := by decide +kernel
theorem d_Pt_tells_88 : decode b_Pt_tells 88 = .ok (.ireturn, 1) := by decide +kernel
theorem d_Pt_tells_89 : decode b_Pt_tells 89 = .ok (.lload_n 1, 1) := by decide +kernel
theorem d_Pt_tells_90 : decode b_Pt_tells 90 = .ok (.aload_n 0, 1) := by decide +kernel
theorem d_Pt_tells_91 : decode b_Pt_tells 91 = .ok (.getfield 17, 3) := by decide +kernel
theorem d_Pt_tells_94 : decode b_Pt_tells 94 = .ok (.lcmp, 1) := by decide +kernel
theorem d_Pt_tells_95 : decode b_Pt_tells 95 = .ok (.ifCond .lt 7, 3) := by decide +kernel
theorem d_Pt_tells_98 : decode b_Pt_tells 98 = .ok (.iconst 1, 1) := by decide +kernel
theorem d_Pt_tells_99 : decode b_Pt_tells 99 = .ok (.goto 4, 3) := by decide +kernel
theorem d_Pt_tells_102 : decode b_Pt_tells 102 = .ok (.iconst 0, 1) := by decide +kernel
theorem d_Pt_tells_103 : decode b_Pt_tells 103 = .ok (.ireturn, 1) := by decide +kernel
theorem d_Pt_tells_104 : decode b_Pt_tells 104 = .ok (.lload_n 1, 1) := by decide +kernel
theorem d_Pt_tells_105 : decode b_Pt_tells 105 = .ok (.aload_n 0, 1) := by decide +kernel
theorem d_Pt_tells_106 : decode b_Pt_tells 106 = .ok (.getfield 17, 3) := by decide +kernel
theorem d_Pt_tells_109 : decode b_Pt_tells 109 = .ok (.lcmp, 1) := by decide +kernel
theorem d_Pt_tells_110 : decode b_Pt_tells 110 = .ok (.ifCond .gt 7, 3) := by decide +kernel
theorem d_Pt_tells_113 : decode b_Pt_tells 113 = .ok (.iconst 1, 1) := by decide +kernel
theorem d_Pt_tells_114 : decode b_Pt_tells 114 = .ok (.goto 4, 3) := by decide +kernel
theorem d_Pt_tells_117 : decode b_Pt_tells 117 = .ok (.iconst 0, 1) := by decide +kernel
theorem d_Pt_tells_118 : decode b_Pt_tells 118 = .ok (.ireturn, 1) := by decide +kernel
theorem d_Pt_tells_119 : decode b_Pt_tells 119 = .ok (.lload_n 1, 1) := by decide +kernel
theorem d_Pt_tells_120 : decode b_Pt_tells 120 = .ok (.aload_n 0, 1) := by decide +kernel
theorem d_Pt_tells_121 : decode b_Pt_tells 121 = .ok (.getfield 17, 3) := by decide +kernel
theorem d_Pt_tells_124 : decode b_Pt_tells 124 = .ok (.lcmp, 1) := by decide +kernel
theorem d_Pt_tells_125 : decode b_Pt_tells 125 = .ok (.ifCond .eq 7, 3) := by decide +kernel
theorem d_Pt_tells_128 : decode b_Pt_tells 128 = .ok (.iconst 1, 1) := by decide +kernel
theorem d_Pt_tells_129 : decode b_Pt_tells 129 = .ok (.goto 4, 3) := by decide +kernel
theorem d_Pt_tells_132 : decode b_Pt_tells 132 = .ok (.iconst 0, 1) := by decide +kernel
theorem d_Pt_tells_133 : decode b_Pt_tells 133 = .ok (.ireturn, 1) := by decide +kernel
theorem d_Pt_tells_134 : decode b_Pt_tells 134 = .ok (.iconst 1, 1) := by decide +kernel
theorem d_Pt_tells_135 : decode b_Pt_tells 135 = .ok (.ireturn, 1) := by decide +kernel
theorem d_Sg_init_0 : decode b_Sg_init 0 = .ok (.aload_n 0, 1) := by decide +kernel
theorem d_Sg_init_1 : decode b_Sg_init 1 = .ok (.invokespecial 1, 3) := by decide +kernel
theorem d_Sg_init_4 : decode b_Sg_init 4 = .ok (.aload_n 0, 1) := by decide +kernel
theorem d_Sg_init_5 : decode b_Sg_init 5 = .ok (.aload_n 1, 1) := by decide +kernel
theorem d_Sg_init_6 : decode b_Sg_init 6 = .ok (.putfield 7, 3) := by decide +kernel
theorem d_Sg_init_9 : decode b_Sg_init 9 = .ok (.aload_n 0, 1) := by decide +kernel
theorem d_Sg_init_10 : decode b_Sg_init 10 = .ok (.aload_n 2, 1) := by decide +kernel
theorem d_Sg_init_11 : decode b_Sg_init 11 = .ok (.putfield 13, 3) := by decide +kernel
theorem d_Sg_init_14 : decode b_Sg_init 14 = .ok (.aload_n 0, 1) := by decide +kernel
theorem d_Sg_init_15 : decode b_Sg_init 15 = .ok (.lload_n 3, 1) := by decide +kernel
theorem d_Sg_init_16 : decode b_Sg_init 16 = .ok (.putfield 17, 3) := by decide +kernel
theorem d_Sg_init_19 : decode b_Sg_init 19 = .ok (.aload_n 0, 1) := by decide +kernel
theorem d_Sg_init_20 : decode b_Sg_init 20 = .ok (.lload 5, 2) := by decide +kernel
theorem d_Sg_init_22 : decode b_Sg_init 22 = .ok (.putfield 21, 3) := by decide +kernel
theorem d_Sg_init_25 : decode b_Sg_init 25 = .ok (.return_, 1) := by decide +kernel
theorem d_Sg_around_0 : decode b_Sg_around 0 = .ok (.aload_n 0, 1) := by decide +kernel
theorem d_Sg_around_1 : decode b_Sg_around 1 = .ok (.astore_n 2, 1) := by decide +kernel
theorem d_Sg_around_2 : decode b_Sg_around 2 = .ok (.aload_n 2, 1) := by decide +kernel
theorem d_Sg_around_3 : decode b_Sg_around 3 = .ok (.ifnull 21, 3) := by decide +kernel
theorem d_Sg_around_6 : decode b_Sg_around 6 = .ok (.aload_n 2, 1) := by decide +kernel
theorem d_Sg_around_7 : decode b_Sg_around 7 = .ok (.getfield 7, 3) := by decide +kernel
theorem d_Sg_around_10 : decode b_Sg_around 10 = .ok (.aload_n 1, 1) := by decide +kernel
theorem d_Sg_around_11 : decode b_Sg_around 11 = .ok (.if_acmp .ne 5, 3) := by decide +kernel
theorem d_Sg_around_14 : decode b_Sg_around 14 = .ok (.aload_n 2, 1) := by decide +kernel
theorem d_Sg_around_15 : decode b_Sg_around 15 = .ok (.areturn, 1) := by decide +kernel
theorem d_Sg_around_16 : decode b_Sg_around 16 = .ok (.aload_n 2, 1) := by decide +kernel
theorem d_Sg_around_17 : decode b_Sg_around 17 = .ok (.getfield 13, 3) := by decide +kernel
theorem d_Sg_around_20 : decode b_Sg_around 20 = .ok (.astore_n 2, 1) := by decide +kernel
theorem d_Sg_around_21 : decode b_Sg_around 21 = .ok (.goto (-19), 3) := by decide +kernel
theorem d_Sg_around_24 : decode b_Sg_around 24 = .ok (.aconst_null, 1) := by decide +kernel
theorem d_Sg_around_25 : decode b_Sg_around 25 = .ok (.areturn, 1) := by decide +kernel
theorem d_Sg_isOrLiesIn_0 : decode b_Sg_isOrLiesIn 0 = .ok (.aload_n 0, 1) := by decide +kernel
theorem d_Sg_isOrLiesIn_1 : decode b_Sg_isOrLiesIn 1 = .ok (.astore_n 2, 1) := by decide +kernel
theorem d_Sg_isOrLiesIn_2 : decode b_Sg_isOrLiesIn 2 = .ok (.aload_n 2, 1) := by decide +kernel
theorem d_Sg_isOrLiesIn_3 : decode b_Sg_isOrLiesIn 3 = .ok (.ifnull 18, 3) := by decide +kernel
theorem d_Sg_isOrLiesIn_6 : decode b_Sg_isOrLiesIn 6 = .ok (.aload_n 2, 1) := by decide +kernel
theorem d_Sg_isOrLiesIn_7 : decode b_Sg_isOrLiesIn 7 = .ok (.aload_n 1, 1) := by decide +kernel
theorem d_Sg_isOrLiesIn_8 : decode b_Sg_isOrLiesIn 8 = .ok (.if_acmp .ne 5, 3) := by decide +kernel
theorem d_Sg_isOrLiesIn_11 : decode b_Sg_isOrLiesIn 11 = .ok (.iconst 1, 1) := by decide +kernel
theorem d_Sg_isOrLiesIn_12 : decode b_Sg_isOrLiesIn 12 = .ok (.ireturn, 1) := by decide +kernel
theorem d_Sg_isOrLiesIn_13 : decode b_Sg_isOrLiesIn 13 = .ok (.aload_n 2, 1) := by decide +kernel
theorem d_Sg_isOrLiesIn_14 : decode b_Sg_isOrLiesIn 14 = .ok (.getfield 13, 3) := by decide +kernel
theorem d_Sg_isOrLiesIn_17 : decode b_Sg_isOrLiesIn 17 = .ok (.astore_n 2, 1) := by decide +kernel
theorem d_Sg_isOrLiesIn_18 : decode b_Sg_isOrLiesIn 18 = .ok (.goto (-16), 3) := by decide +kernel
theorem d_Sg_isOrLiesIn_21 : decode b_Sg_isOrLiesIn 21 = .ok (.iconst 0, 1) := by decide +kernel
theorem d_Sg_isOrLiesIn_22 : decode b_Sg_isOrLiesIn 22 = .ok (.ireturn, 1) := by decide +kernel
theorem d_Sg_isTwinOf_0 : decode b_Sg_isTwinOf 0 = .ok (.aload_n 0, 1) := by decide +kernel
theorem d_Sg_isTwinOf_1 : decode b_Sg_isTwinOf 1 = .ok (.getfield 7, 3) := by decide +kernel
theorem d_Sg_isTwinOf_4 : decode b_Sg_isTwinOf 4 = .ok (.aload_n 1, 1) := by decide +kernel
theorem d_Sg_isTwinOf_5 : decode b_Sg_isTwinOf 5 = .ok (.getfield 7, 3) := by decide +kernel
theorem d_Sg_isTwinOf_8 : decode b_Sg_isTwinOf 8 = .ok (.if_acmp .ne 18, 3) := by decide +kernel
theorem d_Sg_isTwinOf_11 : decode b_Sg_isTwinOf 11 = .ok (.aload_n 0, 1) := by decide +kernel
theorem d_Sg_isTwinOf_12 : decode b_Sg_isTwinOf 12 = .ok (.getfield 13, 3) := by decide +kernel
theorem d_Sg_isTwinOf_15 : decode b_Sg_isTwinOf 15 = .ok (.aload_n 1, 1) := by decide +kernel
theorem d_Sg_isTwinOf_16 : decode b_Sg_isTwinOf 16 = .ok (.getfield 13, 3) := by decide +kernel
theorem d_Sg_isTwinOf_19 : decode b_Sg_isTwinOf 19 = .ok (.if_acmp .ne 7, 3) := by decide +kernel
theorem d_Sg_isTwinOf_22 : decode b_Sg_isTwinOf 22 = .ok (.iconst 1, 1) := by decide +kernel
theorem d_Sg_isTwinOf_23 : decode b_Sg_isTwinOf 23 = .ok (.goto 4, 3) := by decide +kernel
theorem d_Sg_isTwinOf_26 : decode b_Sg_isTwinOf 26 = .ok (.iconst 0, 1) := by decide +kernel
theorem d_Sg_isTwinOf_27 : decode b_Sg_isTwinOf 27 = .ok (.ireturn, 1) := by decide +kernel
theorem d_Sg_isEqualTwinOf_0 : decode b_Sg_isEqualTwinOf 0 = .ok (.aload_n 0, 1) := by decide +kernel
theorem d_Sg_isEqualTwinOf_1 : decode b_Sg_isEqualTwinOf 1 = .ok (.aload_n 1, 1) := by decide +kernel
theorem d_Sg_isEqualTwinOf_2 : decode b_Sg_isEqualTwinOf 2 = .ok (.invokevirtual 24, 3) := by decide +kernel
theorem d_Sg_isEqualTwinOf_5 : decode b_Sg_isEqualTwinOf 5 = .ok (.ifCond .eq 19, 3) := by decide +kernel
theorem d_Sg_isEqualTwinOf_8 : decode b_Sg_isEqualTwinOf 8 = .ok (.aload_n 0, 1) := by decide +kernel
theorem d_Sg_isEqualTwinOf_9 : decode b_Sg_isEqualTwinOf 9 = .ok (.getfield 17, 3) := by decide +kernel
theorem d_Sg_isEqualTwinOf_12 : decode b_Sg_isEqualTwinOf 12 = .ok (.aload_n 1, 1) := by decide +kernel
theorem d_Sg_isEqualTwinOf_13 : decode b_Sg_isEqualTwinOf 13 = .ok (.getfield 17, 3) := by decide +kernel
theorem d_Sg_isEqualTwinOf_16 : decode b_Sg_isEqualTwinOf 16 = .ok (.lcmp, 1) := by decide +kernel
theorem d_Sg_isEqualTwinOf_17 : decode b_Sg_isEqualTwinOf 17 = .ok (.ifCond .ne 7, 3) := by decide +kernel
theorem d_Sg_isEqualTwinOf_20 : decode b_Sg_isEqualTwinOf 20 = .ok (.iconst 1, 1) := by decide +kernel
theorem d_Sg_isEqualTwinOf_21 : decode b_Sg_isEqualTwinOf 21 = .ok (.goto 4, 3) := by decide +kernel
theorem d_Sg_isEqualTwinOf_24 : decode b_Sg_isEqualTwinOf 24 = .ok (.iconst 0, 1) := by decide +kernel
theorem d_Sg_isEqualTwinOf_25 : decode b_Sg_isEqualTwinOf 25 = .ok (.ireturn, 1) := by decide +kernel
theorem d_Vw_init_0 : decode b_Vw_init 0 = .ok (.aload_n 0, 1) := by decide +kernel
theorem d_Vw_init_1 : decode b_Vw_init 1 = .ok (.invokespecial 1, 3) := by decide +kernel
theorem d_Vw_init_4 : decode b_Vw_init 4 = .ok (.return_, 1) := by decide +kernel
theorem d_Vw_takeHeld_0 : decode b_Vw_takeHeld 0 = .ok (.aload_n 0, 1) := by decide +kernel
theorem d_Vw_takeHeld_1 : decode b_Vw_takeHeld 1 = .ok (.getfield 7, 3) := by decide +kernel
theorem d_Vw_takeHeld_4 : decode b_Vw_takeHeld 4 = .ok (.ifCond .eq 10, 3) := by decide +kernel
theorem d_Vw_takeHeld_7 : decode b_Vw_takeHeld 7 = .ok (.aload_n 0, 1) := by decide +kernel
theorem d_Vw_takeHeld_8 : decode b_Vw_takeHeld 8 = .ok (.getfield 13, 3) := by decide +kernel
theorem d_Vw_takeHeld_11 : decode b_Vw_takeHeld 11 = .ok (.goto 4, 3) := by decide +kernel
theorem d_Vw_takeHeld_14 : decode b_Vw_takeHeld 14 = .ok (.aconst_null, 1) := by decide +kernel
theorem d_Vw_takeHeld_15 : decode b_Vw_takeHeld 15 = .ok (.astore_n 1, 1) := by decide +kernel
theorem d_Vw_takeHeld_16 : decode b_Vw_takeHeld 16 = .ok (.aload_n 0, 1) := by decide +kernel
theorem d_Vw_takeHeld_17 : decode b_Vw_takeHeld 17 = .ok (.iconst 0, 1) := by decide +kernel
theorem d_Vw_takeHeld_18 : decode b_Vw_takeHeld 18 = .ok (.putfield 7, 3) := by decide +kernel
theorem d_Vw_takeHeld_21 : decode b_Vw_takeHeld 21 = .ok (.aload_n 1, 1) := by decide +kernel
theorem d_Vw_takeHeld_22 : decode b_Vw_takeHeld 22 = .ok (.areturn, 1) := by decide +kernel
theorem d_Vw_leave_0 : decode b_Vw_leave 0 = .ok (.aload_n 0, 1) := by decide +kernel
theorem d_Vw_leave_1 : decode b_Vw_leave 1 = .ok (.getfield 13, 3) := by decide +kernel
theorem d_Vw_leave_4 : decode b_Vw_leave 4 = .ok (.aload_n 1, 1) := by decide +kernel
theorem d_Vw_leave_5 : decode b_Vw_leave 5 = .ok (.invokestatic 17, 3) := by decide +kernel
theorem d_Vw_leave_8 : decode b_Vw_leave 8 = .ok (.ifCond .eq 13, 3) := by decide +kernel
theorem d_Vw_leave_11 : decode b_Vw_leave 11 = .ok (.aload_n 0, 1) := by decide +kernel
theorem d_Vw_leave_12 : decode b_Vw_leave 12 = .ok (.aload_n 2, 1) := by decide +kernel
theorem d_Vw_leave_13 : decode b_Vw_leave 13 = .ok (.putfield 13, 3) := by decide +kernel
theorem d_Vw_leave_16 : decode b_Vw_leave 16 = .ok (.aload_n 0, 1) := by decide +kernel
theorem d_Vw_leave_17 : decode b_Vw_leave 17 = .ok (.iconst 0, 1) := by decide +kernel
theorem d_Vw_leave_18 : decode b_Vw_leave 18 = .ok (.putfield 7, 3) := by decide +kernel
theorem d_Vw_leave_21 : decode b_Vw_leave 21 = .ok (.aload_n 0, 1) := by decide +kernel
theorem d_Vw_leave_22 : decode b_Vw_leave 22 = .ok (.getfield 23, 3) := by decide +kernel
theorem d_Vw_leave_25 : decode b_Vw_leave 25 = .ok (.aload_n 1, 1) := by decide +kernel
theorem d_Vw_leave_26 : decode b_Vw_leave 26 = .ok (.invokestatic 17, 3) := by decide +kernel
theorem d_Vw_leave_29 : decode b_Vw_leave 29 = .ok (.ifCond .eq 8, 3) := by decide +kernel
theorem d_Vw_leave_32 : decode b_Vw_leave 32 = .ok (.aload_n 0, 1) := by decide +kernel
theorem d_Vw_leave_33 : decode b_Vw_leave 33 = .ok (.aconst_null, 1) := by decide +kernel
theorem d_Vw_leave_34 : decode b_Vw_leave 34 = .ok (.putfield 23, 3) := by decide +kernel
theorem d_Vw_leave_37 : decode b_Vw_leave 37 = .ok (.return_, 1) := by decide +kernel
