theorem d_PC_init_0 : decode b_PC_init 0 = .ok (.aload_n 0, 1) := by decide +kernel
theorem d_PC_init_1 : decode b_PC_init 1 = .ok (.invokespecial 1, 3) := by decide +kernel
theorem d_PC_init_4 : decode b_PC_init 4 = .ok (.aload_n 0, 1) := by decide +kernel
theorem d_PC_init_5 : decode b_PC_init 5 = .ok (.bipush 20, 2) := by decide +kernel
theorem d_PC_init_7 : decode b_PC_init 7 = .ok (.anewarray 9, 3) := by decide +kernel
theorem d_PC_init_10 : decode b_PC_init 10 = .ok (.putfield 11, 3) := by decide +kernel
theorem d_PC_init_13 : decode b_PC_init 13 = .ok (.aload_n 0, 1) := by decide +kernel
theorem d_PC_init_14 : decode b_PC_init 14 = .ok (.bipush 9, 2) := by decide +kernel
theorem d_PC_init_16 : decode b_PC_init 16 = .ok (.anewarray 15, 3) := by decide +kernel
theorem d_PC_init_19 : decode b_PC_init 19 = .ok (.putfield 17, 3) := by decide +kernel
theorem d_PC_init_22 : decode b_PC_init 22 = .ok (.aload_n 0, 1) := by decide +kernel
theorem d_PC_init_23 : decode b_PC_init 23 = .ok (.bipush 8, 2) := by decide +kernel
theorem d_PC_init_25 : decode b_PC_init 25 = .ok (.anewarray 21, 3) := by decide +kernel
theorem d_PC_init_28 : decode b_PC_init 28 = .ok (.putfield 23, 3) := by decide +kernel
theorem d_PC_init_31 : decode b_PC_init 31 = .ok (.aload_n 0, 1) := by decide +kernel
theorem d_PC_init_32 : decode b_PC_init 32 = .ok (.new 27, 3) := by decide +kernel
theorem d_PC_init_35 : decode b_PC_init 35 = .ok (.dup, 1) := by decide +kernel
theorem d_PC_init_36 : decode b_PC_init 36 = .ok (.invokespecial 29, 3) := by decide +kernel
theorem d_PC_init_39 : decode b_PC_init 39 = .ok (.putfield 30, 3) := by decide +kernel
theorem d_PC_init_42 : decode b_PC_init 42 = .ok (.aload_n 0, 1) := by decide +kernel
theorem d_PC_init_43 : decode b_PC_init 43 = .ok (.bipush 8, 2) := by decide +kernel
theorem d_PC_init_45 : decode b_PC_init 45 = .ok (.newarray .long, 2) := by decide +kernel
theorem d_PC_init_47 : decode b_PC_init 47 = .ok (.putfield 34, 3) := by decide +kernel
theorem d_PC_init_50 : decode b_PC_init 50 = .ok (.iconst 0, 1) := by decide +kernel
theorem d_PC_init_51 : decode b_PC_init 51 = .ok (.istore_n 1, 1) := by decide +kernel
theorem d_PC_init_52 : decode b_PC_init 52 = .ok (.iload_n 1, 1) := by decide +kernel
theorem d_PC_init_53 : decode b_PC_init 53 = .ok (.bipush 8, 2) := by decide +kernel
theorem d_PC_init_55 : decode b_PC_init 55 = .ok (.if_icmp .ge 22, 3) := by decide +kernel
theorem d_PC_init_58 : decode b_PC_init 58 = .ok (.aload_n 0, 1) := by decide +kernel
theorem d_PC_init_59 : decode b_PC_init 59 = .ok (.getfield 23, 3) := by decide +kernel
theorem d_PC_init_62 : decode b_PC_init 62 = .ok (.iload_n 1, 1) := by decide +kernel
theorem d_PC_init_63 : decode b_PC_init 63 = .ok (.new 21, 3) := by decide +kernel
theorem d_PC_init_66 : decode b_PC_init 66 = .ok (.dup, 1) := by decide +kernel
theorem d_PC_init_67 : decode b_PC_init 67 = .ok (.invokespecial 38, 3) := by decide +kernel
theorem d_PC_init_70 : decode b_PC_init 70 = .ok (.aastore, 1) := by decide +kernel
theorem d_PC_init_71 : decode b_PC_init 71 = .ok (.iinc 1 1, 3) := by decide +kernel
theorem d_PC_init_74 : decode b_PC_init 74 = .ok (.goto (-22), 3) := by decide +kernel
theorem d_PC_init_77 : decode b_PC_init 77 = .ok (.return_, 1) := by decide +kernel
theorem d_PC_kind_0 : decode b_PC_kind 0 = .ok (.aload_n 0, 1) := by decide +kernel
theorem d_PC_kind_1 : decode b_PC_kind 1 = .ok (.iload_n 1, 1) := by decide +kernel
theorem d_PC_kind_2 : decode b_PC_kind 2 = .ok (.invokevirtual 39, 3) := by decide +kernel
theorem d_PC_kind_5 : decode b_PC_kind 5 = .ok (.astore_n 3, 1) := by decide +kernel
theorem d_PC_kind_6 : decode b_PC_kind 6 = .ok (.iload_n 1, 1) := by decide +kernel
theorem d_PC_kind_7 : decode b_PC_kind 7 = .ok (.ifCond .ne 14, 3) := by decide +kernel
theorem d_PC_kind_10 : decode b_PC_kind 10 = .ok (.aload_n 0, 1) := by decide +kernel
theorem d_PC_kind_11 : decode b_PC_kind 11 = .ok (.getfield 43, 3) := by decide +kernel
theorem d_PC_kind_14 : decode b_PC_kind 14 = .ok (.ifCond .ne 7, 3) := by decide +kernel
theorem d_PC_kind_17 : decode b_PC_kind 17 = .ok (.iconst 1, 1) := by decide +kernel
theorem d_PC_kind_18 : decode b_PC_kind 18 = .ok (.goto 4, 3) := by decide +kernel
theorem d_PC_kind_21 : decode b_PC_kind 21 = .ok (.iconst 0, 1) := by decide +kernel
theorem d_PC_kind_22 : decode b_PC_kind 22 = .ok (.istore 4, 2) := by decide +kernel
theorem d_PC_kind_24 : decode b_PC_kind 24 = .ok (.aload_n 3, 1) := by decide +kernel
theorem d_PC_kind_25 : decode b_PC_kind 25 = .ok (.ifnonnull 10, 3) := by decide +kernel
theorem d_PC_kind_28 : decode b_PC_kind 28 = .ok (.iload 4, 2) := by decide +kernel
theorem d_PC_kind_30 : decode b_PC_kind 30 = .ok (.ifCond .ne 5, 3) := by decide +kernel
theorem d_PC_kind_33 : decode b_PC_kind 33 = .ok (.iconst (-1), 1) := by decide +kernel
theorem d_PC_kind_34 : decode b_PC_kind 34 = .ok (.ireturn, 1) := by decide +kernel
theorem d_PC_kind_35 : decode b_PC_kind 35 = .ok (.aload_n 0, 1) := by decide +kernel
theorem d_PC_kind_36 : decode b_PC_kind 36 = .ok (.getfield 43, 3) := by decide +kernel
theorem d_PC_kind_39 : decode b_PC_kind 39 = .ok (.bipush 20, 2) := by decide +kernel
theorem d_PC_kind_41 : decode b_PC_kind 41 = .ok (.if_icmp .ge 16, 3) := by decide +kernel
theorem d_PC_kind_44 : decode b_PC_kind 44 = .ok (.aload_n 3, 1) := by decide +kernel
theorem d_PC_kind_45 : decode b_PC_kind 45 = .ok (.ifnull 14, 3) := by decide +kernel
theorem d_PC_kind_48 : decode b_PC_kind 48 = .ok (.aload_n 3, 1) := by decide +kernel
theorem d_PC_kind_49 : decode b_PC_kind 49 = .ok (.getfield 47, 3) := by decide +kernel
theorem d_PC_kind_52 : decode b_PC_kind 52 = .ok (.bipush 8, 2) := by decide +kernel
theorem d_PC_kind_54 : decode b_PC_kind 54 = .ok (.if_icmp .lt 5, 3) := by decide +kernel
theorem d_PC_kind_57 : decode b_PC_kind 57 = .ok (.iconst (-1), 1) := by decide +kernel
theorem d_PC_kind_58 : decode b_PC_kind 58 = .ok (.ireturn, 1) := by decide +kernel
theorem d_PC_kind_59 : decode b_PC_kind 59 = .ok (.aload_n 0, 1) := by decide +kernel
theorem d_PC_kind_60 : decode b_PC_kind 60 = .ok (.getfield 11, 3) := by decide +kernel
theorem d_PC_kind_63 : decode b_PC_kind 63 = .ok (.aload_n 0, 1) := by decide +kernel
theorem d_PC_kind_64 : decode b_PC_kind 64 = .ok (.getfield 43, 3) := by decide +kernel
theorem d_PC_kind_67 : decode b_PC_kind 67 = .ok (.new 9, 3) := by decide +kernel
theorem d_PC_kind_70 : decode b_PC_kind 70 = .ok (.dup, 1) := by decide +kernel
theorem d_PC_kind_71 : decode b_PC_kind 71 = .ok (.aload_n 0, 1) := by decide +kernel
theorem d_PC_kind_72 : decode b_PC_kind 72 = .ok (.getfield 43, 3) := by decide +kernel
theorem d_PC_kind_75 : decode b_PC_kind 75 = .ok (.iconst 1, 1) := by decide +kernel
theorem d_PC_kind_76 : decode b_PC_kind 76 = .ok (.iadd, 1) := by decide +kernel
theorem d_PC_kind_77 : decode b_PC_kind 77 = .ok (.aload_n 3, 1) := by decide +kernel
theorem d_PC_kind_78 : decode b_PC_kind 78 = .ok (.iload_n 2, 1) := by decide +kernel
theorem d_PC_kind_79 : decode b_PC_kind 79 = .ok (.invokespecial 50, 3) := by decide +kernel
theorem d_PC_kind_82 : decode b_PC_kind 82 = .ok (.aastore, 1) := by decide +kernel
theorem d_PC_kind_83 : decode b_PC_kind 83 = .ok (.aload_n 0, 1) := by decide +kernel
theorem d_PC_kind_84 : decode b_PC_kind 84 = .ok (.dup, 1) := by decide +kernel
theorem d_PC_kind_85 : decode b_PC_kind 85 = .ok (.getfield 43, 3) := by decide +kernel
theorem d_PC_kind_88 : decode b_PC_kind 88 = .ok (.iconst 1, 1) := by decide +kernel
theorem d_PC_kind_89 : decode b_PC_kind 89 = .ok (.iadd, 1) := by decide +kernel
theorem d_PC_kind_90 : decode b_PC_kind 90 = .ok (.putfield 43, 3) := by decide +kernel
theorem d_PC_kind_93 : decode b_PC_kind 93 = .ok (.aload_n 0, 1) := by decide +kernel
theorem d_PC_kind_94 : decode b_PC_kind 94 = .ok (.getfield 43, 3) := by decide +kernel
theorem d_PC_kind_97 : decode b_PC_kind 97 = .ok (.ireturn, 1) := by decide +kernel
theorem d_PC_view_0 : decode b_PC_view 0 = .ok (.aload_n 0, 1) := by decide +kernel
theorem d_PC_view_1 : decode b_PC_view 1 = .ok (.getfield 53, 3) := by decide +kernel
theorem d_PC_view_4 : decode b_PC_view 4 = .ok (.bipush 9, 2) := by decide +kernel
theorem d_PC_view_6 : decode b_PC_view 6 = .ok (.if_icmp .lt 5, 3) := by decide +kernel
theorem d_PC_view_9 : decode b_PC_view 9 = .ok (.iconst (-1), 1) := by decide +kernel
theorem d_PC_view_10 : decode b_PC_view 10 = .ok (.ireturn, 1) := by decide +kernel
theorem d_PC_view_11 : decode b_PC_view 11 = .ok (.aload_n 0, 1) := by decide +kernel
theorem d_PC_view_12 : decode b_PC_view 12 = .ok (.getfield 17, 3) := by decide +kernel
theorem d_PC_view_15 : decode b_PC_view 15 = .ok (.aload_n 0, 1) := by decide +kernel
theorem d_PC_view_16 : decode b_PC_view 16 = .ok (.getfield 53, 3) := by decide +kernel
theorem d_PC_view_19 : decode b_PC_view 19 = .ok (.new 15, 3) := by decide +kernel
theorem d_PC_view_22 : decode b_PC_view 22 = .ok (.dup, 1) := by decide +kernel
theorem d_PC_view_23 : decode b_PC_view 23 = .ok (.invokespecial 56, 3) := by decide +kernel
theorem d_PC_view_26 : decode b_PC_view 26 = .ok (.aastore, 1) := by decide +kernel
theorem d_PC_view_27 : decode b_PC_view 27 = .ok (.aload_n 0, 1) := by decide +kernel
theorem d_PC_view_28 : decode b_PC_view 28 = .ok (.dup, 1) := by decide +kernel
theorem d_PC_view_29 : decode b_PC_view 29 = .ok (.getfield 53, 3) := by decide +kernel
theorem d_PC_view_32 : decode b_PC_view 32 = .ok (.iconst 1, 1) := by decide +kernel
theorem d_PC_view_33 : decode b_PC_view 33 = .ok (.iadd, 1) := by decide +kernel
theorem d_PC_view_34 : decode b_PC_view 34 = .ok (.putfield 53, 3) := by decide +kernel
theorem d_PC_view_37 : decode b_PC_view 37 = .ok (.aload_n 0, 1) := by decide +kernel
theorem d_PC_view_38 : decode b_PC_view 38 = .ok (.getfield 53, 3) := by decide +kernel
theorem d_PC_view_41 : decode b_PC_view 41 = .ok (.ireturn, 1) := by decide +kernel
theorem d_PC_part_0 : decode b_PC_part 0 = .ok (.aload_n 0, 1) := by decide +kernel
theorem d_PC_part_1 : decode b_PC_part 1 = .ok (.iload_n 1, 1) := by decide +kernel
theorem d_PC_part_2 : decode b_PC_part 2 = .ok (.invokevirtual 39, 3) := by decide +kernel
theorem d_PC_part_5 : decode b_PC_part 5 = .ok (.astore 5, 2) := by decide +kernel
theorem d_PC_part_7 : decode b_PC_part 7 = .ok (.aload 5, 2) := by decide +kernel
theorem d_PC_part_9 : decode b_PC_part 9 = .ok (.ifnull 22, 3) := by decide +kernel
theorem d_PC_part_12 : decode b_PC_part 12 = .ok (.iload_n 2, 1) := by decide +kernel
theorem d_PC_part_13 : decode b_PC_part 13 = .ok (.ifCond .lt 18, 3) := by decide +kernel
theorem d_PC_part_16 : decode b_PC_part 16 = .ok (.iload_n 2, 1) := by decide +kernel
theorem d_PC_part_17 : decode b_PC_part 17 = .ok (.bipush 6, 2) := by decide +kernel
theorem d_PC_part_19 : decode b_PC_part 19 = .ok (.if_icmp .gt 12, 3) := by decide +kernel
theorem d_PC_part_22 : decode b_PC_part 22 = .ok (.aload_n 0, 1) := by decide +kernel
theorem d_PC_part_23 : decode b_PC_part 23 = .ok (.getfield 57, 3) := by decide +kernel
theorem d_PC_part_26 : decode b_PC_part 26 = .ok (.bipush 8, 2) := by decide +kernel
theorem d_PC_part_28 : decode b_PC_part 28 = .ok (.if_icmp .lt 5, 3) := by decide +kernel
theorem d_PC_part_31 : decode b_PC_part 31 = .ok (.iconst (-1), 1) := by decide +kernel
theorem d_PC_part_32 : decode b_PC_part 32 = .ok (.ireturn, 1) := by decide +kernel
theorem d_PC_part_33 : decode b_PC_part 33 = .ok (.aload_n 0, 1) := by decide +kernel
theorem d_PC_part_34 : decode b_PC_part 34 = .ok (.getfield 23, 3) := by decide +kernel
theorem d_PC_part_37 : decode b_PC_part 37 = .ok (.aload_n 0, 1) := by decide +kernel
theorem d_PC_part_38 : decode b_PC_part 38 = .ok (.getfield 57, 3) := by decide +kernel
theorem d_PC_part_41 : decode b_PC_part 41 = .ok (.aaload, 1) := by decide +kernel
theorem d_PC_part_42 : decode b_PC_part 42 = .ok (.aload 5, 2) := by decide +kernel
theorem d_PC_part_44 : decode b_PC_part 44 = .ok (.iload_n 2, 1) := by decide +kernel
theorem d_PC_part_45 : decode b_PC_part 45 = .ok (.lload_n 3, 1) := by decide +kernel
theorem d_PC_part_46 : decode b_PC_part 46 = .ok (.invokevirtual 60, 3) := by decide +kernel
theorem d_PC_part_49 : decode b_PC_part 49 = .ok (.aload_n 0, 1) := by decide +kernel
theorem d_PC_part_50 : decode b_PC_part 50 = .ok (.dup, 1) := by decide +kernel
theorem d_PC_part_51 : decode b_PC_part 51 = .ok (.getfield 57, 3) := by decide +kernel
theorem d_PC_part_54 : decode b_PC_part 54 = .ok (.iconst 1, 1) := by decide +kernel
theorem d_PC_part_55 : decode b_PC_part 55 = .ok (.iadd, 1) := by decide +kernel
theorem d_PC_part_56 : decode b_PC_part 56 = .ok (.putfield 57, 3) := by decide +kernel
theorem d_PC_part_59 : decode b_PC_part 59 = .ok (.aload_n 0, 1) := by decide +kernel
theorem d_PC_part_60 : decode b_PC_part 60 = .ok (.getfield 57, 3) := by decide +kernel
theorem d_PC_part_63 : decode b_PC_part 63 = .ok (.ireturn, 1) := by decide +kernel
theorem d_PC_code_0 : decode b_PC_code 0 = .ok (.iload_n 1, 1) := by decide +kernel
theorem d_PC_code_1 : decode b_PC_code 1 = .ok (.iconst 1, 1) := by decide +kernel
theorem d_PC_code_2 : decode b_PC_code 2 = .ok (.if_icmp .lt 21, 3) := by decide +kernel
theorem d_PC_code_5 : decode b_PC_code 5 = .ok (.iload_n 1, 1) := by decide +kernel
theorem d_PC_code_6 : decode b_PC_code 6 = .ok (.aload_n 0, 1) := by decide +kernel
theorem d_PC_code_7 : decode b_PC_code 7 = .ok (.getfield 57, 3) := by decide +kernel
theorem d_PC_code_10 : decode b_PC_code 10 = .ok (.if_icmp .gt 13, 3) := by decide +kernel
theorem d_PC_code_13 : decode b_PC_code 13 = .ok (.iload_n 2, 1) := by decide +kernel
theorem d_PC_code_14 : decode b_PC_code 14 = .ok (.ifCond .lt 9, 3) := by decide +kernel
theorem d_PC_code_17 : decode b_PC_code 17 = .ok (.iload_n 2, 1) := by decide +kernel
theorem d_PC_code_18 : decode b_PC_code 18 = .ok (.bipush 15, 2) := by decide +kernel
theorem d_PC_code_20 : decode b_PC_code 20 = .ok (.if_icmp .le 5, 3) := by decide +kernel
theorem d_PC_code_23 : decode b_PC_code 23 = .ok (.iconst (-1), 1) := by decide +kernel
theorem d_PC_code_24 : decode b_PC_code 24 = .ok (.ireturn, 1) := by decide +kernel
theorem d_PC_code_25 : decode b_PC_code 25 = .ok (.aload_n 0, 1) := by decide +kernel
theorem d_PC_code_26 : decode b_PC_code 26 = .ok (.getfield 23, 3) := by decide +kernel
theorem d_PC_code_29 : decode b_PC_code 29 = .ok (.iload_n 1, 1) := by decide +kernel
theorem d_PC_code_30 : decode b_PC_code 30 = .ok (.iconst 1, 1) := by decide +kernel
theorem d_PC_code_31 : decode b_PC_code 31 = .ok (.isub, 1) := by decide +kernel
theorem d_PC_code_32 : decode b_PC_code 32 = .ok (.aaload, 1) := by decide +kernel
theorem d_PC_code_33 : decode b_PC_code 33 = .ok (.astore_n 3, 1) := by decide +kernel
theorem d_PC_code_34 : decode b_PC_code 34 = .ok (.aload_n 3, 1) := by decide +kernel
theorem d_PC_code_35 : decode b_PC_code 35 = .ok (.getfield 64, 3) := by decide +kernel
theorem d_PC_code_38 : decode b_PC_code 38 = .ok (.istore 4, 2) := by decide +kernel
theorem d_PC_code_40 : decode b_PC_code 40 = .ok (.aload_n 3, 1) := by decide +kernel
theorem d_PC_code_41 : decode b_PC_code 41 = .ok (.iload_n 2, 1) := by decide +kernel
theorem d_PC_code_42 : decode b_PC_code 42 = .ok (.putfield 64, 3) := by decide +kernel
theorem d_PC_code_45 : decode b_PC_code 45 = .ok (.iload 4, 2) := by decide +kernel
theorem d_PC_code_47 : decode b_PC_code 47 = .ok (.ireturn, 1) := by decide +kernel
theorem d_PC_get_0 : decode b_PC_get 0 = .ok (.aload_n 0, 1) := by decide +kernel
theorem d_PC_get_1 : decode b_PC_get 1 = .ok (.iload_n 1, 1) := by decide +kernel
theorem d_PC_get_2 : decode b_PC_get 2 = .ok (.invokevirtual 67, 3) := by decide +kernel
theorem d_PC_get_5 : decode b_PC_get 5 = .ok (.astore_n 3, 1) := by decide +kernel
theorem d_PC_get_6 : decode b_PC_get 6 = .ok (.aload_n 3, 1) := by decide +kernel
theorem d_PC_get_7 : decode b_PC_get 7 = .ok (.ifnonnull 5, 3) := by decide +kernel
theorem d_PC_get_10 : decode b_PC_get 10 = .ok (.iconst (-1), 1) := by decide +kernel
theorem d_PC_get_11 : decode b_PC_get 11 = .ok (.ireturn, 1) := by decide +kernel
theorem d_PC_get_12 : decode b_PC_get 12 = .ok (.aload_n 0, 1) := by decide +kernel
theorem d_PC_get_13 : decode b_PC_get 13 = .ok (.invokevirtual 71, 3) := by decide +kernel
theorem d_PC_get_16 : decode b_PC_get 16 = .ok (.istore 4, 2) := by decide +kernel
theorem d_PC_get_18 : decode b_PC_get 18 = .ok (.aload_n 3, 1) := by decide +kernel
theorem d_PC_get_19 : decode b_PC_get 19 = .ok (.iconst 0, 1) := by decide +kernel
theorem d_PC_get_20 : decode b_PC_get 20 = .ok (.putfield 75, 3) := by decide +kernel
theorem d_PC_get_23 : decode b_PC_get 23 = .ok (.iload_n 2, 1) := by decide +kernel
theorem d_PC_get_24 : decode b_PC_get 24 = .ok (.iconst 4, 1) := by decide +kernel
theorem d_PC_get_25 : decode b_PC_get 25 = .ok (.if_icmp .lt 7, 3) := by decide +kernel
theorem d_PC_get_28 : decode b_PC_get 28 = .ok (.iconst 1, 1) := by decide +kernel
theorem d_PC_get_29 : decode b_PC_get 29 = .ok (.goto 4, 3) := by decide +kernel
theorem d_PC_get_32 : decode b_PC_get 32 = .ok (.iconst 0, 1) := by decide +kernel
theorem d_PC_get_33 : decode b_PC_get 33 = .ok (.istore 5, 2) := by decide +kernel
theorem d_PC_get_35 : decode b_PC_get 35 = .ok (.iload 5, 2) := by decide +kernel
theorem d_PC_get_37 : decode b_PC_get 37 = .ok (.ifCond .eq 9, 3) := by decide +kernel
theorem d_PC_get_40 : decode b_PC_get 40 = .ok (.iload_n 2, 1) := by decide +kernel
theorem d_PC_get_41 : decode b_PC_get 41 = .ok (.iconst 4, 1) := by decide +kernel
theorem d_PC_get_42 : decode b_PC_get 42 = .ok (.isub, 1) := by decide +kernel
theorem d_PC_get_43 : decode b_PC_get 43 = .ok (.goto 4, 3) := by decide +kernel
theorem d_PC_get_46 : decode b_PC_get 46 = .ok (.iload_n 2, 1) := by decide +kernel
theorem d_PC_get_47 : decode b_PC_get 47 = .ok (.istore 6, 2) := by decide +kernel
theorem d_PC_get_49 : decode b_PC_get 49 = .ok (.iload 6, 2) := by decide +kernel
theorem d_PC_get_51 : decode b_PC_get 51 = .ok (.ifCond .lt 18, 3) := by decide +kernel
theorem d_PC_get_54 : decode b_PC_get 54 = .ok (.iload 6, 2) := by decide +kernel
theorem d_PC_get_56 : decode b_PC_get 56 = .ok (.iconst 2, 1) := by decide +kernel
theorem d_PC_get_57 : decode b_PC_get 57 = .ok (.if_icmp .gt 12, 3) := by decide +kernel
theorem d_PC_get_60 : decode b_PC_get 60 = .ok (.aload_n 0, 1) := by decide +kernel
theorem d_PC_get_61 : decode b_PC_get 61 = .ok (.iload 4, 2) := by decide +kernel
theorem d_PC_get_63 : decode b_PC_get 63 = .ok (.invokevirtual 79, 3) := by decide +kernel
theorem d_PC_get_66 : decode b_PC_get 66 = .ok (.ifCond .ne 6, 3) := by decide +kernel
theorem d_PC_get_69 : decode b_PC_get 69 = .ok (.bipush 6, 2) := by decide +kernel
theorem d_PC_get_71 : decode b_PC_get 71 = .ok (.ireturn, 1) := by decide +kernel
theorem d_PC_get_72 : decode b_PC_get 72 = .ok (.iload 6, 2) := by decide +kernel
theorem d_PC_get_74 : decode b_PC_get 74 = .ok (.iconst 2, 1) := by decide +kernel
theorem d_PC_get_75 : decode b_PC_get 75 = .ok (.if_icmp .ne 12, 3) := by decide +kernel
theorem d_PC_get_78 : decode b_PC_get 78 = .ok (.aload_n 3, 1) := by decide +kernel
theorem d_PC_get_79 : decode b_PC_get 79 = .ok (.getfield 83, 3) := by decide +kernel
theorem d_PC_get_82 : decode b_PC_get 82 = .ok (.ifnonnull 5, 3) := by decide +kernel
theorem d_PC_get_85 : decode b_PC_get 85 = .ok (.iconst 5, 1) := by decide +kernel
theorem d_PC_get_86 : decode b_PC_get 86 = .ok (.ireturn, 1) := by decide +kernel
theorem d_PC_get_87 : decode b_PC_get 87 = .ok (.aload_n 0, 1) := by decide +kernel
theorem d_PC_get_88 : decode b_PC_get 88 = .ok (.aload_n 3, 1) := by decide +kernel
theorem d_PC_get_89 : decode b_PC_get 89 = .ok (.iload 6, 2) := by decide +kernel
theorem d_PC_get_91 : decode b_PC_get 91 = .ok (.iload 4, 2) := by decide +kernel
theorem d_PC_get_93 : decode b_PC_get 93 = .ok (.invokevirtual 87, 3) := by decide +kernel
theorem d_PC_get_96 : decode b_PC_get 96 = .ok (.astore 7, 2) := by decide +kernel
theorem d_PC_get_98 : decode b_PC_get 98 = .ok (.aload 7, 2) := by decide +kernel
theorem d_PC_get_100 : decode b_PC_get 100 = .ok (.ifnonnull 10, 3) := by decide +kernel
theorem d_PC_get_103 : decode b_PC_get 103 = .ok (.aload_n 3, 1) := by decide +kernel
theorem d_PC_get_104 : decode b_PC_get 104 = .ok (.iload 6, 2) := by decide +kernel
theorem d_PC_get_106 : decode b_PC_get 106 = .ok (.invokestatic 91, 3) := by decide +kernel
theorem d_PC_get_109 : decode b_PC_get 109 = .ok (.ireturn, 1) := by decide +kernel
theorem d_PC_get_110 : decode b_PC_get 110 = .ok (.iload 6, 2) := by decide +kernel
theorem d_PC_get_112 : decode b_PC_get 112 = .ok (.iconst 1, 1) := by decide +kernel
theorem d_PC_get_113 : decode b_PC_get 113 = .ok (.if_icmp .ne 20, 3) := by decide +kernel
theorem d_PC_get_116 : decode b_PC_get 116 = .ok (.iload 4, 2) := by decide +kernel
theorem d_PC_get_118 : decode b_PC_get 118 = .ok (.ifCond .ne 15, 3) := by decide +kernel
theorem d_PC_get_121 : decode b_PC_get 121 = .ok (.aload_n 3, 1) := by decide +kernel
theorem d_PC_get_122 : decode b_PC_get 122 = .ok (.getfield 95, 3) := by decide +kernel
theorem d_PC_get_125 : decode b_PC_get 125 = .ok (.aload 7, 2) := by decide +kernel
theorem d_PC_get_127 : decode b_PC_get 127 = .ok (.invokestatic 98, 3) := by decide +kernel
theorem d_PC_get_130 : decode b_PC_get 130 = .ok (.goto 4, 3) := by decide +kernel
theorem d_PC_get_133 : decode b_PC_get 133 = .ok (.iconst 0, 1) := by decide +kernel
theorem d_PC_get_134 : decode b_PC_get 134 = .ok (.istore 8, 2) := by decide +kernel
theorem d_PC_get_136 : decode b_PC_get 136 = .ok (.aload_n 0, 1) := by decide +kernel
theorem d_PC_get_137 : decode b_PC_get 137 = .ok (.aload 7, 2) := by decide +kernel
theorem d_PC_get_139 : decode b_PC_get 139 = .ok (.iload 4, 2) := by decide +kernel
theorem d_PC_get_141 : decode b_PC_get 141 = .ok (.invokevirtual 102, 3) := by decide +kernel
theorem d_PC_get_144 : decode b_PC_get 144 = .ok (.aload_n 3, 1) := by decide +kernel
theorem d_PC_get_145 : decode b_PC_get 145 = .ok (.aload_n 0, 1) := by decide +kernel
theorem d_PC_get_146 : decode b_PC_get 146 = .ok (.aload_n 3, 1) := by decide +kernel
theorem d_PC_get_147 : decode b_PC_get 147 = .ok (.iload 6, 2) := by decide +kernel
theorem d_PC_get_149 : decode b_PC_get 149 = .ok (.aload 7, 2) := by decide +kernel
theorem d_PC_get_151 : decode b_PC_get 151 = .ok (.iload 4, 2) := by decide +kernel
theorem d_PC_get_153 : decode b_PC_get 153 = .ok (.invokevirtual 106, 3) := by decide +kernel
theorem d_PC_get_156 : decode b_PC_get 156 = .ok (.putfield 83, 3) := by decide +kernel
theorem d_PC_get_159 : decode b_PC_get 159 = .ok (.aload_n 3, 1) := by decide +kernel
theorem d_PC_get_160 : decode b_PC_get 160 = .ok (.aload 7, 2) := by decide +kernel
theorem d_PC_get_162 : decode b_PC_get 162 = .ok (.putfield 95, 3) := by decide +kernel
theorem d_PC_get_165 : decode b_PC_get 165 = .ok (.aload_n 3, 1) := by decide +kernel
theorem d_PC_get_166 : decode b_PC_get 166 = .ok (.iload 5, 2) := by decide +kernel
theorem d_PC_get_168 : decode b_PC_get 168 = .ok (.putfield 75, 3) := by decide +kernel
theorem d_PC_get_171 : decode b_PC_get 171 = .ok (.iload 8, 2) := by decide +kernel
theorem d_PC_get_173 : decode b_PC_get 173 = .ok (.ireturn, 1) := by decide +kernel
theorem d_PC_segment_0 : decode b_PC_segment 0 = .ok (.iload_n 1, 1) := by decide +kernel
theorem d_PC_segment_1 : decode b_PC_segment 1 = .ok (.iconst 1, 1) := by decide +kernel
theorem d_PC_segment_2 : decode b_PC_segment 2 = .ok (.if_icmp .lt 20, 3) := by decide +kernel
theorem d_PC_segment_5 : decode b_PC_segment 5 = .ok (.iload_n 1, 1) := by decide +kernel
theorem d_PC_segment_6 : decode b_PC_segment 6 = .ok (.bipush 8, 2) := by decide +kernel
theorem d_PC_segment_8 : decode b_PC_segment 8 = .ok (.if_icmp .gt 14, 3) := by decide +kernel
theorem d_PC_segment_11 : decode b_PC_segment 11 = .ok (.aload_n 0, 1) := by decide +kernel
theorem d_PC_segment_12 : decode b_PC_segment 12 = .ok (.getfield 34, 3) := by decide +kernel
theorem d_PC_segment_15 : decode b_PC_segment 15 = .ok (.iload_n 1, 1) := by decide +kernel
theorem d_PC_segment_16 : decode b_PC_segment 16 = .ok (.iconst 1, 1) := by decide +kernel
theorem d_PC_segment_17 : decode b_PC_segment 17 = .ok (.isub, 1) := by decide +kernel
theorem d_PC_segment_18 : decode b_PC_segment 18 = .ok (.laload, 1) := by decide +kernel
theorem d_PC_segment_19 : decode b_PC_segment 19 = .ok (.goto 4, 3) := by decide +kernel
theorem d_PC_segment_22 : decode b_PC_segment 22 = .ok (.lconst 0, 1) := by decide +kernel
theorem d_PC_segment_23 : decode b_PC_segment 23 = .ok (.lreturn, 1) := by decide +kernel
theorem d_PC_insert_0 : decode b_PC_insert 0 = .ok (.aload_n 0, 1) := by decide +kernel
theorem d_PC_insert_1 : decode b_PC_insert 1 = .ok (.iload_n 1, 1) := by decide +kernel
theorem d_PC_insert_2 : decode b_PC_insert 2 = .ok (.invokevirtual 67, 3) := by decide +kernel
theorem d_PC_insert_5 : decode b_PC_insert 5 = .ok (.astore 6, 2) := by decide +kernel
theorem d_PC_insert_7 : decode b_PC_insert 7 = .ok (.aload 6, 2) := by decide +kernel
theorem d_PC_insert_9 : decode b_PC_insert 9 = .ok (.ifnull 13, 3) := by decide +kernel
theorem d_PC_insert_12 : decode b_PC_insert 12 = .ok (.aload_n 0, 1) := by decide +kernel
theorem d_PC_insert_13 : decode b_PC_insert 13 = .ok (.getfield 30, 3) := by decide +kernel
theorem d_PC_insert_16 : decode b_PC_insert 16 = .ok (.invokevirtual 110, 3) := by decide +kernel
theorem d_PC_insert_19 : decode b_PC_insert 19 = .ok (.ifCond .eq 5, 3) := by decide +kernel
theorem d_PC_insert_22 : decode b_PC_insert 22 = .ok (.iconst (-1), 1) := by decide +kernel
theorem d_PC_insert_23 : decode b_PC_insert 23 = .ok (.ireturn, 1) := by decide +kernel
theorem d_PC_insert_24 : decode b_PC_insert 24 = .ok (.aload_n 0, 1) := by decide +kernel
theorem d_PC_insert_25 : decode b_PC_insert 25 = .ok (.invokevirtual 71, 3) := by decide +kernel
theorem d_PC_insert_28 : decode b_PC_insert 28 = .ok (.istore 7, 2) := by decide +kernel
theorem d_PC_insert_30 : decode b_PC_insert 30 = .ok (.aload 6, 2) := by decide +kernel
theorem d_PC_insert_32 : decode b_PC_insert 32 = .ok (.iconst 0, 1) := by decide +kernel
theorem d_PC_insert_33 : decode b_PC_insert 33 = .ok (.putfield 75, 3) := by decide +kernel
theorem d_PC_insert_36 : decode b_PC_insert 36 = .ok (.aload_n 0, 1) := by decide +kernel
theorem d_PC_insert_37 : decode b_PC_insert 37 = .ok (.iload 7, 2) := by decide +kernel
theorem d_PC_insert_39 : decode b_PC_insert 39 = .ok (.invokevirtual 114, 3) := by decide +kernel
theorem d_PC_insert_42 : decode b_PC_insert 42 = .ok (.ifCond .ne 6, 3) := by decide +kernel
theorem d_PC_insert_45 : decode b_PC_insert 45 = .ok (.bipush 6, 2) := by decide +kernel
theorem d_PC_insert_47 : decode b_PC_insert 47 = .ok (.ireturn, 1) := by decide +kernel
theorem d_PC_insert_48 : decode b_PC_insert 48 = .ok (.aload_n 0, 1) := by decide +kernel
theorem d_PC_insert_49 : decode b_PC_insert 49 = .ok (.getfield 23, 3) := by decide +kernel
theorem d_PC_insert_52 : decode b_PC_insert 52 = .ok (.iload 7, 2) := by decide +kernel
theorem d_PC_insert_54 : decode b_PC_insert 54 = .ok (.iconst 1, 1) := by decide +kernel
theorem d_PC_insert_55 : decode b_PC_insert 55 = .ok (.isub, 1) := by decide +kernel
theorem d_PC_insert_56 : decode b_PC_insert 56 = .ok (.aaload, 1) := by decide +kernel
theorem d_PC_insert_57 : decode b_PC_insert 57 = .ok (.getfield 117, 3) := by decide +kernel
theorem d_PC_insert_60 : decode b_PC_insert 60 = .ok (.astore 8, 2) := by decide +kernel
theorem d_PC_insert_62 : decode b_PC_insert 62 = .ok (.aload_n 0, 1) := by decide +kernel
theorem d_PC_insert_63 : decode b_PC_insert 63 = .ok (.aload 6, 2) := by decide +kernel
theorem d_PC_insert_65 : decode b_PC_insert 65 = .ok (.aload 8, 2) := by decide +kernel
theorem d_PC_insert_67 : decode b_PC_insert 67 = .ok (.iload 7, 2) := by decide +kernel
theorem d_PC_insert_69 : decode b_PC_insert 69 = .ok (.iconst 1, 1) := by decide +kernel
theorem d_PC_insert_70 : decode b_PC_insert 70 = .ok (.isub, 1) := by decide +kernel
theorem d_PC_insert_71 : decode b_PC_insert 71 = .ok (.invokevirtual 121, 3) := by decide +kernel
theorem d_PC_insert_74 : decode b_PC_insert 74 = .ok (.astore 9, 2) := by decide +kernel
theorem d_PC_insert_76 : decode b_PC_insert 76 = .ok (.aload 9, 2) := by decide +kernel
theorem d_PC_insert_78 : decode b_PC_insert 78 = .ok (.ifnonnull 13, 3) := by decide +kernel
theorem d_PC_insert_81 : decode b_PC_insert 81 = .ok (.aload 8, 2) := by decide +kernel
theorem d_PC_insert_83 : decode b_PC_insert 83 = .ok (.getfield 125, 3) := by decide +kernel
theorem d_PC_insert_86 : decode b_PC_insert 86 = .ok (.ifnull 5, 3) := by decide +kernel
theorem d_PC_insert_89 : decode b_PC_insert 89 = .ok (.iconst 1, 1) := by decide +kernel
theorem d_PC_insert_90 : decode b_PC_insert 90 = .ok (.ireturn, 1) := by decide +kernel
theorem d_PC_insert_91 : decode b_PC_insert 91 = .ok (.new 128, 3) := by decide +kernel
theorem d_PC_insert_94 : decode b_PC_insert 94 = .ok (.dup, 1) := by decide +kernel
theorem d_PC_insert_95 : decode b_PC_insert 95 = .ok (.aload 8, 2) := by decide +kernel
theorem d_PC_insert_97 : decode b_PC_insert 97 = .ok (.aload 9, 2) := by decide +kernel
theorem d_PC_insert_99 : decode b_PC_insert 99 = .ok (.lload_n 2, 1) := by decide +kernel
theorem d_PC_insert_100 : decode b_PC_insert 100 = .ok (.lload 4, 2) := by decide +kernel
theorem d_PC_insert_102 : decode b_PC_insert 102 = .ok (.invokespecial 130, 3) := by decide +kernel
theorem d_PC_insert_105 : decode b_PC_insert 105 = .ok (.astore 10, 2) := by decide +kernel
theorem d_PC_insert_107 : decode b_PC_insert 107 = .ok (.aload 8, 2) := by decide +kernel
theorem d_PC_insert_109 : decode b_PC_insert 109 = .ok (.getfield 133, 3) := by decide +kernel
theorem d_PC_insert_112 : decode b_PC_insert 112 = .ok (.ifCond .eq 18, 3) := by decide +kernel
theorem d_PC_insert_115 : decode b_PC_insert 115 = .ok (.aload_n 0, 1) := by decide +kernel
theorem d_PC_insert_116 : decode b_PC_insert 116 = .ok (.getfield 30, 3) := by decide +kernel
theorem d_PC_insert_119 : decode b_PC_insert 119 = .ok (.aload 10, 2) := by decide +kernel
theorem d_PC_insert_121 : decode b_PC_insert 121 = .ok (.invokevirtual 136, 3) := by decide +kernel
theorem d_PC_insert_124 : decode b_PC_insert 124 = .ok (.ifCond .eq 6, 3) := by decide +kernel
theorem d_PC_insert_127 : decode b_PC_insert 127 = .ok (.bipush 7, 2) := by decide +kernel
theorem d_PC_insert_129 : decode b_PC_insert 129 = .ok (.ireturn, 1) := by decide +kernel
theorem d_PC_insert_130 : decode b_PC_insert 130 = .ok (.aload_n 0, 1) := by decide +kernel
theorem d_PC_insert_131 : decode b_PC_insert 131 = .ok (.getfield 30, 3) := by decide +kernel
theorem d_PC_insert_134 : decode b_PC_insert 134 = .ok (.aload_n 0, 1) := by decide +kernel
theorem d_PC_insert_135 : decode b_PC_insert 135 = .ok (.getfield 30, 3) := by decide +kernel
theorem d_PC_insert_138 : decode b_PC_insert 138 = .ok (.aload 10, 2) := by decide +kernel
theorem d_PC_insert_140 : decode b_PC_insert 140 = .ok (.aload 6, 2) := by decide +kernel
theorem d_PC_insert_142 : decode b_PC_insert 142 = .ok (.getfield 95, 3) := by decide +kernel
theorem d_PC_insert_145 : decode b_PC_insert 145 = .ok (.invokevirtual 140, 3) := by decide +kernel
theorem d_PC_insert_148 : decode b_PC_insert 148 = .ok (.aload 10, 2) := by decide +kernel
theorem d_PC_insert_150 : decode b_PC_insert 150 = .ok (.invokevirtual 143, 3) := by decide +kernel
theorem d_PC_insert_153 : decode b_PC_insert 153 = .ok (.aload 6, 2) := by decide +kernel
theorem d_PC_insert_155 : decode b_PC_insert 155 = .ok (.aload 10, 2) := by decide +kernel
theorem d_PC_insert_157 : decode b_PC_insert 157 = .ok (.putfield 95, 3) := by decide +kernel
theorem d_PC_insert_160 : decode b_PC_insert 160 = .ok (.iconst 0, 1) := by decide +kernel
theorem d_PC_insert_161 : decode b_PC_insert 161 = .ok (.ireturn, 1) := by decide +kernel
theorem d_PC_replace_0 : decode b_PC_replace 0 = .ok (.aload_n 0, 1) := by decide +kernel
theorem d_PC_replace_1 : decode b_PC_replace 1 = .ok (.iload_n 1, 1) := by decide +kernel
theorem d_PC_replace_2 : decode b_PC_replace 2 = .ok (.invokevirtual 67, 3) := by decide +kernel
theorem d_PC_replace_5 : decode b_PC_replace 5 = .ok (.astore 4, 2) := by decide +kernel
theorem d_PC_replace_7 : decode b_PC_replace 7 = .ok (.aload 4, 2) := by decide +kernel
theorem d_PC_replace_9 : decode b_PC_replace 9 = .ok (.ifnonnull 5, 3) := by decide +kernel
theorem d_PC_replace_12 : decode b_PC_replace 12 = .ok (.iconst (-1), 1) := by decide +kernel
theorem d_PC_replace_13 : decode b_PC_replace 13 = .ok (.ireturn, 1) := by decide +kernel
theorem d_PC_replace_14 : decode b_PC_replace 14 = .ok (.aload 4, 2) := by decide +kernel
theorem d_PC_replace_16 : decode b_PC_replace 16 = .ok (.invokevirtual 147, 3) := by decide +kernel
theorem d_PC_replace_19 : decode b_PC_replace 19 = .ok (.astore 5, 2) := by decide +kernel
theorem d_PC_replace_21 : decode b_PC_replace 21 = .ok (.aload 5, 2) := by decide +kernel
theorem d_PC_replace_23 : decode b_PC_replace 23 = .ok (.ifnonnull 6, 3) := by decide +kernel
theorem d_PC_replace_26 : decode b_PC_replace 26 = .ok (.bipush 8, 2) := by decide +kernel
theorem d_PC_replace_28 : decode b_PC_replace 28 = .ok (.ireturn, 1) := by decide +kernel
theorem d_PC_replace_29 : decode b_PC_replace 29 = .ok (.aload 5, 2) := by decide +kernel
theorem d_PC_replace_31 : decode b_PC_replace 31 = .ok (.lload_n 2, 1) := by decide +kernel
theorem d_PC_replace_32 : decode b_PC_replace 32 = .ok (.putfield 151, 3) := by decide +kernel
theorem d_PC_replace_35 : decode b_PC_replace 35 = .ok (.iconst 0, 1) := by decide +kernel
theorem d_PC_replace_36 : decode b_PC_replace 36 = .ok (.ireturn, 1) := by decide +kernel
theorem d_PC_delete_0 : decode b_PC_delete 0 = .ok (.aload_n 0, 1) := by decide +kernel
theorem d_PC_delete_1 : decode b_PC_delete 1 = .ok (.iload_n 1, 1) := by decide +kernel
theorem d_PC_delete_2 : decode b_PC_delete 2 = .ok (.invokevirtual 67, 3) := by decide +kernel
theorem d_PC_delete_5 : decode b_PC_delete 5 = .ok (.astore_n 2, 1) := by decide +kernel
theorem d_PC_delete_6 : decode b_PC_delete 6 = .ok (.aload_n 2, 1) := by decide +kernel
theorem d_PC_delete_7 : decode b_PC_delete 7 = .ok (.ifnonnull 5, 3) := by decide +kernel
theorem d_PC_delete_10 : decode b_PC_delete 10 = .ok (.iconst (-1), 1) := by decide +kernel
theorem d_PC_delete_11 : decode b_PC_delete 11 = .ok (.ireturn, 1) := by decide +kernel
theorem d_PC_delete_12 : decode b_PC_delete 12 = .ok (.aload_n 2, 1) := by decide +kernel
theorem d_PC_delete_13 : decode b_PC_delete 13 = .ok (.invokevirtual 147, 3) := by decide +kernel
theorem d_PC_delete_16 : decode b_PC_delete 16 = .ok (.astore_n 3, 1) := by decide +kernel
theorem d_PC_delete_17 : decode b_PC_delete 17 = .ok (.aload_n 3, 1) := by decide +kernel
theorem d_PC_delete_18 : decode b_PC_delete 18 = .ok (.ifnonnull 6, 3) := by decide +kernel
theorem d_PC_delete_21 : decode b_PC_delete 21 = .ok (.bipush 8, 2) := by decide +kernel
theorem d_PC_delete_23 : decode b_PC_delete 23 = .ok (.ireturn, 1) := by decide +kernel
theorem d_PC_delete_24 : decode b_PC_delete 24 = .ok (.aload_n 0, 1) := by decide +kernel
theorem d_PC_delete_25 : decode b_PC_delete 25 = .ok (.getfield 30, 3) := by decide +kernel
theorem d_PC_delete_28 : decode b_PC_delete 28 = .ok (.aload_n 3, 1) := by decide +kernel
theorem d_PC_delete_29 : decode b_PC_delete 29 = .ok (.invokevirtual 155, 3) := by decide +kernel
theorem d_PC_delete_32 : decode b_PC_delete 32 = .ok (.istore 4, 2) := by decide +kernel
theorem d_PC_delete_34 : decode b_PC_delete 34 = .ok (.aload_n 0, 1) := by decide +kernel
theorem d_PC_delete_35 : decode b_PC_delete 35 = .ok (.getfield 30, 3) := by decide +kernel
theorem d_PC_delete_38 : decode b_PC_delete 38 = .ok (.iload 4, 2) := by decide +kernel
theorem d_PC_delete_40 : decode b_PC_delete 40 = .ok (.iconst 1, 1) := by decide +kernel
theorem d_PC_delete_41 : decode b_PC_delete 41 = .ok (.isub, 1) := by decide +kernel
theorem d_PC_delete_42 : decode b_PC_delete 42 = .ok (.invokevirtual 159, 3) := by decide +kernel
theorem d_PC_delete_45 : decode b_PC_delete 45 = .ok (.astore 5, 2) := by decide +kernel
theorem d_PC_delete_47 : decode b_PC_delete 47 = .ok (.iconst 0, 1) := by decide +kernel
theorem d_PC_delete_48 : decode b_PC_delete 48 = .ok (.istore 6, 2) := by decide +kernel
theorem d_PC_delete_50 : decode b_PC_delete 50 = .ok (.iload 6, 2) := by decide +kernel
theorem d_PC_delete_52 : decode b_PC_delete 52 = .ok (.aload_n 0, 1) := by decide +kernel
theorem d_PC_delete_53 : decode b_PC_delete 53 = .ok (.getfield 53, 3) := by decide +kernel
theorem d_PC_delete_56 : decode b_PC_delete 56 = .ok (.if_icmp .ge 22, 3) := by decide +kernel
theorem d_PC_delete_59 : decode b_PC_delete 59 = .ok (.aload_n 0, 1) := by decide +kernel
theorem d_PC_delete_60 : decode b_PC_delete 60 = .ok (.getfield 17, 3) := by decide +kernel
theorem d_PC_delete_63 : decode b_PC_delete 63 = .ok (.iload 6, 2) := by decide +kernel
theorem d_PC_delete_65 : decode b_PC_delete 65 = .ok (.aaload, 1) := by decide +kernel
theorem d_PC_delete_66 : decode b_PC_delete 66 = .ok (.aload_n 3, 1) := by decide +kernel
theorem d_PC_delete_67 : decode b_PC_delete 67 = .ok (.aload 5, 2) := by decide +kernel
theorem d_PC_delete_69 : decode b_PC_delete 69 = .ok (.invokevirtual 163, 3) := by decide +kernel
theorem d_PC_delete_72 : decode b_PC_delete 72 = .ok (.iinc 6 1, 3) := by decide +kernel
theorem d_PC_delete_75 : decode b_PC_delete 75 = .ok (.goto (-25), 3) := by decide +kernel
theorem d_PC_delete_78 : decode b_PC_delete 78 = .ok (.aload_n 0, 1) := by decide +kernel
theorem d_PC_delete_79 : decode b_PC_delete 79 = .ok (.getfield 30, 3) := by decide +kernel
theorem d_PC_delete_82 : decode b_PC_delete 82 = .ok (.iload 4, 2) := by decide +kernel
theorem d_PC_delete_84 : decode b_PC_delete 84 = .ok (.invokevirtual 167, 3) := by decide +kernel
theorem d_PC_delete_87 : decode b_PC_delete 87 = .ok (.iconst 0, 1) := by decide +kernel
theorem d_PC_delete_88 : decode b_PC_delete 88 = .ok (.ireturn, 1) := by decide +kernel
theorem d_PC_position_0 : decode b_PC_position 0 = .ok (.aload_n 0, 1) := by decide +kernel
theorem d_PC_position_1 : decode b_PC_position 1 = .ok (.iload_n 1, 1) := by decide +kernel
theorem d_PC_position_2 : decode b_PC_position 2 = .ok (.invokevirtual 67, 3) := by decide +kernel
theorem d_PC_position_5 : decode b_PC_position 5 = .ok (.astore_n 3, 1) := by decide +kernel
theorem d_PC_position_6 : decode b_PC_position 6 = .ok (.aload_n 3, 1) := by decide +kernel
theorem d_PC_position_7 : decode b_PC_position 7 = .ok (.ifnonnull 5, 3) := by decide +kernel
theorem d_PC_position_10 : decode b_PC_position 10 = .ok (.iconst (-1), 1) := by decide +kernel
theorem d_PC_position_11 : decode b_PC_position 11 = .ok (.ireturn, 1) := by decide +kernel
theorem d_PC_position_12 : decode b_PC_position 12 = .ok (.iload_n 2, 1) := by decide +kernel
theorem d_PC_position_13 : decode b_PC_position 13 = .ok (.tableswitch 82 0 3 #[31, 39, 61, 69], 31) := by decide +kernel
theorem d_PC_position_44 : decode b_PC_position 44 = .ok (.aload_n 3, 1) := by decide +kernel
theorem d_PC_position_45 : decode b_PC_position 45 = .ok (.getfield 95, 3) := by decide +kernel
theorem d_PC_position_48 : decode b_PC_position 48 = .ok (.invokestatic 171, 3) := by decide +kernel
theorem d_PC_position_51 : decode b_PC_position 51 = .ok (.ireturn, 1) := by decide +kernel
theorem d_PC_position_52 : decode b_PC_position 52 = .ok (.aload_n 3, 1) := by decide +kernel
theorem d_PC_position_53 : decode b_PC_position 53 = .ok (.getfield 95, 3) := by decide +kernel
theorem d_PC_position_56 : decode b_PC_position 56 = .ok (.ifnonnull 7, 3) := by decide +kernel
theorem d_PC_position_59 : decode b_PC_position 59 = .ok (.iconst 0, 1) := by decide +kernel
theorem d_PC_position_60 : decode b_PC_position 60 = .ok (.goto 13, 3) := by decide +kernel
theorem d_PC_position_63 : decode b_PC_position 63 = .ok (.aload_n 3, 1) := by decide +kernel
theorem d_PC_position_64 : decode b_PC_position 64 = .ok (.getfield 95, 3) := by decide +kernel
theorem d_PC_position_67 : decode b_PC_position 67 = .ok (.getfield 174, 3) := by decide +kernel
theorem d_PC_position_70 : decode b_PC_position 70 = .ok (.getfield 47, 3) := by decide +kernel
theorem d_PC_position_73 : decode b_PC_position 73 = .ok (.ireturn, 1) := by decide +kernel
theorem d_PC_position_74 : decode b_PC_position 74 = .ok (.aload_n 3, 1) := by decide +kernel
theorem d_PC_position_75 : decode b_PC_position 75 = .ok (.getfield 83, 3) := by decide +kernel
theorem d_PC_position_78 : decode b_PC_position 78 = .ok (.invokestatic 171, 3) := by decide +kernel
theorem d_PC_position_81 : decode b_PC_position 81 = .ok (.ireturn, 1) := by decide +kernel
theorem d_PC_position_82 : decode b_PC_position 82 = .ok (.aload_n 3, 1) := by decide +kernel
theorem d_PC_position_83 : decode b_PC_position 83 = .ok (.getfield 75, 3) := by decide +kernel
theorem d_PC_position_86 : decode b_PC_position 86 = .ok (.ifCond .eq 7, 3) := by decide +kernel
theorem d_PC_position_89 : decode b_PC_position 89 = .ok (.iconst 1, 1) := by decide +kernel
theorem d_PC_position_90 : decode b_PC_position 90 = .ok (.goto 4, 3) := by decide +kernel
theorem d_PC_position_93 : decode b_PC_position 93 = .ok (.iconst 0, 1) := by decide +kernel
theorem d_PC_position_94 : decode b_PC_position 94 = .ok (.ireturn, 1) := by decide +kernel
theorem d_PC_position_95 : decode b_PC_position 95 = .ok (.iconst (-1), 1) := by decide +kernel
theorem d_PC_position_96 : decode b_PC_position 96 = .ok (.ireturn, 1) := by decide +kernel
theorem d_PC_order_0 : decode b_PC_order 0 = .ok (.aload_n 0, 1) := by decide +kernel
theorem d_PC_order_1 : decode b_PC_order 1 = .ok (.getfield 30, 3) := by decide +kernel
theorem d_PC_order_4 : decode b_PC_order 4 = .ok (.iload_n 1, 1) := by decide +kernel
theorem d_PC_order_5 : decode b_PC_order 5 = .ok (.invokevirtual 159, 3) := by decide +kernel
theorem d_PC_order_8 : decode b_PC_order 8 = .ok (.astore_n 3, 1) := by decide +kernel
theorem d_PC_order_9 : decode b_PC_order 9 = .ok (.aload_n 3, 1) := by decide +kernel
theorem d_PC_order_10 : decode b_PC_order 10 = .ok (.ifnonnull 5, 3) := by decide +kernel
theorem d_PC_order_13 : decode b_PC_order 13 = .ok (.iconst (-1), 1) := by decide +kernel
theorem d_PC_order_14 : decode b_PC_order 14 = .ok (.ireturn, 1) := by decide +kernel
theorem d_PC_order_15 : decode b_PC_order 15 = .ok (.iload_n 2, 1) := by decide +kernel
theorem d_PC_order_16 : decode b_PC_order 16 = .ok (.tableswitch 60 0 3 #[32, 40, 48, 54], 32) := by decide +kernel
theorem d_PC_order_48 : decode b_PC_order 48 = .ok (.aload_n 3, 1) := by decide +kernel
theorem d_PC_order_49 : decode b_PC_order 49 = .ok (.getfield 174, 3) := by decide +kernel
theorem d_PC_order_52 : decode b_PC_order 52 = .ok (.getfield 175, 3) := by decide +kernel
theorem d_PC_order_55 : decode b_PC_order 55 = .ok (.ireturn, 1) := by decide +kernel
theorem d_PC_order_56 : decode b_PC_order 56 = .ok (.aload_n 3, 1) := by decide +kernel
theorem d_PC_order_57 : decode b_PC_order 57 = .ok (.getfield 174, 3) := by decide +kernel
theorem d_PC_order_60 : decode b_PC_order 60 = .ok (.getfield 47, 3) := by decide +kernel
theorem d_PC_order_63 : decode b_PC_order 63 = .ok (.ireturn, 1) := by decide +kernel
theorem d_PC_order_64 : decode b_PC_order 64 = .ok (.aload_n 3, 1) := by decide +kernel
theorem d_PC_order_65 : decode b_PC_order 65 = .ok (.getfield 178, 3) := by decide +kernel
theorem d_PC_order_68 : decode b_PC_order 68 = .ok (.l2i, 1) := by decide +kernel
theorem d_PC_order_69 : decode b_PC_order 69 = .ok (.ireturn, 1) := by decide +kernel
theorem d_PC_order_70 : decode b_PC_order 70 = .ok (.aload_n 3, 1) := by decide +kernel
theorem d_PC_order_71 : decode b_PC_order 71 = .ok (.getfield 151, 3) := by decide +kernel
theorem d_PC_order_74 : decode b_PC_order 74 = .ok (.l2i, 1) := by decide +kernel
theorem d_PC_order_75 : decode b_PC_order 75 = .ok (.ireturn, 1) := by decide +kernel
theorem d_PC_order_76 : decode b_PC_order 76 = .ok (.iconst (-1), 1) := by decide +kernel
theorem d_PC_order_77 : decode b_PC_order 77 = .ok (.ireturn, 1) := by decide +kernel
theorem d_PC_count_0 : decode b_PC_count 0 = .ok (.aload_n 0, 1) := by decide +kernel
theorem d_PC_count_1 : decode b_PC_count 1 = .ok (.getfield 30, 3) := by decide +kernel
theorem d_PC_count_4 : decode b_PC_count 4 = .ok (.getfield 181, 3) := by decide +kernel
theorem d_PC_count_7 : decode b_PC_count 7 = .ok (.ireturn, 1) := by decide +kernel
theorem d_PC_rule_0 : decode b_PC_rule 0 = .ok (.aload_n 0, 1) := by decide +kernel
theorem d_PC_rule_1 : decode b_PC_rule 1 = .ok (.iload_n 1, 1) := by decide +kernel
theorem d_PC_rule_2 : decode b_PC_rule 2 = .ok (.invokevirtual 39, 3) := by decide +kernel
theorem d_PC_rule_5 : decode b_PC_rule 5 = .ok (.astore_n 3, 1) := by decide +kernel
theorem d_PC_rule_6 : decode b_PC_rule 6 = .ok (.aload_n 3, 1) := by decide +kernel
theorem d_PC_rule_7 : decode b_PC_rule 7 = .ok (.ifnull 12, 3) := by decide +kernel
theorem d_PC_rule_10 : decode b_PC_rule 10 = .ok (.iload_n 2, 1) := by decide +kernel
theorem d_PC_rule_11 : decode b_PC_rule 11 = .ok (.ifCond .lt 8, 3) := by decide +kernel
theorem d_PC_rule_14 : decode b_PC_rule 14 = .ok (.iload_n 2, 1) := by decide +kernel
theorem d_PC_rule_15 : decode b_PC_rule 15 = .ok (.iconst 2, 1) := by decide +kernel
theorem d_PC_rule_16 : decode b_PC_rule 16 = .ok (.if_icmp .le 5, 3) := by decide +kernel
theorem d_PC_rule_19 : decode b_PC_rule 19 = .ok (.iconst (-1), 1) := by decide +kernel
theorem d_PC_rule_20 : decode b_PC_rule 20 = .ok (.ireturn, 1) := by decide +kernel
theorem d_PC_rule_21 : decode b_PC_rule 21 = .ok (.aload_n 3, 1) := by decide +kernel
theorem d_PC_rule_22 : decode b_PC_rule 22 = .ok (.getfield 184, 3) := by decide +kernel
theorem d_PC_rule_25 : decode b_PC_rule 25 = .ok (.istore 4, 2) := by decide +kernel
theorem d_PC_rule_27 : decode b_PC_rule 27 = .ok (.aload_n 3, 1) := by decide +kernel
theorem d_PC_rule_28 : decode b_PC_rule 28 = .ok (.iload_n 2, 1) := by decide +kernel
theorem d_PC_rule_29 : decode b_PC_rule 29 = .ok (.putfield 184, 3) := by decide +kernel
theorem d_PC_rule_32 : decode b_PC_rule 32 = .ok (.iload 4, 2) := by decide +kernel
theorem d_PC_rule_34 : decode b_PC_rule 34 = .ok (.ireturn, 1) := by decide +kernel
theorem d_PC_within_0 : decode b_PC_within 0 = .ok (.aload_n 0, 1) := by decide +kernel
theorem d_PC_within_1 : decode b_PC_within 1 = .ok (.iload_n 1, 1) := by decide +kernel
theorem d_PC_within_2 : decode b_PC_within 2 = .ok (.invokevirtual 67, 3) := by decide +kernel
theorem d_PC_within_5 : decode b_PC_within 5 = .ok (.astore_n 2, 1) := by decide +kernel
theorem d_PC_within_6 : decode b_PC_within 6 = .ok (.aload_n 2, 1) := by decide +kernel
theorem d_PC_within_7 : decode b_PC_within 7 = .ok (.ifnull 10, 3) := by decide +kernel
theorem d_PC_within_10 : decode b_PC_within 10 = .ok (.aload_n 2, 1) := by decide +kernel
theorem d_PC_within_11 : decode b_PC_within 11 = .ok (.getfield 83, 3) := by decide +kernel
theorem d_PC_within_14 : decode b_PC_within 14 = .ok (.ifnonnull 5, 3) := by decide +kernel
theorem d_PC_within_17 : decode b_PC_within 17 = .ok (.iconst (-1), 1) := by decide +kernel
theorem d_PC_within_18 : decode b_PC_within 18 = .ok (.ireturn, 1) := by decide +kernel
theorem d_PC_within_19 : decode b_PC_within 19 = .ok (.aload_n 0, 1) := by decide +kernel
theorem d_PC_within_20 : decode b_PC_within 20 = .ok (.getfield 30, 3) := by decide +kernel
theorem d_PC_within_23 : decode b_PC_within 23 = .ok (.aload_n 2, 1) := by decide +kernel
theorem d_PC_within_24 : decode b_PC_within 24 = .ok (.getfield 83, 3) := by decide +kernel
theorem d_PC_within_27 : decode b_PC_within 27 = .ok (.invokevirtual 155, 3) := by decide +kernel
theorem d_PC_within_30 : decode b_PC_within 30 = .ok (.istore_n 3, 1) := by decide +kernel
theorem d_PC_within_31 : decode b_PC_within 31 = .ok (.aload_n 0, 1) := by decide +kernel
theorem d_PC_within_32 : decode b_PC_within 32 = .ok (.getfield 30, 3) := by decide +kernel
theorem d_PC_within_35 : decode b_PC_within 35 = .ok (.iload_n 3, 1) := by decide +kernel
theorem d_PC_within_36 : decode b_PC_within 36 = .ok (.invokevirtual 187, 3) := by decide +kernel
theorem d_PC_within_39 : decode b_PC_within 39 = .ok (.iload_n 3, 1) := by decide +kernel
theorem d_PC_within_40 : decode b_PC_within 40 = .ok (.isub, 1) := by decide +kernel
theorem d_PC_within_41 : decode b_PC_within 41 = .ok (.iconst 1, 1) := by decide +kernel
theorem d_PC_within_42 : decode b_PC_within 42 = .ok (.isub, 1) := by decide +kernel
theorem d_PC_within_43 : decode b_PC_within 43 = .ok (.ireturn, 1) := by decide +kernel
theorem d_PC_kindNumbered_0 : decode b_PC_kindNumbered 0 = .ok (.iload_n 1, 1) := by decide +kernel
theorem d_PC_kindNumbered_1 : decode b_PC_kindNumbered 1 = .ok (.iconst 1, 1) := by decide +kernel
theorem d_PC_kindNumbered_2 : decode b_PC_kindNumbered 2 = .ok (.if_icmp .lt 22, 3) := by decide +kernel
theorem d_PC_kindNumbered_5 : decode b_PC_kindNumbered 5 = .ok (.iload_n 1, 1) := by decide +kernel
theorem d_PC_kindNumbered_6 : decode b_PC_kindNumbered 6 = .ok (.aload_n 0, 1) := by decide +kernel
theorem d_PC_kindNumbered_7 : decode b_PC_kindNumbered 7 = .ok (.getfield 43, 3) := by decide +kernel
theorem d_PC_kindNumbered_10 : decode b_PC_kindNumbered 10 = .ok (.if_icmp .gt 14, 3) := by decide +kernel
theorem d_PC_kindNumbered_13 : decode b_PC_kindNumbered 13 = .ok (.aload_n 0, 1) := by decide +kernel
theorem d_PC_kindNumbered_14 : decode b_PC_kindNumbered 14 = .ok (.getfield 11, 3) := by decide +kernel
theorem d_PC_kindNumbered_17 : decode b_PC_kindNumbered 17 = .ok (.iload_n 1, 1) := by decide +kernel
theorem d_PC_kindNumbered_18 : decode b_PC_kindNumbered 18 = .ok (.iconst 1, 1) := by decide +kernel
theorem d_PC_kindNumbered_19 : decode b_PC_kindNumbered 19 = .ok (.isub, 1) := by decide +kernel
theorem d_PC_kindNumbered_20 : decode b_PC_kindNumbered 20 = .ok (.aaload, 1) := by decide +kernel
theorem d_PC_kindNumbered_21 : decode b_PC_kindNumbered 21 = .ok (.goto 4, 3) := by decide +kernel
theorem d_PC_kindNumbered_24 : decode b_PC_kindNumbered 24 = .ok (.aconst_null, 1) := by decide +kernel
theorem d_PC_kindNumbered_25 : decode b_PC_kindNumbered 25 = .ok (.areturn, 1) := by decide +kernel
theorem d_PC_viewNumbered_0 : decode b_PC_viewNumbered 0 = .ok (.iload_n 1, 1) := by decide +kernel
theorem d_PC_viewNumbered_1 : decode b_PC_viewNumbered 1 = .ok (.iconst 1, 1) := by decide +kernel
theorem d_PC_viewNumbered_2 : decode b_PC_viewNumbered 2 = .ok (.if_icmp .lt 22, 3) := by decide +kernel
theorem d_PC_viewNumbered_5 : decode b_PC_viewNumbered 5 = .ok (.iload_n 1, 1) := by decide +kernel
theorem d_PC_viewNumbered_6 : decode b_PC_viewNumbered 6 = .ok (.aload_n 0, 1) := by decide +kernel
theorem d_PC_viewNumbered_7 : decode b_PC_viewNumbered 7 = .ok (.getfield 53, 3) := by decide +kernel
theorem d_PC_viewNumbered_10 : decode b_PC_viewNumbered 10 = .ok (.if_icmp .gt 14, 3) := by decide +kernel
theorem d_PC_viewNumbered_13 : decode b_PC_viewNumbered 13 = .ok (.aload_n 0, 1) := by decide +kernel
theorem d_PC_viewNumbered_14 : decode b_PC_viewNumbered 14 = .ok (.getfield 17, 3) := by decide +kernel
theorem d_PC_viewNumbered_17 : decode b_PC_viewNumbered 17 = .ok (.iload_n 1, 1) := by decide +kernel
theorem d_PC_viewNumbered_18 : decode b_PC_viewNumbered 18 = .ok (.iconst 1, 1) := by decide +kernel
theorem d_PC_viewNumbered_19 : decode b_PC_viewNumbered 19 = .ok (.isub, 1) := by decide +kernel
theorem d_PC_viewNumbered_20 : decode b_PC_viewNumbered 20 = .ok (.aaload, 1) := by decide +kernel
theorem d_PC_viewNumbered_21 : decode b_PC_viewNumbered 21 = .ok (.goto 4, 3) := by decide +kernel
theorem d_PC_viewNumbered_24 : decode b_PC_viewNumbered 24 = .ok (.aconst_null, 1) := by decide +kernel
theorem d_PC_viewNumbered_25 : decode b_PC_viewNumbered 25 = .ok (.areturn, 1) := by decide +kernel
theorem d_PC_kindNumberOf_0 : decode b_PC_kindNumberOf 0 = .ok (.aload_n 0, 1) := by decide +kernel
theorem d_PC_kindNumberOf_1 : decode b_PC_kindNumberOf 1 = .ok (.ifnonnull 7, 3) := by decide +kernel
theorem d_PC_kindNumberOf_4 : decode b_PC_kindNumberOf 4 = .ok (.iconst 0, 1) := by decide +kernel
theorem d_PC_kindNumberOf_5 : decode b_PC_kindNumberOf 5 = .ok (.goto 10, 3) := by decide +kernel
theorem d_PC_kindNumberOf_8 : decode b_PC_kindNumberOf 8 = .ok (.aload_n 0, 1) := by decide +kernel
theorem d_PC_kindNumberOf_9 : decode b_PC_kindNumberOf 9 = .ok (.getfield 174, 3) := by decide +kernel
theorem d_PC_kindNumberOf_12 : decode b_PC_kindNumberOf 12 = .ok (.getfield 175, 3) := by decide +kernel
theorem d_PC_kindNumberOf_15 : decode b_PC_kindNumberOf 15 = .ok (.ireturn, 1) := by decide +kernel
theorem d_PC_takeParts_0 : decode b_PC_takeParts 0 = .ok (.aload_n 0, 1) := by decide +kernel
theorem d_PC_takeParts_1 : decode b_PC_takeParts 1 = .ok (.getfield 57, 3) := by decide +kernel
theorem d_PC_takeParts_4 : decode b_PC_takeParts 4 = .ok (.istore_n 1, 1) := by decide +kernel
theorem d_PC_takeParts_5 : decode b_PC_takeParts 5 = .ok (.aload_n 0, 1) := by decide +kernel
theorem d_PC_takeParts_6 : decode b_PC_takeParts 6 = .ok (.iconst 0, 1) := by decide +kernel
theorem d_PC_takeParts_7 : decode b_PC_takeParts 7 = .ok (.putfield 57, 3) := by decide +kernel
theorem d_PC_takeParts_10 : decode b_PC_takeParts 10 = .ok (.iload_n 1, 1) := by decide +kernel
theorem d_PC_takeParts_11 : decode b_PC_takeParts 11 = .ok (.ireturn, 1) := by decide +kernel
theorem d_PC_partsFit_0 : decode b_PC_partsFit 0 = .ok (.iconst 1, 1) := by decide +kernel
theorem d_PC_partsFit_1 : decode b_PC_partsFit 1 = .ok (.istore_n 2, 1) := by decide +kernel
theorem d_PC_partsFit_2 : decode b_PC_partsFit 2 = .ok (.iload_n 2, 1) := by decide +kernel
theorem d_PC_partsFit_3 : decode b_PC_partsFit 3 = .ok (.iload_n 1, 1) := by decide +kernel
theorem d_PC_partsFit_4 : decode b_PC_partsFit 4 = .ok (.if_icmp .ge 37, 3) := by decide +kernel
theorem d_PC_partsFit_7 : decode b_PC_partsFit 7 = .ok (.aload_n 0, 1) := by decide +kernel
theorem d_PC_partsFit_8 : decode b_PC_partsFit 8 = .ok (.getfield 23, 3) := by decide +kernel
theorem d_PC_partsFit_11 : decode b_PC_partsFit 11 = .ok (.iload_n 2, 1) := by decide +kernel
theorem d_PC_partsFit_12 : decode b_PC_partsFit 12 = .ok (.aaload, 1) := by decide +kernel
theorem d_PC_partsFit_13 : decode b_PC_partsFit 13 = .ok (.getfield 117, 3) := by decide +kernel
theorem d_PC_partsFit_16 : decode b_PC_partsFit 16 = .ok (.aload_n 0, 1) := by decide +kernel
theorem d_PC_partsFit_17 : decode b_PC_partsFit 17 = .ok (.getfield 23, 3) := by decide +kernel
theorem d_PC_partsFit_20 : decode b_PC_partsFit 20 = .ok (.iload_n 2, 1) := by decide +kernel
theorem d_PC_partsFit_21 : decode b_PC_partsFit 21 = .ok (.iconst 1, 1) := by decide +kernel
theorem d_PC_partsFit_22 : decode b_PC_partsFit 22 = .ok (.isub, 1) := by decide +kernel
theorem d_PC_partsFit_23 : decode b_PC_partsFit 23 = .ok (.aaload, 1) := by decide +kernel
theorem d_PC_partsFit_24 : decode b_PC_partsFit 24 = .ok (.getfield 117, 3) := by decide +kernel
theorem d_PC_partsFit_27 : decode b_PC_partsFit 27 = .ok (.invokevirtual 191, 3) := by decide +kernel
theorem d_PC_partsFit_30 : decode b_PC_partsFit 30 = .ok (.ifCond .ne 5, 3) := by decide +kernel
theorem d_PC_partsFit_33 : decode b_PC_partsFit 33 = .ok (.iconst 0, 1) := by decide +kernel
theorem d_PC_partsFit_34 : decode b_PC_partsFit 34 = .ok (.ireturn, 1) := by decide +kernel
theorem d_PC_partsFit_35 : decode b_PC_partsFit 35 = .ok (.iinc 2 1, 3) := by decide +kernel
theorem d_PC_partsFit_38 : decode b_PC_partsFit 38 = .ok (.goto (-36), 3) := by decide +kernel
theorem d_PC_partsFit_41 : decode b_PC_partsFit 41 = .ok (.iconst 1, 1) := by decide +kernel
theorem d_PC_partsFit_42 : decode b_PC_partsFit 42 = .ok (.ireturn, 1) := by decide +kernel
theorem d_PC_partsFitInsert_0 : decode b_PC_partsFitInsert 0 = .ok (.iload_n 1, 1) := by decide +kernel
theorem d_PC_partsFitInsert_1 : decode b_PC_partsFitInsert 1 = .ok (.iconst 1, 1) := by decide +kernel
theorem d_PC_partsFitInsert_2 : decode b_PC_partsFitInsert 2 = .ok (.if_icmp .lt 11, 3) := by decide +kernel
theorem d_PC_partsFitInsert_5 : decode b_PC_partsFitInsert 5 = .ok (.aload_n 0, 1) := by decide +kernel
theorem d_PC_partsFitInsert_6 : decode b_PC_partsFitInsert 6 = .ok (.iload_n 1, 1) := by decide +kernel
theorem d_PC_partsFitInsert_7 : decode b_PC_partsFitInsert 7 = .ok (.invokevirtual 79, 3) := by decide +kernel
theorem d_PC_partsFitInsert_10 : decode b_PC_partsFitInsert 10 = .ok (.ifCond .ne 5, 3) := by decide +kernel
theorem d_PC_partsFitInsert_13 : decode b_PC_partsFitInsert 13 = .ok (.iconst 0, 1) := by decide +kernel
theorem d_PC_partsFitInsert_14 : decode b_PC_partsFitInsert 14 = .ok (.ireturn, 1) := by decide +kernel
theorem d_PC_partsFitInsert_15 : decode b_PC_partsFitInsert 15 = .ok (.iload_n 1, 1) := by decide +kernel
theorem d_PC_partsFitInsert_16 : decode b_PC_partsFitInsert 16 = .ok (.iconst 1, 1) := by decide +kernel
theorem d_PC_partsFitInsert_17 : decode b_PC_partsFitInsert 17 = .ok (.if_icmp .eq 31, 3) := by decide +kernel
theorem d_PC_partsFitInsert_20 : decode b_PC_partsFitInsert 20 = .ok (.aload_n 0, 1) := by decide +kernel
theorem d_PC_partsFitInsert_21 : decode b_PC_partsFitInsert 21 = .ok (.getfield 23, 3) := by decide +kernel
theorem d_PC_partsFitInsert_24 : decode b_PC_partsFitInsert 24 = .ok (.iload_n 1, 1) := by decide +kernel
theorem d_PC_partsFitInsert_25 : decode b_PC_partsFitInsert 25 = .ok (.iconst 1, 1) := by decide +kernel
theorem d_PC_partsFitInsert_26 : decode b_PC_partsFitInsert 26 = .ok (.isub, 1) := by decide +kernel
theorem d_PC_partsFitInsert_27 : decode b_PC_partsFitInsert 27 = .ok (.aaload, 1) := by decide +kernel
theorem d_PC_partsFitInsert_28 : decode b_PC_partsFitInsert 28 = .ok (.getfield 117, 3) := by decide +kernel
theorem d_PC_partsFitInsert_31 : decode b_PC_partsFitInsert 31 = .ok (.getfield 125, 3) := by decide +kernel
theorem d_PC_partsFitInsert_34 : decode b_PC_partsFitInsert 34 = .ok (.aload_n 0, 1) := by decide +kernel
theorem d_PC_partsFitInsert_35 : decode b_PC_partsFitInsert 35 = .ok (.getfield 23, 3) := by decide +kernel
theorem d_PC_partsFitInsert_38 : decode b_PC_partsFitInsert 38 = .ok (.iload_n 1, 1) := by decide +kernel
theorem d_PC_partsFitInsert_39 : decode b_PC_partsFitInsert 39 = .ok (.iconst 2, 1) := by decide +kernel
theorem d_PC_partsFitInsert_40 : decode b_PC_partsFitInsert 40 = .ok (.isub, 1) := by decide +kernel
theorem d_PC_partsFitInsert_41 : decode b_PC_partsFitInsert 41 = .ok (.aaload, 1) := by decide +kernel
theorem d_PC_partsFitInsert_42 : decode b_PC_partsFitInsert 42 = .ok (.getfield 117, 3) := by decide +kernel
theorem d_PC_partsFitInsert_45 : decode b_PC_partsFitInsert 45 = .ok (.if_acmp .ne 7, 3) := by decide +kernel
theorem d_PC_partsFitInsert_48 : decode b_PC_partsFitInsert 48 = .ok (.iconst 1, 1) := by decide +kernel
theorem d_PC_partsFitInsert_49 : decode b_PC_partsFitInsert 49 = .ok (.goto 4, 3) := by decide +kernel
theorem d_PC_partsFitInsert_52 : decode b_PC_partsFitInsert 52 = .ok (.iconst 0, 1) := by decide +kernel
theorem d_PC_partsFitInsert_53 : decode b_PC_partsFitInsert 53 = .ok (.ireturn, 1) := by decide +kernel
theorem d_PC_parentForInsert_0 : decode b_PC_parentForInsert 0 = .ok (.iload_n 3, 1) := by decide +kernel
theorem d_PC_parentForInsert_1 : decode b_PC_parentForInsert 1 = .ok (.ifCond .le 18, 3) := by decide +kernel
theorem d_PC_parentForInsert_4 : decode b_PC_parentForInsert 4 = .ok (.aload_n 0, 1) := by decide +kernel
theorem d_PC_parentForInsert_5 : decode b_PC_parentForInsert 5 = .ok (.aload_n 1, 1) := by decide +kernel
theorem d_PC_parentForInsert_6 : decode b_PC_parentForInsert 6 = .ok (.iconst 0, 1) := by decide +kernel
theorem d_PC_parentForInsert_7 : decode b_PC_parentForInsert 7 = .ok (.aload_n 0, 1) := by decide +kernel
theorem d_PC_parentForInsert_8 : decode b_PC_parentForInsert 8 = .ok (.getfield 30, 3) := by decide +kernel
theorem d_PC_parentForInsert_11 : decode b_PC_parentForInsert 11 = .ok (.getfield 181, 3) := by decide +kernel
theorem d_PC_parentForInsert_14 : decode b_PC_parentForInsert 14 = .ok (.iload_n 3, 1) := by decide +kernel
theorem d_PC_parentForInsert_15 : decode b_PC_parentForInsert 15 = .ok (.invokevirtual 195, 3) := by decide +kernel
theorem d_PC_parentForInsert_18 : decode b_PC_parentForInsert 18 = .ok (.areturn, 1) := by decide +kernel
theorem d_PC_parentForInsert_19 : decode b_PC_parentForInsert 19 = .ok (.aload_n 2, 1) := by decide +kernel
theorem d_PC_parentForInsert_20 : decode b_PC_parentForInsert 20 = .ok (.getfield 125, 3) := by decide +kernel
theorem d_PC_parentForInsert_23 : decode b_PC_parentForInsert 23 = .ok (.ifnonnull 7, 3) := by decide +kernel
theorem d_PC_parentForInsert_26 : decode b_PC_parentForInsert 26 = .ok (.aconst_null, 1) := by decide +kernel
theorem d_PC_parentForInsert_27 : decode b_PC_parentForInsert 27 = .ok (.goto 14, 3) := by decide +kernel
theorem d_PC_parentForInsert_30 : decode b_PC_parentForInsert 30 = .ok (.aload_n 1, 1) := by decide +kernel
theorem d_PC_parentForInsert_31 : decode b_PC_parentForInsert 31 = .ok (.getfield 95, 3) := by decide +kernel
theorem d_PC_parentForInsert_34 : decode b_PC_parentForInsert 34 = .ok (.aload_n 2, 1) := by decide +kernel
theorem d_PC_parentForInsert_35 : decode b_PC_parentForInsert 35 = .ok (.getfield 125, 3) := by decide +kernel
theorem d_PC_parentForInsert_38 : decode b_PC_parentForInsert 38 = .ok (.invokestatic 199, 3) := by decide +kernel
theorem d_PC_parentForInsert_41 : decode b_PC_parentForInsert 41 = .ok (.areturn, 1) := by decide +kernel
theorem d_PC_search_0 : decode b_PC_search 0 = .ok (.iload_n 2, 1) := by decide +kernel
theorem d_PC_search_1 : decode b_PC_search 1 = .ok (.ifCond .ne 18, 3) := by decide +kernel
theorem d_PC_search_4 : decode b_PC_search 4 = .ok (.aload_n 0, 1) := by decide +kernel
theorem d_PC_search_5 : decode b_PC_search 5 = .ok (.aload_n 1, 1) := by decide +kernel
theorem d_PC_search_6 : decode b_PC_search 6 = .ok (.iconst 0, 1) := by decide +kernel
theorem d_PC_search_7 : decode b_PC_search 7 = .ok (.aload_n 0, 1) := by decide +kernel
theorem d_PC_search_8 : decode b_PC_search 8 = .ok (.getfield 30, 3) := by decide +kernel
theorem d_PC_search_11 : decode b_PC_search 11 = .ok (.getfield 181, 3) := by decide +kernel
theorem d_PC_search_14 : decode b_PC_search 14 = .ok (.iload_n 3, 1) := by decide +kernel
theorem d_PC_search_15 : decode b_PC_search 15 = .ok (.invokevirtual 195, 3) := by decide +kernel
theorem d_PC_search_18 : decode b_PC_search 18 = .ok (.areturn, 1) := by decide +kernel
theorem d_PC_search_19 : decode b_PC_search 19 = .ok (.aload_n 0, 1) := by decide +kernel
theorem d_PC_search_20 : decode b_PC_search 20 = .ok (.getfield 30, 3) := by decide +kernel
theorem d_PC_search_23 : decode b_PC_search 23 = .ok (.aload_n 1, 1) := by decide +kernel
theorem d_PC_search_24 : decode b_PC_search 24 = .ok (.getfield 95, 3) := by decide +kernel
theorem d_PC_search_27 : decode b_PC_search 27 = .ok (.invokevirtual 155, 3) := by decide +kernel
theorem d_PC_search_30 : decode b_PC_search 30 = .ok (.iconst 1, 1) := by decide +kernel
theorem d_PC_search_31 : decode b_PC_search 31 = .ok (.iadd, 1) := by decide +kernel
theorem d_PC_search_32 : decode b_PC_search 32 = .ok (.istore 4, 2) := by decide +kernel
theorem d_PC_search_34 : decode b_PC_search 34 = .ok (.iload_n 2, 1) := by decide +kernel
theorem d_PC_search_35 : decode b_PC_search 35 = .ok (.iconst 1, 1) := by decide +kernel
theorem d_PC_search_36 : decode b_PC_search 36 = .ok (.if_icmp .ne 19, 3) := by decide +kernel
theorem d_PC_search_39 : decode b_PC_search 39 = .ok (.aload_n 0, 1) := by decide +kernel
theorem d_PC_search_40 : decode b_PC_search 40 = .ok (.aload_n 1, 1) := by decide +kernel
theorem d_PC_search_41 : decode b_PC_search 41 = .ok (.iload 4, 2) := by decide +kernel
theorem d_PC_search_43 : decode b_PC_search 43 = .ok (.aload_n 0, 1) := by decide +kernel
theorem d_PC_search_44 : decode b_PC_search 44 = .ok (.getfield 30, 3) := by decide +kernel
theorem d_PC_search_47 : decode b_PC_search 47 = .ok (.getfield 181, 3) := by decide +kernel
theorem d_PC_search_50 : decode b_PC_search 50 = .ok (.iload_n 3, 1) := by decide +kernel
theorem d_PC_search_51 : decode b_PC_search 51 = .ok (.invokevirtual 195, 3) := by decide +kernel
theorem d_PC_search_54 : decode b_PC_search 54 = .ok (.areturn, 1) := by decide +kernel
theorem d_PC_search_55 : decode b_PC_search 55 = .ok (.aload_n 0, 1) := by decide +kernel
theorem d_PC_search_56 : decode b_PC_search 56 = .ok (.getfield 30, 3) := by decide +kernel
theorem d_PC_search_59 : decode b_PC_search 59 = .ok (.aload_n 1, 1) := by decide +kernel
theorem d_PC_search_60 : decode b_PC_search 60 = .ok (.getfield 83, 3) := by decide +kernel
theorem d_PC_search_63 : decode b_PC_search 63 = .ok (.invokevirtual 155, 3) := by decide +kernel
theorem d_PC_search_66 : decode b_PC_search 66 = .ok (.istore 5, 2) := by decide +kernel
theorem d_PC_search_68 : decode b_PC_search 68 = .ok (.aload_n 1, 1) := by decide +kernel
theorem d_PC_search_69 : decode b_PC_search 69 = .ok (.getfield 95, 3) := by decide +kernel
theorem d_PC_search_72 : decode b_PC_search 72 = .ok (.aload_n 1, 1) := by decide +kernel
theorem d_PC_search_73 : decode b_PC_search 73 = .ok (.getfield 83, 3) := by decide +kernel
theorem d_PC_search_76 : decode b_PC_search 76 = .ok (.invokestatic 203, 3) := by decide +kernel
theorem d_PC_search_79 : decode b_PC_search 79 = .ok (.istore 6, 2) := by decide +kernel
theorem d_PC_search_81 : decode b_PC_search 81 = .ok (.iload 6, 2) := by decide +kernel
theorem d_PC_search_83 : decode b_PC_search 83 = .ok (.ifCond .eq 8, 3) := by decide +kernel
theorem d_PC_search_86 : decode b_PC_search 86 = .ok (.iload 4, 2) := by decide +kernel
theorem d_PC_search_88 : decode b_PC_search 88 = .ok (.goto 7, 3) := by decide +kernel
theorem d_PC_search_91 : decode b_PC_search 91 = .ok (.iload 5, 2) := by decide +kernel
theorem d_PC_search_93 : decode b_PC_search 93 = .ok (.iconst 1, 1) := by decide +kernel
theorem d_PC_search_94 : decode b_PC_search 94 = .ok (.iadd, 1) := by decide +kernel
theorem d_PC_search_95 : decode b_PC_search 95 = .ok (.istore 7, 2) := by decide +kernel
theorem d_PC_search_97 : decode b_PC_search 97 = .ok (.aload_n 0, 1) := by decide +kernel
theorem d_PC_search_98 : decode b_PC_search 98 = .ok (.aload_n 1, 1) := by decide +kernel
theorem d_PC_search_99 : decode b_PC_search 99 = .ok (.iload 7, 2) := by decide +kernel
theorem d_PC_search_101 : decode b_PC_search 101 = .ok (.aload_n 0, 1) := by decide +kernel
theorem d_PC_search_102 : decode b_PC_search 102 = .ok (.getfield 30, 3) := by decide +kernel
theorem d_PC_search_105 : decode b_PC_search 105 = .ok (.iload 5, 2) := by decide +kernel
theorem d_PC_search_107 : decode b_PC_search 107 = .ok (.invokevirtual 187, 3) := by decide +kernel
theorem d_PC_search_110 : decode b_PC_search 110 = .ok (.iload_n 3, 1) := by decide +kernel
theorem d_PC_search_111 : decode b_PC_search 111 = .ok (.invokevirtual 195, 3) := by decide +kernel
theorem d_PC_search_114 : decode b_PC_search 114 = .ok (.areturn, 1) := by decide +kernel
theorem d_PC_firstAsParts_0 : decode b_PC_firstAsParts 0 = .ok (.iload_n 2, 1) := by decide +kernel
theorem d_PC_firstAsParts_1 : decode b_PC_firstAsParts 1 = .ok (.istore 5, 2) := by decide +kernel
theorem d_PC_firstAsParts_3 : decode b_PC_firstAsParts 3 = .ok (.iload 5, 2) := by decide +kernel
theorem d_PC_firstAsParts_5 : decode b_PC_firstAsParts 5 = .ok (.iload_n 3, 1) := by decide +kernel
theorem d_PC_firstAsParts_6 : decode b_PC_firstAsParts 6 = .ok (.if_icmp .ge 31, 3) := by decide +kernel
theorem d_PC_firstAsParts_9 : decode b_PC_firstAsParts 9 = .ok (.aload_n 0, 1) := by decide +kernel
theorem d_PC_firstAsParts_10 : decode b_PC_firstAsParts 10 = .ok (.aload_n 1, 1) := by decide +kernel
theorem d_PC_firstAsParts_11 : decode b_PC_firstAsParts 11 = .ok (.iload 5, 2) := by decide +kernel
theorem d_PC_firstAsParts_13 : decode b_PC_firstAsParts 13 = .ok (.iload 4, 2) := by decide +kernel
theorem d_PC_firstAsParts_15 : decode b_PC_firstAsParts 15 = .ok (.invokevirtual 207, 3) := by decide +kernel
theorem d_PC_firstAsParts_18 : decode b_PC_firstAsParts 18 = .ok (.ifCond .eq 13, 3) := by decide +kernel
theorem d_PC_firstAsParts_21 : decode b_PC_firstAsParts 21 = .ok (.aload_n 0, 1) := by decide +kernel
theorem d_PC_firstAsParts_22 : decode b_PC_firstAsParts 22 = .ok (.getfield 30, 3) := by decide +kernel
theorem d_PC_firstAsParts_25 : decode b_PC_firstAsParts 25 = .ok (.iload 5, 2) := by decide +kernel
theorem d_PC_firstAsParts_27 : decode b_PC_firstAsParts 27 = .ok (.invokevirtual 159, 3) := by decide +kernel
theorem d_PC_firstAsParts_30 : decode b_PC_firstAsParts 30 = .ok (.areturn, 1) := by decide +kernel
theorem d_PC_firstAsParts_31 : decode b_PC_firstAsParts 31 = .ok (.iinc 5 1, 3) := by decide +kernel
theorem d_PC_firstAsParts_34 : decode b_PC_firstAsParts 34 = .ok (.goto (-31), 3) := by decide +kernel
theorem d_PC_firstAsParts_37 : decode b_PC_firstAsParts 37 = .ok (.aconst_null, 1) := by decide +kernel
theorem d_PC_firstAsParts_38 : decode b_PC_firstAsParts 38 = .ok (.areturn, 1) := by decide +kernel
theorem d_PC_isAsParts_0 : decode b_PC_isAsParts 0 = .ok (.aload_n 0, 1) := by decide +kernel
theorem d_PC_isAsParts_1 : decode b_PC_isAsParts 1 = .ok (.getfield 30, 3) := by decide +kernel
theorem d_PC_isAsParts_4 : decode b_PC_isAsParts 4 = .ok (.iload_n 2, 1) := by decide +kernel
theorem d_PC_isAsParts_5 : decode b_PC_isAsParts 5 = .ok (.invokevirtual 159, 3) := by decide +kernel
theorem d_PC_isAsParts_8 : decode b_PC_isAsParts 8 = .ok (.astore 4, 2) := by decide +kernel
theorem d_PC_isAsParts_10 : decode b_PC_isAsParts 10 = .ok (.aload 4, 2) := by decide +kernel
theorem d_PC_isAsParts_12 : decode b_PC_isAsParts 12 = .ok (.ifnull 26, 3) := by decide +kernel
theorem d_PC_isAsParts_15 : decode b_PC_isAsParts 15 = .ok (.iload_n 3, 1) := by decide +kernel
theorem d_PC_isAsParts_16 : decode b_PC_isAsParts 16 = .ok (.ifCond .le 24, 3) := by decide +kernel
theorem d_PC_isAsParts_19 : decode b_PC_isAsParts 19 = .ok (.aload 4, 2) := by decide +kernel
theorem d_PC_isAsParts_21 : decode b_PC_isAsParts 21 = .ok (.getfield 174, 3) := by decide +kernel
theorem d_PC_isAsParts_24 : decode b_PC_isAsParts 24 = .ok (.aload_n 0, 1) := by decide +kernel
theorem d_PC_isAsParts_25 : decode b_PC_isAsParts 25 = .ok (.getfield 23, 3) := by decide +kernel
theorem d_PC_isAsParts_28 : decode b_PC_isAsParts 28 = .ok (.iload_n 3, 1) := by decide +kernel
theorem d_PC_isAsParts_29 : decode b_PC_isAsParts 29 = .ok (.iconst 1, 1) := by decide +kernel
theorem d_PC_isAsParts_30 : decode b_PC_isAsParts 30 = .ok (.isub, 1) := by decide +kernel
theorem d_PC_isAsParts_31 : decode b_PC_isAsParts 31 = .ok (.aaload, 1) := by decide +kernel
theorem d_PC_isAsParts_32 : decode b_PC_isAsParts 32 = .ok (.getfield 117, 3) := by decide +kernel
theorem d_PC_isAsParts_35 : decode b_PC_isAsParts 35 = .ok (.if_acmp .eq 5, 3) := by decide +kernel
theorem d_PC_isAsParts_38 : decode b_PC_isAsParts 38 = .ok (.iconst 0, 1) := by decide +kernel
theorem d_PC_isAsParts_39 : decode b_PC_isAsParts 39 = .ok (.ireturn, 1) := by decide +kernel
theorem d_PC_isAsParts_40 : decode b_PC_isAsParts 40 = .ok (.iload_n 3, 1) := by decide +kernel
theorem d_PC_isAsParts_41 : decode b_PC_isAsParts 41 = .ok (.iconst 1, 1) := by decide +kernel
theorem d_PC_isAsParts_42 : decode b_PC_isAsParts 42 = .ok (.isub, 1) := by decide +kernel
theorem d_PC_isAsParts_43 : decode b_PC_isAsParts 43 = .ok (.istore 5, 2) := by decide +kernel
theorem d_PC_isAsParts_45 : decode b_PC_isAsParts 45 = .ok (.iload 5, 2) := by decide +kernel
theorem d_PC_isAsParts_47 : decode b_PC_isAsParts 47 = .ok (.ifCond .lt 51, 3) := by decide +kernel
theorem d_PC_isAsParts_50 : decode b_PC_isAsParts 50 = .ok (.aload 4, 2) := by decide +kernel
theorem d_PC_isAsParts_52 : decode b_PC_isAsParts 52 = .ok (.aload_n 0, 1) := by decide +kernel
theorem d_PC_isAsParts_53 : decode b_PC_isAsParts 53 = .ok (.getfield 23, 3) := by decide +kernel
theorem d_PC_isAsParts_56 : decode b_PC_isAsParts 56 = .ok (.iload 5, 2) := by decide +kernel
theorem d_PC_isAsParts_58 : decode b_PC_isAsParts 58 = .ok (.aaload, 1) := by decide +kernel
theorem d_PC_isAsParts_59 : decode b_PC_isAsParts 59 = .ok (.getfield 117, 3) := by decide +kernel
theorem d_PC_isAsParts_62 : decode b_PC_isAsParts 62 = .ok (.invokestatic 199, 3) := by decide +kernel
theorem d_PC_isAsParts_65 : decode b_PC_isAsParts 65 = .ok (.astore 6, 2) := by decide +kernel
theorem d_PC_isAsParts_67 : decode b_PC_isAsParts 67 = .ok (.aload 6, 2) := by decide +kernel
theorem d_PC_isAsParts_69 : decode b_PC_isAsParts 69 = .ok (.ifnull 21, 3) := by decide +kernel
theorem d_PC_isAsParts_72 : decode b_PC_isAsParts 72 = .ok (.aload_n 0, 1) := by decide +kernel
theorem d_PC_isAsParts_73 : decode b_PC_isAsParts 73 = .ok (.aload_n 1, 1) := by decide +kernel
theorem d_PC_isAsParts_74 : decode b_PC_isAsParts 74 = .ok (.aload 6, 2) := by decide +kernel
theorem d_PC_isAsParts_76 : decode b_PC_isAsParts 76 = .ok (.aload_n 0, 1) := by decide +kernel
theorem d_PC_isAsParts_77 : decode b_PC_isAsParts 77 = .ok (.getfield 23, 3) := by decide +kernel
theorem d_PC_isAsParts_80 : decode b_PC_isAsParts 80 = .ok (.iload 5, 2) := by decide +kernel
theorem d_PC_isAsParts_82 : decode b_PC_isAsParts 82 = .ok (.aaload, 1) := by decide +kernel
theorem d_PC_isAsParts_83 : decode b_PC_isAsParts 83 = .ok (.iload_n 2, 1) := by decide +kernel
theorem d_PC_isAsParts_84 : decode b_PC_isAsParts 84 = .ok (.invokevirtual 211, 3) := by decide +kernel
theorem d_PC_isAsParts_87 : decode b_PC_isAsParts 87 = .ok (.ifCond .ne 5, 3) := by decide +kernel
theorem d_PC_isAsParts_90 : decode b_PC_isAsParts 90 = .ok (.iconst 0, 1) := by decide +kernel
theorem d_PC_isAsParts_91 : decode b_PC_isAsParts 91 = .ok (.ireturn, 1) := by decide +kernel
theorem d_PC_isAsParts_92 : decode b_PC_isAsParts 92 = .ok (.iinc 5 (-1), 3) := by decide +kernel
theorem d_PC_isAsParts_95 : decode b_PC_isAsParts 95 = .ok (.goto (-50), 3) := by decide +kernel
theorem d_PC_isAsParts_98 : decode b_PC_isAsParts 98 = .ok (.iconst 1, 1) := by decide +kernel
theorem d_PC_isAsParts_99 : decode b_PC_isAsParts 99 = .ok (.ireturn, 1) := by decide +kernel
theorem d_PC_isAsPart_0 : decode b_PC_isAsPart 0 = .ok (.aload_n 3, 1) := by decide +kernel
theorem d_PC_isAsPart_1 : decode b_PC_isAsPart 1 = .ok (.aload_n 2, 1) := by decide +kernel
theorem d_PC_isAsPart_2 : decode b_PC_isAsPart 2 = .ok (.getfield 178, 3) := by decide +kernel
theorem d_PC_isAsPart_5 : decode b_PC_isAsPart 5 = .ok (.invokevirtual 215, 3) := by decide +kernel
theorem d_PC_isAsPart_8 : decode b_PC_isAsPart 8 = .ok (.ifCond .ne 5, 3) := by decide +kernel
theorem d_PC_isAsPart_11 : decode b_PC_isAsPart 11 = .ok (.iconst 0, 1) := by decide +kernel
theorem d_PC_isAsPart_12 : decode b_PC_isAsPart 12 = .ok (.ireturn, 1) := by decide +kernel
theorem d_PC_isAsPart_13 : decode b_PC_isAsPart 13 = .ok (.aload_n 3, 1) := by decide +kernel
theorem d_PC_isAsPart_14 : decode b_PC_isAsPart 14 = .ok (.iconst 2, 1) := by decide +kernel
theorem d_PC_isAsPart_15 : decode b_PC_isAsPart 15 = .ok (.invokevirtual 219, 3) := by decide +kernel
theorem d_PC_isAsPart_18 : decode b_PC_isAsPart 18 = .ok (.ifCond .eq 20, 3) := by decide +kernel
theorem d_PC_isAsPart_21 : decode b_PC_isAsPart 21 = .ok (.aload_n 1, 1) := by decide +kernel
theorem d_PC_isAsPart_22 : decode b_PC_isAsPart 22 = .ok (.getfield 95, 3) := by decide +kernel
theorem d_PC_isAsPart_25 : decode b_PC_isAsPart 25 = .ok (.aload_n 3, 1) := by decide +kernel
theorem d_PC_isAsPart_26 : decode b_PC_isAsPart 26 = .ok (.getfield 117, 3) := by decide +kernel
theorem d_PC_isAsPart_29 : decode b_PC_isAsPart 29 = .ok (.invokestatic 199, 3) := by decide +kernel
theorem d_PC_isAsPart_32 : decode b_PC_isAsPart 32 = .ok (.aload_n 2, 1) := by decide +kernel
theorem d_PC_isAsPart_33 : decode b_PC_isAsPart 33 = .ok (.if_acmp .eq 5, 3) := by decide +kernel
theorem d_PC_isAsPart_36 : decode b_PC_isAsPart 36 = .ok (.iconst 0, 1) := by decide +kernel
theorem d_PC_isAsPart_37 : decode b_PC_isAsPart 37 = .ok (.ireturn, 1) := by decide +kernel
theorem d_PC_isAsPart_38 : decode b_PC_isAsPart 38 = .ok (.aload_n 3, 1) := by decide +kernel
theorem d_PC_isAsPart_39 : decode b_PC_isAsPart 39 = .ok (.iconst 1, 1) := by decide +kernel
theorem d_PC_isAsPart_40 : decode b_PC_isAsPart 40 = .ok (.invokevirtual 219, 3) := by decide +kernel
theorem d_PC_isAsPart_43 : decode b_PC_isAsPart 43 = .ok (.ifCond .eq 17, 3) := by decide +kernel
theorem d_PC_isAsPart_46 : decode b_PC_isAsPart 46 = .ok (.aload_n 0, 1) := by decide +kernel
theorem d_PC_isAsPart_47 : decode b_PC_isAsPart 47 = .ok (.getfield 30, 3) := by decide +kernel
theorem d_PC_isAsPart_50 : decode b_PC_isAsPart 50 = .ok (.iload 4, 2) := by decide +kernel
theorem d_PC_isAsPart_52 : decode b_PC_isAsPart 52 = .ok (.aload_n 2, 1) := by decide +kernel
theorem d_PC_isAsPart_53 : decode b_PC_isAsPart 53 = .ok (.aload_n 3, 1) := by decide +kernel
theorem d_PC_isAsPart_54 : decode b_PC_isAsPart 54 = .ok (.invokevirtual 222, 3) := by decide +kernel
theorem d_PC_isAsPart_57 : decode b_PC_isAsPart 57 = .ok (.ifCond .ne 7, 3) := by decide +kernel
theorem d_PC_isAsPart_60 : decode b_PC_isAsPart 60 = .ok (.iconst 1, 1) := by decide +kernel
theorem d_PC_isAsPart_61 : decode b_PC_isAsPart 61 = .ok (.goto 4, 3) := by decide +kernel
theorem d_PC_isAsPart_64 : decode b_PC_isAsPart 64 = .ok (.iconst 0, 1) := by decide +kernel
theorem d_PC_isAsPart_65 : decode b_PC_isAsPart 65 = .ok (.ireturn, 1) := by decide +kernel
theorem d_PC_tellMissing_0 : decode b_PC_tellMissing 0 = .ok (.iload_n 1, 1) := by decide +kernel
theorem d_PC_tellMissing_1 : decode b_PC_tellMissing 1 = .ok (.iconst 1, 1) := by decide +kernel
theorem d_PC_tellMissing_2 : decode b_PC_tellMissing 2 = .ok (.if_icmp .eq 5, 3) := by decide +kernel
theorem d_PC_tellMissing_5 : decode b_PC_tellMissing 5 = .ok (.iconst 1, 1) := by decide +kernel
theorem d_PC_tellMissing_6 : decode b_PC_tellMissing 6 = .ok (.ireturn, 1) := by decide +kernel
theorem d_PC_tellMissing_7 : decode b_PC_tellMissing 7 = .ok (.aload_n 0, 1) := by decide +kernel
theorem d_PC_tellMissing_8 : decode b_PC_tellMissing 8 = .ok (.aconst_null, 1) := by decide +kernel
theorem d_PC_tellMissing_9 : decode b_PC_tellMissing 9 = .ok (.putfield 95, 3) := by decide +kernel
theorem d_PC_tellMissing_12 : decode b_PC_tellMissing 12 = .ok (.iconst 2, 1) := by decide +kernel
theorem d_PC_tellMissing_13 : decode b_PC_tellMissing 13 = .ok (.ireturn, 1) := by decide +kernel
theorem d_PC_stepStatus_0 : decode b_PC_stepStatus 0 = .ok (.aload_n 0, 1) := by decide +kernel
theorem d_PC_stepStatus_1 : decode b_PC_stepStatus 1 = .ok (.ifnull 14, 3) := by decide +kernel
theorem d_PC_stepStatus_4 : decode b_PC_stepStatus 4 = .ok (.aload_n 1, 1) := by decide +kernel
theorem d_PC_stepStatus_5 : decode b_PC_stepStatus 5 = .ok (.getfield 174, 3) := by decide +kernel
theorem d_PC_stepStatus_8 : decode b_PC_stepStatus 8 = .ok (.aload_n 0, 1) := by decide +kernel
theorem d_PC_stepStatus_9 : decode b_PC_stepStatus 9 = .ok (.getfield 174, 3) := by decide +kernel
theorem d_PC_stepStatus_12 : decode b_PC_stepStatus 12 = .ok (.if_acmp .ne 5, 3) := by decide +kernel
theorem d_PC_stepStatus_15 : decode b_PC_stepStatus 15 = .ok (.iconst 0, 1) := by decide +kernel
theorem d_PC_stepStatus_16 : decode b_PC_stepStatus 16 = .ok (.ireturn, 1) := by decide +kernel
theorem d_PC_stepStatus_17 : decode b_PC_stepStatus 17 = .ok (.aload_n 1, 1) := by decide +kernel
theorem d_PC_stepStatus_18 : decode b_PC_stepStatus 18 = .ok (.getfield 174, 3) := by decide +kernel
theorem d_PC_stepStatus_21 : decode b_PC_stepStatus 21 = .ok (.getfield 47, 3) := by decide +kernel
theorem d_PC_stepStatus_24 : decode b_PC_stepStatus 24 = .ok (.aload_n 0, 1) := by decide +kernel
theorem d_PC_stepStatus_25 : decode b_PC_stepStatus 25 = .ok (.getfield 174, 3) := by decide +kernel
theorem d_PC_stepStatus_28 : decode b_PC_stepStatus 28 = .ok (.getfield 47, 3) := by decide +kernel
theorem d_PC_stepStatus_31 : decode b_PC_stepStatus 31 = .ok (.if_icmp .ge 5, 3) := by decide +kernel
theorem d_PC_stepStatus_34 : decode b_PC_stepStatus 34 = .ok (.iconst 3, 1) := by decide +kernel
theorem d_PC_stepStatus_35 : decode b_PC_stepStatus 35 = .ok (.ireturn, 1) := by decide +kernel
theorem d_PC_stepStatus_36 : decode b_PC_stepStatus 36 = .ok (.aload_n 1, 1) := by decide +kernel
theorem d_PC_stepStatus_37 : decode b_PC_stepStatus 37 = .ok (.getfield 174, 3) := by decide +kernel
theorem d_PC_stepStatus_40 : decode b_PC_stepStatus 40 = .ok (.getfield 47, 3) := by decide +kernel
theorem d_PC_stepStatus_43 : decode b_PC_stepStatus 43 = .ok (.aload_n 0, 1) := by decide +kernel
theorem d_PC_stepStatus_44 : decode b_PC_stepStatus 44 = .ok (.getfield 174, 3) := by decide +kernel
theorem d_PC_stepStatus_47 : decode b_PC_stepStatus 47 = .ok (.getfield 47, 3) := by decide +kernel
theorem d_PC_stepStatus_50 : decode b_PC_stepStatus 50 = .ok (.if_icmp .ne 7, 3) := by decide +kernel
theorem d_PC_stepStatus_53 : decode b_PC_stepStatus 53 = .ok (.iconst 4, 1) := by decide +kernel
theorem d_PC_stepStatus_54 : decode b_PC_stepStatus 54 = .ok (.goto 4, 3) := by decide +kernel
theorem d_PC_stepStatus_57 : decode b_PC_stepStatus 57 = .ok (.iconst 0, 1) := by decide +kernel
theorem d_PC_stepStatus_58 : decode b_PC_stepStatus 58 = .ok (.ireturn, 1) := by decide +kernel
theorem d_PC_keepPath_0 : decode b_PC_keepPath 0 = .ok (.iconst 0, 1) := by decide +kernel
theorem d_PC_keepPath_1 : decode b_PC_keepPath 1 = .ok (.istore_n 3, 1) := by decide +kernel
theorem d_PC_keepPath_2 : decode b_PC_keepPath 2 = .ok (.iload_n 3, 1) := by decide +kernel
theorem d_PC_keepPath_3 : decode b_PC_keepPath 3 = .ok (.bipush 8, 2) := by decide +kernel
theorem d_PC_keepPath_5 : decode b_PC_keepPath 5 = .ok (.if_icmp .ge 16, 3) := by decide +kernel
theorem d_PC_keepPath_8 : decode b_PC_keepPath 8 = .ok (.aload_n 0, 1) := by decide +kernel
theorem d_PC_keepPath_9 : decode b_PC_keepPath 9 = .ok (.getfield 34, 3) := by decide +kernel
theorem d_PC_keepPath_12 : decode b_PC_keepPath 12 = .ok (.iload_n 3, 1) := by decide +kernel
theorem d_PC_keepPath_13 : decode b_PC_keepPath 13 = .ok (.lconst 0, 1) := by decide +kernel
theorem d_PC_keepPath_14 : decode b_PC_keepPath 14 = .ok (.lastore, 1) := by decide +kernel
theorem d_PC_keepPath_15 : decode b_PC_keepPath 15 = .ok (.iinc 3 1, 3) := by decide +kernel
theorem d_PC_keepPath_18 : decode b_PC_keepPath 18 = .ok (.goto (-16), 3) := by decide +kernel
theorem d_PC_keepPath_21 : decode b_PC_keepPath 21 = .ok (.aload_n 0, 1) := by decide +kernel
theorem d_PC_keepPath_22 : decode b_PC_keepPath 22 = .ok (.aload_n 1, 1) := by decide +kernel
theorem d_PC_keepPath_23 : decode b_PC_keepPath 23 = .ok (.invokevirtual 226, 3) := by decide +kernel
theorem d_PC_keepPath_26 : decode b_PC_keepPath 26 = .ok (.iconst 0, 1) := by decide +kernel
theorem d_PC_keepPath_27 : decode b_PC_keepPath 27 = .ok (.istore_n 3, 1) := by decide +kernel
theorem d_PC_keepPath_28 : decode b_PC_keepPath 28 = .ok (.iload_n 3, 1) := by decide +kernel
theorem d_PC_keepPath_29 : decode b_PC_keepPath 29 = .ok (.iload_n 2, 1) := by decide +kernel
theorem d_PC_keepPath_30 : decode b_PC_keepPath 30 = .ok (.if_icmp .ge 40, 3) := by decide +kernel
theorem d_PC_keepPath_33 : decode b_PC_keepPath 33 = .ok (.aload_n 0, 1) := by decide +kernel
theorem d_PC_keepPath_34 : decode b_PC_keepPath 34 = .ok (.getfield 23, 3) := by decide +kernel
theorem d_PC_keepPath_37 : decode b_PC_keepPath 37 = .ok (.iload_n 3, 1) := by decide +kernel
theorem d_PC_keepPath_38 : decode b_PC_keepPath 38 = .ok (.aaload, 1) := by decide +kernel
theorem d_PC_keepPath_39 : decode b_PC_keepPath 39 = .ok (.bipush 8, 2) := by decide +kernel
theorem d_PC_keepPath_41 : decode b_PC_keepPath 41 = .ok (.invokevirtual 219, 3) := by decide +kernel
theorem d_PC_keepPath_44 : decode b_PC_keepPath 44 = .ok (.ifCond .eq 20, 3) := by decide +kernel
theorem d_PC_keepPath_47 : decode b_PC_keepPath 47 = .ok (.aload_n 0, 1) := by decide +kernel
theorem d_PC_keepPath_48 : decode b_PC_keepPath 48 = .ok (.aload_n 1, 1) := by decide +kernel
theorem d_PC_keepPath_49 : decode b_PC_keepPath 49 = .ok (.aload_n 0, 1) := by decide +kernel
theorem d_PC_keepPath_50 : decode b_PC_keepPath 50 = .ok (.getfield 23, 3) := by decide +kernel
theorem d_PC_keepPath_53 : decode b_PC_keepPath 53 = .ok (.iload_n 3, 1) := by decide +kernel
theorem d_PC_keepPath_54 : decode b_PC_keepPath 54 = .ok (.aaload, 1) := by decide +kernel
theorem d_PC_keepPath_55 : decode b_PC_keepPath 55 = .ok (.getfield 117, 3) := by decide +kernel
theorem d_PC_keepPath_58 : decode b_PC_keepPath 58 = .ok (.invokestatic 199, 3) := by decide +kernel
theorem d_PC_keepPath_61 : decode b_PC_keepPath 61 = .ok (.invokevirtual 226, 3) := by decide +kernel
theorem d_PC_keepPath_64 : decode b_PC_keepPath 64 = .ok (.iinc 3 1, 3) := by decide +kernel
theorem d_PC_keepPath_67 : decode b_PC_keepPath 67 = .ok (.goto (-39), 3) := by decide +kernel
theorem d_PC_keepPath_70 : decode b_PC_keepPath 70 = .ok (.return_, 1) := by decide +kernel
theorem d_PC_keepValue_0 : decode b_PC_keepValue 0 = .ok (.aload_n 1, 1) := by decide +kernel
theorem d_PC_keepValue_1 : decode b_PC_keepValue 1 = .ok (.ifnull 44, 3) := by decide +kernel
theorem d_PC_keepValue_4 : decode b_PC_keepValue 4 = .ok (.aload_n 1, 1) := by decide +kernel
theorem d_PC_keepValue_5 : decode b_PC_keepValue 5 = .ok (.getfield 174, 3) := by decide +kernel
theorem d_PC_keepValue_8 : decode b_PC_keepValue 8 = .ok (.getfield 47, 3) := by decide +kernel
theorem d_PC_keepValue_11 : decode b_PC_keepValue 11 = .ok (.iconst 1, 1) := by decide +kernel
theorem d_PC_keepValue_12 : decode b_PC_keepValue 12 = .ok (.if_icmp .lt 33, 3) := by decide +kernel
theorem d_PC_keepValue_15 : decode b_PC_keepValue 15 = .ok (.aload_n 1, 1) := by decide +kernel
theorem d_PC_keepValue_16 : decode b_PC_keepValue 16 = .ok (.getfield 174, 3) := by decide +kernel
theorem d_PC_keepValue_19 : decode b_PC_keepValue 19 = .ok (.getfield 47, 3) := by decide +kernel
theorem d_PC_keepValue_22 : decode b_PC_keepValue 22 = .ok (.bipush 8, 2) := by decide +kernel
theorem d_PC_keepValue_24 : decode b_PC_keepValue 24 = .ok (.if_icmp .gt 21, 3) := by decide +kernel
theorem d_PC_keepValue_27 : decode b_PC_keepValue 27 = .ok (.aload_n 0, 1) := by decide +kernel
theorem d_PC_keepValue_28 : decode b_PC_keepValue 28 = .ok (.getfield 34, 3) := by decide +kernel
theorem d_PC_keepValue_31 : decode b_PC_keepValue 31 = .ok (.aload_n 1, 1) := by decide +kernel
theorem d_PC_keepValue_32 : decode b_PC_keepValue 32 = .ok (.getfield 174, 3) := by decide +kernel
theorem d_PC_keepValue_35 : decode b_PC_keepValue 35 = .ok (.getfield 47, 3) := by decide +kernel
theorem d_PC_keepValue_38 : decode b_PC_keepValue 38 = .ok (.iconst 1, 1) := by decide +kernel
theorem d_PC_keepValue_39 : decode b_PC_keepValue 39 = .ok (.isub, 1) := by decide +kernel
theorem d_PC_keepValue_40 : decode b_PC_keepValue 40 = .ok (.aload_n 1, 1) := by decide +kernel
theorem d_PC_keepValue_41 : decode b_PC_keepValue 41 = .ok (.getfield 151, 3) := by decide +kernel
theorem d_PC_keepValue_44 : decode b_PC_keepValue 44 = .ok (.lastore, 1) := by decide +kernel
theorem d_PC_keepValue_45 : decode b_PC_keepValue 45 = .ok (.return_, 1) := by decide +kernel
theorem d_PC_newParentage_0 : decode b_PC_newParentage 0 = .ok (.iload 4, 2) := by decide +kernel
theorem d_PC_newParentage_2 : decode b_PC_newParentage 2 = .ok (.iconst 1, 1) := by decide +kernel
theorem d_PC_newParentage_3 : decode b_PC_newParentage 3 = .ok (.isub, 1) := by decide +kernel
theorem d_PC_newParentage_4 : decode b_PC_newParentage 4 = .ok (.istore 5, 2) := by decide +kernel
theorem d_PC_newParentage_6 : decode b_PC_newParentage 6 = .ok (.iload 5, 2) := by decide +kernel
theorem d_PC_newParentage_8 : decode b_PC_newParentage 8 = .ok (.ifCond .lt 38, 3) := by decide +kernel
theorem d_PC_newParentage_11 : decode b_PC_newParentage 11 = .ok (.aload_n 0, 1) := by decide +kernel
theorem d_PC_newParentage_12 : decode b_PC_newParentage 12 = .ok (.getfield 23, 3) := by decide +kernel
theorem d_PC_newParentage_15 : decode b_PC_newParentage 15 = .ok (.iload 5, 2) := by decide +kernel
theorem d_PC_newParentage_17 : decode b_PC_newParentage 17 = .ok (.aaload, 1) := by decide +kernel
theorem d_PC_newParentage_18 : decode b_PC_newParentage 18 = .ok (.iconst 4, 1) := by decide +kernel
theorem d_PC_newParentage_19 : decode b_PC_newParentage 19 = .ok (.invokevirtual 219, 3) := by decide +kernel
theorem d_PC_newParentage_22 : decode b_PC_newParentage 22 = .ok (.ifCond .eq 18, 3) := by decide +kernel
theorem d_PC_newParentage_25 : decode b_PC_newParentage 25 = .ok (.aload_n 3, 1) := by decide +kernel
theorem d_PC_newParentage_26 : decode b_PC_newParentage 26 = .ok (.aload_n 0, 1) := by decide +kernel
theorem d_PC_newParentage_27 : decode b_PC_newParentage 27 = .ok (.getfield 23, 3) := by decide +kernel
theorem d_PC_newParentage_30 : decode b_PC_newParentage 30 = .ok (.iload 5, 2) := by decide +kernel
theorem d_PC_newParentage_32 : decode b_PC_newParentage 32 = .ok (.aaload, 1) := by decide +kernel
theorem d_PC_newParentage_33 : decode b_PC_newParentage 33 = .ok (.getfield 117, 3) := by decide +kernel
theorem d_PC_newParentage_36 : decode b_PC_newParentage 36 = .ok (.invokestatic 199, 3) := by decide +kernel
theorem d_PC_newParentage_39 : decode b_PC_newParentage 39 = .ok (.areturn, 1) := by decide +kernel
theorem d_PC_newParentage_40 : decode b_PC_newParentage 40 = .ok (.iinc 5 (-1), 3) := by decide +kernel
theorem d_PC_newParentage_43 : decode b_PC_newParentage 43 = .ok (.goto (-37), 3) := by decide +kernel
theorem d_PC_newParentage_46 : decode b_PC_newParentage 46 = .ok (.iload_n 2, 1) := by decide +kernel
theorem d_PC_newParentage_47 : decode b_PC_newParentage 47 = .ok (.iconst 2, 1) := by decide +kernel
theorem d_PC_newParentage_48 : decode b_PC_newParentage 48 = .ok (.if_icmp .ne 10, 3) := by decide +kernel
theorem d_PC_newParentage_51 : decode b_PC_newParentage 51 = .ok (.aload_n 1, 1) := by decide +kernel
theorem d_PC_newParentage_52 : decode b_PC_newParentage 52 = .ok (.getfield 83, 3) := by decide +kernel
theorem d_PC_newParentage_55 : decode b_PC_newParentage 55 = .ok (.goto 4, 3) := by decide +kernel
theorem d_PC_newParentage_58 : decode b_PC_newParentage 58 = .ok (.aload_n 3, 1) := by decide +kernel
theorem d_PC_newParentage_59 : decode b_PC_newParentage 59 = .ok (.areturn, 1) := by decide +kernel
