theorem d_Md_init_0 : decode b_Md_init 0 = .ok (.aload_n 0, 1) := by decide +kernel
theorem d_Md_init_1 : decode b_Md_init 1 = .ok (.invokespecial 1, 3) := by decide +kernel
theorem d_Md_init_4 : decode b_Md_init 4 = .ok (.aload_n 0, 1) := by decide +kernel
theorem d_Md_init_5 : decode b_Md_init 5 = .ok (.bipush 21, 2) := by decide +kernel
theorem d_Md_init_7 : decode b_Md_init 7 = .ok (.newarray .int, 2) := by decide +kernel
theorem d_Md_init_9 : decode b_Md_init 9 = .ok (.putfield 7, 3) := by decide +kernel
theorem d_Md_init_12 : decode b_Md_init 12 = .ok (.aload_n 0, 1) := by decide +kernel
theorem d_Md_init_13 : decode b_Md_init 13 = .ok (.bipush 21, 2) := by decide +kernel
theorem d_Md_init_15 : decode b_Md_init 15 = .ok (.newarray .int, 2) := by decide +kernel
theorem d_Md_init_17 : decode b_Md_init 17 = .ok (.putfield 13, 3) := by decide +kernel
theorem d_Md_init_20 : decode b_Md_init 20 = .ok (.aload_n 0, 1) := by decide +kernel
theorem d_Md_init_21 : decode b_Md_init 21 = .ok (.bipush 21, 2) := by decide +kernel
theorem d_Md_init_23 : decode b_Md_init 23 = .ok (.newarray .int, 2) := by decide +kernel
theorem d_Md_init_25 : decode b_Md_init 25 = .ok (.putfield 16, 3) := by decide +kernel
theorem d_Md_init_28 : decode b_Md_init 28 = .ok (.aload_n 0, 1) := by decide +kernel
theorem d_Md_init_29 : decode b_Md_init 29 = .ok (.bipush 21, 2) := by decide +kernel
theorem d_Md_init_31 : decode b_Md_init 31 = .ok (.newarray .boolean, 2) := by decide +kernel
theorem d_Md_init_33 : decode b_Md_init 33 = .ok (.putfield 19, 3) := by decide +kernel
theorem d_Md_init_36 : decode b_Md_init 36 = .ok (.aload_n 0, 1) := by decide +kernel
theorem d_Md_init_37 : decode b_Md_init 37 = .ok (.sipush 1100, 3) := by decide +kernel
theorem d_Md_init_40 : decode b_Md_init 40 = .ok (.newarray .int, 2) := by decide +kernel
theorem d_Md_init_42 : decode b_Md_init 42 = .ok (.putfield 23, 3) := by decide +kernel
theorem d_Md_init_45 : decode b_Md_init 45 = .ok (.aload_n 0, 1) := by decide +kernel
theorem d_Md_init_46 : decode b_Md_init 46 = .ok (.sipush 1100, 3) := by decide +kernel
theorem d_Md_init_49 : decode b_Md_init 49 = .ok (.newarray .int, 2) := by decide +kernel
theorem d_Md_init_51 : decode b_Md_init 51 = .ok (.putfield 26, 3) := by decide +kernel
theorem d_Md_init_54 : decode b_Md_init 54 = .ok (.aload_n 0, 1) := by decide +kernel
theorem d_Md_init_55 : decode b_Md_init 55 = .ok (.sipush 1100, 3) := by decide +kernel
theorem d_Md_init_58 : decode b_Md_init 58 = .ok (.newarray .long, 2) := by decide +kernel
theorem d_Md_init_60 : decode b_Md_init 60 = .ok (.putfield 29, 3) := by decide +kernel
theorem d_Md_init_63 : decode b_Md_init 63 = .ok (.aload_n 0, 1) := by decide +kernel
theorem d_Md_init_64 : decode b_Md_init 64 = .ok (.sipush 1100, 3) := by decide +kernel
theorem d_Md_init_67 : decode b_Md_init 67 = .ok (.newarray .long, 2) := by decide +kernel
theorem d_Md_init_69 : decode b_Md_init 69 = .ok (.putfield 33, 3) := by decide +kernel
theorem d_Md_init_72 : decode b_Md_init 72 = .ok (.aload_n 0, 1) := by decide +kernel
theorem d_Md_init_73 : decode b_Md_init 73 = .ok (.bipush 10, 2) := by decide +kernel
theorem d_Md_init_75 : decode b_Md_init 75 = .ok (.newarray .int, 2) := by decide +kernel
theorem d_Md_init_77 : decode b_Md_init 77 = .ok (.putfield 36, 3) := by decide +kernel
theorem d_Md_init_80 : decode b_Md_init 80 = .ok (.aload_n 0, 1) := by decide +kernel
theorem d_Md_init_81 : decode b_Md_init 81 = .ok (.bipush 10, 2) := by decide +kernel
theorem d_Md_init_83 : decode b_Md_init 83 = .ok (.newarray .int, 2) := by decide +kernel
theorem d_Md_init_85 : decode b_Md_init 85 = .ok (.putfield 39, 3) := by decide +kernel
theorem d_Md_init_88 : decode b_Md_init 88 = .ok (.aload_n 0, 1) := by decide +kernel
theorem d_Md_init_89 : decode b_Md_init 89 = .ok (.bipush 10, 2) := by decide +kernel
theorem d_Md_init_91 : decode b_Md_init 91 = .ok (.newarray .boolean, 2) := by decide +kernel
theorem d_Md_init_93 : decode b_Md_init 93 = .ok (.putfield 42, 3) := by decide +kernel
theorem d_Md_init_96 : decode b_Md_init 96 = .ok (.aload_n 0, 1) := by decide +kernel
theorem d_Md_init_97 : decode b_Md_init 97 = .ok (.bipush 8, 2) := by decide +kernel
theorem d_Md_init_99 : decode b_Md_init 99 = .ok (.newarray .int, 2) := by decide +kernel
theorem d_Md_init_101 : decode b_Md_init 101 = .ok (.putfield 45, 3) := by decide +kernel
theorem d_Md_init_104 : decode b_Md_init 104 = .ok (.aload_n 0, 1) := by decide +kernel
theorem d_Md_init_105 : decode b_Md_init 105 = .ok (.bipush 8, 2) := by decide +kernel
theorem d_Md_init_107 : decode b_Md_init 107 = .ok (.newarray .int, 2) := by decide +kernel
theorem d_Md_init_109 : decode b_Md_init 109 = .ok (.putfield 48, 3) := by decide +kernel
theorem d_Md_init_112 : decode b_Md_init 112 = .ok (.aload_n 0, 1) := by decide +kernel
theorem d_Md_init_113 : decode b_Md_init 113 = .ok (.bipush 8, 2) := by decide +kernel
theorem d_Md_init_115 : decode b_Md_init 115 = .ok (.newarray .int, 2) := by decide +kernel
theorem d_Md_init_117 : decode b_Md_init 117 = .ok (.putfield 51, 3) := by decide +kernel
theorem d_Md_init_120 : decode b_Md_init 120 = .ok (.aload_n 0, 1) := by decide +kernel
theorem d_Md_init_121 : decode b_Md_init 121 = .ok (.bipush 8, 2) := by decide +kernel
theorem d_Md_init_123 : decode b_Md_init 123 = .ok (.newarray .long, 2) := by decide +kernel
theorem d_Md_init_125 : decode b_Md_init 125 = .ok (.putfield 54, 3) := by decide +kernel
theorem d_Md_init_128 : decode b_Md_init 128 = .ok (.aload_n 0, 1) := by decide +kernel
theorem d_Md_init_129 : decode b_Md_init 129 = .ok (.bipush 9, 2) := by decide +kernel
theorem d_Md_init_131 : decode b_Md_init 131 = .ok (.newarray .long, 2) := by decide +kernel
theorem d_Md_init_133 : decode b_Md_init 133 = .ok (.putfield 57, 3) := by decide +kernel
theorem d_Md_init_136 : decode b_Md_init 136 = .ok (.return_, 1) := by decide +kernel
theorem d_Md_isKind_0 : decode b_Md_isKind 0 = .ok (.iload_n 1, 1) := by decide +kernel
theorem d_Md_isKind_1 : decode b_Md_isKind 1 = .ok (.ifCond .le 15, 3) := by decide +kernel
theorem d_Md_isKind_4 : decode b_Md_isKind 4 = .ok (.iload_n 1, 1) := by decide +kernel
theorem d_Md_isKind_5 : decode b_Md_isKind 5 = .ok (.aload_n 0, 1) := by decide +kernel
theorem d_Md_isKind_6 : decode b_Md_isKind 6 = .ok (.getfield 60, 3) := by decide +kernel
theorem d_Md_isKind_9 : decode b_Md_isKind 9 = .ok (.if_icmp .gt 7, 3) := by decide +kernel
theorem d_Md_isKind_12 : decode b_Md_isKind 12 = .ok (.iconst 1, 1) := by decide +kernel
theorem d_Md_isKind_13 : decode b_Md_isKind 13 = .ok (.goto 4, 3) := by decide +kernel
theorem d_Md_isKind_16 : decode b_Md_isKind 16 = .ok (.iconst 0, 1) := by decide +kernel
theorem d_Md_isKind_17 : decode b_Md_isKind 17 = .ok (.ireturn, 1) := by decide +kernel
theorem d_Md_kind_0 : decode b_Md_kind 0 = .ok (.iload_n 1, 1) := by decide +kernel
theorem d_Md_kind_1 : decode b_Md_kind 1 = .ok (.ifCond .ne 14, 3) := by decide +kernel
theorem d_Md_kind_4 : decode b_Md_kind 4 = .ok (.aload_n 0, 1) := by decide +kernel
theorem d_Md_kind_5 : decode b_Md_kind 5 = .ok (.getfield 60, 3) := by decide +kernel
theorem d_Md_kind_8 : decode b_Md_kind 8 = .ok (.ifCond .ne 7, 3) := by decide +kernel
theorem d_Md_kind_11 : decode b_Md_kind 11 = .ok (.iconst 1, 1) := by decide +kernel
theorem d_Md_kind_12 : decode b_Md_kind 12 = .ok (.goto 4, 3) := by decide +kernel
theorem d_Md_kind_15 : decode b_Md_kind 15 = .ok (.iconst 0, 1) := by decide +kernel
theorem d_Md_kind_16 : decode b_Md_kind 16 = .ok (.istore_n 3, 1) := by decide +kernel
theorem d_Md_kind_17 : decode b_Md_kind 17 = .ok (.iload_n 3, 1) := by decide +kernel
theorem d_Md_kind_18 : decode b_Md_kind 18 = .ok (.ifCond .ne 22, 3) := by decide +kernel
theorem d_Md_kind_21 : decode b_Md_kind 21 = .ok (.aload_n 0, 1) := by decide +kernel
theorem d_Md_kind_22 : decode b_Md_kind 22 = .ok (.iload_n 1, 1) := by decide +kernel
theorem d_Md_kind_23 : decode b_Md_kind 23 = .ok (.invokevirtual 64, 3) := by decide +kernel
theorem d_Md_kind_26 : decode b_Md_kind 26 = .ok (.ifCond .eq 23, 3) := by decide +kernel
theorem d_Md_kind_29 : decode b_Md_kind 29 = .ok (.aload_n 0, 1) := by decide +kernel
theorem d_Md_kind_30 : decode b_Md_kind 30 = .ok (.getfield 13, 3) := by decide +kernel
theorem d_Md_kind_33 : decode b_Md_kind 33 = .ok (.iload_n 1, 1) := by decide +kernel
theorem d_Md_kind_34 : decode b_Md_kind 34 = .ok (.iaload, 1) := by decide +kernel
theorem d_Md_kind_35 : decode b_Md_kind 35 = .ok (.bipush 8, 2) := by decide +kernel
theorem d_Md_kind_37 : decode b_Md_kind 37 = .ok (.if_icmp .eq 12, 3) := by decide +kernel
theorem d_Md_kind_40 : decode b_Md_kind 40 = .ok (.aload_n 0, 1) := by decide +kernel
theorem d_Md_kind_41 : decode b_Md_kind 41 = .ok (.getfield 60, 3) := by decide +kernel
theorem d_Md_kind_44 : decode b_Md_kind 44 = .ok (.bipush 20, 2) := by decide +kernel
theorem d_Md_kind_46 : decode b_Md_kind 46 = .ok (.if_icmp .ne 5, 3) := by decide +kernel
theorem d_Md_kind_49 : decode b_Md_kind 49 = .ok (.iconst (-1), 1) := by decide +kernel
theorem d_Md_kind_50 : decode b_Md_kind 50 = .ok (.ireturn, 1) := by decide +kernel
theorem d_Md_kind_51 : decode b_Md_kind 51 = .ok (.aload_n 0, 1) := by decide +kernel
theorem d_Md_kind_52 : decode b_Md_kind 52 = .ok (.dup, 1) := by decide +kernel
theorem d_Md_kind_53 : decode b_Md_kind 53 = .ok (.getfield 60, 3) := by decide +kernel
theorem d_Md_kind_56 : decode b_Md_kind 56 = .ok (.iconst 1, 1) := by decide +kernel
theorem d_Md_kind_57 : decode b_Md_kind 57 = .ok (.iadd, 1) := by decide +kernel
theorem d_Md_kind_58 : decode b_Md_kind 58 = .ok (.putfield 60, 3) := by decide +kernel
theorem d_Md_kind_61 : decode b_Md_kind 61 = .ok (.aload_n 0, 1) := by decide +kernel
theorem d_Md_kind_62 : decode b_Md_kind 62 = .ok (.getfield 7, 3) := by decide +kernel
theorem d_Md_kind_65 : decode b_Md_kind 65 = .ok (.aload_n 0, 1) := by decide +kernel
theorem d_Md_kind_66 : decode b_Md_kind 66 = .ok (.getfield 60, 3) := by decide +kernel
theorem d_Md_kind_69 : decode b_Md_kind 69 = .ok (.iload_n 1, 1) := by decide +kernel
theorem d_Md_kind_70 : decode b_Md_kind 70 = .ok (.iastore, 1) := by decide +kernel
theorem d_Md_kind_71 : decode b_Md_kind 71 = .ok (.aload_n 0, 1) := by decide +kernel
theorem d_Md_kind_72 : decode b_Md_kind 72 = .ok (.getfield 13, 3) := by decide +kernel
theorem d_Md_kind_75 : decode b_Md_kind 75 = .ok (.aload_n 0, 1) := by decide +kernel
theorem d_Md_kind_76 : decode b_Md_kind 76 = .ok (.getfield 60, 3) := by decide +kernel
theorem d_Md_kind_79 : decode b_Md_kind 79 = .ok (.iload_n 3, 1) := by decide +kernel
theorem d_Md_kind_80 : decode b_Md_kind 80 = .ok (.ifCond .eq 7, 3) := by decide +kernel
theorem d_Md_kind_83 : decode b_Md_kind 83 = .ok (.iconst 1, 1) := by decide +kernel
theorem d_Md_kind_84 : decode b_Md_kind 84 = .ok (.goto 11, 3) := by decide +kernel
theorem d_Md_kind_87 : decode b_Md_kind 87 = .ok (.aload_n 0, 1) := by decide +kernel
theorem d_Md_kind_88 : decode b_Md_kind 88 = .ok (.getfield 13, 3) := by decide +kernel
theorem d_Md_kind_91 : decode b_Md_kind 91 = .ok (.iload_n 1, 1) := by decide +kernel
theorem d_Md_kind_92 : decode b_Md_kind 92 = .ok (.iaload, 1) := by decide +kernel
theorem d_Md_kind_93 : decode b_Md_kind 93 = .ok (.iconst 1, 1) := by decide +kernel
theorem d_Md_kind_94 : decode b_Md_kind 94 = .ok (.iadd, 1) := by decide +kernel
theorem d_Md_kind_95 : decode b_Md_kind 95 = .ok (.iastore, 1) := by decide +kernel
theorem d_Md_kind_96 : decode b_Md_kind 96 = .ok (.aload_n 0, 1) := by decide +kernel
theorem d_Md_kind_97 : decode b_Md_kind 97 = .ok (.getfield 19, 3) := by decide +kernel
theorem d_Md_kind_100 : decode b_Md_kind 100 = .ok (.aload_n 0, 1) := by decide +kernel
theorem d_Md_kind_101 : decode b_Md_kind 101 = .ok (.getfield 60, 3) := by decide +kernel
theorem d_Md_kind_104 : decode b_Md_kind 104 = .ok (.iload_n 2, 1) := by decide +kernel
theorem d_Md_kind_105 : decode b_Md_kind 105 = .ok (.bastore, 1) := by decide +kernel
theorem d_Md_kind_106 : decode b_Md_kind 106 = .ok (.aload_n 0, 1) := by decide +kernel
theorem d_Md_kind_107 : decode b_Md_kind 107 = .ok (.getfield 16, 3) := by decide +kernel
theorem d_Md_kind_110 : decode b_Md_kind 110 = .ok (.aload_n 0, 1) := by decide +kernel
theorem d_Md_kind_111 : decode b_Md_kind 111 = .ok (.getfield 60, 3) := by decide +kernel
theorem d_Md_kind_114 : decode b_Md_kind 114 = .ok (.iconst 1, 1) := by decide +kernel
theorem d_Md_kind_115 : decode b_Md_kind 115 = .ok (.iastore, 1) := by decide +kernel
theorem d_Md_kind_116 : decode b_Md_kind 116 = .ok (.aload_n 0, 1) := by decide +kernel
theorem d_Md_kind_117 : decode b_Md_kind 117 = .ok (.getfield 60, 3) := by decide +kernel
theorem d_Md_kind_120 : decode b_Md_kind 120 = .ok (.ireturn, 1) := by decide +kernel
theorem d_Md_view_0 : decode b_Md_view 0 = .ok (.aload_n 0, 1) := by decide +kernel
theorem d_Md_view_1 : decode b_Md_view 1 = .ok (.getfield 68, 3) := by decide +kernel
theorem d_Md_view_4 : decode b_Md_view 4 = .ok (.bipush 9, 2) := by decide +kernel
theorem d_Md_view_6 : decode b_Md_view 6 = .ok (.if_icmp .ne 5, 3) := by decide +kernel
theorem d_Md_view_9 : decode b_Md_view 9 = .ok (.iconst (-1), 1) := by decide +kernel
theorem d_Md_view_10 : decode b_Md_view 10 = .ok (.ireturn, 1) := by decide +kernel
theorem d_Md_view_11 : decode b_Md_view 11 = .ok (.aload_n 0, 1) := by decide +kernel
theorem d_Md_view_12 : decode b_Md_view 12 = .ok (.dup, 1) := by decide +kernel
theorem d_Md_view_13 : decode b_Md_view 13 = .ok (.getfield 68, 3) := by decide +kernel
theorem d_Md_view_16 : decode b_Md_view 16 = .ok (.iconst 1, 1) := by decide +kernel
theorem d_Md_view_17 : decode b_Md_view 17 = .ok (.iadd, 1) := by decide +kernel
theorem d_Md_view_18 : decode b_Md_view 18 = .ok (.putfield 68, 3) := by decide +kernel
theorem d_Md_view_21 : decode b_Md_view 21 = .ok (.aload_n 0, 1) := by decide +kernel
theorem d_Md_view_22 : decode b_Md_view 22 = .ok (.getfield 68, 3) := by decide +kernel
theorem d_Md_view_25 : decode b_Md_view 25 = .ok (.ireturn, 1) := by decide +kernel
theorem d_Md_part_0 : decode b_Md_part 0 = .ok (.aload_n 0, 1) := by decide +kernel
theorem d_Md_part_1 : decode b_Md_part 1 = .ok (.iload_n 1, 1) := by decide +kernel
theorem d_Md_part_2 : decode b_Md_part 2 = .ok (.invokevirtual 64, 3) := by decide +kernel
theorem d_Md_part_5 : decode b_Md_part 5 = .ok (.ifCond .eq 22, 3) := by decide +kernel
theorem d_Md_part_8 : decode b_Md_part 8 = .ok (.iload_n 2, 1) := by decide +kernel
theorem d_Md_part_9 : decode b_Md_part 9 = .ok (.ifCond .lt 18, 3) := by decide +kernel
theorem d_Md_part_12 : decode b_Md_part 12 = .ok (.iload_n 2, 1) := by decide +kernel
theorem d_Md_part_13 : decode b_Md_part 13 = .ok (.bipush 6, 2) := by decide +kernel
theorem d_Md_part_15 : decode b_Md_part 15 = .ok (.if_icmp .gt 12, 3) := by decide +kernel
theorem d_Md_part_18 : decode b_Md_part 18 = .ok (.aload_n 0, 1) := by decide +kernel
theorem d_Md_part_19 : decode b_Md_part 19 = .ok (.getfield 71, 3) := by decide +kernel
theorem d_Md_part_22 : decode b_Md_part 22 = .ok (.bipush 8, 2) := by decide +kernel
theorem d_Md_part_24 : decode b_Md_part 24 = .ok (.if_icmp .ne 5, 3) := by decide +kernel
theorem d_Md_part_27 : decode b_Md_part 27 = .ok (.iconst (-1), 1) := by decide +kernel
theorem d_Md_part_28 : decode b_Md_part 28 = .ok (.ireturn, 1) := by decide +kernel
theorem d_Md_part_29 : decode b_Md_part 29 = .ok (.aload_n 0, 1) := by decide +kernel
theorem d_Md_part_30 : decode b_Md_part 30 = .ok (.getfield 45, 3) := by decide +kernel
theorem d_Md_part_33 : decode b_Md_part 33 = .ok (.aload_n 0, 1) := by decide +kernel
theorem d_Md_part_34 : decode b_Md_part 34 = .ok (.getfield 71, 3) := by decide +kernel
theorem d_Md_part_37 : decode b_Md_part 37 = .ok (.iload_n 1, 1) := by decide +kernel
theorem d_Md_part_38 : decode b_Md_part 38 = .ok (.iastore, 1) := by decide +kernel
theorem d_Md_part_39 : decode b_Md_part 39 = .ok (.aload_n 0, 1) := by decide +kernel
theorem d_Md_part_40 : decode b_Md_part 40 = .ok (.getfield 48, 3) := by decide +kernel
theorem d_Md_part_43 : decode b_Md_part 43 = .ok (.aload_n 0, 1) := by decide +kernel
theorem d_Md_part_44 : decode b_Md_part 44 = .ok (.getfield 71, 3) := by decide +kernel
theorem d_Md_part_47 : decode b_Md_part 47 = .ok (.iload_n 2, 1) := by decide +kernel
theorem d_Md_part_48 : decode b_Md_part 48 = .ok (.iastore, 1) := by decide +kernel
theorem d_Md_part_49 : decode b_Md_part 49 = .ok (.aload_n 0, 1) := by decide +kernel
theorem d_Md_part_50 : decode b_Md_part 50 = .ok (.getfield 54, 3) := by decide +kernel
theorem d_Md_part_53 : decode b_Md_part 53 = .ok (.aload_n 0, 1) := by decide +kernel
theorem d_Md_part_54 : decode b_Md_part 54 = .ok (.getfield 71, 3) := by decide +kernel
theorem d_Md_part_57 : decode b_Md_part 57 = .ok (.lload_n 3, 1) := by decide +kernel
theorem d_Md_part_58 : decode b_Md_part 58 = .ok (.lastore, 1) := by decide +kernel
theorem d_Md_part_59 : decode b_Md_part 59 = .ok (.aload_n 0, 1) := by decide +kernel
theorem d_Md_part_60 : decode b_Md_part 60 = .ok (.getfield 51, 3) := by decide +kernel
theorem d_Md_part_63 : decode b_Md_part 63 = .ok (.aload_n 0, 1) := by decide +kernel
theorem d_Md_part_64 : decode b_Md_part 64 = .ok (.getfield 71, 3) := by decide +kernel
theorem d_Md_part_67 : decode b_Md_part 67 = .ok (.iconst 0, 1) := by decide +kernel
theorem d_Md_part_68 : decode b_Md_part 68 = .ok (.iastore, 1) := by decide +kernel
theorem d_Md_part_69 : decode b_Md_part 69 = .ok (.aload_n 0, 1) := by decide +kernel
theorem d_Md_part_70 : decode b_Md_part 70 = .ok (.dup, 1) := by decide +kernel
theorem d_Md_part_71 : decode b_Md_part 71 = .ok (.getfield 71, 3) := by decide +kernel
theorem d_Md_part_74 : decode b_Md_part 74 = .ok (.iconst 1, 1) := by decide +kernel
theorem d_Md_part_75 : decode b_Md_part 75 = .ok (.iadd, 1) := by decide +kernel
theorem d_Md_part_76 : decode b_Md_part 76 = .ok (.putfield 71, 3) := by decide +kernel
theorem d_Md_part_79 : decode b_Md_part 79 = .ok (.aload_n 0, 1) := by decide +kernel
theorem d_Md_part_80 : decode b_Md_part 80 = .ok (.getfield 71, 3) := by decide +kernel
theorem d_Md_part_83 : decode b_Md_part 83 = .ok (.ireturn, 1) := by decide +kernel
theorem d_Md_code_0 : decode b_Md_code 0 = .ok (.iload_n 1, 1) := by decide +kernel
theorem d_Md_code_1 : decode b_Md_code 1 = .ok (.iconst 1, 1) := by decide +kernel
theorem d_Md_code_2 : decode b_Md_code 2 = .ok (.if_icmp .lt 21, 3) := by decide +kernel
theorem d_Md_code_5 : decode b_Md_code 5 = .ok (.iload_n 1, 1) := by decide +kernel
theorem d_Md_code_6 : decode b_Md_code 6 = .ok (.aload_n 0, 1) := by decide +kernel
theorem d_Md_code_7 : decode b_Md_code 7 = .ok (.getfield 71, 3) := by decide +kernel
theorem d_Md_code_10 : decode b_Md_code 10 = .ok (.if_icmp .gt 13, 3) := by decide +kernel
theorem d_Md_code_13 : decode b_Md_code 13 = .ok (.iload_n 2, 1) := by decide +kernel
theorem d_Md_code_14 : decode b_Md_code 14 = .ok (.ifCond .lt 9, 3) := by decide +kernel
theorem d_Md_code_17 : decode b_Md_code 17 = .ok (.iload_n 2, 1) := by decide +kernel
theorem d_Md_code_18 : decode b_Md_code 18 = .ok (.bipush 15, 2) := by decide +kernel
theorem d_Md_code_20 : decode b_Md_code 20 = .ok (.if_icmp .le 5, 3) := by decide +kernel
theorem d_Md_code_23 : decode b_Md_code 23 = .ok (.iconst (-1), 1) := by decide +kernel
theorem d_Md_code_24 : decode b_Md_code 24 = .ok (.ireturn, 1) := by decide +kernel
theorem d_Md_code_25 : decode b_Md_code 25 = .ok (.aload_n 0, 1) := by decide +kernel
theorem d_Md_code_26 : decode b_Md_code 26 = .ok (.getfield 51, 3) := by decide +kernel
theorem d_Md_code_29 : decode b_Md_code 29 = .ok (.iload_n 1, 1) := by decide +kernel
theorem d_Md_code_30 : decode b_Md_code 30 = .ok (.iconst 1, 1) := by decide +kernel
theorem d_Md_code_31 : decode b_Md_code 31 = .ok (.isub, 1) := by decide +kernel
theorem d_Md_code_32 : decode b_Md_code 32 = .ok (.iaload, 1) := by decide +kernel
theorem d_Md_code_33 : decode b_Md_code 33 = .ok (.istore_n 3, 1) := by decide +kernel
theorem d_Md_code_34 : decode b_Md_code 34 = .ok (.aload_n 0, 1) := by decide +kernel
theorem d_Md_code_35 : decode b_Md_code 35 = .ok (.getfield 51, 3) := by decide +kernel
theorem d_Md_code_38 : decode b_Md_code 38 = .ok (.iload_n 1, 1) := by decide +kernel
theorem d_Md_code_39 : decode b_Md_code 39 = .ok (.iconst 1, 1) := by decide +kernel
theorem d_Md_code_40 : decode b_Md_code 40 = .ok (.isub, 1) := by decide +kernel
theorem d_Md_code_41 : decode b_Md_code 41 = .ok (.iload_n 2, 1) := by decide +kernel
theorem d_Md_code_42 : decode b_Md_code 42 = .ok (.iastore, 1) := by decide +kernel
theorem d_Md_code_43 : decode b_Md_code 43 = .ok (.iload_n 3, 1) := by decide +kernel
theorem d_Md_code_44 : decode b_Md_code 44 = .ok (.ireturn, 1) := by decide +kernel
theorem d_Md_rule_0 : decode b_Md_rule 0 = .ok (.aload_n 0, 1) := by decide +kernel
theorem d_Md_rule_1 : decode b_Md_rule 1 = .ok (.iload_n 1, 1) := by decide +kernel
theorem d_Md_rule_2 : decode b_Md_rule 2 = .ok (.invokevirtual 64, 3) := by decide +kernel
theorem d_Md_rule_5 : decode b_Md_rule 5 = .ok (.ifCond .eq 12, 3) := by decide +kernel
theorem d_Md_rule_8 : decode b_Md_rule 8 = .ok (.iload_n 2, 1) := by decide +kernel
theorem d_Md_rule_9 : decode b_Md_rule 9 = .ok (.ifCond .lt 8, 3) := by decide +kernel
theorem d_Md_rule_12 : decode b_Md_rule 12 = .ok (.iload_n 2, 1) := by decide +kernel
theorem d_Md_rule_13 : decode b_Md_rule 13 = .ok (.iconst 2, 1) := by decide +kernel
theorem d_Md_rule_14 : decode b_Md_rule 14 = .ok (.if_icmp .le 5, 3) := by decide +kernel
theorem d_Md_rule_17 : decode b_Md_rule 17 = .ok (.iconst (-1), 1) := by decide +kernel
theorem d_Md_rule_18 : decode b_Md_rule 18 = .ok (.ireturn, 1) := by decide +kernel
theorem d_Md_rule_19 : decode b_Md_rule 19 = .ok (.aload_n 0, 1) := by decide +kernel
theorem d_Md_rule_20 : decode b_Md_rule 20 = .ok (.getfield 16, 3) := by decide +kernel
theorem d_Md_rule_23 : decode b_Md_rule 23 = .ok (.iload_n 1, 1) := by decide +kernel
theorem d_Md_rule_24 : decode b_Md_rule 24 = .ok (.iaload, 1) := by decide +kernel
theorem d_Md_rule_25 : decode b_Md_rule 25 = .ok (.istore_n 3, 1) := by decide +kernel
theorem d_Md_rule_26 : decode b_Md_rule 26 = .ok (.aload_n 0, 1) := by decide +kernel
theorem d_Md_rule_27 : decode b_Md_rule 27 = .ok (.getfield 16, 3) := by decide +kernel
theorem d_Md_rule_30 : decode b_Md_rule 30 = .ok (.iload_n 1, 1) := by decide +kernel
theorem d_Md_rule_31 : decode b_Md_rule 31 = .ok (.iload_n 2, 1) := by decide +kernel
theorem d_Md_rule_32 : decode b_Md_rule 32 = .ok (.iastore, 1) := by decide +kernel
theorem d_Md_rule_33 : decode b_Md_rule 33 = .ok (.iload_n 3, 1) := by decide +kernel
theorem d_Md_rule_34 : decode b_Md_rule 34 = .ok (.ireturn, 1) := by decide +kernel
theorem d_Md_levelOf_0 : decode b_Md_levelOf 0 = .ok (.aload_n 0, 1) := by decide +kernel
theorem d_Md_levelOf_1 : decode b_Md_levelOf 1 = .ok (.getfield 13, 3) := by decide +kernel
theorem d_Md_levelOf_4 : decode b_Md_levelOf 4 = .ok (.aload_n 0, 1) := by decide +kernel
theorem d_Md_levelOf_5 : decode b_Md_levelOf 5 = .ok (.getfield 26, 3) := by decide +kernel
theorem d_Md_levelOf_8 : decode b_Md_levelOf 8 = .ok (.iload_n 1, 1) := by decide +kernel
theorem d_Md_levelOf_9 : decode b_Md_levelOf 9 = .ok (.iaload, 1) := by decide +kernel
theorem d_Md_levelOf_10 : decode b_Md_levelOf 10 = .ok (.iaload, 1) := by decide +kernel
theorem d_Md_levelOf_11 : decode b_Md_levelOf 11 = .ok (.ireturn, 1) := by decide +kernel
theorem d_Md_placeOf_0 : decode b_Md_placeOf 0 = .ok (.iconst (-1), 1) := by decide +kernel
theorem d_Md_placeOf_1 : decode b_Md_placeOf 1 = .ok (.istore_n 2, 1) := by decide +kernel
theorem d_Md_placeOf_2 : decode b_Md_placeOf 2 = .ok (.iconst 0, 1) := by decide +kernel
theorem d_Md_placeOf_3 : decode b_Md_placeOf 3 = .ok (.istore_n 3, 1) := by decide +kernel
theorem d_Md_placeOf_4 : decode b_Md_placeOf 4 = .ok (.iload_n 3, 1) := by decide +kernel
theorem d_Md_placeOf_5 : decode b_Md_placeOf 5 = .ok (.aload_n 0, 1) := by decide +kernel
theorem d_Md_placeOf_6 : decode b_Md_placeOf 6 = .ok (.getfield 74, 3) := by decide +kernel
theorem d_Md_placeOf_9 : decode b_Md_placeOf 9 = .ok (.if_icmp .ge 29, 3) := by decide +kernel
theorem d_Md_placeOf_12 : decode b_Md_placeOf 12 = .ok (.iload_n 1, 1) := by decide +kernel
theorem d_Md_placeOf_13 : decode b_Md_placeOf 13 = .ok (.ifCond .eq 25, 3) := by decide +kernel
theorem d_Md_placeOf_16 : decode b_Md_placeOf 16 = .ok (.aload_n 0, 1) := by decide +kernel
theorem d_Md_placeOf_17 : decode b_Md_placeOf 17 = .ok (.getfield 23, 3) := by decide +kernel
theorem d_Md_placeOf_20 : decode b_Md_placeOf 20 = .ok (.iload_n 3, 1) := by decide +kernel
theorem d_Md_placeOf_21 : decode b_Md_placeOf 21 = .ok (.iaload, 1) := by decide +kernel
theorem d_Md_placeOf_22 : decode b_Md_placeOf 22 = .ok (.iload_n 1, 1) := by decide +kernel
theorem d_Md_placeOf_23 : decode b_Md_placeOf 23 = .ok (.if_icmp .ne 7, 3) := by decide +kernel
theorem d_Md_placeOf_26 : decode b_Md_placeOf 26 = .ok (.iload_n 3, 1) := by decide +kernel
theorem d_Md_placeOf_27 : decode b_Md_placeOf 27 = .ok (.goto 4, 3) := by decide +kernel
theorem d_Md_placeOf_30 : decode b_Md_placeOf 30 = .ok (.iload_n 2, 1) := by decide +kernel
theorem d_Md_placeOf_31 : decode b_Md_placeOf 31 = .ok (.istore_n 2, 1) := by decide +kernel
theorem d_Md_placeOf_32 : decode b_Md_placeOf 32 = .ok (.iinc 3 1, 3) := by decide +kernel
theorem d_Md_placeOf_35 : decode b_Md_placeOf 35 = .ok (.goto (-31), 3) := by decide +kernel
theorem d_Md_placeOf_38 : decode b_Md_placeOf 38 = .ok (.iload_n 2, 1) := by decide +kernel
theorem d_Md_placeOf_39 : decode b_Md_placeOf 39 = .ok (.ireturn, 1) := by decide +kernel
theorem d_Md_behind_0 : decode b_Md_behind 0 = .ok (.iload_n 1, 1) := by decide +kernel
theorem d_Md_behind_1 : decode b_Md_behind 1 = .ok (.iconst 1, 1) := by decide +kernel
theorem d_Md_behind_2 : decode b_Md_behind 2 = .ok (.iadd, 1) := by decide +kernel
theorem d_Md_behind_3 : decode b_Md_behind 3 = .ok (.istore_n 2, 1) := by decide +kernel
theorem d_Md_behind_4 : decode b_Md_behind 4 = .ok (.iload_n 2, 1) := by decide +kernel
theorem d_Md_behind_5 : decode b_Md_behind 5 = .ok (.aload_n 0, 1) := by decide +kernel
theorem d_Md_behind_6 : decode b_Md_behind 6 = .ok (.getfield 74, 3) := by decide +kernel
theorem d_Md_behind_9 : decode b_Md_behind 9 = .ok (.if_icmp .ge 22, 3) := by decide +kernel
theorem d_Md_behind_12 : decode b_Md_behind 12 = .ok (.aload_n 0, 1) := by decide +kernel
theorem d_Md_behind_13 : decode b_Md_behind 13 = .ok (.iload_n 2, 1) := by decide +kernel
theorem d_Md_behind_14 : decode b_Md_behind 14 = .ok (.invokevirtual 77, 3) := by decide +kernel
theorem d_Md_behind_17 : decode b_Md_behind 17 = .ok (.aload_n 0, 1) := by decide +kernel
theorem d_Md_behind_18 : decode b_Md_behind 18 = .ok (.iload_n 1, 1) := by decide +kernel
theorem d_Md_behind_19 : decode b_Md_behind 19 = .ok (.invokevirtual 77, 3) := by decide +kernel
theorem d_Md_behind_22 : decode b_Md_behind 22 = .ok (.if_icmp .le 9, 3) := by decide +kernel
theorem d_Md_behind_25 : decode b_Md_behind 25 = .ok (.iinc 2 1, 3) := by decide +kernel
theorem d_Md_behind_28 : decode b_Md_behind 28 = .ok (.goto (-24), 3) := by decide +kernel
theorem d_Md_behind_31 : decode b_Md_behind 31 = .ok (.iload_n 2, 1) := by decide +kernel
theorem d_Md_behind_32 : decode b_Md_behind 32 = .ok (.ireturn, 1) := by decide +kernel
theorem d_Md_over_0 : decode b_Md_over 0 = .ok (.iload_n 1, 1) := by decide +kernel
theorem d_Md_over_1 : decode b_Md_over 1 = .ok (.iconst (-1), 1) := by decide +kernel
theorem d_Md_over_2 : decode b_Md_over 2 = .ok (.if_icmp .eq 12, 3) := by decide +kernel
theorem d_Md_over_5 : decode b_Md_over 5 = .ok (.aload_n 0, 1) := by decide +kernel
theorem d_Md_over_6 : decode b_Md_over 6 = .ok (.iload_n 1, 1) := by decide +kernel
theorem d_Md_over_7 : decode b_Md_over 7 = .ok (.invokevirtual 77, 3) := by decide +kernel
theorem d_Md_over_10 : decode b_Md_over 10 = .ok (.iload_n 2, 1) := by decide +kernel
theorem d_Md_over_11 : decode b_Md_over 11 = .ok (.if_icmp .ge 5, 3) := by decide +kernel
theorem d_Md_over_14 : decode b_Md_over 14 = .ok (.iconst (-1), 1) := by decide +kernel
theorem d_Md_over_15 : decode b_Md_over 15 = .ok (.ireturn, 1) := by decide +kernel
theorem d_Md_over_16 : decode b_Md_over 16 = .ok (.iload_n 1, 1) := by decide +kernel
theorem d_Md_over_17 : decode b_Md_over 17 = .ok (.istore_n 3, 1) := by decide +kernel
theorem d_Md_over_18 : decode b_Md_over 18 = .ok (.aload_n 0, 1) := by decide +kernel
theorem d_Md_over_19 : decode b_Md_over 19 = .ok (.iload_n 3, 1) := by decide +kernel
theorem d_Md_over_20 : decode b_Md_over 20 = .ok (.invokevirtual 77, 3) := by decide +kernel
theorem d_Md_over_23 : decode b_Md_over 23 = .ok (.iload_n 2, 1) := by decide +kernel
theorem d_Md_over_24 : decode b_Md_over 24 = .ok (.if_icmp .le 9, 3) := by decide +kernel
theorem d_Md_over_27 : decode b_Md_over 27 = .ok (.iinc 3 (-1), 3) := by decide +kernel
theorem d_Md_over_30 : decode b_Md_over 30 = .ok (.goto (-12), 3) := by decide +kernel
theorem d_Md_over_33 : decode b_Md_over 33 = .ok (.iload_n 3, 1) := by decide +kernel
theorem d_Md_over_34 : decode b_Md_over 34 = .ok (.ireturn, 1) := by decide +kernel
theorem d_Md_ofKind_0 : decode b_Md_ofKind 0 = .ok (.aload_n 0, 1) := by decide +kernel
theorem d_Md_ofKind_1 : decode b_Md_ofKind 1 = .ok (.iload_n 1, 1) := by decide +kernel
theorem d_Md_ofKind_2 : decode b_Md_ofKind 2 = .ok (.aload_n 0, 1) := by decide +kernel
theorem d_Md_ofKind_3 : decode b_Md_ofKind 3 = .ok (.getfield 13, 3) := by decide +kernel
theorem d_Md_ofKind_6 : decode b_Md_ofKind 6 = .ok (.iload_n 2, 1) := by decide +kernel
theorem d_Md_ofKind_7 : decode b_Md_ofKind 7 = .ok (.iaload, 1) := by decide +kernel
theorem d_Md_ofKind_8 : decode b_Md_ofKind 8 = .ok (.invokevirtual 81, 3) := by decide +kernel
theorem d_Md_ofKind_11 : decode b_Md_ofKind 11 = .ok (.istore_n 3, 1) := by decide +kernel
theorem d_Md_ofKind_12 : decode b_Md_ofKind 12 = .ok (.iload_n 3, 1) := by decide +kernel
theorem d_Md_ofKind_13 : decode b_Md_ofKind 13 = .ok (.iconst (-1), 1) := by decide +kernel
theorem d_Md_ofKind_14 : decode b_Md_ofKind 14 = .ok (.if_icmp .eq 17, 3) := by decide +kernel
theorem d_Md_ofKind_17 : decode b_Md_ofKind 17 = .ok (.aload_n 0, 1) := by decide +kernel
theorem d_Md_ofKind_18 : decode b_Md_ofKind 18 = .ok (.getfield 26, 3) := by decide +kernel
theorem d_Md_ofKind_21 : decode b_Md_ofKind 21 = .ok (.iload_n 3, 1) := by decide +kernel
theorem d_Md_ofKind_22 : decode b_Md_ofKind 22 = .ok (.iaload, 1) := by decide +kernel
theorem d_Md_ofKind_23 : decode b_Md_ofKind 23 = .ok (.iload_n 2, 1) := by decide +kernel
theorem d_Md_ofKind_24 : decode b_Md_ofKind 24 = .ok (.if_icmp .ne 7, 3) := by decide +kernel
theorem d_Md_ofKind_27 : decode b_Md_ofKind 27 = .ok (.iload_n 3, 1) := by decide +kernel
theorem d_Md_ofKind_28 : decode b_Md_ofKind 28 = .ok (.goto 4, 3) := by decide +kernel
theorem d_Md_ofKind_31 : decode b_Md_ofKind 31 = .ok (.iconst (-1), 1) := by decide +kernel
theorem d_Md_ofKind_32 : decode b_Md_ofKind 32 = .ok (.ireturn, 1) := by decide +kernel
theorem d_Md_relates_0 : decode b_Md_relates 0 = .ok (.iload_n 0, 1) := by decide +kernel
theorem d_Md_relates_1 : decode b_Md_relates 1 = .ok (.tableswitch 111 1 6 #[39, 51, 63, 75, 87, 99], 39) := by decide +kernel
theorem d_Md_relates_40 : decode b_Md_relates 40 = .ok (.lload_n 1, 1) := by decide +kernel
theorem d_Md_relates_41 : decode b_Md_relates 41 = .ok (.lload_n 3, 1) := by decide +kernel
theorem d_Md_relates_42 : decode b_Md_relates 42 = .ok (.lcmp, 1) := by decide +kernel
theorem d_Md_relates_43 : decode b_Md_relates 43 = .ok (.ifCond .ne 7, 3) := by decide +kernel
theorem d_Md_relates_46 : decode b_Md_relates 46 = .ok (.iconst 1, 1) := by decide +kernel
theorem d_Md_relates_47 : decode b_Md_relates 47 = .ok (.goto 4, 3) := by decide +kernel
theorem d_Md_relates_50 : decode b_Md_relates 50 = .ok (.iconst 0, 1) := by decide +kernel
theorem d_Md_relates_51 : decode b_Md_relates 51 = .ok (.ireturn, 1) := by decide +kernel
theorem d_Md_relates_52 : decode b_Md_relates 52 = .ok (.lload_n 1, 1) := by decide +kernel
theorem d_Md_relates_53 : decode b_Md_relates 53 = .ok (.lload_n 3, 1) := by decide +kernel
theorem d_Md_relates_54 : decode b_Md_relates 54 = .ok (.lcmp, 1) := by decide +kernel
theorem d_Md_relates_55 : decode b_Md_relates 55 = .ok (.ifCond .le 7, 3) := by decide +kernel
theorem d_Md_relates_58 : decode b_Md_relates 58 = .ok (.iconst 1, 1) := by decide +kernel
theorem d_Md_relates_59 : decode b_Md_relates 59 = .ok (.goto 4, 3) := by decide +kernel
theorem d_Md_relates_62 : decode b_Md_relates 62 = .ok (.iconst 0, 1) := by decide +kernel
theorem d_Md_relates_63 : decode b_Md_relates 63 = .ok (.ireturn, 1) := by decide +kernel
theorem d_Md_relates_64 : decode b_Md_relates 64 = .ok (.lload_n 1, 1) := by decide +kernel
theorem d_Md_relates_65 : decode b_Md_relates 65 = .ok (.lload_n 3, 1) := by decide +kernel
theorem d_Md_relates_66 : decode b_Md_relates 66 = .ok (.lcmp, 1) := by decide +kernel
theorem d_Md_relates_67 : decode b_Md_relates 67 = .ok (.ifCond .ge 7, 3) := by decide +kernel
theorem d_Md_relates_70 : decode b_Md_relates 70 = .ok (.iconst 1, 1) := by decide +kernel
theorem d_Md_relates_71 : decode b_Md_relates 71 = .ok (.goto 4, 3) := by decide +kernel
theorem d_Md_relates_74 : decode b_Md_relates 74 = .ok (.iconst 0, 1) := by decide +kernel
theorem d_Md_relates_75 : decode b_Md_relates 75 = .ok (.ireturn, 1) := by decide +kernel
theorem d_Md_relates_76 : decode b_Md_relates 76 = .ok (.lload_n 1, 1) := by decide +kernel
theorem d_Md_relates_77 : decode b_Md_relates 77 = .ok (.lload_n 3, 1) := by decide +kernel
theorem d_Md_relates_78 : decode b_Md_relates 78 = .ok (.lcmp, 1) := by decide +kernel
theorem d_Md_relates_79 : decode b_Md_relates 79 = .ok (.ifCond .lt 7, 3) := by decide +kernel
theorem d_Md_relates_82 : decode b_Md_relates 82 = .ok (.iconst 1, 1) := by decide +kernel
theorem d_Md_relates_83 : decode b_Md_relates 83 = .ok (.goto 4, 3) := by decide +kernel
theorem d_Md_relates_86 : decode b_Md_relates 86 = .ok (.iconst 0, 1) := by decide +kernel
theorem d_Md_relates_87 : decode b_Md_relates 87 = .ok (.ireturn, 1) := by decide +kernel
theorem d_Md_relates_88 : decode b_Md_relates 88 = .ok (.lload_n 1, 1) := by decide +kernel
theorem d_Md_relates_89 : decode b_Md_relates 89 = .ok (.lload_n 3, 1) := by decide +kernel
theorem d_Md_relates_90 : decode b_Md_relates 90 = .ok (.lcmp, 1) := by decide +kernel
theorem d_Md_relates_91 : decode b_Md_relates 91 = .ok (.ifCond .gt 7, 3) := by decide +kernel
theorem d_Md_relates_94 : decode b_Md_relates 94 = .ok (.iconst 1, 1) := by decide +kernel
theorem d_Md_relates_95 : decode b_Md_relates 95 = .ok (.goto 4, 3) := by decide +kernel
theorem d_Md_relates_98 : decode b_Md_relates 98 = .ok (.iconst 0, 1) := by decide +kernel
theorem d_Md_relates_99 : decode b_Md_relates 99 = .ok (.ireturn, 1) := by decide +kernel
theorem d_Md_relates_100 : decode b_Md_relates 100 = .ok (.lload_n 1, 1) := by decide +kernel
theorem d_Md_relates_101 : decode b_Md_relates 101 = .ok (.lload_n 3, 1) := by decide +kernel
theorem d_Md_relates_102 : decode b_Md_relates 102 = .ok (.lcmp, 1) := by decide +kernel
theorem d_Md_relates_103 : decode b_Md_relates 103 = .ok (.ifCond .eq 7, 3) := by decide +kernel
theorem d_Md_relates_106 : decode b_Md_relates 106 = .ok (.iconst 1, 1) := by decide +kernel
theorem d_Md_relates_107 : decode b_Md_relates 107 = .ok (.goto 4, 3) := by decide +kernel
theorem d_Md_relates_110 : decode b_Md_relates 110 = .ok (.iconst 0, 1) := by decide +kernel
theorem d_Md_relates_111 : decode b_Md_relates 111 = .ok (.ireturn, 1) := by decide +kernel
theorem d_Md_relates_112 : decode b_Md_relates 112 = .ok (.iconst 1, 1) := by decide +kernel
theorem d_Md_relates_113 : decode b_Md_relates 113 = .ok (.ireturn, 1) := by decide +kernel
theorem d_Md_hasLater_0 : decode b_Md_hasLater 0 = .ok (.iconst 0, 1) := by decide +kernel
theorem d_Md_hasLater_1 : decode b_Md_hasLater 1 = .ok (.istore_n 3, 1) := by decide +kernel
theorem d_Md_hasLater_2 : decode b_Md_hasLater 2 = .ok (.aload_n 0, 1) := by decide +kernel
theorem d_Md_hasLater_3 : decode b_Md_hasLater 3 = .ok (.iload_n 1, 1) := by decide +kernel
theorem d_Md_hasLater_4 : decode b_Md_hasLater 4 = .ok (.invokevirtual 85, 3) := by decide +kernel
theorem d_Md_hasLater_7 : decode b_Md_hasLater 7 = .ok (.istore 4, 2) := by decide +kernel
theorem d_Md_hasLater_9 : decode b_Md_hasLater 9 = .ok (.iload 4, 2) := by decide +kernel
theorem d_Md_hasLater_11 : decode b_Md_hasLater 11 = .ok (.aload_n 0, 1) := by decide +kernel
theorem d_Md_hasLater_12 : decode b_Md_hasLater 12 = .ok (.getfield 74, 3) := by decide +kernel
theorem d_Md_hasLater_15 : decode b_Md_hasLater 15 = .ok (.if_icmp .ge 79, 3) := by decide +kernel
theorem d_Md_hasLater_18 : decode b_Md_hasLater 18 = .ok (.aload_n 0, 1) := by decide +kernel
theorem d_Md_hasLater_19 : decode b_Md_hasLater 19 = .ok (.iload 4, 2) := by decide +kernel
theorem d_Md_hasLater_21 : decode b_Md_hasLater 21 = .ok (.invokevirtual 77, 3) := by decide +kernel
theorem d_Md_hasLater_24 : decode b_Md_hasLater 24 = .ok (.aload_n 0, 1) := by decide +kernel
theorem d_Md_hasLater_25 : decode b_Md_hasLater 25 = .ok (.iload_n 1, 1) := by decide +kernel
theorem d_Md_hasLater_26 : decode b_Md_hasLater 26 = .ok (.invokevirtual 77, 3) := by decide +kernel
theorem d_Md_hasLater_29 : decode b_Md_hasLater 29 = .ok (.if_icmp .ne 65, 3) := by decide +kernel
theorem d_Md_hasLater_32 : decode b_Md_hasLater 32 = .ok (.aload_n 0, 1) := by decide +kernel
theorem d_Md_hasLater_33 : decode b_Md_hasLater 33 = .ok (.getfield 26, 3) := by decide +kernel
theorem d_Md_hasLater_36 : decode b_Md_hasLater 36 = .ok (.iload 4, 2) := by decide +kernel
theorem d_Md_hasLater_38 : decode b_Md_hasLater 38 = .ok (.iaload, 1) := by decide +kernel
theorem d_Md_hasLater_39 : decode b_Md_hasLater 39 = .ok (.aload_n 0, 1) := by decide +kernel
theorem d_Md_hasLater_40 : decode b_Md_hasLater 40 = .ok (.getfield 26, 3) := by decide +kernel
theorem d_Md_hasLater_43 : decode b_Md_hasLater 43 = .ok (.iload_n 1, 1) := by decide +kernel
theorem d_Md_hasLater_44 : decode b_Md_hasLater 44 = .ok (.iaload, 1) := by decide +kernel
theorem d_Md_hasLater_45 : decode b_Md_hasLater 45 = .ok (.if_icmp .ne 49, 3) := by decide +kernel
theorem d_Md_hasLater_48 : decode b_Md_hasLater 48 = .ok (.iload_n 3, 1) := by decide +kernel
theorem d_Md_hasLater_49 : decode b_Md_hasLater 49 = .ok (.ifCond .ne 28, 3) := by decide +kernel
theorem d_Md_hasLater_52 : decode b_Md_hasLater 52 = .ok (.aload_n 0, 1) := by decide +kernel
theorem d_Md_hasLater_53 : decode b_Md_hasLater 53 = .ok (.getfield 48, 3) := by decide +kernel
theorem d_Md_hasLater_56 : decode b_Md_hasLater 56 = .ok (.iload_n 2, 1) := by decide +kernel
theorem d_Md_hasLater_57 : decode b_Md_hasLater 57 = .ok (.iaload, 1) := by decide +kernel
theorem d_Md_hasLater_58 : decode b_Md_hasLater 58 = .ok (.aload_n 0, 1) := by decide +kernel
theorem d_Md_hasLater_59 : decode b_Md_hasLater 59 = .ok (.getfield 29, 3) := by decide +kernel
theorem d_Md_hasLater_62 : decode b_Md_hasLater 62 = .ok (.iload 4, 2) := by decide +kernel
theorem d_Md_hasLater_64 : decode b_Md_hasLater 64 = .ok (.laload, 1) := by decide +kernel
theorem d_Md_hasLater_65 : decode b_Md_hasLater 65 = .ok (.aload_n 0, 1) := by decide +kernel
theorem d_Md_hasLater_66 : decode b_Md_hasLater 66 = .ok (.getfield 54, 3) := by decide +kernel
theorem d_Md_hasLater_69 : decode b_Md_hasLater 69 = .ok (.iload_n 2, 1) := by decide +kernel
theorem d_Md_hasLater_70 : decode b_Md_hasLater 70 = .ok (.laload, 1) := by decide +kernel
theorem d_Md_hasLater_71 : decode b_Md_hasLater 71 = .ok (.invokestatic 88, 3) := by decide +kernel
theorem d_Md_hasLater_74 : decode b_Md_hasLater 74 = .ok (.ifCond .eq 7, 3) := by decide +kernel
theorem d_Md_hasLater_77 : decode b_Md_hasLater 77 = .ok (.iconst 1, 1) := by decide +kernel
theorem d_Md_hasLater_78 : decode b_Md_hasLater 78 = .ok (.goto 4, 3) := by decide +kernel
theorem d_Md_hasLater_81 : decode b_Md_hasLater 81 = .ok (.iconst 0, 1) := by decide +kernel
theorem d_Md_hasLater_82 : decode b_Md_hasLater 82 = .ok (.istore_n 3, 1) := by decide +kernel
theorem d_Md_hasLater_83 : decode b_Md_hasLater 83 = .ok (.aload_n 0, 1) := by decide +kernel
theorem d_Md_hasLater_84 : decode b_Md_hasLater 84 = .ok (.iload 4, 2) := by decide +kernel
theorem d_Md_hasLater_86 : decode b_Md_hasLater 86 = .ok (.invokevirtual 85, 3) := by decide +kernel
theorem d_Md_hasLater_89 : decode b_Md_hasLater 89 = .ok (.istore 4, 2) := by decide +kernel
theorem d_Md_hasLater_91 : decode b_Md_hasLater 91 = .ok (.goto (-82), 3) := by decide +kernel
theorem d_Md_hasLater_94 : decode b_Md_hasLater 94 = .ok (.iload_n 3, 1) := by decide +kernel
theorem d_Md_hasLater_95 : decode b_Md_hasLater 95 = .ok (.ireturn, 1) := by decide +kernel
theorem d_Md_fits_0 : decode b_Md_fits 0 = .ok (.iload_n 2, 1) := by decide +kernel
theorem d_Md_fits_1 : decode b_Md_fits 1 = .ok (.ifCond .le 22, 3) := by decide +kernel
theorem d_Md_fits_4 : decode b_Md_fits 4 = .ok (.aload_n 0, 1) := by decide +kernel
theorem d_Md_fits_5 : decode b_Md_fits 5 = .ok (.getfield 26, 3) := by decide +kernel
theorem d_Md_fits_8 : decode b_Md_fits 8 = .ok (.iload_n 1, 1) := by decide +kernel
theorem d_Md_fits_9 : decode b_Md_fits 9 = .ok (.iaload, 1) := by decide +kernel
theorem d_Md_fits_10 : decode b_Md_fits 10 = .ok (.aload_n 0, 1) := by decide +kernel
theorem d_Md_fits_11 : decode b_Md_fits 11 = .ok (.getfield 45, 3) := by decide +kernel
theorem d_Md_fits_14 : decode b_Md_fits 14 = .ok (.iload_n 2, 1) := by decide +kernel
theorem d_Md_fits_15 : decode b_Md_fits 15 = .ok (.iconst 1, 1) := by decide +kernel
theorem d_Md_fits_16 : decode b_Md_fits 16 = .ok (.isub, 1) := by decide +kernel
theorem d_Md_fits_17 : decode b_Md_fits 17 = .ok (.iaload, 1) := by decide +kernel
theorem d_Md_fits_18 : decode b_Md_fits 18 = .ok (.if_icmp .eq 5, 3) := by decide +kernel
theorem d_Md_fits_21 : decode b_Md_fits 21 = .ok (.iconst 0, 1) := by decide +kernel
theorem d_Md_fits_22 : decode b_Md_fits 22 = .ok (.ireturn, 1) := by decide +kernel
theorem d_Md_fits_23 : decode b_Md_fits 23 = .ok (.iconst 1, 1) := by decide +kernel
theorem d_Md_fits_24 : decode b_Md_fits 24 = .ok (.istore 4, 2) := by decide +kernel
theorem d_Md_fits_26 : decode b_Md_fits 26 = .ok (.iconst 0, 1) := by decide +kernel
theorem d_Md_fits_27 : decode b_Md_fits 27 = .ok (.istore 5, 2) := by decide +kernel
theorem d_Md_fits_29 : decode b_Md_fits 29 = .ok (.iload 5, 2) := by decide +kernel
theorem d_Md_fits_31 : decode b_Md_fits 31 = .ok (.iload_n 2, 1) := by decide +kernel
theorem d_Md_fits_32 : decode b_Md_fits 32 = .ok (.if_icmp .ge 144, 3) := by decide +kernel
theorem d_Md_fits_35 : decode b_Md_fits 35 = .ok (.iload 4, 2) := by decide +kernel
theorem d_Md_fits_37 : decode b_Md_fits 37 = .ok (.ifCond .eq 139, 3) := by decide +kernel
theorem d_Md_fits_40 : decode b_Md_fits 40 = .ok (.aload_n 0, 1) := by decide +kernel
theorem d_Md_fits_41 : decode b_Md_fits 41 = .ok (.iload_n 1, 1) := by decide +kernel
theorem d_Md_fits_42 : decode b_Md_fits 42 = .ok (.aload_n 0, 1) := by decide +kernel
theorem d_Md_fits_43 : decode b_Md_fits 43 = .ok (.getfield 45, 3) := by decide +kernel
theorem d_Md_fits_46 : decode b_Md_fits 46 = .ok (.iload 5, 2) := by decide +kernel
theorem d_Md_fits_48 : decode b_Md_fits 48 = .ok (.iaload, 1) := by decide +kernel
theorem d_Md_fits_49 : decode b_Md_fits 49 = .ok (.invokevirtual 92, 3) := by decide +kernel
theorem d_Md_fits_52 : decode b_Md_fits 52 = .ok (.istore 6, 2) := by decide +kernel
theorem d_Md_fits_54 : decode b_Md_fits 54 = .ok (.iload 6, 2) := by decide +kernel
theorem d_Md_fits_56 : decode b_Md_fits 56 = .ok (.iconst (-1), 1) := by decide +kernel
theorem d_Md_fits_57 : decode b_Md_fits 57 = .ok (.if_icmp .eq 34, 3) := by decide +kernel
theorem d_Md_fits_60 : decode b_Md_fits 60 = .ok (.aload_n 0, 1) := by decide +kernel
theorem d_Md_fits_61 : decode b_Md_fits 61 = .ok (.getfield 48, 3) := by decide +kernel
theorem d_Md_fits_64 : decode b_Md_fits 64 = .ok (.iload 5, 2) := by decide +kernel
theorem d_Md_fits_66 : decode b_Md_fits 66 = .ok (.iaload, 1) := by decide +kernel
theorem d_Md_fits_67 : decode b_Md_fits 67 = .ok (.aload_n 0, 1) := by decide +kernel
theorem d_Md_fits_68 : decode b_Md_fits 68 = .ok (.getfield 29, 3) := by decide +kernel
theorem d_Md_fits_71 : decode b_Md_fits 71 = .ok (.iload 6, 2) := by decide +kernel
theorem d_Md_fits_73 : decode b_Md_fits 73 = .ok (.laload, 1) := by decide +kernel
theorem d_Md_fits_74 : decode b_Md_fits 74 = .ok (.aload_n 0, 1) := by decide +kernel
theorem d_Md_fits_75 : decode b_Md_fits 75 = .ok (.getfield 54, 3) := by decide +kernel
theorem d_Md_fits_78 : decode b_Md_fits 78 = .ok (.iload 5, 2) := by decide +kernel
theorem d_Md_fits_80 : decode b_Md_fits 80 = .ok (.laload, 1) := by decide +kernel
theorem d_Md_fits_81 : decode b_Md_fits 81 = .ok (.invokestatic 88, 3) := by decide +kernel
theorem d_Md_fits_84 : decode b_Md_fits 84 = .ok (.ifCond .eq 7, 3) := by decide +kernel
theorem d_Md_fits_87 : decode b_Md_fits 87 = .ok (.iconst 1, 1) := by decide +kernel
theorem d_Md_fits_88 : decode b_Md_fits 88 = .ok (.goto 4, 3) := by decide +kernel
theorem d_Md_fits_91 : decode b_Md_fits 91 = .ok (.iconst 0, 1) := by decide +kernel
theorem d_Md_fits_92 : decode b_Md_fits 92 = .ok (.istore 4, 2) := by decide +kernel
theorem d_Md_fits_94 : decode b_Md_fits 94 = .ok (.iload 4, 2) := by decide +kernel
theorem d_Md_fits_96 : decode b_Md_fits 96 = .ok (.ifCond .eq 30, 3) := by decide +kernel
theorem d_Md_fits_99 : decode b_Md_fits 99 = .ok (.aload_n 0, 1) := by decide +kernel
theorem d_Md_fits_100 : decode b_Md_fits 100 = .ok (.getfield 51, 3) := by decide +kernel
theorem d_Md_fits_103 : decode b_Md_fits 103 = .ok (.iload 5, 2) := by decide +kernel
theorem d_Md_fits_105 : decode b_Md_fits 105 = .ok (.iaload, 1) := by decide +kernel
theorem d_Md_fits_106 : decode b_Md_fits 106 = .ok (.iconst 1, 1) := by decide +kernel
theorem d_Md_fits_107 : decode b_Md_fits 107 = .ok (.iand, 1) := by decide +kernel
theorem d_Md_fits_108 : decode b_Md_fits 108 = .ok (.ifCond .eq 14, 3) := by decide +kernel
theorem d_Md_fits_111 : decode b_Md_fits 111 = .ok (.aload_n 0, 1) := by decide +kernel
theorem d_Md_fits_112 : decode b_Md_fits 112 = .ok (.iload 6, 2) := by decide +kernel
theorem d_Md_fits_114 : decode b_Md_fits 114 = .ok (.iload 5, 2) := by decide +kernel
theorem d_Md_fits_116 : decode b_Md_fits 116 = .ok (.invokevirtual 95, 3) := by decide +kernel
theorem d_Md_fits_119 : decode b_Md_fits 119 = .ok (.ifCond .ne 7, 3) := by decide +kernel
theorem d_Md_fits_122 : decode b_Md_fits 122 = .ok (.iconst 1, 1) := by decide +kernel
theorem d_Md_fits_123 : decode b_Md_fits 123 = .ok (.goto 4, 3) := by decide +kernel
theorem d_Md_fits_126 : decode b_Md_fits 126 = .ok (.iconst 0, 1) := by decide +kernel
theorem d_Md_fits_127 : decode b_Md_fits 127 = .ok (.istore 4, 2) := by decide +kernel
theorem d_Md_fits_129 : decode b_Md_fits 129 = .ok (.iload 4, 2) := by decide +kernel
theorem d_Md_fits_131 : decode b_Md_fits 131 = .ok (.ifCond .eq 36, 3) := by decide +kernel
theorem d_Md_fits_134 : decode b_Md_fits 134 = .ok (.aload_n 0, 1) := by decide +kernel
theorem d_Md_fits_135 : decode b_Md_fits 135 = .ok (.getfield 51, 3) := by decide +kernel
theorem d_Md_fits_138 : decode b_Md_fits 138 = .ok (.iload 5, 2) := by decide +kernel
theorem d_Md_fits_140 : decode b_Md_fits 140 = .ok (.iaload, 1) := by decide +kernel
theorem d_Md_fits_141 : decode b_Md_fits 141 = .ok (.iconst 2, 1) := by decide +kernel
theorem d_Md_fits_142 : decode b_Md_fits 142 = .ok (.iand, 1) := by decide +kernel
theorem d_Md_fits_143 : decode b_Md_fits 143 = .ok (.ifCond .eq 20, 3) := by decide +kernel
theorem d_Md_fits_146 : decode b_Md_fits 146 = .ok (.aload_n 0, 1) := by decide +kernel
theorem d_Md_fits_147 : decode b_Md_fits 147 = .ok (.iload_n 3, 1) := by decide +kernel
theorem d_Md_fits_148 : decode b_Md_fits 148 = .ok (.aload_n 0, 1) := by decide +kernel
theorem d_Md_fits_149 : decode b_Md_fits 149 = .ok (.getfield 45, 3) := by decide +kernel
theorem d_Md_fits_152 : decode b_Md_fits 152 = .ok (.iload 5, 2) := by decide +kernel
theorem d_Md_fits_154 : decode b_Md_fits 154 = .ok (.iaload, 1) := by decide +kernel
theorem d_Md_fits_155 : decode b_Md_fits 155 = .ok (.invokevirtual 92, 3) := by decide +kernel
theorem d_Md_fits_158 : decode b_Md_fits 158 = .ok (.iload 6, 2) := by decide +kernel
theorem d_Md_fits_160 : decode b_Md_fits 160 = .ok (.if_icmp .ne 7, 3) := by decide +kernel
theorem d_Md_fits_163 : decode b_Md_fits 163 = .ok (.iconst 1, 1) := by decide +kernel
theorem d_Md_fits_164 : decode b_Md_fits 164 = .ok (.goto 4, 3) := by decide +kernel
theorem d_Md_fits_167 : decode b_Md_fits 167 = .ok (.iconst 0, 1) := by decide +kernel
theorem d_Md_fits_168 : decode b_Md_fits 168 = .ok (.istore 4, 2) := by decide +kernel
theorem d_Md_fits_170 : decode b_Md_fits 170 = .ok (.iinc 5 1, 3) := by decide +kernel
theorem d_Md_fits_173 : decode b_Md_fits 173 = .ok (.goto (-144), 3) := by decide +kernel
theorem d_Md_fits_176 : decode b_Md_fits 176 = .ok (.iload 4, 2) := by decide +kernel
theorem d_Md_fits_178 : decode b_Md_fits 178 = .ok (.ireturn, 1) := by decide +kernel
theorem d_Md_isBelow_0 : decode b_Md_isBelow 0 = .ok (.aload_n 0, 1) := by decide +kernel
theorem d_Md_isBelow_1 : decode b_Md_isBelow 1 = .ok (.getfield 7, 3) := by decide +kernel
theorem d_Md_isBelow_4 : decode b_Md_isBelow 4 = .ok (.iload_n 1, 1) := by decide +kernel
theorem d_Md_isBelow_5 : decode b_Md_isBelow 5 = .ok (.iaload, 1) := by decide +kernel
theorem d_Md_isBelow_6 : decode b_Md_isBelow 6 = .ok (.istore_n 3, 1) := by decide +kernel
theorem d_Md_isBelow_7 : decode b_Md_isBelow 7 = .ok (.iload_n 3, 1) := by decide +kernel
theorem d_Md_isBelow_8 : decode b_Md_isBelow 8 = .ok (.ifCond .eq 18, 3) := by decide +kernel
theorem d_Md_isBelow_11 : decode b_Md_isBelow 11 = .ok (.iload_n 3, 1) := by decide +kernel
theorem d_Md_isBelow_12 : decode b_Md_isBelow 12 = .ok (.iload_n 2, 1) := by decide +kernel
theorem d_Md_isBelow_13 : decode b_Md_isBelow 13 = .ok (.if_icmp .eq 13, 3) := by decide +kernel
theorem d_Md_isBelow_16 : decode b_Md_isBelow 16 = .ok (.aload_n 0, 1) := by decide +kernel
theorem d_Md_isBelow_17 : decode b_Md_isBelow 17 = .ok (.getfield 7, 3) := by decide +kernel
theorem d_Md_isBelow_20 : decode b_Md_isBelow 20 = .ok (.iload_n 3, 1) := by decide +kernel
theorem d_Md_isBelow_21 : decode b_Md_isBelow 21 = .ok (.iaload, 1) := by decide +kernel
theorem d_Md_isBelow_22 : decode b_Md_isBelow 22 = .ok (.istore_n 3, 1) := by decide +kernel
theorem d_Md_isBelow_23 : decode b_Md_isBelow 23 = .ok (.goto (-16), 3) := by decide +kernel
theorem d_Md_isBelow_26 : decode b_Md_isBelow 26 = .ok (.iload_n 3, 1) := by decide +kernel
theorem d_Md_isBelow_27 : decode b_Md_isBelow 27 = .ok (.ifCond .eq 7, 3) := by decide +kernel
theorem d_Md_isBelow_30 : decode b_Md_isBelow 30 = .ok (.iconst 1, 1) := by decide +kernel
theorem d_Md_isBelow_31 : decode b_Md_isBelow 31 = .ok (.goto 4, 3) := by decide +kernel
theorem d_Md_isBelow_34 : decode b_Md_isBelow 34 = .ok (.iconst 0, 1) := by decide +kernel
theorem d_Md_isBelow_35 : decode b_Md_isBelow 35 = .ok (.ireturn, 1) := by decide +kernel
theorem d_Md_areFit_0 : decode b_Md_areFit 0 = .ok (.iconst 1, 1) := by decide +kernel
theorem d_Md_areFit_1 : decode b_Md_areFit 1 = .ok (.istore_n 1, 1) := by decide +kernel
theorem d_Md_areFit_2 : decode b_Md_areFit 2 = .ok (.iconst 1, 1) := by decide +kernel
theorem d_Md_areFit_3 : decode b_Md_areFit 3 = .ok (.istore_n 2, 1) := by decide +kernel
theorem d_Md_areFit_4 : decode b_Md_areFit 4 = .ok (.iload_n 2, 1) := by decide +kernel
theorem d_Md_areFit_5 : decode b_Md_areFit 5 = .ok (.aload_n 0, 1) := by decide +kernel
theorem d_Md_areFit_6 : decode b_Md_areFit 6 = .ok (.getfield 71, 3) := by decide +kernel
theorem d_Md_areFit_9 : decode b_Md_areFit 9 = .ok (.if_icmp .ge 40, 3) := by decide +kernel
theorem d_Md_areFit_12 : decode b_Md_areFit 12 = .ok (.iload_n 1, 1) := by decide +kernel
theorem d_Md_areFit_13 : decode b_Md_areFit 13 = .ok (.ifCond .eq 28, 3) := by decide +kernel
theorem d_Md_areFit_16 : decode b_Md_areFit 16 = .ok (.aload_n 0, 1) := by decide +kernel
theorem d_Md_areFit_17 : decode b_Md_areFit 17 = .ok (.aload_n 0, 1) := by decide +kernel
theorem d_Md_areFit_18 : decode b_Md_areFit 18 = .ok (.getfield 45, 3) := by decide +kernel
theorem d_Md_areFit_21 : decode b_Md_areFit 21 = .ok (.iload_n 2, 1) := by decide +kernel
theorem d_Md_areFit_22 : decode b_Md_areFit 22 = .ok (.iaload, 1) := by decide +kernel
theorem d_Md_areFit_23 : decode b_Md_areFit 23 = .ok (.aload_n 0, 1) := by decide +kernel
theorem d_Md_areFit_24 : decode b_Md_areFit 24 = .ok (.getfield 45, 3) := by decide +kernel
theorem d_Md_areFit_27 : decode b_Md_areFit 27 = .ok (.iload_n 2, 1) := by decide +kernel
theorem d_Md_areFit_28 : decode b_Md_areFit 28 = .ok (.iconst 1, 1) := by decide +kernel
theorem d_Md_areFit_29 : decode b_Md_areFit 29 = .ok (.isub, 1) := by decide +kernel
theorem d_Md_areFit_30 : decode b_Md_areFit 30 = .ok (.iaload, 1) := by decide +kernel
theorem d_Md_areFit_31 : decode b_Md_areFit 31 = .ok (.invokevirtual 99, 3) := by decide +kernel
theorem d_Md_areFit_34 : decode b_Md_areFit 34 = .ok (.ifCond .eq 7, 3) := by decide +kernel
theorem d_Md_areFit_37 : decode b_Md_areFit 37 = .ok (.iconst 1, 1) := by decide +kernel
theorem d_Md_areFit_38 : decode b_Md_areFit 38 = .ok (.goto 4, 3) := by decide +kernel
theorem d_Md_areFit_41 : decode b_Md_areFit 41 = .ok (.iconst 0, 1) := by decide +kernel
theorem d_Md_areFit_42 : decode b_Md_areFit 42 = .ok (.istore_n 1, 1) := by decide +kernel
theorem d_Md_areFit_43 : decode b_Md_areFit 43 = .ok (.iinc 2 1, 3) := by decide +kernel
theorem d_Md_areFit_46 : decode b_Md_areFit 46 = .ok (.goto (-42), 3) := by decide +kernel
theorem d_Md_areFit_49 : decode b_Md_areFit 49 = .ok (.iload_n 1, 1) := by decide +kernel
theorem d_Md_areFit_50 : decode b_Md_areFit 50 = .ok (.ireturn, 1) := by decide +kernel
theorem d_Md_first_0 : decode b_Md_first 0 = .ok (.iload_n 1, 1) := by decide +kernel
theorem d_Md_first_1 : decode b_Md_first 1 = .ok (.istore 5, 2) := by decide +kernel
theorem d_Md_first_3 : decode b_Md_first 3 = .ok (.iload 5, 2) := by decide +kernel
theorem d_Md_first_5 : decode b_Md_first 5 = .ok (.iload_n 2, 1) := by decide +kernel
theorem d_Md_first_6 : decode b_Md_first 6 = .ok (.if_icmp .ge 24, 3) := by decide +kernel
theorem d_Md_first_9 : decode b_Md_first 9 = .ok (.aload_n 0, 1) := by decide +kernel
theorem d_Md_first_10 : decode b_Md_first 10 = .ok (.iload 5, 2) := by decide +kernel
theorem d_Md_first_12 : decode b_Md_first 12 = .ok (.iload_n 3, 1) := by decide +kernel
theorem d_Md_first_13 : decode b_Md_first 13 = .ok (.iload 4, 2) := by decide +kernel
theorem d_Md_first_15 : decode b_Md_first 15 = .ok (.invokevirtual 102, 3) := by decide +kernel
theorem d_Md_first_18 : decode b_Md_first 18 = .ok (.ifCond .eq 6, 3) := by decide +kernel
theorem d_Md_first_21 : decode b_Md_first 21 = .ok (.iload 5, 2) := by decide +kernel
theorem d_Md_first_23 : decode b_Md_first 23 = .ok (.ireturn, 1) := by decide +kernel
theorem d_Md_first_24 : decode b_Md_first 24 = .ok (.iinc 5 1, 3) := by decide +kernel
theorem d_Md_first_27 : decode b_Md_first 27 = .ok (.goto (-24), 3) := by decide +kernel
theorem d_Md_first_30 : decode b_Md_first 30 = .ok (.iconst (-1), 1) := by decide +kernel
theorem d_Md_first_31 : decode b_Md_first 31 = .ok (.ireturn, 1) := by decide +kernel
