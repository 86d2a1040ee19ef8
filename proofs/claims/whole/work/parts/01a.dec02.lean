/-! decode rows -/
theorem dX6_readNumber_0 : decode cX6_readNumber 0 = .ok (.aload_n 0, 1) := by decide +kernel
theorem dX6_readNumber_1 : decode cX6_readNumber 1 = .ok (.iconst 0, 1) := by decide +kernel
theorem dX6_readNumber_2 : decode cX6_readNumber 2 = .ok (.putfield 26, 3) := by decide +kernel
theorem dX6_readNumber_5 : decode cX6_readNumber 5 = .ok (.aload_n 0, 1) := by decide +kernel
theorem dX6_readNumber_6 : decode cX6_readNumber 6 = .ok (.getfield 17, 3) := by decide +kernel
theorem dX6_readNumber_9 : decode cX6_readNumber 9 = .ok (.aload_n 0, 1) := by decide +kernel
theorem dX6_readNumber_10 : decode cX6_readNumber 10 = .ok (.getfield 13, 3) := by decide +kernel
theorem dX6_readNumber_13 : decode cX6_readNumber 13 = .ok (.if_icmp .ge 88, 3) := by decide +kernel
theorem dX6_readNumber_16 : decode cX6_readNumber 16 = .ok (.aload_n 0, 1) := by decide +kernel
theorem dX6_readNumber_17 : decode cX6_readNumber 17 = .ok (.getfield 7, 3) := by decide +kernel
theorem dX6_readNumber_20 : decode cX6_readNumber 20 = .ok (.aload_n 0, 1) := by decide +kernel
theorem dX6_readNumber_21 : decode cX6_readNumber 21 = .ok (.getfield 17, 3) := by decide +kernel
theorem dX6_readNumber_24 : decode cX6_readNumber 24 = .ok (.baload, 1) := by decide +kernel
theorem dX6_readNumber_25 : decode cX6_readNumber 25 = .ok (.bipush 48, 2) := by decide +kernel
theorem dX6_readNumber_27 : decode cX6_readNumber 27 = .ok (.if_icmp .lt 74, 3) := by decide +kernel
theorem dX6_readNumber_30 : decode cX6_readNumber 30 = .ok (.aload_n 0, 1) := by decide +kernel
theorem dX6_readNumber_31 : decode cX6_readNumber 31 = .ok (.getfield 7, 3) := by decide +kernel
theorem dX6_readNumber_34 : decode cX6_readNumber 34 = .ok (.aload_n 0, 1) := by decide +kernel
theorem dX6_readNumber_35 : decode cX6_readNumber 35 = .ok (.getfield 17, 3) := by decide +kernel
theorem dX6_readNumber_38 : decode cX6_readNumber 38 = .ok (.baload, 1) := by decide +kernel
theorem dX6_readNumber_39 : decode cX6_readNumber 39 = .ok (.bipush 57, 2) := by decide +kernel
theorem dX6_readNumber_41 : decode cX6_readNumber 41 = .ok (.if_icmp .gt 60, 3) := by decide +kernel
theorem dX6_readNumber_44 : decode cX6_readNumber 44 = .ok (.aload_n 0, 1) := by decide +kernel
theorem dX6_readNumber_45 : decode cX6_readNumber 45 = .ok (.aload_n 0, 1) := by decide +kernel
theorem dX6_readNumber_46 : decode cX6_readNumber 46 = .ok (.getfield 17, 3) := by decide +kernel
theorem dX6_readNumber_49 : decode cX6_readNumber 49 = .ok (.aload_n 0, 1) := by decide +kernel
theorem dX6_readNumber_50 : decode cX6_readNumber 50 = .ok (.getfield 23, 3) := by decide +kernel
theorem dX6_readNumber_53 : decode cX6_readNumber 53 = .ok (.isub, 1) := by decide +kernel
theorem dX6_readNumber_54 : decode cX6_readNumber 54 = .ok (.iconst 3, 1) := by decide +kernel
theorem dX6_readNumber_55 : decode cX6_readNumber 55 = .ok (.if_icmp .ge 26, 3) := by decide +kernel
theorem dX6_readNumber_58 : decode cX6_readNumber 58 = .ok (.aload_n 0, 1) := by decide +kernel
theorem dX6_readNumber_59 : decode cX6_readNumber 59 = .ok (.getfield 26, 3) := by decide +kernel
theorem dX6_readNumber_62 : decode cX6_readNumber 62 = .ok (.bipush 10, 2) := by decide +kernel
theorem dX6_readNumber_64 : decode cX6_readNumber 64 = .ok (.imul, 1) := by decide +kernel
theorem dX6_readNumber_65 : decode cX6_readNumber 65 = .ok (.aload_n 0, 1) := by decide +kernel
theorem dX6_readNumber_66 : decode cX6_readNumber 66 = .ok (.getfield 7, 3) := by decide +kernel
theorem dX6_readNumber_69 : decode cX6_readNumber 69 = .ok (.aload_n 0, 1) := by decide +kernel
theorem dX6_readNumber_70 : decode cX6_readNumber 70 = .ok (.getfield 17, 3) := by decide +kernel
theorem dX6_readNumber_73 : decode cX6_readNumber 73 = .ok (.baload, 1) := by decide +kernel
theorem dX6_readNumber_74 : decode cX6_readNumber 74 = .ok (.iadd, 1) := by decide +kernel
theorem dX6_readNumber_75 : decode cX6_readNumber 75 = .ok (.bipush 48, 2) := by decide +kernel
theorem dX6_readNumber_77 : decode cX6_readNumber 77 = .ok (.isub, 1) := by decide +kernel
theorem dX6_readNumber_78 : decode cX6_readNumber 78 = .ok (.goto 7, 3) := by decide +kernel
theorem dX6_readNumber_81 : decode cX6_readNumber 81 = .ok (.aload_n 0, 1) := by decide +kernel
theorem dX6_readNumber_82 : decode cX6_readNumber 82 = .ok (.getfield 26, 3) := by decide +kernel
theorem dX6_readNumber_85 : decode cX6_readNumber 85 = .ok (.putfield 26, 3) := by decide +kernel
theorem dX6_readNumber_88 : decode cX6_readNumber 88 = .ok (.aload_n 0, 1) := by decide +kernel
theorem dX6_readNumber_89 : decode cX6_readNumber 89 = .ok (.dup, 1) := by decide +kernel
theorem dX6_readNumber_90 : decode cX6_readNumber 90 = .ok (.getfield 17, 3) := by decide +kernel
theorem dX6_readNumber_93 : decode cX6_readNumber 93 = .ok (.iconst 1, 1) := by decide +kernel
theorem dX6_readNumber_94 : decode cX6_readNumber 94 = .ok (.iadd, 1) := by decide +kernel
theorem dX6_readNumber_95 : decode cX6_readNumber 95 = .ok (.putfield 17, 3) := by decide +kernel
theorem dX6_readNumber_98 : decode cX6_readNumber 98 = .ok (.goto (-93), 3) := by decide +kernel
theorem dX6_readNumber_101 : decode cX6_readNumber 101 = .ok (.aload_n 0, 1) := by decide +kernel
theorem dX6_readNumber_102 : decode cX6_readNumber 102 = .ok (.aload_n 0, 1) := by decide +kernel
theorem dX6_readNumber_103 : decode cX6_readNumber 103 = .ok (.getfield 17, 3) := by decide +kernel
theorem dX6_readNumber_106 : decode cX6_readNumber 106 = .ok (.aload_n 0, 1) := by decide +kernel
theorem dX6_readNumber_107 : decode cX6_readNumber 107 = .ok (.getfield 23, 3) := by decide +kernel
theorem dX6_readNumber_110 : decode cX6_readNumber 110 = .ok (.isub, 1) := by decide +kernel
theorem dX6_readNumber_111 : decode cX6_readNumber 111 = .ok (.iconst 3, 1) := by decide +kernel
theorem dX6_readNumber_112 : decode cX6_readNumber 112 = .ok (.if_icmp .le 7, 3) := by decide +kernel
theorem dX6_readNumber_115 : decode cX6_readNumber 115 = .ok (.iconst 4, 1) := by decide +kernel
theorem dX6_readNumber_116 : decode cX6_readNumber 116 = .ok (.goto 4, 3) := by decide +kernel
theorem dX6_readNumber_119 : decode cX6_readNumber 119 = .ok (.iconst 2, 1) := by decide +kernel
theorem dX6_readNumber_120 : decode cX6_readNumber 120 = .ok (.putfield 20, 3) := by decide +kernel
theorem dX6_readNumber_123 : decode cX6_readNumber 123 = .ok (.return_, 1) := by decide +kernel
theorem dX6_isAt_0 : decode cX6_isAt 0 = .ok (.aload_n 0, 1) := by decide +kernel
theorem dX6_isAt_1 : decode cX6_isAt 1 = .ok (.getfield 20, 3) := by decide +kernel
theorem dX6_isAt_4 : decode cX6_isAt 4 = .ok (.iconst 1, 1) := by decide +kernel
theorem dX6_isAt_5 : decode cX6_isAt 5 = .ok (.if_icmp .eq 11, 3) := by decide +kernel
theorem dX6_isAt_8 : decode cX6_isAt 8 = .ok (.aload_n 0, 1) := by decide +kernel
theorem dX6_isAt_9 : decode cX6_isAt 9 = .ok (.getfield 20, 3) := by decide +kernel
theorem dX6_isAt_12 : decode cX6_isAt 12 = .ok (.iconst 3, 1) := by decide +kernel
theorem dX6_isAt_13 : decode cX6_isAt 13 = .ok (.if_icmp .ne 19, 3) := by decide +kernel
theorem dX6_isAt_16 : decode cX6_isAt 16 = .ok (.aload_n 1, 1) := by decide +kernel
theorem dX6_isAt_17 : decode cX6_isAt 17 = .ok (.invokevirtual 52, 3) := by decide +kernel
theorem dX6_isAt_20 : decode cX6_isAt 20 = .ok (.aload_n 0, 1) := by decide +kernel
theorem dX6_isAt_21 : decode cX6_isAt 21 = .ok (.getfield 17, 3) := by decide +kernel
theorem dX6_isAt_24 : decode cX6_isAt 24 = .ok (.aload_n 0, 1) := by decide +kernel
theorem dX6_isAt_25 : decode cX6_isAt 25 = .ok (.getfield 23, 3) := by decide +kernel
theorem dX6_isAt_28 : decode cX6_isAt 28 = .ok (.isub, 1) := by decide +kernel
theorem dX6_isAt_29 : decode cX6_isAt 29 = .ok (.if_icmp .eq 5, 3) := by decide +kernel
theorem dX6_isAt_32 : decode cX6_isAt 32 = .ok (.iconst 0, 1) := by decide +kernel
theorem dX6_isAt_33 : decode cX6_isAt 33 = .ok (.ireturn, 1) := by decide +kernel
theorem dX6_isAt_34 : decode cX6_isAt 34 = .ok (.iconst 0, 1) := by decide +kernel
theorem dX6_isAt_35 : decode cX6_isAt 35 = .ok (.istore_n 2, 1) := by decide +kernel
theorem dX6_isAt_36 : decode cX6_isAt 36 = .ok (.iload_n 2, 1) := by decide +kernel
theorem dX6_isAt_37 : decode cX6_isAt 37 = .ok (.aload_n 1, 1) := by decide +kernel
theorem dX6_isAt_38 : decode cX6_isAt 38 = .ok (.invokevirtual 52, 3) := by decide +kernel
theorem dX6_isAt_41 : decode cX6_isAt 41 = .ok (.if_icmp .ge 43, 3) := by decide +kernel
theorem dX6_isAt_44 : decode cX6_isAt 44 = .ok (.aload_n 0, 1) := by decide +kernel
theorem dX6_isAt_45 : decode cX6_isAt 45 = .ok (.getfield 23, 3) := by decide +kernel
theorem dX6_isAt_48 : decode cX6_isAt 48 = .ok (.iload_n 2, 1) := by decide +kernel
theorem dX6_isAt_49 : decode cX6_isAt 49 = .ok (.iadd, 1) := by decide +kernel
theorem dX6_isAt_50 : decode cX6_isAt 50 = .ok (.aload_n 0, 1) := by decide +kernel
theorem dX6_isAt_51 : decode cX6_isAt 51 = .ok (.getfield 13, 3) := by decide +kernel
theorem dX6_isAt_54 : decode cX6_isAt 54 = .ok (.if_icmp .ge 30, 3) := by decide +kernel
theorem dX6_isAt_57 : decode cX6_isAt 57 = .ok (.aload_n 0, 1) := by decide +kernel
theorem dX6_isAt_58 : decode cX6_isAt 58 = .ok (.getfield 7, 3) := by decide +kernel
theorem dX6_isAt_61 : decode cX6_isAt 61 = .ok (.aload_n 0, 1) := by decide +kernel
theorem dX6_isAt_62 : decode cX6_isAt 62 = .ok (.getfield 23, 3) := by decide +kernel
theorem dX6_isAt_65 : decode cX6_isAt 65 = .ok (.iload_n 2, 1) := by decide +kernel
theorem dX6_isAt_66 : decode cX6_isAt 66 = .ok (.iadd, 1) := by decide +kernel
theorem dX6_isAt_67 : decode cX6_isAt 67 = .ok (.baload, 1) := by decide +kernel
theorem dX6_isAt_68 : decode cX6_isAt 68 = .ok (.aload_n 1, 1) := by decide +kernel
theorem dX6_isAt_69 : decode cX6_isAt 69 = .ok (.iload_n 2, 1) := by decide +kernel
theorem dX6_isAt_70 : decode cX6_isAt 70 = .ok (.invokevirtual 55, 3) := by decide +kernel
theorem dX6_isAt_73 : decode cX6_isAt 73 = .ok (.if_icmp .eq 5, 3) := by decide +kernel
theorem dX6_isAt_76 : decode cX6_isAt 76 = .ok (.iconst 0, 1) := by decide +kernel
theorem dX6_isAt_77 : decode cX6_isAt 77 = .ok (.ireturn, 1) := by decide +kernel
theorem dX6_isAt_78 : decode cX6_isAt 78 = .ok (.iinc 2 1, 3) := by decide +kernel
theorem dX6_isAt_81 : decode cX6_isAt 81 = .ok (.goto (-45), 3) := by decide +kernel
theorem dX6_isAt_84 : decode cX6_isAt 84 = .ok (.iconst 1, 1) := by decide +kernel
theorem dX6_isAt_85 : decode cX6_isAt 85 = .ok (.ireturn, 1) := by decide +kernel
theorem dX7_init_0 : decode cX7_init 0 = .ok (.aload_n 0, 1) := by decide +kernel
theorem dX7_init_1 : decode cX7_init 1 = .ok (.invokespecial 3, 3) := by decide +kernel
theorem dX7_init_4 : decode cX7_init 4 = .ok (.aload_n 0, 1) := by decide +kernel
theorem dX7_init_5 : decode cX7_init 5 = .ok (.iconst 0, 1) := by decide +kernel
theorem dX7_init_6 : decode cX7_init 6 = .ok (.putfield 9, 3) := by decide +kernel
theorem dX7_init_9 : decode cX7_init 9 = .ok (.aload_n 0, 1) := by decide +kernel
theorem dX7_init_10 : decode cX7_init 10 = .ok (.sipush 20000, 3) := by decide +kernel
theorem dX7_init_13 : decode cX7_init 13 = .ok (.newarray .int, 2) := by decide +kernel
theorem dX7_init_15 : decode cX7_init 15 = .ok (.putfield 15, 3) := by decide +kernel
theorem dX7_init_18 : decode cX7_init 18 = .ok (.aload_n 0, 1) := by decide +kernel
theorem dX7_init_19 : decode cX7_init 19 = .ok (.iconst 0, 1) := by decide +kernel
theorem dX7_init_20 : decode cX7_init 20 = .ok (.putfield 19, 3) := by decide +kernel
theorem dX7_init_23 : decode cX7_init 23 = .ok (.aload_n 0, 1) := by decide +kernel
theorem dX7_init_24 : decode cX7_init 24 = .ok (.sipush 20000, 3) := by decide +kernel
theorem dX7_init_27 : decode cX7_init 27 = .ok (.newarray .int, 2) := by decide +kernel
theorem dX7_init_29 : decode cX7_init 29 = .ok (.putfield 22, 3) := by decide +kernel
theorem dX7_init_32 : decode cX7_init 32 = .ok (.aload_n 0, 1) := by decide +kernel
theorem dX7_init_33 : decode cX7_init 33 = .ok (.sipush 20000, 3) := by decide +kernel
theorem dX7_init_36 : decode cX7_init 36 = .ok (.newarray .int, 2) := by decide +kernel
theorem dX7_init_38 : decode cX7_init 38 = .ok (.putfield 25, 3) := by decide +kernel
theorem dX7_init_41 : decode cX7_init 41 = .ok (.aload_n 0, 1) := by decide +kernel
theorem dX7_init_42 : decode cX7_init 42 = .ok (.sipush 20000, 3) := by decide +kernel
theorem dX7_init_45 : decode cX7_init 45 = .ok (.newarray .int, 2) := by decide +kernel
theorem dX7_init_47 : decode cX7_init 47 = .ok (.putfield 28, 3) := by decide +kernel
theorem dX7_init_50 : decode cX7_init 50 = .ok (.aload_n 0, 1) := by decide +kernel
theorem dX7_init_51 : decode cX7_init 51 = .ok (.sipush 20000, 3) := by decide +kernel
theorem dX7_init_54 : decode cX7_init 54 = .ok (.newarray .long, 2) := by decide +kernel
theorem dX7_init_56 : decode cX7_init 56 = .ok (.putfield 31, 3) := by decide +kernel
theorem dX7_init_59 : decode cX7_init 59 = .ok (.aload_n 0, 1) := by decide +kernel
theorem dX7_init_60 : decode cX7_init 60 = .ok (.bipush 35, 2) := by decide +kernel
theorem dX7_init_62 : decode cX7_init 62 = .ok (.newarray .int, 2) := by decide +kernel
theorem dX7_init_64 : decode cX7_init 64 = .ok (.putfield 35, 3) := by decide +kernel
theorem dX7_init_67 : decode cX7_init 67 = .ok (.aload_n 0, 1) := by decide +kernel
theorem dX7_init_68 : decode cX7_init 68 = .ok (.bipush 35, 2) := by decide +kernel
theorem dX7_init_70 : decode cX7_init 70 = .ok (.newarray .int, 2) := by decide +kernel
theorem dX7_init_72 : decode cX7_init 72 = .ok (.putfield 38, 3) := by decide +kernel
theorem dX7_init_75 : decode cX7_init 75 = .ok (.aload_n 0, 1) := by decide +kernel
theorem dX7_init_76 : decode cX7_init 76 = .ok (.bipush 10, 2) := by decide +kernel
theorem dX7_init_78 : decode cX7_init 78 = .ok (.newarray .int, 2) := by decide +kernel
theorem dX7_init_80 : decode cX7_init 80 = .ok (.putfield 41, 3) := by decide +kernel
theorem dX7_init_83 : decode cX7_init 83 = .ok (.aload_n 0, 1) := by decide +kernel
theorem dX7_init_84 : decode cX7_init 84 = .ok (.iconst 0, 1) := by decide +kernel
theorem dX7_init_85 : decode cX7_init 85 = .ok (.putfield 44, 3) := by decide +kernel
theorem dX7_init_88 : decode cX7_init 88 = .ok (.aload_n 0, 1) := by decide +kernel
theorem dX7_init_89 : decode cX7_init 89 = .ok (.iconst 0, 1) := by decide +kernel
theorem dX7_init_90 : decode cX7_init 90 = .ok (.putfield 47, 3) := by decide +kernel
theorem dX7_init_93 : decode cX7_init 93 = .ok (.aload_n 0, 1) := by decide +kernel
theorem dX7_init_94 : decode cX7_init 94 = .ok (.iconst 0, 1) := by decide +kernel
theorem dX7_init_95 : decode cX7_init 95 = .ok (.putfield 51, 3) := by decide +kernel
theorem dX7_init_98 : decode cX7_init 98 = .ok (.aload_n 0, 1) := by decide +kernel
theorem dX7_init_99 : decode cX7_init 99 = .ok (.iconst 0, 1) := by decide +kernel
theorem dX7_init_100 : decode cX7_init 100 = .ok (.putfield 54, 3) := by decide +kernel
theorem dX7_init_103 : decode cX7_init 103 = .ok (.aload_n 0, 1) := by decide +kernel
theorem dX7_init_104 : decode cX7_init 104 = .ok (.iconst (-1), 1) := by decide +kernel
theorem dX7_init_105 : decode cX7_init 105 = .ok (.putfield 57, 3) := by decide +kernel
theorem dX7_init_108 : decode cX7_init 108 = .ok (.aload_n 0, 1) := by decide +kernel
theorem dX7_init_109 : decode cX7_init 109 = .ok (.aload_n 1, 1) := by decide +kernel
theorem dX7_init_110 : decode cX7_init 110 = .ok (.putfield 60, 3) := by decide +kernel
theorem dX7_init_113 : decode cX7_init 113 = .ok (.aload_n 0, 1) := by decide +kernel
theorem dX7_init_114 : decode cX7_init 114 = .ok (.aload_n 2, 1) := by decide +kernel
theorem dX7_init_115 : decode cX7_init 115 = .ok (.putfield 64, 3) := by decide +kernel
theorem dX7_init_118 : decode cX7_init 118 = .ok (.return_, 1) := by decide +kernel
theorem dX7_tune_0 : decode cX7_tune 0 = .ok (.aload_n 0, 1) := by decide +kernel
theorem dX7_tune_1 : decode cX7_tune 1 = .ok (.getfield 60, 3) := by decide +kernel
theorem dX7_tune_4 : decode cX7_tune 4 = .ok (.aload_n 1, 1) := by decide +kernel
theorem dX7_tune_5 : decode cX7_tune 5 = .ok (.iload_n 2, 1) := by decide +kernel
theorem dX7_tune_6 : decode cX7_tune 6 = .ok (.invokevirtual 68, 3) := by decide +kernel
theorem dX7_tune_9 : decode cX7_tune 9 = .ok (.aload_n 0, 1) := by decide +kernel
theorem dX7_tune_10 : decode cX7_tune 10 = .ok (.aload_n 0, 1) := by decide +kernel
theorem dX7_tune_11 : decode cX7_tune 11 = .ok (.getfield 47, 3) := by decide +kernel
theorem dX7_tune_14 : decode cX7_tune 14 = .ok (.ifCond .eq 23, 3) := by decide +kernel
theorem dX7_tune_17 : decode cX7_tune 17 = .ok (.aload_n 0, 1) := by decide +kernel
theorem dX7_tune_18 : decode cX7_tune 18 = .ok (.getfield 64, 3) := by decide +kernel
theorem dX7_tune_21 : decode cX7_tune 21 = .ok (.aload_n 1, 1) := by decide +kernel
theorem dX7_tune_22 : decode cX7_tune 22 = .ok (.if_acmp .ne 15, 3) := by decide +kernel
theorem dX7_tune_25 : decode cX7_tune 25 = .ok (.aload_n 0, 1) := by decide +kernel
theorem dX7_tune_26 : decode cX7_tune 26 = .ok (.getfield 9, 3) := by decide +kernel
theorem dX7_tune_29 : decode cX7_tune 29 = .ok (.iload_n 2, 1) := by decide +kernel
theorem dX7_tune_30 : decode cX7_tune 30 = .ok (.if_icmp .ne 7, 3) := by decide +kernel
theorem dX7_tune_33 : decode cX7_tune 33 = .ok (.iconst 1, 1) := by decide +kernel
theorem dX7_tune_34 : decode cX7_tune 34 = .ok (.goto 4, 3) := by decide +kernel
theorem dX7_tune_37 : decode cX7_tune 37 = .ok (.iconst 0, 1) := by decide +kernel
theorem dX7_tune_38 : decode cX7_tune 38 = .ok (.putfield 47, 3) := by decide +kernel
theorem dX7_tune_41 : decode cX7_tune 41 = .ok (.aload_n 0, 1) := by decide +kernel
theorem dX7_tune_42 : decode cX7_tune 42 = .ok (.aload_n 1, 1) := by decide +kernel
theorem dX7_tune_43 : decode cX7_tune 43 = .ok (.putfield 64, 3) := by decide +kernel
theorem dX7_tune_46 : decode cX7_tune 46 = .ok (.aload_n 0, 1) := by decide +kernel
theorem dX7_tune_47 : decode cX7_tune 47 = .ok (.iload_n 2, 1) := by decide +kernel
theorem dX7_tune_48 : decode cX7_tune 48 = .ok (.putfield 9, 3) := by decide +kernel
theorem dX7_tune_51 : decode cX7_tune 51 = .ok (.return_, 1) := by decide +kernel
theorem dX7_begin_0 : decode cX7_begin 0 = .ok (.aload_n 0, 1) := by decide +kernel
theorem dX7_begin_1 : decode cX7_begin 1 = .ok (.iconst 0, 1) := by decide +kernel
theorem dX7_begin_2 : decode cX7_begin 2 = .ok (.putfield 47, 3) := by decide +kernel
theorem dX7_begin_5 : decode cX7_begin 5 = .ok (.aload_n 0, 1) := by decide +kernel
theorem dX7_begin_6 : decode cX7_begin 6 = .ok (.dup, 1) := by decide +kernel
theorem dX7_begin_7 : decode cX7_begin 7 = .ok (.getfield 19, 3) := by decide +kernel
theorem dX7_begin_10 : decode cX7_begin 10 = .ok (.iconst 1, 1) := by decide +kernel
theorem dX7_begin_11 : decode cX7_begin 11 = .ok (.iadd, 1) := by decide +kernel
theorem dX7_begin_12 : decode cX7_begin 12 = .ok (.putfield 19, 3) := by decide +kernel
theorem dX7_begin_15 : decode cX7_begin 15 = .ok (.aload_n 0, 1) := by decide +kernel
theorem dX7_begin_16 : decode cX7_begin 16 = .ok (.iconst 0, 1) := by decide +kernel
theorem dX7_begin_17 : decode cX7_begin 17 = .ok (.putfield 44, 3) := by decide +kernel
theorem dX7_begin_20 : decode cX7_begin 20 = .ok (.return_, 1) := by decide +kernel
theorem dX7_isState_0 : decode cX7_isState 0 = .ok (.iload_n 0, 1) := by decide +kernel
theorem dX7_isState_1 : decode cX7_isState 1 = .ok (.ifCond .lt 14, 3) := by decide +kernel
theorem dX7_isState_4 : decode cX7_isState 4 = .ok (.iload_n 0, 1) := by decide +kernel
theorem dX7_isState_5 : decode cX7_isState 5 = .ok (.sipush 20000, 3) := by decide +kernel
theorem dX7_isState_8 : decode cX7_isState 8 = .ok (.if_icmp .ge 7, 3) := by decide +kernel
theorem dX7_isState_11 : decode cX7_isState 11 = .ok (.iconst 1, 1) := by decide +kernel
theorem dX7_isState_12 : decode cX7_isState 12 = .ok (.goto 4, 3) := by decide +kernel
theorem dX7_isState_15 : decode cX7_isState 15 = .ok (.iconst 0, 1) := by decide +kernel
theorem dX7_isState_16 : decode cX7_isState 16 = .ok (.ireturn, 1) := by decide +kernel
theorem dX7_isNew_0 : decode cX7_isNew 0 = .ok (.iload_n 1, 1) := by decide +kernel
theorem dX7_isNew_1 : decode cX7_isNew 1 = .ok (.invokestatic 74, 3) := by decide +kernel
theorem dX7_isNew_4 : decode cX7_isNew 4 = .ok (.ifCond .eq 20, 3) := by decide +kernel
theorem dX7_isNew_7 : decode cX7_isNew 7 = .ok (.aload_n 0, 1) := by decide +kernel
theorem dX7_isNew_8 : decode cX7_isNew 8 = .ok (.getfield 15, 3) := by decide +kernel
theorem dX7_isNew_11 : decode cX7_isNew 11 = .ok (.iload_n 1, 1) := by decide +kernel
theorem dX7_isNew_12 : decode cX7_isNew 12 = .ok (.iaload, 1) := by decide +kernel
theorem dX7_isNew_13 : decode cX7_isNew 13 = .ok (.aload_n 0, 1) := by decide +kernel
theorem dX7_isNew_14 : decode cX7_isNew 14 = .ok (.getfield 19, 3) := by decide +kernel
theorem dX7_isNew_17 : decode cX7_isNew 17 = .ok (.if_icmp .eq 7, 3) := by decide +kernel
theorem dX7_isNew_20 : decode cX7_isNew 20 = .ok (.iconst 1, 1) := by decide +kernel
theorem dX7_isNew_21 : decode cX7_isNew 21 = .ok (.goto 4, 3) := by decide +kernel
theorem dX7_isNew_24 : decode cX7_isNew 24 = .ok (.iconst 0, 1) := by decide +kernel
theorem dX7_isNew_25 : decode cX7_isNew 25 = .ok (.ireturn, 1) := by decide +kernel
theorem dX7_reach_0 : decode cX7_reach 0 = .ok (.iload_n 1, 1) := by decide +kernel
theorem dX7_reach_1 : decode cX7_reach 1 = .ok (.invokestatic 74, 3) := by decide +kernel
theorem dX7_reach_4 : decode cX7_reach 4 = .ok (.ifCond .eq 57, 3) := by decide +kernel
theorem dX7_reach_7 : decode cX7_reach 7 = .ok (.aload_n 0, 1) := by decide +kernel
theorem dX7_reach_8 : decode cX7_reach 8 = .ok (.getfield 44, 3) := by decide +kernel
theorem dX7_reach_11 : decode cX7_reach 11 = .ok (.sipush 20000, 3) := by decide +kernel
theorem dX7_reach_14 : decode cX7_reach 14 = .ok (.if_icmp .ge 47, 3) := by decide +kernel
theorem dX7_reach_17 : decode cX7_reach 17 = .ok (.aload_n 0, 1) := by decide +kernel
theorem dX7_reach_18 : decode cX7_reach 18 = .ok (.getfield 15, 3) := by decide +kernel
theorem dX7_reach_21 : decode cX7_reach 21 = .ok (.iload_n 1, 1) := by decide +kernel
theorem dX7_reach_22 : decode cX7_reach 22 = .ok (.aload_n 0, 1) := by decide +kernel
theorem dX7_reach_23 : decode cX7_reach 23 = .ok (.getfield 19, 3) := by decide +kernel
theorem dX7_reach_26 : decode cX7_reach 26 = .ok (.iastore, 1) := by decide +kernel
theorem dX7_reach_27 : decode cX7_reach 27 = .ok (.aload_n 0, 1) := by decide +kernel
theorem dX7_reach_28 : decode cX7_reach 28 = .ok (.getfield 25, 3) := by decide +kernel
theorem dX7_reach_31 : decode cX7_reach 31 = .ok (.iload_n 1, 1) := by decide +kernel
theorem dX7_reach_32 : decode cX7_reach 32 = .ok (.iload_n 2, 1) := by decide +kernel
theorem dX7_reach_33 : decode cX7_reach 33 = .ok (.iastore, 1) := by decide +kernel
theorem dX7_reach_34 : decode cX7_reach 34 = .ok (.aload_n 0, 1) := by decide +kernel
theorem dX7_reach_35 : decode cX7_reach 35 = .ok (.getfield 28, 3) := by decide +kernel
theorem dX7_reach_38 : decode cX7_reach 38 = .ok (.iload_n 1, 1) := by decide +kernel
theorem dX7_reach_39 : decode cX7_reach 39 = .ok (.iconst 0, 1) := by decide +kernel
theorem dX7_reach_40 : decode cX7_reach 40 = .ok (.iastore, 1) := by decide +kernel
theorem dX7_reach_41 : decode cX7_reach 41 = .ok (.aload_n 0, 1) := by decide +kernel
theorem dX7_reach_42 : decode cX7_reach 42 = .ok (.getfield 22, 3) := by decide +kernel
theorem dX7_reach_45 : decode cX7_reach 45 = .ok (.aload_n 0, 1) := by decide +kernel
theorem dX7_reach_46 : decode cX7_reach 46 = .ok (.getfield 44, 3) := by decide +kernel
theorem dX7_reach_49 : decode cX7_reach 49 = .ok (.iload_n 1, 1) := by decide +kernel
theorem dX7_reach_50 : decode cX7_reach 50 = .ok (.iastore, 1) := by decide +kernel
theorem dX7_reach_51 : decode cX7_reach 51 = .ok (.aload_n 0, 1) := by decide +kernel
theorem dX7_reach_52 : decode cX7_reach 52 = .ok (.dup, 1) := by decide +kernel
theorem dX7_reach_53 : decode cX7_reach 53 = .ok (.getfield 44, 3) := by decide +kernel
theorem dX7_reach_56 : decode cX7_reach 56 = .ok (.iconst 1, 1) := by decide +kernel
theorem dX7_reach_57 : decode cX7_reach 57 = .ok (.iadd, 1) := by decide +kernel
theorem dX7_reach_58 : decode cX7_reach 58 = .ok (.putfield 44, 3) := by decide +kernel
theorem dX7_reach_61 : decode cX7_reach 61 = .ok (.return_, 1) := by decide +kernel
theorem dX7_linkOf_0 : decode cX7_linkOf 0 = .ok (.iload_n 1, 1) := by decide +kernel
theorem dX7_linkOf_1 : decode cX7_linkOf 1 = .ok (.invokestatic 74, 3) := by decide +kernel
theorem dX7_linkOf_4 : decode cX7_linkOf 4 = .ok (.ifCond .eq 12, 3) := by decide +kernel
theorem dX7_linkOf_7 : decode cX7_linkOf 7 = .ok (.aload_n 0, 1) := by decide +kernel
theorem dX7_linkOf_8 : decode cX7_linkOf 8 = .ok (.getfield 25, 3) := by decide +kernel
theorem dX7_linkOf_11 : decode cX7_linkOf 11 = .ok (.iload_n 1, 1) := by decide +kernel
theorem dX7_linkOf_12 : decode cX7_linkOf 12 = .ok (.iaload, 1) := by decide +kernel
theorem dX7_linkOf_13 : decode cX7_linkOf 13 = .ok (.goto 4, 3) := by decide +kernel
theorem dX7_linkOf_16 : decode cX7_linkOf 16 = .ok (.iconst (-1), 1) := by decide +kernel
theorem dX7_linkOf_17 : decode cX7_linkOf 17 = .ok (.ireturn, 1) := by decide +kernel
theorem dX7_isGoal_0 : decode cX7_isGoal 0 = .ok (.iload_n 2, 1) := by decide +kernel
theorem dX7_isGoal_1 : decode cX7_isGoal 1 = .ok (.ifCond .lt 23, 3) := by decide +kernel
theorem dX7_isGoal_4 : decode cX7_isGoal 4 = .ok (.aload_n 0, 1) := by decide +kernel
theorem dX7_isGoal_5 : decode cX7_isGoal 5 = .ok (.getfield 64, 3) := by decide +kernel
theorem dX7_isGoal_8 : decode cX7_isGoal 8 = .ok (.iload_n 1, 1) := by decide +kernel
theorem dX7_isGoal_9 : decode cX7_isGoal 9 = .ok (.invokevirtual 78, 3) := by decide +kernel
theorem dX7_isGoal_12 : decode cX7_isGoal 12 = .ok (.iload_n 2, 1) := by decide +kernel
theorem dX7_isGoal_13 : decode cX7_isGoal 13 = .ok (.iand, 1) := by decide +kernel
theorem dX7_isGoal_14 : decode cX7_isGoal 14 = .ok (.iload_n 2, 1) := by decide +kernel
theorem dX7_isGoal_15 : decode cX7_isGoal 15 = .ok (.if_icmp .ne 7, 3) := by decide +kernel
theorem dX7_isGoal_18 : decode cX7_isGoal 18 = .ok (.iconst 1, 1) := by decide +kernel
theorem dX7_isGoal_19 : decode cX7_isGoal 19 = .ok (.goto 4, 3) := by decide +kernel
theorem dX7_isGoal_22 : decode cX7_isGoal 22 = .ok (.iconst 0, 1) := by decide +kernel
theorem dX7_isGoal_23 : decode cX7_isGoal 23 = .ok (.ireturn, 1) := by decide +kernel
theorem dX7_isGoal_24 : decode cX7_isGoal 24 = .ok (.iload_n 2, 1) := by decide +kernel
theorem dX7_isGoal_25 : decode cX7_isGoal 25 = .ok (.iconst (-1), 1) := by decide +kernel
theorem dX7_isGoal_26 : decode cX7_isGoal 26 = .ok (.if_icmp .ne 14, 3) := by decide +kernel
theorem dX7_isGoal_29 : decode cX7_isGoal 29 = .ok (.iload_n 1, 1) := by decide +kernel
theorem dX7_isGoal_30 : decode cX7_isGoal 30 = .ok (.sipush 10000, 3) := by decide +kernel
theorem dX7_isGoal_33 : decode cX7_isGoal 33 = .ok (.if_icmp .lt 7, 3) := by decide +kernel
theorem dX7_isGoal_36 : decode cX7_isGoal 36 = .ok (.iconst 1, 1) := by decide +kernel
theorem dX7_isGoal_37 : decode cX7_isGoal 37 = .ok (.goto 4, 3) := by decide +kernel
theorem dX7_isGoal_40 : decode cX7_isGoal 40 = .ok (.iconst 0, 1) := by decide +kernel
theorem dX7_isGoal_41 : decode cX7_isGoal 41 = .ok (.ireturn, 1) := by decide +kernel
theorem dX7_explore_0 : decode cX7_explore 0 = .ok (.aload_n 0, 1) := by decide +kernel
theorem dX7_explore_1 : decode cX7_explore 1 = .ok (.getfield 47, 3) := by decide +kernel
theorem dX7_explore_4 : decode cX7_explore 4 = .ok (.ifCond .eq 19, 3) := by decide +kernel
theorem dX7_explore_7 : decode cX7_explore 7 = .ok (.aload_n 0, 1) := by decide +kernel
theorem dX7_explore_8 : decode cX7_explore 8 = .ok (.getfield 51, 3) := by decide +kernel
theorem dX7_explore_11 : decode cX7_explore 11 = .ok (.iload_n 1, 1) := by decide +kernel
theorem dX7_explore_12 : decode cX7_explore 12 = .ok (.if_icmp .ne 11, 3) := by decide +kernel
theorem dX7_explore_15 : decode cX7_explore 15 = .ok (.aload_n 0, 1) := by decide +kernel
theorem dX7_explore_16 : decode cX7_explore 16 = .ok (.getfield 54, 3) := by decide +kernel
theorem dX7_explore_19 : decode cX7_explore 19 = .ok (.iload_n 2, 1) := by decide +kernel
theorem dX7_explore_20 : decode cX7_explore 20 = .ok (.if_icmp .eq 28, 3) := by decide +kernel
theorem dX7_explore_23 : decode cX7_explore 23 = .ok (.aload_n 0, 1) := by decide +kernel
theorem dX7_explore_24 : decode cX7_explore 24 = .ok (.aload_n 0, 1) := by decide +kernel
theorem dX7_explore_25 : decode cX7_explore 25 = .ok (.iload_n 1, 1) := by decide +kernel
theorem dX7_explore_26 : decode cX7_explore 26 = .ok (.iload_n 2, 1) := by decide +kernel
theorem dX7_explore_27 : decode cX7_explore 27 = .ok (.invokevirtual 84, 3) := by decide +kernel
theorem dX7_explore_30 : decode cX7_explore 30 = .ok (.putfield 57, 3) := by decide +kernel
theorem dX7_explore_33 : decode cX7_explore 33 = .ok (.aload_n 0, 1) := by decide +kernel
theorem dX7_explore_34 : decode cX7_explore 34 = .ok (.iload_n 1, 1) := by decide +kernel
theorem dX7_explore_35 : decode cX7_explore 35 = .ok (.putfield 51, 3) := by decide +kernel
theorem dX7_explore_38 : decode cX7_explore 38 = .ok (.aload_n 0, 1) := by decide +kernel
theorem dX7_explore_39 : decode cX7_explore 39 = .ok (.iload_n 2, 1) := by decide +kernel
theorem dX7_explore_40 : decode cX7_explore 40 = .ok (.putfield 54, 3) := by decide +kernel
theorem dX7_explore_43 : decode cX7_explore 43 = .ok (.aload_n 0, 1) := by decide +kernel
theorem dX7_explore_44 : decode cX7_explore 44 = .ok (.iconst 1, 1) := by decide +kernel
theorem dX7_explore_45 : decode cX7_explore 45 = .ok (.putfield 47, 3) := by decide +kernel
theorem dX7_explore_48 : decode cX7_explore 48 = .ok (.aload_n 0, 1) := by decide +kernel
theorem dX7_explore_49 : decode cX7_explore 49 = .ok (.getfield 57, 3) := by decide +kernel
theorem dX7_explore_52 : decode cX7_explore 52 = .ok (.ireturn, 1) := by decide +kernel
theorem dX7_reachGoal_0 : decode cX7_reachGoal 0 = .ok (.aload_n 0, 1) := by decide +kernel
theorem dX7_reachGoal_1 : decode cX7_reachGoal 1 = .ok (.invokevirtual 88, 3) := by decide +kernel
theorem dX7_reachGoal_4 : decode cX7_reachGoal 4 = .ok (.aload_n 0, 1) := by decide +kernel
theorem dX7_reachGoal_5 : decode cX7_reachGoal 5 = .ok (.iload_n 1, 1) := by decide +kernel
theorem dX7_reachGoal_6 : decode cX7_reachGoal 6 = .ok (.iconst (-1), 1) := by decide +kernel
theorem dX7_reachGoal_7 : decode cX7_reachGoal 7 = .ok (.invokevirtual 91, 3) := by decide +kernel
theorem dX7_reachGoal_10 : decode cX7_reachGoal 10 = .ok (.aload_n 0, 1) := by decide +kernel
theorem dX7_reachGoal_11 : decode cX7_reachGoal 11 = .ok (.iload_n 1, 1) := by decide +kernel
theorem dX7_reachGoal_12 : decode cX7_reachGoal 12 = .ok (.iload_n 2, 1) := by decide +kernel
theorem dX7_reachGoal_13 : decode cX7_reachGoal 13 = .ok (.invokevirtual 95, 3) := by decide +kernel
theorem dX7_reachGoal_16 : decode cX7_reachGoal 16 = .ok (.ifCond .eq 5, 3) := by decide +kernel
theorem dX7_reachGoal_19 : decode cX7_reachGoal 19 = .ok (.iload_n 1, 1) := by decide +kernel
theorem dX7_reachGoal_20 : decode cX7_reachGoal 20 = .ok (.ireturn, 1) := by decide +kernel
theorem dX7_reachGoal_21 : decode cX7_reachGoal 21 = .ok (.iconst 0, 1) := by decide +kernel
theorem dX7_reachGoal_22 : decode cX7_reachGoal 22 = .ok (.istore_n 3, 1) := by decide +kernel
theorem dX7_reachGoal_23 : decode cX7_reachGoal 23 = .ok (.iload_n 3, 1) := by decide +kernel
theorem dX7_reachGoal_24 : decode cX7_reachGoal 24 = .ok (.aload_n 0, 1) := by decide +kernel
theorem dX7_reachGoal_25 : decode cX7_reachGoal 25 = .ok (.getfield 44, 3) := by decide +kernel
theorem dX7_reachGoal_28 : decode cX7_reachGoal 28 = .ok (.if_icmp .ge 135, 3) := by decide +kernel
theorem dX7_reachGoal_31 : decode cX7_reachGoal 31 = .ok (.iload_n 3, 1) := by decide +kernel
theorem dX7_reachGoal_32 : decode cX7_reachGoal 32 = .ok (.sipush 20000, 3) := by decide +kernel
theorem dX7_reachGoal_35 : decode cX7_reachGoal 35 = .ok (.if_icmp .ge 128, 3) := by decide +kernel
theorem dX7_reachGoal_38 : decode cX7_reachGoal 38 = .ok (.aload_n 0, 1) := by decide +kernel
theorem dX7_reachGoal_39 : decode cX7_reachGoal 39 = .ok (.getfield 22, 3) := by decide +kernel
theorem dX7_reachGoal_42 : decode cX7_reachGoal 42 = .ok (.iload_n 3, 1) := by decide +kernel
theorem dX7_reachGoal_43 : decode cX7_reachGoal 43 = .ok (.iaload, 1) := by decide +kernel
theorem dX7_reachGoal_44 : decode cX7_reachGoal 44 = .ok (.istore 4, 2) := by decide +kernel
theorem dX7_reachGoal_46 : decode cX7_reachGoal 46 = .ok (.iload 4, 2) := by decide +kernel
theorem dX7_reachGoal_48 : decode cX7_reachGoal 48 = .ok (.sipush 10000, 3) := by decide +kernel
theorem dX7_reachGoal_51 : decode cX7_reachGoal 51 = .ok (.if_icmp .lt 6, 3) := by decide +kernel
theorem dX7_reachGoal_54 : decode cX7_reachGoal 54 = .ok (.goto 103, 3) := by decide +kernel
theorem dX7_reachGoal_57 : decode cX7_reachGoal 57 = .ok (.aload_n 0, 1) := by decide +kernel
theorem dX7_reachGoal_58 : decode cX7_reachGoal 58 = .ok (.getfield 60, 3) := by decide +kernel
theorem dX7_reachGoal_61 : decode cX7_reachGoal 61 = .ok (.iload 4, 2) := by decide +kernel
theorem dX7_reachGoal_63 : decode cX7_reachGoal 63 = .ok (.iconst 0, 1) := by decide +kernel
theorem dX7_reachGoal_64 : decode cX7_reachGoal 64 = .ok (.aload_n 0, 1) := by decide +kernel
theorem dX7_reachGoal_65 : decode cX7_reachGoal 65 = .ok (.getfield 35, 3) := by decide +kernel
theorem dX7_reachGoal_68 : decode cX7_reachGoal 68 = .ok (.invokevirtual 99, 3) := by decide +kernel
theorem dX7_reachGoal_71 : decode cX7_reachGoal 71 = .ok (.iconst 0, 1) := by decide +kernel
theorem dX7_reachGoal_72 : decode cX7_reachGoal 72 = .ok (.istore 5, 2) := by decide +kernel
theorem dX7_reachGoal_74 : decode cX7_reachGoal 74 = .ok (.iload 5, 2) := by decide +kernel
theorem dX7_reachGoal_76 : decode cX7_reachGoal 76 = .ok (.aload_n 0, 1) := by decide +kernel
theorem dX7_reachGoal_77 : decode cX7_reachGoal 77 = .ok (.getfield 64, 3) := by decide +kernel
theorem dX7_reachGoal_80 : decode cX7_reachGoal 80 = .ok (.getfield 103, 3) := by decide +kernel
theorem dX7_reachGoal_83 : decode cX7_reachGoal 83 = .ok (.arraylength, 1) := by decide +kernel
theorem dX7_reachGoal_84 : decode cX7_reachGoal 84 = .ok (.if_icmp .ge 73, 3) := by decide +kernel
theorem dX7_reachGoal_87 : decode cX7_reachGoal 87 = .ok (.aload_n 0, 1) := by decide +kernel
theorem dX7_reachGoal_88 : decode cX7_reachGoal 88 = .ok (.getfield 35, 3) := by decide +kernel
theorem dX7_reachGoal_91 : decode cX7_reachGoal 91 = .ok (.iload 5, 2) := by decide +kernel
theorem dX7_reachGoal_93 : decode cX7_reachGoal 93 = .ok (.iaload, 1) := by decide +kernel
theorem dX7_reachGoal_94 : decode cX7_reachGoal 94 = .ok (.istore 6, 2) := by decide +kernel
theorem dX7_reachGoal_96 : decode cX7_reachGoal 96 = .ok (.aload_n 0, 1) := by decide +kernel
theorem dX7_reachGoal_97 : decode cX7_reachGoal 97 = .ok (.iload 6, 2) := by decide +kernel
theorem dX7_reachGoal_99 : decode cX7_reachGoal 99 = .ok (.invokevirtual 106, 3) := by decide +kernel
theorem dX7_reachGoal_102 : decode cX7_reachGoal 102 = .ok (.ifCond .eq 30, 3) := by decide +kernel
theorem dX7_reachGoal_105 : decode cX7_reachGoal 105 = .ok (.aload_n 0, 1) := by decide +kernel
theorem dX7_reachGoal_106 : decode cX7_reachGoal 106 = .ok (.iload 6, 2) := by decide +kernel
theorem dX7_reachGoal_108 : decode cX7_reachGoal 108 = .ok (.iload 4, 2) := by decide +kernel
theorem dX7_reachGoal_110 : decode cX7_reachGoal 110 = .ok (.bipush 35, 2) := by decide +kernel
theorem dX7_reachGoal_112 : decode cX7_reachGoal 112 = .ok (.imul, 1) := by decide +kernel
theorem dX7_reachGoal_113 : decode cX7_reachGoal 113 = .ok (.iload 5, 2) := by decide +kernel
theorem dX7_reachGoal_115 : decode cX7_reachGoal 115 = .ok (.iadd, 1) := by decide +kernel
theorem dX7_reachGoal_116 : decode cX7_reachGoal 116 = .ok (.invokevirtual 91, 3) := by decide +kernel
theorem dX7_reachGoal_119 : decode cX7_reachGoal 119 = .ok (.aload_n 0, 1) := by decide +kernel
theorem dX7_reachGoal_120 : decode cX7_reachGoal 120 = .ok (.iload 6, 2) := by decide +kernel
theorem dX7_reachGoal_122 : decode cX7_reachGoal 122 = .ok (.iload_n 2, 1) := by decide +kernel
theorem dX7_reachGoal_123 : decode cX7_reachGoal 123 = .ok (.invokevirtual 95, 3) := by decide +kernel
theorem dX7_reachGoal_126 : decode cX7_reachGoal 126 = .ok (.ifCond .eq 6, 3) := by decide +kernel
theorem dX7_reachGoal_129 : decode cX7_reachGoal 129 = .ok (.iload 6, 2) := by decide +kernel
theorem dX7_reachGoal_131 : decode cX7_reachGoal 131 = .ok (.ireturn, 1) := by decide +kernel
theorem dX7_reachGoal_132 : decode cX7_reachGoal 132 = .ok (.iload 6, 2) := by decide +kernel
theorem dX7_reachGoal_134 : decode cX7_reachGoal 134 = .ok (.invokestatic 74, 3) := by decide +kernel
theorem dX7_reachGoal_137 : decode cX7_reachGoal 137 = .ok (.ifCond .eq 14, 3) := by decide +kernel
theorem dX7_reachGoal_140 : decode cX7_reachGoal 140 = .ok (.aload_n 0, 1) := by decide +kernel
theorem dX7_reachGoal_141 : decode cX7_reachGoal 141 = .ok (.getfield 28, 3) := by decide +kernel
theorem dX7_reachGoal_144 : decode cX7_reachGoal 144 = .ok (.iload 6, 2) := by decide +kernel
theorem dX7_reachGoal_146 : decode cX7_reachGoal 146 = .ok (.dup2, 1) := by decide +kernel
theorem dX7_reachGoal_147 : decode cX7_reachGoal 147 = .ok (.iaload, 1) := by decide +kernel
theorem dX7_reachGoal_148 : decode cX7_reachGoal 148 = .ok (.iconst 1, 1) := by decide +kernel
theorem dX7_reachGoal_149 : decode cX7_reachGoal 149 = .ok (.iadd, 1) := by decide +kernel
theorem dX7_reachGoal_150 : decode cX7_reachGoal 150 = .ok (.iastore, 1) := by decide +kernel
theorem dX7_reachGoal_151 : decode cX7_reachGoal 151 = .ok (.iinc 5 1, 3) := by decide +kernel
theorem dX7_reachGoal_154 : decode cX7_reachGoal 154 = .ok (.goto (-80), 3) := by decide +kernel
theorem dX7_reachGoal_157 : decode cX7_reachGoal 157 = .ok (.iinc 3 1, 3) := by decide +kernel
theorem dX7_reachGoal_160 : decode cX7_reachGoal 160 = .ok (.goto (-137), 3) := by decide +kernel
theorem dX7_reachGoal_163 : decode cX7_reachGoal 163 = .ok (.iconst (-1), 1) := by decide +kernel
theorem dX7_reachGoal_164 : decode cX7_reachGoal 164 = .ok (.ireturn, 1) := by decide +kernel
theorem dX7_lengthTo_0 : decode cX7_lengthTo 0 = .ok (.iload_n 1, 1) := by decide +kernel
theorem dX7_lengthTo_1 : decode cX7_lengthTo 1 = .ok (.iconst (-1), 1) := by decide +kernel
theorem dX7_lengthTo_2 : decode cX7_lengthTo 2 = .ok (.if_icmp .ne 5, 3) := by decide +kernel
theorem dX7_lengthTo_5 : decode cX7_lengthTo 5 = .ok (.iconst (-1), 1) := by decide +kernel
theorem dX7_lengthTo_6 : decode cX7_lengthTo 6 = .ok (.ireturn, 1) := by decide +kernel
theorem dX7_lengthTo_7 : decode cX7_lengthTo 7 = .ok (.iconst 0, 1) := by decide +kernel
theorem dX7_lengthTo_8 : decode cX7_lengthTo 8 = .ok (.istore_n 2, 1) := by decide +kernel
theorem dX7_lengthTo_9 : decode cX7_lengthTo 9 = .ok (.aload_n 0, 1) := by decide +kernel
theorem dX7_lengthTo_10 : decode cX7_lengthTo 10 = .ok (.iload_n 1, 1) := by decide +kernel
theorem dX7_lengthTo_11 : decode cX7_lengthTo 11 = .ok (.invokevirtual 109, 3) := by decide +kernel
theorem dX7_lengthTo_14 : decode cX7_lengthTo 14 = .ok (.istore_n 3, 1) := by decide +kernel
theorem dX7_lengthTo_15 : decode cX7_lengthTo 15 = .ok (.iload_n 3, 1) := by decide +kernel
theorem dX7_lengthTo_16 : decode cX7_lengthTo 16 = .ok (.iconst (-1), 1) := by decide +kernel
theorem dX7_lengthTo_17 : decode cX7_lengthTo 17 = .ok (.if_icmp .eq 25, 3) := by decide +kernel
theorem dX7_lengthTo_20 : decode cX7_lengthTo 20 = .ok (.iload_n 2, 1) := by decide +kernel
theorem dX7_lengthTo_21 : decode cX7_lengthTo 21 = .ok (.sipush 20000, 3) := by decide +kernel
theorem dX7_lengthTo_24 : decode cX7_lengthTo 24 = .ok (.if_icmp .ge 18, 3) := by decide +kernel
theorem dX7_lengthTo_27 : decode cX7_lengthTo 27 = .ok (.aload_n 0, 1) := by decide +kernel
theorem dX7_lengthTo_28 : decode cX7_lengthTo 28 = .ok (.iload_n 3, 1) := by decide +kernel
theorem dX7_lengthTo_29 : decode cX7_lengthTo 29 = .ok (.bipush 35, 2) := by decide +kernel
theorem dX7_lengthTo_31 : decode cX7_lengthTo 31 = .ok (.idiv, 1) := by decide +kernel
theorem dX7_lengthTo_32 : decode cX7_lengthTo 32 = .ok (.invokevirtual 109, 3) := by decide +kernel
theorem dX7_lengthTo_35 : decode cX7_lengthTo 35 = .ok (.istore_n 3, 1) := by decide +kernel
theorem dX7_lengthTo_36 : decode cX7_lengthTo 36 = .ok (.iinc 2 1, 3) := by decide +kernel
theorem dX7_lengthTo_39 : decode cX7_lengthTo 39 = .ok (.goto (-24), 3) := by decide +kernel
theorem dX7_lengthTo_42 : decode cX7_lengthTo 42 = .ok (.iload_n 2, 1) := by decide +kernel
theorem dX7_lengthTo_43 : decode cX7_lengthTo 43 = .ok (.ireturn, 1) := by decide +kernel
theorem dX7_leadingTo_0 : decode cX7_leadingTo 0 = .ok (.aload_n 0, 1) := by decide +kernel
theorem dX7_leadingTo_1 : decode cX7_leadingTo 1 = .ok (.iload_n 1, 1) := by decide +kernel
theorem dX7_leadingTo_2 : decode cX7_leadingTo 2 = .ok (.invokevirtual 112, 3) := by decide +kernel
theorem dX7_leadingTo_5 : decode cX7_leadingTo 5 = .ok (.istore_n 3, 1) := by decide +kernel
theorem dX7_leadingTo_6 : decode cX7_leadingTo 6 = .ok (.iload_n 2, 1) := by decide +kernel
theorem dX7_leadingTo_7 : decode cX7_leadingTo 7 = .ok (.iload_n 3, 1) := by decide +kernel
theorem dX7_leadingTo_8 : decode cX7_leadingTo 8 = .ok (.if_icmp .lt 5, 3) := by decide +kernel
theorem dX7_leadingTo_11 : decode cX7_leadingTo 11 = .ok (.iconst (-1), 1) := by decide +kernel
theorem dX7_leadingTo_12 : decode cX7_leadingTo 12 = .ok (.ireturn, 1) := by decide +kernel
theorem dX7_leadingTo_13 : decode cX7_leadingTo 13 = .ok (.aload_n 0, 1) := by decide +kernel
theorem dX7_leadingTo_14 : decode cX7_leadingTo 14 = .ok (.iload_n 1, 1) := by decide +kernel
theorem dX7_leadingTo_15 : decode cX7_leadingTo 15 = .ok (.invokevirtual 109, 3) := by decide +kernel
theorem dX7_leadingTo_18 : decode cX7_leadingTo 18 = .ok (.istore 4, 2) := by decide +kernel
theorem dX7_leadingTo_20 : decode cX7_leadingTo 20 = .ok (.iload_n 3, 1) := by decide +kernel
theorem dX7_leadingTo_21 : decode cX7_leadingTo 21 = .ok (.iconst 1, 1) := by decide +kernel
theorem dX7_leadingTo_22 : decode cX7_leadingTo 22 = .ok (.isub, 1) := by decide +kernel
theorem dX7_leadingTo_23 : decode cX7_leadingTo 23 = .ok (.istore 5, 2) := by decide +kernel
theorem dX7_leadingTo_25 : decode cX7_leadingTo 25 = .ok (.iload 5, 2) := by decide +kernel
theorem dX7_leadingTo_27 : decode cX7_leadingTo 27 = .ok (.iload_n 2, 1) := by decide +kernel
theorem dX7_leadingTo_28 : decode cX7_leadingTo 28 = .ok (.if_icmp .le 20, 3) := by decide +kernel
theorem dX7_leadingTo_31 : decode cX7_leadingTo 31 = .ok (.aload_n 0, 1) := by decide +kernel
theorem dX7_leadingTo_32 : decode cX7_leadingTo 32 = .ok (.iload 4, 2) := by decide +kernel
theorem dX7_leadingTo_34 : decode cX7_leadingTo 34 = .ok (.bipush 35, 2) := by decide +kernel
theorem dX7_leadingTo_36 : decode cX7_leadingTo 36 = .ok (.idiv, 1) := by decide +kernel
theorem dX7_leadingTo_37 : decode cX7_leadingTo 37 = .ok (.invokevirtual 109, 3) := by decide +kernel
theorem dX7_leadingTo_40 : decode cX7_leadingTo 40 = .ok (.istore 4, 2) := by decide +kernel
theorem dX7_leadingTo_42 : decode cX7_leadingTo 42 = .ok (.iinc 5 (-1), 3) := by decide +kernel
theorem dX7_leadingTo_45 : decode cX7_leadingTo 45 = .ok (.goto (-20), 3) := by decide +kernel
theorem dX7_leadingTo_48 : decode cX7_leadingTo 48 = .ok (.aload_n 0, 1) := by decide +kernel
theorem dX7_leadingTo_49 : decode cX7_leadingTo 49 = .ok (.getfield 64, 3) := by decide +kernel
theorem dX7_leadingTo_52 : decode cX7_leadingTo 52 = .ok (.iload 4, 2) := by decide +kernel
theorem dX7_leadingTo_54 : decode cX7_leadingTo 54 = .ok (.bipush 35, 2) := by decide +kernel
theorem dX7_leadingTo_56 : decode cX7_leadingTo 56 = .ok (.irem, 1) := by decide +kernel
theorem dX7_leadingTo_57 : decode cX7_leadingTo 57 = .ok (.invokevirtual 115, 3) := by decide +kernel
theorem dX7_leadingTo_60 : decode cX7_leadingTo 60 = .ok (.ireturn, 1) := by decide +kernel
theorem dX7_mostMet_0 : decode cX7_mostMet 0 = .ok (.iconst 0, 1) := by decide +kernel
theorem dX7_mostMet_1 : decode cX7_mostMet 1 = .ok (.istore_n 1, 1) := by decide +kernel
theorem dX7_mostMet_2 : decode cX7_mostMet 2 = .ok (.iconst 0, 1) := by decide +kernel
theorem dX7_mostMet_3 : decode cX7_mostMet 3 = .ok (.istore_n 2, 1) := by decide +kernel
theorem dX7_mostMet_4 : decode cX7_mostMet 4 = .ok (.iload_n 2, 1) := by decide +kernel
theorem dX7_mostMet_5 : decode cX7_mostMet 5 = .ok (.aload_n 0, 1) := by decide +kernel
theorem dX7_mostMet_6 : decode cX7_mostMet 6 = .ok (.getfield 44, 3) := by decide +kernel
theorem dX7_mostMet_9 : decode cX7_mostMet 9 = .ok (.if_icmp .ge 27, 3) := by decide +kernel
theorem dX7_mostMet_12 : decode cX7_mostMet 12 = .ok (.iload_n 1, 1) := by decide +kernel
theorem dX7_mostMet_13 : decode cX7_mostMet 13 = .ok (.aload_n 0, 1) := by decide +kernel
theorem dX7_mostMet_14 : decode cX7_mostMet 14 = .ok (.getfield 64, 3) := by decide +kernel
theorem dX7_mostMet_17 : decode cX7_mostMet 17 = .ok (.aload_n 0, 1) := by decide +kernel
theorem dX7_mostMet_18 : decode cX7_mostMet 18 = .ok (.getfield 22, 3) := by decide +kernel
theorem dX7_mostMet_21 : decode cX7_mostMet 21 = .ok (.iload_n 2, 1) := by decide +kernel
theorem dX7_mostMet_22 : decode cX7_mostMet 22 = .ok (.iaload, 1) := by decide +kernel
theorem dX7_mostMet_23 : decode cX7_mostMet 23 = .ok (.invokevirtual 118, 3) := by decide +kernel
theorem dX7_mostMet_26 : decode cX7_mostMet 26 = .ok (.invokestatic 121, 3) := by decide +kernel
theorem dX7_mostMet_29 : decode cX7_mostMet 29 = .ok (.istore_n 1, 1) := by decide +kernel
theorem dX7_mostMet_30 : decode cX7_mostMet 30 = .ok (.iinc 2 1, 3) := by decide +kernel
theorem dX7_mostMet_33 : decode cX7_mostMet 33 = .ok (.goto (-29), 3) := by decide +kernel
theorem dX7_mostMet_36 : decode cX7_mostMet 36 = .ok (.iload_n 1, 1) := by decide +kernel
theorem dX7_mostMet_37 : decode cX7_mostMet 37 = .ok (.ireturn, 1) := by decide +kernel
theorem dX7_longestHold_0 : decode cX7_longestHold 0 = .ok (.iconst 0, 1) := by decide +kernel
theorem dX7_longestHold_1 : decode cX7_longestHold 1 = .ok (.istore_n 2, 1) := by decide +kernel
theorem dX7_longestHold_2 : decode cX7_longestHold 2 = .ok (.iconst 0, 1) := by decide +kernel
theorem dX7_longestHold_3 : decode cX7_longestHold 3 = .ok (.istore_n 3, 1) := by decide +kernel
theorem dX7_longestHold_4 : decode cX7_longestHold 4 = .ok (.iload_n 3, 1) := by decide +kernel
theorem dX7_longestHold_5 : decode cX7_longestHold 5 = .ok (.aload_n 0, 1) := by decide +kernel
theorem dX7_longestHold_6 : decode cX7_longestHold 6 = .ok (.getfield 44, 3) := by decide +kernel
theorem dX7_longestHold_9 : decode cX7_longestHold 9 = .ok (.if_icmp .ge 29, 3) := by decide +kernel
theorem dX7_longestHold_12 : decode cX7_longestHold 12 = .ok (.iload_n 2, 1) := by decide +kernel
theorem dX7_longestHold_13 : decode cX7_longestHold 13 = .ok (.aload_n 0, 1) := by decide +kernel
theorem dX7_longestHold_14 : decode cX7_longestHold 14 = .ok (.getfield 22, 3) := by decide +kernel
theorem dX7_longestHold_17 : decode cX7_longestHold 17 = .ok (.iload_n 3, 1) := by decide +kernel
theorem dX7_longestHold_18 : decode cX7_longestHold 18 = .ok (.iaload, 1) := by decide +kernel
theorem dX7_longestHold_19 : decode cX7_longestHold 19 = .ok (.sipush 10000, 3) := by decide +kernel
theorem dX7_longestHold_22 : decode cX7_longestHold 22 = .ok (.if_icmp .ge 7, 3) := by decide +kernel
theorem dX7_longestHold_25 : decode cX7_longestHold 25 = .ok (.iconst 1, 1) := by decide +kernel
theorem dX7_longestHold_26 : decode cX7_longestHold 26 = .ok (.goto 4, 3) := by decide +kernel
theorem dX7_longestHold_29 : decode cX7_longestHold 29 = .ok (.iconst 0, 1) := by decide +kernel
theorem dX7_longestHold_30 : decode cX7_longestHold 30 = .ok (.iadd, 1) := by decide +kernel
theorem dX7_longestHold_31 : decode cX7_longestHold 31 = .ok (.istore_n 2, 1) := by decide +kernel
theorem dX7_longestHold_32 : decode cX7_longestHold 32 = .ok (.iinc 3 1, 3) := by decide +kernel
theorem dX7_longestHold_35 : decode cX7_longestHold 35 = .ok (.goto (-31), 3) := by decide +kernel
theorem dX7_longestHold_38 : decode cX7_longestHold 38 = .ok (.iload_n 1, 1) := by decide +kernel
theorem dX7_longestHold_39 : decode cX7_longestHold 39 = .ok (.invokestatic 74, 3) := by decide +kernel
theorem dX7_longestHold_42 : decode cX7_longestHold 42 = .ok (.ifCond .eq 12, 3) := by decide +kernel
theorem dX7_longestHold_45 : decode cX7_longestHold 45 = .ok (.aload_n 0, 1) := by decide +kernel
theorem dX7_longestHold_46 : decode cX7_longestHold 46 = .ok (.getfield 28, 3) := by decide +kernel
theorem dX7_longestHold_49 : decode cX7_longestHold 49 = .ok (.iload_n 1, 1) := by decide +kernel
theorem dX7_longestHold_50 : decode cX7_longestHold 50 = .ok (.iaload, 1) := by decide +kernel
theorem dX7_longestHold_51 : decode cX7_longestHold 51 = .ok (.ifCond .le 5, 3) := by decide +kernel
theorem dX7_longestHold_54 : decode cX7_longestHold 54 = .ok (.iconst (-1), 1) := by decide +kernel
theorem dX7_longestHold_55 : decode cX7_longestHold 55 = .ok (.ireturn, 1) := by decide +kernel
theorem dX7_longestHold_56 : decode cX7_longestHold 56 = .ok (.aload_n 0, 1) := by decide +kernel
theorem dX7_longestHold_57 : decode cX7_longestHold 57 = .ok (.invokevirtual 88, 3) := by decide +kernel
theorem dX7_longestHold_60 : decode cX7_longestHold 60 = .ok (.aload_n 0, 1) := by decide +kernel
theorem dX7_longestHold_61 : decode cX7_longestHold 61 = .ok (.iload_n 1, 1) := by decide +kernel
theorem dX7_longestHold_62 : decode cX7_longestHold 62 = .ok (.iconst 0, 1) := by decide +kernel
theorem dX7_longestHold_63 : decode cX7_longestHold 63 = .ok (.invokevirtual 91, 3) := by decide +kernel
theorem dX7_longestHold_66 : decode cX7_longestHold 66 = .ok (.iconst 0, 1) := by decide +kernel
theorem dX7_longestHold_67 : decode cX7_longestHold 67 = .ok (.istore_n 3, 1) := by decide +kernel
theorem dX7_longestHold_68 : decode cX7_longestHold 68 = .ok (.iconst 0, 1) := by decide +kernel
theorem dX7_longestHold_69 : decode cX7_longestHold 69 = .ok (.istore 4, 2) := by decide +kernel
theorem dX7_longestHold_71 : decode cX7_longestHold 71 = .ok (.iload 4, 2) := by decide +kernel
theorem dX7_longestHold_73 : decode cX7_longestHold 73 = .ok (.aload_n 0, 1) := by decide +kernel
theorem dX7_longestHold_74 : decode cX7_longestHold 74 = .ok (.getfield 44, 3) := by decide +kernel
theorem dX7_longestHold_77 : decode cX7_longestHold 77 = .ok (.if_icmp .ge 83, 3) := by decide +kernel
theorem dX7_longestHold_80 : decode cX7_longestHold 80 = .ok (.iload 4, 2) := by decide +kernel
theorem dX7_longestHold_82 : decode cX7_longestHold 82 = .ok (.sipush 20000, 3) := by decide +kernel
theorem dX7_longestHold_85 : decode cX7_longestHold 85 = .ok (.if_icmp .ge 75, 3) := by decide +kernel
theorem dX7_longestHold_88 : decode cX7_longestHold 88 = .ok (.aload_n 0, 1) := by decide +kernel
theorem dX7_longestHold_89 : decode cX7_longestHold 89 = .ok (.getfield 22, 3) := by decide +kernel
theorem dX7_longestHold_92 : decode cX7_longestHold 92 = .ok (.iload 4, 2) := by decide +kernel
theorem dX7_longestHold_94 : decode cX7_longestHold 94 = .ok (.iaload, 1) := by decide +kernel
theorem dX7_longestHold_95 : decode cX7_longestHold 95 = .ok (.istore 5, 2) := by decide +kernel
theorem dX7_longestHold_97 : decode cX7_longestHold 97 = .ok (.aload_n 0, 1) := by decide +kernel
theorem dX7_longestHold_98 : decode cX7_longestHold 98 = .ok (.iload 5, 2) := by decide +kernel
theorem dX7_longestHold_100 : decode cX7_longestHold 100 = .ok (.invokevirtual 109, 3) := by decide +kernel
theorem dX7_longestHold_103 : decode cX7_longestHold 103 = .ok (.istore_n 3, 1) := by decide +kernel
theorem dX7_longestHold_104 : decode cX7_longestHold 104 = .ok (.aload_n 0, 1) := by decide +kernel
theorem dX7_longestHold_105 : decode cX7_longestHold 105 = .ok (.getfield 60, 3) := by decide +kernel
theorem dX7_longestHold_108 : decode cX7_longestHold 108 = .ok (.iload 5, 2) := by decide +kernel
theorem dX7_longestHold_110 : decode cX7_longestHold 110 = .ok (.iconst 0, 1) := by decide +kernel
theorem dX7_longestHold_111 : decode cX7_longestHold 111 = .ok (.aload_n 0, 1) := by decide +kernel
theorem dX7_longestHold_112 : decode cX7_longestHold 112 = .ok (.getfield 35, 3) := by decide +kernel
theorem dX7_longestHold_115 : decode cX7_longestHold 115 = .ok (.invokevirtual 99, 3) := by decide +kernel
theorem dX7_longestHold_118 : decode cX7_longestHold 118 = .ok (.iconst 0, 1) := by decide +kernel
theorem dX7_longestHold_119 : decode cX7_longestHold 119 = .ok (.istore 6, 2) := by decide +kernel
theorem dX7_longestHold_121 : decode cX7_longestHold 121 = .ok (.iload 6, 2) := by decide +kernel
theorem dX7_longestHold_123 : decode cX7_longestHold 123 = .ok (.aload_n 0, 1) := by decide +kernel
theorem dX7_longestHold_124 : decode cX7_longestHold 124 = .ok (.getfield 64, 3) := by decide +kernel
theorem dX7_longestHold_127 : decode cX7_longestHold 127 = .ok (.getfield 103, 3) := by decide +kernel
theorem dX7_longestHold_130 : decode cX7_longestHold 130 = .ok (.arraylength, 1) := by decide +kernel
theorem dX7_longestHold_131 : decode cX7_longestHold 131 = .ok (.if_icmp .ge 23, 3) := by decide +kernel
theorem dX7_longestHold_134 : decode cX7_longestHold 134 = .ok (.aload_n 0, 1) := by decide +kernel
theorem dX7_longestHold_135 : decode cX7_longestHold 135 = .ok (.aload_n 0, 1) := by decide +kernel
theorem dX7_longestHold_136 : decode cX7_longestHold 136 = .ok (.getfield 35, 3) := by decide +kernel
theorem dX7_longestHold_139 : decode cX7_longestHold 139 = .ok (.iload 6, 2) := by decide +kernel
theorem dX7_longestHold_141 : decode cX7_longestHold 141 = .ok (.iaload, 1) := by decide +kernel
theorem dX7_longestHold_142 : decode cX7_longestHold 142 = .ok (.iload_n 3, 1) := by decide +kernel
theorem dX7_longestHold_143 : decode cX7_longestHold 143 = .ok (.iconst 1, 1) := by decide +kernel
theorem dX7_longestHold_144 : decode cX7_longestHold 144 = .ok (.iadd, 1) := by decide +kernel
theorem dX7_longestHold_145 : decode cX7_longestHold 145 = .ok (.invokevirtual 126, 3) := by decide +kernel
theorem dX7_longestHold_148 : decode cX7_longestHold 148 = .ok (.iinc 6 1, 3) := by decide +kernel
theorem dX7_longestHold_151 : decode cX7_longestHold 151 = .ok (.goto (-30), 3) := by decide +kernel
theorem dX7_longestHold_154 : decode cX7_longestHold 154 = .ok (.iinc 4 1, 3) := by decide +kernel
theorem dX7_longestHold_157 : decode cX7_longestHold 157 = .ok (.goto (-86), 3) := by decide +kernel
theorem dX7_longestHold_160 : decode cX7_longestHold 160 = .ok (.aload_n 0, 1) := by decide +kernel
theorem dX7_longestHold_161 : decode cX7_longestHold 161 = .ok (.getfield 44, 3) := by decide +kernel
theorem dX7_longestHold_164 : decode cX7_longestHold 164 = .ok (.iload_n 2, 1) := by decide +kernel
theorem dX7_longestHold_165 : decode cX7_longestHold 165 = .ok (.if_icmp .ge 7, 3) := by decide +kernel
theorem dX7_longestHold_168 : decode cX7_longestHold 168 = .ok (.iconst (-1), 1) := by decide +kernel
theorem dX7_longestHold_169 : decode cX7_longestHold 169 = .ok (.goto 4, 3) := by decide +kernel
theorem dX7_longestHold_172 : decode cX7_longestHold 172 = .ok (.iload_n 3, 1) := by decide +kernel
theorem dX7_longestHold_173 : decode cX7_longestHold 173 = .ok (.ireturn, 1) := by decide +kernel
theorem dX7_leaveFor_0 : decode cX7_leaveFor 0 = .ok (.iload_n 1, 1) := by decide +kernel
theorem dX7_leaveFor_1 : decode cX7_leaveFor 1 = .ok (.invokestatic 74, 3) := by decide +kernel
theorem dX7_leaveFor_4 : decode cX7_leaveFor 4 = .ok (.ifCond .eq 35, 3) := by decide +kernel
theorem dX7_leaveFor_7 : decode cX7_leaveFor 7 = .ok (.aload_n 0, 1) := by decide +kernel
theorem dX7_leaveFor_8 : decode cX7_leaveFor 8 = .ok (.getfield 28, 3) := by decide +kernel
theorem dX7_leaveFor_11 : decode cX7_leaveFor 11 = .ok (.iload_n 1, 1) := by decide +kernel
theorem dX7_leaveFor_12 : decode cX7_leaveFor 12 = .ok (.dup2, 1) := by decide +kernel
theorem dX7_leaveFor_13 : decode cX7_leaveFor 13 = .ok (.iaload, 1) := by decide +kernel
theorem dX7_leaveFor_14 : decode cX7_leaveFor 14 = .ok (.iconst 1, 1) := by decide +kernel
theorem dX7_leaveFor_15 : decode cX7_leaveFor 15 = .ok (.isub, 1) := by decide +kernel
theorem dX7_leaveFor_16 : decode cX7_leaveFor 16 = .ok (.iastore, 1) := by decide +kernel
theorem dX7_leaveFor_17 : decode cX7_leaveFor 17 = .ok (.iload_n 1, 1) := by decide +kernel
theorem dX7_leaveFor_18 : decode cX7_leaveFor 18 = .ok (.sipush 10000, 3) := by decide +kernel
theorem dX7_leaveFor_21 : decode cX7_leaveFor 21 = .ok (.if_icmp .ge 18, 3) := by decide +kernel
theorem dX7_leaveFor_24 : decode cX7_leaveFor 24 = .ok (.aload_n 0, 1) := by decide +kernel
theorem dX7_leaveFor_25 : decode cX7_leaveFor 25 = .ok (.getfield 28, 3) := by decide +kernel
theorem dX7_leaveFor_28 : decode cX7_leaveFor 28 = .ok (.iload_n 1, 1) := by decide +kernel
theorem dX7_leaveFor_29 : decode cX7_leaveFor 29 = .ok (.iaload, 1) := by decide +kernel
theorem dX7_leaveFor_30 : decode cX7_leaveFor 30 = .ok (.ifCond .ne 9, 3) := by decide +kernel
theorem dX7_leaveFor_33 : decode cX7_leaveFor 33 = .ok (.aload_n 0, 1) := by decide +kernel
theorem dX7_leaveFor_34 : decode cX7_leaveFor 34 = .ok (.iload_n 1, 1) := by decide +kernel
theorem dX7_leaveFor_35 : decode cX7_leaveFor 35 = .ok (.iload_n 2, 1) := by decide +kernel
theorem dX7_leaveFor_36 : decode cX7_leaveFor 36 = .ok (.invokevirtual 91, 3) := by decide +kernel
theorem dX7_leaveFor_39 : decode cX7_leaveFor 39 = .ok (.return_, 1) := by decide +kernel
theorem dX7_countRows_0 : decode cX7_countRows 0 = .ok (.iload_n 1, 1) := by decide +kernel
theorem dX7_countRows_1 : decode cX7_countRows 1 = .ok (.invokestatic 74, 3) := by decide +kernel
theorem dX7_countRows_4 : decode cX7_countRows 4 = .ok (.ifCond .ne 5, 3) := by decide +kernel
theorem dX7_countRows_7 : decode cX7_countRows 7 = .ok (.lconst 0, 1) := by decide +kernel
theorem dX7_countRows_8 : decode cX7_countRows 8 = .ok (.lreturn, 1) := by decide +kernel
theorem dX7_countRows_9 : decode cX7_countRows 9 = .ok (.lconst 0, 1) := by decide +kernel
theorem dX7_countRows_10 : decode cX7_countRows 10 = .ok (.lstore 4, 2) := by decide +kernel
theorem dX7_countRows_12 : decode cX7_countRows 12 = .ok (.iconst 0, 1) := by decide +kernel
theorem dX7_countRows_13 : decode cX7_countRows 13 = .ok (.istore 6, 2) := by decide +kernel
theorem dX7_countRows_15 : decode cX7_countRows 15 = .ok (.iconst 1, 1) := by decide +kernel
theorem dX7_countRows_16 : decode cX7_countRows 16 = .ok (.istore 7, 2) := by decide +kernel
theorem dX7_countRows_18 : decode cX7_countRows 18 = .ok (.aload_n 0, 1) := by decide +kernel
theorem dX7_countRows_19 : decode cX7_countRows 19 = .ok (.getfield 22, 3) := by decide +kernel
theorem dX7_countRows_22 : decode cX7_countRows 22 = .ok (.iconst 0, 1) := by decide +kernel
theorem dX7_countRows_23 : decode cX7_countRows 23 = .ok (.iload_n 1, 1) := by decide +kernel
theorem dX7_countRows_24 : decode cX7_countRows 24 = .ok (.iastore, 1) := by decide +kernel
theorem dX7_countRows_25 : decode cX7_countRows 25 = .ok (.aload_n 0, 1) := by decide +kernel
theorem dX7_countRows_26 : decode cX7_countRows 26 = .ok (.getfield 31, 3) := by decide +kernel
theorem dX7_countRows_29 : decode cX7_countRows 29 = .ok (.iload_n 1, 1) := by decide +kernel
theorem dX7_countRows_30 : decode cX7_countRows 30 = .ok (.sipush 10000, 3) := by decide +kernel
theorem dX7_countRows_33 : decode cX7_countRows 33 = .ok (.irem, 1) := by decide +kernel
theorem dX7_countRows_34 : decode cX7_countRows 34 = .ok (.lconst 1, 1) := by decide +kernel
theorem dX7_countRows_35 : decode cX7_countRows 35 = .ok (.lastore, 1) := by decide +kernel
theorem dX7_countRows_36 : decode cX7_countRows 36 = .ok (.iload_n 3, 1) := by decide +kernel
theorem dX7_countRows_37 : decode cX7_countRows 37 = .ok (.istore 8, 2) := by decide +kernel
theorem dX7_countRows_39 : decode cX7_countRows 39 = .ok (.iload 8, 2) := by decide +kernel
theorem dX7_countRows_41 : decode cX7_countRows 41 = .ok (.ifCond .lt 125, 3) := by decide +kernel
theorem dX7_countRows_44 : decode cX7_countRows 44 = .ok (.sipush 10000, 3) := by decide +kernel
theorem dX7_countRows_47 : decode cX7_countRows 47 = .ok (.iload 6, 2) := by decide +kernel
theorem dX7_countRows_49 : decode cX7_countRows 49 = .ok (.isub, 1) := by decide +kernel
theorem dX7_countRows_50 : decode cX7_countRows 50 = .ok (.istore 9, 2) := by decide +kernel
theorem dX7_countRows_52 : decode cX7_countRows 52 = .ok (.aload_n 0, 1) := by decide +kernel
theorem dX7_countRows_53 : decode cX7_countRows 53 = .ok (.invokevirtual 88, 3) := by decide +kernel
theorem dX7_countRows_56 : decode cX7_countRows 56 = .ok (.iconst 0, 1) := by decide +kernel
theorem dX7_countRows_57 : decode cX7_countRows 57 = .ok (.istore 10, 2) := by decide +kernel
theorem dX7_countRows_59 : decode cX7_countRows 59 = .ok (.iload 10, 2) := by decide +kernel
theorem dX7_countRows_61 : decode cX7_countRows 61 = .ok (.iload 7, 2) := by decide +kernel
theorem dX7_countRows_63 : decode cX7_countRows 63 = .ok (.if_icmp .ge 87, 3) := by decide +kernel
theorem dX7_countRows_66 : decode cX7_countRows 66 = .ok (.aload_n 0, 1) := by decide +kernel
theorem dX7_countRows_67 : decode cX7_countRows 67 = .ok (.getfield 22, 3) := by decide +kernel
theorem dX7_countRows_70 : decode cX7_countRows 70 = .ok (.iload 6, 2) := by decide +kernel
theorem dX7_countRows_72 : decode cX7_countRows 72 = .ok (.iload 10, 2) := by decide +kernel
theorem dX7_countRows_74 : decode cX7_countRows 74 = .ok (.iadd, 1) := by decide +kernel
theorem dX7_countRows_75 : decode cX7_countRows 75 = .ok (.iaload, 1) := by decide +kernel
theorem dX7_countRows_76 : decode cX7_countRows 76 = .ok (.istore 11, 2) := by decide +kernel
theorem dX7_countRows_78 : decode cX7_countRows 78 = .ok (.aload_n 0, 1) := by decide +kernel
theorem dX7_countRows_79 : decode cX7_countRows 79 = .ok (.getfield 31, 3) := by decide +kernel
theorem dX7_countRows_82 : decode cX7_countRows 82 = .ok (.iload 6, 2) := by decide +kernel
theorem dX7_countRows_84 : decode cX7_countRows 84 = .ok (.iload 11, 2) := by decide +kernel
theorem dX7_countRows_86 : decode cX7_countRows 86 = .ok (.sipush 10000, 3) := by decide +kernel
theorem dX7_countRows_89 : decode cX7_countRows 89 = .ok (.irem, 1) := by decide +kernel
theorem dX7_countRows_90 : decode cX7_countRows 90 = .ok (.iadd, 1) := by decide +kernel
theorem dX7_countRows_91 : decode cX7_countRows 91 = .ok (.laload, 1) := by decide +kernel
theorem dX7_countRows_92 : decode cX7_countRows 92 = .ok (.lstore 12, 2) := by decide +kernel
theorem dX7_countRows_94 : decode cX7_countRows 94 = .ok (.aload_n 0, 1) := by decide +kernel
theorem dX7_countRows_95 : decode cX7_countRows 95 = .ok (.iload 11, 2) := by decide +kernel
theorem dX7_countRows_97 : decode cX7_countRows 97 = .ok (.iload_n 2, 1) := by decide +kernel
theorem dX7_countRows_98 : decode cX7_countRows 98 = .ok (.invokevirtual 95, 3) := by decide +kernel
theorem dX7_countRows_101 : decode cX7_countRows 101 = .ok (.ifCond .eq 20, 3) := by decide +kernel
theorem dX7_countRows_104 : decode cX7_countRows 104 = .ok (.lload 4, 2) := by decide +kernel
theorem dX7_countRows_106 : decode cX7_countRows 106 = .ok (.lload 12, 2) := by decide +kernel
theorem dX7_countRows_108 : decode cX7_countRows 108 = .ok (.aload_n 0, 1) := by decide +kernel
theorem dX7_countRows_109 : decode cX7_countRows 109 = .ok (.iload 8, 2) := by decide +kernel
theorem dX7_countRows_111 : decode cX7_countRows 111 = .ok (.invokevirtual 129, 3) := by decide +kernel
theorem dX7_countRows_114 : decode cX7_countRows 114 = .ok (.lmul, 1) := by decide +kernel
theorem dX7_countRows_115 : decode cX7_countRows 115 = .ok (.ladd, 1) := by decide +kernel
theorem dX7_countRows_116 : decode cX7_countRows 116 = .ok (.lstore 4, 2) := by decide +kernel
theorem dX7_countRows_118 : decode cX7_countRows 118 = .ok (.goto 26, 3) := by decide +kernel
theorem dX7_countRows_121 : decode cX7_countRows 121 = .ok (.iload 11, 2) := by decide +kernel
theorem dX7_countRows_123 : decode cX7_countRows 123 = .ok (.sipush 10000, 3) := by decide +kernel
theorem dX7_countRows_126 : decode cX7_countRows 126 = .ok (.if_icmp .ge 18, 3) := by decide +kernel
theorem dX7_countRows_129 : decode cX7_countRows 129 = .ok (.iload 8, 2) := by decide +kernel
theorem dX7_countRows_131 : decode cX7_countRows 131 = .ok (.ifCond .le 13, 3) := by decide +kernel
theorem dX7_countRows_134 : decode cX7_countRows 134 = .ok (.aload_n 0, 1) := by decide +kernel
theorem dX7_countRows_135 : decode cX7_countRows 135 = .ok (.iload 11, 2) := by decide +kernel
theorem dX7_countRows_137 : decode cX7_countRows 137 = .ok (.lload 12, 2) := by decide +kernel
theorem dX7_countRows_139 : decode cX7_countRows 139 = .ok (.iload 9, 2) := by decide +kernel
theorem dX7_countRows_141 : decode cX7_countRows 141 = .ok (.invokevirtual 133, 3) := by decide +kernel
theorem dX7_countRows_144 : decode cX7_countRows 144 = .ok (.iinc 10 1, 3) := by decide +kernel
theorem dX7_countRows_147 : decode cX7_countRows 147 = .ok (.goto (-88), 3) := by decide +kernel
theorem dX7_countRows_150 : decode cX7_countRows 150 = .ok (.iload 9, 2) := by decide +kernel
theorem dX7_countRows_152 : decode cX7_countRows 152 = .ok (.istore 6, 2) := by decide +kernel
theorem dX7_countRows_154 : decode cX7_countRows 154 = .ok (.aload_n 0, 1) := by decide +kernel
theorem dX7_countRows_155 : decode cX7_countRows 155 = .ok (.getfield 44, 3) := by decide +kernel
theorem dX7_countRows_158 : decode cX7_countRows 158 = .ok (.istore 7, 2) := by decide +kernel
theorem dX7_countRows_160 : decode cX7_countRows 160 = .ok (.iinc 8 (-1), 3) := by decide +kernel
theorem dX7_countRows_163 : decode cX7_countRows 163 = .ok (.goto (-124), 3) := by decide +kernel
theorem dX7_countRows_166 : decode cX7_countRows 166 = .ok (.lload 4, 2) := by decide +kernel
theorem dX7_countRows_168 : decode cX7_countRows 168 = .ok (.lreturn, 1) := by decide +kernel
theorem dX7_rowsOf_0 : decode cX7_rowsOf 0 = .ok (.lconst 1, 1) := by decide +kernel
theorem dX7_rowsOf_1 : decode cX7_rowsOf 1 = .ok (.lstore_n 2, 1) := by decide +kernel
theorem dX7_rowsOf_2 : decode cX7_rowsOf 2 = .ok (.iconst 0, 1) := by decide +kernel
theorem dX7_rowsOf_3 : decode cX7_rowsOf 3 = .ok (.istore 4, 2) := by decide +kernel
theorem dX7_rowsOf_5 : decode cX7_rowsOf 5 = .ok (.iload 4, 2) := by decide +kernel
theorem dX7_rowsOf_7 : decode cX7_rowsOf 7 = .ok (.iload_n 1, 1) := by decide +kernel
theorem dX7_rowsOf_8 : decode cX7_rowsOf 8 = .ok (.if_icmp .ge 21, 3) := by decide +kernel
theorem dX7_rowsOf_11 : decode cX7_rowsOf 11 = .ok (.lload_n 2, 1) := by decide +kernel
theorem dX7_rowsOf_12 : decode cX7_rowsOf 12 = .ok (.aload_n 0, 1) := by decide +kernel
theorem dX7_rowsOf_13 : decode cX7_rowsOf 13 = .ok (.getfield 64, 3) := by decide +kernel
theorem dX7_rowsOf_16 : decode cX7_rowsOf 16 = .ok (.getfield 103, 3) := by decide +kernel
theorem dX7_rowsOf_19 : decode cX7_rowsOf 19 = .ok (.arraylength, 1) := by decide +kernel
theorem dX7_rowsOf_20 : decode cX7_rowsOf 20 = .ok (.i2l, 1) := by decide +kernel
theorem dX7_rowsOf_21 : decode cX7_rowsOf 21 = .ok (.lmul, 1) := by decide +kernel
theorem dX7_rowsOf_22 : decode cX7_rowsOf 22 = .ok (.lstore_n 2, 1) := by decide +kernel
theorem dX7_rowsOf_23 : decode cX7_rowsOf 23 = .ok (.iinc 4 1, 3) := by decide +kernel
theorem dX7_rowsOf_26 : decode cX7_rowsOf 26 = .ok (.goto (-21), 3) := by decide +kernel
theorem dX7_rowsOf_29 : decode cX7_rowsOf 29 = .ok (.lload_n 2, 1) := by decide +kernel
theorem dX7_rowsOf_30 : decode cX7_rowsOf 30 = .ok (.lreturn, 1) := by decide +kernel
theorem dX7_passOn_0 : decode cX7_passOn 0 = .ok (.aload_n 0, 1) := by decide +kernel
theorem dX7_passOn_1 : decode cX7_passOn 1 = .ok (.getfield 60, 3) := by decide +kernel
theorem dX7_passOn_4 : decode cX7_passOn 4 = .ok (.iload_n 1, 1) := by decide +kernel
theorem dX7_passOn_5 : decode cX7_passOn 5 = .ok (.iconst 0, 1) := by decide +kernel
theorem dX7_passOn_6 : decode cX7_passOn 6 = .ok (.aload_n 0, 1) := by decide +kernel
theorem dX7_passOn_7 : decode cX7_passOn 7 = .ok (.getfield 35, 3) := by decide +kernel
theorem dX7_passOn_10 : decode cX7_passOn 10 = .ok (.invokevirtual 99, 3) := by decide +kernel
theorem dX7_passOn_13 : decode cX7_passOn 13 = .ok (.iconst 0, 1) := by decide +kernel
theorem dX7_passOn_14 : decode cX7_passOn 14 = .ok (.istore 5, 2) := by decide +kernel
theorem dX7_passOn_16 : decode cX7_passOn 16 = .ok (.iload 5, 2) := by decide +kernel
theorem dX7_passOn_18 : decode cX7_passOn 18 = .ok (.aload_n 0, 1) := by decide +kernel
theorem dX7_passOn_19 : decode cX7_passOn 19 = .ok (.getfield 64, 3) := by decide +kernel
theorem dX7_passOn_22 : decode cX7_passOn 22 = .ok (.getfield 103, 3) := by decide +kernel
theorem dX7_passOn_25 : decode cX7_passOn 25 = .ok (.arraylength, 1) := by decide +kernel
theorem dX7_passOn_26 : decode cX7_passOn 26 = .ok (.if_icmp .ge 110, 3) := by decide +kernel
theorem dX7_passOn_29 : decode cX7_passOn 29 = .ok (.aload_n 0, 1) := by decide +kernel
theorem dX7_passOn_30 : decode cX7_passOn 30 = .ok (.getfield 35, 3) := by decide +kernel
theorem dX7_passOn_33 : decode cX7_passOn 33 = .ok (.iload 5, 2) := by decide +kernel
theorem dX7_passOn_35 : decode cX7_passOn 35 = .ok (.iaload, 1) := by decide +kernel
theorem dX7_passOn_36 : decode cX7_passOn 36 = .ok (.istore 6, 2) := by decide +kernel
theorem dX7_passOn_38 : decode cX7_passOn 38 = .ok (.iload 4, 2) := by decide +kernel
theorem dX7_passOn_40 : decode cX7_passOn 40 = .ok (.iload 6, 2) := by decide +kernel
theorem dX7_passOn_42 : decode cX7_passOn 42 = .ok (.sipush 10000, 3) := by decide +kernel
theorem dX7_passOn_45 : decode cX7_passOn 45 = .ok (.irem, 1) := by decide +kernel
theorem dX7_passOn_46 : decode cX7_passOn 46 = .ok (.iadd, 1) := by decide +kernel
theorem dX7_passOn_47 : decode cX7_passOn 47 = .ok (.istore 7, 2) := by decide +kernel
theorem dX7_passOn_49 : decode cX7_passOn 49 = .ok (.aload_n 0, 1) := by decide +kernel
theorem dX7_passOn_50 : decode cX7_passOn 50 = .ok (.iload 6, 2) := by decide +kernel
theorem dX7_passOn_52 : decode cX7_passOn 52 = .ok (.invokevirtual 106, 3) := by decide +kernel
theorem dX7_passOn_55 : decode cX7_passOn 55 = .ok (.ifCond .eq 56, 3) := by decide +kernel
theorem dX7_passOn_58 : decode cX7_passOn 58 = .ok (.aload_n 0, 1) := by decide +kernel
theorem dX7_passOn_59 : decode cX7_passOn 59 = .ok (.getfield 44, 3) := by decide +kernel
theorem dX7_passOn_62 : decode cX7_passOn 62 = .ok (.sipush 10000, 3) := by decide +kernel
theorem dX7_passOn_65 : decode cX7_passOn 65 = .ok (.if_icmp .ge 46, 3) := by decide +kernel
theorem dX7_passOn_68 : decode cX7_passOn 68 = .ok (.aload_n 0, 1) := by decide +kernel
theorem dX7_passOn_69 : decode cX7_passOn 69 = .ok (.getfield 15, 3) := by decide +kernel
theorem dX7_passOn_72 : decode cX7_passOn 72 = .ok (.iload 6, 2) := by decide +kernel
theorem dX7_passOn_74 : decode cX7_passOn 74 = .ok (.aload_n 0, 1) := by decide +kernel
theorem dX7_passOn_75 : decode cX7_passOn 75 = .ok (.getfield 19, 3) := by decide +kernel
theorem dX7_passOn_78 : decode cX7_passOn 78 = .ok (.iastore, 1) := by decide +kernel
theorem dX7_passOn_79 : decode cX7_passOn 79 = .ok (.aload_n 0, 1) := by decide +kernel
theorem dX7_passOn_80 : decode cX7_passOn 80 = .ok (.getfield 22, 3) := by decide +kernel
theorem dX7_passOn_83 : decode cX7_passOn 83 = .ok (.iload 4, 2) := by decide +kernel
theorem dX7_passOn_85 : decode cX7_passOn 85 = .ok (.aload_n 0, 1) := by decide +kernel
theorem dX7_passOn_86 : decode cX7_passOn 86 = .ok (.getfield 44, 3) := by decide +kernel
theorem dX7_passOn_89 : decode cX7_passOn 89 = .ok (.iadd, 1) := by decide +kernel
theorem dX7_passOn_90 : decode cX7_passOn 90 = .ok (.iload 6, 2) := by decide +kernel
theorem dX7_passOn_92 : decode cX7_passOn 92 = .ok (.iastore, 1) := by decide +kernel
theorem dX7_passOn_93 : decode cX7_passOn 93 = .ok (.aload_n 0, 1) := by decide +kernel
theorem dX7_passOn_94 : decode cX7_passOn 94 = .ok (.dup, 1) := by decide +kernel
theorem dX7_passOn_95 : decode cX7_passOn 95 = .ok (.getfield 44, 3) := by decide +kernel
theorem dX7_passOn_98 : decode cX7_passOn 98 = .ok (.iconst 1, 1) := by decide +kernel
theorem dX7_passOn_99 : decode cX7_passOn 99 = .ok (.iadd, 1) := by decide +kernel
theorem dX7_passOn_100 : decode cX7_passOn 100 = .ok (.putfield 44, 3) := by decide +kernel
theorem dX7_passOn_103 : decode cX7_passOn 103 = .ok (.aload_n 0, 1) := by decide +kernel
theorem dX7_passOn_104 : decode cX7_passOn 104 = .ok (.getfield 31, 3) := by decide +kernel
theorem dX7_passOn_107 : decode cX7_passOn 107 = .ok (.iload 7, 2) := by decide +kernel
theorem dX7_passOn_109 : decode cX7_passOn 109 = .ok (.lconst 0, 1) := by decide +kernel
theorem dX7_passOn_110 : decode cX7_passOn 110 = .ok (.lastore, 1) := by decide +kernel
theorem dX7_passOn_111 : decode cX7_passOn 111 = .ok (.iload 7, 2) := by decide +kernel
theorem dX7_passOn_113 : decode cX7_passOn 113 = .ok (.invokestatic 74, 3) := by decide +kernel
theorem dX7_passOn_116 : decode cX7_passOn 116 = .ok (.ifCond .eq 14, 3) := by decide +kernel
theorem dX7_passOn_119 : decode cX7_passOn 119 = .ok (.aload_n 0, 1) := by decide +kernel
theorem dX7_passOn_120 : decode cX7_passOn 120 = .ok (.getfield 31, 3) := by decide +kernel
theorem dX7_passOn_123 : decode cX7_passOn 123 = .ok (.iload 7, 2) := by decide +kernel
theorem dX7_passOn_125 : decode cX7_passOn 125 = .ok (.dup2, 1) := by decide +kernel
theorem dX7_passOn_126 : decode cX7_passOn 126 = .ok (.laload, 1) := by decide +kernel
theorem dX7_passOn_127 : decode cX7_passOn 127 = .ok (.lload_n 2, 1) := by decide +kernel
theorem dX7_passOn_128 : decode cX7_passOn 128 = .ok (.ladd, 1) := by decide +kernel
theorem dX7_passOn_129 : decode cX7_passOn 129 = .ok (.lastore, 1) := by decide +kernel
theorem dX7_passOn_130 : decode cX7_passOn 130 = .ok (.iinc 5 1, 3) := by decide +kernel
theorem dX7_passOn_133 : decode cX7_passOn 133 = .ok (.goto (-117), 3) := by decide +kernel
theorem dX7_passOn_136 : decode cX7_passOn 136 = .ok (.return_, 1) := by decide +kernel
theorem dX7_forcedWithin_0 : decode cX7_forcedWithin 0 = .ok (.aload_n 0, 1) := by decide +kernel
theorem dX7_forcedWithin_1 : decode cX7_forcedWithin 1 = .ok (.iload_n 2, 1) := by decide +kernel
theorem dX7_forcedWithin_2 : decode cX7_forcedWithin 2 = .ok (.invokevirtual 137, 3) := by decide +kernel
theorem dX7_forcedWithin_5 : decode cX7_forcedWithin 5 = .ok (.iload_n 1, 1) := by decide +kernel
theorem dX7_forcedWithin_6 : decode cX7_forcedWithin 6 = .ok (.invokestatic 74, 3) := by decide +kernel
theorem dX7_forcedWithin_9 : decode cX7_forcedWithin 9 = .ok (.ifCond .eq 26, 3) := by decide +kernel
theorem dX7_forcedWithin_12 : decode cX7_forcedWithin 12 = .ok (.iload_n 1, 1) := by decide +kernel
theorem dX7_forcedWithin_13 : decode cX7_forcedWithin 13 = .ok (.sipush 10000, 3) := by decide +kernel
theorem dX7_forcedWithin_16 : decode cX7_forcedWithin 16 = .ok (.if_icmp .ge 19, 3) := by decide +kernel
theorem dX7_forcedWithin_19 : decode cX7_forcedWithin 19 = .ok (.aload_n 0, 1) := by decide +kernel
theorem dX7_forcedWithin_20 : decode cX7_forcedWithin 20 = .ok (.getfield 41, 3) := by decide +kernel
theorem dX7_forcedWithin_23 : decode cX7_forcedWithin 23 = .ok (.iload_n 1, 1) := by decide +kernel
theorem dX7_forcedWithin_24 : decode cX7_forcedWithin 24 = .ok (.iload_n 2, 1) := by decide +kernel
theorem dX7_forcedWithin_25 : decode cX7_forcedWithin 25 = .ok (.invokestatic 141, 3) := by decide +kernel
theorem dX7_forcedWithin_28 : decode cX7_forcedWithin 28 = .ok (.iaload, 1) := by decide +kernel
theorem dX7_forcedWithin_29 : decode cX7_forcedWithin 29 = .ok (.sipush 20000, 3) := by decide +kernel
theorem dX7_forcedWithin_32 : decode cX7_forcedWithin 32 = .ok (.if_icmp .ne 5, 3) := by decide +kernel
theorem dX7_forcedWithin_35 : decode cX7_forcedWithin 35 = .ok (.iconst (-1), 1) := by decide +kernel
theorem dX7_forcedWithin_36 : decode cX7_forcedWithin 36 = .ok (.ireturn, 1) := by decide +kernel
theorem dX7_forcedWithin_37 : decode cX7_forcedWithin 37 = .ok (.aload_n 0, 1) := by decide +kernel
theorem dX7_forcedWithin_38 : decode cX7_forcedWithin 38 = .ok (.iload_n 1, 1) := by decide +kernel
theorem dX7_forcedWithin_39 : decode cX7_forcedWithin 39 = .ok (.iload_n 2, 1) := by decide +kernel
theorem dX7_forcedWithin_40 : decode cX7_forcedWithin 40 = .ok (.invokevirtual 144, 3) := by decide +kernel
theorem dX7_forcedWithin_43 : decode cX7_forcedWithin 43 = .ok (.iconst 1, 1) := by decide +kernel
theorem dX7_forcedWithin_44 : decode cX7_forcedWithin 44 = .ok (.istore_n 3, 1) := by decide +kernel
theorem dX7_forcedWithin_45 : decode cX7_forcedWithin 45 = .ok (.iconst 1, 1) := by decide +kernel
theorem dX7_forcedWithin_46 : decode cX7_forcedWithin 46 = .ok (.istore 4, 2) := by decide +kernel
theorem dX7_forcedWithin_48 : decode cX7_forcedWithin 48 = .ok (.iload 4, 2) := by decide +kernel
theorem dX7_forcedWithin_50 : decode cX7_forcedWithin 50 = .ok (.sipush 20000, 3) := by decide +kernel
theorem dX7_forcedWithin_53 : decode cX7_forcedWithin 53 = .ok (.if_icmp .gt 116, 3) := by decide +kernel
theorem dX7_forcedWithin_56 : decode cX7_forcedWithin 56 = .ok (.iload_n 3, 1) := by decide +kernel
theorem dX7_forcedWithin_57 : decode cX7_forcedWithin 57 = .ok (.ifCond .eq 112, 3) := by decide +kernel
theorem dX7_forcedWithin_60 : decode cX7_forcedWithin 60 = .ok (.iconst 0, 1) := by decide +kernel
theorem dX7_forcedWithin_61 : decode cX7_forcedWithin 61 = .ok (.istore_n 3, 1) := by decide +kernel
theorem dX7_forcedWithin_62 : decode cX7_forcedWithin 62 = .ok (.iconst 0, 1) := by decide +kernel
theorem dX7_forcedWithin_63 : decode cX7_forcedWithin 63 = .ok (.istore 5, 2) := by decide +kernel
theorem dX7_forcedWithin_65 : decode cX7_forcedWithin 65 = .ok (.iload 5, 2) := by decide +kernel
theorem dX7_forcedWithin_67 : decode cX7_forcedWithin 67 = .ok (.aload_n 0, 1) := by decide +kernel
theorem dX7_forcedWithin_68 : decode cX7_forcedWithin 68 = .ok (.getfield 44, 3) := by decide +kernel
theorem dX7_forcedWithin_71 : decode cX7_forcedWithin 71 = .ok (.if_icmp .ge 81, 3) := by decide +kernel
theorem dX7_forcedWithin_74 : decode cX7_forcedWithin 74 = .ok (.aload_n 0, 1) := by decide +kernel
theorem dX7_forcedWithin_75 : decode cX7_forcedWithin 75 = .ok (.getfield 22, 3) := by decide +kernel
theorem dX7_forcedWithin_78 : decode cX7_forcedWithin 78 = .ok (.iload 5, 2) := by decide +kernel
theorem dX7_forcedWithin_80 : decode cX7_forcedWithin 80 = .ok (.iaload, 1) := by decide +kernel
theorem dX7_forcedWithin_81 : decode cX7_forcedWithin 81 = .ok (.istore 6, 2) := by decide +kernel
theorem dX7_forcedWithin_83 : decode cX7_forcedWithin 83 = .ok (.aload_n 0, 1) := by decide +kernel
theorem dX7_forcedWithin_84 : decode cX7_forcedWithin 84 = .ok (.iload 6, 2) := by decide +kernel
theorem dX7_forcedWithin_86 : decode cX7_forcedWithin 86 = .ok (.invokevirtual 109, 3) := by decide +kernel
theorem dX7_forcedWithin_89 : decode cX7_forcedWithin 89 = .ok (.ifCond .ne 23, 3) := by decide +kernel
theorem dX7_forcedWithin_92 : decode cX7_forcedWithin 92 = .ok (.aload_n 0, 1) := by decide +kernel
theorem dX7_forcedWithin_93 : decode cX7_forcedWithin 93 = .ok (.getfield 41, 3) := by decide +kernel
theorem dX7_forcedWithin_96 : decode cX7_forcedWithin 96 = .ok (.iload 6, 2) := by decide +kernel
theorem dX7_forcedWithin_98 : decode cX7_forcedWithin 98 = .ok (.iload_n 2, 1) := by decide +kernel
theorem dX7_forcedWithin_99 : decode cX7_forcedWithin 99 = .ok (.invokestatic 141, 3) := by decide +kernel
theorem dX7_forcedWithin_102 : decode cX7_forcedWithin 102 = .ok (.iaload, 1) := by decide +kernel
theorem dX7_forcedWithin_103 : decode cX7_forcedWithin 103 = .ok (.iload 4, 2) := by decide +kernel
theorem dX7_forcedWithin_105 : decode cX7_forcedWithin 105 = .ok (.if_icmp .gt 7, 3) := by decide +kernel
theorem dX7_forcedWithin_108 : decode cX7_forcedWithin 108 = .ok (.iconst 1, 1) := by decide +kernel
theorem dX7_forcedWithin_109 : decode cX7_forcedWithin 109 = .ok (.goto 4, 3) := by decide +kernel
theorem dX7_forcedWithin_112 : decode cX7_forcedWithin 112 = .ok (.iconst 0, 1) := by decide +kernel
theorem dX7_forcedWithin_113 : decode cX7_forcedWithin 113 = .ok (.istore 7, 2) := by decide +kernel
theorem dX7_forcedWithin_115 : decode cX7_forcedWithin 115 = .ok (.iload 7, 2) := by decide +kernel
theorem dX7_forcedWithin_117 : decode cX7_forcedWithin 117 = .ok (.ifCond .eq 29, 3) := by decide +kernel
theorem dX7_forcedWithin_120 : decode cX7_forcedWithin 120 = .ok (.aload_n 0, 1) := by decide +kernel
theorem dX7_forcedWithin_121 : decode cX7_forcedWithin 121 = .ok (.iload 6, 2) := by decide +kernel
theorem dX7_forcedWithin_123 : decode cX7_forcedWithin 123 = .ok (.iload_n 2, 1) := by decide +kernel
theorem dX7_forcedWithin_124 : decode cX7_forcedWithin 124 = .ok (.iload 4, 2) := by decide +kernel
theorem dX7_forcedWithin_126 : decode cX7_forcedWithin 126 = .ok (.iconst 1, 1) := by decide +kernel
theorem dX7_forcedWithin_127 : decode cX7_forcedWithin 127 = .ok (.isub, 1) := by decide +kernel
theorem dX7_forcedWithin_128 : decode cX7_forcedWithin 128 = .ok (.invokevirtual 147, 3) := by decide +kernel
theorem dX7_forcedWithin_131 : decode cX7_forcedWithin 131 = .ok (.iconst (-1), 1) := by decide +kernel
theorem dX7_forcedWithin_132 : decode cX7_forcedWithin 132 = .ok (.if_icmp .eq 14, 3) := by decide +kernel
theorem dX7_forcedWithin_135 : decode cX7_forcedWithin 135 = .ok (.aload_n 0, 1) := by decide +kernel
theorem dX7_forcedWithin_136 : decode cX7_forcedWithin 136 = .ok (.getfield 25, 3) := by decide +kernel
theorem dX7_forcedWithin_139 : decode cX7_forcedWithin 139 = .ok (.iload 6, 2) := by decide +kernel
theorem dX7_forcedWithin_141 : decode cX7_forcedWithin 141 = .ok (.iload 4, 2) := by decide +kernel
theorem dX7_forcedWithin_143 : decode cX7_forcedWithin 143 = .ok (.iastore, 1) := by decide +kernel
theorem dX7_forcedWithin_144 : decode cX7_forcedWithin 144 = .ok (.iconst 1, 1) := by decide +kernel
theorem dX7_forcedWithin_145 : decode cX7_forcedWithin 145 = .ok (.istore_n 3, 1) := by decide +kernel
theorem dX7_forcedWithin_146 : decode cX7_forcedWithin 146 = .ok (.iinc 5 1, 3) := by decide +kernel
theorem dX7_forcedWithin_149 : decode cX7_forcedWithin 149 = .ok (.goto (-84), 3) := by decide +kernel
theorem dX7_forcedWithin_152 : decode cX7_forcedWithin 152 = .ok (.aload_n 0, 1) := by decide +kernel
theorem dX7_forcedWithin_153 : decode cX7_forcedWithin 153 = .ok (.iload_n 1, 1) := by decide +kernel
theorem dX7_forcedWithin_154 : decode cX7_forcedWithin 154 = .ok (.invokevirtual 109, 3) := by decide +kernel
theorem dX7_forcedWithin_157 : decode cX7_forcedWithin 157 = .ok (.ifCond .eq 6, 3) := by decide +kernel
theorem dX7_forcedWithin_160 : decode cX7_forcedWithin 160 = .ok (.iload 4, 2) := by decide +kernel
theorem dX7_forcedWithin_162 : decode cX7_forcedWithin 162 = .ok (.ireturn, 1) := by decide +kernel
theorem dX7_forcedWithin_163 : decode cX7_forcedWithin 163 = .ok (.iinc 4 1, 3) := by decide +kernel
theorem dX7_forcedWithin_166 : decode cX7_forcedWithin 166 = .ok (.goto (-118), 3) := by decide +kernel
theorem dX7_forcedWithin_169 : decode cX7_forcedWithin 169 = .ok (.iconst (-1), 1) := by decide +kernel
theorem dX7_forcedWithin_170 : decode cX7_forcedWithin 170 = .ok (.ireturn, 1) := by decide +kernel
theorem dX7_tellLeastYears_0 : decode cX7_tellLeastYears 0 = .ok (.aload_n 0, 1) := by decide +kernel
theorem dX7_tellLeastYears_1 : decode cX7_tellLeastYears 1 = .ok (.getfield 41, 3) := by decide +kernel
theorem dX7_tellLeastYears_4 : decode cX7_tellLeastYears 4 = .ok (.sipush 20000, 3) := by decide +kernel
theorem dX7_tellLeastYears_7 : decode cX7_tellLeastYears 7 = .ok (.invokestatic 151, 3) := by decide +kernel
theorem dX7_tellLeastYears_10 : decode cX7_tellLeastYears 10 = .ok (.aload_n 0, 1) := by decide +kernel
theorem dX7_tellLeastYears_11 : decode cX7_tellLeastYears 11 = .ok (.getfield 41, 3) := by decide +kernel
theorem dX7_tellLeastYears_14 : decode cX7_tellLeastYears 14 = .ok (.iconst 0, 1) := by decide +kernel
theorem dX7_tellLeastYears_15 : decode cX7_tellLeastYears 15 = .ok (.iconst 0, 1) := by decide +kernel
theorem dX7_tellLeastYears_16 : decode cX7_tellLeastYears 16 = .ok (.iastore, 1) := by decide +kernel
theorem dX7_tellLeastYears_17 : decode cX7_tellLeastYears 17 = .ok (.iconst 1, 1) := by decide +kernel
theorem dX7_tellLeastYears_18 : decode cX7_tellLeastYears 18 = .ok (.istore_n 2, 1) := by decide +kernel
theorem dX7_tellLeastYears_19 : decode cX7_tellLeastYears 19 = .ok (.iload_n 2, 1) := by decide +kernel
theorem dX7_tellLeastYears_20 : decode cX7_tellLeastYears 20 = .ok (.bipush 9, 2) := by decide +kernel
theorem dX7_tellLeastYears_22 : decode cX7_tellLeastYears 22 = .ok (.if_icmp .gt 54, 3) := by decide +kernel
theorem dX7_tellLeastYears_25 : decode cX7_tellLeastYears 25 = .ok (.iconst 1, 1) := by decide +kernel
theorem dX7_tellLeastYears_26 : decode cX7_tellLeastYears 26 = .ok (.istore_n 3, 1) := by decide +kernel
theorem dX7_tellLeastYears_27 : decode cX7_tellLeastYears 27 = .ok (.iload_n 3, 1) := by decide +kernel
theorem dX7_tellLeastYears_28 : decode cX7_tellLeastYears 28 = .ok (.bipush 9, 2) := by decide +kernel
theorem dX7_tellLeastYears_30 : decode cX7_tellLeastYears 30 = .ok (.if_icmp .gt 40, 3) := by decide +kernel
theorem dX7_tellLeastYears_33 : decode cX7_tellLeastYears 33 = .ok (.aload_n 0, 1) := by decide +kernel
theorem dX7_tellLeastYears_34 : decode cX7_tellLeastYears 34 = .ok (.getfield 41, 3) := by decide +kernel
theorem dX7_tellLeastYears_37 : decode cX7_tellLeastYears 37 = .ok (.iload_n 3, 1) := by decide +kernel
theorem dX7_tellLeastYears_38 : decode cX7_tellLeastYears 38 = .ok (.iaload, 1) := by decide +kernel
theorem dX7_tellLeastYears_39 : decode cX7_tellLeastYears 39 = .ok (.sipush 20000, 3) := by decide +kernel
theorem dX7_tellLeastYears_42 : decode cX7_tellLeastYears 42 = .ok (.if_icmp .ne 22, 3) := by decide +kernel
theorem dX7_tellLeastYears_45 : decode cX7_tellLeastYears 45 = .ok (.aload_n 0, 1) := by decide +kernel
theorem dX7_tellLeastYears_46 : decode cX7_tellLeastYears 46 = .ok (.iload_n 1, 1) := by decide +kernel
theorem dX7_tellLeastYears_47 : decode cX7_tellLeastYears 47 = .ok (.iload_n 3, 1) := by decide +kernel
theorem dX7_tellLeastYears_48 : decode cX7_tellLeastYears 48 = .ok (.iload_n 2, 1) := by decide +kernel
theorem dX7_tellLeastYears_49 : decode cX7_tellLeastYears 49 = .ok (.iconst 1, 1) := by decide +kernel
theorem dX7_tellLeastYears_50 : decode cX7_tellLeastYears 50 = .ok (.isub, 1) := by decide +kernel
theorem dX7_tellLeastYears_51 : decode cX7_tellLeastYears 51 = .ok (.invokevirtual 157, 3) := by decide +kernel
theorem dX7_tellLeastYears_54 : decode cX7_tellLeastYears 54 = .ok (.ifCond .eq 10, 3) := by decide +kernel
theorem dX7_tellLeastYears_57 : decode cX7_tellLeastYears 57 = .ok (.aload_n 0, 1) := by decide +kernel
theorem dX7_tellLeastYears_58 : decode cX7_tellLeastYears 58 = .ok (.getfield 41, 3) := by decide +kernel
theorem dX7_tellLeastYears_61 : decode cX7_tellLeastYears 61 = .ok (.iload_n 3, 1) := by decide +kernel
theorem dX7_tellLeastYears_62 : decode cX7_tellLeastYears 62 = .ok (.iload_n 2, 1) := by decide +kernel
theorem dX7_tellLeastYears_63 : decode cX7_tellLeastYears 63 = .ok (.iastore, 1) := by decide +kernel
theorem dX7_tellLeastYears_64 : decode cX7_tellLeastYears 64 = .ok (.iinc 3 1, 3) := by decide +kernel
theorem dX7_tellLeastYears_67 : decode cX7_tellLeastYears 67 = .ok (.goto (-40), 3) := by decide +kernel
theorem dX7_tellLeastYears_70 : decode cX7_tellLeastYears 70 = .ok (.iinc 2 1, 3) := by decide +kernel
theorem dX7_tellLeastYears_73 : decode cX7_tellLeastYears 73 = .ok (.goto (-54), 3) := by decide +kernel
theorem dX7_tellLeastYears_76 : decode cX7_tellLeastYears 76 = .ok (.return_, 1) := by decide +kernel
theorem dX7_mayBeForced_0 : decode cX7_mayBeForced 0 = .ok (.iconst 0, 1) := by decide +kernel
theorem dX7_mayBeForced_1 : decode cX7_mayBeForced 1 = .ok (.istore 4, 2) := by decide +kernel
theorem dX7_mayBeForced_3 : decode cX7_mayBeForced 3 = .ok (.iload 4, 2) := by decide +kernel
theorem dX7_mayBeForced_5 : decode cX7_mayBeForced 5 = .ok (.aload_n 0, 1) := by decide +kernel
theorem dX7_mayBeForced_6 : decode cX7_mayBeForced 6 = .ok (.getfield 64, 3) := by decide +kernel
theorem dX7_mayBeForced_9 : decode cX7_mayBeForced 9 = .ok (.getfield 161, 3) := by decide +kernel
theorem dX7_mayBeForced_12 : decode cX7_mayBeForced 12 = .ok (.if_icmp .ge 96, 3) := by decide +kernel
theorem dX7_mayBeForced_15 : decode cX7_mayBeForced 15 = .ok (.iconst 0, 1) := by decide +kernel
theorem dX7_mayBeForced_16 : decode cX7_mayBeForced 16 = .ok (.istore 5, 2) := by decide +kernel
theorem dX7_mayBeForced_18 : decode cX7_mayBeForced 18 = .ok (.iload 5, 2) := by decide +kernel
theorem dX7_mayBeForced_20 : decode cX7_mayBeForced 20 = .ok (.aload_n 0, 1) := by decide +kernel
theorem dX7_mayBeForced_21 : decode cX7_mayBeForced 21 = .ok (.getfield 64, 3) := by decide +kernel
theorem dX7_mayBeForced_24 : decode cX7_mayBeForced 24 = .ok (.getfield 164, 3) := by decide +kernel
theorem dX7_mayBeForced_27 : decode cX7_mayBeForced 27 = .ok (.if_icmp .gt 75, 3) := by decide +kernel
theorem dX7_mayBeForced_30 : decode cX7_mayBeForced 30 = .ok (.iload_n 2, 1) := by decide +kernel
theorem dX7_mayBeForced_31 : decode cX7_mayBeForced 31 = .ok (.aload_n 0, 1) := by decide +kernel
theorem dX7_mayBeForced_32 : decode cX7_mayBeForced 32 = .ok (.getfield 60, 3) := by decide +kernel
theorem dX7_mayBeForced_35 : decode cX7_mayBeForced 35 = .ok (.iload_n 1, 1) := by decide +kernel
theorem dX7_mayBeForced_36 : decode cX7_mayBeForced 36 = .ok (.iload 5, 2) := by decide +kernel
theorem dX7_mayBeForced_38 : decode cX7_mayBeForced 38 = .ok (.iload_n 2, 1) := by decide +kernel
theorem dX7_mayBeForced_39 : decode cX7_mayBeForced 39 = .ok (.iload 4, 2) := by decide +kernel
theorem dX7_mayBeForced_41 : decode cX7_mayBeForced 41 = .ok (.iconst 0, 1) := by decide +kernel
theorem dX7_mayBeForced_42 : decode cX7_mayBeForced 42 = .ok (.invokevirtual 167, 3) := by decide +kernel
theorem dX7_mayBeForced_45 : decode cX7_mayBeForced 45 = .ok (.isub, 1) := by decide +kernel
theorem dX7_mayBeForced_46 : decode cX7_mayBeForced 46 = .ok (.invokestatic 171, 3) := by decide +kernel
theorem dX7_mayBeForced_49 : decode cX7_mayBeForced 49 = .ok (.istore 6, 2) := by decide +kernel
theorem dX7_mayBeForced_51 : decode cX7_mayBeForced 51 = .ok (.iload_n 2, 1) := by decide +kernel
theorem dX7_mayBeForced_52 : decode cX7_mayBeForced 52 = .ok (.aload_n 0, 1) := by decide +kernel
theorem dX7_mayBeForced_53 : decode cX7_mayBeForced 53 = .ok (.getfield 60, 3) := by decide +kernel
theorem dX7_mayBeForced_56 : decode cX7_mayBeForced 56 = .ok (.iload_n 1, 1) := by decide +kernel
theorem dX7_mayBeForced_57 : decode cX7_mayBeForced 57 = .ok (.iload 5, 2) := by decide +kernel
theorem dX7_mayBeForced_59 : decode cX7_mayBeForced 59 = .ok (.iload_n 2, 1) := by decide +kernel
theorem dX7_mayBeForced_60 : decode cX7_mayBeForced 60 = .ok (.iload 4, 2) := by decide +kernel
theorem dX7_mayBeForced_62 : decode cX7_mayBeForced 62 = .ok (.iconst 1, 1) := by decide +kernel
theorem dX7_mayBeForced_63 : decode cX7_mayBeForced 63 = .ok (.invokevirtual 167, 3) := by decide +kernel
theorem dX7_mayBeForced_66 : decode cX7_mayBeForced 66 = .ok (.isub, 1) := by decide +kernel
theorem dX7_mayBeForced_67 : decode cX7_mayBeForced 67 = .ok (.invokestatic 171, 3) := by decide +kernel
theorem dX7_mayBeForced_70 : decode cX7_mayBeForced 70 = .ok (.istore 7, 2) := by decide +kernel
theorem dX7_mayBeForced_72 : decode cX7_mayBeForced 72 = .ok (.aload_n 0, 1) := by decide +kernel
theorem dX7_mayBeForced_73 : decode cX7_mayBeForced 73 = .ok (.getfield 41, 3) := by decide +kernel
theorem dX7_mayBeForced_76 : decode cX7_mayBeForced 76 = .ok (.iload 6, 2) := by decide +kernel
theorem dX7_mayBeForced_78 : decode cX7_mayBeForced 78 = .ok (.iaload, 1) := by decide +kernel
theorem dX7_mayBeForced_79 : decode cX7_mayBeForced 79 = .ok (.iload_n 3, 1) := by decide +kernel
theorem dX7_mayBeForced_80 : decode cX7_mayBeForced 80 = .ok (.if_icmp .gt 16, 3) := by decide +kernel
theorem dX7_mayBeForced_83 : decode cX7_mayBeForced 83 = .ok (.aload_n 0, 1) := by decide +kernel
theorem dX7_mayBeForced_84 : decode cX7_mayBeForced 84 = .ok (.getfield 41, 3) := by decide +kernel
theorem dX7_mayBeForced_87 : decode cX7_mayBeForced 87 = .ok (.iload 7, 2) := by decide +kernel
theorem dX7_mayBeForced_89 : decode cX7_mayBeForced 89 = .ok (.iaload, 1) := by decide +kernel
theorem dX7_mayBeForced_90 : decode cX7_mayBeForced 90 = .ok (.iload_n 3, 1) := by decide +kernel
theorem dX7_mayBeForced_91 : decode cX7_mayBeForced 91 = .ok (.if_icmp .gt 5, 3) := by decide +kernel
theorem dX7_mayBeForced_94 : decode cX7_mayBeForced 94 = .ok (.iconst 1, 1) := by decide +kernel
theorem dX7_mayBeForced_95 : decode cX7_mayBeForced 95 = .ok (.ireturn, 1) := by decide +kernel
theorem dX7_mayBeForced_96 : decode cX7_mayBeForced 96 = .ok (.iinc 5 1, 3) := by decide +kernel
theorem dX7_mayBeForced_99 : decode cX7_mayBeForced 99 = .ok (.goto (-81), 3) := by decide +kernel
theorem dX7_mayBeForced_102 : decode cX7_mayBeForced 102 = .ok (.iinc 4 1, 3) := by decide +kernel
theorem dX7_mayBeForced_105 : decode cX7_mayBeForced 105 = .ok (.goto (-102), 3) := by decide +kernel
theorem dX7_mayBeForced_108 : decode cX7_mayBeForced 108 = .ok (.iconst 0, 1) := by decide +kernel
theorem dX7_mayBeForced_109 : decode cX7_mayBeForced 109 = .ok (.ireturn, 1) := by decide +kernel
theorem dX7_reachByTurns_0 : decode cX7_reachByTurns 0 = .ok (.aload_n 0, 1) := by decide +kernel
theorem dX7_reachByTurns_1 : decode cX7_reachByTurns 1 = .ok (.invokevirtual 88, 3) := by decide +kernel
theorem dX7_reachByTurns_4 : decode cX7_reachByTurns 4 = .ok (.aload_n 0, 1) := by decide +kernel
theorem dX7_reachByTurns_5 : decode cX7_reachByTurns 5 = .ok (.iload_n 1, 1) := by decide +kernel
theorem dX7_reachByTurns_6 : decode cX7_reachByTurns 6 = .ok (.iconst 0, 1) := by decide +kernel
theorem dX7_reachByTurns_7 : decode cX7_reachByTurns 7 = .ok (.invokevirtual 91, 3) := by decide +kernel
theorem dX7_reachByTurns_10 : decode cX7_reachByTurns 10 = .ok (.iconst 0, 1) := by decide +kernel
theorem dX7_reachByTurns_11 : decode cX7_reachByTurns 11 = .ok (.istore_n 3, 1) := by decide +kernel
theorem dX7_reachByTurns_12 : decode cX7_reachByTurns 12 = .ok (.iload_n 3, 1) := by decide +kernel
theorem dX7_reachByTurns_13 : decode cX7_reachByTurns 13 = .ok (.aload_n 0, 1) := by decide +kernel
theorem dX7_reachByTurns_14 : decode cX7_reachByTurns 14 = .ok (.getfield 44, 3) := by decide +kernel
theorem dX7_reachByTurns_17 : decode cX7_reachByTurns 17 = .ok (.if_icmp .ge 98, 3) := by decide +kernel
theorem dX7_reachByTurns_20 : decode cX7_reachByTurns 20 = .ok (.iload_n 3, 1) := by decide +kernel
theorem dX7_reachByTurns_21 : decode cX7_reachByTurns 21 = .ok (.sipush 20000, 3) := by decide +kernel
theorem dX7_reachByTurns_24 : decode cX7_reachByTurns 24 = .ok (.if_icmp .ge 91, 3) := by decide +kernel
theorem dX7_reachByTurns_27 : decode cX7_reachByTurns 27 = .ok (.aload_n 0, 1) := by decide +kernel
theorem dX7_reachByTurns_28 : decode cX7_reachByTurns 28 = .ok (.getfield 60, 3) := by decide +kernel
theorem dX7_reachByTurns_31 : decode cX7_reachByTurns 31 = .ok (.aload_n 0, 1) := by decide +kernel
theorem dX7_reachByTurns_32 : decode cX7_reachByTurns 32 = .ok (.getfield 22, 3) := by decide +kernel
theorem dX7_reachByTurns_35 : decode cX7_reachByTurns 35 = .ok (.iload_n 3, 1) := by decide +kernel
theorem dX7_reachByTurns_36 : decode cX7_reachByTurns 36 = .ok (.iaload, 1) := by decide +kernel
theorem dX7_reachByTurns_37 : decode cX7_reachByTurns 37 = .ok (.iconst 0, 1) := by decide +kernel
theorem dX7_reachByTurns_38 : decode cX7_reachByTurns 38 = .ok (.aload_n 0, 1) := by decide +kernel
theorem dX7_reachByTurns_39 : decode cX7_reachByTurns 39 = .ok (.getfield 35, 3) := by decide +kernel
theorem dX7_reachByTurns_42 : decode cX7_reachByTurns 42 = .ok (.invokevirtual 99, 3) := by decide +kernel
theorem dX7_reachByTurns_45 : decode cX7_reachByTurns 45 = .ok (.aload_n 0, 1) := by decide +kernel
theorem dX7_reachByTurns_46 : decode cX7_reachByTurns 46 = .ok (.getfield 60, 3) := by decide +kernel
theorem dX7_reachByTurns_49 : decode cX7_reachByTurns 49 = .ok (.aload_n 0, 1) := by decide +kernel
theorem dX7_reachByTurns_50 : decode cX7_reachByTurns 50 = .ok (.getfield 22, 3) := by decide +kernel
theorem dX7_reachByTurns_53 : decode cX7_reachByTurns 53 = .ok (.iload_n 3, 1) := by decide +kernel
theorem dX7_reachByTurns_54 : decode cX7_reachByTurns 54 = .ok (.iaload, 1) := by decide +kernel
theorem dX7_reachByTurns_55 : decode cX7_reachByTurns 55 = .ok (.iconst 1, 1) := by decide +kernel
theorem dX7_reachByTurns_56 : decode cX7_reachByTurns 56 = .ok (.aload_n 0, 1) := by decide +kernel
theorem dX7_reachByTurns_57 : decode cX7_reachByTurns 57 = .ok (.getfield 38, 3) := by decide +kernel
theorem dX7_reachByTurns_60 : decode cX7_reachByTurns 60 = .ok (.invokevirtual 99, 3) := by decide +kernel
theorem dX7_reachByTurns_63 : decode cX7_reachByTurns 63 = .ok (.iconst 0, 1) := by decide +kernel
theorem dX7_reachByTurns_64 : decode cX7_reachByTurns 64 = .ok (.istore 4, 2) := by decide +kernel
theorem dX7_reachByTurns_66 : decode cX7_reachByTurns 66 = .ok (.iload 4, 2) := by decide +kernel
theorem dX7_reachByTurns_68 : decode cX7_reachByTurns 68 = .ok (.aload_n 0, 1) := by decide +kernel
theorem dX7_reachByTurns_69 : decode cX7_reachByTurns 69 = .ok (.getfield 64, 3) := by decide +kernel
theorem dX7_reachByTurns_72 : decode cX7_reachByTurns 72 = .ok (.getfield 103, 3) := by decide +kernel
theorem dX7_reachByTurns_75 : decode cX7_reachByTurns 75 = .ok (.arraylength, 1) := by decide +kernel
theorem dX7_reachByTurns_76 : decode cX7_reachByTurns 76 = .ok (.if_icmp .ge 33, 3) := by decide +kernel
theorem dX7_reachByTurns_79 : decode cX7_reachByTurns 79 = .ok (.aload_n 0, 1) := by decide +kernel
theorem dX7_reachByTurns_80 : decode cX7_reachByTurns 80 = .ok (.aload_n 0, 1) := by decide +kernel
theorem dX7_reachByTurns_81 : decode cX7_reachByTurns 81 = .ok (.getfield 35, 3) := by decide +kernel
theorem dX7_reachByTurns_84 : decode cX7_reachByTurns 84 = .ok (.iload 4, 2) := by decide +kernel
theorem dX7_reachByTurns_86 : decode cX7_reachByTurns 86 = .ok (.iaload, 1) := by decide +kernel
theorem dX7_reachByTurns_87 : decode cX7_reachByTurns 87 = .ok (.iload_n 2, 1) := by decide +kernel
theorem dX7_reachByTurns_88 : decode cX7_reachByTurns 88 = .ok (.invokevirtual 174, 3) := by decide +kernel
theorem dX7_reachByTurns_91 : decode cX7_reachByTurns 91 = .ok (.aload_n 0, 1) := by decide +kernel
theorem dX7_reachByTurns_92 : decode cX7_reachByTurns 92 = .ok (.aload_n 0, 1) := by decide +kernel
theorem dX7_reachByTurns_93 : decode cX7_reachByTurns 93 = .ok (.getfield 38, 3) := by decide +kernel
theorem dX7_reachByTurns_96 : decode cX7_reachByTurns 96 = .ok (.iload 4, 2) := by decide +kernel
theorem dX7_reachByTurns_98 : decode cX7_reachByTurns 98 = .ok (.iaload, 1) := by decide +kernel
theorem dX7_reachByTurns_99 : decode cX7_reachByTurns 99 = .ok (.iload_n 2, 1) := by decide +kernel
theorem dX7_reachByTurns_100 : decode cX7_reachByTurns 100 = .ok (.invokevirtual 174, 3) := by decide +kernel
theorem dX7_reachByTurns_103 : decode cX7_reachByTurns 103 = .ok (.iinc 4 1, 3) := by decide +kernel
theorem dX7_reachByTurns_106 : decode cX7_reachByTurns 106 = .ok (.goto (-40), 3) := by decide +kernel
theorem dX7_reachByTurns_109 : decode cX7_reachByTurns 109 = .ok (.iinc 3 1, 3) := by decide +kernel
theorem dX7_reachByTurns_112 : decode cX7_reachByTurns 112 = .ok (.goto (-100), 3) := by decide +kernel
theorem dX7_reachByTurns_115 : decode cX7_reachByTurns 115 = .ok (.return_, 1) := by decide +kernel
theorem dX7_reachOpen_0 : decode cX7_reachOpen 0 = .ok (.iload_n 1, 1) := by decide +kernel
theorem dX7_reachOpen_1 : decode cX7_reachOpen 1 = .ok (.iload_n 2, 1) := by decide +kernel
theorem dX7_reachOpen_2 : decode cX7_reachOpen 2 = .ok (.invokestatic 141, 3) := by decide +kernel
theorem dX7_reachOpen_5 : decode cX7_reachOpen 5 = .ok (.istore_n 3, 1) := by decide +kernel
theorem dX7_reachOpen_6 : decode cX7_reachOpen 6 = .ok (.iload_n 1, 1) := by decide +kernel
theorem dX7_reachOpen_7 : decode cX7_reachOpen 7 = .ok (.sipush 10000, 3) := by decide +kernel
theorem dX7_reachOpen_10 : decode cX7_reachOpen 10 = .ok (.if_icmp .ge 33, 3) := by decide +kernel
theorem dX7_reachOpen_13 : decode cX7_reachOpen 13 = .ok (.iload_n 3, 1) := by decide +kernel
theorem dX7_reachOpen_14 : decode cX7_reachOpen 14 = .ok (.ifCond .le 29, 3) := by decide +kernel
theorem dX7_reachOpen_17 : decode cX7_reachOpen 17 = .ok (.aload_n 0, 1) := by decide +kernel
theorem dX7_reachOpen_18 : decode cX7_reachOpen 18 = .ok (.getfield 41, 3) := by decide +kernel
theorem dX7_reachOpen_21 : decode cX7_reachOpen 21 = .ok (.iload_n 3, 1) := by decide +kernel
theorem dX7_reachOpen_22 : decode cX7_reachOpen 22 = .ok (.iaload, 1) := by decide +kernel
theorem dX7_reachOpen_23 : decode cX7_reachOpen 23 = .ok (.sipush 20000, 3) := by decide +kernel
theorem dX7_reachOpen_26 : decode cX7_reachOpen 26 = .ok (.if_icmp .eq 17, 3) := by decide +kernel
theorem dX7_reachOpen_29 : decode cX7_reachOpen 29 = .ok (.aload_n 0, 1) := by decide +kernel
theorem dX7_reachOpen_30 : decode cX7_reachOpen 30 = .ok (.iload_n 1, 1) := by decide +kernel
theorem dX7_reachOpen_31 : decode cX7_reachOpen 31 = .ok (.invokevirtual 106, 3) := by decide +kernel
theorem dX7_reachOpen_34 : decode cX7_reachOpen 34 = .ok (.ifCond .eq 9, 3) := by decide +kernel
theorem dX7_reachOpen_37 : decode cX7_reachOpen 37 = .ok (.aload_n 0, 1) := by decide +kernel
theorem dX7_reachOpen_38 : decode cX7_reachOpen 38 = .ok (.iload_n 1, 1) := by decide +kernel
theorem dX7_reachOpen_39 : decode cX7_reachOpen 39 = .ok (.iconst 0, 1) := by decide +kernel
theorem dX7_reachOpen_40 : decode cX7_reachOpen 40 = .ok (.invokevirtual 91, 3) := by decide +kernel
theorem dX7_reachOpen_43 : decode cX7_reachOpen 43 = .ok (.return_, 1) := by decide +kernel
theorem dX7_forcingLeading_0 : decode cX7_forcingLeading 0 = .ok (.aload_n 0, 1) := by decide +kernel
theorem dX7_forcingLeading_1 : decode cX7_forcingLeading 1 = .ok (.getfield 60, 3) := by decide +kernel
theorem dX7_forcingLeading_4 : decode cX7_forcingLeading 4 = .ok (.iload_n 1, 1) := by decide +kernel
theorem dX7_forcingLeading_5 : decode cX7_forcingLeading 5 = .ok (.iconst 0, 1) := by decide +kernel
theorem dX7_forcingLeading_6 : decode cX7_forcingLeading 6 = .ok (.aload_n 0, 1) := by decide +kernel
theorem dX7_forcingLeading_7 : decode cX7_forcingLeading 7 = .ok (.getfield 35, 3) := by decide +kernel
theorem dX7_forcingLeading_10 : decode cX7_forcingLeading 10 = .ok (.invokevirtual 99, 3) := by decide +kernel
theorem dX7_forcingLeading_13 : decode cX7_forcingLeading 13 = .ok (.aload_n 0, 1) := by decide +kernel
theorem dX7_forcingLeading_14 : decode cX7_forcingLeading 14 = .ok (.getfield 60, 3) := by decide +kernel
theorem dX7_forcingLeading_17 : decode cX7_forcingLeading 17 = .ok (.iload_n 1, 1) := by decide +kernel
theorem dX7_forcingLeading_18 : decode cX7_forcingLeading 18 = .ok (.iconst 1, 1) := by decide +kernel
theorem dX7_forcingLeading_19 : decode cX7_forcingLeading 19 = .ok (.aload_n 0, 1) := by decide +kernel
theorem dX7_forcingLeading_20 : decode cX7_forcingLeading 20 = .ok (.getfield 38, 3) := by decide +kernel
theorem dX7_forcingLeading_23 : decode cX7_forcingLeading 23 = .ok (.invokevirtual 99, 3) := by decide +kernel
theorem dX7_forcingLeading_26 : decode cX7_forcingLeading 26 = .ok (.iconst 0, 1) := by decide +kernel
theorem dX7_forcingLeading_27 : decode cX7_forcingLeading 27 = .ok (.istore 4, 2) := by decide +kernel
theorem dX7_forcingLeading_29 : decode cX7_forcingLeading 29 = .ok (.iload 4, 2) := by decide +kernel
theorem dX7_forcingLeading_31 : decode cX7_forcingLeading 31 = .ok (.aload_n 0, 1) := by decide +kernel
theorem dX7_forcingLeading_32 : decode cX7_forcingLeading 32 = .ok (.getfield 64, 3) := by decide +kernel
theorem dX7_forcingLeading_35 : decode cX7_forcingLeading 35 = .ok (.getfield 103, 3) := by decide +kernel
theorem dX7_forcingLeading_38 : decode cX7_forcingLeading 38 = .ok (.arraylength, 1) := by decide +kernel
theorem dX7_forcingLeading_39 : decode cX7_forcingLeading 39 = .ok (.if_icmp .ge 52, 3) := by decide +kernel
theorem dX7_forcingLeading_42 : decode cX7_forcingLeading 42 = .ok (.aload_n 0, 1) := by decide +kernel
theorem dX7_forcingLeading_43 : decode cX7_forcingLeading 43 = .ok (.aload_n 0, 1) := by decide +kernel
theorem dX7_forcingLeading_44 : decode cX7_forcingLeading 44 = .ok (.getfield 35, 3) := by decide +kernel
theorem dX7_forcingLeading_47 : decode cX7_forcingLeading 47 = .ok (.iload 4, 2) := by decide +kernel
theorem dX7_forcingLeading_49 : decode cX7_forcingLeading 49 = .ok (.iaload, 1) := by decide +kernel
theorem dX7_forcingLeading_50 : decode cX7_forcingLeading 50 = .ok (.iload_n 2, 1) := by decide +kernel
theorem dX7_forcingLeading_51 : decode cX7_forcingLeading 51 = .ok (.iload_n 3, 1) := by decide +kernel
theorem dX7_forcingLeading_52 : decode cX7_forcingLeading 52 = .ok (.invokevirtual 177, 3) := by decide +kernel
theorem dX7_forcingLeading_55 : decode cX7_forcingLeading 55 = .ok (.ifCond .eq 30, 3) := by decide +kernel
theorem dX7_forcingLeading_58 : decode cX7_forcingLeading 58 = .ok (.aload_n 0, 1) := by decide +kernel
theorem dX7_forcingLeading_59 : decode cX7_forcingLeading 59 = .ok (.aload_n 0, 1) := by decide +kernel
theorem dX7_forcingLeading_60 : decode cX7_forcingLeading 60 = .ok (.getfield 38, 3) := by decide +kernel
theorem dX7_forcingLeading_63 : decode cX7_forcingLeading 63 = .ok (.iload 4, 2) := by decide +kernel
theorem dX7_forcingLeading_65 : decode cX7_forcingLeading 65 = .ok (.iaload, 1) := by decide +kernel
theorem dX7_forcingLeading_66 : decode cX7_forcingLeading 66 = .ok (.iload_n 2, 1) := by decide +kernel
theorem dX7_forcingLeading_67 : decode cX7_forcingLeading 67 = .ok (.iload_n 3, 1) := by decide +kernel
theorem dX7_forcingLeading_68 : decode cX7_forcingLeading 68 = .ok (.invokevirtual 177, 3) := by decide +kernel
theorem dX7_forcingLeading_71 : decode cX7_forcingLeading 71 = .ok (.ifCond .eq 14, 3) := by decide +kernel
theorem dX7_forcingLeading_74 : decode cX7_forcingLeading 74 = .ok (.aload_n 0, 1) := by decide +kernel
theorem dX7_forcingLeading_75 : decode cX7_forcingLeading 75 = .ok (.getfield 64, 3) := by decide +kernel
theorem dX7_forcingLeading_78 : decode cX7_forcingLeading 78 = .ok (.getfield 103, 3) := by decide +kernel
theorem dX7_forcingLeading_81 : decode cX7_forcingLeading 81 = .ok (.iload 4, 2) := by decide +kernel
theorem dX7_forcingLeading_83 : decode cX7_forcingLeading 83 = .ok (.iaload, 1) := by decide +kernel
theorem dX7_forcingLeading_84 : decode cX7_forcingLeading 84 = .ok (.ireturn, 1) := by decide +kernel
theorem dX7_forcingLeading_85 : decode cX7_forcingLeading 85 = .ok (.iinc 4 1, 3) := by decide +kernel
theorem dX7_forcingLeading_88 : decode cX7_forcingLeading 88 = .ok (.goto (-59), 3) := by decide +kernel
theorem dX7_forcingLeading_91 : decode cX7_forcingLeading 91 = .ok (.iconst (-1), 1) := by decide +kernel
theorem dX7_forcingLeading_92 : decode cX7_forcingLeading 92 = .ok (.ireturn, 1) := by decide +kernel
theorem dX7_isForced_0 : decode cX7_isForced 0 = .ok (.iload_n 1, 1) := by decide +kernel
theorem dX7_isForced_1 : decode cX7_isForced 1 = .ok (.iload_n 2, 1) := by decide +kernel
theorem dX7_isForced_2 : decode cX7_isForced 2 = .ok (.invokestatic 141, 3) := by decide +kernel
theorem dX7_isForced_5 : decode cX7_isForced 5 = .ok (.ifCond .ne 5, 3) := by decide +kernel
theorem dX7_isForced_8 : decode cX7_isForced 8 = .ok (.iconst 1, 1) := by decide +kernel
theorem dX7_isForced_9 : decode cX7_isForced 9 = .ok (.ireturn, 1) := by decide +kernel
theorem dX7_isForced_10 : decode cX7_isForced 10 = .ok (.iload_n 1, 1) := by decide +kernel
theorem dX7_isForced_11 : decode cX7_isForced 11 = .ok (.invokestatic 74, 3) := by decide +kernel
theorem dX7_isForced_14 : decode cX7_isForced 14 = .ok (.ifCond .eq 27, 3) := by decide +kernel
theorem dX7_isForced_17 : decode cX7_isForced 17 = .ok (.iload_n 1, 1) := by decide +kernel
theorem dX7_isForced_18 : decode cX7_isForced 18 = .ok (.sipush 10000, 3) := by decide +kernel
theorem dX7_isForced_21 : decode cX7_isForced 21 = .ok (.if_icmp .ge 20, 3) := by decide +kernel
theorem dX7_isForced_24 : decode cX7_isForced 24 = .ok (.aload_n 0, 1) := by decide +kernel
theorem dX7_isForced_25 : decode cX7_isForced 25 = .ok (.getfield 15, 3) := by decide +kernel
theorem dX7_isForced_28 : decode cX7_isForced 28 = .ok (.iload_n 1, 1) := by decide +kernel
theorem dX7_isForced_29 : decode cX7_isForced 29 = .ok (.iaload, 1) := by decide +kernel
theorem dX7_isForced_30 : decode cX7_isForced 30 = .ok (.aload_n 0, 1) := by decide +kernel
theorem dX7_isForced_31 : decode cX7_isForced 31 = .ok (.getfield 19, 3) := by decide +kernel
theorem dX7_isForced_34 : decode cX7_isForced 34 = .ok (.if_icmp .ne 7, 3) := by decide +kernel
theorem dX7_isForced_37 : decode cX7_isForced 37 = .ok (.iconst 1, 1) := by decide +kernel
theorem dX7_isForced_38 : decode cX7_isForced 38 = .ok (.goto 4, 3) := by decide +kernel
theorem dX7_isForced_41 : decode cX7_isForced 41 = .ok (.iconst 0, 1) := by decide +kernel
theorem dX7_isForced_42 : decode cX7_isForced 42 = .ok (.istore 4, 2) := by decide +kernel
theorem dX7_isForced_44 : decode cX7_isForced 44 = .ok (.iload 4, 2) := by decide +kernel
theorem dX7_isForced_46 : decode cX7_isForced 46 = .ok (.ifCond .eq 26, 3) := by decide +kernel
theorem dX7_isForced_49 : decode cX7_isForced 49 = .ok (.aload_n 0, 1) := by decide +kernel
theorem dX7_isForced_50 : decode cX7_isForced 50 = .ok (.getfield 25, 3) := by decide +kernel
theorem dX7_isForced_53 : decode cX7_isForced 53 = .ok (.iload_n 1, 1) := by decide +kernel
theorem dX7_isForced_54 : decode cX7_isForced 54 = .ok (.iaload, 1) := by decide +kernel
theorem dX7_isForced_55 : decode cX7_isForced 55 = .ok (.ifCond .eq 17, 3) := by decide +kernel
theorem dX7_isForced_58 : decode cX7_isForced 58 = .ok (.aload_n 0, 1) := by decide +kernel
theorem dX7_isForced_59 : decode cX7_isForced 59 = .ok (.getfield 25, 3) := by decide +kernel
theorem dX7_isForced_62 : decode cX7_isForced 62 = .ok (.iload_n 1, 1) := by decide +kernel
theorem dX7_isForced_63 : decode cX7_isForced 63 = .ok (.iaload, 1) := by decide +kernel
theorem dX7_isForced_64 : decode cX7_isForced 64 = .ok (.iload_n 3, 1) := by decide +kernel
theorem dX7_isForced_65 : decode cX7_isForced 65 = .ok (.if_icmp .gt 7, 3) := by decide +kernel
theorem dX7_isForced_68 : decode cX7_isForced 68 = .ok (.iconst 1, 1) := by decide +kernel
theorem dX7_isForced_69 : decode cX7_isForced 69 = .ok (.goto 4, 3) := by decide +kernel
theorem dX7_isForced_72 : decode cX7_isForced 72 = .ok (.iconst 0, 1) := by decide +kernel
theorem dX7_isForced_73 : decode cX7_isForced 73 = .ok (.ireturn, 1) := by decide +kernel
theorem dX8_init_0 : decode cX8_init 0 = .ok (.aload_n 0, 1) := by decide +kernel
theorem dX8_init_1 : decode cX8_init 1 = .ok (.invokespecial 1, 3) := by decide +kernel
theorem dX8_init_4 : decode cX8_init 4 = .ok (.aload_n 0, 1) := by decide +kernel
theorem dX8_init_5 : decode cX8_init 5 = .ok (.iconst 0, 1) := by decide +kernel
theorem dX8_init_6 : decode cX8_init 6 = .ok (.putfield 7, 3) := by decide +kernel
theorem dX8_init_9 : decode cX8_init 9 = .ok (.aload_n 0, 1) := by decide +kernel
theorem dX8_init_10 : decode cX8_init 10 = .ok (.iconst 0, 1) := by decide +kernel
theorem dX8_init_11 : decode cX8_init 11 = .ok (.putfield 13, 3) := by decide +kernel
theorem dX8_init_14 : decode cX8_init 14 = .ok (.aload_n 0, 1) := by decide +kernel
theorem dX8_init_15 : decode cX8_init 15 = .ok (.iconst 0, 1) := by decide +kernel
theorem dX8_init_16 : decode cX8_init 16 = .ok (.putfield 16, 3) := by decide +kernel
theorem dX8_init_19 : decode cX8_init 19 = .ok (.aload_n 0, 1) := by decide +kernel
theorem dX8_init_20 : decode cX8_init 20 = .ok (.iconst 0, 1) := by decide +kernel
theorem dX8_init_21 : decode cX8_init 21 = .ok (.putfield 19, 3) := by decide +kernel
theorem dX8_init_24 : decode cX8_init 24 = .ok (.return_, 1) := by decide +kernel
theorem dX8_begin_0 : decode cX8_begin 0 = .ok (.aload_n 0, 1) := by decide +kernel
theorem dX8_begin_1 : decode cX8_begin 1 = .ok (.aload_n 1, 1) := by decide +kernel
theorem dX8_begin_2 : decode cX8_begin 2 = .ok (.getfield 22, 3) := by decide +kernel
theorem dX8_begin_5 : decode cX8_begin 5 = .ok (.putfield 7, 3) := by decide +kernel
theorem dX8_begin_8 : decode cX8_begin 8 = .ok (.aload_n 0, 1) := by decide +kernel
theorem dX8_begin_9 : decode cX8_begin 9 = .ok (.aload_n 1, 1) := by decide +kernel
theorem dX8_begin_10 : decode cX8_begin 10 = .ok (.getfield 27, 3) := by decide +kernel
theorem dX8_begin_13 : decode cX8_begin 13 = .ok (.putfield 13, 3) := by decide +kernel
theorem dX8_begin_16 : decode cX8_begin 16 = .ok (.aload_n 0, 1) := by decide +kernel
theorem dX8_begin_17 : decode cX8_begin 17 = .ok (.aload_n 1, 1) := by decide +kernel
theorem dX8_begin_18 : decode cX8_begin 18 = .ok (.getfield 28, 3) := by decide +kernel
theorem dX8_begin_21 : decode cX8_begin 21 = .ok (.putfield 16, 3) := by decide +kernel
theorem dX8_begin_24 : decode cX8_begin 24 = .ok (.aload_n 0, 1) := by decide +kernel
theorem dX8_begin_25 : decode cX8_begin 25 = .ok (.iconst 0, 1) := by decide +kernel
theorem dX8_begin_26 : decode cX8_begin 26 = .ok (.putfield 19, 3) := by decide +kernel
theorem dX8_begin_29 : decode cX8_begin 29 = .ok (.return_, 1) := by decide +kernel
theorem dX8_copy_0 : decode cX8_copy 0 = .ok (.aload_n 0, 1) := by decide +kernel
theorem dX8_copy_1 : decode cX8_copy 1 = .ok (.aload_n 1, 1) := by decide +kernel
theorem dX8_copy_2 : decode cX8_copy 2 = .ok (.getfield 7, 3) := by decide +kernel
theorem dX8_copy_5 : decode cX8_copy 5 = .ok (.putfield 7, 3) := by decide +kernel
theorem dX8_copy_8 : decode cX8_copy 8 = .ok (.aload_n 0, 1) := by decide +kernel
theorem dX8_copy_9 : decode cX8_copy 9 = .ok (.aload_n 1, 1) := by decide +kernel
theorem dX8_copy_10 : decode cX8_copy 10 = .ok (.getfield 13, 3) := by decide +kernel
theorem dX8_copy_13 : decode cX8_copy 13 = .ok (.putfield 13, 3) := by decide +kernel
theorem dX8_copy_16 : decode cX8_copy 16 = .ok (.aload_n 0, 1) := by decide +kernel
theorem dX8_copy_17 : decode cX8_copy 17 = .ok (.aload_n 1, 1) := by decide +kernel
theorem dX8_copy_18 : decode cX8_copy 18 = .ok (.getfield 16, 3) := by decide +kernel
theorem dX8_copy_21 : decode cX8_copy 21 = .ok (.putfield 16, 3) := by decide +kernel
theorem dX8_copy_24 : decode cX8_copy 24 = .ok (.aload_n 0, 1) := by decide +kernel
theorem dX8_copy_25 : decode cX8_copy 25 = .ok (.aload_n 1, 1) := by decide +kernel
theorem dX8_copy_26 : decode cX8_copy 26 = .ok (.getfield 19, 3) := by decide +kernel
theorem dX8_copy_29 : decode cX8_copy 29 = .ok (.putfield 19, 3) := by decide +kernel
theorem dX8_copy_32 : decode cX8_copy 32 = .ok (.return_, 1) := by decide +kernel
theorem dX9_init_0 : decode cX9_init 0 = .ok (.aload_n 0, 1) := by decide +kernel
theorem dX9_init_1 : decode cX9_init 1 = .ok (.invokespecial 3, 3) := by decide +kernel
theorem dX9_init_4 : decode cX9_init 4 = .ok (.aload_n 0, 1) := by decide +kernel
theorem dX9_init_5 : decode cX9_init 5 = .ok (.bipush 40, 2) := by decide +kernel
theorem dX9_init_7 : decode cX9_init 7 = .ok (.newarray .long, 2) := by decide +kernel
theorem dX9_init_9 : decode cX9_init 9 = .ok (.putfield 9, 3) := by decide +kernel
theorem dX9_init_12 : decode cX9_init 12 = .ok (.aload_n 0, 1) := by decide +kernel
theorem dX9_init_13 : decode cX9_init 13 = .ok (.iconst 0, 1) := by decide +kernel
theorem dX9_init_14 : decode cX9_init 14 = .ok (.putfield 15, 3) := by decide +kernel
theorem dX9_init_17 : decode cX9_init 17 = .ok (.aload_n 0, 1) := by decide +kernel
theorem dX9_init_18 : decode cX9_init 18 = .ok (.iconst 1, 1) := by decide +kernel
theorem dX9_init_19 : decode cX9_init 19 = .ok (.putfield 19, 3) := by decide +kernel
theorem dX9_init_22 : decode cX9_init 22 = .ok (.aload_n 0, 1) := by decide +kernel
theorem dX9_init_23 : decode cX9_init 23 = .ok (.iconst 0, 1) := by decide +kernel
theorem dX9_init_24 : decode cX9_init 24 = .ok (.putfield 23, 3) := by decide +kernel
theorem dX9_init_27 : decode cX9_init 27 = .ok (.return_, 1) := by decide +kernel
