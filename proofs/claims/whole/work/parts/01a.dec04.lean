/-! decode rows -/
theorem dX11_meets_0 : decode cX11_meets 0 = .ok (.aload_n 0, 1) := by decide +kernel
theorem dX11_meets_1 : decode cX11_meets 1 = .ok (.iload_n 1, 1) := by decide +kernel
theorem dX11_meets_2 : decode cX11_meets 2 = .ok (.invokevirtual 138, 3) := by decide +kernel
theorem dX11_meets_5 : decode cX11_meets 5 = .ok (.ifCond .ne 6, 3) := by decide +kernel
theorem dX11_meets_8 : decode cX11_meets 8 = .ok (.bipush (-2), 2) := by decide +kernel
theorem dX11_meets_10 : decode cX11_meets 10 = .ok (.ireturn, 1) := by decide +kernel
theorem dX11_meets_11 : decode cX11_meets 11 = .ok (.aload_n 0, 1) := by decide +kernel
theorem dX11_meets_12 : decode cX11_meets 12 = .ok (.invokevirtual 166, 3) := by decide +kernel
theorem dX11_meets_15 : decode cX11_meets 15 = .ok (.pop, 1) := by decide +kernel
theorem dX11_meets_16 : decode cX11_meets 16 = .ok (.aload_n 0, 1) := by decide +kernel
theorem dX11_meets_17 : decode cX11_meets 17 = .ok (.getfield 81, 3) := by decide +kernel
theorem dX11_meets_20 : decode cX11_meets 20 = .ok (.aload_n 0, 1) := by decide +kernel
theorem dX11_meets_21 : decode cX11_meets 21 = .ok (.getfield 36, 3) := by decide +kernel
theorem dX11_meets_24 : decode cX11_meets 24 = .ok (.getfield 142, 3) := by decide +kernel
theorem dX11_meets_27 : decode cX11_meets 27 = .ok (.aload_n 0, 1) := by decide +kernel
theorem dX11_meets_28 : decode cX11_meets 28 = .ok (.getfield 36, 3) := by decide +kernel
theorem dX11_meets_31 : decode cX11_meets 31 = .ok (.getfield 152, 3) := by decide +kernel
theorem dX11_meets_34 : decode cX11_meets 34 = .ok (.aload_n 0, 1) := by decide +kernel
theorem dX11_meets_35 : decode cX11_meets 35 = .ok (.getfield 101, 3) := by decide +kernel
theorem dX11_meets_38 : decode cX11_meets 38 = .ok (.invokevirtual 274, 3) := by decide +kernel
theorem dX11_meets_41 : decode cX11_meets 41 = .ok (.aload_n 0, 1) := by decide +kernel
theorem dX11_meets_42 : decode cX11_meets 42 = .ok (.getfield 101, 3) := by decide +kernel
theorem dX11_meets_45 : decode cX11_meets 45 = .ok (.iload_n 1, 1) := by decide +kernel
theorem dX11_meets_46 : decode cX11_meets 46 = .ok (.iaload, 1) := by decide +kernel
theorem dX11_meets_47 : decode cX11_meets 47 = .ok (.ireturn, 1) := by decide +kernel
theorem dX11_order_0 : decode cX11_order 0 = .ok (.iload_n 1, 1) := by decide +kernel
theorem dX11_order_1 : decode cX11_order 1 = .ok (.ifCond .ge 6, 3) := by decide +kernel
theorem dX11_order_4 : decode cX11_order 4 = .ok (.bipush (-3), 2) := by decide +kernel
theorem dX11_order_6 : decode cX11_order 6 = .ok (.ireturn, 1) := by decide +kernel
theorem dX11_order_7 : decode cX11_order 7 = .ok (.aload_n 0, 1) := by decide +kernel
theorem dX11_order_8 : decode cX11_order 8 = .ok (.invokevirtual 166, 3) := by decide +kernel
theorem dX11_order_11 : decode cX11_order 11 = .ok (.pop, 1) := by decide +kernel
theorem dX11_order_12 : decode cX11_order 12 = .ok (.aload_n 0, 1) := by decide +kernel
theorem dX11_order_13 : decode cX11_order 13 = .ok (.getfield 81, 3) := by decide +kernel
theorem dX11_order_16 : decode cX11_order 16 = .ok (.aload_n 0, 1) := by decide +kernel
theorem dX11_order_17 : decode cX11_order 17 = .ok (.getfield 36, 3) := by decide +kernel
theorem dX11_order_20 : decode cX11_order 20 = .ok (.getfield 142, 3) := by decide +kernel
theorem dX11_order_23 : decode cX11_order 23 = .ok (.aload_n 0, 1) := by decide +kernel
theorem dX11_order_24 : decode cX11_order 24 = .ok (.getfield 36, 3) := by decide +kernel
theorem dX11_order_27 : decode cX11_order 27 = .ok (.getfield 152, 3) := by decide +kernel
theorem dX11_order_30 : decode cX11_order 30 = .ok (.aload_n 0, 1) := by decide +kernel
theorem dX11_order_31 : decode cX11_order 31 = .ok (.getfield 101, 3) := by decide +kernel
theorem dX11_order_34 : decode cX11_order 34 = .ok (.invokevirtual 274, 3) := by decide +kernel
theorem dX11_order_37 : decode cX11_order 37 = .ok (.iconst 0, 1) := by decide +kernel
theorem dX11_order_38 : decode cX11_order 38 = .ok (.istore_n 2, 1) := by decide +kernel
theorem dX11_order_39 : decode cX11_order 39 = .ok (.iload_n 2, 1) := by decide +kernel
theorem dX11_order_40 : decode cX11_order 40 = .ok (.aload_n 0, 1) := by decide +kernel
theorem dX11_order_41 : decode cX11_order 41 = .ok (.getfield 29, 3) := by decide +kernel
theorem dX11_order_44 : decode cX11_order 44 = .ok (.getfield 181, 3) := by decide +kernel
theorem dX11_order_47 : decode cX11_order 47 = .ok (.if_icmp .ge 30, 3) := by decide +kernel
theorem dX11_order_50 : decode cX11_order 50 = .ok (.aload_n 0, 1) := by decide +kernel
theorem dX11_order_51 : decode cX11_order 51 = .ok (.getfield 101, 3) := by decide +kernel
theorem dX11_order_54 : decode cX11_order 54 = .ok (.iload_n 2, 1) := by decide +kernel
theorem dX11_order_55 : decode cX11_order 55 = .ok (.iaload, 1) := by decide +kernel
theorem dX11_order_56 : decode cX11_order 56 = .ok (.iconst (-1), 1) := by decide +kernel
theorem dX11_order_57 : decode cX11_order 57 = .ok (.if_icmp .eq 14, 3) := by decide +kernel
theorem dX11_order_60 : decode cX11_order 60 = .ok (.aload_n 0, 1) := by decide +kernel
theorem dX11_order_61 : decode cX11_order 61 = .ok (.iload_n 2, 1) := by decide +kernel
theorem dX11_order_62 : decode cX11_order 62 = .ok (.invokevirtual 278, 3) := by decide +kernel
theorem dX11_order_65 : decode cX11_order 65 = .ok (.iload_n 1, 1) := by decide +kernel
theorem dX11_order_66 : decode cX11_order 66 = .ok (.if_icmp .ne 5, 3) := by decide +kernel
theorem dX11_order_69 : decode cX11_order 69 = .ok (.iload_n 2, 1) := by decide +kernel
theorem dX11_order_70 : decode cX11_order 70 = .ok (.ireturn, 1) := by decide +kernel
theorem dX11_order_71 : decode cX11_order 71 = .ok (.iinc 2 1, 3) := by decide +kernel
theorem dX11_order_74 : decode cX11_order 74 = .ok (.goto (-35), 3) := by decide +kernel
theorem dX11_order_77 : decode cX11_order 77 = .ok (.iconst (-1), 1) := by decide +kernel
theorem dX11_order_78 : decode cX11_order 78 = .ok (.ireturn, 1) := by decide +kernel
theorem dX11_countEarlier_0 : decode cX11_countEarlier 0 = .ok (.iconst 0, 1) := by decide +kernel
theorem dX11_countEarlier_1 : decode cX11_countEarlier 1 = .ok (.istore_n 2, 1) := by decide +kernel
theorem dX11_countEarlier_2 : decode cX11_countEarlier 2 = .ok (.iconst 0, 1) := by decide +kernel
theorem dX11_countEarlier_3 : decode cX11_countEarlier 3 = .ok (.istore_n 3, 1) := by decide +kernel
theorem dX11_countEarlier_4 : decode cX11_countEarlier 4 = .ok (.iload_n 3, 1) := by decide +kernel
theorem dX11_countEarlier_5 : decode cX11_countEarlier 5 = .ok (.aload_n 0, 1) := by decide +kernel
theorem dX11_countEarlier_6 : decode cX11_countEarlier 6 = .ok (.getfield 29, 3) := by decide +kernel
theorem dX11_countEarlier_9 : decode cX11_countEarlier 9 = .ok (.getfield 181, 3) := by decide +kernel
theorem dX11_countEarlier_12 : decode cX11_countEarlier 12 = .ok (.if_icmp .ge 69, 3) := by decide +kernel
theorem dX11_countEarlier_15 : decode cX11_countEarlier 15 = .ok (.aload_n 0, 1) := by decide +kernel
theorem dX11_countEarlier_16 : decode cX11_countEarlier 16 = .ok (.getfield 101, 3) := by decide +kernel
theorem dX11_countEarlier_19 : decode cX11_countEarlier 19 = .ok (.iload_n 3, 1) := by decide +kernel
theorem dX11_countEarlier_20 : decode cX11_countEarlier 20 = .ok (.iaload, 1) := by decide +kernel
theorem dX11_countEarlier_21 : decode cX11_countEarlier 21 = .ok (.aload_n 0, 1) := by decide +kernel
theorem dX11_countEarlier_22 : decode cX11_countEarlier 22 = .ok (.getfield 101, 3) := by decide +kernel
theorem dX11_countEarlier_25 : decode cX11_countEarlier 25 = .ok (.iload_n 1, 1) := by decide +kernel
theorem dX11_countEarlier_26 : decode cX11_countEarlier 26 = .ok (.iaload, 1) := by decide +kernel
theorem dX11_countEarlier_27 : decode cX11_countEarlier 27 = .ok (.if_icmp .lt 23, 3) := by decide +kernel
theorem dX11_countEarlier_30 : decode cX11_countEarlier 30 = .ok (.aload_n 0, 1) := by decide +kernel
theorem dX11_countEarlier_31 : decode cX11_countEarlier 31 = .ok (.getfield 101, 3) := by decide +kernel
theorem dX11_countEarlier_34 : decode cX11_countEarlier 34 = .ok (.iload_n 3, 1) := by decide +kernel
theorem dX11_countEarlier_35 : decode cX11_countEarlier 35 = .ok (.iaload, 1) := by decide +kernel
theorem dX11_countEarlier_36 : decode cX11_countEarlier 36 = .ok (.aload_n 0, 1) := by decide +kernel
theorem dX11_countEarlier_37 : decode cX11_countEarlier 37 = .ok (.getfield 101, 3) := by decide +kernel
theorem dX11_countEarlier_40 : decode cX11_countEarlier 40 = .ok (.iload_n 1, 1) := by decide +kernel
theorem dX11_countEarlier_41 : decode cX11_countEarlier 41 = .ok (.iaload, 1) := by decide +kernel
theorem dX11_countEarlier_42 : decode cX11_countEarlier 42 = .ok (.if_icmp .ne 12, 3) := by decide +kernel
theorem dX11_countEarlier_45 : decode cX11_countEarlier 45 = .ok (.iload_n 3, 1) := by decide +kernel
theorem dX11_countEarlier_46 : decode cX11_countEarlier 46 = .ok (.iload_n 1, 1) := by decide +kernel
theorem dX11_countEarlier_47 : decode cX11_countEarlier 47 = .ok (.if_icmp .ge 7, 3) := by decide +kernel
theorem dX11_countEarlier_50 : decode cX11_countEarlier 50 = .ok (.iconst 1, 1) := by decide +kernel
theorem dX11_countEarlier_51 : decode cX11_countEarlier 51 = .ok (.goto 4, 3) := by decide +kernel
theorem dX11_countEarlier_54 : decode cX11_countEarlier 54 = .ok (.iconst 0, 1) := by decide +kernel
theorem dX11_countEarlier_55 : decode cX11_countEarlier 55 = .ok (.istore 4, 2) := by decide +kernel
theorem dX11_countEarlier_57 : decode cX11_countEarlier 57 = .ok (.aload_n 0, 1) := by decide +kernel
theorem dX11_countEarlier_58 : decode cX11_countEarlier 58 = .ok (.getfield 101, 3) := by decide +kernel
theorem dX11_countEarlier_61 : decode cX11_countEarlier 61 = .ok (.iload_n 3, 1) := by decide +kernel
theorem dX11_countEarlier_62 : decode cX11_countEarlier 62 = .ok (.iaload, 1) := by decide +kernel
theorem dX11_countEarlier_63 : decode cX11_countEarlier 63 = .ok (.iconst (-1), 1) := by decide +kernel
theorem dX11_countEarlier_64 : decode cX11_countEarlier 64 = .ok (.if_icmp .eq 11, 3) := by decide +kernel
theorem dX11_countEarlier_67 : decode cX11_countEarlier 67 = .ok (.iload 4, 2) := by decide +kernel
theorem dX11_countEarlier_69 : decode cX11_countEarlier 69 = .ok (.ifCond .eq 6, 3) := by decide +kernel
theorem dX11_countEarlier_72 : decode cX11_countEarlier 72 = .ok (.iinc 2 1, 3) := by decide +kernel
theorem dX11_countEarlier_75 : decode cX11_countEarlier 75 = .ok (.iinc 3 1, 3) := by decide +kernel
theorem dX11_countEarlier_78 : decode cX11_countEarlier 78 = .ok (.goto (-74), 3) := by decide +kernel
theorem dX11_countEarlier_81 : decode cX11_countEarlier 81 = .ok (.iload_n 2, 1) := by decide +kernel
theorem dX11_countEarlier_82 : decode cX11_countEarlier 82 = .ok (.ireturn, 1) := by decide +kernel
theorem dX11_falls_0 : decode cX11_falls 0 = .ok (.aload_n 0, 1) := by decide +kernel
theorem dX11_falls_1 : decode cX11_falls 1 = .ok (.invokevirtual 166, 3) := by decide +kernel
theorem dX11_falls_4 : decode cX11_falls 4 = .ok (.pop, 1) := by decide +kernel
theorem dX11_falls_5 : decode cX11_falls 5 = .ok (.aload_n 0, 1) := by decide +kernel
theorem dX11_falls_6 : decode cX11_falls 6 = .ok (.getfield 81, 3) := by decide +kernel
theorem dX11_falls_9 : decode cX11_falls 9 = .ok (.aload_n 0, 1) := by decide +kernel
theorem dX11_falls_10 : decode cX11_falls 10 = .ok (.getfield 36, 3) := by decide +kernel
theorem dX11_falls_13 : decode cX11_falls 13 = .ok (.getfield 142, 3) := by decide +kernel
theorem dX11_falls_16 : decode cX11_falls 16 = .ok (.aload_n 0, 1) := by decide +kernel
theorem dX11_falls_17 : decode cX11_falls 17 = .ok (.getfield 36, 3) := by decide +kernel
theorem dX11_falls_20 : decode cX11_falls 20 = .ok (.getfield 152, 3) := by decide +kernel
theorem dX11_falls_23 : decode cX11_falls 23 = .ok (.invokevirtual 281, 3) := by decide +kernel
theorem dX11_falls_26 : decode cX11_falls 26 = .ok (.ireturn, 1) := by decide +kernel
theorem dX11_moved_0 : decode cX11_moved 0 = .ok (.aload_n 0, 1) := by decide +kernel
theorem dX11_moved_1 : decode cX11_moved 1 = .ok (.iload_n 1, 1) := by decide +kernel
theorem dX11_moved_2 : decode cX11_moved 2 = .ok (.invokevirtual 138, 3) := by decide +kernel
theorem dX11_moved_5 : decode cX11_moved 5 = .ok (.ifCond .eq 24, 3) := by decide +kernel
theorem dX11_moved_8 : decode cX11_moved 8 = .ok (.aload_n 0, 1) := by decide +kernel
theorem dX11_moved_9 : decode cX11_moved 9 = .ok (.iload_n 2, 1) := by decide +kernel
theorem dX11_moved_10 : decode cX11_moved 10 = .ok (.invokevirtual 138, 3) := by decide +kernel
theorem dX11_moved_13 : decode cX11_moved 13 = .ok (.ifCond .eq 16, 3) := by decide +kernel
theorem dX11_moved_16 : decode cX11_moved 16 = .ok (.aload_n 0, 1) := by decide +kernel
theorem dX11_moved_17 : decode cX11_moved 17 = .ok (.iload_n 3, 1) := by decide +kernel
theorem dX11_moved_18 : decode cX11_moved 18 = .ok (.invokevirtual 138, 3) := by decide +kernel
theorem dX11_moved_21 : decode cX11_moved 21 = .ok (.ifCond .eq 8, 3) := by decide +kernel
theorem dX11_moved_24 : decode cX11_moved 24 = .ok (.iload_n 2, 1) := by decide +kernel
theorem dX11_moved_25 : decode cX11_moved 25 = .ok (.iload_n 3, 1) := by decide +kernel
theorem dX11_moved_26 : decode cX11_moved 26 = .ok (.if_icmp .ne 6, 3) := by decide +kernel
theorem dX11_moved_29 : decode cX11_moved 29 = .ok (.ldc 161, 2) := by decide +kernel
theorem dX11_moved_31 : decode cX11_moved 31 = .ok (.ireturn, 1) := by decide +kernel
theorem dX11_moved_32 : decode cX11_moved 32 = .ok (.aload_n 0, 1) := by decide +kernel
theorem dX11_moved_33 : decode cX11_moved 33 = .ok (.getfield 36, 3) := by decide +kernel
theorem dX11_moved_36 : decode cX11_moved 36 = .ok (.getfield 152, 3) := by decide +kernel
theorem dX11_moved_39 : decode cX11_moved 39 = .ok (.iload_n 2, 1) := by decide +kernel
theorem dX11_moved_40 : decode cX11_moved 40 = .ok (.invokestatic 155, 3) := by decide +kernel
theorem dX11_moved_43 : decode cX11_moved 43 = .ok (.ifCond .ne 7, 3) := by decide +kernel
theorem dX11_moved_46 : decode cX11_moved 46 = .ok (.ldc_w 284, 3) := by decide +kernel
theorem dX11_moved_49 : decode cX11_moved 49 = .ok (.ireturn, 1) := by decide +kernel
theorem dX11_moved_50 : decode cX11_moved 50 = .ok (.aload_n 0, 1) := by decide +kernel
theorem dX11_moved_51 : decode cX11_moved 51 = .ok (.invokevirtual 166, 3) := by decide +kernel
theorem dX11_moved_54 : decode cX11_moved 54 = .ok (.pop, 1) := by decide +kernel
theorem dX11_moved_55 : decode cX11_moved 55 = .ok (.aload_n 0, 1) := by decide +kernel
theorem dX11_moved_56 : decode cX11_moved 56 = .ok (.getfield 36, 3) := by decide +kernel
theorem dX11_moved_59 : decode cX11_moved 59 = .ok (.getfield 152, 3) := by decide +kernel
theorem dX11_moved_62 : decode cX11_moved 62 = .ok (.getstatic 285, 3) := by decide +kernel
theorem dX11_moved_65 : decode cX11_moved 65 = .ok (.iload_n 2, 1) := by decide +kernel
theorem dX11_moved_66 : decode cX11_moved 66 = .ok (.iaload, 1) := by decide +kernel
theorem dX11_moved_67 : decode cX11_moved 67 = .ok (.isub, 1) := by decide +kernel
theorem dX11_moved_68 : decode cX11_moved 68 = .ok (.getstatic 285, 3) := by decide +kernel
theorem dX11_moved_71 : decode cX11_moved 71 = .ok (.iload_n 3, 1) := by decide +kernel
theorem dX11_moved_72 : decode cX11_moved 72 = .ok (.iaload, 1) := by decide +kernel
theorem dX11_moved_73 : decode cX11_moved 73 = .ok (.iadd, 1) := by decide +kernel
theorem dX11_moved_74 : decode cX11_moved 74 = .ok (.istore 4, 2) := by decide +kernel
theorem dX11_moved_76 : decode cX11_moved 76 = .ok (.aload_n 0, 1) := by decide +kernel
theorem dX11_moved_77 : decode cX11_moved 77 = .ok (.getfield 81, 3) := by decide +kernel
theorem dX11_moved_80 : decode cX11_moved 80 = .ok (.aload_n 0, 1) := by decide +kernel
theorem dX11_moved_81 : decode cX11_moved 81 = .ok (.getfield 36, 3) := by decide +kernel
theorem dX11_moved_84 : decode cX11_moved 84 = .ok (.getfield 142, 3) := by decide +kernel
theorem dX11_moved_87 : decode cX11_moved 87 = .ok (.aload_n 0, 1) := by decide +kernel
theorem dX11_moved_88 : decode cX11_moved 88 = .ok (.getfield 36, 3) := by decide +kernel
theorem dX11_moved_91 : decode cX11_moved 91 = .ok (.getfield 152, 3) := by decide +kernel
theorem dX11_moved_94 : decode cX11_moved 94 = .ok (.aload_n 0, 1) := by decide +kernel
theorem dX11_moved_95 : decode cX11_moved 95 = .ok (.getfield 101, 3) := by decide +kernel
theorem dX11_moved_98 : decode cX11_moved 98 = .ok (.invokevirtual 274, 3) := by decide +kernel
theorem dX11_moved_101 : decode cX11_moved 101 = .ok (.aload_n 0, 1) := by decide +kernel
theorem dX11_moved_102 : decode cX11_moved 102 = .ok (.getfield 81, 3) := by decide +kernel
theorem dX11_moved_105 : decode cX11_moved 105 = .ok (.aload_n 0, 1) := by decide +kernel
theorem dX11_moved_106 : decode cX11_moved 106 = .ok (.getfield 36, 3) := by decide +kernel
theorem dX11_moved_109 : decode cX11_moved 109 = .ok (.getfield 142, 3) := by decide +kernel
theorem dX11_moved_112 : decode cX11_moved 112 = .ok (.iload 4, 2) := by decide +kernel
theorem dX11_moved_114 : decode cX11_moved 114 = .ok (.aload_n 0, 1) := by decide +kernel
theorem dX11_moved_115 : decode cX11_moved 115 = .ok (.getfield 105, 3) := by decide +kernel
theorem dX11_moved_118 : decode cX11_moved 118 = .ok (.invokevirtual 274, 3) := by decide +kernel
theorem dX11_moved_121 : decode cX11_moved 121 = .ok (.aload_n 0, 1) := by decide +kernel
theorem dX11_moved_122 : decode cX11_moved 122 = .ok (.getfield 101, 3) := by decide +kernel
theorem dX11_moved_125 : decode cX11_moved 125 = .ok (.iload_n 1, 1) := by decide +kernel
theorem dX11_moved_126 : decode cX11_moved 126 = .ok (.iaload, 1) := by decide +kernel
theorem dX11_moved_127 : decode cX11_moved 127 = .ok (.iconst (-1), 1) := by decide +kernel
theorem dX11_moved_128 : decode cX11_moved 128 = .ok (.if_icmp .eq 13, 3) := by decide +kernel
theorem dX11_moved_131 : decode cX11_moved 131 = .ok (.aload_n 0, 1) := by decide +kernel
theorem dX11_moved_132 : decode cX11_moved 132 = .ok (.getfield 105, 3) := by decide +kernel
theorem dX11_moved_135 : decode cX11_moved 135 = .ok (.iload_n 1, 1) := by decide +kernel
theorem dX11_moved_136 : decode cX11_moved 136 = .ok (.iaload, 1) := by decide +kernel
theorem dX11_moved_137 : decode cX11_moved 137 = .ok (.iconst (-1), 1) := by decide +kernel
theorem dX11_moved_138 : decode cX11_moved 138 = .ok (.if_icmp .ne 7, 3) := by decide +kernel
theorem dX11_moved_141 : decode cX11_moved 141 = .ok (.ldc_w 288, 3) := by decide +kernel
theorem dX11_moved_144 : decode cX11_moved 144 = .ok (.ireturn, 1) := by decide +kernel
theorem dX11_moved_145 : decode cX11_moved 145 = .ok (.aload_n 0, 1) := by decide +kernel
theorem dX11_moved_146 : decode cX11_moved 146 = .ok (.getfield 105, 3) := by decide +kernel
theorem dX11_moved_149 : decode cX11_moved 149 = .ok (.iload_n 1, 1) := by decide +kernel
theorem dX11_moved_150 : decode cX11_moved 150 = .ok (.iaload, 1) := by decide +kernel
theorem dX11_moved_151 : decode cX11_moved 151 = .ok (.aload_n 0, 1) := by decide +kernel
theorem dX11_moved_152 : decode cX11_moved 152 = .ok (.getfield 101, 3) := by decide +kernel
theorem dX11_moved_155 : decode cX11_moved 155 = .ok (.iload_n 1, 1) := by decide +kernel
theorem dX11_moved_156 : decode cX11_moved 156 = .ok (.iaload, 1) := by decide +kernel
theorem dX11_moved_157 : decode cX11_moved 157 = .ok (.isub, 1) := by decide +kernel
theorem dX11_moved_158 : decode cX11_moved 158 = .ok (.ireturn, 1) := by decide +kernel
theorem dX11_soonest_0 : decode cX11_soonest 0 = .ok (.aload_n 0, 1) := by decide +kernel
theorem dX11_soonest_1 : decode cX11_soonest 1 = .ok (.iload_n 1, 1) := by decide +kernel
theorem dX11_soonest_2 : decode cX11_soonest 2 = .ok (.invokevirtual 289, 3) := by decide +kernel
theorem dX11_soonest_5 : decode cX11_soonest 5 = .ok (.ifCond .ne 6, 3) := by decide +kernel
theorem dX11_soonest_8 : decode cX11_soonest 8 = .ok (.bipush (-3), 2) := by decide +kernel
theorem dX11_soonest_10 : decode cX11_soonest 10 = .ok (.ireturn, 1) := by decide +kernel
theorem dX11_soonest_11 : decode cX11_soonest 11 = .ok (.aload_n 0, 1) := by decide +kernel
theorem dX11_soonest_12 : decode cX11_soonest 12 = .ok (.invokevirtual 292, 3) := by decide +kernel
theorem dX11_soonest_15 : decode cX11_soonest 15 = .ok (.astore_n 2, 1) := by decide +kernel
theorem dX11_soonest_16 : decode cX11_soonest 16 = .ok (.aload_n 2, 1) := by decide +kernel
theorem dX11_soonest_17 : decode cX11_soonest 17 = .ok (.aload_n 2, 1) := by decide +kernel
theorem dX11_soonest_18 : decode cX11_soonest 18 = .ok (.aload_n 0, 1) := by decide +kernel
theorem dX11_soonest_19 : decode cX11_soonest 19 = .ok (.getfield 36, 3) := by decide +kernel
theorem dX11_soonest_22 : decode cX11_soonest 22 = .ok (.getfield 142, 3) := by decide +kernel
theorem dX11_soonest_25 : decode cX11_soonest 25 = .ok (.iload_n 1, 1) := by decide +kernel
theorem dX11_soonest_26 : decode cX11_soonest 26 = .ok (.invokevirtual 296, 3) := by decide +kernel
theorem dX11_soonest_29 : decode cX11_soonest 29 = .ok (.invokevirtual 299, 3) := by decide +kernel
theorem dX11_soonest_32 : decode cX11_soonest 32 = .ok (.ireturn, 1) := by decide +kernel
theorem dX11_way_0 : decode cX11_way 0 = .ok (.aload_n 0, 1) := by decide +kernel
theorem dX11_way_1 : decode cX11_way 1 = .ok (.iload_n 1, 1) := by decide +kernel
theorem dX11_way_2 : decode cX11_way 2 = .ok (.invokevirtual 289, 3) := by decide +kernel
theorem dX11_way_5 : decode cX11_way 5 = .ok (.ifCond .eq 7, 3) := by decide +kernel
theorem dX11_way_8 : decode cX11_way 8 = .ok (.iload_n 2, 1) := by decide +kernel
theorem dX11_way_9 : decode cX11_way 9 = .ok (.ifCond .ge 6, 3) := by decide +kernel
theorem dX11_way_12 : decode cX11_way 12 = .ok (.bipush (-3), 2) := by decide +kernel
theorem dX11_way_14 : decode cX11_way 14 = .ok (.ireturn, 1) := by decide +kernel
theorem dX11_way_15 : decode cX11_way 15 = .ok (.aload_n 0, 1) := by decide +kernel
theorem dX11_way_16 : decode cX11_way 16 = .ok (.invokevirtual 292, 3) := by decide +kernel
theorem dX11_way_19 : decode cX11_way 19 = .ok (.astore_n 3, 1) := by decide +kernel
theorem dX11_way_20 : decode cX11_way 20 = .ok (.aload_n 3, 1) := by decide +kernel
theorem dX11_way_21 : decode cX11_way 21 = .ok (.aload_n 3, 1) := by decide +kernel
theorem dX11_way_22 : decode cX11_way 22 = .ok (.aload_n 0, 1) := by decide +kernel
theorem dX11_way_23 : decode cX11_way 23 = .ok (.getfield 36, 3) := by decide +kernel
theorem dX11_way_26 : decode cX11_way 26 = .ok (.getfield 142, 3) := by decide +kernel
theorem dX11_way_29 : decode cX11_way 29 = .ok (.iload_n 1, 1) := by decide +kernel
theorem dX11_way_30 : decode cX11_way 30 = .ok (.invokevirtual 296, 3) := by decide +kernel
theorem dX11_way_33 : decode cX11_way 33 = .ok (.iload_n 2, 1) := by decide +kernel
theorem dX11_way_34 : decode cX11_way 34 = .ok (.invokevirtual 302, 3) := by decide +kernel
theorem dX11_way_37 : decode cX11_way 37 = .ok (.ireturn, 1) := by decide +kernel
theorem dX11_rows_0 : decode cX11_rows 0 = .ok (.aload_n 0, 1) := by decide +kernel
theorem dX11_rows_1 : decode cX11_rows 1 = .ok (.iload_n 1, 1) := by decide +kernel
theorem dX11_rows_2 : decode cX11_rows 2 = .ok (.invokevirtual 289, 3) := by decide +kernel
theorem dX11_rows_5 : decode cX11_rows 5 = .ok (.ifCond .eq 13, 3) := by decide +kernel
theorem dX11_rows_8 : decode cX11_rows 8 = .ok (.iload_n 2, 1) := by decide +kernel
theorem dX11_rows_9 : decode cX11_rows 9 = .ok (.ifCond .lt 9, 3) := by decide +kernel
theorem dX11_rows_12 : decode cX11_rows 12 = .ok (.iload_n 2, 1) := by decide +kernel
theorem dX11_rows_13 : decode cX11_rows 13 = .ok (.bipush 8, 2) := by decide +kernel
theorem dX11_rows_15 : decode cX11_rows 15 = .ok (.if_icmp .le 7, 3) := by decide +kernel
theorem dX11_rows_18 : decode cX11_rows 18 = .ok (.ldc2_w 305, 3) := by decide +kernel
theorem dX11_rows_21 : decode cX11_rows 21 = .ok (.lreturn, 1) := by decide +kernel
theorem dX11_rows_22 : decode cX11_rows 22 = .ok (.aload_n 0, 1) := by decide +kernel
theorem dX11_rows_23 : decode cX11_rows 23 = .ok (.invokevirtual 292, 3) := by decide +kernel
theorem dX11_rows_26 : decode cX11_rows 26 = .ok (.aload_n 0, 1) := by decide +kernel
theorem dX11_rows_27 : decode cX11_rows 27 = .ok (.getfield 36, 3) := by decide +kernel
theorem dX11_rows_30 : decode cX11_rows 30 = .ok (.getfield 142, 3) := by decide +kernel
theorem dX11_rows_33 : decode cX11_rows 33 = .ok (.iload_n 1, 1) := by decide +kernel
theorem dX11_rows_34 : decode cX11_rows 34 = .ok (.iload_n 2, 1) := by decide +kernel
theorem dX11_rows_35 : decode cX11_rows 35 = .ok (.invokevirtual 307, 3) := by decide +kernel
theorem dX11_rows_38 : decode cX11_rows 38 = .ok (.lreturn, 1) := by decide +kernel
theorem dX11_most_0 : decode cX11_most 0 = .ok (.aload_n 0, 1) := by decide +kernel
theorem dX11_most_1 : decode cX11_most 1 = .ok (.invokevirtual 292, 3) := by decide +kernel
theorem dX11_most_4 : decode cX11_most 4 = .ok (.astore_n 1, 1) := by decide +kernel
theorem dX11_most_5 : decode cX11_most 5 = .ok (.aload_n 1, 1) := by decide +kernel
theorem dX11_most_6 : decode cX11_most 6 = .ok (.aload_n 0, 1) := by decide +kernel
theorem dX11_most_7 : decode cX11_most 7 = .ok (.getfield 36, 3) := by decide +kernel
theorem dX11_most_10 : decode cX11_most 10 = .ok (.getfield 142, 3) := by decide +kernel
theorem dX11_most_13 : decode cX11_most 13 = .ok (.bipush (-2), 2) := by decide +kernel
theorem dX11_most_15 : decode cX11_most 15 = .ok (.invokevirtual 296, 3) := by decide +kernel
theorem dX11_most_18 : decode cX11_most 18 = .ok (.pop, 1) := by decide +kernel
theorem dX11_most_19 : decode cX11_most 19 = .ok (.aload_n 1, 1) := by decide +kernel
theorem dX11_most_20 : decode cX11_most 20 = .ok (.invokevirtual 311, 3) := by decide +kernel
theorem dX11_most_23 : decode cX11_most 23 = .ok (.ireturn, 1) := by decide +kernel
theorem dX11_holding_0 : decode cX11_holding 0 = .ok (.aload_n 0, 1) := by decide +kernel
theorem dX11_holding_1 : decode cX11_holding 1 = .ok (.getfield 36, 3) := by decide +kernel
theorem dX11_holding_4 : decode cX11_holding 4 = .ok (.getfield 142, 3) := by decide +kernel
theorem dX11_holding_7 : decode cX11_holding 7 = .ok (.sipush 10000, 3) := by decide +kernel
theorem dX11_holding_10 : decode cX11_holding 10 = .ok (.if_icmp .lt 6, 3) := by decide +kernel
theorem dX11_holding_13 : decode cX11_holding 13 = .ok (.bipush (-5), 2) := by decide +kernel
theorem dX11_holding_15 : decode cX11_holding 15 = .ok (.ireturn, 1) := by decide +kernel
theorem dX11_holding_16 : decode cX11_holding 16 = .ok (.aload_n 0, 1) := by decide +kernel
theorem dX11_holding_17 : decode cX11_holding 17 = .ok (.getfield 29, 3) := by decide +kernel
theorem dX11_holding_20 : decode cX11_holding 20 = .ok (.getfield 314, 3) := by decide +kernel
theorem dX11_holding_23 : decode cX11_holding 23 = .ok (.ifnonnull 5, 3) := by decide +kernel
theorem dX11_holding_26 : decode cX11_holding 26 = .ok (.iconst (-1), 1) := by decide +kernel
theorem dX11_holding_27 : decode cX11_holding 27 = .ok (.ireturn, 1) := by decide +kernel
theorem dX11_holding_28 : decode cX11_holding 28 = .ok (.aload_n 0, 1) := by decide +kernel
theorem dX11_holding_29 : decode cX11_holding 29 = .ok (.invokevirtual 292, 3) := by decide +kernel
theorem dX11_holding_32 : decode cX11_holding 32 = .ok (.astore_n 1, 1) := by decide +kernel
theorem dX11_holding_33 : decode cX11_holding 33 = .ok (.aload_n 1, 1) := by decide +kernel
theorem dX11_holding_34 : decode cX11_holding 34 = .ok (.aload_n 0, 1) := by decide +kernel
theorem dX11_holding_35 : decode cX11_holding 35 = .ok (.getfield 36, 3) := by decide +kernel
theorem dX11_holding_38 : decode cX11_holding 38 = .ok (.getfield 142, 3) := by decide +kernel
theorem dX11_holding_41 : decode cX11_holding 41 = .ok (.bipush (-2), 2) := by decide +kernel
theorem dX11_holding_43 : decode cX11_holding 43 = .ok (.invokevirtual 296, 3) := by decide +kernel
theorem dX11_holding_46 : decode cX11_holding 46 = .ok (.pop, 1) := by decide +kernel
theorem dX11_holding_47 : decode cX11_holding 47 = .ok (.aload_n 1, 1) := by decide +kernel
theorem dX11_holding_48 : decode cX11_holding 48 = .ok (.aload_n 0, 1) := by decide +kernel
theorem dX11_holding_49 : decode cX11_holding 49 = .ok (.getfield 36, 3) := by decide +kernel
theorem dX11_holding_52 : decode cX11_holding 52 = .ok (.getfield 142, 3) := by decide +kernel
theorem dX11_holding_55 : decode cX11_holding 55 = .ok (.invokevirtual 318, 3) := by decide +kernel
theorem dX11_holding_58 : decode cX11_holding 58 = .ok (.ireturn, 1) := by decide +kernel
theorem dX11_felling_0 : decode cX11_felling 0 = .ok (.aload_n 0, 1) := by decide +kernel
theorem dX11_felling_1 : decode cX11_felling 1 = .ok (.getfield 36, 3) := by decide +kernel
theorem dX11_felling_4 : decode cX11_felling 4 = .ok (.getfield 142, 3) := by decide +kernel
theorem dX11_felling_7 : decode cX11_felling 7 = .ok (.sipush 10000, 3) := by decide +kernel
theorem dX11_felling_10 : decode cX11_felling 10 = .ok (.if_icmp .lt 6, 3) := by decide +kernel
theorem dX11_felling_13 : decode cX11_felling 13 = .ok (.bipush (-5), 2) := by decide +kernel
theorem dX11_felling_15 : decode cX11_felling 15 = .ok (.ireturn, 1) := by decide +kernel
theorem dX11_felling_16 : decode cX11_felling 16 = .ok (.aload_n 0, 1) := by decide +kernel
theorem dX11_felling_17 : decode cX11_felling 17 = .ok (.getfield 29, 3) := by decide +kernel
theorem dX11_felling_20 : decode cX11_felling 20 = .ok (.getfield 314, 3) := by decide +kernel
theorem dX11_felling_23 : decode cX11_felling 23 = .ok (.ifnonnull 5, 3) := by decide +kernel
theorem dX11_felling_26 : decode cX11_felling 26 = .ok (.iconst (-1), 1) := by decide +kernel
theorem dX11_felling_27 : decode cX11_felling 27 = .ok (.ireturn, 1) := by decide +kernel
theorem dX11_felling_28 : decode cX11_felling 28 = .ok (.aload_n 0, 1) := by decide +kernel
theorem dX11_felling_29 : decode cX11_felling 29 = .ok (.invokevirtual 292, 3) := by decide +kernel
theorem dX11_felling_32 : decode cX11_felling 32 = .ok (.astore_n 1, 1) := by decide +kernel
theorem dX11_felling_33 : decode cX11_felling 33 = .ok (.aload_n 1, 1) := by decide +kernel
theorem dX11_felling_34 : decode cX11_felling 34 = .ok (.aload_n 1, 1) := by decide +kernel
theorem dX11_felling_35 : decode cX11_felling 35 = .ok (.aload_n 0, 1) := by decide +kernel
theorem dX11_felling_36 : decode cX11_felling 36 = .ok (.getfield 36, 3) := by decide +kernel
theorem dX11_felling_39 : decode cX11_felling 39 = .ok (.getfield 142, 3) := by decide +kernel
theorem dX11_felling_42 : decode cX11_felling 42 = .ok (.iconst (-1), 1) := by decide +kernel
theorem dX11_felling_43 : decode cX11_felling 43 = .ok (.invokevirtual 296, 3) := by decide +kernel
theorem dX11_felling_46 : decode cX11_felling 46 = .ok (.invokevirtual 299, 3) := by decide +kernel
theorem dX11_felling_49 : decode cX11_felling 49 = .ok (.ireturn, 1) := by decide +kernel
theorem dX11_stands_0 : decode cX11_stands 0 = .ok (.aload_n 0, 1) := by decide +kernel
theorem dX11_stands_1 : decode cX11_stands 1 = .ok (.invokevirtual 292, 3) := by decide +kernel
theorem dX11_stands_4 : decode cX11_stands 4 = .ok (.astore_n 1, 1) := by decide +kernel
theorem dX11_stands_5 : decode cX11_stands 5 = .ok (.aload_n 1, 1) := by decide +kernel
theorem dX11_stands_6 : decode cX11_stands 6 = .ok (.aload_n 0, 1) := by decide +kernel
theorem dX11_stands_7 : decode cX11_stands 7 = .ok (.getfield 36, 3) := by decide +kernel
theorem dX11_stands_10 : decode cX11_stands 10 = .ok (.getfield 142, 3) := by decide +kernel
theorem dX11_stands_13 : decode cX11_stands 13 = .ok (.bipush (-2), 2) := by decide +kernel
theorem dX11_stands_15 : decode cX11_stands 15 = .ok (.invokevirtual 296, 3) := by decide +kernel
theorem dX11_stands_18 : decode cX11_stands 18 = .ok (.pop, 1) := by decide +kernel
theorem dX11_stands_19 : decode cX11_stands 19 = .ok (.aload_n 1, 1) := by decide +kernel
theorem dX11_stands_20 : decode cX11_stands 20 = .ok (.getfield 321, 3) := by decide +kernel
theorem dX11_stands_23 : decode cX11_stands 23 = .ok (.ireturn, 1) := by decide +kernel
theorem dX11_isSet_0 : decode cX11_isSet 0 = .ok (.iload_n 1, 1) := by decide +kernel
theorem dX11_isSet_1 : decode cX11_isSet 1 = .ok (.ifCond .lt 20, 3) := by decide +kernel
theorem dX11_isSet_4 : decode cX11_isSet 4 = .ok (.iload_n 1, 1) := by decide +kernel
theorem dX11_isSet_5 : decode cX11_isSet 5 = .ok (.iconst 1, 1) := by decide +kernel
theorem dX11_isSet_6 : decode cX11_isSet 6 = .ok (.aload_n 0, 1) := by decide +kernel
theorem dX11_isSet_7 : decode cX11_isSet 7 = .ok (.getfield 29, 3) := by decide +kernel
theorem dX11_isSet_10 : decode cX11_isSet 10 = .ok (.getfield 181, 3) := by decide +kernel
theorem dX11_isSet_13 : decode cX11_isSet 13 = .ok (.ishl, 1) := by decide +kernel
theorem dX11_isSet_14 : decode cX11_isSet 14 = .ok (.if_icmp .ge 7, 3) := by decide +kernel
theorem dX11_isSet_17 : decode cX11_isSet 17 = .ok (.iconst 1, 1) := by decide +kernel
theorem dX11_isSet_18 : decode cX11_isSet 18 = .ok (.goto 4, 3) := by decide +kernel
theorem dX11_isSet_21 : decode cX11_isSet 21 = .ok (.iconst 0, 1) := by decide +kernel
theorem dX11_isSet_22 : decode cX11_isSet 22 = .ok (.ireturn, 1) := by decide +kernel
theorem dX11_searching_0 : decode cX11_searching 0 = .ok (.aload_n 0, 1) := by decide +kernel
theorem dX11_searching_1 : decode cX11_searching 1 = .ok (.getfield 97, 3) := by decide +kernel
theorem dX11_searching_4 : decode cX11_searching 4 = .ok (.aload_n 0, 1) := by decide +kernel
theorem dX11_searching_5 : decode cX11_searching 5 = .ok (.getfield 29, 3) := by decide +kernel
theorem dX11_searching_8 : decode cX11_searching 8 = .ok (.aload_n 0, 1) := by decide +kernel
theorem dX11_searching_9 : decode cX11_searching 9 = .ok (.getfield 36, 3) := by decide +kernel
theorem dX11_searching_12 : decode cX11_searching 12 = .ok (.getfield 149, 3) := by decide +kernel
theorem dX11_searching_15 : decode cX11_searching 15 = .ok (.invokevirtual 324, 3) := by decide +kernel
theorem dX11_searching_18 : decode cX11_searching 18 = .ok (.aload_n 0, 1) := by decide +kernel
theorem dX11_searching_19 : decode cX11_searching 19 = .ok (.getfield 97, 3) := by decide +kernel
theorem dX11_searching_22 : decode cX11_searching 22 = .ok (.areturn, 1) := by decide +kernel
theorem dX11_seen_0 : decode cX11_seen 0 = .ok (.aload_n 0, 1) := by decide +kernel
theorem dX11_seen_1 : decode cX11_seen 1 = .ok (.iload_n 1, 1) := by decide +kernel
theorem dX11_seen_2 : decode cX11_seen 2 = .ok (.iload_n 2, 1) := by decide +kernel
theorem dX11_seen_3 : decode cX11_seen 3 = .ok (.invokevirtual 325, 3) := by decide +kernel
theorem dX11_seen_6 : decode cX11_seen 6 = .ok (.istore_n 3, 1) := by decide +kernel
theorem dX11_seen_7 : decode cX11_seen 7 = .ok (.iload_n 3, 1) := by decide +kernel
theorem dX11_seen_8 : decode cX11_seen 8 = .ok (.ifCond .eq 5, 3) := by decide +kernel
theorem dX11_seen_11 : decode cX11_seen 11 = .ok (.iload_n 3, 1) := by decide +kernel
theorem dX11_seen_12 : decode cX11_seen 12 = .ok (.ireturn, 1) := by decide +kernel
theorem dX11_seen_13 : decode cX11_seen 13 = .ok (.aload_n 0, 1) := by decide +kernel
theorem dX11_seen_14 : decode cX11_seen 14 = .ok (.iload_n 1, 1) := by decide +kernel
theorem dX11_seen_15 : decode cX11_seen 15 = .ok (.iload_n 2, 1) := by decide +kernel
theorem dX11_seen_16 : decode cX11_seen 16 = .ok (.invokevirtual 328, 3) := by decide +kernel
theorem dX11_seen_19 : decode cX11_seen 19 = .ok (.aload_n 0, 1) := by decide +kernel
theorem dX11_seen_20 : decode cX11_seen 20 = .ok (.getfield 88, 3) := by decide +kernel
theorem dX11_seen_23 : decode cX11_seen 23 = .ok (.getfield 332, 3) := by decide +kernel
theorem dX11_seen_26 : decode cX11_seen 26 = .ok (.ireturn, 1) := by decide +kernel
theorem dX11_seenDry_0 : decode cX11_seenDry 0 = .ok (.aload_n 0, 1) := by decide +kernel
theorem dX11_seenDry_1 : decode cX11_seenDry 1 = .ok (.iload_n 1, 1) := by decide +kernel
theorem dX11_seenDry_2 : decode cX11_seenDry 2 = .ok (.iload_n 2, 1) := by decide +kernel
theorem dX11_seenDry_3 : decode cX11_seenDry 3 = .ok (.invokevirtual 325, 3) := by decide +kernel
theorem dX11_seenDry_6 : decode cX11_seenDry 6 = .ok (.istore 4, 2) := by decide +kernel
theorem dX11_seenDry_8 : decode cX11_seenDry 8 = .ok (.iload 4, 2) := by decide +kernel
theorem dX11_seenDry_10 : decode cX11_seenDry 10 = .ok (.ifCond .eq 6, 3) := by decide +kernel
theorem dX11_seenDry_13 : decode cX11_seenDry 13 = .ok (.iload 4, 2) := by decide +kernel
theorem dX11_seenDry_15 : decode cX11_seenDry 15 = .ok (.ireturn, 1) := by decide +kernel
theorem dX11_seenDry_16 : decode cX11_seenDry 16 = .ok (.iload_n 3, 1) := by decide +kernel
theorem dX11_seenDry_17 : decode cX11_seenDry 17 = .ok (.ifCond .ge 6, 3) := by decide +kernel
theorem dX11_seenDry_20 : decode cX11_seenDry 20 = .ok (.bipush (-3), 2) := by decide +kernel
theorem dX11_seenDry_22 : decode cX11_seenDry 22 = .ok (.ireturn, 1) := by decide +kernel
theorem dX11_seenDry_23 : decode cX11_seenDry 23 = .ok (.aload_n 0, 1) := by decide +kernel
theorem dX11_seenDry_24 : decode cX11_seenDry 24 = .ok (.iload_n 1, 1) := by decide +kernel
theorem dX11_seenDry_25 : decode cX11_seenDry 25 = .ok (.iload_n 2, 1) := by decide +kernel
theorem dX11_seenDry_26 : decode cX11_seenDry 26 = .ok (.invokevirtual 328, 3) := by decide +kernel
theorem dX11_seenDry_29 : decode cX11_seenDry 29 = .ok (.aload_n 0, 1) := by decide +kernel
theorem dX11_seenDry_30 : decode cX11_seenDry 30 = .ok (.getfield 88, 3) := by decide +kernel
theorem dX11_seenDry_33 : decode cX11_seenDry 33 = .ok (.getfield 332, 3) := by decide +kernel
theorem dX11_seenDry_36 : decode cX11_seenDry 36 = .ok (.ifCond .eq 16, 3) := by decide +kernel
theorem dX11_seenDry_39 : decode cX11_seenDry 39 = .ok (.iload_n 3, 1) := by decide +kernel
theorem dX11_seenDry_40 : decode cX11_seenDry 40 = .ok (.aload_n 0, 1) := by decide +kernel
theorem dX11_seenDry_41 : decode cX11_seenDry 41 = .ok (.getfield 55, 3) := by decide +kernel
theorem dX11_seenDry_44 : decode cX11_seenDry 44 = .ok (.iload_n 1, 1) := by decide +kernel
theorem dX11_seenDry_45 : decode cX11_seenDry 45 = .ok (.aaload, 1) := by decide +kernel
theorem dX11_seenDry_46 : decode cX11_seenDry 46 = .ok (.getfield 222, 3) := by decide +kernel
theorem dX11_seenDry_49 : decode cX11_seenDry 49 = .ok (.if_icmp .lt 5, 3) := by decide +kernel
theorem dX11_seenDry_52 : decode cX11_seenDry 52 = .ok (.iconst (-1), 1) := by decide +kernel
theorem dX11_seenDry_53 : decode cX11_seenDry 53 = .ok (.ireturn, 1) := by decide +kernel
theorem dX11_seenDry_54 : decode cX11_seenDry 54 = .ok (.aload_n 0, 1) := by decide +kernel
theorem dX11_seenDry_55 : decode cX11_seenDry 55 = .ok (.getfield 88, 3) := by decide +kernel
theorem dX11_seenDry_58 : decode cX11_seenDry 58 = .ok (.getfield 335, 3) := by decide +kernel
theorem dX11_seenDry_61 : decode cX11_seenDry 61 = .ok (.iload_n 3, 1) := by decide +kernel
theorem dX11_seenDry_62 : decode cX11_seenDry 62 = .ok (.ishr, 1) := by decide +kernel
theorem dX11_seenDry_63 : decode cX11_seenDry 63 = .ok (.iconst 1, 1) := by decide +kernel
theorem dX11_seenDry_64 : decode cX11_seenDry 64 = .ok (.iand, 1) := by decide +kernel
theorem dX11_seenDry_65 : decode cX11_seenDry 65 = .ok (.ireturn, 1) := by decide +kernel
theorem dX11_surely_0 : decode cX11_surely 0 = .ok (.iload_n 3, 1) := by decide +kernel
theorem dX11_surely_1 : decode cX11_surely 1 = .ok (.invokestatic 162, 3) := by decide +kernel
theorem dX11_surely_4 : decode cX11_surely 4 = .ok (.ifCond .ne 6, 3) := by decide +kernel
theorem dX11_surely_7 : decode cX11_surely 7 = .ok (.bipush (-2), 2) := by decide +kernel
theorem dX11_surely_9 : decode cX11_surely 9 = .ok (.ireturn, 1) := by decide +kernel
theorem dX11_surely_10 : decode cX11_surely 10 = .ok (.aload_n 0, 1) := by decide +kernel
theorem dX11_surely_11 : decode cX11_surely 11 = .ok (.iload_n 1, 1) := by decide +kernel
theorem dX11_surely_12 : decode cX11_surely 12 = .ok (.iload_n 2, 1) := by decide +kernel
theorem dX11_surely_13 : decode cX11_surely 13 = .ok (.invokevirtual 325, 3) := by decide +kernel
theorem dX11_surely_16 : decode cX11_surely 16 = .ok (.istore 4, 2) := by decide +kernel
theorem dX11_surely_18 : decode cX11_surely 18 = .ok (.iload 4, 2) := by decide +kernel
theorem dX11_surely_20 : decode cX11_surely 20 = .ok (.ifCond .eq 6, 3) := by decide +kernel
theorem dX11_surely_23 : decode cX11_surely 23 = .ok (.iload 4, 2) := by decide +kernel
theorem dX11_surely_25 : decode cX11_surely 25 = .ok (.ireturn, 1) := by decide +kernel
theorem dX11_surely_26 : decode cX11_surely 26 = .ok (.aload_n 0, 1) := by decide +kernel
theorem dX11_surely_27 : decode cX11_surely 27 = .ok (.iload_n 1, 1) := by decide +kernel
theorem dX11_surely_28 : decode cX11_surely 28 = .ok (.iload_n 2, 1) := by decide +kernel
theorem dX11_surely_29 : decode cX11_surely 29 = .ok (.invokevirtual 328, 3) := by decide +kernel
theorem dX11_surely_32 : decode cX11_surely 32 = .ok (.aload_n 0, 1) := by decide +kernel
theorem dX11_surely_33 : decode cX11_surely 33 = .ok (.getfield 88, 3) := by decide +kernel
theorem dX11_surely_36 : decode cX11_surely 36 = .ok (.getfield 332, 3) := by decide +kernel
theorem dX11_surely_39 : decode cX11_surely 39 = .ok (.ifCond .ne 5, 3) := by decide +kernel
theorem dX11_surely_42 : decode cX11_surely 42 = .ok (.iconst 0, 1) := by decide +kernel
theorem dX11_surely_43 : decode cX11_surely 43 = .ok (.ireturn, 1) := by decide +kernel
theorem dX11_surely_44 : decode cX11_surely 44 = .ok (.iload_n 3, 1) := by decide +kernel
theorem dX11_surely_45 : decode cX11_surely 45 = .ok (.iconst 1, 1) := by decide +kernel
theorem dX11_surely_46 : decode cX11_surely 46 = .ok (.if_icmp .ne 13, 3) := by decide +kernel
theorem dX11_surely_49 : decode cX11_surely 49 = .ok (.aload_n 0, 1) := by decide +kernel
theorem dX11_surely_50 : decode cX11_surely 50 = .ok (.getfield 88, 3) := by decide +kernel
theorem dX11_surely_53 : decode cX11_surely 53 = .ok (.getfield 338, 3) := by decide +kernel
theorem dX11_surely_56 : decode cX11_surely 56 = .ok (.goto 10, 3) := by decide +kernel
theorem dX11_surely_59 : decode cX11_surely 59 = .ok (.aload_n 0, 1) := by decide +kernel
theorem dX11_surely_60 : decode cX11_surely 60 = .ok (.getfield 88, 3) := by decide +kernel
theorem dX11_surely_63 : decode cX11_surely 63 = .ok (.getfield 341, 3) := by decide +kernel
theorem dX11_surely_66 : decode cX11_surely 66 = .ok (.ireturn, 1) := by decide +kernel
theorem dX11_chalks_0 : decode cX11_chalks 0 = .ok (.aload_n 0, 1) := by decide +kernel
theorem dX11_chalks_1 : decode cX11_chalks 1 = .ok (.iload_n 1, 1) := by decide +kernel
theorem dX11_chalks_2 : decode cX11_chalks 2 = .ok (.iload_n 2, 1) := by decide +kernel
theorem dX11_chalks_3 : decode cX11_chalks 3 = .ok (.invokevirtual 325, 3) := by decide +kernel
theorem dX11_chalks_6 : decode cX11_chalks 6 = .ok (.istore_n 3, 1) := by decide +kernel
theorem dX11_chalks_7 : decode cX11_chalks 7 = .ok (.iload_n 3, 1) := by decide +kernel
theorem dX11_chalks_8 : decode cX11_chalks 8 = .ok (.ifCond .eq 7, 3) := by decide +kernel
theorem dX11_chalks_11 : decode cX11_chalks 11 = .ok (.iload_n 3, 1) := by decide +kernel
theorem dX11_chalks_12 : decode cX11_chalks 12 = .ok (.goto 9, 3) := by decide +kernel
theorem dX11_chalks_15 : decode cX11_chalks 15 = .ok (.aload_n 0, 1) := by decide +kernel
theorem dX11_chalks_16 : decode cX11_chalks 16 = .ok (.iload_n 1, 1) := by decide +kernel
theorem dX11_chalks_17 : decode cX11_chalks 17 = .ok (.iload_n 2, 1) := by decide +kernel
theorem dX11_chalks_18 : decode cX11_chalks 18 = .ok (.invokevirtual 344, 3) := by decide +kernel
theorem dX11_chalks_21 : decode cX11_chalks 21 = .ok (.ireturn, 1) := by decide +kernel
theorem dX11_attempt_0 : decode cX11_attempt 0 = .ok (.aload_n 0, 1) := by decide +kernel
theorem dX11_attempt_1 : decode cX11_attempt 1 = .ok (.iload_n 1, 1) := by decide +kernel
theorem dX11_attempt_2 : decode cX11_attempt 2 = .ok (.iload_n 2, 1) := by decide +kernel
theorem dX11_attempt_3 : decode cX11_attempt 3 = .ok (.invokevirtual 325, 3) := by decide +kernel
theorem dX11_attempt_6 : decode cX11_attempt 6 = .ok (.istore_n 3, 1) := by decide +kernel
theorem dX11_attempt_7 : decode cX11_attempt 7 = .ok (.iload_n 3, 1) := by decide +kernel
theorem dX11_attempt_8 : decode cX11_attempt 8 = .ok (.ifCond .eq 5, 3) := by decide +kernel
theorem dX11_attempt_11 : decode cX11_attempt 11 = .ok (.iload_n 3, 1) := by decide +kernel
theorem dX11_attempt_12 : decode cX11_attempt 12 = .ok (.ireturn, 1) := by decide +kernel
theorem dX11_attempt_13 : decode cX11_attempt 13 = .ok (.aload_n 0, 1) := by decide +kernel
theorem dX11_attempt_14 : decode cX11_attempt 14 = .ok (.getfield 36, 3) := by decide +kernel
theorem dX11_attempt_17 : decode cX11_attempt 17 = .ok (.getfield 142, 3) := by decide +kernel
theorem dX11_attempt_20 : decode cX11_attempt 20 = .ok (.iload_n 2, 1) := by decide +kernel
theorem dX11_attempt_21 : decode cX11_attempt 21 = .ok (.invokestatic 145, 3) := by decide +kernel
theorem dX11_attempt_24 : decode cX11_attempt 24 = .ok (.ifCond .ne 6, 3) := by decide +kernel
theorem dX11_attempt_27 : decode cX11_attempt 27 = .ok (.bipush (-5), 2) := by decide +kernel
theorem dX11_attempt_29 : decode cX11_attempt 29 = .ok (.ireturn, 1) := by decide +kernel
theorem dX11_attempt_30 : decode cX11_attempt 30 = .ok (.aload_n 0, 1) := by decide +kernel
theorem dX11_attempt_31 : decode cX11_attempt 31 = .ok (.iload_n 1, 1) := by decide +kernel
theorem dX11_attempt_32 : decode cX11_attempt 32 = .ok (.iload_n 2, 1) := by decide +kernel
theorem dX11_attempt_33 : decode cX11_attempt 33 = .ok (.invokevirtual 344, 3) := by decide +kernel
theorem dX11_attempt_36 : decode cX11_attempt 36 = .ok (.istore 4, 2) := by decide +kernel
theorem dX11_attempt_38 : decode cX11_attempt 38 = .ok (.iload 4, 2) := by decide +kernel
theorem dX11_attempt_40 : decode cX11_attempt 40 = .ok (.ifCond .ne 5, 3) := by decide +kernel
theorem dX11_attempt_43 : decode cX11_attempt 43 = .ok (.iconst (-1), 1) := by decide +kernel
theorem dX11_attempt_44 : decode cX11_attempt 44 = .ok (.ireturn, 1) := by decide +kernel
theorem dX11_attempt_45 : decode cX11_attempt 45 = .ok (.iconst 0, 1) := by decide +kernel
theorem dX11_attempt_46 : decode cX11_attempt 46 = .ok (.istore 5, 2) := by decide +kernel
theorem dX11_attempt_48 : decode cX11_attempt 48 = .ok (.bipush 11, 2) := by decide +kernel
theorem dX11_attempt_50 : decode cX11_attempt 50 = .ok (.istore 6, 2) := by decide +kernel
theorem dX11_attempt_52 : decode cX11_attempt 52 = .ok (.iconst 0, 1) := by decide +kernel
theorem dX11_attempt_53 : decode cX11_attempt 53 = .ok (.istore 7, 2) := by decide +kernel
theorem dX11_attempt_55 : decode cX11_attempt 55 = .ok (.iload 7, 2) := by decide +kernel
theorem dX11_attempt_57 : decode cX11_attempt 57 = .ok (.iconst 4, 1) := by decide +kernel
theorem dX11_attempt_58 : decode cX11_attempt 58 = .ok (.if_icmp .gt 35, 3) := by decide +kernel
theorem dX11_attempt_61 : decode cX11_attempt 61 = .ok (.aload_n 0, 1) := by decide +kernel
theorem dX11_attempt_62 : decode cX11_attempt 62 = .ok (.iload 4, 2) := by decide +kernel
theorem dX11_attempt_64 : decode cX11_attempt 64 = .ok (.iload_n 2, 1) := by decide +kernel
theorem dX11_attempt_65 : decode cX11_attempt 65 = .ok (.iload 7, 2) := by decide +kernel
theorem dX11_attempt_67 : decode cX11_attempt 67 = .ok (.invokevirtual 347, 3) := by decide +kernel
theorem dX11_attempt_70 : decode cX11_attempt 70 = .ok (.istore 8, 2) := by decide +kernel
theorem dX11_attempt_72 : decode cX11_attempt 72 = .ok (.iload 8, 2) := by decide +kernel
theorem dX11_attempt_74 : decode cX11_attempt 74 = .ok (.iload 6, 2) := by decide +kernel
theorem dX11_attempt_76 : decode cX11_attempt 76 = .ok (.if_icmp .ge 11, 3) := by decide +kernel
theorem dX11_attempt_79 : decode cX11_attempt 79 = .ok (.iload 8, 2) := by decide +kernel
theorem dX11_attempt_81 : decode cX11_attempt 81 = .ok (.istore 6, 2) := by decide +kernel
theorem dX11_attempt_83 : decode cX11_attempt 83 = .ok (.iload 7, 2) := by decide +kernel
theorem dX11_attempt_85 : decode cX11_attempt 85 = .ok (.istore 5, 2) := by decide +kernel
theorem dX11_attempt_87 : decode cX11_attempt 87 = .ok (.iinc 7 1, 3) := by decide +kernel
theorem dX11_attempt_90 : decode cX11_attempt 90 = .ok (.goto (-35), 3) := by decide +kernel
theorem dX11_attempt_93 : decode cX11_attempt 93 = .ok (.iload 5, 2) := by decide +kernel
theorem dX11_attempt_95 : decode cX11_attempt 95 = .ok (.ireturn, 1) := by decide +kernel
theorem dX11_seenRefusal_0 : decode cX11_seenRefusal 0 = .ok (.iload_n 1, 1) := by decide +kernel
theorem dX11_seenRefusal_1 : decode cX11_seenRefusal 1 = .ok (.invokestatic 215, 3) := by decide +kernel
theorem dX11_seenRefusal_4 : decode cX11_seenRefusal 4 = .ok (.ifCond .eq 11, 3) := by decide +kernel
theorem dX11_seenRefusal_7 : decode cX11_seenRefusal 7 = .ok (.aload_n 0, 1) := by decide +kernel
theorem dX11_seenRefusal_8 : decode cX11_seenRefusal 8 = .ok (.iload_n 2, 1) := by decide +kernel
theorem dX11_seenRefusal_9 : decode cX11_seenRefusal 9 = .ok (.invokevirtual 138, 3) := by decide +kernel
theorem dX11_seenRefusal_12 : decode cX11_seenRefusal 12 = .ok (.ifCond .ne 6, 3) := by decide +kernel
theorem dX11_seenRefusal_15 : decode cX11_seenRefusal 15 = .ok (.bipush (-2), 2) := by decide +kernel
theorem dX11_seenRefusal_17 : decode cX11_seenRefusal 17 = .ok (.ireturn, 1) := by decide +kernel
theorem dX11_seenRefusal_18 : decode cX11_seenRefusal 18 = .ok (.aload_n 0, 1) := by decide +kernel
theorem dX11_seenRefusal_19 : decode cX11_seenRefusal 19 = .ok (.getfield 55, 3) := by decide +kernel
theorem dX11_seenRefusal_22 : decode cX11_seenRefusal 22 = .ok (.iload_n 1, 1) := by decide +kernel
theorem dX11_seenRefusal_23 : decode cX11_seenRefusal 23 = .ok (.aaload, 1) := by decide +kernel
theorem dX11_seenRefusal_24 : decode cX11_seenRefusal 24 = .ok (.astore_n 3, 1) := by decide +kernel
theorem dX11_seenRefusal_25 : decode cX11_seenRefusal 25 = .ok (.aload_n 3, 1) := by decide +kernel
theorem dX11_seenRefusal_26 : decode cX11_seenRefusal 26 = .ok (.getfield 218, 3) := by decide +kernel
theorem dX11_seenRefusal_29 : decode cX11_seenRefusal 29 = .ok (.ifCond .eq 6, 3) := by decide +kernel
theorem dX11_seenRefusal_32 : decode cX11_seenRefusal 32 = .ok (.bipush (-6), 2) := by decide +kernel
theorem dX11_seenRefusal_34 : decode cX11_seenRefusal 34 = .ok (.ireturn, 1) := by decide +kernel
theorem dX11_seenRefusal_35 : decode cX11_seenRefusal 35 = .ok (.aload_n 3, 1) := by decide +kernel
theorem dX11_seenRefusal_36 : decode cX11_seenRefusal 36 = .ok (.getfield 222, 3) := by decide +kernel
theorem dX11_seenRefusal_39 : decode cX11_seenRefusal 39 = .ok (.iconst 1, 1) := by decide +kernel
theorem dX11_seenRefusal_40 : decode cX11_seenRefusal 40 = .ok (.if_icmp .lt 12, 3) := by decide +kernel
theorem dX11_seenRefusal_43 : decode cX11_seenRefusal 43 = .ok (.aload_n 3, 1) := by decide +kernel
theorem dX11_seenRefusal_44 : decode cX11_seenRefusal 44 = .ok (.getfield 222, 3) := by decide +kernel
theorem dX11_seenRefusal_47 : decode cX11_seenRefusal 47 = .ok (.bipush 10, 2) := by decide +kernel
theorem dX11_seenRefusal_49 : decode cX11_seenRefusal 49 = .ok (.if_icmp .le 6, 3) := by decide +kernel
theorem dX11_seenRefusal_52 : decode cX11_seenRefusal 52 = .ok (.bipush (-4), 2) := by decide +kernel
theorem dX11_seenRefusal_54 : decode cX11_seenRefusal 54 = .ok (.ireturn, 1) := by decide +kernel
theorem dX11_seenRefusal_55 : decode cX11_seenRefusal 55 = .ok (.iconst 0, 1) := by decide +kernel
theorem dX11_seenRefusal_56 : decode cX11_seenRefusal 56 = .ok (.istore 4, 2) := by decide +kernel
theorem dX11_seenRefusal_58 : decode cX11_seenRefusal 58 = .ok (.iload 4, 2) := by decide +kernel
theorem dX11_seenRefusal_60 : decode cX11_seenRefusal 60 = .ok (.aload_n 3, 1) := by decide +kernel
theorem dX11_seenRefusal_61 : decode cX11_seenRefusal 61 = .ok (.getfield 222, 3) := by decide +kernel
theorem dX11_seenRefusal_64 : decode cX11_seenRefusal 64 = .ok (.if_icmp .ge 38, 3) := by decide +kernel
theorem dX11_seenRefusal_67 : decode cX11_seenRefusal 67 = .ok (.aload_n 3, 1) := by decide +kernel
theorem dX11_seenRefusal_68 : decode cX11_seenRefusal 68 = .ok (.iload 4, 2) := by decide +kernel
theorem dX11_seenRefusal_70 : decode cX11_seenRefusal 70 = .ok (.invokevirtual 223, 3) := by decide +kernel
theorem dX11_seenRefusal_73 : decode cX11_seenRefusal 73 = .ok (.ldc2_w 350, 3) := by decide +kernel
theorem dX11_seenRefusal_76 : decode cX11_seenRefusal 76 = .ok (.lcmp, 1) := by decide +kernel
theorem dX11_seenRefusal_77 : decode cX11_seenRefusal 77 = .ok (.ifCond .lt 16, 3) := by decide +kernel
theorem dX11_seenRefusal_80 : decode cX11_seenRefusal 80 = .ok (.aload_n 3, 1) := by decide +kernel
theorem dX11_seenRefusal_81 : decode cX11_seenRefusal 81 = .ok (.iload 4, 2) := by decide +kernel
theorem dX11_seenRefusal_83 : decode cX11_seenRefusal 83 = .ok (.invokevirtual 223, 3) := by decide +kernel
theorem dX11_seenRefusal_86 : decode cX11_seenRefusal 86 = .ok (.ldc2_w 352, 3) := by decide +kernel
theorem dX11_seenRefusal_89 : decode cX11_seenRefusal 89 = .ok (.lcmp, 1) := by decide +kernel
theorem dX11_seenRefusal_90 : decode cX11_seenRefusal 90 = .ok (.ifCond .le 6, 3) := by decide +kernel
theorem dX11_seenRefusal_93 : decode cX11_seenRefusal 93 = .ok (.bipush (-3), 2) := by decide +kernel
theorem dX11_seenRefusal_95 : decode cX11_seenRefusal 95 = .ok (.ireturn, 1) := by decide +kernel
theorem dX11_seenRefusal_96 : decode cX11_seenRefusal 96 = .ok (.iinc 4 1, 3) := by decide +kernel
theorem dX11_seenRefusal_99 : decode cX11_seenRefusal 99 = .ok (.goto (-41), 3) := by decide +kernel
theorem dX11_seenRefusal_102 : decode cX11_seenRefusal 102 = .ok (.iconst 0, 1) := by decide +kernel
theorem dX11_seenRefusal_103 : decode cX11_seenRefusal 103 = .ok (.ireturn, 1) := by decide +kernel
theorem dX11_traceSeen_0 : decode cX11_traceSeen 0 = .ok (.aload_n 0, 1) := by decide +kernel
theorem dX11_traceSeen_1 : decode cX11_traceSeen 1 = .ok (.invokevirtual 166, 3) := by decide +kernel
theorem dX11_traceSeen_4 : decode cX11_traceSeen 4 = .ok (.pop, 1) := by decide +kernel
theorem dX11_traceSeen_5 : decode cX11_traceSeen 5 = .ok (.aload_n 0, 1) := by decide +kernel
theorem dX11_traceSeen_6 : decode cX11_traceSeen 6 = .ok (.getfield 88, 3) := by decide +kernel
theorem dX11_traceSeen_9 : decode cX11_traceSeen 9 = .ok (.aload_n 0, 1) := by decide +kernel
theorem dX11_traceSeen_10 : decode cX11_traceSeen 10 = .ok (.getfield 55, 3) := by decide +kernel
theorem dX11_traceSeen_13 : decode cX11_traceSeen 13 = .ok (.iload_n 1, 1) := by decide +kernel
theorem dX11_traceSeen_14 : decode cX11_traceSeen 14 = .ok (.aaload, 1) := by decide +kernel
theorem dX11_traceSeen_15 : decode cX11_traceSeen 15 = .ok (.iload_n 2, 1) := by decide +kernel
theorem dX11_traceSeen_16 : decode cX11_traceSeen 16 = .ok (.aload_n 0, 1) := by decide +kernel
theorem dX11_traceSeen_17 : decode cX11_traceSeen 17 = .ok (.getfield 36, 3) := by decide +kernel
theorem dX11_traceSeen_20 : decode cX11_traceSeen 20 = .ok (.getfield 142, 3) := by decide +kernel
theorem dX11_traceSeen_23 : decode cX11_traceSeen 23 = .ok (.aload_n 0, 1) := by decide +kernel
theorem dX11_traceSeen_24 : decode cX11_traceSeen 24 = .ok (.getfield 36, 3) := by decide +kernel
theorem dX11_traceSeen_27 : decode cX11_traceSeen 27 = .ok (.getfield 152, 3) := by decide +kernel
theorem dX11_traceSeen_30 : decode cX11_traceSeen 30 = .ok (.invokevirtual 354, 3) := by decide +kernel
theorem dX11_traceSeen_33 : decode cX11_traceSeen 33 = .ok (.return_, 1) := by decide +kernel
theorem dX11_chalkBits_0 : decode cX11_chalkBits 0 = .ok (.iconst 0, 1) := by decide +kernel
theorem dX11_chalkBits_1 : decode cX11_chalkBits 1 = .ok (.istore_n 3, 1) := by decide +kernel
theorem dX11_chalkBits_2 : decode cX11_chalkBits 2 = .ok (.iconst 0, 1) := by decide +kernel
theorem dX11_chalkBits_3 : decode cX11_chalkBits 3 = .ok (.istore 4, 2) := by decide +kernel
theorem dX11_chalkBits_5 : decode cX11_chalkBits 5 = .ok (.iload 4, 2) := by decide +kernel
theorem dX11_chalkBits_7 : decode cX11_chalkBits 7 = .ok (.bipush 9, 2) := by decide +kernel
theorem dX11_chalkBits_9 : decode cX11_chalkBits 9 = .ok (.if_icmp .gt 71, 3) := by decide +kernel
theorem dX11_chalkBits_12 : decode cX11_chalkBits 12 = .ok (.aload_n 0, 1) := by decide +kernel
theorem dX11_chalkBits_13 : decode cX11_chalkBits 13 = .ok (.getfield 72, 3) := by decide +kernel
theorem dX11_chalkBits_16 : decode cX11_chalkBits 16 = .ok (.aload_n 0, 1) := by decide +kernel
theorem dX11_chalkBits_17 : decode cX11_chalkBits 17 = .ok (.getfield 29, 3) := by decide +kernel
theorem dX11_chalkBits_20 : decode cX11_chalkBits 20 = .ok (.aload_n 0, 1) := by decide +kernel
theorem dX11_chalkBits_21 : decode cX11_chalkBits 21 = .ok (.getfield 36, 3) := by decide +kernel
theorem dX11_chalkBits_24 : decode cX11_chalkBits 24 = .ok (.getfield 149, 3) := by decide +kernel
theorem dX11_chalkBits_27 : decode cX11_chalkBits 27 = .ok (.iload_n 2, 1) := by decide +kernel
theorem dX11_chalkBits_28 : decode cX11_chalkBits 28 = .ok (.iload 4, 2) := by decide +kernel
theorem dX11_chalkBits_30 : decode cX11_chalkBits 30 = .ok (.invokestatic 267, 3) := by decide +kernel
theorem dX11_chalkBits_33 : decode cX11_chalkBits 33 = .ok (.invokevirtual 184, 3) := by decide +kernel
theorem dX11_chalkBits_36 : decode cX11_chalkBits 36 = .ok (.aload_n 0, 1) := by decide +kernel
theorem dX11_chalkBits_37 : decode cX11_chalkBits 37 = .ok (.getfield 81, 3) := by decide +kernel
theorem dX11_chalkBits_40 : decode cX11_chalkBits 40 = .ok (.aload_n 0, 1) := by decide +kernel
theorem dX11_chalkBits_41 : decode cX11_chalkBits 41 = .ok (.getfield 55, 3) := by decide +kernel
theorem dX11_chalkBits_44 : decode cX11_chalkBits 44 = .ok (.iload_n 1, 1) := by decide +kernel
theorem dX11_chalkBits_45 : decode cX11_chalkBits 45 = .ok (.aaload, 1) := by decide +kernel
theorem dX11_chalkBits_46 : decode cX11_chalkBits 46 = .ok (.iload_n 2, 1) := by decide +kernel
theorem dX11_chalkBits_47 : decode cX11_chalkBits 47 = .ok (.aload_n 0, 1) := by decide +kernel
theorem dX11_chalkBits_48 : decode cX11_chalkBits 48 = .ok (.getfield 36, 3) := by decide +kernel
theorem dX11_chalkBits_51 : decode cX11_chalkBits 51 = .ok (.getfield 142, 3) := by decide +kernel
theorem dX11_chalkBits_54 : decode cX11_chalkBits 54 = .ok (.aload_n 0, 1) := by decide +kernel
theorem dX11_chalkBits_55 : decode cX11_chalkBits 55 = .ok (.getfield 36, 3) := by decide +kernel
theorem dX11_chalkBits_58 : decode cX11_chalkBits 58 = .ok (.getfield 152, 3) := by decide +kernel
theorem dX11_chalkBits_61 : decode cX11_chalkBits 61 = .ok (.invokevirtual 358, 3) := by decide +kernel
theorem dX11_chalkBits_64 : decode cX11_chalkBits 64 = .ok (.ifCond .eq 10, 3) := by decide +kernel
theorem dX11_chalkBits_67 : decode cX11_chalkBits 67 = .ok (.iload_n 3, 1) := by decide +kernel
theorem dX11_chalkBits_68 : decode cX11_chalkBits 68 = .ok (.iconst 1, 1) := by decide +kernel
theorem dX11_chalkBits_69 : decode cX11_chalkBits 69 = .ok (.iload 4, 2) := by decide +kernel
theorem dX11_chalkBits_71 : decode cX11_chalkBits 71 = .ok (.ishl, 1) := by decide +kernel
theorem dX11_chalkBits_72 : decode cX11_chalkBits 72 = .ok (.ior, 1) := by decide +kernel
theorem dX11_chalkBits_73 : decode cX11_chalkBits 73 = .ok (.istore_n 3, 1) := by decide +kernel
theorem dX11_chalkBits_74 : decode cX11_chalkBits 74 = .ok (.iinc 4 1, 3) := by decide +kernel
theorem dX11_chalkBits_77 : decode cX11_chalkBits 77 = .ok (.goto (-72), 3) := by decide +kernel
theorem dX11_chalkBits_80 : decode cX11_chalkBits 80 = .ok (.iload_n 3, 1) := by decide +kernel
theorem dX11_chalkBits_81 : decode cX11_chalkBits 81 = .ok (.ireturn, 1) := by decide +kernel
theorem dX11_mostAlike_0 : decode cX11_mostAlike 0 = .ok (.aload_n 0, 1) := by decide +kernel
theorem dX11_mostAlike_1 : decode cX11_mostAlike 1 = .ok (.getfield 108, 3) := by decide +kernel
theorem dX11_mostAlike_4 : decode cX11_mostAlike 4 = .ok (.iconst 0, 1) := by decide +kernel
theorem dX11_mostAlike_5 : decode cX11_mostAlike 5 = .ok (.invokestatic 362, 3) := by decide +kernel
theorem dX11_mostAlike_8 : decode cX11_mostAlike 8 = .ok (.iconst 0, 1) := by decide +kernel
theorem dX11_mostAlike_9 : decode cX11_mostAlike 9 = .ok (.istore 4, 2) := by decide +kernel
theorem dX11_mostAlike_11 : decode cX11_mostAlike 11 = .ok (.iconst 0, 1) := by decide +kernel
theorem dX11_mostAlike_12 : decode cX11_mostAlike 12 = .ok (.istore 5, 2) := by decide +kernel
theorem dX11_mostAlike_14 : decode cX11_mostAlike 14 = .ok (.iload 5, 2) := by decide +kernel
theorem dX11_mostAlike_16 : decode cX11_mostAlike 16 = .ok (.bipush 9, 2) := by decide +kernel
theorem dX11_mostAlike_18 : decode cX11_mostAlike 18 = .ok (.if_icmp .gt 127, 3) := by decide +kernel
theorem dX11_mostAlike_21 : decode cX11_mostAlike 21 = .ok (.iload_n 1, 1) := by decide +kernel
theorem dX11_mostAlike_22 : decode cX11_mostAlike 22 = .ok (.iload 5, 2) := by decide +kernel
theorem dX11_mostAlike_24 : decode cX11_mostAlike 24 = .ok (.ishr, 1) := by decide +kernel
theorem dX11_mostAlike_25 : decode cX11_mostAlike 25 = .ok (.iconst 1, 1) := by decide +kernel
theorem dX11_mostAlike_26 : decode cX11_mostAlike 26 = .ok (.iand, 1) := by decide +kernel
theorem dX11_mostAlike_27 : decode cX11_mostAlike 27 = .ok (.iconst 1, 1) := by decide +kernel
theorem dX11_mostAlike_28 : decode cX11_mostAlike 28 = .ok (.if_icmp .ne 111, 3) := by decide +kernel
theorem dX11_mostAlike_31 : decode cX11_mostAlike 31 = .ok (.aload_n 0, 1) := by decide +kernel
theorem dX11_mostAlike_32 : decode cX11_mostAlike 32 = .ok (.getfield 72, 3) := by decide +kernel
theorem dX11_mostAlike_35 : decode cX11_mostAlike 35 = .ok (.aload_n 0, 1) := by decide +kernel
theorem dX11_mostAlike_36 : decode cX11_mostAlike 36 = .ok (.getfield 29, 3) := by decide +kernel
theorem dX11_mostAlike_39 : decode cX11_mostAlike 39 = .ok (.aload_n 0, 1) := by decide +kernel
theorem dX11_mostAlike_40 : decode cX11_mostAlike 40 = .ok (.getfield 36, 3) := by decide +kernel
theorem dX11_mostAlike_43 : decode cX11_mostAlike 43 = .ok (.getfield 149, 3) := by decide +kernel
theorem dX11_mostAlike_46 : decode cX11_mostAlike 46 = .ok (.iload_n 2, 1) := by decide +kernel
theorem dX11_mostAlike_47 : decode cX11_mostAlike 47 = .ok (.iload 5, 2) := by decide +kernel
theorem dX11_mostAlike_49 : decode cX11_mostAlike 49 = .ok (.invokestatic 267, 3) := by decide +kernel
theorem dX11_mostAlike_52 : decode cX11_mostAlike 52 = .ok (.invokevirtual 184, 3) := by decide +kernel
theorem dX11_mostAlike_55 : decode cX11_mostAlike 55 = .ok (.aload_n 0, 1) := by decide +kernel
theorem dX11_mostAlike_56 : decode cX11_mostAlike 56 = .ok (.getfield 72, 3) := by decide +kernel
theorem dX11_mostAlike_59 : decode cX11_mostAlike 59 = .ok (.iload_n 2, 1) := by decide +kernel
theorem dX11_mostAlike_60 : decode cX11_mostAlike 60 = .ok (.iload_n 3, 1) := by decide +kernel
theorem dX11_mostAlike_61 : decode cX11_mostAlike 61 = .ok (.aload_n 0, 1) := by decide +kernel
theorem dX11_mostAlike_62 : decode cX11_mostAlike 62 = .ok (.getfield 36, 3) := by decide +kernel
theorem dX11_mostAlike_65 : decode cX11_mostAlike 65 = .ok (.getfield 142, 3) := by decide +kernel
theorem dX11_mostAlike_68 : decode cX11_mostAlike 68 = .ok (.iload_n 2, 1) := by decide +kernel
theorem dX11_mostAlike_69 : decode cX11_mostAlike 69 = .ok (.invokestatic 145, 3) := by decide +kernel
theorem dX11_mostAlike_72 : decode cX11_mostAlike 72 = .ok (.aload_n 0, 1) := by decide +kernel
theorem dX11_mostAlike_73 : decode cX11_mostAlike 73 = .ok (.getfield 29, 3) := by decide +kernel
theorem dX11_mostAlike_76 : decode cX11_mostAlike 76 = .ok (.aload_n 0, 1) := by decide +kernel
theorem dX11_mostAlike_77 : decode cX11_mostAlike 77 = .ok (.getfield 36, 3) := by decide +kernel
theorem dX11_mostAlike_80 : decode cX11_mostAlike 80 = .ok (.getfield 142, 3) := by decide +kernel
theorem dX11_mostAlike_83 : decode cX11_mostAlike 83 = .ok (.invokevirtual 170, 3) := by decide +kernel
theorem dX11_mostAlike_86 : decode cX11_mostAlike 86 = .ok (.iconst 0, 1) := by decide +kernel
theorem dX11_mostAlike_87 : decode cX11_mostAlike 87 = .ok (.invokevirtual 174, 3) := by decide +kernel
theorem dX11_mostAlike_90 : decode cX11_mostAlike 90 = .ok (.istore 6, 2) := by decide +kernel
theorem dX11_mostAlike_92 : decode cX11_mostAlike 92 = .ok (.iload 6, 2) := by decide +kernel
theorem dX11_mostAlike_94 : decode cX11_mostAlike 94 = .ok (.bipush 9, 2) := by decide +kernel
theorem dX11_mostAlike_96 : decode cX11_mostAlike 96 = .ok (.iadd, 1) := by decide +kernel
theorem dX11_mostAlike_97 : decode cX11_mostAlike 97 = .ok (.istore 7, 2) := by decide +kernel
theorem dX11_mostAlike_99 : decode cX11_mostAlike 99 = .ok (.iload 7, 2) := by decide +kernel
theorem dX11_mostAlike_101 : decode cX11_mostAlike 101 = .ok (.ifCond .lt 38, 3) := by decide +kernel
theorem dX11_mostAlike_104 : decode cX11_mostAlike 104 = .ok (.iload 7, 2) := by decide +kernel
theorem dX11_mostAlike_106 : decode cX11_mostAlike 106 = .ok (.aload_n 0, 1) := by decide +kernel
theorem dX11_mostAlike_107 : decode cX11_mostAlike 107 = .ok (.getfield 108, 3) := by decide +kernel
theorem dX11_mostAlike_110 : decode cX11_mostAlike 110 = .ok (.arraylength, 1) := by decide +kernel
theorem dX11_mostAlike_111 : decode cX11_mostAlike 111 = .ok (.if_icmp .ge 28, 3) := by decide +kernel
theorem dX11_mostAlike_114 : decode cX11_mostAlike 114 = .ok (.aload_n 0, 1) := by decide +kernel
theorem dX11_mostAlike_115 : decode cX11_mostAlike 115 = .ok (.getfield 108, 3) := by decide +kernel
theorem dX11_mostAlike_118 : decode cX11_mostAlike 118 = .ok (.iload 7, 2) := by decide +kernel
theorem dX11_mostAlike_120 : decode cX11_mostAlike 120 = .ok (.dup2, 1) := by decide +kernel
theorem dX11_mostAlike_121 : decode cX11_mostAlike 121 = .ok (.iaload, 1) := by decide +kernel
theorem dX11_mostAlike_122 : decode cX11_mostAlike 122 = .ok (.iconst 1, 1) := by decide +kernel
theorem dX11_mostAlike_123 : decode cX11_mostAlike 123 = .ok (.iadd, 1) := by decide +kernel
theorem dX11_mostAlike_124 : decode cX11_mostAlike 124 = .ok (.iastore, 1) := by decide +kernel
theorem dX11_mostAlike_125 : decode cX11_mostAlike 125 = .ok (.iload 4, 2) := by decide +kernel
theorem dX11_mostAlike_127 : decode cX11_mostAlike 127 = .ok (.aload_n 0, 1) := by decide +kernel
theorem dX11_mostAlike_128 : decode cX11_mostAlike 128 = .ok (.getfield 108, 3) := by decide +kernel
theorem dX11_mostAlike_131 : decode cX11_mostAlike 131 = .ok (.iload 7, 2) := by decide +kernel
theorem dX11_mostAlike_133 : decode cX11_mostAlike 133 = .ok (.iaload, 1) := by decide +kernel
theorem dX11_mostAlike_134 : decode cX11_mostAlike 134 = .ok (.invokestatic 368, 3) := by decide +kernel
theorem dX11_mostAlike_137 : decode cX11_mostAlike 137 = .ok (.istore 4, 2) := by decide +kernel
theorem dX11_mostAlike_139 : decode cX11_mostAlike 139 = .ok (.iinc 5 1, 3) := by decide +kernel
theorem dX11_mostAlike_142 : decode cX11_mostAlike 142 = .ok (.goto (-128), 3) := by decide +kernel
theorem dX11_mostAlike_145 : decode cX11_mostAlike 145 = .ok (.iload 4, 2) := by decide +kernel
theorem dX11_mostAlike_147 : decode cX11_mostAlike 147 = .ok (.ireturn, 1) := by decide +kernel
theorem dX11_forces_0 : decode cX11_forces 0 = .ok (.aload_n 0, 1) := by decide +kernel
theorem dX11_forces_1 : decode cX11_forces 1 = .ok (.iload_n 1, 1) := by decide +kernel
theorem dX11_forces_2 : decode cX11_forces 2 = .ok (.invokevirtual 138, 3) := by decide +kernel
theorem dX11_forces_5 : decode cX11_forces 5 = .ok (.ifCond .ne 6, 3) := by decide +kernel
theorem dX11_forces_8 : decode cX11_forces 8 = .ok (.bipush (-2), 2) := by decide +kernel
theorem dX11_forces_10 : decode cX11_forces 10 = .ok (.ireturn, 1) := by decide +kernel
theorem dX11_forces_11 : decode cX11_forces 11 = .ok (.aload_n 0, 1) := by decide +kernel
theorem dX11_forces_12 : decode cX11_forces 12 = .ok (.getfield 36, 3) := by decide +kernel
theorem dX11_forces_15 : decode cX11_forces 15 = .ok (.getfield 142, 3) := by decide +kernel
theorem dX11_forces_18 : decode cX11_forces 18 = .ok (.iload_n 1, 1) := by decide +kernel
theorem dX11_forces_19 : decode cX11_forces 19 = .ok (.invokestatic 145, 3) := by decide +kernel
theorem dX11_forces_22 : decode cX11_forces 22 = .ok (.ifCond .ne 5, 3) := by decide +kernel
theorem dX11_forces_25 : decode cX11_forces 25 = .ok (.iconst 0, 1) := by decide +kernel
theorem dX11_forces_26 : decode cX11_forces 26 = .ok (.ireturn, 1) := by decide +kernel
theorem dX11_forces_27 : decode cX11_forces 27 = .ok (.aload_n 0, 1) := by decide +kernel
theorem dX11_forces_28 : decode cX11_forces 28 = .ok (.invokevirtual 292, 3) := by decide +kernel
theorem dX11_forces_31 : decode cX11_forces 31 = .ok (.aload_n 0, 1) := by decide +kernel
theorem dX11_forces_32 : decode cX11_forces 32 = .ok (.getfield 36, 3) := by decide +kernel
theorem dX11_forces_35 : decode cX11_forces 35 = .ok (.getfield 142, 3) := by decide +kernel
theorem dX11_forces_38 : decode cX11_forces 38 = .ok (.iload_n 1, 1) := by decide +kernel
theorem dX11_forces_39 : decode cX11_forces 39 = .ok (.invokevirtual 373, 3) := by decide +kernel
theorem dX11_forces_42 : decode cX11_forces 42 = .ok (.ireturn, 1) := by decide +kernel
theorem dX11_best_0 : decode cX11_best 0 = .ok (.aload_n 0, 1) := by decide +kernel
theorem dX11_best_1 : decode cX11_best 1 = .ok (.iload_n 1, 1) := by decide +kernel
theorem dX11_best_2 : decode cX11_best 2 = .ok (.invokevirtual 138, 3) := by decide +kernel
theorem dX11_best_5 : decode cX11_best 5 = .ok (.ifCond .ne 6, 3) := by decide +kernel
theorem dX11_best_8 : decode cX11_best 8 = .ok (.bipush (-2), 2) := by decide +kernel
theorem dX11_best_10 : decode cX11_best 10 = .ok (.ireturn, 1) := by decide +kernel
theorem dX11_best_11 : decode cX11_best 11 = .ok (.aload_n 0, 1) := by decide +kernel
theorem dX11_best_12 : decode cX11_best 12 = .ok (.getfield 36, 3) := by decide +kernel
theorem dX11_best_15 : decode cX11_best 15 = .ok (.getfield 142, 3) := by decide +kernel
theorem dX11_best_18 : decode cX11_best 18 = .ok (.iload_n 1, 1) := by decide +kernel
theorem dX11_best_19 : decode cX11_best 19 = .ok (.invokestatic 145, 3) := by decide +kernel
theorem dX11_best_22 : decode cX11_best 22 = .ok (.ifCond .ne 5, 3) := by decide +kernel
theorem dX11_best_25 : decode cX11_best 25 = .ok (.iconst (-1), 1) := by decide +kernel
theorem dX11_best_26 : decode cX11_best 26 = .ok (.ireturn, 1) := by decide +kernel
theorem dX11_best_27 : decode cX11_best 27 = .ok (.aload_n 0, 1) := by decide +kernel
theorem dX11_best_28 : decode cX11_best 28 = .ok (.invokevirtual 292, 3) := by decide +kernel
theorem dX11_best_31 : decode cX11_best 31 = .ok (.astore_n 2, 1) := by decide +kernel
theorem dX11_best_32 : decode cX11_best 32 = .ok (.aload_n 2, 1) := by decide +kernel
theorem dX11_best_33 : decode cX11_best 33 = .ok (.aload_n 0, 1) := by decide +kernel
theorem dX11_best_34 : decode cX11_best 34 = .ok (.getfield 36, 3) := by decide +kernel
theorem dX11_best_37 : decode cX11_best 37 = .ok (.getfield 142, 3) := by decide +kernel
theorem dX11_best_40 : decode cX11_best 40 = .ok (.iload_n 1, 1) := by decide +kernel
theorem dX11_best_41 : decode cX11_best 41 = .ok (.invokevirtual 373, 3) := by decide +kernel
theorem dX11_best_44 : decode cX11_best 44 = .ok (.istore_n 3, 1) := by decide +kernel
theorem dX11_best_45 : decode cX11_best 45 = .ok (.iload_n 3, 1) := by decide +kernel
theorem dX11_best_46 : decode cX11_best 46 = .ok (.iconst (-1), 1) := by decide +kernel
theorem dX11_best_47 : decode cX11_best 47 = .ok (.if_icmp .ne 7, 3) := by decide +kernel
theorem dX11_best_50 : decode cX11_best 50 = .ok (.iconst (-1), 1) := by decide +kernel
theorem dX11_best_51 : decode cX11_best 51 = .ok (.goto 18, 3) := by decide +kernel
theorem dX11_best_54 : decode cX11_best 54 = .ok (.aload_n 2, 1) := by decide +kernel
theorem dX11_best_55 : decode cX11_best 55 = .ok (.aload_n 0, 1) := by decide +kernel
theorem dX11_best_56 : decode cX11_best 56 = .ok (.getfield 36, 3) := by decide +kernel
theorem dX11_best_59 : decode cX11_best 59 = .ok (.getfield 142, 3) := by decide +kernel
theorem dX11_best_62 : decode cX11_best 62 = .ok (.iload_n 1, 1) := by decide +kernel
theorem dX11_best_63 : decode cX11_best 63 = .ok (.iload_n 3, 1) := by decide +kernel
theorem dX11_best_64 : decode cX11_best 64 = .ok (.iconst 1, 1) := by decide +kernel
theorem dX11_best_65 : decode cX11_best 65 = .ok (.isub, 1) := by decide +kernel
theorem dX11_best_66 : decode cX11_best 66 = .ok (.invokevirtual 376, 3) := by decide +kernel
theorem dX11_best_69 : decode cX11_best 69 = .ok (.ireturn, 1) := by decide +kernel
theorem dX11_chance_0 : decode cX11_chance 0 = .ok (.aload_n 0, 1) := by decide +kernel
theorem dX11_chance_1 : decode cX11_chance 1 = .ok (.iload_n 1, 1) := by decide +kernel
theorem dX11_chance_2 : decode cX11_chance 2 = .ok (.invokevirtual 138, 3) := by decide +kernel
theorem dX11_chance_5 : decode cX11_chance 5 = .ok (.ifCond .eq 10, 3) := by decide +kernel
theorem dX11_chance_8 : decode cX11_chance 8 = .ok (.iload_n 3, 1) := by decide +kernel
theorem dX11_chance_9 : decode cX11_chance 9 = .ok (.invokestatic 379, 3) := by decide +kernel
theorem dX11_chance_12 : decode cX11_chance 12 = .ok (.ifCond .ne 6, 3) := by decide +kernel
theorem dX11_chance_15 : decode cX11_chance 15 = .ok (.bipush (-2), 2) := by decide +kernel
theorem dX11_chance_17 : decode cX11_chance 17 = .ok (.ireturn, 1) := by decide +kernel
theorem dX11_chance_18 : decode cX11_chance 18 = .ok (.iload_n 2, 1) := by decide +kernel
theorem dX11_chance_19 : decode cX11_chance 19 = .ok (.ifCond .lt 9, 3) := by decide +kernel
theorem dX11_chance_22 : decode cX11_chance 22 = .ok (.iload_n 2, 1) := by decide +kernel
theorem dX11_chance_23 : decode cX11_chance 23 = .ok (.bipush 8, 2) := by decide +kernel
theorem dX11_chance_25 : decode cX11_chance 25 = .ok (.if_icmp .le 6, 3) := by decide +kernel
theorem dX11_chance_28 : decode cX11_chance 28 = .ok (.bipush (-3), 2) := by decide +kernel
theorem dX11_chance_30 : decode cX11_chance 30 = .ok (.ireturn, 1) := by decide +kernel
theorem dX11_chance_31 : decode cX11_chance 31 = .ok (.aload_n 0, 1) := by decide +kernel
theorem dX11_chance_32 : decode cX11_chance 32 = .ok (.iload_n 1, 1) := by decide +kernel
theorem dX11_chance_33 : decode cX11_chance 33 = .ok (.iload_n 2, 1) := by decide +kernel
theorem dX11_chance_34 : decode cX11_chance 34 = .ok (.invokevirtual 382, 3) := by decide +kernel
theorem dX11_chance_37 : decode cX11_chance 37 = .ok (.aload_n 0, 1) := by decide +kernel
theorem dX11_chance_38 : decode cX11_chance 38 = .ok (.getfield 88, 3) := by decide +kernel
theorem dX11_chance_41 : decode cX11_chance 41 = .ok (.getfield 385, 3) := by decide +kernel
theorem dX11_chance_44 : decode cX11_chance 44 = .ok (.aload_n 0, 1) := by decide +kernel
theorem dX11_chance_45 : decode cX11_chance 45 = .ok (.getfield 88, 3) := by decide +kernel
theorem dX11_chance_48 : decode cX11_chance 48 = .ok (.getfield 389, 3) := by decide +kernel
theorem dX11_chance_51 : decode cX11_chance 51 = .ok (.iload_n 3, 1) := by decide +kernel
theorem dX11_chance_52 : decode cX11_chance 52 = .ok (.invokestatic 392, 3) := by decide +kernel
theorem dX11_chance_55 : decode cX11_chance 55 = .ok (.ireturn, 1) := by decide +kernel
theorem dX11_mean_0 : decode cX11_mean 0 = .ok (.aload_n 0, 1) := by decide +kernel
theorem dX11_mean_1 : decode cX11_mean 1 = .ok (.iload_n 1, 1) := by decide +kernel
theorem dX11_mean_2 : decode cX11_mean 2 = .ok (.invokevirtual 138, 3) := by decide +kernel
theorem dX11_mean_5 : decode cX11_mean 5 = .ok (.ifCond .eq 10, 3) := by decide +kernel
theorem dX11_mean_8 : decode cX11_mean 8 = .ok (.iload_n 3, 1) := by decide +kernel
theorem dX11_mean_9 : decode cX11_mean 9 = .ok (.invokestatic 379, 3) := by decide +kernel
theorem dX11_mean_12 : decode cX11_mean 12 = .ok (.ifCond .ne 6, 3) := by decide +kernel
theorem dX11_mean_15 : decode cX11_mean 15 = .ok (.bipush (-2), 2) := by decide +kernel
theorem dX11_mean_17 : decode cX11_mean 17 = .ok (.ireturn, 1) := by decide +kernel
theorem dX11_mean_18 : decode cX11_mean 18 = .ok (.iload_n 2, 1) := by decide +kernel
theorem dX11_mean_19 : decode cX11_mean 19 = .ok (.ifCond .lt 9, 3) := by decide +kernel
theorem dX11_mean_22 : decode cX11_mean 22 = .ok (.iload_n 2, 1) := by decide +kernel
theorem dX11_mean_23 : decode cX11_mean 23 = .ok (.bipush 8, 2) := by decide +kernel
theorem dX11_mean_25 : decode cX11_mean 25 = .ok (.if_icmp .le 6, 3) := by decide +kernel
theorem dX11_mean_28 : decode cX11_mean 28 = .ok (.bipush (-3), 2) := by decide +kernel
theorem dX11_mean_30 : decode cX11_mean 30 = .ok (.ireturn, 1) := by decide +kernel
theorem dX11_mean_31 : decode cX11_mean 31 = .ok (.aload_n 0, 1) := by decide +kernel
theorem dX11_mean_32 : decode cX11_mean 32 = .ok (.iload_n 1, 1) := by decide +kernel
theorem dX11_mean_33 : decode cX11_mean 33 = .ok (.iload_n 2, 1) := by decide +kernel
theorem dX11_mean_34 : decode cX11_mean 34 = .ok (.invokevirtual 382, 3) := by decide +kernel
theorem dX11_mean_37 : decode cX11_mean 37 = .ok (.aload_n 0, 1) := by decide +kernel
theorem dX11_mean_38 : decode cX11_mean 38 = .ok (.getfield 88, 3) := by decide +kernel
theorem dX11_mean_41 : decode cX11_mean 41 = .ok (.getfield 396, 3) := by decide +kernel
theorem dX11_mean_44 : decode cX11_mean 44 = .ok (.aload_n 0, 1) := by decide +kernel
theorem dX11_mean_45 : decode cX11_mean 45 = .ok (.getfield 88, 3) := by decide +kernel
theorem dX11_mean_48 : decode cX11_mean 48 = .ok (.getfield 389, 3) := by decide +kernel
theorem dX11_mean_51 : decode cX11_mean 51 = .ok (.iload_n 3, 1) := by decide +kernel
theorem dX11_mean_52 : decode cX11_mean 52 = .ok (.invokestatic 392, 3) := by decide +kernel
theorem dX11_mean_55 : decode cX11_mean 55 = .ok (.ireturn, 1) := by decide +kernel
theorem dX11_fallen_0 : decode cX11_fallen 0 = .ok (.iload_n 2, 1) := by decide +kernel
theorem dX11_fallen_1 : decode cX11_fallen 1 = .ok (.invokestatic 379, 3) := by decide +kernel
theorem dX11_fallen_4 : decode cX11_fallen 4 = .ok (.ifCond .ne 6, 3) := by decide +kernel
theorem dX11_fallen_7 : decode cX11_fallen 7 = .ok (.bipush (-2), 2) := by decide +kernel
theorem dX11_fallen_9 : decode cX11_fallen 9 = .ok (.ireturn, 1) := by decide +kernel
theorem dX11_fallen_10 : decode cX11_fallen 10 = .ok (.iload_n 1, 1) := by decide +kernel
theorem dX11_fallen_11 : decode cX11_fallen 11 = .ok (.ifCond .lt 9, 3) := by decide +kernel
theorem dX11_fallen_14 : decode cX11_fallen 14 = .ok (.iload_n 1, 1) := by decide +kernel
theorem dX11_fallen_15 : decode cX11_fallen 15 = .ok (.bipush 8, 2) := by decide +kernel
theorem dX11_fallen_17 : decode cX11_fallen 17 = .ok (.if_icmp .le 6, 3) := by decide +kernel
theorem dX11_fallen_20 : decode cX11_fallen 20 = .ok (.bipush (-3), 2) := by decide +kernel
theorem dX11_fallen_22 : decode cX11_fallen 22 = .ok (.ireturn, 1) := by decide +kernel
theorem dX11_fallen_23 : decode cX11_fallen 23 = .ok (.aload_n 0, 1) := by decide +kernel
theorem dX11_fallen_24 : decode cX11_fallen 24 = .ok (.iconst 0, 1) := by decide +kernel
theorem dX11_fallen_25 : decode cX11_fallen 25 = .ok (.iload_n 1, 1) := by decide +kernel
theorem dX11_fallen_26 : decode cX11_fallen 26 = .ok (.invokevirtual 382, 3) := by decide +kernel
theorem dX11_fallen_29 : decode cX11_fallen 29 = .ok (.aload_n 0, 1) := by decide +kernel
theorem dX11_fallen_30 : decode cX11_fallen 30 = .ok (.getfield 88, 3) := by decide +kernel
theorem dX11_fallen_33 : decode cX11_fallen 33 = .ok (.getfield 399, 3) := by decide +kernel
theorem dX11_fallen_36 : decode cX11_fallen 36 = .ok (.aload_n 0, 1) := by decide +kernel
theorem dX11_fallen_37 : decode cX11_fallen 37 = .ok (.getfield 88, 3) := by decide +kernel
theorem dX11_fallen_40 : decode cX11_fallen 40 = .ok (.getfield 389, 3) := by decide +kernel
theorem dX11_fallen_43 : decode cX11_fallen 43 = .ok (.iload_n 2, 1) := by decide +kernel
theorem dX11_fallen_44 : decode cX11_fallen 44 = .ok (.invokestatic 392, 3) := by decide +kernel
theorem dX11_fallen_47 : decode cX11_fallen 47 = .ok (.ireturn, 1) := by decide +kernel
theorem dX11_isFractionPart_0 : decode cX11_isFractionPart 0 = .ok (.iload_n 0, 1) := by decide +kernel
theorem dX11_isFractionPart_1 : decode cX11_isFractionPart 1 = .ok (.ifCond .eq 8, 3) := by decide +kernel
theorem dX11_isFractionPart_4 : decode cX11_isFractionPart 4 = .ok (.iload_n 0, 1) := by decide +kernel
theorem dX11_isFractionPart_5 : decode cX11_isFractionPart 5 = .ok (.iconst 1, 1) := by decide +kernel
theorem dX11_isFractionPart_6 : decode cX11_isFractionPart 6 = .ok (.if_icmp .ne 7, 3) := by decide +kernel
theorem dX11_isFractionPart_9 : decode cX11_isFractionPart 9 = .ok (.iconst 1, 1) := by decide +kernel
theorem dX11_isFractionPart_10 : decode cX11_isFractionPart 10 = .ok (.goto 4, 3) := by decide +kernel
theorem dX11_isFractionPart_13 : decode cX11_isFractionPart 13 = .ok (.iconst 0, 1) := by decide +kernel
theorem dX11_isFractionPart_14 : decode cX11_isFractionPart 14 = .ok (.ireturn, 1) := by decide +kernel
theorem dX11_weighYears_0 : decode cX11_weighYears 0 = .ok (.aload_n 0, 1) := by decide +kernel
theorem dX11_weighYears_1 : decode cX11_weighYears 1 = .ok (.invokevirtual 166, 3) := by decide +kernel
theorem dX11_weighYears_4 : decode cX11_weighYears 4 = .ok (.pop, 1) := by decide +kernel
theorem dX11_weighYears_5 : decode cX11_weighYears 5 = .ok (.aload_n 0, 1) := by decide +kernel
theorem dX11_weighYears_6 : decode cX11_weighYears 6 = .ok (.getfield 88, 3) := by decide +kernel
theorem dX11_weighYears_9 : decode cX11_weighYears 9 = .ok (.iload_n 1, 1) := by decide +kernel
theorem dX11_weighYears_10 : decode cX11_weighYears 10 = .ok (.iload_n 2, 1) := by decide +kernel
theorem dX11_weighYears_11 : decode cX11_weighYears 11 = .ok (.aload_n 0, 1) := by decide +kernel
theorem dX11_weighYears_12 : decode cX11_weighYears 12 = .ok (.getfield 36, 3) := by decide +kernel
theorem dX11_weighYears_15 : decode cX11_weighYears 15 = .ok (.getfield 142, 3) := by decide +kernel
theorem dX11_weighYears_18 : decode cX11_weighYears 18 = .ok (.aload_n 0, 1) := by decide +kernel
theorem dX11_weighYears_19 : decode cX11_weighYears 19 = .ok (.getfield 36, 3) := by decide +kernel
theorem dX11_weighYears_22 : decode cX11_weighYears 22 = .ok (.getfield 152, 3) := by decide +kernel
theorem dX11_weighYears_25 : decode cX11_weighYears 25 = .ok (.invokevirtual 402, 3) := by decide +kernel
theorem dX11_weighYears_28 : decode cX11_weighYears 28 = .ok (.return_, 1) := by decide +kernel
theorem dX11_fractionPart_0 : decode cX11_fractionPart 0 = .ok (.lload_n 2, 1) := by decide +kernel
theorem dX11_fractionPart_1 : decode cX11_fractionPart 1 = .ok (.lstore 5, 2) := by decide +kernel
theorem dX11_fractionPart_3 : decode cX11_fractionPart 3 = .ok (.lload_n 0, 1) := by decide +kernel
theorem dX11_fractionPart_4 : decode cX11_fractionPart 4 = .ok (.lstore 7, 2) := by decide +kernel
theorem dX11_fractionPart_6 : decode cX11_fractionPart 6 = .ok (.iconst 0, 1) := by decide +kernel
theorem dX11_fractionPart_7 : decode cX11_fractionPart 7 = .ok (.istore 9, 2) := by decide +kernel
theorem dX11_fractionPart_9 : decode cX11_fractionPart 9 = .ok (.iload 9, 2) := by decide +kernel
theorem dX11_fractionPart_11 : decode cX11_fractionPart 11 = .ok (.bipush 100, 2) := by decide +kernel
theorem dX11_fractionPart_13 : decode cX11_fractionPart 13 = .ok (.if_icmp .ge 31, 3) := by decide +kernel
theorem dX11_fractionPart_16 : decode cX11_fractionPart 16 = .ok (.lload 7, 2) := by decide +kernel
theorem dX11_fractionPart_18 : decode cX11_fractionPart 18 = .ok (.lconst 0, 1) := by decide +kernel
theorem dX11_fractionPart_19 : decode cX11_fractionPart 19 = .ok (.lcmp, 1) := by decide +kernel
theorem dX11_fractionPart_20 : decode cX11_fractionPart 20 = .ok (.ifCond .eq 24, 3) := by decide +kernel
theorem dX11_fractionPart_23 : decode cX11_fractionPart 23 = .ok (.lload 5, 2) := by decide +kernel
theorem dX11_fractionPart_25 : decode cX11_fractionPart 25 = .ok (.lload 7, 2) := by decide +kernel
theorem dX11_fractionPart_27 : decode cX11_fractionPart 27 = .ok (.lrem, 1) := by decide +kernel
theorem dX11_fractionPart_28 : decode cX11_fractionPart 28 = .ok (.lstore 10, 2) := by decide +kernel
theorem dX11_fractionPart_30 : decode cX11_fractionPart 30 = .ok (.lload 7, 2) := by decide +kernel
theorem dX11_fractionPart_32 : decode cX11_fractionPart 32 = .ok (.lstore 5, 2) := by decide +kernel
theorem dX11_fractionPart_34 : decode cX11_fractionPart 34 = .ok (.lload 10, 2) := by decide +kernel
theorem dX11_fractionPart_36 : decode cX11_fractionPart 36 = .ok (.lstore 7, 2) := by decide +kernel
theorem dX11_fractionPart_38 : decode cX11_fractionPart 38 = .ok (.iinc 9 1, 3) := by decide +kernel
theorem dX11_fractionPart_41 : decode cX11_fractionPart 41 = .ok (.goto (-32), 3) := by decide +kernel
theorem dX11_fractionPart_44 : decode cX11_fractionPart 44 = .ok (.lload 5, 2) := by decide +kernel
theorem dX11_fractionPart_46 : decode cX11_fractionPart 46 = .ok (.lconst 0, 1) := by decide +kernel
theorem dX11_fractionPart_47 : decode cX11_fractionPart 47 = .ok (.lcmp, 1) := by decide +kernel
theorem dX11_fractionPart_48 : decode cX11_fractionPart 48 = .ok (.ifCond .ne 5, 3) := by decide +kernel
theorem dX11_fractionPart_51 : decode cX11_fractionPart 51 = .ok (.iconst 0, 1) := by decide +kernel
theorem dX11_fractionPart_52 : decode cX11_fractionPart 52 = .ok (.ireturn, 1) := by decide +kernel
theorem dX11_fractionPart_53 : decode cX11_fractionPart 53 = .ok (.iload 4, 2) := by decide +kernel
theorem dX11_fractionPart_55 : decode cX11_fractionPart 55 = .ok (.ifCond .ne 7, 3) := by decide +kernel
theorem dX11_fractionPart_58 : decode cX11_fractionPart 58 = .ok (.lload_n 0, 1) := by decide +kernel
theorem dX11_fractionPart_59 : decode cX11_fractionPart 59 = .ok (.goto 4, 3) := by decide +kernel
theorem dX11_fractionPart_62 : decode cX11_fractionPart 62 = .ok (.lload_n 2, 1) := by decide +kernel
theorem dX11_fractionPart_63 : decode cX11_fractionPart 63 = .ok (.lload 5, 2) := by decide +kernel
theorem dX11_fractionPart_65 : decode cX11_fractionPart 65 = .ok (.ldiv, 1) := by decide +kernel
theorem dX11_fractionPart_66 : decode cX11_fractionPart 66 = .ok (.l2i, 1) := by decide +kernel
theorem dX11_fractionPart_67 : decode cX11_fractionPart 67 = .ok (.ireturn, 1) := by decide +kernel
theorem dX11_numbers_0 : decode cX11_numbers 0 = .ok (.iload_n 1, 1) := by decide +kernel
theorem dX11_numbers_1 : decode cX11_numbers 1 = .ok (.invokestatic 215, 3) := by decide +kernel
theorem dX11_numbers_4 : decode cX11_numbers 4 = .ok (.ifCond .eq 12, 3) := by decide +kernel
theorem dX11_numbers_7 : decode cX11_numbers 7 = .ok (.iload_n 2, 1) := by decide +kernel
theorem dX11_numbers_8 : decode cX11_numbers 8 = .ok (.ifCond .lt 8, 3) := by decide +kernel
theorem dX11_numbers_11 : decode cX11_numbers 11 = .ok (.iload_n 2, 1) := by decide +kernel
theorem dX11_numbers_12 : decode cX11_numbers 12 = .ok (.iconst 4, 1) := by decide +kernel
theorem dX11_numbers_13 : decode cX11_numbers 13 = .ok (.if_icmp .lt 6, 3) := by decide +kernel
theorem dX11_numbers_16 : decode cX11_numbers 16 = .ok (.bipush (-2), 2) := by decide +kernel
theorem dX11_numbers_18 : decode cX11_numbers 18 = .ok (.ireturn, 1) := by decide +kernel
theorem dX11_numbers_19 : decode cX11_numbers 19 = .ok (.iload_n 3, 1) := by decide +kernel
theorem dX11_numbers_20 : decode cX11_numbers 20 = .ok (.ifCond .lt 9, 3) := by decide +kernel
theorem dX11_numbers_23 : decode cX11_numbers 23 = .ok (.iload_n 3, 1) := by decide +kernel
theorem dX11_numbers_24 : decode cX11_numbers 24 = .ok (.bipush 40, 2) := by decide +kernel
theorem dX11_numbers_26 : decode cX11_numbers 26 = .ok (.if_icmp .le 6, 3) := by decide +kernel
theorem dX11_numbers_29 : decode cX11_numbers 29 = .ok (.bipush (-3), 2) := by decide +kernel
theorem dX11_numbers_31 : decode cX11_numbers 31 = .ok (.ireturn, 1) := by decide +kernel
theorem dX11_numbers_32 : decode cX11_numbers 32 = .ok (.aload_n 0, 1) := by decide +kernel
theorem dX11_numbers_33 : decode cX11_numbers 33 = .ok (.getfield 55, 3) := by decide +kernel
theorem dX11_numbers_36 : decode cX11_numbers 36 = .ok (.iload_n 1, 1) := by decide +kernel
theorem dX11_numbers_37 : decode cX11_numbers 37 = .ok (.aaload, 1) := by decide +kernel
theorem dX11_numbers_38 : decode cX11_numbers 38 = .ok (.iload_n 2, 1) := by decide +kernel
theorem dX11_numbers_39 : decode cX11_numbers 39 = .ok (.iload_n 3, 1) := by decide +kernel
theorem dX11_numbers_40 : decode cX11_numbers 40 = .ok (.invokevirtual 406, 3) := by decide +kernel
theorem dX11_numbers_43 : decode cX11_numbers 43 = .ok (.iconst 0, 1) := by decide +kernel
theorem dX11_numbers_44 : decode cX11_numbers 44 = .ok (.ireturn, 1) := by decide +kernel
theorem dX11_write_0 : decode cX11_write 0 = .ok (.iload_n 1, 1) := by decide +kernel
theorem dX11_write_1 : decode cX11_write 1 = .ok (.invokestatic 215, 3) := by decide +kernel
theorem dX11_write_4 : decode cX11_write 4 = .ok (.ifCond .ne 7, 3) := by decide +kernel
theorem dX11_write_7 : decode cX11_write 7 = .ok (.ldc2_w 409, 3) := by decide +kernel
theorem dX11_write_10 : decode cX11_write 10 = .ok (.lreturn, 1) := by decide +kernel
theorem dX11_write_11 : decode cX11_write 11 = .ok (.aload_n 0, 1) := by decide +kernel
theorem dX11_write_12 : decode cX11_write 12 = .ok (.getfield 55, 3) := by decide +kernel
theorem dX11_write_15 : decode cX11_write 15 = .ok (.iload_n 1, 1) := by decide +kernel
theorem dX11_write_16 : decode cX11_write 16 = .ok (.aaload, 1) := by decide +kernel
theorem dX11_write_17 : decode cX11_write 17 = .ok (.astore 5, 2) := by decide +kernel
theorem dX11_write_19 : decode cX11_write 19 = .ok (.aload 5, 2) := by decide +kernel
theorem dX11_write_21 : decode cX11_write 21 = .ok (.getfield 218, 3) := by decide +kernel
theorem dX11_write_24 : decode cX11_write 24 = .ok (.ifCond .eq 7, 3) := by decide +kernel
theorem dX11_write_27 : decode cX11_write 27 = .ok (.ldc2_w 411, 3) := by decide +kernel
theorem dX11_write_30 : decode cX11_write 30 = .ok (.lreturn, 1) := by decide +kernel
theorem dX11_write_31 : decode cX11_write 31 = .ok (.iload_n 2, 1) := by decide +kernel
theorem dX11_write_32 : decode cX11_write 32 = .ok (.ifCond .lt 12, 3) := by decide +kernel
theorem dX11_write_35 : decode cX11_write 35 = .ok (.iload_n 2, 1) := by decide +kernel
theorem dX11_write_36 : decode cX11_write 36 = .ok (.aload 5, 2) := by decide +kernel
theorem dX11_write_38 : decode cX11_write 38 = .ok (.getfield 222, 3) := by decide +kernel
theorem dX11_write_41 : decode cX11_write 41 = .ok (.if_icmp .lt 7, 3) := by decide +kernel
theorem dX11_write_44 : decode cX11_write 44 = .ok (.ldc2_w 413, 3) := by decide +kernel
theorem dX11_write_47 : decode cX11_write 47 = .ok (.lreturn, 1) := by decide +kernel
theorem dX11_write_48 : decode cX11_write 48 = .ok (.aload 5, 2) := by decide +kernel
theorem dX11_write_50 : decode cX11_write 50 = .ok (.iload_n 2, 1) := by decide +kernel
theorem dX11_write_51 : decode cX11_write 51 = .ok (.lload_n 3, 1) := by decide +kernel
theorem dX11_write_52 : decode cX11_write 52 = .ok (.invokevirtual 415, 3) := by decide +kernel
theorem dX11_write_55 : decode cX11_write 55 = .ok (.aload 5, 2) := by decide +kernel
theorem dX11_write_57 : decode cX11_write 57 = .ok (.iload_n 2, 1) := by decide +kernel
theorem dX11_write_58 : decode cX11_write 58 = .ok (.invokevirtual 223, 3) := by decide +kernel
theorem dX11_write_61 : decode cX11_write 61 = .ok (.lreturn, 1) := by decide +kernel
theorem dX11_lists_0 : decode cX11_lists 0 = .ok (.iload_n 1, 1) := by decide +kernel
theorem dX11_lists_1 : decode cX11_lists 1 = .ok (.invokestatic 215, 3) := by decide +kernel
theorem dX11_lists_4 : decode cX11_lists 4 = .ok (.ifCond .eq 11, 3) := by decide +kernel
theorem dX11_lists_7 : decode cX11_lists 7 = .ok (.aload_n 0, 1) := by decide +kernel
theorem dX11_lists_8 : decode cX11_lists 8 = .ok (.iload_n 2, 1) := by decide +kernel
theorem dX11_lists_9 : decode cX11_lists 9 = .ok (.invokevirtual 138, 3) := by decide +kernel
theorem dX11_lists_12 : decode cX11_lists 12 = .ok (.ifCond .ne 6, 3) := by decide +kernel
theorem dX11_lists_15 : decode cX11_lists 15 = .ok (.bipush (-2), 2) := by decide +kernel
theorem dX11_lists_17 : decode cX11_lists 17 = .ok (.ireturn, 1) := by decide +kernel
theorem dX11_lists_18 : decode cX11_lists 18 = .ok (.aload_n 0, 1) := by decide +kernel
theorem dX11_lists_19 : decode cX11_lists 19 = .ok (.getfield 55, 3) := by decide +kernel
theorem dX11_lists_22 : decode cX11_lists 22 = .ok (.iload_n 1, 1) := by decide +kernel
theorem dX11_lists_23 : decode cX11_lists 23 = .ok (.aaload, 1) := by decide +kernel
theorem dX11_lists_24 : decode cX11_lists 24 = .ok (.astore_n 3, 1) := by decide +kernel
theorem dX11_lists_25 : decode cX11_lists 25 = .ok (.aload_n 3, 1) := by decide +kernel
theorem dX11_lists_26 : decode cX11_lists 26 = .ok (.getfield 218, 3) := by decide +kernel
theorem dX11_lists_29 : decode cX11_lists 29 = .ok (.ifCond .eq 6, 3) := by decide +kernel
theorem dX11_lists_32 : decode cX11_lists 32 = .ok (.bipush (-6), 2) := by decide +kernel
theorem dX11_lists_34 : decode cX11_lists 34 = .ok (.ireturn, 1) := by decide +kernel
theorem dX11_lists_35 : decode cX11_lists 35 = .ok (.aload_n 0, 1) := by decide +kernel
theorem dX11_lists_36 : decode cX11_lists 36 = .ok (.invokevirtual 166, 3) := by decide +kernel
theorem dX11_lists_39 : decode cX11_lists 39 = .ok (.pop, 1) := by decide +kernel
theorem dX11_lists_40 : decode cX11_lists 40 = .ok (.aload_n 0, 1) := by decide +kernel
theorem dX11_lists_41 : decode cX11_lists 41 = .ok (.getfield 36, 3) := by decide +kernel
theorem dX11_lists_44 : decode cX11_lists 44 = .ok (.getfield 142, 3) := by decide +kernel
theorem dX11_lists_47 : decode cX11_lists 47 = .ok (.istore 4, 2) := by decide +kernel
theorem dX11_lists_49 : decode cX11_lists 49 = .ok (.iconst 0, 1) := by decide +kernel
theorem dX11_lists_50 : decode cX11_lists 50 = .ok (.istore 5, 2) := by decide +kernel
theorem dX11_lists_52 : decode cX11_lists 52 = .ok (.iload 5, 2) := by decide +kernel
theorem dX11_lists_54 : decode cX11_lists 54 = .ok (.aload_n 3, 1) := by decide +kernel
theorem dX11_lists_55 : decode cX11_lists 55 = .ok (.getfield 222, 3) := by decide +kernel
theorem dX11_lists_58 : decode cX11_lists 58 = .ok (.if_icmp .ge 41, 3) := by decide +kernel
theorem dX11_lists_61 : decode cX11_lists 61 = .ok (.aload_n 0, 1) := by decide +kernel
theorem dX11_lists_62 : decode cX11_lists 62 = .ok (.getfield 72, 3) := by decide +kernel
theorem dX11_lists_65 : decode cX11_lists 65 = .ok (.iload 4, 2) := by decide +kernel
theorem dX11_lists_67 : decode cX11_lists 67 = .ok (.aload_n 0, 1) := by decide +kernel
theorem dX11_lists_68 : decode cX11_lists 68 = .ok (.getfield 36, 3) := by decide +kernel
theorem dX11_lists_71 : decode cX11_lists 71 = .ok (.getfield 152, 3) := by decide +kernel
theorem dX11_lists_74 : decode cX11_lists 74 = .ok (.iconst 0, 1) := by decide +kernel
theorem dX11_lists_75 : decode cX11_lists 75 = .ok (.invokevirtual 257, 3) := by decide +kernel
theorem dX11_lists_78 : decode cX11_lists 78 = .ok (.istore 4, 2) := by decide +kernel
theorem dX11_lists_80 : decode cX11_lists 80 = .ok (.aload_n 3, 1) := by decide +kernel
theorem dX11_lists_81 : decode cX11_lists 81 = .ok (.iload 5, 2) := by decide +kernel
theorem dX11_lists_83 : decode cX11_lists 83 = .ok (.iload 4, 2) := by decide +kernel
theorem dX11_lists_85 : decode cX11_lists 85 = .ok (.iload_n 2, 1) := by decide +kernel
theorem dX11_lists_86 : decode cX11_lists 86 = .ok (.invokestatic 145, 3) := by decide +kernel
theorem dX11_lists_89 : decode cX11_lists 89 = .ok (.i2l, 1) := by decide +kernel
theorem dX11_lists_90 : decode cX11_lists 90 = .ok (.invokevirtual 415, 3) := by decide +kernel
theorem dX11_lists_93 : decode cX11_lists 93 = .ok (.iinc 5 1, 3) := by decide +kernel
theorem dX11_lists_96 : decode cX11_lists 96 = .ok (.goto (-44), 3) := by decide +kernel
theorem dX11_lists_99 : decode cX11_lists 99 = .ok (.aload_n 3, 1) := by decide +kernel
theorem dX11_lists_100 : decode cX11_lists 100 = .ok (.getfield 222, 3) := by decide +kernel
theorem dX11_lists_103 : decode cX11_lists 103 = .ok (.ireturn, 1) := by decide +kernel
theorem dX11_image_0 : decode cX11_image 0 = .ok (.iload_n 1, 1) := by decide +kernel
theorem dX11_image_1 : decode cX11_image 1 = .ok (.ifCond .lt 8, 3) := by decide +kernel
theorem dX11_image_4 : decode cX11_image 4 = .ok (.iload_n 1, 1) := by decide +kernel
theorem dX11_image_5 : decode cX11_image 5 = .ok (.iconst 2, 1) := by decide +kernel
theorem dX11_image_6 : decode cX11_image 6 = .ok (.if_icmp .lt 6, 3) := by decide +kernel
theorem dX11_image_9 : decode cX11_image 9 = .ok (.bipush (-2), 2) := by decide +kernel
theorem dX11_image_11 : decode cX11_image 11 = .ok (.ireturn, 1) := by decide +kernel
theorem dX11_image_12 : decode cX11_image 12 = .ok (.aload_n 0, 1) := by decide +kernel
theorem dX11_image_13 : decode cX11_image 13 = .ok (.getfield 59, 3) := by decide +kernel
theorem dX11_image_16 : decode cX11_image 16 = .ok (.iload_n 1, 1) := by decide +kernel
theorem dX11_image_17 : decode cX11_image 17 = .ok (.aload_n 0, 1) := by decide +kernel
theorem dX11_image_18 : decode cX11_image 18 = .ok (.getfield 29, 3) := by decide +kernel
theorem dX11_image_21 : decode cX11_image 21 = .ok (.aastore, 1) := by decide +kernel
theorem dX11_image_22 : decode cX11_image 22 = .ok (.aload_n 0, 1) := by decide +kernel
theorem dX11_image_23 : decode cX11_image 23 = .ok (.getfield 63, 3) := by decide +kernel
theorem dX11_image_26 : decode cX11_image 26 = .ok (.iload_n 1, 1) := by decide +kernel
theorem dX11_image_27 : decode cX11_image 27 = .ok (.aaload, 1) := by decide +kernel
theorem dX11_image_28 : decode cX11_image 28 = .ok (.aload_n 0, 1) := by decide +kernel
theorem dX11_image_29 : decode cX11_image 29 = .ok (.getfield 36, 3) := by decide +kernel
theorem dX11_image_32 : decode cX11_image 32 = .ok (.invokevirtual 188, 3) := by decide +kernel
theorem dX11_image_35 : decode cX11_image 35 = .ok (.iconst 0, 1) := by decide +kernel
theorem dX11_image_36 : decode cX11_image 36 = .ok (.ireturn, 1) := by decide +kernel
theorem dX11_restore_0 : decode cX11_restore 0 = .ok (.iload_n 1, 1) := by decide +kernel
theorem dX11_restore_1 : decode cX11_restore 1 = .ok (.ifCond .lt 8, 3) := by decide +kernel
theorem dX11_restore_4 : decode cX11_restore 4 = .ok (.iload_n 1, 1) := by decide +kernel
theorem dX11_restore_5 : decode cX11_restore 5 = .ok (.iconst 2, 1) := by decide +kernel
theorem dX11_restore_6 : decode cX11_restore 6 = .ok (.if_icmp .lt 6, 3) := by decide +kernel
theorem dX11_restore_9 : decode cX11_restore 9 = .ok (.bipush (-2), 2) := by decide +kernel
theorem dX11_restore_11 : decode cX11_restore 11 = .ok (.ireturn, 1) := by decide +kernel
theorem dX11_restore_12 : decode cX11_restore 12 = .ok (.aload_n 0, 1) := by decide +kernel
theorem dX11_restore_13 : decode cX11_restore 13 = .ok (.getfield 59, 3) := by decide +kernel
theorem dX11_restore_16 : decode cX11_restore 16 = .ok (.iload_n 1, 1) := by decide +kernel
theorem dX11_restore_17 : decode cX11_restore 17 = .ok (.aaload, 1) := by decide +kernel
theorem dX11_restore_18 : decode cX11_restore 18 = .ok (.astore_n 2, 1) := by decide +kernel
theorem dX11_restore_19 : decode cX11_restore 19 = .ok (.aload_n 2, 1) := by decide +kernel
theorem dX11_restore_20 : decode cX11_restore 20 = .ok (.ifnonnull 6, 3) := by decide +kernel
theorem dX11_restore_23 : decode cX11_restore 23 = .ok (.bipush (-5), 2) := by decide +kernel
theorem dX11_restore_25 : decode cX11_restore 25 = .ok (.ireturn, 1) := by decide +kernel
theorem dX11_restore_26 : decode cX11_restore 26 = .ok (.aload_n 0, 1) := by decide +kernel
theorem dX11_restore_27 : decode cX11_restore 27 = .ok (.aload_n 2, 1) := by decide +kernel
theorem dX11_restore_28 : decode cX11_restore 28 = .ok (.putfield 29, 3) := by decide +kernel
theorem dX11_restore_31 : decode cX11_restore 31 = .ok (.aload_n 0, 1) := by decide +kernel
theorem dX11_restore_32 : decode cX11_restore 32 = .ok (.getfield 36, 3) := by decide +kernel
theorem dX11_restore_35 : decode cX11_restore 35 = .ok (.aload_n 0, 1) := by decide +kernel
theorem dX11_restore_36 : decode cX11_restore 36 = .ok (.getfield 63, 3) := by decide +kernel
theorem dX11_restore_39 : decode cX11_restore 39 = .ok (.iload_n 1, 1) := by decide +kernel
theorem dX11_restore_40 : decode cX11_restore 40 = .ok (.aaload, 1) := by decide +kernel
theorem dX11_restore_41 : decode cX11_restore 41 = .ok (.invokevirtual 188, 3) := by decide +kernel
theorem dX11_restore_44 : decode cX11_restore 44 = .ok (.aload_n 0, 1) := by decide +kernel
theorem dX11_restore_45 : decode cX11_restore 45 = .ok (.getfield 49, 3) := by decide +kernel
theorem dX11_restore_48 : decode cX11_restore 48 = .ok (.invokevirtual 129, 3) := by decide +kernel
theorem dX11_restore_51 : decode cX11_restore 51 = .ok (.iconst 0, 1) := by decide +kernel
theorem dX11_restore_52 : decode cX11_restore 52 = .ok (.ireturn, 1) := by decide +kernel
theorem dX11_count_0 : decode cX11_count 0 = .ok (.iload_n 1, 1) := by decide +kernel
theorem dX11_count_1 : decode cX11_count 1 = .ok (.tableswitch 157 0 9 #[55, 63, 71, 86, 101, 109, 128, 136, 144, 149], 55) := by decide +kernel
theorem dX11_count_56 : decode cX11_count 56 = .ok (.aload_n 0, 1) := by decide +kernel
theorem dX11_count_57 : decode cX11_count 57 = .ok (.getfield 29, 3) := by decide +kernel
theorem dX11_count_60 : decode cX11_count 60 = .ok (.getfield 181, 3) := by decide +kernel
theorem dX11_count_63 : decode cX11_count 63 = .ok (.ireturn, 1) := by decide +kernel
theorem dX11_count_64 : decode cX11_count 64 = .ok (.aload_n 0, 1) := by decide +kernel
theorem dX11_count_65 : decode cX11_count 65 = .ok (.getfield 29, 3) := by decide +kernel
theorem dX11_count_68 : decode cX11_count 68 = .ok (.getfield 419, 3) := by decide +kernel
theorem dX11_count_71 : decode cX11_count 71 = .ok (.ireturn, 1) := by decide +kernel
theorem dX11_count_72 : decode cX11_count 72 = .ok (.aload_n 0, 1) := by decide +kernel
theorem dX11_count_73 : decode cX11_count 73 = .ok (.getfield 29, 3) := by decide +kernel
theorem dX11_count_76 : decode cX11_count 76 = .ok (.aload_n 0, 1) := by decide +kernel
theorem dX11_count_77 : decode cX11_count 77 = .ok (.getfield 36, 3) := by decide +kernel
theorem dX11_count_80 : decode cX11_count 80 = .ok (.getfield 142, 3) := by decide +kernel
theorem dX11_count_83 : decode cX11_count 83 = .ok (.invokevirtual 231, 3) := by decide +kernel
theorem dX11_count_86 : decode cX11_count 86 = .ok (.ireturn, 1) := by decide +kernel
theorem dX11_count_87 : decode cX11_count 87 = .ok (.aload_n 0, 1) := by decide +kernel
theorem dX11_count_88 : decode cX11_count 88 = .ok (.getfield 29, 3) := by decide +kernel
theorem dX11_count_91 : decode cX11_count 91 = .ok (.aload_n 0, 1) := by decide +kernel
theorem dX11_count_92 : decode cX11_count 92 = .ok (.getfield 36, 3) := by decide +kernel
theorem dX11_count_95 : decode cX11_count 95 = .ok (.getfield 142, 3) := by decide +kernel
theorem dX11_count_98 : decode cX11_count 98 = .ok (.invokevirtual 234, 3) := by decide +kernel
theorem dX11_count_101 : decode cX11_count 101 = .ok (.ireturn, 1) := by decide +kernel
theorem dX11_count_102 : decode cX11_count 102 = .ok (.aload_n 0, 1) := by decide +kernel
theorem dX11_count_103 : decode cX11_count 103 = .ok (.getfield 36, 3) := by decide +kernel
theorem dX11_count_106 : decode cX11_count 106 = .ok (.getfield 152, 3) := by decide +kernel
theorem dX11_count_109 : decode cX11_count 109 = .ok (.ireturn, 1) := by decide +kernel
theorem dX11_count_110 : decode cX11_count 110 = .ok (.aload_n 0, 1) := by decide +kernel
theorem dX11_count_111 : decode cX11_count 111 = .ok (.getfield 36, 3) := by decide +kernel
theorem dX11_count_114 : decode cX11_count 114 = .ok (.getfield 142, 3) := by decide +kernel
theorem dX11_count_117 : decode cX11_count 117 = .ok (.sipush 10000, 3) := by decide +kernel
theorem dX11_count_120 : decode cX11_count 120 = .ok (.if_icmp .lt 7, 3) := by decide +kernel
theorem dX11_count_123 : decode cX11_count 123 = .ok (.iconst 1, 1) := by decide +kernel
theorem dX11_count_124 : decode cX11_count 124 = .ok (.goto 4, 3) := by decide +kernel
theorem dX11_count_127 : decode cX11_count 127 = .ok (.iconst 0, 1) := by decide +kernel
theorem dX11_count_128 : decode cX11_count 128 = .ok (.ireturn, 1) := by decide +kernel
theorem dX11_count_129 : decode cX11_count 129 = .ok (.aload_n 0, 1) := by decide +kernel
theorem dX11_count_130 : decode cX11_count 130 = .ok (.getfield 36, 3) := by decide +kernel
theorem dX11_count_133 : decode cX11_count 133 = .ok (.getfield 261, 3) := by decide +kernel
theorem dX11_count_136 : decode cX11_count 136 = .ok (.ireturn, 1) := by decide +kernel
theorem dX11_count_137 : decode cX11_count 137 = .ok (.aload_n 0, 1) := by decide +kernel
theorem dX11_count_138 : decode cX11_count 138 = .ok (.getfield 49, 3) := by decide +kernel
theorem dX11_count_141 : decode cX11_count 141 = .ok (.getfield 209, 3) := by decide +kernel
theorem dX11_count_144 : decode cX11_count 144 = .ok (.ireturn, 1) := by decide +kernel
theorem dX11_count_145 : decode cX11_count 145 = .ok (.aload_n 0, 1) := by decide +kernel
theorem dX11_count_146 : decode cX11_count 146 = .ok (.getfield 13, 3) := by decide +kernel
theorem dX11_count_149 : decode cX11_count 149 = .ok (.ireturn, 1) := by decide +kernel
theorem dX11_count_150 : decode cX11_count 150 = .ok (.aload_n 0, 1) := by decide +kernel
theorem dX11_count_151 : decode cX11_count 151 = .ok (.getfield 29, 3) := by decide +kernel
theorem dX11_count_154 : decode cX11_count 154 = .ok (.getfield 132, 3) := by decide +kernel
theorem dX11_count_157 : decode cX11_count 157 = .ok (.ireturn, 1) := by decide +kernel
theorem dX11_count_158 : decode cX11_count 158 = .ok (.iconst (-1), 1) := by decide +kernel
theorem dX11_count_159 : decode cX11_count 159 = .ok (.ireturn, 1) := by decide +kernel
theorem dX11_isTray_0 : decode cX11_isTray 0 = .ok (.iload_n 0, 1) := by decide +kernel
theorem dX11_isTray_1 : decode cX11_isTray 1 = .ok (.ifCond .lt 12, 3) := by decide +kernel
theorem dX11_isTray_4 : decode cX11_isTray 4 = .ok (.iload_n 0, 1) := by decide +kernel
theorem dX11_isTray_5 : decode cX11_isTray 5 = .ok (.iconst 4, 1) := by decide +kernel
theorem dX11_isTray_6 : decode cX11_isTray 6 = .ok (.if_icmp .ge 7, 3) := by decide +kernel
theorem dX11_isTray_9 : decode cX11_isTray 9 = .ok (.iconst 1, 1) := by decide +kernel
theorem dX11_isTray_10 : decode cX11_isTray 10 = .ok (.goto 4, 3) := by decide +kernel
theorem dX11_isTray_13 : decode cX11_isTray 13 = .ok (.iconst 0, 1) := by decide +kernel
theorem dX11_isTray_14 : decode cX11_isTray 14 = .ok (.ireturn, 1) := by decide +kernel
theorem dX11_digit_0 : decode cX11_digit 0 = .ok (.iload_n 1, 1) := by decide +kernel
theorem dX11_digit_1 : decode cX11_digit 1 = .ok (.ifCond .lt 8, 3) := by decide +kernel
theorem dX11_digit_4 : decode cX11_digit 4 = .ok (.iload_n 1, 1) := by decide +kernel
theorem dX11_digit_5 : decode cX11_digit 5 = .ok (.iconst 4, 1) := by decide +kernel
theorem dX11_digit_6 : decode cX11_digit 6 = .ok (.if_icmp .lt 7, 3) := by decide +kernel
theorem dX11_digit_9 : decode cX11_digit 9 = .ok (.iconst 0, 1) := by decide +kernel
theorem dX11_digit_10 : decode cX11_digit 10 = .ok (.goto 13, 3) := by decide +kernel
theorem dX11_digit_13 : decode cX11_digit 13 = .ok (.iload_n 0, 1) := by decide +kernel
theorem dX11_digit_14 : decode cX11_digit 14 = .ok (.getstatic 422, 3) := by decide +kernel
theorem dX11_digit_17 : decode cX11_digit 17 = .ok (.iload_n 1, 1) := by decide +kernel
theorem dX11_digit_18 : decode cX11_digit 18 = .ok (.iaload, 1) := by decide +kernel
theorem dX11_digit_19 : decode cX11_digit 19 = .ok (.idiv, 1) := by decide +kernel
theorem dX11_digit_20 : decode cX11_digit 20 = .ok (.bipush 10, 2) := by decide +kernel
theorem dX11_digit_22 : decode cX11_digit 22 = .ok (.irem, 1) := by decide +kernel
theorem dX11_digit_23 : decode cX11_digit 23 = .ok (.ireturn, 1) := by decide +kernel
theorem dX11_withDigit_0 : decode cX11_withDigit 0 = .ok (.iload_n 1, 1) := by decide +kernel
theorem dX11_withDigit_1 : decode cX11_withDigit 1 = .ok (.ifCond .lt 8, 3) := by decide +kernel
theorem dX11_withDigit_4 : decode cX11_withDigit 4 = .ok (.iload_n 1, 1) := by decide +kernel
theorem dX11_withDigit_5 : decode cX11_withDigit 5 = .ok (.iconst 4, 1) := by decide +kernel
theorem dX11_withDigit_6 : decode cX11_withDigit 6 = .ok (.if_icmp .lt 7, 3) := by decide +kernel
theorem dX11_withDigit_9 : decode cX11_withDigit 9 = .ok (.iload_n 0, 1) := by decide +kernel
theorem dX11_withDigit_10 : decode cX11_withDigit 10 = .ok (.goto 18, 3) := by decide +kernel
theorem dX11_withDigit_13 : decode cX11_withDigit 13 = .ok (.iload_n 0, 1) := by decide +kernel
theorem dX11_withDigit_14 : decode cX11_withDigit 14 = .ok (.iload_n 2, 1) := by decide +kernel
theorem dX11_withDigit_15 : decode cX11_withDigit 15 = .ok (.iload_n 0, 1) := by decide +kernel
theorem dX11_withDigit_16 : decode cX11_withDigit 16 = .ok (.iload_n 1, 1) := by decide +kernel
theorem dX11_withDigit_17 : decode cX11_withDigit 17 = .ok (.invokestatic 145, 3) := by decide +kernel
theorem dX11_withDigit_20 : decode cX11_withDigit 20 = .ok (.isub, 1) := by decide +kernel
theorem dX11_withDigit_21 : decode cX11_withDigit 21 = .ok (.getstatic 422, 3) := by decide +kernel
theorem dX11_withDigit_24 : decode cX11_withDigit 24 = .ok (.iload_n 1, 1) := by decide +kernel
theorem dX11_withDigit_25 : decode cX11_withDigit 25 = .ok (.iaload, 1) := by decide +kernel
theorem dX11_withDigit_26 : decode cX11_withDigit 26 = .ok (.imul, 1) := by decide +kernel
theorem dX11_withDigit_27 : decode cX11_withDigit 27 = .ok (.iadd, 1) := by decide +kernel
theorem dX11_withDigit_28 : decode cX11_withDigit 28 = .ok (.ireturn, 1) := by decide +kernel
theorem dX11_dropsOf_0 : decode cX11_dropsOf 0 = .ok (.iload_n 1, 1) := by decide +kernel
theorem dX11_dropsOf_1 : decode cX11_dropsOf 1 = .ok (.ifCond .lt 8, 3) := by decide +kernel
theorem dX11_dropsOf_4 : decode cX11_dropsOf 4 = .ok (.iload_n 1, 1) := by decide +kernel
theorem dX11_dropsOf_5 : decode cX11_dropsOf 5 = .ok (.iconst 4, 1) := by decide +kernel
theorem dX11_dropsOf_6 : decode cX11_dropsOf 6 = .ok (.if_icmp .lt 7, 3) := by decide +kernel
theorem dX11_dropsOf_9 : decode cX11_dropsOf 9 = .ok (.iconst 0, 1) := by decide +kernel
theorem dX11_dropsOf_10 : decode cX11_dropsOf 10 = .ok (.goto 12, 3) := by decide +kernel
theorem dX11_dropsOf_13 : decode cX11_dropsOf 13 = .ok (.iload_n 0, 1) := by decide +kernel
theorem dX11_dropsOf_14 : decode cX11_dropsOf 14 = .ok (.getstatic 285, 3) := by decide +kernel
theorem dX11_dropsOf_17 : decode cX11_dropsOf 17 = .ok (.iload_n 1, 1) := by decide +kernel
theorem dX11_dropsOf_18 : decode cX11_dropsOf 18 = .ok (.iaload, 1) := by decide +kernel
theorem dX11_dropsOf_19 : decode cX11_dropsOf 19 = .ok (.idiv, 1) := by decide +kernel
theorem dX11_dropsOf_20 : decode cX11_dropsOf 20 = .ok (.iconst 5, 1) := by decide +kernel
theorem dX11_dropsOf_21 : decode cX11_dropsOf 21 = .ok (.irem, 1) := by decide +kernel
theorem dX11_dropsOf_22 : decode cX11_dropsOf 22 = .ok (.ireturn, 1) := by decide +kernel
theorem dX12_within_0 : decode cX12_within 0 = .ok (.lload_n 0, 1) := by decide +kernel
theorem dX12_within_1 : decode cX12_within 1 = .ok (.lload_n 2, 1) := by decide +kernel
theorem dX12_within_2 : decode cX12_within 2 = .ok (.lcmp, 1) := by decide +kernel
theorem dX12_within_3 : decode cX12_within 3 = .ok (.ifCond .lt 14, 3) := by decide +kernel
theorem dX12_within_6 : decode cX12_within 6 = .ok (.lload_n 0, 1) := by decide +kernel
theorem dX12_within_7 : decode cX12_within 7 = .ok (.lload 4, 2) := by decide +kernel
theorem dX12_within_9 : decode cX12_within 9 = .ok (.lcmp, 1) := by decide +kernel
theorem dX12_within_10 : decode cX12_within 10 = .ok (.ifCond .gt 7, 3) := by decide +kernel
theorem dX12_within_13 : decode cX12_within 13 = .ok (.iconst 1, 1) := by decide +kernel
theorem dX12_within_14 : decode cX12_within 14 = .ok (.goto 4, 3) := by decide +kernel
theorem dX12_within_17 : decode cX12_within 17 = .ok (.iconst 0, 1) := by decide +kernel
theorem dX12_within_18 : decode cX12_within 18 = .ok (.ireturn, 1) := by decide +kernel
