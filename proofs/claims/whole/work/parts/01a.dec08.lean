/-! decode rows -/
theorem dX12_way_0 : decode cX12_way 0 = .ok (.aload_n 0, 1) := by decide +kernel
theorem dX12_way_1 : decode cX12_way 1 = .ok (.iconst 0, 1) := by decide +kernel
theorem dX12_way_2 : decode cX12_way 2 = .ok (.putfield 1, 3) := by decide +kernel
theorem dX12_way_5 : decode cX12_way 5 = .ok (.aload_n 0, 1) := by decide +kernel
theorem dX12_way_6 : decode cX12_way 6 = .ok (.iload_n 1, 1) := by decide +kernel
theorem dX12_way_7 : decode cX12_way 7 = .ok (.invokevirtual 401, 3) := by decide +kernel
theorem dX12_way_10 : decode cX12_way 10 = .ok (.ifCond .eq 7, 3) := by decide +kernel
theorem dX12_way_13 : decode cX12_way 13 = .ok (.iload_n 2, 1) := by decide +kernel
theorem dX12_way_14 : decode cX12_way 14 = .ok (.ifCond .ge 6, 3) := by decide +kernel
theorem dX12_way_17 : decode cX12_way 17 = .ok (.bipush (-3), 2) := by decide +kernel
theorem dX12_way_19 : decode cX12_way 19 = .ok (.ireturn, 1) := by decide +kernel
theorem dX12_way_20 : decode cX12_way 20 = .ok (.aload_n 0, 1) := by decide +kernel
theorem dX12_way_21 : decode cX12_way 21 = .ok (.iload_n 1, 1) := by decide +kernel
theorem dX12_way_22 : decode cX12_way 22 = .ok (.invokevirtual 404, 3) := by decide +kernel
theorem dX12_way_25 : decode cX12_way 25 = .ok (.istore_n 3, 1) := by decide +kernel
theorem dX12_way_26 : decode cX12_way 26 = .ok (.iload_n 3, 1) := by decide +kernel
theorem dX12_way_27 : decode cX12_way 27 = .ok (.ldc_w 390, 3) := by decide +kernel
theorem dX12_way_30 : decode cX12_way 30 = .ok (.if_icmp .eq 8, 3) := by decide +kernel
theorem dX12_way_33 : decode cX12_way 33 = .ok (.iload_n 2, 1) := by decide +kernel
theorem dX12_way_34 : decode cX12_way 34 = .ok (.iload_n 3, 1) := by decide +kernel
theorem dX12_way_35 : decode cX12_way 35 = .ok (.if_icmp .lt 5, 3) := by decide +kernel
theorem dX12_way_38 : decode cX12_way 38 = .ok (.iconst (-1), 1) := by decide +kernel
theorem dX12_way_39 : decode cX12_way 39 = .ok (.ireturn, 1) := by decide +kernel
theorem dX12_way_40 : decode cX12_way 40 = .ok (.aload_n 0, 1) := by decide +kernel
theorem dX12_way_41 : decode cX12_way 41 = .ok (.invokevirtual 282, 3) := by decide +kernel
theorem dX12_way_44 : decode cX12_way 44 = .ok (.istore 4, 2) := by decide +kernel
theorem dX12_way_46 : decode cX12_way 46 = .ok (.iconst 0, 1) := by decide +kernel
theorem dX12_way_47 : decode cX12_way 47 = .ok (.istore 5, 2) := by decide +kernel
theorem dX12_way_49 : decode cX12_way 49 = .ok (.iconst 0, 1) := by decide +kernel
theorem dX12_way_50 : decode cX12_way 50 = .ok (.istore 6, 2) := by decide +kernel
theorem dX12_way_52 : decode cX12_way 52 = .ok (.aload_n 0, 1) := by decide +kernel
theorem dX12_way_53 : decode cX12_way 53 = .ok (.getfield 61, 3) := by decide +kernel
theorem dX12_way_56 : decode cX12_way 56 = .ok (.aload_n 0, 1) := by decide +kernel
theorem dX12_way_57 : decode cX12_way 57 = .ok (.getfield 58, 3) := by decide +kernel
theorem dX12_way_60 : decode cX12_way 60 = .ok (.bipush 35, 2) := by decide +kernel
theorem dX12_way_62 : decode cX12_way 62 = .ok (.iload 4, 2) := by decide +kernel
theorem dX12_way_64 : decode cX12_way 64 = .ok (.imul, 1) := by decide +kernel
theorem dX12_way_65 : decode cX12_way 65 = .ok (.iload 6, 2) := by decide +kernel
theorem dX12_way_67 : decode cX12_way 67 = .ok (.iadd, 1) := by decide +kernel
theorem dX12_way_68 : decode cX12_way 68 = .ok (.iaload, 1) := by decide +kernel
theorem dX12_way_69 : decode cX12_way 69 = .ok (.iaload, 1) := by decide +kernel
theorem dX12_way_70 : decode cX12_way 70 = .ok (.iload_n 3, 1) := by decide +kernel
theorem dX12_way_71 : decode cX12_way 71 = .ok (.iload 5, 2) := by decide +kernel
theorem dX12_way_73 : decode cX12_way 73 = .ok (.isub, 1) := by decide +kernel
theorem dX12_way_74 : decode cX12_way 74 = .ok (.iconst 1, 1) := by decide +kernel
theorem dX12_way_75 : decode cX12_way 75 = .ok (.isub, 1) := by decide +kernel
theorem dX12_way_76 : decode cX12_way 76 = .ok (.if_icmp .eq 9, 3) := by decide +kernel
theorem dX12_way_79 : decode cX12_way 79 = .ok (.iinc 6 1, 3) := by decide +kernel
theorem dX12_way_82 : decode cX12_way 82 = .ok (.goto (-30), 3) := by decide +kernel
theorem dX12_way_85 : decode cX12_way 85 = .ok (.iload 5, 2) := by decide +kernel
theorem dX12_way_87 : decode cX12_way 87 = .ok (.iload_n 2, 1) := by decide +kernel
theorem dX12_way_88 : decode cX12_way 88 = .ok (.if_icmp .ne 11, 3) := by decide +kernel
theorem dX12_way_91 : decode cX12_way 91 = .ok (.aload_n 0, 1) := by decide +kernel
theorem dX12_way_92 : decode cX12_way 92 = .ok (.getfield 42, 3) := by decide +kernel
theorem dX12_way_95 : decode cX12_way 95 = .ok (.iload 6, 2) := by decide +kernel
theorem dX12_way_97 : decode cX12_way 97 = .ok (.iaload, 1) := by decide +kernel
theorem dX12_way_98 : decode cX12_way 98 = .ok (.ireturn, 1) := by decide +kernel
theorem dX12_way_99 : decode cX12_way 99 = .ok (.aload_n 0, 1) := by decide +kernel
theorem dX12_way_100 : decode cX12_way 100 = .ok (.getfield 58, 3) := by decide +kernel
theorem dX12_way_103 : decode cX12_way 103 = .ok (.bipush 35, 2) := by decide +kernel
theorem dX12_way_105 : decode cX12_way 105 = .ok (.iload 4, 2) := by decide +kernel
theorem dX12_way_107 : decode cX12_way 107 = .ok (.imul, 1) := by decide +kernel
theorem dX12_way_108 : decode cX12_way 108 = .ok (.iload 6, 2) := by decide +kernel
theorem dX12_way_110 : decode cX12_way 110 = .ok (.iadd, 1) := by decide +kernel
theorem dX12_way_111 : decode cX12_way 111 = .ok (.iaload, 1) := by decide +kernel
theorem dX12_way_112 : decode cX12_way 112 = .ok (.istore 4, 2) := by decide +kernel
theorem dX12_way_114 : decode cX12_way 114 = .ok (.iinc 5 1, 3) := by decide +kernel
theorem dX12_way_117 : decode cX12_way 117 = .ok (.goto (-68), 3) := by decide +kernel
theorem dX12_beginsMany_0 : decode cX12_beginsMany 0 = .ok (.iconst 0, 1) := by decide +kernel
theorem dX12_beginsMany_1 : decode cX12_beginsMany 1 = .ok (.istore_n 1, 1) := by decide +kernel
theorem dX12_beginsMany_2 : decode cX12_beginsMany 2 = .ok (.iload_n 1, 1) := by decide +kernel
theorem dX12_beginsMany_3 : decode cX12_beginsMany 3 = .ok (.sipush 20000, 3) := by decide +kernel
theorem dX12_beginsMany_6 : decode cX12_beginsMany 6 = .ok (.if_icmp .ge 35, 3) := by decide +kernel
theorem dX12_beginsMany_9 : decode cX12_beginsMany 9 = .ok (.aload_n 0, 1) := by decide +kernel
theorem dX12_beginsMany_10 : decode cX12_beginsMany 10 = .ok (.getfield 67, 3) := by decide +kernel
theorem dX12_beginsMany_13 : decode cX12_beginsMany 13 = .ok (.iload_n 1, 1) := by decide +kernel
theorem dX12_beginsMany_14 : decode cX12_beginsMany 14 = .ok (.iload_n 1, 1) := by decide +kernel
theorem dX12_beginsMany_15 : decode cX12_beginsMany 15 = .ok (.aload_n 0, 1) := by decide +kernel
theorem dX12_beginsMany_16 : decode cX12_beginsMany 16 = .ok (.invokevirtual 282, 3) := by decide +kernel
theorem dX12_beginsMany_19 : decode cX12_beginsMany 19 = .ok (.if_icmp .ne 7, 3) := by decide +kernel
theorem dX12_beginsMany_22 : decode cX12_beginsMany 22 = .ok (.lconst 1, 1) := by decide +kernel
theorem dX12_beginsMany_23 : decode cX12_beginsMany 23 = .ok (.goto 4, 3) := by decide +kernel
theorem dX12_beginsMany_26 : decode cX12_beginsMany 26 = .ok (.lconst 0, 1) := by decide +kernel
theorem dX12_beginsMany_27 : decode cX12_beginsMany 27 = .ok (.lastore, 1) := by decide +kernel
theorem dX12_beginsMany_28 : decode cX12_beginsMany 28 = .ok (.aload_n 0, 1) := by decide +kernel
theorem dX12_beginsMany_29 : decode cX12_beginsMany 29 = .ok (.getfield 71, 3) := by decide +kernel
theorem dX12_beginsMany_32 : decode cX12_beginsMany 32 = .ok (.iload_n 1, 1) := by decide +kernel
theorem dX12_beginsMany_33 : decode cX12_beginsMany 33 = .ok (.lconst 0, 1) := by decide +kernel
theorem dX12_beginsMany_34 : decode cX12_beginsMany 34 = .ok (.lastore, 1) := by decide +kernel
theorem dX12_beginsMany_35 : decode cX12_beginsMany 35 = .ok (.iinc 1 1, 3) := by decide +kernel
theorem dX12_beginsMany_38 : decode cX12_beginsMany 38 = .ok (.goto (-36), 3) := by decide +kernel
theorem dX12_beginsMany_41 : decode cX12_beginsMany 41 = .ok (.return_, 1) := by decide +kernel
theorem dX12_isThen_0 : decode cX12_isThen 0 = .ok (.iconst 0, 1) := by decide +kernel
theorem dX12_isThen_1 : decode cX12_isThen 1 = .ok (.istore_n 1, 1) := by decide +kernel
theorem dX12_isThen_2 : decode cX12_isThen 2 = .ok (.iload_n 1, 1) := by decide +kernel
theorem dX12_isThen_3 : decode cX12_isThen 3 = .ok (.sipush 20000, 3) := by decide +kernel
theorem dX12_isThen_6 : decode cX12_isThen 6 = .ok (.if_icmp .ge 28, 3) := by decide +kernel
theorem dX12_isThen_9 : decode cX12_isThen 9 = .ok (.aload_n 0, 1) := by decide +kernel
theorem dX12_isThen_10 : decode cX12_isThen 10 = .ok (.getfield 67, 3) := by decide +kernel
theorem dX12_isThen_13 : decode cX12_isThen 13 = .ok (.iload_n 1, 1) := by decide +kernel
theorem dX12_isThen_14 : decode cX12_isThen 14 = .ok (.aload_n 0, 1) := by decide +kernel
theorem dX12_isThen_15 : decode cX12_isThen 15 = .ok (.getfield 71, 3) := by decide +kernel
theorem dX12_isThen_18 : decode cX12_isThen 18 = .ok (.iload_n 1, 1) := by decide +kernel
theorem dX12_isThen_19 : decode cX12_isThen 19 = .ok (.laload, 1) := by decide +kernel
theorem dX12_isThen_20 : decode cX12_isThen 20 = .ok (.lastore, 1) := by decide +kernel
theorem dX12_isThen_21 : decode cX12_isThen 21 = .ok (.aload_n 0, 1) := by decide +kernel
theorem dX12_isThen_22 : decode cX12_isThen 22 = .ok (.getfield 71, 3) := by decide +kernel
theorem dX12_isThen_25 : decode cX12_isThen 25 = .ok (.iload_n 1, 1) := by decide +kernel
theorem dX12_isThen_26 : decode cX12_isThen 26 = .ok (.lconst 0, 1) := by decide +kernel
theorem dX12_isThen_27 : decode cX12_isThen 27 = .ok (.lastore, 1) := by decide +kernel
theorem dX12_isThen_28 : decode cX12_isThen 28 = .ok (.iinc 1 1, 3) := by decide +kernel
theorem dX12_isThen_31 : decode cX12_isThen 31 = .ok (.goto (-29), 3) := by decide +kernel
theorem dX12_isThen_34 : decode cX12_isThen 34 = .ok (.return_, 1) := by decide +kernel
theorem dX12_rows_0 : decode cX12_rows 0 = .ok (.aload_n 0, 1) := by decide +kernel
theorem dX12_rows_1 : decode cX12_rows 1 = .ok (.iconst 0, 1) := by decide +kernel
theorem dX12_rows_2 : decode cX12_rows 2 = .ok (.putfield 1, 3) := by decide +kernel
theorem dX12_rows_5 : decode cX12_rows 5 = .ok (.aload_n 0, 1) := by decide +kernel
theorem dX12_rows_6 : decode cX12_rows 6 = .ok (.iload_n 1, 1) := by decide +kernel
theorem dX12_rows_7 : decode cX12_rows 7 = .ok (.invokevirtual 401, 3) := by decide +kernel
theorem dX12_rows_10 : decode cX12_rows 10 = .ok (.ifCond .eq 15, 3) := by decide +kernel
theorem dX12_rows_13 : decode cX12_rows 13 = .ok (.iload_n 2, 1) := by decide +kernel
theorem dX12_rows_14 : decode cX12_rows 14 = .ok (.i2l, 1) := by decide +kernel
theorem dX12_rows_15 : decode cX12_rows 15 = .ok (.lconst 0, 1) := by decide +kernel
theorem dX12_rows_16 : decode cX12_rows 16 = .ok (.ldc2_w 410, 3) := by decide +kernel
theorem dX12_rows_19 : decode cX12_rows 19 = .ok (.invokestatic 155, 3) := by decide +kernel
theorem dX12_rows_22 : decode cX12_rows 22 = .ok (.ifCond .ne 7, 3) := by decide +kernel
theorem dX12_rows_25 : decode cX12_rows 25 = .ok (.ldc2_w 412, 3) := by decide +kernel
theorem dX12_rows_28 : decode cX12_rows 28 = .ok (.lreturn, 1) := by decide +kernel
theorem dX12_rows_29 : decode cX12_rows 29 = .ok (.aload_n 0, 1) := by decide +kernel
theorem dX12_rows_30 : decode cX12_rows 30 = .ok (.iconst 0, 1) := by decide +kernel
theorem dX12_rows_31 : decode cX12_rows 31 = .ok (.invokevirtual 394, 3) := by decide +kernel
theorem dX12_rows_34 : decode cX12_rows 34 = .ok (.aload_n 0, 1) := by decide +kernel
theorem dX12_rows_35 : decode cX12_rows 35 = .ok (.invokevirtual 414, 3) := by decide +kernel
theorem dX12_rows_38 : decode cX12_rows 38 = .ok (.iconst 0, 1) := by decide +kernel
theorem dX12_rows_39 : decode cX12_rows 39 = .ok (.istore_n 3, 1) := by decide +kernel
theorem dX12_rows_40 : decode cX12_rows 40 = .ok (.iload_n 3, 1) := by decide +kernel
theorem dX12_rows_41 : decode cX12_rows 41 = .ok (.iload_n 2, 1) := by decide +kernel
theorem dX12_rows_42 : decode cX12_rows 42 = .ok (.if_icmp .ge 104, 3) := by decide +kernel
theorem dX12_rows_45 : decode cX12_rows 45 = .ok (.iconst 0, 1) := by decide +kernel
theorem dX12_rows_46 : decode cX12_rows 46 = .ok (.istore 4, 2) := by decide +kernel
theorem dX12_rows_48 : decode cX12_rows 48 = .ok (.iload 4, 2) := by decide +kernel
theorem dX12_rows_50 : decode cX12_rows 50 = .ok (.aload_n 0, 1) := by decide +kernel
theorem dX12_rows_51 : decode cX12_rows 51 = .ok (.getfield 384, 3) := by decide +kernel
theorem dX12_rows_54 : decode cX12_rows 54 = .ok (.if_icmp .ge 82, 3) := by decide +kernel
theorem dX12_rows_57 : decode cX12_rows 57 = .ok (.iconst 0, 1) := by decide +kernel
theorem dX12_rows_58 : decode cX12_rows 58 = .ok (.istore 5, 2) := by decide +kernel
theorem dX12_rows_60 : decode cX12_rows 60 = .ok (.iload 5, 2) := by decide +kernel
theorem dX12_rows_62 : decode cX12_rows 62 = .ok (.aload_n 0, 1) := by decide +kernel
theorem dX12_rows_63 : decode cX12_rows 63 = .ok (.getfield 285, 3) := by decide +kernel
theorem dX12_rows_66 : decode cX12_rows 66 = .ok (.if_icmp .ge 64, 3) := by decide +kernel
theorem dX12_rows_69 : decode cX12_rows 69 = .ok (.aload_n 0, 1) := by decide +kernel
theorem dX12_rows_70 : decode cX12_rows 70 = .ok (.getfield 67, 3) := by decide +kernel
theorem dX12_rows_73 : decode cX12_rows 73 = .ok (.aload_n 0, 1) := by decide +kernel
theorem dX12_rows_74 : decode cX12_rows 74 = .ok (.getfield 54, 3) := by decide +kernel
theorem dX12_rows_77 : decode cX12_rows 77 = .ok (.iload 4, 2) := by decide +kernel
theorem dX12_rows_79 : decode cX12_rows 79 = .ok (.iaload, 1) := by decide +kernel
theorem dX12_rows_80 : decode cX12_rows 80 = .ok (.laload, 1) := by decide +kernel
theorem dX12_rows_81 : decode cX12_rows 81 = .ok (.lconst 0, 1) := by decide +kernel
theorem dX12_rows_82 : decode cX12_rows 82 = .ok (.lcmp, 1) := by decide +kernel
theorem dX12_rows_83 : decode cX12_rows 83 = .ok (.ifCond .le 47, 3) := by decide +kernel
theorem dX12_rows_86 : decode cX12_rows 86 = .ok (.aload_n 0, 1) := by decide +kernel
theorem dX12_rows_87 : decode cX12_rows 87 = .ok (.getfield 71, 3) := by decide +kernel
theorem dX12_rows_90 : decode cX12_rows 90 = .ok (.aload_n 0, 1) := by decide +kernel
theorem dX12_rows_91 : decode cX12_rows 91 = .ok (.getfield 58, 3) := by decide +kernel
theorem dX12_rows_94 : decode cX12_rows 94 = .ok (.bipush 35, 2) := by decide +kernel
theorem dX12_rows_96 : decode cX12_rows 96 = .ok (.aload_n 0, 1) := by decide +kernel
theorem dX12_rows_97 : decode cX12_rows 97 = .ok (.getfield 54, 3) := by decide +kernel
theorem dX12_rows_100 : decode cX12_rows 100 = .ok (.iload 4, 2) := by decide +kernel
theorem dX12_rows_102 : decode cX12_rows 102 = .ok (.iaload, 1) := by decide +kernel
theorem dX12_rows_103 : decode cX12_rows 103 = .ok (.imul, 1) := by decide +kernel
theorem dX12_rows_104 : decode cX12_rows 104 = .ok (.iload 5, 2) := by decide +kernel
theorem dX12_rows_106 : decode cX12_rows 106 = .ok (.iadd, 1) := by decide +kernel
theorem dX12_rows_107 : decode cX12_rows 107 = .ok (.iaload, 1) := by decide +kernel
theorem dX12_rows_108 : decode cX12_rows 108 = .ok (.dup2, 1) := by decide +kernel
theorem dX12_rows_109 : decode cX12_rows 109 = .ok (.laload, 1) := by decide +kernel
theorem dX12_rows_110 : decode cX12_rows 110 = .ok (.aload_n 0, 1) := by decide +kernel
theorem dX12_rows_111 : decode cX12_rows 111 = .ok (.getfield 67, 3) := by decide +kernel
theorem dX12_rows_114 : decode cX12_rows 114 = .ok (.aload_n 0, 1) := by decide +kernel
theorem dX12_rows_115 : decode cX12_rows 115 = .ok (.getfield 54, 3) := by decide +kernel
theorem dX12_rows_118 : decode cX12_rows 118 = .ok (.iload 4, 2) := by decide +kernel
theorem dX12_rows_120 : decode cX12_rows 120 = .ok (.iaload, 1) := by decide +kernel
theorem dX12_rows_121 : decode cX12_rows 121 = .ok (.laload, 1) := by decide +kernel
theorem dX12_rows_122 : decode cX12_rows 122 = .ok (.ladd, 1) := by decide +kernel
theorem dX12_rows_123 : decode cX12_rows 123 = .ok (.lastore, 1) := by decide +kernel
theorem dX12_rows_124 : decode cX12_rows 124 = .ok (.iinc 5 1, 3) := by decide +kernel
theorem dX12_rows_127 : decode cX12_rows 127 = .ok (.goto (-67), 3) := by decide +kernel
theorem dX12_rows_130 : decode cX12_rows 130 = .ok (.iinc 4 1, 3) := by decide +kernel
theorem dX12_rows_133 : decode cX12_rows 133 = .ok (.goto (-85), 3) := by decide +kernel
theorem dX12_rows_136 : decode cX12_rows 136 = .ok (.aload_n 0, 1) := by decide +kernel
theorem dX12_rows_137 : decode cX12_rows 137 = .ok (.invokevirtual 417, 3) := by decide +kernel
theorem dX12_rows_140 : decode cX12_rows 140 = .ok (.iinc 3 1, 3) := by decide +kernel
theorem dX12_rows_143 : decode cX12_rows 143 = .ok (.goto (-103), 3) := by decide +kernel
theorem dX12_rows_146 : decode cX12_rows 146 = .ok (.lconst 0, 1) := by decide +kernel
theorem dX12_rows_147 : decode cX12_rows 147 = .ok (.lstore_n 3, 1) := by decide +kernel
theorem dX12_rows_148 : decode cX12_rows 148 = .ok (.iconst 0, 1) := by decide +kernel
theorem dX12_rows_149 : decode cX12_rows 149 = .ok (.istore 5, 2) := by decide +kernel
theorem dX12_rows_151 : decode cX12_rows 151 = .ok (.iload 5, 2) := by decide +kernel
theorem dX12_rows_153 : decode cX12_rows 153 = .ok (.aload_n 0, 1) := by decide +kernel
theorem dX12_rows_154 : decode cX12_rows 154 = .ok (.getfield 384, 3) := by decide +kernel
theorem dX12_rows_157 : decode cX12_rows 157 = .ok (.if_icmp .ge 45, 3) := by decide +kernel
theorem dX12_rows_160 : decode cX12_rows 160 = .ok (.lload_n 3, 1) := by decide +kernel
theorem dX12_rows_161 : decode cX12_rows 161 = .ok (.aload_n 0, 1) := by decide +kernel
theorem dX12_rows_162 : decode cX12_rows 162 = .ok (.aload_n 0, 1) := by decide +kernel
theorem dX12_rows_163 : decode cX12_rows 163 = .ok (.getfield 54, 3) := by decide +kernel
theorem dX12_rows_166 : decode cX12_rows 166 = .ok (.iload 5, 2) := by decide +kernel
theorem dX12_rows_168 : decode cX12_rows 168 = .ok (.iaload, 1) := by decide +kernel
theorem dX12_rows_169 : decode cX12_rows 169 = .ok (.invokevirtual 233, 3) := by decide +kernel
theorem dX12_rows_172 : decode cX12_rows 172 = .ok (.iload_n 1, 1) := by decide +kernel
theorem dX12_rows_173 : decode cX12_rows 173 = .ok (.iand, 1) := by decide +kernel
theorem dX12_rows_174 : decode cX12_rows 174 = .ok (.iload_n 1, 1) := by decide +kernel
theorem dX12_rows_175 : decode cX12_rows 175 = .ok (.if_icmp .ne 18, 3) := by decide +kernel
theorem dX12_rows_178 : decode cX12_rows 178 = .ok (.aload_n 0, 1) := by decide +kernel
theorem dX12_rows_179 : decode cX12_rows 179 = .ok (.getfield 67, 3) := by decide +kernel
theorem dX12_rows_182 : decode cX12_rows 182 = .ok (.aload_n 0, 1) := by decide +kernel
theorem dX12_rows_183 : decode cX12_rows 183 = .ok (.getfield 54, 3) := by decide +kernel
theorem dX12_rows_186 : decode cX12_rows 186 = .ok (.iload 5, 2) := by decide +kernel
theorem dX12_rows_188 : decode cX12_rows 188 = .ok (.iaload, 1) := by decide +kernel
theorem dX12_rows_189 : decode cX12_rows 189 = .ok (.laload, 1) := by decide +kernel
theorem dX12_rows_190 : decode cX12_rows 190 = .ok (.goto 4, 3) := by decide +kernel
theorem dX12_rows_193 : decode cX12_rows 193 = .ok (.lconst 0, 1) := by decide +kernel
theorem dX12_rows_194 : decode cX12_rows 194 = .ok (.ladd, 1) := by decide +kernel
theorem dX12_rows_195 : decode cX12_rows 195 = .ok (.lstore_n 3, 1) := by decide +kernel
theorem dX12_rows_196 : decode cX12_rows 196 = .ok (.iinc 5 1, 3) := by decide +kernel
theorem dX12_rows_199 : decode cX12_rows 199 = .ok (.goto (-48), 3) := by decide +kernel
theorem dX12_rows_202 : decode cX12_rows 202 = .ok (.lload_n 3, 1) := by decide +kernel
theorem dX12_rows_203 : decode cX12_rows 203 = .ok (.lreturn, 1) := by decide +kernel
theorem dX12_most_0 : decode cX12_most 0 = .ok (.aload_n 0, 1) := by decide +kernel
theorem dX12_most_1 : decode cX12_most 1 = .ok (.iconst 0, 1) := by decide +kernel
theorem dX12_most_2 : decode cX12_most 2 = .ok (.putfield 1, 3) := by decide +kernel
theorem dX12_most_5 : decode cX12_most 5 = .ok (.aload_n 0, 1) := by decide +kernel
theorem dX12_most_6 : decode cX12_most 6 = .ok (.iconst 0, 1) := by decide +kernel
theorem dX12_most_7 : decode cX12_most 7 = .ok (.invokevirtual 394, 3) := by decide +kernel
theorem dX12_most_10 : decode cX12_most 10 = .ok (.iconst 0, 1) := by decide +kernel
theorem dX12_most_11 : decode cX12_most 11 = .ok (.istore_n 1, 1) := by decide +kernel
theorem dX12_most_12 : decode cX12_most 12 = .ok (.iconst 0, 1) := by decide +kernel
theorem dX12_most_13 : decode cX12_most 13 = .ok (.istore_n 2, 1) := by decide +kernel
theorem dX12_most_14 : decode cX12_most 14 = .ok (.iload_n 2, 1) := by decide +kernel
theorem dX12_most_15 : decode cX12_most 15 = .ok (.aload_n 0, 1) := by decide +kernel
theorem dX12_most_16 : decode cX12_most 16 = .ok (.getfield 384, 3) := by decide +kernel
theorem dX12_most_19 : decode cX12_most 19 = .ok (.if_icmp .ge 44, 3) := by decide +kernel
theorem dX12_most_22 : decode cX12_most 22 = .ok (.aload_n 0, 1) := by decide +kernel
theorem dX12_most_23 : decode cX12_most 23 = .ok (.aload_n 0, 1) := by decide +kernel
theorem dX12_most_24 : decode cX12_most 24 = .ok (.getfield 54, 3) := by decide +kernel
theorem dX12_most_27 : decode cX12_most 27 = .ok (.iload_n 2, 1) := by decide +kernel
theorem dX12_most_28 : decode cX12_most 28 = .ok (.iaload, 1) := by decide +kernel
theorem dX12_most_29 : decode cX12_most 29 = .ok (.invokevirtual 233, 3) := by decide +kernel
theorem dX12_most_32 : decode cX12_most 32 = .ok (.invokestatic 236, 3) := by decide +kernel
theorem dX12_most_35 : decode cX12_most 35 = .ok (.iload_n 1, 1) := by decide +kernel
theorem dX12_most_36 : decode cX12_most 36 = .ok (.if_icmp .le 19, 3) := by decide +kernel
theorem dX12_most_39 : decode cX12_most 39 = .ok (.aload_n 0, 1) := by decide +kernel
theorem dX12_most_40 : decode cX12_most 40 = .ok (.aload_n 0, 1) := by decide +kernel
theorem dX12_most_41 : decode cX12_most 41 = .ok (.getfield 54, 3) := by decide +kernel
theorem dX12_most_44 : decode cX12_most 44 = .ok (.iload_n 2, 1) := by decide +kernel
theorem dX12_most_45 : decode cX12_most 45 = .ok (.iaload, 1) := by decide +kernel
theorem dX12_most_46 : decode cX12_most 46 = .ok (.invokevirtual 233, 3) := by decide +kernel
theorem dX12_most_49 : decode cX12_most 49 = .ok (.invokestatic 236, 3) := by decide +kernel
theorem dX12_most_52 : decode cX12_most 52 = .ok (.goto 4, 3) := by decide +kernel
theorem dX12_most_55 : decode cX12_most 55 = .ok (.iload_n 1, 1) := by decide +kernel
theorem dX12_most_56 : decode cX12_most 56 = .ok (.istore_n 1, 1) := by decide +kernel
theorem dX12_most_57 : decode cX12_most 57 = .ok (.iinc 2 1, 3) := by decide +kernel
theorem dX12_most_60 : decode cX12_most 60 = .ok (.goto (-46), 3) := by decide +kernel
theorem dX12_most_63 : decode cX12_most 63 = .ok (.iload_n 1, 1) := by decide +kernel
theorem dX12_most_64 : decode cX12_most 64 = .ok (.ireturn, 1) := by decide +kernel
theorem dX12_holding_0 : decode cX12_holding 0 = .ok (.aload_n 0, 1) := by decide +kernel
theorem dX12_holding_1 : decode cX12_holding 1 = .ok (.iconst 0, 1) := by decide +kernel
theorem dX12_holding_2 : decode cX12_holding 2 = .ok (.putfield 1, 3) := by decide +kernel
theorem dX12_holding_5 : decode cX12_holding 5 = .ok (.aload_n 0, 1) := by decide +kernel
theorem dX12_holding_6 : decode cX12_holding 6 = .ok (.getfield 13, 3) := by decide +kernel
theorem dX12_holding_9 : decode cX12_holding 9 = .ok (.bipush 24, 2) := by decide +kernel
theorem dX12_holding_11 : decode cX12_holding 11 = .ok (.iaload, 1) := by decide +kernel
theorem dX12_holding_12 : decode cX12_holding 12 = .ok (.iconst 1, 1) := by decide +kernel
theorem dX12_holding_13 : decode cX12_holding 13 = .ok (.if_icmp .ne 6, 3) := by decide +kernel
theorem dX12_holding_16 : decode cX12_holding 16 = .ok (.bipush (-5), 2) := by decide +kernel
theorem dX12_holding_18 : decode cX12_holding 18 = .ok (.ireturn, 1) := by decide +kernel
theorem dX12_holding_19 : decode cX12_holding 19 = .ok (.aload_n 0, 1) := by decide +kernel
theorem dX12_holding_20 : decode cX12_holding 20 = .ok (.iconst 0, 1) := by decide +kernel
theorem dX12_holding_21 : decode cX12_holding 21 = .ok (.invokevirtual 394, 3) := by decide +kernel
theorem dX12_holding_24 : decode cX12_holding 24 = .ok (.iconst 0, 1) := by decide +kernel
theorem dX12_holding_25 : decode cX12_holding 25 = .ok (.istore_n 1, 1) := by decide +kernel
theorem dX12_holding_26 : decode cX12_holding 26 = .ok (.iload_n 1, 1) := by decide +kernel
theorem dX12_holding_27 : decode cX12_holding 27 = .ok (.aload_n 0, 1) := by decide +kernel
theorem dX12_holding_28 : decode cX12_holding 28 = .ok (.getfield 384, 3) := by decide +kernel
theorem dX12_holding_31 : decode cX12_holding 31 = .ok (.if_icmp .ge 39, 3) := by decide +kernel
theorem dX12_holding_34 : decode cX12_holding 34 = .ok (.aload_n 0, 1) := by decide +kernel
theorem dX12_holding_35 : decode cX12_holding 35 = .ok (.getfield 61, 3) := by decide +kernel
theorem dX12_holding_38 : decode cX12_holding 38 = .ok (.aload_n 0, 1) := by decide +kernel
theorem dX12_holding_39 : decode cX12_holding 39 = .ok (.getfield 54, 3) := by decide +kernel
theorem dX12_holding_42 : decode cX12_holding 42 = .ok (.iload_n 1, 1) := by decide +kernel
theorem dX12_holding_43 : decode cX12_holding 43 = .ok (.iaload, 1) := by decide +kernel
theorem dX12_holding_44 : decode cX12_holding 44 = .ok (.aload_n 0, 1) := by decide +kernel
theorem dX12_holding_45 : decode cX12_holding 45 = .ok (.getfield 54, 3) := by decide +kernel
theorem dX12_holding_48 : decode cX12_holding 48 = .ok (.iload_n 1, 1) := by decide +kernel
theorem dX12_holding_49 : decode cX12_holding 49 = .ok (.iaload, 1) := by decide +kernel
theorem dX12_holding_50 : decode cX12_holding 50 = .ok (.invokestatic 245, 3) := by decide +kernel
theorem dX12_holding_53 : decode cX12_holding 53 = .ok (.ifCond .eq 7, 3) := by decide +kernel
theorem dX12_holding_56 : decode cX12_holding 56 = .ok (.iconst (-1), 1) := by decide +kernel
theorem dX12_holding_57 : decode cX12_holding 57 = .ok (.goto 6, 3) := by decide +kernel
theorem dX12_holding_60 : decode cX12_holding 60 = .ok (.ldc_w 390, 3) := by decide +kernel
theorem dX12_holding_63 : decode cX12_holding 63 = .ok (.iastore, 1) := by decide +kernel
theorem dX12_holding_64 : decode cX12_holding 64 = .ok (.iinc 1 1, 3) := by decide +kernel
theorem dX12_holding_67 : decode cX12_holding 67 = .ok (.goto (-41), 3) := by decide +kernel
theorem dX12_holding_70 : decode cX12_holding 70 = .ok (.iconst 1, 1) := by decide +kernel
theorem dX12_holding_71 : decode cX12_holding 71 = .ok (.istore_n 1, 1) := by decide +kernel
theorem dX12_holding_72 : decode cX12_holding 72 = .ok (.iload_n 1, 1) := by decide +kernel
theorem dX12_holding_73 : decode cX12_holding 73 = .ok (.ifCond .eq 145, 3) := by decide +kernel
theorem dX12_holding_76 : decode cX12_holding 76 = .ok (.iconst 0, 1) := by decide +kernel
theorem dX12_holding_77 : decode cX12_holding 77 = .ok (.istore_n 1, 1) := by decide +kernel
theorem dX12_holding_78 : decode cX12_holding 78 = .ok (.iconst 0, 1) := by decide +kernel
theorem dX12_holding_79 : decode cX12_holding 79 = .ok (.istore_n 2, 1) := by decide +kernel
theorem dX12_holding_80 : decode cX12_holding 80 = .ok (.iload_n 2, 1) := by decide +kernel
theorem dX12_holding_81 : decode cX12_holding 81 = .ok (.aload_n 0, 1) := by decide +kernel
theorem dX12_holding_82 : decode cX12_holding 82 = .ok (.getfield 384, 3) := by decide +kernel
theorem dX12_holding_85 : decode cX12_holding 85 = .ok (.if_icmp .ge 130, 3) := by decide +kernel
theorem dX12_holding_88 : decode cX12_holding 88 = .ok (.aload_n 0, 1) := by decide +kernel
theorem dX12_holding_89 : decode cX12_holding 89 = .ok (.getfield 54, 3) := by decide +kernel
theorem dX12_holding_92 : decode cX12_holding 92 = .ok (.iload_n 2, 1) := by decide +kernel
theorem dX12_holding_93 : decode cX12_holding 93 = .ok (.iaload, 1) := by decide +kernel
theorem dX12_holding_94 : decode cX12_holding 94 = .ok (.istore_n 3, 1) := by decide +kernel
theorem dX12_holding_95 : decode cX12_holding 95 = .ok (.iconst (-1), 1) := by decide +kernel
theorem dX12_holding_96 : decode cX12_holding 96 = .ok (.istore 4, 2) := by decide +kernel
theorem dX12_holding_98 : decode cX12_holding 98 = .ok (.iconst 0, 1) := by decide +kernel
theorem dX12_holding_99 : decode cX12_holding 99 = .ok (.istore 5, 2) := by decide +kernel
theorem dX12_holding_101 : decode cX12_holding 101 = .ok (.iload 5, 2) := by decide +kernel
theorem dX12_holding_103 : decode cX12_holding 103 = .ok (.aload_n 0, 1) := by decide +kernel
theorem dX12_holding_104 : decode cX12_holding 104 = .ok (.getfield 285, 3) := by decide +kernel
theorem dX12_holding_107 : decode cX12_holding 107 = .ok (.if_icmp .ge 67, 3) := by decide +kernel
theorem dX12_holding_110 : decode cX12_holding 110 = .ok (.aload_n 0, 1) := by decide +kernel
theorem dX12_holding_111 : decode cX12_holding 111 = .ok (.getfield 61, 3) := by decide +kernel
theorem dX12_holding_114 : decode cX12_holding 114 = .ok (.iload_n 3, 1) := by decide +kernel
theorem dX12_holding_115 : decode cX12_holding 115 = .ok (.iaload, 1) := by decide +kernel
theorem dX12_holding_116 : decode cX12_holding 116 = .ok (.ldc_w 390, 3) := by decide +kernel
theorem dX12_holding_119 : decode cX12_holding 119 = .ok (.if_icmp .ne 55, 3) := by decide +kernel
theorem dX12_holding_122 : decode cX12_holding 122 = .ok (.aload_n 0, 1) := by decide +kernel
theorem dX12_holding_123 : decode cX12_holding 123 = .ok (.getfield 61, 3) := by decide +kernel
theorem dX12_holding_126 : decode cX12_holding 126 = .ok (.aload_n 0, 1) := by decide +kernel
theorem dX12_holding_127 : decode cX12_holding 127 = .ok (.getfield 58, 3) := by decide +kernel
theorem dX12_holding_130 : decode cX12_holding 130 = .ok (.bipush 35, 2) := by decide +kernel
theorem dX12_holding_132 : decode cX12_holding 132 = .ok (.iload_n 3, 1) := by decide +kernel
theorem dX12_holding_133 : decode cX12_holding 133 = .ok (.imul, 1) := by decide +kernel
theorem dX12_holding_134 : decode cX12_holding 134 = .ok (.iload 5, 2) := by decide +kernel
theorem dX12_holding_136 : decode cX12_holding 136 = .ok (.iadd, 1) := by decide +kernel
theorem dX12_holding_137 : decode cX12_holding 137 = .ok (.iaload, 1) := by decide +kernel
theorem dX12_holding_138 : decode cX12_holding 138 = .ok (.iaload, 1) := by decide +kernel
theorem dX12_holding_139 : decode cX12_holding 139 = .ok (.iload 4, 2) := by decide +kernel
theorem dX12_holding_141 : decode cX12_holding 141 = .ok (.if_icmp .le 23, 3) := by decide +kernel
theorem dX12_holding_144 : decode cX12_holding 144 = .ok (.aload_n 0, 1) := by decide +kernel
theorem dX12_holding_145 : decode cX12_holding 145 = .ok (.getfield 61, 3) := by decide +kernel
theorem dX12_holding_148 : decode cX12_holding 148 = .ok (.aload_n 0, 1) := by decide +kernel
theorem dX12_holding_149 : decode cX12_holding 149 = .ok (.getfield 58, 3) := by decide +kernel
theorem dX12_holding_152 : decode cX12_holding 152 = .ok (.bipush 35, 2) := by decide +kernel
theorem dX12_holding_154 : decode cX12_holding 154 = .ok (.iload_n 3, 1) := by decide +kernel
theorem dX12_holding_155 : decode cX12_holding 155 = .ok (.imul, 1) := by decide +kernel
theorem dX12_holding_156 : decode cX12_holding 156 = .ok (.iload 5, 2) := by decide +kernel
theorem dX12_holding_158 : decode cX12_holding 158 = .ok (.iadd, 1) := by decide +kernel
theorem dX12_holding_159 : decode cX12_holding 159 = .ok (.iaload, 1) := by decide +kernel
theorem dX12_holding_160 : decode cX12_holding 160 = .ok (.iaload, 1) := by decide +kernel
theorem dX12_holding_161 : decode cX12_holding 161 = .ok (.goto 5, 3) := by decide +kernel
theorem dX12_holding_164 : decode cX12_holding 164 = .ok (.iload 4, 2) := by decide +kernel
theorem dX12_holding_166 : decode cX12_holding 166 = .ok (.istore 4, 2) := by decide +kernel
theorem dX12_holding_168 : decode cX12_holding 168 = .ok (.iinc 5 1, 3) := by decide +kernel
theorem dX12_holding_171 : decode cX12_holding 171 = .ok (.goto (-70), 3) := by decide +kernel
theorem dX12_holding_174 : decode cX12_holding 174 = .ok (.aload_n 0, 1) := by decide +kernel
theorem dX12_holding_175 : decode cX12_holding 175 = .ok (.getfield 61, 3) := by decide +kernel
theorem dX12_holding_178 : decode cX12_holding 178 = .ok (.iload_n 3, 1) := by decide +kernel
theorem dX12_holding_179 : decode cX12_holding 179 = .ok (.iaload, 1) := by decide +kernel
theorem dX12_holding_180 : decode cX12_holding 180 = .ok (.ldc_w 390, 3) := by decide +kernel
theorem dX12_holding_183 : decode cX12_holding 183 = .ok (.if_icmp .lt 26, 3) := by decide +kernel
theorem dX12_holding_186 : decode cX12_holding 186 = .ok (.iload 4, 2) := by decide +kernel
theorem dX12_holding_188 : decode cX12_holding 188 = .ok (.ldc_w 390, 3) := by decide +kernel
theorem dX12_holding_191 : decode cX12_holding 191 = .ok (.if_icmp .ne 6, 3) := by decide +kernel
theorem dX12_holding_194 : decode cX12_holding 194 = .ok (.goto 15, 3) := by decide +kernel
theorem dX12_holding_197 : decode cX12_holding 197 = .ok (.aload_n 0, 1) := by decide +kernel
theorem dX12_holding_198 : decode cX12_holding 198 = .ok (.getfield 61, 3) := by decide +kernel
theorem dX12_holding_201 : decode cX12_holding 201 = .ok (.iload_n 3, 1) := by decide +kernel
theorem dX12_holding_202 : decode cX12_holding 202 = .ok (.iload 4, 2) := by decide +kernel
theorem dX12_holding_204 : decode cX12_holding 204 = .ok (.iconst 1, 1) := by decide +kernel
theorem dX12_holding_205 : decode cX12_holding 205 = .ok (.iadd, 1) := by decide +kernel
theorem dX12_holding_206 : decode cX12_holding 206 = .ok (.iastore, 1) := by decide +kernel
theorem dX12_holding_207 : decode cX12_holding 207 = .ok (.iconst 1, 1) := by decide +kernel
theorem dX12_holding_208 : decode cX12_holding 208 = .ok (.istore_n 1, 1) := by decide +kernel
theorem dX12_holding_209 : decode cX12_holding 209 = .ok (.iinc 2 1, 3) := by decide +kernel
theorem dX12_holding_212 : decode cX12_holding 212 = .ok (.goto (-132), 3) := by decide +kernel
theorem dX12_holding_215 : decode cX12_holding 215 = .ok (.goto (-143), 3) := by decide +kernel
theorem dX12_holding_218 : decode cX12_holding 218 = .ok (.aload_n 0, 1) := by decide +kernel
theorem dX12_holding_219 : decode cX12_holding 219 = .ok (.getfield 61, 3) := by decide +kernel
theorem dX12_holding_222 : decode cX12_holding 222 = .ok (.aload_n 0, 1) := by decide +kernel
theorem dX12_holding_223 : decode cX12_holding 223 = .ok (.invokevirtual 282, 3) := by decide +kernel
theorem dX12_holding_226 : decode cX12_holding 226 = .ok (.iaload, 1) := by decide +kernel
theorem dX12_holding_227 : decode cX12_holding 227 = .ok (.invokestatic 407, 3) := by decide +kernel
theorem dX12_holding_230 : decode cX12_holding 230 = .ok (.ireturn, 1) := by decide +kernel
theorem dX12_felling_0 : decode cX12_felling 0 = .ok (.aload_n 0, 1) := by decide +kernel
theorem dX12_felling_1 : decode cX12_felling 1 = .ok (.iconst 0, 1) := by decide +kernel
theorem dX12_felling_2 : decode cX12_felling 2 = .ok (.putfield 1, 3) := by decide +kernel
theorem dX12_felling_5 : decode cX12_felling 5 = .ok (.aload_n 0, 1) := by decide +kernel
theorem dX12_felling_6 : decode cX12_felling 6 = .ok (.getfield 13, 3) := by decide +kernel
theorem dX12_felling_9 : decode cX12_felling 9 = .ok (.bipush 24, 2) := by decide +kernel
theorem dX12_felling_11 : decode cX12_felling 11 = .ok (.iaload, 1) := by decide +kernel
theorem dX12_felling_12 : decode cX12_felling 12 = .ok (.iconst 1, 1) := by decide +kernel
theorem dX12_felling_13 : decode cX12_felling 13 = .ok (.if_icmp .ne 6, 3) := by decide +kernel
theorem dX12_felling_16 : decode cX12_felling 16 = .ok (.bipush (-5), 2) := by decide +kernel
theorem dX12_felling_18 : decode cX12_felling 18 = .ok (.ireturn, 1) := by decide +kernel
theorem dX12_felling_19 : decode cX12_felling 19 = .ok (.aload_n 0, 1) := by decide +kernel
theorem dX12_felling_20 : decode cX12_felling 20 = .ok (.iconst 0, 1) := by decide +kernel
theorem dX12_felling_21 : decode cX12_felling 21 = .ok (.invokevirtual 394, 3) := by decide +kernel
theorem dX12_felling_24 : decode cX12_felling 24 = .ok (.iconst 0, 1) := by decide +kernel
theorem dX12_felling_25 : decode cX12_felling 25 = .ok (.istore_n 1, 1) := by decide +kernel
theorem dX12_felling_26 : decode cX12_felling 26 = .ok (.iload_n 1, 1) := by decide +kernel
theorem dX12_felling_27 : decode cX12_felling 27 = .ok (.aload_n 0, 1) := by decide +kernel
theorem dX12_felling_28 : decode cX12_felling 28 = .ok (.getfield 384, 3) := by decide +kernel
theorem dX12_felling_31 : decode cX12_felling 31 = .ok (.if_icmp .ge 39, 3) := by decide +kernel
theorem dX12_felling_34 : decode cX12_felling 34 = .ok (.aload_n 0, 1) := by decide +kernel
theorem dX12_felling_35 : decode cX12_felling 35 = .ok (.getfield 61, 3) := by decide +kernel
theorem dX12_felling_38 : decode cX12_felling 38 = .ok (.aload_n 0, 1) := by decide +kernel
theorem dX12_felling_39 : decode cX12_felling 39 = .ok (.getfield 54, 3) := by decide +kernel
theorem dX12_felling_42 : decode cX12_felling 42 = .ok (.iload_n 1, 1) := by decide +kernel
theorem dX12_felling_43 : decode cX12_felling 43 = .ok (.iaload, 1) := by decide +kernel
theorem dX12_felling_44 : decode cX12_felling 44 = .ok (.aload_n 0, 1) := by decide +kernel
theorem dX12_felling_45 : decode cX12_felling 45 = .ok (.getfield 54, 3) := by decide +kernel
theorem dX12_felling_48 : decode cX12_felling 48 = .ok (.iload_n 1, 1) := by decide +kernel
theorem dX12_felling_49 : decode cX12_felling 49 = .ok (.iaload, 1) := by decide +kernel
theorem dX12_felling_50 : decode cX12_felling 50 = .ok (.invokestatic 245, 3) := by decide +kernel
theorem dX12_felling_53 : decode cX12_felling 53 = .ok (.ifCond .eq 7, 3) := by decide +kernel
theorem dX12_felling_56 : decode cX12_felling 56 = .ok (.iconst 0, 1) := by decide +kernel
theorem dX12_felling_57 : decode cX12_felling 57 = .ok (.goto 6, 3) := by decide +kernel
theorem dX12_felling_60 : decode cX12_felling 60 = .ok (.ldc_w 390, 3) := by decide +kernel
theorem dX12_felling_63 : decode cX12_felling 63 = .ok (.iastore, 1) := by decide +kernel
theorem dX12_felling_64 : decode cX12_felling 64 = .ok (.iinc 1 1, 3) := by decide +kernel
theorem dX12_felling_67 : decode cX12_felling 67 = .ok (.goto (-41), 3) := by decide +kernel
theorem dX12_felling_70 : decode cX12_felling 70 = .ok (.aload_n 0, 1) := by decide +kernel
theorem dX12_felling_71 : decode cX12_felling 71 = .ok (.invokevirtual 398, 3) := by decide +kernel
theorem dX12_felling_74 : decode cX12_felling 74 = .ok (.invokestatic 407, 3) := by decide +kernel
theorem dX12_felling_77 : decode cX12_felling 77 = .ok (.ireturn, 1) := by decide +kernel
theorem dX12_stands_0 : decode cX12_stands 0 = .ok (.aload_n 0, 1) := by decide +kernel
theorem dX12_stands_1 : decode cX12_stands 1 = .ok (.iconst 0, 1) := by decide +kernel
theorem dX12_stands_2 : decode cX12_stands 2 = .ok (.putfield 1, 3) := by decide +kernel
theorem dX12_stands_5 : decode cX12_stands 5 = .ok (.aload_n 0, 1) := by decide +kernel
theorem dX12_stands_6 : decode cX12_stands 6 = .ok (.iconst 0, 1) := by decide +kernel
theorem dX12_stands_7 : decode cX12_stands 7 = .ok (.invokevirtual 394, 3) := by decide +kernel
theorem dX12_stands_10 : decode cX12_stands 10 = .ok (.aload_n 0, 1) := by decide +kernel
theorem dX12_stands_11 : decode cX12_stands 11 = .ok (.getfield 384, 3) := by decide +kernel
theorem dX12_stands_14 : decode cX12_stands 14 = .ok (.ireturn, 1) := by decide +kernel
theorem dX12_noSeen_0 : decode cX12_noSeen 0 = .ok (.iload_n 1, 1) := by decide +kernel
theorem dX12_noSeen_1 : decode cX12_noSeen 1 = .ok (.i2l, 1) := by decide +kernel
theorem dX12_noSeen_2 : decode cX12_noSeen 2 = .ok (.lconst 0, 1) := by decide +kernel
theorem dX12_noSeen_3 : decode cX12_noSeen 3 = .ok (.ldc2_w 333, 3) := by decide +kernel
theorem dX12_noSeen_6 : decode cX12_noSeen 6 = .ok (.invokestatic 155, 3) := by decide +kernel
theorem dX12_noSeen_9 : decode cX12_noSeen 9 = .ok (.ifCond .eq 12, 3) := by decide +kernel
theorem dX12_noSeen_12 : decode cX12_noSeen 12 = .ok (.aload_n 0, 1) := by decide +kernel
theorem dX12_noSeen_13 : decode cX12_noSeen 13 = .ok (.iload_n 2, 1) := by decide +kernel
theorem dX12_noSeen_14 : decode cX12_noSeen 14 = .ok (.i2l, 1) := by decide +kernel
theorem dX12_noSeen_15 : decode cX12_noSeen 15 = .ok (.invokevirtual 271, 3) := by decide +kernel
theorem dX12_noSeen_18 : decode cX12_noSeen 18 = .ok (.ifCond .ne 6, 3) := by decide +kernel
theorem dX12_noSeen_21 : decode cX12_noSeen 21 = .ok (.bipush (-2), 2) := by decide +kernel
theorem dX12_noSeen_23 : decode cX12_noSeen 23 = .ok (.ireturn, 1) := by decide +kernel
theorem dX12_noSeen_24 : decode cX12_noSeen 24 = .ok (.aload_n 0, 1) := by decide +kernel
theorem dX12_noSeen_25 : decode cX12_noSeen 25 = .ok (.iload_n 1, 1) := by decide +kernel
theorem dX12_noSeen_26 : decode cX12_noSeen 26 = .ok (.invokevirtual 335, 3) := by decide +kernel
theorem dX12_noSeen_29 : decode cX12_noSeen 29 = .ok (.istore_n 3, 1) := by decide +kernel
theorem dX12_noSeen_30 : decode cX12_noSeen 30 = .ok (.iload_n 3, 1) := by decide +kernel
theorem dX12_noSeen_31 : decode cX12_noSeen 31 = .ok (.ifCond .eq 5, 3) := by decide +kernel
theorem dX12_noSeen_34 : decode cX12_noSeen 34 = .ok (.iload_n 3, 1) := by decide +kernel
theorem dX12_noSeen_35 : decode cX12_noSeen 35 = .ok (.ireturn, 1) := by decide +kernel
theorem dX12_noSeen_36 : decode cX12_noSeen 36 = .ok (.aload_n 0, 1) := by decide +kernel
theorem dX12_noSeen_37 : decode cX12_noSeen 37 = .ok (.getfield 83, 3) := by decide +kernel
theorem dX12_noSeen_40 : decode cX12_noSeen 40 = .ok (.iload_n 1, 1) := by decide +kernel
theorem dX12_noSeen_41 : decode cX12_noSeen 41 = .ok (.iaload, 1) := by decide +kernel
theorem dX12_noSeen_42 : decode cX12_noSeen 42 = .ok (.i2l, 1) := by decide +kernel
theorem dX12_noSeen_43 : decode cX12_noSeen 43 = .ok (.lconst 1, 1) := by decide +kernel
theorem dX12_noSeen_44 : decode cX12_noSeen 44 = .ok (.ldc2_w 312, 3) := by decide +kernel
theorem dX12_noSeen_47 : decode cX12_noSeen 47 = .ok (.invokestatic 155, 3) := by decide +kernel
theorem dX12_noSeen_50 : decode cX12_noSeen 50 = .ok (.ifCond .ne 6, 3) := by decide +kernel
theorem dX12_noSeen_53 : decode cX12_noSeen 53 = .ok (.bipush (-4), 2) := by decide +kernel
theorem dX12_noSeen_55 : decode cX12_noSeen 55 = .ok (.ireturn, 1) := by decide +kernel
theorem dX12_noSeen_56 : decode cX12_noSeen 56 = .ok (.iconst 0, 1) := by decide +kernel
theorem dX12_noSeen_57 : decode cX12_noSeen 57 = .ok (.istore 4, 2) := by decide +kernel
theorem dX12_noSeen_59 : decode cX12_noSeen 59 = .ok (.iload 4, 2) := by decide +kernel
theorem dX12_noSeen_61 : decode cX12_noSeen 61 = .ok (.aload_n 0, 1) := by decide +kernel
theorem dX12_noSeen_62 : decode cX12_noSeen 62 = .ok (.getfield 83, 3) := by decide +kernel
theorem dX12_noSeen_65 : decode cX12_noSeen 65 = .ok (.iload_n 1, 1) := by decide +kernel
theorem dX12_noSeen_66 : decode cX12_noSeen 66 = .ok (.iaload, 1) := by decide +kernel
theorem dX12_noSeen_67 : decode cX12_noSeen 67 = .ok (.if_icmp .ge 36, 3) := by decide +kernel
theorem dX12_noSeen_70 : decode cX12_noSeen 70 = .ok (.aload_n 0, 1) := by decide +kernel
theorem dX12_noSeen_71 : decode cX12_noSeen 71 = .ok (.getfield 86, 3) := by decide +kernel
theorem dX12_noSeen_74 : decode cX12_noSeen 74 = .ok (.bipush 40, 2) := by decide +kernel
theorem dX12_noSeen_76 : decode cX12_noSeen 76 = .ok (.iload_n 1, 1) := by decide +kernel
theorem dX12_noSeen_77 : decode cX12_noSeen 77 = .ok (.imul, 1) := by decide +kernel
theorem dX12_noSeen_78 : decode cX12_noSeen 78 = .ok (.iload 4, 2) := by decide +kernel
theorem dX12_noSeen_80 : decode cX12_noSeen 80 = .ok (.iadd, 1) := by decide +kernel
theorem dX12_noSeen_81 : decode cX12_noSeen 81 = .ok (.laload, 1) := by decide +kernel
theorem dX12_noSeen_82 : decode cX12_noSeen 82 = .ok (.ldc2_w 420, 3) := by decide +kernel
theorem dX12_noSeen_85 : decode cX12_noSeen 85 = .ok (.ldc2_w 310, 3) := by decide +kernel
theorem dX12_noSeen_88 : decode cX12_noSeen 88 = .ok (.invokestatic 155, 3) := by decide +kernel
theorem dX12_noSeen_91 : decode cX12_noSeen 91 = .ok (.ifCond .ne 6, 3) := by decide +kernel
theorem dX12_noSeen_94 : decode cX12_noSeen 94 = .ok (.bipush (-3), 2) := by decide +kernel
theorem dX12_noSeen_96 : decode cX12_noSeen 96 = .ok (.ireturn, 1) := by decide +kernel
theorem dX12_noSeen_97 : decode cX12_noSeen 97 = .ok (.iinc 4 1, 3) := by decide +kernel
theorem dX12_noSeen_100 : decode cX12_noSeen 100 = .ok (.goto (-41), 3) := by decide +kernel
theorem dX12_noSeen_103 : decode cX12_noSeen 103 = .ok (.iconst 0, 1) := by decide +kernel
theorem dX12_noSeen_104 : decode cX12_noSeen 104 = .ok (.ireturn, 1) := by decide +kernel
theorem dX12_dryIn_0 : decode cX12_dryIn 0 = .ok (.iload_n 2, 1) := by decide +kernel
theorem dX12_dryIn_1 : decode cX12_dryIn 1 = .ok (.aload_n 0, 1) := by decide +kernel
theorem dX12_dryIn_2 : decode cX12_dryIn 2 = .ok (.getfield 83, 3) := by decide +kernel
theorem dX12_dryIn_5 : decode cX12_dryIn 5 = .ok (.iload_n 1, 1) := by decide +kernel
theorem dX12_dryIn_6 : decode cX12_dryIn 6 = .ok (.iaload, 1) := by decide +kernel
theorem dX12_dryIn_7 : decode cX12_dryIn 7 = .ok (.iconst 1, 1) := by decide +kernel
theorem dX12_dryIn_8 : decode cX12_dryIn 8 = .ok (.isub, 1) := by decide +kernel
theorem dX12_dryIn_9 : decode cX12_dryIn 9 = .ok (.iload_n 3, 1) := by decide +kernel
theorem dX12_dryIn_10 : decode cX12_dryIn 10 = .ok (.isub, 1) := by decide +kernel
theorem dX12_dryIn_11 : decode cX12_dryIn 11 = .ok (.ishr, 1) := by decide +kernel
theorem dX12_dryIn_12 : decode cX12_dryIn 12 = .ok (.iconst 1, 1) := by decide +kernel
theorem dX12_dryIn_13 : decode cX12_dryIn 13 = .ok (.iand, 1) := by decide +kernel
theorem dX12_dryIn_14 : decode cX12_dryIn 14 = .ok (.ireturn, 1) := by decide +kernel
theorem dX12_isSeen_0 : decode cX12_isSeen 0 = .ok (.aload_n 0, 1) := by decide +kernel
theorem dX12_isSeen_1 : decode cX12_isSeen 1 = .ok (.invokevirtual 282, 3) := by decide +kernel
theorem dX12_isSeen_4 : decode cX12_isSeen 4 = .ok (.istore 4, 2) := by decide +kernel
theorem dX12_isSeen_6 : decode cX12_isSeen 6 = .ok (.iconst 0, 1) := by decide +kernel
theorem dX12_isSeen_7 : decode cX12_isSeen 7 = .ok (.istore 5, 2) := by decide +kernel
theorem dX12_isSeen_9 : decode cX12_isSeen 9 = .ok (.iload 5, 2) := by decide +kernel
theorem dX12_isSeen_11 : decode cX12_isSeen 11 = .ok (.aload_n 0, 1) := by decide +kernel
theorem dX12_isSeen_12 : decode cX12_isSeen 12 = .ok (.getfield 83, 3) := by decide +kernel
theorem dX12_isSeen_15 : decode cX12_isSeen 15 = .ok (.iload_n 1, 1) := by decide +kernel
theorem dX12_isSeen_16 : decode cX12_isSeen 16 = .ok (.iaload, 1) := by decide +kernel
theorem dX12_isSeen_17 : decode cX12_isSeen 17 = .ok (.if_icmp .ge 76, 3) := by decide +kernel
theorem dX12_isSeen_20 : decode cX12_isSeen 20 = .ok (.aload_n 0, 1) := by decide +kernel
theorem dX12_isSeen_21 : decode cX12_isSeen 21 = .ok (.iload 4, 2) := by decide +kernel
theorem dX12_isSeen_23 : decode cX12_isSeen 23 = .ok (.aload_n 0, 1) := by decide +kernel
theorem dX12_isSeen_24 : decode cX12_isSeen 24 = .ok (.getfield 13, 3) := by decide +kernel
theorem dX12_isSeen_27 : decode cX12_isSeen 27 = .ok (.bipush 23, 2) := by decide +kernel
theorem dX12_isSeen_29 : decode cX12_isSeen 29 = .ok (.iaload, 1) := by decide +kernel
theorem dX12_isSeen_30 : decode cX12_isSeen 30 = .ok (.aload_n 0, 1) := by decide +kernel
theorem dX12_isSeen_31 : decode cX12_isSeen 31 = .ok (.iload_n 1, 1) := by decide +kernel
theorem dX12_isSeen_32 : decode cX12_isSeen 32 = .ok (.iload_n 3, 1) := by decide +kernel
theorem dX12_isSeen_33 : decode cX12_isSeen 33 = .ok (.iload 5, 2) := by decide +kernel
theorem dX12_isSeen_35 : decode cX12_isSeen 35 = .ok (.invokevirtual 422, 3) := by decide +kernel
theorem dX12_isSeen_38 : decode cX12_isSeen 38 = .ok (.invokevirtual 294, 3) := by decide +kernel
theorem dX12_isSeen_41 : decode cX12_isSeen 41 = .ok (.istore 4, 2) := by decide +kernel
theorem dX12_isSeen_43 : decode cX12_isSeen 43 = .ok (.aload_n 0, 1) := by decide +kernel
theorem dX12_isSeen_44 : decode cX12_isSeen 44 = .ok (.getfield 86, 3) := by decide +kernel
theorem dX12_isSeen_47 : decode cX12_isSeen 47 = .ok (.bipush 40, 2) := by decide +kernel
theorem dX12_isSeen_49 : decode cX12_isSeen 49 = .ok (.iload_n 1, 1) := by decide +kernel
theorem dX12_isSeen_50 : decode cX12_isSeen 50 = .ok (.imul, 1) := by decide +kernel
theorem dX12_isSeen_51 : decode cX12_isSeen 51 = .ok (.iload 5, 2) := by decide +kernel
theorem dX12_isSeen_53 : decode cX12_isSeen 53 = .ok (.iadd, 1) := by decide +kernel
theorem dX12_isSeen_54 : decode cX12_isSeen 54 = .ok (.laload, 1) := by decide +kernel
theorem dX12_isSeen_55 : decode cX12_isSeen 55 = .ok (.ldc2_w 420, 3) := by decide +kernel
theorem dX12_isSeen_58 : decode cX12_isSeen 58 = .ok (.lcmp, 1) := by decide +kernel
theorem dX12_isSeen_59 : decode cX12_isSeen 59 = .ok (.ifCond .eq 28, 3) := by decide +kernel
theorem dX12_isSeen_62 : decode cX12_isSeen 62 = .ok (.aload_n 0, 1) := by decide +kernel
theorem dX12_isSeen_63 : decode cX12_isSeen 63 = .ok (.getfield 86, 3) := by decide +kernel
theorem dX12_isSeen_66 : decode cX12_isSeen 66 = .ok (.bipush 40, 2) := by decide +kernel
theorem dX12_isSeen_68 : decode cX12_isSeen 68 = .ok (.iload_n 1, 1) := by decide +kernel
theorem dX12_isSeen_69 : decode cX12_isSeen 69 = .ok (.imul, 1) := by decide +kernel
theorem dX12_isSeen_70 : decode cX12_isSeen 70 = .ok (.iload 5, 2) := by decide +kernel
theorem dX12_isSeen_72 : decode cX12_isSeen 72 = .ok (.iadd, 1) := by decide +kernel
theorem dX12_isSeen_73 : decode cX12_isSeen 73 = .ok (.laload, 1) := by decide +kernel
theorem dX12_isSeen_74 : decode cX12_isSeen 74 = .ok (.iload 4, 2) := by decide +kernel
theorem dX12_isSeen_76 : decode cX12_isSeen 76 = .ok (.iload_n 2, 1) := by decide +kernel
theorem dX12_isSeen_77 : decode cX12_isSeen 77 = .ok (.invokestatic 217, 3) := by decide +kernel
theorem dX12_isSeen_80 : decode cX12_isSeen 80 = .ok (.i2l, 1) := by decide +kernel
theorem dX12_isSeen_81 : decode cX12_isSeen 81 = .ok (.lcmp, 1) := by decide +kernel
theorem dX12_isSeen_82 : decode cX12_isSeen 82 = .ok (.ifCond .eq 5, 3) := by decide +kernel
theorem dX12_isSeen_85 : decode cX12_isSeen 85 = .ok (.iconst 0, 1) := by decide +kernel
theorem dX12_isSeen_86 : decode cX12_isSeen 86 = .ok (.ireturn, 1) := by decide +kernel
theorem dX12_isSeen_87 : decode cX12_isSeen 87 = .ok (.iinc 5 1, 3) := by decide +kernel
theorem dX12_isSeen_90 : decode cX12_isSeen 90 = .ok (.goto (-81), 3) := by decide +kernel
theorem dX12_isSeen_93 : decode cX12_isSeen 93 = .ok (.iconst 1, 1) := by decide +kernel
theorem dX12_isSeen_94 : decode cX12_isSeen 94 = .ok (.ireturn, 1) := by decide +kernel
theorem dX12_seen_0 : decode cX12_seen 0 = .ok (.aload_n 0, 1) := by decide +kernel
theorem dX12_seen_1 : decode cX12_seen 1 = .ok (.iconst 0, 1) := by decide +kernel
theorem dX12_seen_2 : decode cX12_seen 2 = .ok (.putfield 1, 3) := by decide +kernel
theorem dX12_seen_5 : decode cX12_seen 5 = .ok (.aload_n 0, 1) := by decide +kernel
theorem dX12_seen_6 : decode cX12_seen 6 = .ok (.iload_n 1, 1) := by decide +kernel
theorem dX12_seen_7 : decode cX12_seen 7 = .ok (.iload_n 2, 1) := by decide +kernel
theorem dX12_seen_8 : decode cX12_seen 8 = .ok (.invokevirtual 425, 3) := by decide +kernel
theorem dX12_seen_11 : decode cX12_seen 11 = .ok (.istore_n 3, 1) := by decide +kernel
theorem dX12_seen_12 : decode cX12_seen 12 = .ok (.iload_n 3, 1) := by decide +kernel
theorem dX12_seen_13 : decode cX12_seen 13 = .ok (.ifCond .eq 5, 3) := by decide +kernel
theorem dX12_seen_16 : decode cX12_seen 16 = .ok (.iload_n 3, 1) := by decide +kernel
theorem dX12_seen_17 : decode cX12_seen 17 = .ok (.ireturn, 1) := by decide +kernel
theorem dX12_seen_18 : decode cX12_seen 18 = .ok (.iconst 0, 1) := by decide +kernel
theorem dX12_seen_19 : decode cX12_seen 19 = .ok (.istore 4, 2) := by decide +kernel
theorem dX12_seen_21 : decode cX12_seen 21 = .ok (.iconst 0, 1) := by decide +kernel
theorem dX12_seen_22 : decode cX12_seen 22 = .ok (.istore 5, 2) := by decide +kernel
theorem dX12_seen_24 : decode cX12_seen 24 = .ok (.iload 5, 2) := by decide +kernel
theorem dX12_seen_26 : decode cX12_seen 26 = .ok (.iconst 1, 1) := by decide +kernel
theorem dX12_seen_27 : decode cX12_seen 27 = .ok (.aload_n 0, 1) := by decide +kernel
theorem dX12_seen_28 : decode cX12_seen 28 = .ok (.getfield 83, 3) := by decide +kernel
theorem dX12_seen_31 : decode cX12_seen 31 = .ok (.iload_n 1, 1) := by decide +kernel
theorem dX12_seen_32 : decode cX12_seen 32 = .ok (.iaload, 1) := by decide +kernel
theorem dX12_seen_33 : decode cX12_seen 33 = .ok (.ishl, 1) := by decide +kernel
theorem dX12_seen_34 : decode cX12_seen 34 = .ok (.if_icmp .ge 30, 3) := by decide +kernel
theorem dX12_seen_37 : decode cX12_seen 37 = .ok (.iload 4, 2) := by decide +kernel
theorem dX12_seen_39 : decode cX12_seen 39 = .ok (.aload_n 0, 1) := by decide +kernel
theorem dX12_seen_40 : decode cX12_seen 40 = .ok (.iload_n 1, 1) := by decide +kernel
theorem dX12_seen_41 : decode cX12_seen 41 = .ok (.iload_n 2, 1) := by decide +kernel
theorem dX12_seen_42 : decode cX12_seen 42 = .ok (.iload 5, 2) := by decide +kernel
theorem dX12_seen_44 : decode cX12_seen 44 = .ok (.invokevirtual 428, 3) := by decide +kernel
theorem dX12_seen_47 : decode cX12_seen 47 = .ok (.ifCond .eq 7, 3) := by decide +kernel
theorem dX12_seen_50 : decode cX12_seen 50 = .ok (.iconst 1, 1) := by decide +kernel
theorem dX12_seen_51 : decode cX12_seen 51 = .ok (.goto 4, 3) := by decide +kernel
theorem dX12_seen_54 : decode cX12_seen 54 = .ok (.iconst 0, 1) := by decide +kernel
theorem dX12_seen_55 : decode cX12_seen 55 = .ok (.iadd, 1) := by decide +kernel
theorem dX12_seen_56 : decode cX12_seen 56 = .ok (.istore 4, 2) := by decide +kernel
theorem dX12_seen_58 : decode cX12_seen 58 = .ok (.iinc 5 1, 3) := by decide +kernel
theorem dX12_seen_61 : decode cX12_seen 61 = .ok (.goto (-37), 3) := by decide +kernel
theorem dX12_seen_64 : decode cX12_seen 64 = .ok (.iload 4, 2) := by decide +kernel
theorem dX12_seen_66 : decode cX12_seen 66 = .ok (.ireturn, 1) := by decide +kernel
theorem dX12_seenDry_0 : decode cX12_seenDry 0 = .ok (.aload_n 0, 1) := by decide +kernel
theorem dX12_seenDry_1 : decode cX12_seenDry 1 = .ok (.iconst 0, 1) := by decide +kernel
theorem dX12_seenDry_2 : decode cX12_seenDry 2 = .ok (.putfield 1, 3) := by decide +kernel
theorem dX12_seenDry_5 : decode cX12_seenDry 5 = .ok (.aload_n 0, 1) := by decide +kernel
theorem dX12_seenDry_6 : decode cX12_seenDry 6 = .ok (.iload_n 1, 1) := by decide +kernel
theorem dX12_seenDry_7 : decode cX12_seenDry 7 = .ok (.iload_n 2, 1) := by decide +kernel
theorem dX12_seenDry_8 : decode cX12_seenDry 8 = .ok (.invokevirtual 425, 3) := by decide +kernel
theorem dX12_seenDry_11 : decode cX12_seenDry 11 = .ok (.istore 4, 2) := by decide +kernel
theorem dX12_seenDry_13 : decode cX12_seenDry 13 = .ok (.iload 4, 2) := by decide +kernel
theorem dX12_seenDry_15 : decode cX12_seenDry 15 = .ok (.ifCond .eq 6, 3) := by decide +kernel
theorem dX12_seenDry_18 : decode cX12_seenDry 18 = .ok (.iload 4, 2) := by decide +kernel
theorem dX12_seenDry_20 : decode cX12_seenDry 20 = .ok (.ireturn, 1) := by decide +kernel
theorem dX12_seenDry_21 : decode cX12_seenDry 21 = .ok (.iload_n 3, 1) := by decide +kernel
theorem dX12_seenDry_22 : decode cX12_seenDry 22 = .ok (.ifCond .ge 6, 3) := by decide +kernel
theorem dX12_seenDry_25 : decode cX12_seenDry 25 = .ok (.bipush (-3), 2) := by decide +kernel
theorem dX12_seenDry_27 : decode cX12_seenDry 27 = .ok (.ireturn, 1) := by decide +kernel
theorem dX12_seenDry_28 : decode cX12_seenDry 28 = .ok (.iconst 0, 1) := by decide +kernel
theorem dX12_seenDry_29 : decode cX12_seenDry 29 = .ok (.istore 5, 2) := by decide +kernel
theorem dX12_seenDry_31 : decode cX12_seenDry 31 = .ok (.iload 5, 2) := by decide +kernel
theorem dX12_seenDry_33 : decode cX12_seenDry 33 = .ok (.iconst 1, 1) := by decide +kernel
theorem dX12_seenDry_34 : decode cX12_seenDry 34 = .ok (.aload_n 0, 1) := by decide +kernel
theorem dX12_seenDry_35 : decode cX12_seenDry 35 = .ok (.getfield 83, 3) := by decide +kernel
theorem dX12_seenDry_38 : decode cX12_seenDry 38 = .ok (.iload_n 1, 1) := by decide +kernel
theorem dX12_seenDry_39 : decode cX12_seenDry 39 = .ok (.iaload, 1) := by decide +kernel
theorem dX12_seenDry_40 : decode cX12_seenDry 40 = .ok (.ishl, 1) := by decide +kernel
theorem dX12_seenDry_41 : decode cX12_seenDry 41 = .ok (.if_icmp .ge 39, 3) := by decide +kernel
theorem dX12_seenDry_44 : decode cX12_seenDry 44 = .ok (.iload_n 3, 1) := by decide +kernel
theorem dX12_seenDry_45 : decode cX12_seenDry 45 = .ok (.aload_n 0, 1) := by decide +kernel
theorem dX12_seenDry_46 : decode cX12_seenDry 46 = .ok (.getfield 83, 3) := by decide +kernel
theorem dX12_seenDry_49 : decode cX12_seenDry 49 = .ok (.iload_n 1, 1) := by decide +kernel
theorem dX12_seenDry_50 : decode cX12_seenDry 50 = .ok (.iaload, 1) := by decide +kernel
theorem dX12_seenDry_51 : decode cX12_seenDry 51 = .ok (.if_icmp .ge 29, 3) := by decide +kernel
theorem dX12_seenDry_54 : decode cX12_seenDry 54 = .ok (.aload_n 0, 1) := by decide +kernel
theorem dX12_seenDry_55 : decode cX12_seenDry 55 = .ok (.iload_n 1, 1) := by decide +kernel
theorem dX12_seenDry_56 : decode cX12_seenDry 56 = .ok (.iload_n 2, 1) := by decide +kernel
theorem dX12_seenDry_57 : decode cX12_seenDry 57 = .ok (.iload 5, 2) := by decide +kernel
theorem dX12_seenDry_59 : decode cX12_seenDry 59 = .ok (.invokevirtual 428, 3) := by decide +kernel
theorem dX12_seenDry_62 : decode cX12_seenDry 62 = .ok (.ifCond .eq 12, 3) := by decide +kernel
theorem dX12_seenDry_65 : decode cX12_seenDry 65 = .ok (.aload_n 0, 1) := by decide +kernel
theorem dX12_seenDry_66 : decode cX12_seenDry 66 = .ok (.iload_n 1, 1) := by decide +kernel
theorem dX12_seenDry_67 : decode cX12_seenDry 67 = .ok (.iload 5, 2) := by decide +kernel
theorem dX12_seenDry_69 : decode cX12_seenDry 69 = .ok (.iload_n 3, 1) := by decide +kernel
theorem dX12_seenDry_70 : decode cX12_seenDry 70 = .ok (.invokevirtual 422, 3) := by decide +kernel
theorem dX12_seenDry_73 : decode cX12_seenDry 73 = .ok (.ireturn, 1) := by decide +kernel
theorem dX12_seenDry_74 : decode cX12_seenDry 74 = .ok (.iinc 5 1, 3) := by decide +kernel
theorem dX12_seenDry_77 : decode cX12_seenDry 77 = .ok (.goto (-46), 3) := by decide +kernel
theorem dX12_seenDry_80 : decode cX12_seenDry 80 = .ok (.iconst (-1), 1) := by decide +kernel
theorem dX12_seenDry_81 : decode cX12_seenDry 81 = .ok (.ireturn, 1) := by decide +kernel
theorem dX12_surely_0 : decode cX12_surely 0 = .ok (.aload_n 0, 1) := by decide +kernel
theorem dX12_surely_1 : decode cX12_surely 1 = .ok (.iconst 0, 1) := by decide +kernel
theorem dX12_surely_2 : decode cX12_surely 2 = .ok (.putfield 1, 3) := by decide +kernel
theorem dX12_surely_5 : decode cX12_surely 5 = .ok (.iload_n 3, 1) := by decide +kernel
theorem dX12_surely_6 : decode cX12_surely 6 = .ok (.i2l, 1) := by decide +kernel
theorem dX12_surely_7 : decode cX12_surely 7 = .ok (.invokestatic 278, 3) := by decide +kernel
theorem dX12_surely_10 : decode cX12_surely 10 = .ok (.ifCond .ne 6, 3) := by decide +kernel
theorem dX12_surely_13 : decode cX12_surely 13 = .ok (.bipush (-2), 2) := by decide +kernel
theorem dX12_surely_15 : decode cX12_surely 15 = .ok (.ireturn, 1) := by decide +kernel
theorem dX12_surely_16 : decode cX12_surely 16 = .ok (.aload_n 0, 1) := by decide +kernel
theorem dX12_surely_17 : decode cX12_surely 17 = .ok (.iload_n 1, 1) := by decide +kernel
theorem dX12_surely_18 : decode cX12_surely 18 = .ok (.iload_n 2, 1) := by decide +kernel
theorem dX12_surely_19 : decode cX12_surely 19 = .ok (.invokevirtual 425, 3) := by decide +kernel
theorem dX12_surely_22 : decode cX12_surely 22 = .ok (.istore 4, 2) := by decide +kernel
theorem dX12_surely_24 : decode cX12_surely 24 = .ok (.iload 4, 2) := by decide +kernel
theorem dX12_surely_26 : decode cX12_surely 26 = .ok (.ifCond .eq 6, 3) := by decide +kernel
theorem dX12_surely_29 : decode cX12_surely 29 = .ok (.iload 4, 2) := by decide +kernel
theorem dX12_surely_31 : decode cX12_surely 31 = .ok (.ireturn, 1) := by decide +kernel
theorem dX12_surely_32 : decode cX12_surely 32 = .ok (.iconst 1, 1) := by decide +kernel
theorem dX12_surely_33 : decode cX12_surely 33 = .ok (.aload_n 0, 1) := by decide +kernel
theorem dX12_surely_34 : decode cX12_surely 34 = .ok (.getfield 83, 3) := by decide +kernel
theorem dX12_surely_37 : decode cX12_surely 37 = .ok (.iload_n 1, 1) := by decide +kernel
theorem dX12_surely_38 : decode cX12_surely 38 = .ok (.iaload, 1) := by decide +kernel
theorem dX12_surely_39 : decode cX12_surely 39 = .ok (.ishl, 1) := by decide +kernel
theorem dX12_surely_40 : decode cX12_surely 40 = .ok (.iconst 1, 1) := by decide +kernel
theorem dX12_surely_41 : decode cX12_surely 41 = .ok (.isub, 1) := by decide +kernel
theorem dX12_surely_42 : decode cX12_surely 42 = .ok (.istore 5, 2) := by decide +kernel
theorem dX12_surely_44 : decode cX12_surely 44 = .ok (.iconst 0, 1) := by decide +kernel
theorem dX12_surely_45 : decode cX12_surely 45 = .ok (.istore 6, 2) := by decide +kernel
theorem dX12_surely_47 : decode cX12_surely 47 = .ok (.iconst 0, 1) := by decide +kernel
theorem dX12_surely_48 : decode cX12_surely 48 = .ok (.istore 7, 2) := by decide +kernel
theorem dX12_surely_50 : decode cX12_surely 50 = .ok (.iload 7, 2) := by decide +kernel
theorem dX12_surely_52 : decode cX12_surely 52 = .ok (.iconst 1, 1) := by decide +kernel
theorem dX12_surely_53 : decode cX12_surely 53 = .ok (.aload_n 0, 1) := by decide +kernel
theorem dX12_surely_54 : decode cX12_surely 54 = .ok (.getfield 83, 3) := by decide +kernel
theorem dX12_surely_57 : decode cX12_surely 57 = .ok (.iload_n 1, 1) := by decide +kernel
theorem dX12_surely_58 : decode cX12_surely 58 = .ok (.iaload, 1) := by decide +kernel
theorem dX12_surely_59 : decode cX12_surely 59 = .ok (.ishl, 1) := by decide +kernel
theorem dX12_surely_60 : decode cX12_surely 60 = .ok (.if_icmp .ge 70, 3) := by decide +kernel
theorem dX12_surely_63 : decode cX12_surely 63 = .ok (.aload_n 0, 1) := by decide +kernel
theorem dX12_surely_64 : decode cX12_surely 64 = .ok (.iload_n 1, 1) := by decide +kernel
theorem dX12_surely_65 : decode cX12_surely 65 = .ok (.iload_n 2, 1) := by decide +kernel
theorem dX12_surely_66 : decode cX12_surely 66 = .ok (.iload 7, 2) := by decide +kernel
theorem dX12_surely_68 : decode cX12_surely 68 = .ok (.invokevirtual 428, 3) := by decide +kernel
theorem dX12_surely_71 : decode cX12_surely 71 = .ok (.ifCond .ne 6, 3) := by decide +kernel
theorem dX12_surely_74 : decode cX12_surely 74 = .ok (.goto 50, 3) := by decide +kernel
theorem dX12_surely_77 : decode cX12_surely 77 = .ok (.iconst 1, 1) := by decide +kernel
theorem dX12_surely_78 : decode cX12_surely 78 = .ok (.istore 6, 2) := by decide +kernel
theorem dX12_surely_80 : decode cX12_surely 80 = .ok (.iconst 0, 1) := by decide +kernel
theorem dX12_surely_81 : decode cX12_surely 81 = .ok (.istore 8, 2) := by decide +kernel
theorem dX12_surely_83 : decode cX12_surely 83 = .ok (.iload 8, 2) := by decide +kernel
theorem dX12_surely_85 : decode cX12_surely 85 = .ok (.aload_n 0, 1) := by decide +kernel
theorem dX12_surely_86 : decode cX12_surely 86 = .ok (.getfield 83, 3) := by decide +kernel
theorem dX12_surely_89 : decode cX12_surely 89 = .ok (.iload_n 1, 1) := by decide +kernel
theorem dX12_surely_90 : decode cX12_surely 90 = .ok (.iaload, 1) := by decide +kernel
theorem dX12_surely_91 : decode cX12_surely 91 = .ok (.if_icmp .ge 33, 3) := by decide +kernel
theorem dX12_surely_94 : decode cX12_surely 94 = .ok (.aload_n 0, 1) := by decide +kernel
theorem dX12_surely_95 : decode cX12_surely 95 = .ok (.iload_n 1, 1) := by decide +kernel
theorem dX12_surely_96 : decode cX12_surely 96 = .ok (.iload 7, 2) := by decide +kernel
theorem dX12_surely_98 : decode cX12_surely 98 = .ok (.iload 8, 2) := by decide +kernel
theorem dX12_surely_100 : decode cX12_surely 100 = .ok (.invokevirtual 422, 3) := by decide +kernel
theorem dX12_surely_103 : decode cX12_surely 103 = .ok (.iload_n 3, 1) := by decide +kernel
theorem dX12_surely_104 : decode cX12_surely 104 = .ok (.if_icmp .eq 14, 3) := by decide +kernel
theorem dX12_surely_107 : decode cX12_surely 107 = .ok (.iload 5, 2) := by decide +kernel
theorem dX12_surely_109 : decode cX12_surely 109 = .ok (.iconst 1, 1) := by decide +kernel
theorem dX12_surely_110 : decode cX12_surely 110 = .ok (.iload 8, 2) := by decide +kernel
theorem dX12_surely_112 : decode cX12_surely 112 = .ok (.ishl, 1) := by decide +kernel
theorem dX12_surely_113 : decode cX12_surely 113 = .ok (.iconst (-1), 1) := by decide +kernel
theorem dX12_surely_114 : decode cX12_surely 114 = .ok (.ixor, 1) := by decide +kernel
theorem dX12_surely_115 : decode cX12_surely 115 = .ok (.iand, 1) := by decide +kernel
theorem dX12_surely_116 : decode cX12_surely 116 = .ok (.istore 5, 2) := by decide +kernel
theorem dX12_surely_118 : decode cX12_surely 118 = .ok (.iinc 8 1, 3) := by decide +kernel
theorem dX12_surely_121 : decode cX12_surely 121 = .ok (.goto (-38), 3) := by decide +kernel
theorem dX12_surely_124 : decode cX12_surely 124 = .ok (.iinc 7 1, 3) := by decide +kernel
theorem dX12_surely_127 : decode cX12_surely 127 = .ok (.goto (-77), 3) := by decide +kernel
theorem dX12_surely_130 : decode cX12_surely 130 = .ok (.iload 6, 2) := by decide +kernel
theorem dX12_surely_132 : decode cX12_surely 132 = .ok (.ifCond .eq 8, 3) := by decide +kernel
theorem dX12_surely_135 : decode cX12_surely 135 = .ok (.iload 5, 2) := by decide +kernel
theorem dX12_surely_137 : decode cX12_surely 137 = .ok (.goto 4, 3) := by decide +kernel
theorem dX12_surely_140 : decode cX12_surely 140 = .ok (.iconst 0, 1) := by decide +kernel
theorem dX12_surely_141 : decode cX12_surely 141 = .ok (.ireturn, 1) := by decide +kernel
theorem dX12_chalksOf_0 : decode cX12_chalksOf 0 = .ok (.aload_n 0, 1) := by decide +kernel
theorem dX12_chalksOf_1 : decode cX12_chalksOf 1 = .ok (.getfield 13, 3) := by decide +kernel
theorem dX12_chalksOf_4 : decode cX12_chalksOf 4 = .ok (.bipush 19, 2) := by decide +kernel
theorem dX12_chalksOf_6 : decode cX12_chalksOf 6 = .ok (.iload_n 2, 1) := by decide +kernel
theorem dX12_chalksOf_7 : decode cX12_chalksOf 7 = .ok (.iadd, 1) := by decide +kernel
theorem dX12_chalksOf_8 : decode cX12_chalksOf 8 = .ok (.iaload, 1) := by decide +kernel
theorem dX12_chalksOf_9 : decode cX12_chalksOf 9 = .ok (.istore_n 3, 1) := by decide +kernel
theorem dX12_chalksOf_10 : decode cX12_chalksOf 10 = .ok (.iconst 0, 1) := by decide +kernel
theorem dX12_chalksOf_11 : decode cX12_chalksOf 11 = .ok (.istore 4, 2) := by decide +kernel
theorem dX12_chalksOf_13 : decode cX12_chalksOf 13 = .ok (.iconst 0, 1) := by decide +kernel
theorem dX12_chalksOf_14 : decode cX12_chalksOf 14 = .ok (.istore 5, 2) := by decide +kernel
theorem dX12_chalksOf_16 : decode cX12_chalksOf 16 = .ok (.iload 5, 2) := by decide +kernel
theorem dX12_chalksOf_18 : decode cX12_chalksOf 18 = .ok (.bipush 10, 2) := by decide +kernel
theorem dX12_chalksOf_20 : decode cX12_chalksOf 20 = .ok (.if_icmp .ge 43, 3) := by decide +kernel
theorem dX12_chalksOf_23 : decode cX12_chalksOf 23 = .ok (.aload_n 0, 1) := by decide +kernel
theorem dX12_chalksOf_24 : decode cX12_chalksOf 24 = .ok (.getfield 13, 3) := by decide +kernel
theorem dX12_chalksOf_27 : decode cX12_chalksOf 27 = .ok (.bipush 19, 2) := by decide +kernel
theorem dX12_chalksOf_29 : decode cX12_chalksOf 29 = .ok (.iload_n 2, 1) := by decide +kernel
theorem dX12_chalksOf_30 : decode cX12_chalksOf 30 = .ok (.iadd, 1) := by decide +kernel
theorem dX12_chalksOf_31 : decode cX12_chalksOf 31 = .ok (.iload 5, 2) := by decide +kernel
theorem dX12_chalksOf_33 : decode cX12_chalksOf 33 = .ok (.iastore, 1) := by decide +kernel
theorem dX12_chalksOf_34 : decode cX12_chalksOf 34 = .ok (.iload 4, 2) := by decide +kernel
theorem dX12_chalksOf_36 : decode cX12_chalksOf 36 = .ok (.aload_n 0, 1) := by decide +kernel
theorem dX12_chalksOf_37 : decode cX12_chalksOf 37 = .ok (.iload_n 1, 1) := by decide +kernel
theorem dX12_chalksOf_38 : decode cX12_chalksOf 38 = .ok (.iload_n 2, 1) := by decide +kernel
theorem dX12_chalksOf_39 : decode cX12_chalksOf 39 = .ok (.iconst 0, 1) := by decide +kernel
theorem dX12_chalksOf_40 : decode cX12_chalksOf 40 = .ok (.invokevirtual 428, 3) := by decide +kernel
theorem dX12_chalksOf_43 : decode cX12_chalksOf 43 = .ok (.ifCond .eq 10, 3) := by decide +kernel
theorem dX12_chalksOf_46 : decode cX12_chalksOf 46 = .ok (.iconst 1, 1) := by decide +kernel
theorem dX12_chalksOf_47 : decode cX12_chalksOf 47 = .ok (.iload 5, 2) := by decide +kernel
theorem dX12_chalksOf_49 : decode cX12_chalksOf 49 = .ok (.ishl, 1) := by decide +kernel
theorem dX12_chalksOf_50 : decode cX12_chalksOf 50 = .ok (.goto 4, 3) := by decide +kernel
theorem dX12_chalksOf_53 : decode cX12_chalksOf 53 = .ok (.iconst 0, 1) := by decide +kernel
theorem dX12_chalksOf_54 : decode cX12_chalksOf 54 = .ok (.ior, 1) := by decide +kernel
theorem dX12_chalksOf_55 : decode cX12_chalksOf 55 = .ok (.istore 4, 2) := by decide +kernel
theorem dX12_chalksOf_57 : decode cX12_chalksOf 57 = .ok (.iinc 5 1, 3) := by decide +kernel
theorem dX12_chalksOf_60 : decode cX12_chalksOf 60 = .ok (.goto (-44), 3) := by decide +kernel
theorem dX12_chalksOf_63 : decode cX12_chalksOf 63 = .ok (.aload_n 0, 1) := by decide +kernel
theorem dX12_chalksOf_64 : decode cX12_chalksOf 64 = .ok (.getfield 13, 3) := by decide +kernel
theorem dX12_chalksOf_67 : decode cX12_chalksOf 67 = .ok (.bipush 19, 2) := by decide +kernel
theorem dX12_chalksOf_69 : decode cX12_chalksOf 69 = .ok (.iload_n 2, 1) := by decide +kernel
theorem dX12_chalksOf_70 : decode cX12_chalksOf 70 = .ok (.iadd, 1) := by decide +kernel
theorem dX12_chalksOf_71 : decode cX12_chalksOf 71 = .ok (.iload_n 3, 1) := by decide +kernel
theorem dX12_chalksOf_72 : decode cX12_chalksOf 72 = .ok (.iastore, 1) := by decide +kernel
theorem dX12_chalksOf_73 : decode cX12_chalksOf 73 = .ok (.iload 4, 2) := by decide +kernel
theorem dX12_chalksOf_75 : decode cX12_chalksOf 75 = .ok (.ireturn, 1) := by decide +kernel
theorem dX12_chalks_0 : decode cX12_chalks 0 = .ok (.aload_n 0, 1) := by decide +kernel
theorem dX12_chalks_1 : decode cX12_chalks 1 = .ok (.iconst 0, 1) := by decide +kernel
theorem dX12_chalks_2 : decode cX12_chalks 2 = .ok (.putfield 1, 3) := by decide +kernel
theorem dX12_chalks_5 : decode cX12_chalks 5 = .ok (.aload_n 0, 1) := by decide +kernel
theorem dX12_chalks_6 : decode cX12_chalks 6 = .ok (.iload_n 1, 1) := by decide +kernel
theorem dX12_chalks_7 : decode cX12_chalks 7 = .ok (.iload_n 2, 1) := by decide +kernel
theorem dX12_chalks_8 : decode cX12_chalks 8 = .ok (.invokevirtual 425, 3) := by decide +kernel
theorem dX12_chalks_11 : decode cX12_chalks 11 = .ok (.istore_n 3, 1) := by decide +kernel
theorem dX12_chalks_12 : decode cX12_chalks 12 = .ok (.iload_n 3, 1) := by decide +kernel
theorem dX12_chalks_13 : decode cX12_chalks 13 = .ok (.ifCond .eq 7, 3) := by decide +kernel
theorem dX12_chalks_16 : decode cX12_chalks 16 = .ok (.iload_n 3, 1) := by decide +kernel
theorem dX12_chalks_17 : decode cX12_chalks 17 = .ok (.goto 9, 3) := by decide +kernel
theorem dX12_chalks_20 : decode cX12_chalks 20 = .ok (.aload_n 0, 1) := by decide +kernel
theorem dX12_chalks_21 : decode cX12_chalks 21 = .ok (.iload_n 1, 1) := by decide +kernel
theorem dX12_chalks_22 : decode cX12_chalks 22 = .ok (.iload_n 2, 1) := by decide +kernel
theorem dX12_chalks_23 : decode cX12_chalks 23 = .ok (.invokevirtual 432, 3) := by decide +kernel
theorem dX12_chalks_26 : decode cX12_chalks 26 = .ok (.ireturn, 1) := by decide +kernel
theorem dX12_mostOften_0 : decode cX12_mostOften 0 = .ok (.iconst 0, 1) := by decide +kernel
theorem dX12_mostOften_1 : decode cX12_mostOften 1 = .ok (.istore 4, 2) := by decide +kernel
theorem dX12_mostOften_3 : decode cX12_mostOften 3 = .ok (.iconst 0, 1) := by decide +kernel
theorem dX12_mostOften_4 : decode cX12_mostOften 4 = .ok (.istore 5, 2) := by decide +kernel
theorem dX12_mostOften_6 : decode cX12_mostOften 6 = .ok (.iload 5, 2) := by decide +kernel
theorem dX12_mostOften_8 : decode cX12_mostOften 8 = .ok (.bipush 19, 2) := by decide +kernel
theorem dX12_mostOften_10 : decode cX12_mostOften 10 = .ok (.if_icmp .ge 17, 3) := by decide +kernel
theorem dX12_mostOften_13 : decode cX12_mostOften 13 = .ok (.aload_n 0, 1) := by decide +kernel
theorem dX12_mostOften_14 : decode cX12_mostOften 14 = .ok (.getfield 74, 3) := by decide +kernel
theorem dX12_mostOften_17 : decode cX12_mostOften 17 = .ok (.iload 5, 2) := by decide +kernel
theorem dX12_mostOften_19 : decode cX12_mostOften 19 = .ok (.iconst 0, 1) := by decide +kernel
theorem dX12_mostOften_20 : decode cX12_mostOften 20 = .ok (.iastore, 1) := by decide +kernel
theorem dX12_mostOften_21 : decode cX12_mostOften 21 = .ok (.iinc 5 1, 3) := by decide +kernel
theorem dX12_mostOften_24 : decode cX12_mostOften 24 = .ok (.goto (-18), 3) := by decide +kernel
theorem dX12_mostOften_27 : decode cX12_mostOften 27 = .ok (.iconst 0, 1) := by decide +kernel
theorem dX12_mostOften_28 : decode cX12_mostOften 28 = .ok (.istore 5, 2) := by decide +kernel
theorem dX12_mostOften_30 : decode cX12_mostOften 30 = .ok (.iload 5, 2) := by decide +kernel
theorem dX12_mostOften_32 : decode cX12_mostOften 32 = .ok (.bipush 10, 2) := by decide +kernel
theorem dX12_mostOften_34 : decode cX12_mostOften 34 = .ok (.if_icmp .ge 93, 3) := by decide +kernel
theorem dX12_mostOften_37 : decode cX12_mostOften 37 = .ok (.iload_n 3, 1) := by decide +kernel
theorem dX12_mostOften_38 : decode cX12_mostOften 38 = .ok (.i2l, 1) := by decide +kernel
theorem dX12_mostOften_39 : decode cX12_mostOften 39 = .ok (.iload 5, 2) := by decide +kernel
theorem dX12_mostOften_41 : decode cX12_mostOften 41 = .ok (.invokestatic 435, 3) := by decide +kernel
theorem dX12_mostOften_44 : decode cX12_mostOften 44 = .ok (.ifCond .ne 6, 3) := by decide +kernel
theorem dX12_mostOften_47 : decode cX12_mostOften 47 = .ok (.goto 74, 3) := by decide +kernel
theorem dX12_mostOften_50 : decode cX12_mostOften 50 = .ok (.bipush 9, 2) := by decide +kernel
theorem dX12_mostOften_52 : decode cX12_mostOften 52 = .ok (.aload_n 0, 1) := by decide +kernel
theorem dX12_mostOften_53 : decode cX12_mostOften 53 = .ok (.iload_n 1, 1) := by decide +kernel
theorem dX12_mostOften_54 : decode cX12_mostOften 54 = .ok (.iload 5, 2) := by decide +kernel
theorem dX12_mostOften_56 : decode cX12_mostOften 56 = .ok (.iload_n 2, 1) := by decide +kernel
theorem dX12_mostOften_57 : decode cX12_mostOften 57 = .ok (.aload_n 0, 1) := by decide +kernel
theorem dX12_mostOften_58 : decode cX12_mostOften 58 = .ok (.getfield 13, 3) := by decide +kernel
theorem dX12_mostOften_61 : decode cX12_mostOften 61 = .ok (.bipush 15, 2) := by decide +kernel
theorem dX12_mostOften_63 : decode cX12_mostOften 63 = .ok (.iload_n 1, 1) := by decide +kernel
theorem dX12_mostOften_64 : decode cX12_mostOften 64 = .ok (.iadd, 1) := by decide +kernel
theorem dX12_mostOften_65 : decode cX12_mostOften 65 = .ok (.iaload, 1) := by decide +kernel
theorem dX12_mostOften_66 : decode cX12_mostOften 66 = .ok (.aload_n 0, 1) := by decide +kernel
theorem dX12_mostOften_67 : decode cX12_mostOften 67 = .ok (.aload_n 0, 1) := by decide +kernel
theorem dX12_mostOften_68 : decode cX12_mostOften 68 = .ok (.invokevirtual 282, 3) := by decide +kernel
theorem dX12_mostOften_71 : decode cX12_mostOften 71 = .ok (.invokevirtual 233, 3) := by decide +kernel
theorem dX12_mostOften_74 : decode cX12_mostOften 74 = .ok (.invokestatic 236, 3) := by decide +kernel
theorem dX12_mostOften_77 : decode cX12_mostOften 77 = .ok (.iconst 0, 1) := by decide +kernel
theorem dX12_mostOften_78 : decode cX12_mostOften 78 = .ok (.invokevirtual 251, 3) := by decide +kernel
theorem dX12_mostOften_81 : decode cX12_mostOften 81 = .ok (.iadd, 1) := by decide +kernel
theorem dX12_mostOften_82 : decode cX12_mostOften 82 = .ok (.istore 6, 2) := by decide +kernel
theorem dX12_mostOften_84 : decode cX12_mostOften 84 = .ok (.aload_n 0, 1) := by decide +kernel
theorem dX12_mostOften_85 : decode cX12_mostOften 85 = .ok (.getfield 74, 3) := by decide +kernel
theorem dX12_mostOften_88 : decode cX12_mostOften 88 = .ok (.iload 6, 2) := by decide +kernel
theorem dX12_mostOften_90 : decode cX12_mostOften 90 = .ok (.dup2, 1) := by decide +kernel
theorem dX12_mostOften_91 : decode cX12_mostOften 91 = .ok (.iaload, 1) := by decide +kernel
theorem dX12_mostOften_92 : decode cX12_mostOften 92 = .ok (.iconst 1, 1) := by decide +kernel
theorem dX12_mostOften_93 : decode cX12_mostOften 93 = .ok (.iadd, 1) := by decide +kernel
theorem dX12_mostOften_94 : decode cX12_mostOften 94 = .ok (.iastore, 1) := by decide +kernel
theorem dX12_mostOften_95 : decode cX12_mostOften 95 = .ok (.aload_n 0, 1) := by decide +kernel
theorem dX12_mostOften_96 : decode cX12_mostOften 96 = .ok (.getfield 74, 3) := by decide +kernel
theorem dX12_mostOften_99 : decode cX12_mostOften 99 = .ok (.iload 6, 2) := by decide +kernel
theorem dX12_mostOften_101 : decode cX12_mostOften 101 = .ok (.iaload, 1) := by decide +kernel
theorem dX12_mostOften_102 : decode cX12_mostOften 102 = .ok (.iload 4, 2) := by decide +kernel
theorem dX12_mostOften_104 : decode cX12_mostOften 104 = .ok (.if_icmp .le 13, 3) := by decide +kernel
theorem dX12_mostOften_107 : decode cX12_mostOften 107 = .ok (.aload_n 0, 1) := by decide +kernel
theorem dX12_mostOften_108 : decode cX12_mostOften 108 = .ok (.getfield 74, 3) := by decide +kernel
theorem dX12_mostOften_111 : decode cX12_mostOften 111 = .ok (.iload 6, 2) := by decide +kernel
theorem dX12_mostOften_113 : decode cX12_mostOften 113 = .ok (.iaload, 1) := by decide +kernel
theorem dX12_mostOften_114 : decode cX12_mostOften 114 = .ok (.goto 5, 3) := by decide +kernel
theorem dX12_mostOften_117 : decode cX12_mostOften 117 = .ok (.iload 4, 2) := by decide +kernel
theorem dX12_mostOften_119 : decode cX12_mostOften 119 = .ok (.istore 4, 2) := by decide +kernel
theorem dX12_mostOften_121 : decode cX12_mostOften 121 = .ok (.iinc 5 1, 3) := by decide +kernel
theorem dX12_mostOften_124 : decode cX12_mostOften 124 = .ok (.goto (-94), 3) := by decide +kernel
theorem dX12_mostOften_127 : decode cX12_mostOften 127 = .ok (.iload 4, 2) := by decide +kernel
theorem dX12_mostOften_129 : decode cX12_mostOften 129 = .ok (.ireturn, 1) := by decide +kernel
theorem dX12_attempt_0 : decode cX12_attempt 0 = .ok (.aload_n 0, 1) := by decide +kernel
theorem dX12_attempt_1 : decode cX12_attempt 1 = .ok (.iconst 0, 1) := by decide +kernel
theorem dX12_attempt_2 : decode cX12_attempt 2 = .ok (.putfield 1, 3) := by decide +kernel
theorem dX12_attempt_5 : decode cX12_attempt 5 = .ok (.aload_n 0, 1) := by decide +kernel
theorem dX12_attempt_6 : decode cX12_attempt 6 = .ok (.iload_n 1, 1) := by decide +kernel
theorem dX12_attempt_7 : decode cX12_attempt 7 = .ok (.iload_n 2, 1) := by decide +kernel
theorem dX12_attempt_8 : decode cX12_attempt 8 = .ok (.invokevirtual 425, 3) := by decide +kernel
theorem dX12_attempt_11 : decode cX12_attempt 11 = .ok (.istore_n 3, 1) := by decide +kernel
theorem dX12_attempt_12 : decode cX12_attempt 12 = .ok (.iload_n 3, 1) := by decide +kernel
theorem dX12_attempt_13 : decode cX12_attempt 13 = .ok (.ifCond .eq 5, 3) := by decide +kernel
theorem dX12_attempt_16 : decode cX12_attempt 16 = .ok (.iload_n 3, 1) := by decide +kernel
theorem dX12_attempt_17 : decode cX12_attempt 17 = .ok (.ireturn, 1) := by decide +kernel
theorem dX12_attempt_18 : decode cX12_attempt 18 = .ok (.aload_n 0, 1) := by decide +kernel
theorem dX12_attempt_19 : decode cX12_attempt 19 = .ok (.getfield 13, 3) := by decide +kernel
theorem dX12_attempt_22 : decode cX12_attempt 22 = .ok (.bipush 15, 2) := by decide +kernel
theorem dX12_attempt_24 : decode cX12_attempt 24 = .ok (.iload_n 2, 1) := by decide +kernel
theorem dX12_attempt_25 : decode cX12_attempt 25 = .ok (.iadd, 1) := by decide +kernel
theorem dX12_attempt_26 : decode cX12_attempt 26 = .ok (.iaload, 1) := by decide +kernel
theorem dX12_attempt_27 : decode cX12_attempt 27 = .ok (.ifCond .ne 6, 3) := by decide +kernel
theorem dX12_attempt_30 : decode cX12_attempt 30 = .ok (.bipush (-5), 2) := by decide +kernel
theorem dX12_attempt_32 : decode cX12_attempt 32 = .ok (.ireturn, 1) := by decide +kernel
theorem dX12_attempt_33 : decode cX12_attempt 33 = .ok (.aload_n 0, 1) := by decide +kernel
theorem dX12_attempt_34 : decode cX12_attempt 34 = .ok (.iload_n 1, 1) := by decide +kernel
theorem dX12_attempt_35 : decode cX12_attempt 35 = .ok (.iload_n 2, 1) := by decide +kernel
theorem dX12_attempt_36 : decode cX12_attempt 36 = .ok (.invokevirtual 432, 3) := by decide +kernel
theorem dX12_attempt_39 : decode cX12_attempt 39 = .ok (.istore 4, 2) := by decide +kernel
theorem dX12_attempt_41 : decode cX12_attempt 41 = .ok (.iconst (-1), 1) := by decide +kernel
theorem dX12_attempt_42 : decode cX12_attempt 42 = .ok (.istore 5, 2) := by decide +kernel
theorem dX12_attempt_44 : decode cX12_attempt 44 = .ok (.ldc_w 390, 3) := by decide +kernel
theorem dX12_attempt_47 : decode cX12_attempt 47 = .ok (.istore 6, 2) := by decide +kernel
theorem dX12_attempt_49 : decode cX12_attempt 49 = .ok (.iconst 0, 1) := by decide +kernel
theorem dX12_attempt_50 : decode cX12_attempt 50 = .ok (.istore 7, 2) := by decide +kernel
theorem dX12_attempt_52 : decode cX12_attempt 52 = .ok (.iload 7, 2) := by decide +kernel
theorem dX12_attempt_54 : decode cX12_attempt 54 = .ok (.iconst 4, 1) := by decide +kernel
theorem dX12_attempt_55 : decode cX12_attempt 55 = .ok (.if_icmp .gt 43, 3) := by decide +kernel
theorem dX12_attempt_58 : decode cX12_attempt 58 = .ok (.iload 4, 2) := by decide +kernel
theorem dX12_attempt_60 : decode cX12_attempt 60 = .ok (.ifCond .eq 38, 3) := by decide +kernel
theorem dX12_attempt_63 : decode cX12_attempt 63 = .ok (.aload_n 0, 1) := by decide +kernel
theorem dX12_attempt_64 : decode cX12_attempt 64 = .ok (.iload_n 2, 1) := by decide +kernel
theorem dX12_attempt_65 : decode cX12_attempt 65 = .ok (.iload 7, 2) := by decide +kernel
theorem dX12_attempt_67 : decode cX12_attempt 67 = .ok (.iload 4, 2) := by decide +kernel
theorem dX12_attempt_69 : decode cX12_attempt 69 = .ok (.invokevirtual 439, 3) := by decide +kernel
theorem dX12_attempt_72 : decode cX12_attempt 72 = .ok (.istore 8, 2) := by decide +kernel
theorem dX12_attempt_74 : decode cX12_attempt 74 = .ok (.iload 8, 2) := by decide +kernel
theorem dX12_attempt_76 : decode cX12_attempt 76 = .ok (.iload 6, 2) := by decide +kernel
theorem dX12_attempt_78 : decode cX12_attempt 78 = .ok (.if_icmp .lt 6, 3) := by decide +kernel
theorem dX12_attempt_81 : decode cX12_attempt 81 = .ok (.goto 11, 3) := by decide +kernel
theorem dX12_attempt_84 : decode cX12_attempt 84 = .ok (.iload 7, 2) := by decide +kernel
theorem dX12_attempt_86 : decode cX12_attempt 86 = .ok (.istore 5, 2) := by decide +kernel
theorem dX12_attempt_88 : decode cX12_attempt 88 = .ok (.iload 8, 2) := by decide +kernel
theorem dX12_attempt_90 : decode cX12_attempt 90 = .ok (.istore 6, 2) := by decide +kernel
theorem dX12_attempt_92 : decode cX12_attempt 92 = .ok (.iinc 7 1, 3) := by decide +kernel
theorem dX12_attempt_95 : decode cX12_attempt 95 = .ok (.goto (-43), 3) := by decide +kernel
theorem dX12_attempt_98 : decode cX12_attempt 98 = .ok (.iload 5, 2) := by decide +kernel
theorem dX12_attempt_100 : decode cX12_attempt 100 = .ok (.ireturn, 1) := by decide +kernel
theorem dX12_forcedBy_0 : decode cX12_forcedBy 0 = .ok (.aload_n 0, 1) := by decide +kernel
theorem dX12_forcedBy_1 : decode cX12_forcedBy 1 = .ok (.getfield 61, 3) := by decide +kernel
theorem dX12_forcedBy_4 : decode cX12_forcedBy 4 = .ok (.aload_n 0, 1) := by decide +kernel
theorem dX12_forcedBy_5 : decode cX12_forcedBy 5 = .ok (.getfield 58, 3) := by decide +kernel
theorem dX12_forcedBy_8 : decode cX12_forcedBy 8 = .ok (.bipush 35, 2) := by decide +kernel
theorem dX12_forcedBy_10 : decode cX12_forcedBy 10 = .ok (.iload_n 1, 1) := by decide +kernel
theorem dX12_forcedBy_11 : decode cX12_forcedBy 11 = .ok (.imul, 1) := by decide +kernel
theorem dX12_forcedBy_12 : decode cX12_forcedBy 12 = .ok (.iload_n 2, 1) := by decide +kernel
theorem dX12_forcedBy_13 : decode cX12_forcedBy 13 = .ok (.iadd, 1) := by decide +kernel
theorem dX12_forcedBy_14 : decode cX12_forcedBy 14 = .ok (.iaload, 1) := by decide +kernel
theorem dX12_forcedBy_15 : decode cX12_forcedBy 15 = .ok (.iaload, 1) := by decide +kernel
theorem dX12_forcedBy_16 : decode cX12_forcedBy 16 = .ok (.istore_n 3, 1) := by decide +kernel
theorem dX12_forcedBy_17 : decode cX12_forcedBy 17 = .ok (.aload_n 0, 1) := by decide +kernel
theorem dX12_forcedBy_18 : decode cX12_forcedBy 18 = .ok (.getfield 61, 3) := by decide +kernel
theorem dX12_forcedBy_21 : decode cX12_forcedBy 21 = .ok (.aload_n 0, 1) := by decide +kernel
theorem dX12_forcedBy_22 : decode cX12_forcedBy 22 = .ok (.getfield 77, 3) := by decide +kernel
theorem dX12_forcedBy_25 : decode cX12_forcedBy 25 = .ok (.bipush 35, 2) := by decide +kernel
theorem dX12_forcedBy_27 : decode cX12_forcedBy 27 = .ok (.iload_n 1, 1) := by decide +kernel
theorem dX12_forcedBy_28 : decode cX12_forcedBy 28 = .ok (.imul, 1) := by decide +kernel
theorem dX12_forcedBy_29 : decode cX12_forcedBy 29 = .ok (.iload_n 2, 1) := by decide +kernel
theorem dX12_forcedBy_30 : decode cX12_forcedBy 30 = .ok (.iadd, 1) := by decide +kernel
theorem dX12_forcedBy_31 : decode cX12_forcedBy 31 = .ok (.iaload, 1) := by decide +kernel
theorem dX12_forcedBy_32 : decode cX12_forcedBy 32 = .ok (.iaload, 1) := by decide +kernel
theorem dX12_forcedBy_33 : decode cX12_forcedBy 33 = .ok (.istore 4, 2) := by decide +kernel
theorem dX12_forcedBy_35 : decode cX12_forcedBy 35 = .ok (.iload_n 3, 1) := by decide +kernel
theorem dX12_forcedBy_36 : decode cX12_forcedBy 36 = .ok (.iload 4, 2) := by decide +kernel
theorem dX12_forcedBy_38 : decode cX12_forcedBy 38 = .ok (.if_icmp .le 7, 3) := by decide +kernel
theorem dX12_forcedBy_41 : decode cX12_forcedBy 41 = .ok (.iload_n 3, 1) := by decide +kernel
theorem dX12_forcedBy_42 : decode cX12_forcedBy 42 = .ok (.goto 5, 3) := by decide +kernel
theorem dX12_forcedBy_45 : decode cX12_forcedBy 45 = .ok (.iload 4, 2) := by decide +kernel
theorem dX12_forcedBy_47 : decode cX12_forcedBy 47 = .ok (.istore 5, 2) := by decide +kernel
theorem dX12_forcedBy_49 : decode cX12_forcedBy 49 = .ok (.iload 5, 2) := by decide +kernel
theorem dX12_forcedBy_51 : decode cX12_forcedBy 51 = .ok (.ldc_w 390, 3) := by decide +kernel
theorem dX12_forcedBy_54 : decode cX12_forcedBy 54 = .ok (.if_icmp .ne 9, 3) := by decide +kernel
theorem dX12_forcedBy_57 : decode cX12_forcedBy 57 = .ok (.ldc_w 390, 3) := by decide +kernel
theorem dX12_forcedBy_60 : decode cX12_forcedBy 60 = .ok (.goto 7, 3) := by decide +kernel
theorem dX12_forcedBy_63 : decode cX12_forcedBy 63 = .ok (.iload 5, 2) := by decide +kernel
theorem dX12_forcedBy_65 : decode cX12_forcedBy 65 = .ok (.iconst 1, 1) := by decide +kernel
theorem dX12_forcedBy_66 : decode cX12_forcedBy 66 = .ok (.iadd, 1) := by decide +kernel
theorem dX12_forcedBy_67 : decode cX12_forcedBy 67 = .ok (.ireturn, 1) := by decide +kernel
theorem dX12_laysForced_0 : decode cX12_laysForced 0 = .ok (.aload_n 0, 1) := by decide +kernel
theorem dX12_laysForced_1 : decode cX12_laysForced 1 = .ok (.iconst 1, 1) := by decide +kernel
theorem dX12_laysForced_2 : decode cX12_laysForced 2 = .ok (.invokevirtual 394, 3) := by decide +kernel
theorem dX12_laysForced_5 : decode cX12_laysForced 5 = .ok (.iconst 0, 1) := by decide +kernel
theorem dX12_laysForced_6 : decode cX12_laysForced 6 = .ok (.istore_n 2, 1) := by decide +kernel
theorem dX12_laysForced_7 : decode cX12_laysForced 7 = .ok (.iload_n 2, 1) := by decide +kernel
theorem dX12_laysForced_8 : decode cX12_laysForced 8 = .ok (.aload_n 0, 1) := by decide +kernel
theorem dX12_laysForced_9 : decode cX12_laysForced 9 = .ok (.getfield 384, 3) := by decide +kernel
theorem dX12_laysForced_12 : decode cX12_laysForced 12 = .ok (.if_icmp .ge 80, 3) := by decide +kernel
theorem dX12_laysForced_15 : decode cX12_laysForced 15 = .ok (.aload_n 0, 1) := by decide +kernel
theorem dX12_laysForced_16 : decode cX12_laysForced 16 = .ok (.getfield 54, 3) := by decide +kernel
theorem dX12_laysForced_19 : decode cX12_laysForced 19 = .ok (.iload_n 2, 1) := by decide +kernel
theorem dX12_laysForced_20 : decode cX12_laysForced 20 = .ok (.iaload, 1) := by decide +kernel
theorem dX12_laysForced_21 : decode cX12_laysForced 21 = .ok (.istore_n 3, 1) := by decide +kernel
theorem dX12_laysForced_22 : decode cX12_laysForced 22 = .ok (.iconst 0, 1) := by decide +kernel
theorem dX12_laysForced_23 : decode cX12_laysForced 23 = .ok (.istore 4, 2) := by decide +kernel
theorem dX12_laysForced_25 : decode cX12_laysForced 25 = .ok (.iload 4, 2) := by decide +kernel
theorem dX12_laysForced_27 : decode cX12_laysForced 27 = .ok (.aload_n 0, 1) := by decide +kernel
theorem dX12_laysForced_28 : decode cX12_laysForced 28 = .ok (.getfield 285, 3) := by decide +kernel
theorem dX12_laysForced_31 : decode cX12_laysForced 31 = .ok (.if_icmp .ge 34, 3) := by decide +kernel
theorem dX12_laysForced_34 : decode cX12_laysForced 34 = .ok (.aload_n 0, 1) := by decide +kernel
theorem dX12_laysForced_35 : decode cX12_laysForced 35 = .ok (.getfield 77, 3) := by decide +kernel
theorem dX12_laysForced_38 : decode cX12_laysForced 38 = .ok (.bipush 35, 2) := by decide +kernel
theorem dX12_laysForced_40 : decode cX12_laysForced 40 = .ok (.iload_n 3, 1) := by decide +kernel
theorem dX12_laysForced_41 : decode cX12_laysForced 41 = .ok (.imul, 1) := by decide +kernel
theorem dX12_laysForced_42 : decode cX12_laysForced 42 = .ok (.iload 4, 2) := by decide +kernel
theorem dX12_laysForced_44 : decode cX12_laysForced 44 = .ok (.iadd, 1) := by decide +kernel
theorem dX12_laysForced_45 : decode cX12_laysForced 45 = .ok (.aload_n 0, 1) := by decide +kernel
theorem dX12_laysForced_46 : decode cX12_laysForced 46 = .ok (.iload_n 3, 1) := by decide +kernel
theorem dX12_laysForced_47 : decode cX12_laysForced 47 = .ok (.aload_n 0, 1) := by decide +kernel
theorem dX12_laysForced_48 : decode cX12_laysForced 48 = .ok (.getfield 42, 3) := by decide +kernel
theorem dX12_laysForced_51 : decode cX12_laysForced 51 = .ok (.iload 4, 2) := by decide +kernel
theorem dX12_laysForced_53 : decode cX12_laysForced 53 = .ok (.iaload, 1) := by decide +kernel
theorem dX12_laysForced_54 : decode cX12_laysForced 54 = .ok (.iconst 1, 1) := by decide +kernel
theorem dX12_laysForced_55 : decode cX12_laysForced 55 = .ok (.invokevirtual 359, 3) := by decide +kernel
theorem dX12_laysForced_58 : decode cX12_laysForced 58 = .ok (.iastore, 1) := by decide +kernel
theorem dX12_laysForced_59 : decode cX12_laysForced 59 = .ok (.iinc 4 1, 3) := by decide +kernel
theorem dX12_laysForced_62 : decode cX12_laysForced 62 = .ok (.goto (-37), 3) := by decide +kernel
theorem dX12_laysForced_65 : decode cX12_laysForced 65 = .ok (.aload_n 0, 1) := by decide +kernel
theorem dX12_laysForced_66 : decode cX12_laysForced 66 = .ok (.getfield 61, 3) := by decide +kernel
theorem dX12_laysForced_69 : decode cX12_laysForced 69 = .ok (.iload_n 3, 1) := by decide +kernel
theorem dX12_laysForced_70 : decode cX12_laysForced 70 = .ok (.iload_n 3, 1) := by decide +kernel
theorem dX12_laysForced_71 : decode cX12_laysForced 71 = .ok (.iload_n 1, 1) := by decide +kernel
theorem dX12_laysForced_72 : decode cX12_laysForced 72 = .ok (.invokestatic 217, 3) := by decide +kernel
theorem dX12_laysForced_75 : decode cX12_laysForced 75 = .ok (.ifCond .ne 7, 3) := by decide +kernel
theorem dX12_laysForced_78 : decode cX12_laysForced 78 = .ok (.iconst 0, 1) := by decide +kernel
theorem dX12_laysForced_79 : decode cX12_laysForced 79 = .ok (.goto 6, 3) := by decide +kernel
theorem dX12_laysForced_82 : decode cX12_laysForced 82 = .ok (.ldc_w 390, 3) := by decide +kernel
theorem dX12_laysForced_85 : decode cX12_laysForced 85 = .ok (.iastore, 1) := by decide +kernel
theorem dX12_laysForced_86 : decode cX12_laysForced 86 = .ok (.iinc 2 1, 3) := by decide +kernel
theorem dX12_laysForced_89 : decode cX12_laysForced 89 = .ok (.goto (-82), 3) := by decide +kernel
theorem dX12_laysForced_92 : decode cX12_laysForced 92 = .ok (.iconst 1, 1) := by decide +kernel
theorem dX12_laysForced_93 : decode cX12_laysForced 93 = .ok (.istore_n 2, 1) := by decide +kernel
theorem dX12_laysForced_94 : decode cX12_laysForced 94 = .ok (.iload_n 2, 1) := by decide +kernel
theorem dX12_laysForced_95 : decode cX12_laysForced 95 = .ok (.ifCond .eq 99, 3) := by decide +kernel
theorem dX12_laysForced_98 : decode cX12_laysForced 98 = .ok (.iconst 0, 1) := by decide +kernel
theorem dX12_laysForced_99 : decode cX12_laysForced 99 = .ok (.istore_n 2, 1) := by decide +kernel
theorem dX12_laysForced_100 : decode cX12_laysForced 100 = .ok (.aload_n 0, 1) := by decide +kernel
theorem dX12_laysForced_101 : decode cX12_laysForced 101 = .ok (.getfield 384, 3) := by decide +kernel
theorem dX12_laysForced_104 : decode cX12_laysForced 104 = .ok (.iconst 1, 1) := by decide +kernel
theorem dX12_laysForced_105 : decode cX12_laysForced 105 = .ok (.isub, 1) := by decide +kernel
theorem dX12_laysForced_106 : decode cX12_laysForced 106 = .ok (.istore_n 3, 1) := by decide +kernel
theorem dX12_laysForced_107 : decode cX12_laysForced 107 = .ok (.iload_n 3, 1) := by decide +kernel
theorem dX12_laysForced_108 : decode cX12_laysForced 108 = .ok (.ifCond .lt 83, 3) := by decide +kernel
theorem dX12_laysForced_111 : decode cX12_laysForced 111 = .ok (.aload_n 0, 1) := by decide +kernel
theorem dX12_laysForced_112 : decode cX12_laysForced 112 = .ok (.getfield 54, 3) := by decide +kernel
theorem dX12_laysForced_115 : decode cX12_laysForced 115 = .ok (.iload_n 3, 1) := by decide +kernel
theorem dX12_laysForced_116 : decode cX12_laysForced 116 = .ok (.iaload, 1) := by decide +kernel
theorem dX12_laysForced_117 : decode cX12_laysForced 117 = .ok (.istore 4, 2) := by decide +kernel
theorem dX12_laysForced_119 : decode cX12_laysForced 119 = .ok (.iconst 0, 1) := by decide +kernel
theorem dX12_laysForced_120 : decode cX12_laysForced 120 = .ok (.istore 5, 2) := by decide +kernel
theorem dX12_laysForced_122 : decode cX12_laysForced 122 = .ok (.iload 5, 2) := by decide +kernel
theorem dX12_laysForced_124 : decode cX12_laysForced 124 = .ok (.aload_n 0, 1) := by decide +kernel
theorem dX12_laysForced_125 : decode cX12_laysForced 125 = .ok (.getfield 285, 3) := by decide +kernel
theorem dX12_laysForced_128 : decode cX12_laysForced 128 = .ok (.if_icmp .ge 57, 3) := by decide +kernel
theorem dX12_laysForced_131 : decode cX12_laysForced 131 = .ok (.aload_n 0, 1) := by decide +kernel
theorem dX12_laysForced_132 : decode cX12_laysForced 132 = .ok (.getfield 61, 3) := by decide +kernel
theorem dX12_laysForced_135 : decode cX12_laysForced 135 = .ok (.iload 4, 2) := by decide +kernel
theorem dX12_laysForced_137 : decode cX12_laysForced 137 = .ok (.iaload, 1) := by decide +kernel
theorem dX12_laysForced_138 : decode cX12_laysForced 138 = .ok (.ifCond .le 47, 3) := by decide +kernel
theorem dX12_laysForced_141 : decode cX12_laysForced 141 = .ok (.aload_n 0, 1) := by decide +kernel
theorem dX12_laysForced_142 : decode cX12_laysForced 142 = .ok (.iload 4, 2) := by decide +kernel
theorem dX12_laysForced_144 : decode cX12_laysForced 144 = .ok (.iload 5, 2) := by decide +kernel
theorem dX12_laysForced_146 : decode cX12_laysForced 146 = .ok (.invokevirtual 442, 3) := by decide +kernel
theorem dX12_laysForced_149 : decode cX12_laysForced 149 = .ok (.aload_n 0, 1) := by decide +kernel
theorem dX12_laysForced_150 : decode cX12_laysForced 150 = .ok (.getfield 61, 3) := by decide +kernel
theorem dX12_laysForced_153 : decode cX12_laysForced 153 = .ok (.iload 4, 2) := by decide +kernel
theorem dX12_laysForced_155 : decode cX12_laysForced 155 = .ok (.iaload, 1) := by decide +kernel
theorem dX12_laysForced_156 : decode cX12_laysForced 156 = .ok (.if_icmp .lt 6, 3) := by decide +kernel
theorem dX12_laysForced_159 : decode cX12_laysForced 159 = .ok (.goto 20, 3) := by decide +kernel
theorem dX12_laysForced_162 : decode cX12_laysForced 162 = .ok (.aload_n 0, 1) := by decide +kernel
theorem dX12_laysForced_163 : decode cX12_laysForced 163 = .ok (.getfield 61, 3) := by decide +kernel
theorem dX12_laysForced_166 : decode cX12_laysForced 166 = .ok (.iload 4, 2) := by decide +kernel
theorem dX12_laysForced_168 : decode cX12_laysForced 168 = .ok (.aload_n 0, 1) := by decide +kernel
theorem dX12_laysForced_169 : decode cX12_laysForced 169 = .ok (.iload 4, 2) := by decide +kernel
theorem dX12_laysForced_171 : decode cX12_laysForced 171 = .ok (.iload 5, 2) := by decide +kernel
theorem dX12_laysForced_173 : decode cX12_laysForced 173 = .ok (.invokevirtual 442, 3) := by decide +kernel
theorem dX12_laysForced_176 : decode cX12_laysForced 176 = .ok (.iastore, 1) := by decide +kernel
theorem dX12_laysForced_177 : decode cX12_laysForced 177 = .ok (.iconst 1, 1) := by decide +kernel
theorem dX12_laysForced_178 : decode cX12_laysForced 178 = .ok (.istore_n 2, 1) := by decide +kernel
theorem dX12_laysForced_179 : decode cX12_laysForced 179 = .ok (.iinc 5 1, 3) := by decide +kernel
theorem dX12_laysForced_182 : decode cX12_laysForced 182 = .ok (.goto (-60), 3) := by decide +kernel
theorem dX12_laysForced_185 : decode cX12_laysForced 185 = .ok (.iinc 3 (-1), 3) := by decide +kernel
theorem dX12_laysForced_188 : decode cX12_laysForced 188 = .ok (.goto (-81), 3) := by decide +kernel
theorem dX12_laysForced_191 : decode cX12_laysForced 191 = .ok (.goto (-97), 3) := by decide +kernel
theorem dX12_laysForced_194 : decode cX12_laysForced 194 = .ok (.aload_n 0, 1) := by decide +kernel
theorem dX12_laysForced_195 : decode cX12_laysForced 195 = .ok (.getfield 61, 3) := by decide +kernel
theorem dX12_laysForced_198 : decode cX12_laysForced 198 = .ok (.aload_n 0, 1) := by decide +kernel
theorem dX12_laysForced_199 : decode cX12_laysForced 199 = .ok (.invokevirtual 282, 3) := by decide +kernel
theorem dX12_laysForced_202 : decode cX12_laysForced 202 = .ok (.iaload, 1) := by decide +kernel
theorem dX12_laysForced_203 : decode cX12_laysForced 203 = .ok (.ireturn, 1) := by decide +kernel
theorem dX12_forces_0 : decode cX12_forces 0 = .ok (.aload_n 0, 1) := by decide +kernel
theorem dX12_forces_1 : decode cX12_forces 1 = .ok (.iconst 0, 1) := by decide +kernel
theorem dX12_forces_2 : decode cX12_forces 2 = .ok (.putfield 1, 3) := by decide +kernel
theorem dX12_forces_5 : decode cX12_forces 5 = .ok (.aload_n 0, 1) := by decide +kernel
theorem dX12_forces_6 : decode cX12_forces 6 = .ok (.iload_n 1, 1) := by decide +kernel
theorem dX12_forces_7 : decode cX12_forces 7 = .ok (.i2l, 1) := by decide +kernel
theorem dX12_forces_8 : decode cX12_forces 8 = .ok (.invokevirtual 271, 3) := by decide +kernel
theorem dX12_forces_11 : decode cX12_forces 11 = .ok (.ifCond .eq 14, 3) := by decide +kernel
theorem dX12_forces_14 : decode cX12_forces 14 = .ok (.aload_n 0, 1) := by decide +kernel
theorem dX12_forces_15 : decode cX12_forces 15 = .ok (.iload_n 1, 1) := by decide +kernel
theorem dX12_forces_16 : decode cX12_forces 16 = .ok (.invokevirtual 445, 3) := by decide +kernel
theorem dX12_forces_19 : decode cX12_forces 19 = .ok (.invokestatic 407, 3) := by decide +kernel
theorem dX12_forces_22 : decode cX12_forces 22 = .ok (.goto 5, 3) := by decide +kernel
theorem dX12_forces_25 : decode cX12_forces 25 = .ok (.bipush (-2), 2) := by decide +kernel
theorem dX12_forces_27 : decode cX12_forces 27 = .ok (.ireturn, 1) := by decide +kernel
theorem dX12_best_0 : decode cX12_best 0 = .ok (.aload_n 0, 1) := by decide +kernel
theorem dX12_best_1 : decode cX12_best 1 = .ok (.iconst 0, 1) := by decide +kernel
theorem dX12_best_2 : decode cX12_best 2 = .ok (.putfield 1, 3) := by decide +kernel
theorem dX12_best_5 : decode cX12_best 5 = .ok (.aload_n 0, 1) := by decide +kernel
theorem dX12_best_6 : decode cX12_best 6 = .ok (.iload_n 1, 1) := by decide +kernel
theorem dX12_best_7 : decode cX12_best 7 = .ok (.i2l, 1) := by decide +kernel
theorem dX12_best_8 : decode cX12_best 8 = .ok (.invokevirtual 271, 3) := by decide +kernel
theorem dX12_best_11 : decode cX12_best 11 = .ok (.ifCond .ne 6, 3) := by decide +kernel
theorem dX12_best_14 : decode cX12_best 14 = .ok (.bipush (-2), 2) := by decide +kernel
theorem dX12_best_16 : decode cX12_best 16 = .ok (.ireturn, 1) := by decide +kernel
theorem dX12_best_17 : decode cX12_best 17 = .ok (.aload_n 0, 1) := by decide +kernel
theorem dX12_best_18 : decode cX12_best 18 = .ok (.iload_n 1, 1) := by decide +kernel
theorem dX12_best_19 : decode cX12_best 19 = .ok (.invokevirtual 445, 3) := by decide +kernel
theorem dX12_best_22 : decode cX12_best 22 = .ok (.istore_n 2, 1) := by decide +kernel
theorem dX12_best_23 : decode cX12_best 23 = .ok (.iconst 0, 1) := by decide +kernel
theorem dX12_best_24 : decode cX12_best 24 = .ok (.istore_n 3, 1) := by decide +kernel
theorem dX12_best_25 : decode cX12_best 25 = .ok (.iload_n 3, 1) := by decide +kernel
theorem dX12_best_26 : decode cX12_best 26 = .ok (.aload_n 0, 1) := by decide +kernel
theorem dX12_best_27 : decode cX12_best 27 = .ok (.getfield 285, 3) := by decide +kernel
theorem dX12_best_30 : decode cX12_best 30 = .ok (.if_icmp .ge 40, 3) := by decide +kernel
theorem dX12_best_33 : decode cX12_best 33 = .ok (.iload_n 2, 1) := by decide +kernel
theorem dX12_best_34 : decode cX12_best 34 = .ok (.ifCond .le 36, 3) := by decide +kernel
theorem dX12_best_37 : decode cX12_best 37 = .ok (.iload_n 2, 1) := by decide +kernel
theorem dX12_best_38 : decode cX12_best 38 = .ok (.ldc_w 390, 3) := by decide +kernel
theorem dX12_best_41 : decode cX12_best 41 = .ok (.if_icmp .ge 29, 3) := by decide +kernel
theorem dX12_best_44 : decode cX12_best 44 = .ok (.aload_n 0, 1) := by decide +kernel
theorem dX12_best_45 : decode cX12_best 45 = .ok (.aload_n 0, 1) := by decide +kernel
theorem dX12_best_46 : decode cX12_best 46 = .ok (.invokevirtual 282, 3) := by decide +kernel
theorem dX12_best_49 : decode cX12_best 49 = .ok (.iload_n 3, 1) := by decide +kernel
theorem dX12_best_50 : decode cX12_best 50 = .ok (.invokevirtual 442, 3) := by decide +kernel
theorem dX12_best_53 : decode cX12_best 53 = .ok (.iload_n 2, 1) := by decide +kernel
theorem dX12_best_54 : decode cX12_best 54 = .ok (.if_icmp .ne 10, 3) := by decide +kernel
theorem dX12_best_57 : decode cX12_best 57 = .ok (.aload_n 0, 1) := by decide +kernel
theorem dX12_best_58 : decode cX12_best 58 = .ok (.getfield 42, 3) := by decide +kernel
theorem dX12_best_61 : decode cX12_best 61 = .ok (.iload_n 3, 1) := by decide +kernel
theorem dX12_best_62 : decode cX12_best 62 = .ok (.iaload, 1) := by decide +kernel
theorem dX12_best_63 : decode cX12_best 63 = .ok (.ireturn, 1) := by decide +kernel
theorem dX12_best_64 : decode cX12_best 64 = .ok (.iinc 3 1, 3) := by decide +kernel
theorem dX12_best_67 : decode cX12_best 67 = .ok (.goto (-42), 3) := by decide +kernel
theorem dX12_best_70 : decode cX12_best 70 = .ok (.iconst (-1), 1) := by decide +kernel
theorem dX12_best_71 : decode cX12_best 71 = .ok (.ireturn, 1) := by decide +kernel
theorem dX12_laysLikely_0 : decode cX12_laysLikely 0 = .ok (.aload_n 0, 1) := by decide +kernel
theorem dX12_laysLikely_1 : decode cX12_laysLikely 1 = .ok (.invokevirtual 356, 3) := by decide +kernel
theorem dX12_laysLikely_4 : decode cX12_laysLikely 4 = .ok (.aload_n 0, 1) := by decide +kernel
theorem dX12_laysLikely_5 : decode cX12_laysLikely 5 = .ok (.invokevirtual 414, 3) := by decide +kernel
theorem dX12_laysLikely_8 : decode cX12_laysLikely 8 = .ok (.iconst 1, 1) := by decide +kernel
theorem dX12_laysLikely_9 : decode cX12_laysLikely 9 = .ok (.istore_n 2, 1) := by decide +kernel
theorem dX12_laysLikely_10 : decode cX12_laysLikely 10 = .ok (.iconst 0, 1) := by decide +kernel
theorem dX12_laysLikely_11 : decode cX12_laysLikely 11 = .ok (.istore_n 3, 1) := by decide +kernel
theorem dX12_laysLikely_12 : decode cX12_laysLikely 12 = .ok (.iload_n 3, 1) := by decide +kernel
theorem dX12_laysLikely_13 : decode cX12_laysLikely 13 = .ok (.iload_n 1, 1) := by decide +kernel
theorem dX12_laysLikely_14 : decode cX12_laysLikely 14 = .ok (.if_icmp .ge 127, 3) := by decide +kernel
theorem dX12_laysLikely_17 : decode cX12_laysLikely 17 = .ok (.iconst 0, 1) := by decide +kernel
theorem dX12_laysLikely_18 : decode cX12_laysLikely 18 = .ok (.istore 4, 2) := by decide +kernel
theorem dX12_laysLikely_20 : decode cX12_laysLikely 20 = .ok (.iload 4, 2) := by decide +kernel
theorem dX12_laysLikely_22 : decode cX12_laysLikely 22 = .ok (.sipush 20000, 3) := by decide +kernel
theorem dX12_laysLikely_25 : decode cX12_laysLikely 25 = .ok (.if_icmp .ge 101, 3) := by decide +kernel
theorem dX12_laysLikely_28 : decode cX12_laysLikely 28 = .ok (.aload_n 0, 1) := by decide +kernel
theorem dX12_laysLikely_29 : decode cX12_laysLikely 29 = .ok (.getfield 67, 3) := by decide +kernel
theorem dX12_laysLikely_32 : decode cX12_laysLikely 32 = .ok (.iload 4, 2) := by decide +kernel
theorem dX12_laysLikely_34 : decode cX12_laysLikely 34 = .ok (.laload, 1) := by decide +kernel
theorem dX12_laysLikely_35 : decode cX12_laysLikely 35 = .ok (.lconst 0, 1) := by decide +kernel
theorem dX12_laysLikely_36 : decode cX12_laysLikely 36 = .ok (.lcmp, 1) := by decide +kernel
theorem dX12_laysLikely_37 : decode cX12_laysLikely 37 = .ok (.ifCond .ne 6, 3) := by decide +kernel
theorem dX12_laysLikely_40 : decode cX12_laysLikely 40 = .ok (.goto 80, 3) := by decide +kernel
theorem dX12_laysLikely_43 : decode cX12_laysLikely 43 = .ok (.aload_n 0, 1) := by decide +kernel
theorem dX12_laysLikely_44 : decode cX12_laysLikely 44 = .ok (.getfield 71, 3) := by decide +kernel
theorem dX12_laysLikely_47 : decode cX12_laysLikely 47 = .ok (.aload_n 0, 1) := by decide +kernel
theorem dX12_laysLikely_48 : decode cX12_laysLikely 48 = .ok (.iload 4, 2) := by decide +kernel
theorem dX12_laysLikely_50 : decode cX12_laysLikely 50 = .ok (.aload_n 0, 1) := by decide +kernel
theorem dX12_laysLikely_51 : decode cX12_laysLikely 51 = .ok (.getfield 13, 3) := by decide +kernel
theorem dX12_laysLikely_54 : decode cX12_laysLikely 54 = .ok (.bipush 23, 2) := by decide +kernel
theorem dX12_laysLikely_56 : decode cX12_laysLikely 56 = .ok (.iaload, 1) := by decide +kernel
theorem dX12_laysLikely_57 : decode cX12_laysLikely 57 = .ok (.iconst 0, 1) := by decide +kernel
theorem dX12_laysLikely_58 : decode cX12_laysLikely 58 = .ok (.invokevirtual 359, 3) := by decide +kernel
theorem dX12_laysLikely_61 : decode cX12_laysLikely 61 = .ok (.dup2, 1) := by decide +kernel
theorem dX12_laysLikely_62 : decode cX12_laysLikely 62 = .ok (.laload, 1) := by decide +kernel
theorem dX12_laysLikely_63 : decode cX12_laysLikely 63 = .ok (.aload_n 0, 1) := by decide +kernel
theorem dX12_laysLikely_64 : decode cX12_laysLikely 64 = .ok (.getfield 67, 3) := by decide +kernel
theorem dX12_laysLikely_67 : decode cX12_laysLikely 67 = .ok (.iload 4, 2) := by decide +kernel
theorem dX12_laysLikely_69 : decode cX12_laysLikely 69 = .ok (.laload, 1) := by decide +kernel
theorem dX12_laysLikely_70 : decode cX12_laysLikely 70 = .ok (.bipush 10, 2) := by decide +kernel
theorem dX12_laysLikely_72 : decode cX12_laysLikely 72 = .ok (.aload_n 0, 1) := by decide +kernel
theorem dX12_laysLikely_73 : decode cX12_laysLikely 73 = .ok (.getfield 13, 3) := by decide +kernel
theorem dX12_laysLikely_76 : decode cX12_laysLikely 76 = .ok (.iconst 4, 1) := by decide +kernel
theorem dX12_laysLikely_77 : decode cX12_laysLikely 77 = .ok (.iaload, 1) := by decide +kernel
theorem dX12_laysLikely_78 : decode cX12_laysLikely 78 = .ok (.isub, 1) := by decide +kernel
theorem dX12_laysLikely_79 : decode cX12_laysLikely 79 = .ok (.i2l, 1) := by decide +kernel
theorem dX12_laysLikely_80 : decode cX12_laysLikely 80 = .ok (.lmul, 1) := by decide +kernel
theorem dX12_laysLikely_81 : decode cX12_laysLikely 81 = .ok (.ladd, 1) := by decide +kernel
theorem dX12_laysLikely_82 : decode cX12_laysLikely 82 = .ok (.lastore, 1) := by decide +kernel
theorem dX12_laysLikely_83 : decode cX12_laysLikely 83 = .ok (.aload_n 0, 1) := by decide +kernel
theorem dX12_laysLikely_84 : decode cX12_laysLikely 84 = .ok (.getfield 71, 3) := by decide +kernel
theorem dX12_laysLikely_87 : decode cX12_laysLikely 87 = .ok (.aload_n 0, 1) := by decide +kernel
theorem dX12_laysLikely_88 : decode cX12_laysLikely 88 = .ok (.iload 4, 2) := by decide +kernel
theorem dX12_laysLikely_90 : decode cX12_laysLikely 90 = .ok (.aload_n 0, 1) := by decide +kernel
theorem dX12_laysLikely_91 : decode cX12_laysLikely 91 = .ok (.getfield 13, 3) := by decide +kernel
theorem dX12_laysLikely_94 : decode cX12_laysLikely 94 = .ok (.bipush 23, 2) := by decide +kernel
theorem dX12_laysLikely_96 : decode cX12_laysLikely 96 = .ok (.iaload, 1) := by decide +kernel
theorem dX12_laysLikely_97 : decode cX12_laysLikely 97 = .ok (.iconst 1, 1) := by decide +kernel
theorem dX12_laysLikely_98 : decode cX12_laysLikely 98 = .ok (.invokevirtual 359, 3) := by decide +kernel
theorem dX12_laysLikely_101 : decode cX12_laysLikely 101 = .ok (.dup2, 1) := by decide +kernel
theorem dX12_laysLikely_102 : decode cX12_laysLikely 102 = .ok (.laload, 1) := by decide +kernel
theorem dX12_laysLikely_103 : decode cX12_laysLikely 103 = .ok (.aload_n 0, 1) := by decide +kernel
theorem dX12_laysLikely_104 : decode cX12_laysLikely 104 = .ok (.getfield 67, 3) := by decide +kernel
theorem dX12_laysLikely_107 : decode cX12_laysLikely 107 = .ok (.iload 4, 2) := by decide +kernel
theorem dX12_laysLikely_109 : decode cX12_laysLikely 109 = .ok (.laload, 1) := by decide +kernel
theorem dX12_laysLikely_110 : decode cX12_laysLikely 110 = .ok (.aload_n 0, 1) := by decide +kernel
theorem dX12_laysLikely_111 : decode cX12_laysLikely 111 = .ok (.getfield 13, 3) := by decide +kernel
theorem dX12_laysLikely_114 : decode cX12_laysLikely 114 = .ok (.iconst 4, 1) := by decide +kernel
theorem dX12_laysLikely_115 : decode cX12_laysLikely 115 = .ok (.iaload, 1) := by decide +kernel
theorem dX12_laysLikely_116 : decode cX12_laysLikely 116 = .ok (.i2l, 1) := by decide +kernel
theorem dX12_laysLikely_117 : decode cX12_laysLikely 117 = .ok (.lmul, 1) := by decide +kernel
theorem dX12_laysLikely_118 : decode cX12_laysLikely 118 = .ok (.ladd, 1) := by decide +kernel
theorem dX12_laysLikely_119 : decode cX12_laysLikely 119 = .ok (.lastore, 1) := by decide +kernel
theorem dX12_laysLikely_120 : decode cX12_laysLikely 120 = .ok (.iinc 4 1, 3) := by decide +kernel
theorem dX12_laysLikely_123 : decode cX12_laysLikely 123 = .ok (.goto (-103), 3) := by decide +kernel
theorem dX12_laysLikely_126 : decode cX12_laysLikely 126 = .ok (.aload_n 0, 1) := by decide +kernel
theorem dX12_laysLikely_127 : decode cX12_laysLikely 127 = .ok (.invokevirtual 417, 3) := by decide +kernel
theorem dX12_laysLikely_130 : decode cX12_laysLikely 130 = .ok (.iload_n 2, 1) := by decide +kernel
theorem dX12_laysLikely_131 : decode cX12_laysLikely 131 = .ok (.bipush 10, 2) := by decide +kernel
theorem dX12_laysLikely_133 : decode cX12_laysLikely 133 = .ok (.imul, 1) := by decide +kernel
theorem dX12_laysLikely_134 : decode cX12_laysLikely 134 = .ok (.istore_n 2, 1) := by decide +kernel
theorem dX12_laysLikely_135 : decode cX12_laysLikely 135 = .ok (.iinc 3 1, 3) := by decide +kernel
theorem dX12_laysLikely_138 : decode cX12_laysLikely 138 = .ok (.goto (-126), 3) := by decide +kernel
theorem dX12_laysLikely_141 : decode cX12_laysLikely 141 = .ok (.iload_n 2, 1) := by decide +kernel
theorem dX12_laysLikely_142 : decode cX12_laysLikely 142 = .ok (.ireturn, 1) := by decide +kernel
theorem dX12_common_0 : decode cX12_common 0 = .ok (.iload_n 1, 1) := by decide +kernel
theorem dX12_common_1 : decode cX12_common 1 = .ok (.ifCond .ne 7, 3) := by decide +kernel
theorem dX12_common_4 : decode cX12_common 4 = .ok (.iload_n 0, 1) := by decide +kernel
theorem dX12_common_5 : decode cX12_common 5 = .ok (.goto 10, 3) := by decide +kernel
theorem dX12_common_8 : decode cX12_common 8 = .ok (.iload_n 1, 1) := by decide +kernel
theorem dX12_common_9 : decode cX12_common 9 = .ok (.iload_n 0, 1) := by decide +kernel
theorem dX12_common_10 : decode cX12_common 10 = .ok (.iload_n 1, 1) := by decide +kernel
theorem dX12_common_11 : decode cX12_common 11 = .ok (.irem, 1) := by decide +kernel
theorem dX12_common_12 : decode cX12_common 12 = .ok (.invokestatic 448, 3) := by decide +kernel
theorem dX12_common_15 : decode cX12_common 15 = .ok (.ireturn, 1) := by decide +kernel
theorem dX12_part_0 : decode cX12_part 0 = .ok (.lload_n 0, 1) := by decide +kernel
theorem dX12_part_1 : decode cX12_part 1 = .ok (.l2i, 1) := by decide +kernel
theorem dX12_part_2 : decode cX12_part 2 = .ok (.istore 4, 2) := by decide +kernel
theorem dX12_part_4 : decode cX12_part 4 = .ok (.iload_n 3, 1) := by decide +kernel
theorem dX12_part_5 : decode cX12_part 5 = .ok (.ifCond .ne 8, 3) := by decide +kernel
theorem dX12_part_8 : decode cX12_part 8 = .ok (.iload 4, 2) := by decide +kernel
theorem dX12_part_10 : decode cX12_part 10 = .ok (.goto 4, 3) := by decide +kernel
theorem dX12_part_13 : decode cX12_part 13 = .ok (.iload_n 2, 1) := by decide +kernel
theorem dX12_part_14 : decode cX12_part 14 = .ok (.iload 4, 2) := by decide +kernel
theorem dX12_part_16 : decode cX12_part 16 = .ok (.iload_n 2, 1) := by decide +kernel
theorem dX12_part_17 : decode cX12_part 17 = .ok (.invokestatic 448, 3) := by decide +kernel
theorem dX12_part_20 : decode cX12_part 20 = .ok (.idiv, 1) := by decide +kernel
theorem dX12_part_21 : decode cX12_part 21 = .ok (.ireturn, 1) := by decide +kernel
