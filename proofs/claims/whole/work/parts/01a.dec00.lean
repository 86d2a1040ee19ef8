/-! decode rows -/
theorem dX0_init_0 : decode cX0_init 0 = .ok (.aload_n 0, 1) := by decide +kernel
theorem dX0_init_1 : decode cX0_init 1 = .ok (.invokespecial 3, 3) := by decide +kernel
theorem dX0_init_4 : decode cX0_init 4 = .ok (.aload_n 0, 1) := by decide +kernel
theorem dX0_init_5 : decode cX0_init 5 = .ok (.aload_n 1, 1) := by decide +kernel
theorem dX0_init_6 : decode cX0_init 6 = .ok (.getfield 9, 3) := by decide +kernel
theorem dX0_init_9 : decode cX0_init 9 = .ok (.iconst 4, 1) := by decide +kernel
theorem dX0_init_10 : decode cX0_init 10 = .ok (.invokestatic 15, 3) := by decide +kernel
theorem dX0_init_13 : decode cX0_init 13 = .ok (.putfield 21, 3) := by decide +kernel
theorem dX0_init_16 : decode cX0_init 16 = .ok (.aload_n 0, 1) := by decide +kernel
theorem dX0_init_17 : decode cX0_init 17 = .ok (.aload_n 1, 1) := by decide +kernel
theorem dX0_init_18 : decode cX0_init 18 = .ok (.getfield 24, 3) := by decide +kernel
theorem dX0_init_21 : decode cX0_init 21 = .ok (.iconst 4, 1) := by decide +kernel
theorem dX0_init_22 : decode cX0_init 22 = .ok (.invokestatic 15, 3) := by decide +kernel
theorem dX0_init_25 : decode cX0_init 25 = .ok (.putfield 27, 3) := by decide +kernel
theorem dX0_init_28 : decode cX0_init 28 = .ok (.aload_n 0, 1) := by decide +kernel
theorem dX0_init_29 : decode cX0_init 29 = .ok (.aload_n 1, 1) := by decide +kernel
theorem dX0_init_30 : decode cX0_init 30 = .ok (.getfield 28, 3) := by decide +kernel
theorem dX0_init_33 : decode cX0_init 33 = .ok (.putfield 31, 3) := by decide +kernel
theorem dX0_init_36 : decode cX0_init 36 = .ok (.aload_n 0, 1) := by decide +kernel
theorem dX0_init_37 : decode cX0_init 37 = .ok (.aload_n 1, 1) := by decide +kernel
theorem dX0_init_38 : decode cX0_init 38 = .ok (.getfield 32, 3) := by decide +kernel
theorem dX0_init_41 : decode cX0_init 41 = .ok (.putfield 35, 3) := by decide +kernel
theorem dX0_init_44 : decode cX0_init 44 = .ok (.aload_n 0, 1) := by decide +kernel
theorem dX0_init_45 : decode cX0_init 45 = .ok (.aload_n 1, 1) := by decide +kernel
theorem dX0_init_46 : decode cX0_init 46 = .ok (.getfield 36, 3) := by decide +kernel
theorem dX0_init_49 : decode cX0_init 49 = .ok (.putfield 39, 3) := by decide +kernel
theorem dX0_init_52 : decode cX0_init 52 = .ok (.aload_n 0, 1) := by decide +kernel
theorem dX0_init_53 : decode cX0_init 53 = .ok (.aload_n 1, 1) := by decide +kernel
theorem dX0_init_54 : decode cX0_init 54 = .ok (.getfield 40, 3) := by decide +kernel
theorem dX0_init_57 : decode cX0_init 57 = .ok (.putfield 43, 3) := by decide +kernel
theorem dX0_init_60 : decode cX0_init 60 = .ok (.aload_n 0, 1) := by decide +kernel
theorem dX0_init_61 : decode cX0_init 61 = .ok (.aload_n 1, 1) := by decide +kernel
theorem dX0_init_62 : decode cX0_init 62 = .ok (.getfield 44, 3) := by decide +kernel
theorem dX0_init_65 : decode cX0_init 65 = .ok (.putfield 48, 3) := by decide +kernel
theorem dX0_init_68 : decode cX0_init 68 = .ok (.aload_n 0, 1) := by decide +kernel
theorem dX0_init_69 : decode cX0_init 69 = .ok (.aload_n 1, 1) := by decide +kernel
theorem dX0_init_70 : decode cX0_init 70 = .ok (.getfield 49, 3) := by decide +kernel
theorem dX0_init_73 : decode cX0_init 73 = .ok (.putfield 52, 3) := by decide +kernel
theorem dX0_init_76 : decode cX0_init 76 = .ok (.aload_n 0, 1) := by decide +kernel
theorem dX0_init_77 : decode cX0_init 77 = .ok (.getfield 21, 3) := by decide +kernel
theorem dX0_init_80 : decode cX0_init 80 = .ok (.ifCond .le 10, 3) := by decide +kernel
theorem dX0_init_83 : decode cX0_init 83 = .ok (.aload_n 0, 1) := by decide +kernel
theorem dX0_init_84 : decode cX0_init 84 = .ok (.getfield 27, 3) := by decide +kernel
theorem dX0_init_87 : decode cX0_init 87 = .ok (.goto 4, 3) := by decide +kernel
theorem dX0_init_90 : decode cX0_init 90 = .ok (.iconst 0, 1) := by decide +kernel
theorem dX0_init_91 : decode cX0_init 91 = .ok (.istore_n 2, 1) := by decide +kernel
theorem dX0_init_92 : decode cX0_init 92 = .ok (.aload_n 0, 1) := by decide +kernel
theorem dX0_init_93 : decode cX0_init 93 = .ok (.aload_n 1, 1) := by decide +kernel
theorem dX0_init_94 : decode cX0_init 94 = .ok (.getfield 53, 3) := by decide +kernel
theorem dX0_init_97 : decode cX0_init 97 = .ok (.iconst (-1), 1) := by decide +kernel
theorem dX0_init_98 : decode cX0_init 98 = .ok (.if_icmp .ne 7, 3) := by decide +kernel
theorem dX0_init_101 : decode cX0_init 101 = .ok (.iload_n 2, 1) := by decide +kernel
theorem dX0_init_102 : decode cX0_init 102 = .ok (.goto 7, 3) := by decide +kernel
theorem dX0_init_105 : decode cX0_init 105 = .ok (.aload_n 1, 1) := by decide +kernel
theorem dX0_init_106 : decode cX0_init 106 = .ok (.getfield 53, 3) := by decide +kernel
theorem dX0_init_109 : decode cX0_init 109 = .ok (.putfield 56, 3) := by decide +kernel
theorem dX0_init_112 : decode cX0_init 112 = .ok (.aload_n 0, 1) := by decide +kernel
theorem dX0_init_113 : decode cX0_init 113 = .ok (.aload_n 0, 1) := by decide +kernel
theorem dX0_init_114 : decode cX0_init 114 = .ok (.getfield 21, 3) := by decide +kernel
theorem dX0_init_117 : decode cX0_init 117 = .ok (.aload_n 0, 1) := by decide +kernel
theorem dX0_init_118 : decode cX0_init 118 = .ok (.getfield 27, 3) := by decide +kernel
theorem dX0_init_121 : decode cX0_init 121 = .ok (.invokestatic 57, 3) := by decide +kernel
theorem dX0_init_124 : decode cX0_init 124 = .ok (.putfield 61, 3) := by decide +kernel
theorem dX0_init_127 : decode cX0_init 127 = .ok (.aload_n 0, 1) := by decide +kernel
theorem dX0_init_128 : decode cX0_init 128 = .ok (.aload_n 0, 1) := by decide +kernel
theorem dX0_init_129 : decode cX0_init 129 = .ok (.getfield 61, 3) := by decide +kernel
theorem dX0_init_132 : decode cX0_init 132 = .ok (.arraylength, 1) := by decide +kernel
theorem dX0_init_133 : decode cX0_init 133 = .ok (.iconst 4, 1) := by decide +kernel
theorem dX0_init_134 : decode cX0_init 134 = .ok (.imul, 1) := by decide +kernel
theorem dX0_init_135 : decode cX0_init 135 = .ok (.newarray .int, 2) := by decide +kernel
theorem dX0_init_137 : decode cX0_init 137 = .ok (.putfield 65, 3) := by decide +kernel
theorem dX0_init_140 : decode cX0_init 140 = .ok (.iconst 0, 1) := by decide +kernel
theorem dX0_init_141 : decode cX0_init 141 = .ok (.istore_n 3, 1) := by decide +kernel
theorem dX0_init_142 : decode cX0_init 142 = .ok (.iload_n 3, 1) := by decide +kernel
theorem dX0_init_143 : decode cX0_init 143 = .ok (.aload_n 0, 1) := by decide +kernel
theorem dX0_init_144 : decode cX0_init 144 = .ok (.getfield 65, 3) := by decide +kernel
theorem dX0_init_147 : decode cX0_init 147 = .ok (.arraylength, 1) := by decide +kernel
theorem dX0_init_148 : decode cX0_init 148 = .ok (.if_icmp .ge 38, 3) := by decide +kernel
theorem dX0_init_151 : decode cX0_init 151 = .ok (.iload_n 3, 1) := by decide +kernel
theorem dX0_init_152 : decode cX0_init 152 = .ok (.iconst 4, 1) := by decide +kernel
theorem dX0_init_153 : decode cX0_init 153 = .ok (.irem, 1) := by decide +kernel
theorem dX0_init_154 : decode cX0_init 154 = .ok (.istore 4, 2) := by decide +kernel
theorem dX0_init_156 : decode cX0_init 156 = .ok (.aload_n 0, 1) := by decide +kernel
theorem dX0_init_157 : decode cX0_init 157 = .ok (.getfield 65, 3) := by decide +kernel
theorem dX0_init_160 : decode cX0_init 160 = .ok (.iload_n 3, 1) := by decide +kernel
theorem dX0_init_161 : decode cX0_init 161 = .ok (.iload 4, 2) := by decide +kernel
theorem dX0_init_163 : decode cX0_init 163 = .ok (.iconst 5, 1) := by decide +kernel
theorem dX0_init_164 : decode cX0_init 164 = .ok (.imul, 1) := by decide +kernel
theorem dX0_init_165 : decode cX0_init 165 = .ok (.aload_n 0, 1) := by decide +kernel
theorem dX0_init_166 : decode cX0_init 166 = .ok (.getfield 61, 3) := by decide +kernel
theorem dX0_init_169 : decode cX0_init 169 = .ok (.iload_n 3, 1) := by decide +kernel
theorem dX0_init_170 : decode cX0_init 170 = .ok (.iconst 4, 1) := by decide +kernel
theorem dX0_init_171 : decode cX0_init 171 = .ok (.idiv, 1) := by decide +kernel
theorem dX0_init_172 : decode cX0_init 172 = .ok (.iaload, 1) := by decide +kernel
theorem dX0_init_173 : decode cX0_init 173 = .ok (.iload 4, 2) := by decide +kernel
theorem dX0_init_175 : decode cX0_init 175 = .ok (.invokestatic 68, 3) := by decide +kernel
theorem dX0_init_178 : decode cX0_init 178 = .ok (.iadd, 1) := by decide +kernel
theorem dX0_init_179 : decode cX0_init 179 = .ok (.iastore, 1) := by decide +kernel
theorem dX0_init_180 : decode cX0_init 180 = .ok (.iinc 3 1, 3) := by decide +kernel
theorem dX0_init_183 : decode cX0_init 183 = .ok (.goto (-41), 3) := by decide +kernel
theorem dX0_init_186 : decode cX0_init 186 = .ok (.return_, 1) := by decide +kernel
theorem dX0_listLeadings_0 : decode cX0_listLeadings 0 = .ok (.bipush 35, 2) := by decide +kernel
theorem dX0_listLeadings_2 : decode cX0_listLeadings 2 = .ok (.newarray .int, 2) := by decide +kernel
theorem dX0_listLeadings_4 : decode cX0_listLeadings 4 = .ok (.astore_n 2, 1) := by decide +kernel
theorem dX0_listLeadings_5 : decode cX0_listLeadings 5 = .ok (.iconst 0, 1) := by decide +kernel
theorem dX0_listLeadings_6 : decode cX0_listLeadings 6 = .ok (.istore_n 3, 1) := by decide +kernel
theorem dX0_listLeadings_7 : decode cX0_listLeadings 7 = .ok (.iload_n 0, 1) := by decide +kernel
theorem dX0_listLeadings_8 : decode cX0_listLeadings 8 = .ok (.iconst 4, 1) := by decide +kernel
theorem dX0_listLeadings_9 : decode cX0_listLeadings 9 = .ok (.if_icmp .ge 15, 3) := by decide +kernel
theorem dX0_listLeadings_12 : decode cX0_listLeadings 12 = .ok (.getstatic 71, 3) := by decide +kernel
theorem dX0_listLeadings_15 : decode cX0_listLeadings 15 = .ok (.iload_n 0, 1) := by decide +kernel
theorem dX0_listLeadings_16 : decode cX0_listLeadings 16 = .ok (.iconst 0, 1) := by decide +kernel
theorem dX0_listLeadings_17 : decode cX0_listLeadings 17 = .ok (.invokestatic 74, 3) := by decide +kernel
theorem dX0_listLeadings_20 : decode cX0_listLeadings 20 = .ok (.iaload, 1) := by decide +kernel
theorem dX0_listLeadings_21 : decode cX0_listLeadings 21 = .ok (.goto 6, 3) := by decide +kernel
theorem dX0_listLeadings_24 : decode cX0_listLeadings 24 = .ok (.sipush 625, 3) := by decide +kernel
theorem dX0_listLeadings_27 : decode cX0_listLeadings 27 = .ok (.istore 4, 2) := by decide +kernel
theorem dX0_listLeadings_29 : decode cX0_listLeadings 29 = .ok (.iload_n 0, 1) := by decide +kernel
theorem dX0_listLeadings_30 : decode cX0_listLeadings 30 = .ok (.ifCond .le 7, 3) := by decide +kernel
theorem dX0_listLeadings_33 : decode cX0_listLeadings 33 = .ok (.iload_n 1, 1) := by decide +kernel
theorem dX0_listLeadings_34 : decode cX0_listLeadings 34 = .ok (.goto 4, 3) := by decide +kernel
theorem dX0_listLeadings_37 : decode cX0_listLeadings 37 = .ok (.iconst 0, 1) := by decide +kernel
theorem dX0_listLeadings_38 : decode cX0_listLeadings 38 = .ok (.istore 5, 2) := by decide +kernel
theorem dX0_listLeadings_40 : decode cX0_listLeadings 40 = .ok (.iconst 0, 1) := by decide +kernel
theorem dX0_listLeadings_41 : decode cX0_listLeadings 41 = .ok (.istore 6, 2) := by decide +kernel
theorem dX0_listLeadings_43 : decode cX0_listLeadings 43 = .ok (.iload 6, 2) := by decide +kernel
theorem dX0_listLeadings_45 : decode cX0_listLeadings 45 = .ok (.iload 4, 2) := by decide +kernel
theorem dX0_listLeadings_47 : decode cX0_listLeadings 47 = .ok (.if_icmp .ge 33, 3) := by decide +kernel
theorem dX0_listLeadings_50 : decode cX0_listLeadings 50 = .ok (.iload_n 3, 1) := by decide +kernel
theorem dX0_listLeadings_51 : decode cX0_listLeadings 51 = .ok (.bipush 35, 2) := by decide +kernel
theorem dX0_listLeadings_53 : decode cX0_listLeadings 53 = .ok (.if_icmp .ge 27, 3) := by decide +kernel
theorem dX0_listLeadings_56 : decode cX0_listLeadings 56 = .ok (.iload 6, 2) := by decide +kernel
theorem dX0_listLeadings_58 : decode cX0_listLeadings 58 = .ok (.invokestatic 77, 3) := by decide +kernel
theorem dX0_listLeadings_61 : decode cX0_listLeadings 61 = .ok (.iload 5, 2) := by decide +kernel
theorem dX0_listLeadings_63 : decode cX0_listLeadings 63 = .ok (.if_icmp .ne 11, 3) := by decide +kernel
theorem dX0_listLeadings_66 : decode cX0_listLeadings 66 = .ok (.aload_n 2, 1) := by decide +kernel
theorem dX0_listLeadings_67 : decode cX0_listLeadings 67 = .ok (.iload_n 3, 1) := by decide +kernel
theorem dX0_listLeadings_68 : decode cX0_listLeadings 68 = .ok (.iload 6, 2) := by decide +kernel
theorem dX0_listLeadings_70 : decode cX0_listLeadings 70 = .ok (.iastore, 1) := by decide +kernel
theorem dX0_listLeadings_71 : decode cX0_listLeadings 71 = .ok (.iinc 3 1, 3) := by decide +kernel
theorem dX0_listLeadings_74 : decode cX0_listLeadings 74 = .ok (.iinc 6 1, 3) := by decide +kernel
theorem dX0_listLeadings_77 : decode cX0_listLeadings 77 = .ok (.goto (-34), 3) := by decide +kernel
theorem dX0_listLeadings_80 : decode cX0_listLeadings 80 = .ok (.aload_n 2, 1) := by decide +kernel
theorem dX0_listLeadings_81 : decode cX0_listLeadings 81 = .ok (.iload_n 3, 1) := by decide +kernel
theorem dX0_listLeadings_82 : decode cX0_listLeadings 82 = .ok (.invokestatic 81, 3) := by decide +kernel
theorem dX0_listLeadings_85 : decode cX0_listLeadings 85 = .ok (.areturn, 1) := by decide +kernel
theorem dX0_allDrops_0 : decode cX0_allDrops 0 = .ok (.iconst 0, 1) := by decide +kernel
theorem dX0_allDrops_1 : decode cX0_allDrops 1 = .ok (.istore_n 1, 1) := by decide +kernel
theorem dX0_allDrops_2 : decode cX0_allDrops 2 = .ok (.iconst 0, 1) := by decide +kernel
theorem dX0_allDrops_3 : decode cX0_allDrops 3 = .ok (.istore_n 2, 1) := by decide +kernel
theorem dX0_allDrops_4 : decode cX0_allDrops 4 = .ok (.iload_n 2, 1) := by decide +kernel
theorem dX0_allDrops_5 : decode cX0_allDrops 5 = .ok (.iconst 4, 1) := by decide +kernel
theorem dX0_allDrops_6 : decode cX0_allDrops 6 = .ok (.if_icmp .ge 17, 3) := by decide +kernel
theorem dX0_allDrops_9 : decode cX0_allDrops 9 = .ok (.iload_n 1, 1) := by decide +kernel
theorem dX0_allDrops_10 : decode cX0_allDrops 10 = .ok (.iload_n 0, 1) := by decide +kernel
theorem dX0_allDrops_11 : decode cX0_allDrops 11 = .ok (.iload_n 2, 1) := by decide +kernel
theorem dX0_allDrops_12 : decode cX0_allDrops 12 = .ok (.invokestatic 68, 3) := by decide +kernel
theorem dX0_allDrops_15 : decode cX0_allDrops 15 = .ok (.iadd, 1) := by decide +kernel
theorem dX0_allDrops_16 : decode cX0_allDrops 16 = .ok (.istore_n 1, 1) := by decide +kernel
theorem dX0_allDrops_17 : decode cX0_allDrops 17 = .ok (.iinc 2 1, 3) := by decide +kernel
theorem dX0_allDrops_20 : decode cX0_allDrops 20 = .ok (.goto (-16), 3) := by decide +kernel
theorem dX0_allDrops_23 : decode cX0_allDrops 23 = .ok (.iload_n 1, 1) := by decide +kernel
theorem dX0_allDrops_24 : decode cX0_allDrops 24 = .ok (.ireturn, 1) := by decide +kernel
theorem dX0_isLeading_0 : decode cX0_isLeading 0 = .ok (.iconst 0, 1) := by decide +kernel
theorem dX0_isLeading_1 : decode cX0_isLeading 1 = .ok (.istore_n 2, 1) := by decide +kernel
theorem dX0_isLeading_2 : decode cX0_isLeading 2 = .ok (.iload_n 2, 1) := by decide +kernel
theorem dX0_isLeading_3 : decode cX0_isLeading 3 = .ok (.aload_n 0, 1) := by decide +kernel
theorem dX0_isLeading_4 : decode cX0_isLeading 4 = .ok (.getfield 61, 3) := by decide +kernel
theorem dX0_isLeading_7 : decode cX0_isLeading 7 = .ok (.arraylength, 1) := by decide +kernel
theorem dX0_isLeading_8 : decode cX0_isLeading 8 = .ok (.if_icmp .ge 21, 3) := by decide +kernel
theorem dX0_isLeading_11 : decode cX0_isLeading 11 = .ok (.aload_n 0, 1) := by decide +kernel
theorem dX0_isLeading_12 : decode cX0_isLeading 12 = .ok (.getfield 61, 3) := by decide +kernel
theorem dX0_isLeading_15 : decode cX0_isLeading 15 = .ok (.iload_n 2, 1) := by decide +kernel
theorem dX0_isLeading_16 : decode cX0_isLeading 16 = .ok (.iaload, 1) := by decide +kernel
theorem dX0_isLeading_17 : decode cX0_isLeading 17 = .ok (.iload_n 1, 1) := by decide +kernel
theorem dX0_isLeading_18 : decode cX0_isLeading 18 = .ok (.if_icmp .ne 5, 3) := by decide +kernel
theorem dX0_isLeading_21 : decode cX0_isLeading 21 = .ok (.iconst 1, 1) := by decide +kernel
theorem dX0_isLeading_22 : decode cX0_isLeading 22 = .ok (.ireturn, 1) := by decide +kernel
theorem dX0_isLeading_23 : decode cX0_isLeading 23 = .ok (.iinc 2 1, 3) := by decide +kernel
theorem dX0_isLeading_26 : decode cX0_isLeading 26 = .ok (.goto (-24), 3) := by decide +kernel
theorem dX0_isLeading_29 : decode cX0_isLeading 29 = .ok (.iconst 0, 1) := by decide +kernel
theorem dX0_isLeading_30 : decode cX0_isLeading 30 = .ok (.ireturn, 1) := by decide +kernel
theorem dX0_leadingAt_0 : decode cX0_leadingAt 0 = .ok (.iload_n 1, 1) := by decide +kernel
theorem dX0_leadingAt_1 : decode cX0_leadingAt 1 = .ok (.ifCond .lt 21, 3) := by decide +kernel
theorem dX0_leadingAt_4 : decode cX0_leadingAt 4 = .ok (.iload_n 1, 1) := by decide +kernel
theorem dX0_leadingAt_5 : decode cX0_leadingAt 5 = .ok (.aload_n 0, 1) := by decide +kernel
theorem dX0_leadingAt_6 : decode cX0_leadingAt 6 = .ok (.getfield 61, 3) := by decide +kernel
theorem dX0_leadingAt_9 : decode cX0_leadingAt 9 = .ok (.arraylength, 1) := by decide +kernel
theorem dX0_leadingAt_10 : decode cX0_leadingAt 10 = .ok (.if_icmp .ge 12, 3) := by decide +kernel
theorem dX0_leadingAt_13 : decode cX0_leadingAt 13 = .ok (.aload_n 0, 1) := by decide +kernel
theorem dX0_leadingAt_14 : decode cX0_leadingAt 14 = .ok (.getfield 61, 3) := by decide +kernel
theorem dX0_leadingAt_17 : decode cX0_leadingAt 17 = .ok (.iload_n 1, 1) := by decide +kernel
theorem dX0_leadingAt_18 : decode cX0_leadingAt 18 = .ok (.iaload, 1) := by decide +kernel
theorem dX0_leadingAt_19 : decode cX0_leadingAt 19 = .ok (.goto 4, 3) := by decide +kernel
theorem dX0_leadingAt_22 : decode cX0_leadingAt 22 = .ok (.iconst (-1), 1) := by decide +kernel
theorem dX0_leadingAt_23 : decode cX0_leadingAt 23 = .ok (.ireturn, 1) := by decide +kernel
theorem dX0_metBits_0 : decode cX0_metBits 0 = .ok (.iconst 0, 1) := by decide +kernel
theorem dX0_metBits_1 : decode cX0_metBits 1 = .ok (.istore_n 2, 1) := by decide +kernel
theorem dX0_metBits_2 : decode cX0_metBits 2 = .ok (.iconst 0, 1) := by decide +kernel
theorem dX0_metBits_3 : decode cX0_metBits 3 = .ok (.istore_n 3, 1) := by decide +kernel
theorem dX0_metBits_4 : decode cX0_metBits 4 = .ok (.iload_n 3, 1) := by decide +kernel
theorem dX0_metBits_5 : decode cX0_metBits 5 = .ok (.aload_n 0, 1) := by decide +kernel
theorem dX0_metBits_6 : decode cX0_metBits 6 = .ok (.getfield 21, 3) := by decide +kernel
theorem dX0_metBits_9 : decode cX0_metBits 9 = .ok (.if_icmp .ge 23, 3) := by decide +kernel
theorem dX0_metBits_12 : decode cX0_metBits 12 = .ok (.iload_n 1, 1) := by decide +kernel
theorem dX0_metBits_13 : decode cX0_metBits 13 = .ok (.iload_n 3, 1) := by decide +kernel
theorem dX0_metBits_14 : decode cX0_metBits 14 = .ok (.invokestatic 87, 3) := by decide +kernel
theorem dX0_metBits_17 : decode cX0_metBits 17 = .ok (.ifCond .ne 9, 3) := by decide +kernel
theorem dX0_metBits_20 : decode cX0_metBits 20 = .ok (.iload_n 2, 1) := by decide +kernel
theorem dX0_metBits_21 : decode cX0_metBits 21 = .ok (.iconst 1, 1) := by decide +kernel
theorem dX0_metBits_22 : decode cX0_metBits 22 = .ok (.iload_n 3, 1) := by decide +kernel
theorem dX0_metBits_23 : decode cX0_metBits 23 = .ok (.ishl, 1) := by decide +kernel
theorem dX0_metBits_24 : decode cX0_metBits 24 = .ok (.ior, 1) := by decide +kernel
theorem dX0_metBits_25 : decode cX0_metBits 25 = .ok (.istore_n 2, 1) := by decide +kernel
theorem dX0_metBits_26 : decode cX0_metBits 26 = .ok (.iinc 3 1, 3) := by decide +kernel
theorem dX0_metBits_29 : decode cX0_metBits 29 = .ok (.goto (-25), 3) := by decide +kernel
theorem dX0_metBits_32 : decode cX0_metBits 32 = .ok (.iload_n 2, 1) := by decide +kernel
theorem dX0_metBits_33 : decode cX0_metBits 33 = .ok (.ireturn, 1) := by decide +kernel
theorem dX0_metCount_0 : decode cX0_metCount 0 = .ok (.iconst 0, 1) := by decide +kernel
theorem dX0_metCount_1 : decode cX0_metCount 1 = .ok (.istore_n 2, 1) := by decide +kernel
theorem dX0_metCount_2 : decode cX0_metCount 2 = .ok (.iconst 0, 1) := by decide +kernel
theorem dX0_metCount_3 : decode cX0_metCount 3 = .ok (.istore_n 3, 1) := by decide +kernel
theorem dX0_metCount_4 : decode cX0_metCount 4 = .ok (.iload_n 3, 1) := by decide +kernel
theorem dX0_metCount_5 : decode cX0_metCount 5 = .ok (.aload_n 0, 1) := by decide +kernel
theorem dX0_metCount_6 : decode cX0_metCount 6 = .ok (.getfield 21, 3) := by decide +kernel
theorem dX0_metCount_9 : decode cX0_metCount 9 = .ok (.if_icmp .ge 25, 3) := by decide +kernel
theorem dX0_metCount_12 : decode cX0_metCount 12 = .ok (.iload_n 2, 1) := by decide +kernel
theorem dX0_metCount_13 : decode cX0_metCount 13 = .ok (.iload_n 1, 1) := by decide +kernel
theorem dX0_metCount_14 : decode cX0_metCount 14 = .ok (.iload_n 3, 1) := by decide +kernel
theorem dX0_metCount_15 : decode cX0_metCount 15 = .ok (.invokestatic 87, 3) := by decide +kernel
theorem dX0_metCount_18 : decode cX0_metCount 18 = .ok (.ifCond .ne 7, 3) := by decide +kernel
theorem dX0_metCount_21 : decode cX0_metCount 21 = .ok (.iconst 1, 1) := by decide +kernel
theorem dX0_metCount_22 : decode cX0_metCount 22 = .ok (.goto 4, 3) := by decide +kernel
theorem dX0_metCount_25 : decode cX0_metCount 25 = .ok (.iconst 0, 1) := by decide +kernel
theorem dX0_metCount_26 : decode cX0_metCount 26 = .ok (.iadd, 1) := by decide +kernel
theorem dX0_metCount_27 : decode cX0_metCount 27 = .ok (.istore_n 2, 1) := by decide +kernel
theorem dX0_metCount_28 : decode cX0_metCount 28 = .ok (.iinc 3 1, 3) := by decide +kernel
theorem dX0_metCount_31 : decode cX0_metCount 31 = .ok (.goto (-27), 3) := by decide +kernel
theorem dX0_metCount_34 : decode cX0_metCount 34 = .ok (.iload_n 2, 1) := by decide +kernel
theorem dX0_metCount_35 : decode cX0_metCount 35 = .ok (.ireturn, 1) := by decide +kernel
theorem dX0_gapSum_0 : decode cX0_gapSum 0 = .ok (.iconst 0, 1) := by decide +kernel
theorem dX0_gapSum_1 : decode cX0_gapSum 1 = .ok (.istore_n 2, 1) := by decide +kernel
theorem dX0_gapSum_2 : decode cX0_gapSum 2 = .ok (.iconst 0, 1) := by decide +kernel
theorem dX0_gapSum_3 : decode cX0_gapSum 3 = .ok (.istore_n 3, 1) := by decide +kernel
theorem dX0_gapSum_4 : decode cX0_gapSum 4 = .ok (.iload_n 3, 1) := by decide +kernel
theorem dX0_gapSum_5 : decode cX0_gapSum 5 = .ok (.aload_n 0, 1) := by decide +kernel
theorem dX0_gapSum_6 : decode cX0_gapSum 6 = .ok (.getfield 21, 3) := by decide +kernel
theorem dX0_gapSum_9 : decode cX0_gapSum 9 = .ok (.if_icmp .ge 17, 3) := by decide +kernel
theorem dX0_gapSum_12 : decode cX0_gapSum 12 = .ok (.iload_n 2, 1) := by decide +kernel
theorem dX0_gapSum_13 : decode cX0_gapSum 13 = .ok (.iload_n 1, 1) := by decide +kernel
theorem dX0_gapSum_14 : decode cX0_gapSum 14 = .ok (.iload_n 3, 1) := by decide +kernel
theorem dX0_gapSum_15 : decode cX0_gapSum 15 = .ok (.invokestatic 87, 3) := by decide +kernel
theorem dX0_gapSum_18 : decode cX0_gapSum 18 = .ok (.iadd, 1) := by decide +kernel
theorem dX0_gapSum_19 : decode cX0_gapSum 19 = .ok (.istore_n 2, 1) := by decide +kernel
theorem dX0_gapSum_20 : decode cX0_gapSum 20 = .ok (.iinc 3 1, 3) := by decide +kernel
theorem dX0_gapSum_23 : decode cX0_gapSum 23 = .ok (.goto (-19), 3) := by decide +kernel
theorem dX0_gapSum_26 : decode cX0_gapSum 26 = .ok (.iload_n 2, 1) := by decide +kernel
theorem dX0_gapSum_27 : decode cX0_gapSum 27 = .ok (.ireturn, 1) := by decide +kernel
theorem dX0_widestGap_0 : decode cX0_widestGap 0 = .ok (.iconst 0, 1) := by decide +kernel
theorem dX0_widestGap_1 : decode cX0_widestGap 1 = .ok (.istore_n 2, 1) := by decide +kernel
theorem dX0_widestGap_2 : decode cX0_widestGap 2 = .ok (.iconst 0, 1) := by decide +kernel
theorem dX0_widestGap_3 : decode cX0_widestGap 3 = .ok (.istore_n 3, 1) := by decide +kernel
theorem dX0_widestGap_4 : decode cX0_widestGap 4 = .ok (.iload_n 3, 1) := by decide +kernel
theorem dX0_widestGap_5 : decode cX0_widestGap 5 = .ok (.aload_n 0, 1) := by decide +kernel
theorem dX0_widestGap_6 : decode cX0_widestGap 6 = .ok (.getfield 21, 3) := by decide +kernel
theorem dX0_widestGap_9 : decode cX0_widestGap 9 = .ok (.if_icmp .ge 19, 3) := by decide +kernel
theorem dX0_widestGap_12 : decode cX0_widestGap 12 = .ok (.iload_n 2, 1) := by decide +kernel
theorem dX0_widestGap_13 : decode cX0_widestGap 13 = .ok (.iload_n 1, 1) := by decide +kernel
theorem dX0_widestGap_14 : decode cX0_widestGap 14 = .ok (.iload_n 3, 1) := by decide +kernel
theorem dX0_widestGap_15 : decode cX0_widestGap 15 = .ok (.invokestatic 87, 3) := by decide +kernel
theorem dX0_widestGap_18 : decode cX0_widestGap 18 = .ok (.invokestatic 74, 3) := by decide +kernel
theorem dX0_widestGap_21 : decode cX0_widestGap 21 = .ok (.istore_n 2, 1) := by decide +kernel
theorem dX0_widestGap_22 : decode cX0_widestGap 22 = .ok (.iinc 3 1, 3) := by decide +kernel
theorem dX0_widestGap_25 : decode cX0_widestGap 25 = .ok (.goto (-21), 3) := by decide +kernel
theorem dX0_widestGap_28 : decode cX0_widestGap 28 = .ok (.iload_n 2, 1) := by decide +kernel
theorem dX0_widestGap_29 : decode cX0_widestGap 29 = .ok (.ireturn, 1) := by decide +kernel
theorem dX1_init_0 : decode cX1_init 0 = .ok (.aload_n 0, 1) := by decide +kernel
theorem dX1_init_1 : decode cX1_init 1 = .ok (.invokespecial 3, 3) := by decide +kernel
theorem dX1_init_4 : decode cX1_init 4 = .ok (.aload_n 0, 1) := by decide +kernel
theorem dX1_init_5 : decode cX1_init 5 = .ok (.bipush 8, 2) := by decide +kernel
theorem dX1_init_7 : decode cX1_init 7 = .ok (.newarray .int, 2) := by decide +kernel
theorem dX1_init_9 : decode cX1_init 9 = .ok (.putfield 11, 3) := by decide +kernel
theorem dX1_init_12 : decode cX1_init 12 = .ok (.aload_n 0, 1) := by decide +kernel
theorem dX1_init_13 : decode cX1_init 13 = .ok (.bipush 64, 2) := by decide +kernel
theorem dX1_init_15 : decode cX1_init 15 = .ok (.newarray .int, 2) := by decide +kernel
theorem dX1_init_17 : decode cX1_init 17 = .ok (.putfield 17, 3) := by decide +kernel
theorem dX1_init_20 : decode cX1_init 20 = .ok (.aload_n 0, 1) := by decide +kernel
theorem dX1_init_21 : decode cX1_init 21 = .ok (.sipush 2000, 3) := by decide +kernel
theorem dX1_init_24 : decode cX1_init 24 = .ok (.newarray .byte, 2) := by decide +kernel
theorem dX1_init_26 : decode cX1_init 26 = .ok (.putfield 20, 3) := by decide +kernel
theorem dX1_init_29 : decode cX1_init 29 = .ok (.aload_n 0, 1) := by decide +kernel
theorem dX1_init_30 : decode cX1_init 30 = .ok (.sipush 20000, 3) := by decide +kernel
theorem dX1_init_33 : decode cX1_init 33 = .ok (.newarray .byte, 2) := by decide +kernel
theorem dX1_init_35 : decode cX1_init 35 = .ok (.putfield 24, 3) := by decide +kernel
theorem dX1_init_38 : decode cX1_init 38 = .ok (.aload_n 0, 1) := by decide +kernel
theorem dX1_init_39 : decode cX1_init 39 = .ok (.bipush 20, 2) := by decide +kernel
theorem dX1_init_41 : decode cX1_init 41 = .ok (.newarray .int, 2) := by decide +kernel
theorem dX1_init_43 : decode cX1_init 43 = .ok (.putfield 27, 3) := by decide +kernel
theorem dX1_init_46 : decode cX1_init 46 = .ok (.aload_n 0, 1) := by decide +kernel
theorem dX1_init_47 : decode cX1_init 47 = .ok (.iconst 0, 1) := by decide +kernel
theorem dX1_init_48 : decode cX1_init 48 = .ok (.putfield 30, 3) := by decide +kernel
theorem dX1_init_51 : decode cX1_init 51 = .ok (.aload_n 0, 1) := by decide +kernel
theorem dX1_init_52 : decode cX1_init 52 = .ok (.aload_n 1, 1) := by decide +kernel
theorem dX1_init_53 : decode cX1_init 53 = .ok (.putfield 34, 3) := by decide +kernel
theorem dX1_init_56 : decode cX1_init 56 = .ok (.return_, 1) := by decide +kernel
theorem dX1_tune_0 : decode cX1_tune 0 = .ok (.aload_n 0, 1) := by decide +kernel
theorem dX1_tune_1 : decode cX1_tune 1 = .ok (.getfield 34, 3) := by decide +kernel
theorem dX1_tune_4 : decode cX1_tune 4 = .ok (.aload_n 1, 1) := by decide +kernel
theorem dX1_tune_5 : decode cX1_tune 5 = .ok (.if_acmp .eq 21, 3) := by decide +kernel
theorem dX1_tune_8 : decode cX1_tune 8 = .ok (.aload_n 0, 1) := by decide +kernel
theorem dX1_tune_9 : decode cX1_tune 9 = .ok (.getfield 34, 3) := by decide +kernel
theorem dX1_tune_12 : decode cX1_tune 12 = .ok (.getfield 38, 3) := by decide +kernel
theorem dX1_tune_15 : decode cX1_tune 15 = .ok (.ifnull 11, 3) := by decide +kernel
theorem dX1_tune_18 : decode cX1_tune 18 = .ok (.aload_n 0, 1) := by decide +kernel
theorem dX1_tune_19 : decode cX1_tune 19 = .ok (.getfield 24, 3) := by decide +kernel
theorem dX1_tune_22 : decode cX1_tune 22 = .ok (.iconst 0, 1) := by decide +kernel
theorem dX1_tune_23 : decode cX1_tune 23 = .ok (.invokestatic 44, 3) := by decide +kernel
theorem dX1_tune_26 : decode cX1_tune 26 = .ok (.aload_n 0, 1) := by decide +kernel
theorem dX1_tune_27 : decode cX1_tune 27 = .ok (.getfield 34, 3) := by decide +kernel
theorem dX1_tune_30 : decode cX1_tune 30 = .ok (.aload_n 1, 1) := by decide +kernel
theorem dX1_tune_31 : decode cX1_tune 31 = .ok (.if_acmp .ne 11, 3) := by decide +kernel
theorem dX1_tune_34 : decode cX1_tune 34 = .ok (.aload_n 0, 1) := by decide +kernel
theorem dX1_tune_35 : decode cX1_tune 35 = .ok (.getfield 30, 3) := by decide +kernel
theorem dX1_tune_38 : decode cX1_tune 38 = .ok (.iload_n 2, 1) := by decide +kernel
theorem dX1_tune_39 : decode cX1_tune 39 = .ok (.if_icmp .eq 21, 3) := by decide +kernel
theorem dX1_tune_42 : decode cX1_tune 42 = .ok (.aload_n 0, 1) := by decide +kernel
theorem dX1_tune_43 : decode cX1_tune 43 = .ok (.getfield 34, 3) := by decide +kernel
theorem dX1_tune_46 : decode cX1_tune 46 = .ok (.getfield 50, 3) := by decide +kernel
theorem dX1_tune_49 : decode cX1_tune 49 = .ok (.ifnull 11, 3) := by decide +kernel
theorem dX1_tune_52 : decode cX1_tune 52 = .ok (.aload_n 0, 1) := by decide +kernel
theorem dX1_tune_53 : decode cX1_tune 53 = .ok (.getfield 20, 3) := by decide +kernel
theorem dX1_tune_56 : decode cX1_tune 56 = .ok (.iconst 0, 1) := by decide +kernel
theorem dX1_tune_57 : decode cX1_tune 57 = .ok (.invokestatic 44, 3) := by decide +kernel
theorem dX1_tune_60 : decode cX1_tune 60 = .ok (.aload_n 0, 1) := by decide +kernel
theorem dX1_tune_61 : decode cX1_tune 61 = .ok (.aload_n 1, 1) := by decide +kernel
theorem dX1_tune_62 : decode cX1_tune 62 = .ok (.putfield 34, 3) := by decide +kernel
theorem dX1_tune_65 : decode cX1_tune 65 = .ok (.aload_n 0, 1) := by decide +kernel
theorem dX1_tune_66 : decode cX1_tune 66 = .ok (.iload_n 2, 1) := by decide +kernel
theorem dX1_tune_67 : decode cX1_tune 67 = .ok (.putfield 30, 3) := by decide +kernel
theorem dX1_tune_70 : decode cX1_tune 70 = .ok (.return_, 1) := by decide +kernel
theorem dX1_tunedTo_0 : decode cX1_tunedTo 0 = .ok (.aload_n 0, 1) := by decide +kernel
theorem dX1_tunedTo_1 : decode cX1_tunedTo 1 = .ok (.getfield 34, 3) := by decide +kernel
theorem dX1_tunedTo_4 : decode cX1_tunedTo 4 = .ok (.areturn, 1) := by decide +kernel
theorem dX1_growth_0 : decode cX1_growth 0 = .ok (.aload_n 0, 1) := by decide +kernel
theorem dX1_growth_1 : decode cX1_growth 1 = .ok (.getfield 34, 3) := by decide +kernel
theorem dX1_growth_4 : decode cX1_growth 4 = .ok (.getfield 50, 3) := by decide +kernel
theorem dX1_growth_7 : decode cX1_growth 7 = .ok (.ifnonnull 15, 3) := by decide +kernel
theorem dX1_growth_10 : decode cX1_growth 10 = .ok (.iload 5, 2) := by decide +kernel
theorem dX1_growth_12 : decode cX1_growth 12 = .ok (.iconst 1, 1) := by decide +kernel
theorem dX1_growth_13 : decode cX1_growth 13 = .ok (.if_icmp .ne 7, 3) := by decide +kernel
theorem dX1_growth_16 : decode cX1_growth 16 = .ok (.iconst 0, 1) := by decide +kernel
theorem dX1_growth_17 : decode cX1_growth 17 = .ok (.goto 4, 3) := by decide +kernel
theorem dX1_growth_20 : decode cX1_growth 20 = .ok (.iload_n 2, 1) := by decide +kernel
theorem dX1_growth_21 : decode cX1_growth 21 = .ok (.ireturn, 1) := by decide +kernel
theorem dX1_growth_22 : decode cX1_growth 22 = .ok (.iload 4, 2) := by decide +kernel
theorem dX1_growth_24 : decode cX1_growth 24 = .ok (.iconst 4, 1) := by decide +kernel
theorem dX1_growth_25 : decode cX1_growth 25 = .ok (.imul, 1) := by decide +kernel
theorem dX1_growth_26 : decode cX1_growth 26 = .ok (.iload_n 1, 1) := by decide +kernel
theorem dX1_growth_27 : decode cX1_growth 27 = .ok (.iadd, 1) := by decide +kernel
theorem dX1_growth_28 : decode cX1_growth 28 = .ok (.iconst 5, 1) := by decide +kernel
theorem dX1_growth_29 : decode cX1_growth 29 = .ok (.imul, 1) := by decide +kernel
theorem dX1_growth_30 : decode cX1_growth 30 = .ok (.iload_n 2, 1) := by decide +kernel
theorem dX1_growth_31 : decode cX1_growth 31 = .ok (.iadd, 1) := by decide +kernel
theorem dX1_growth_32 : decode cX1_growth 32 = .ok (.bipush 10, 2) := by decide +kernel
theorem dX1_growth_34 : decode cX1_growth 34 = .ok (.imul, 1) := by decide +kernel
theorem dX1_growth_35 : decode cX1_growth 35 = .ok (.iload_n 3, 1) := by decide +kernel
theorem dX1_growth_36 : decode cX1_growth 36 = .ok (.iadd, 1) := by decide +kernel
theorem dX1_growth_37 : decode cX1_growth 37 = .ok (.iconst 2, 1) := by decide +kernel
theorem dX1_growth_38 : decode cX1_growth 38 = .ok (.imul, 1) := by decide +kernel
theorem dX1_growth_39 : decode cX1_growth 39 = .ok (.iload 5, 2) := by decide +kernel
theorem dX1_growth_41 : decode cX1_growth 41 = .ok (.iadd, 1) := by decide +kernel
theorem dX1_growth_42 : decode cX1_growth 42 = .ok (.istore 6, 2) := by decide +kernel
theorem dX1_growth_44 : decode cX1_growth 44 = .ok (.iload 6, 2) := by decide +kernel
theorem dX1_growth_46 : decode cX1_growth 46 = .ok (.ifCond .lt 13, 3) := by decide +kernel
theorem dX1_growth_49 : decode cX1_growth 49 = .ok (.iload 6, 2) := by decide +kernel
theorem dX1_growth_51 : decode cX1_growth 51 = .ok (.aload_n 0, 1) := by decide +kernel
theorem dX1_growth_52 : decode cX1_growth 52 = .ok (.getfield 20, 3) := by decide +kernel
theorem dX1_growth_55 : decode cX1_growth 55 = .ok (.arraylength, 1) := by decide +kernel
theorem dX1_growth_56 : decode cX1_growth 56 = .ok (.if_icmp .lt 5, 3) := by decide +kernel
theorem dX1_growth_59 : decode cX1_growth 59 = .ok (.iconst 0, 1) := by decide +kernel
theorem dX1_growth_60 : decode cX1_growth 60 = .ok (.ireturn, 1) := by decide +kernel
theorem dX1_growth_61 : decode cX1_growth 61 = .ok (.aload_n 0, 1) := by decide +kernel
theorem dX1_growth_62 : decode cX1_growth 62 = .ok (.getfield 20, 3) := by decide +kernel
theorem dX1_growth_65 : decode cX1_growth 65 = .ok (.iload 6, 2) := by decide +kernel
theorem dX1_growth_67 : decode cX1_growth 67 = .ok (.baload, 1) := by decide +kernel
theorem dX1_growth_68 : decode cX1_growth 68 = .ok (.ifCond .ne 96, 3) := by decide +kernel
theorem dX1_growth_71 : decode cX1_growth 71 = .ok (.aload_n 0, 1) := by decide +kernel
theorem dX1_growth_72 : decode cX1_growth 72 = .ok (.iconst (-1), 1) := by decide +kernel
theorem dX1_growth_73 : decode cX1_growth 73 = .ok (.iload 4, 2) := by decide +kernel
theorem dX1_growth_75 : decode cX1_growth 75 = .ok (.invokevirtual 53, 3) := by decide +kernel
theorem dX1_growth_78 : decode cX1_growth 78 = .ok (.aload_n 0, 1) := by decide +kernel
theorem dX1_growth_79 : decode cX1_growth 79 = .ok (.bipush (-2), 2) := by decide +kernel
theorem dX1_growth_81 : decode cX1_growth 81 = .ok (.iload 5, 2) := by decide +kernel
theorem dX1_growth_83 : decode cX1_growth 83 = .ok (.invokevirtual 53, 3) := by decide +kernel
theorem dX1_growth_86 : decode cX1_growth 86 = .ok (.aload_n 0, 1) := by decide +kernel
theorem dX1_growth_87 : decode cX1_growth 87 = .ok (.bipush (-3), 2) := by decide +kernel
theorem dX1_growth_89 : decode cX1_growth 89 = .ok (.iload_n 1, 1) := by decide +kernel
theorem dX1_growth_90 : decode cX1_growth 90 = .ok (.invokevirtual 53, 3) := by decide +kernel
theorem dX1_growth_93 : decode cX1_growth 93 = .ok (.aload_n 0, 1) := by decide +kernel
theorem dX1_growth_94 : decode cX1_growth 94 = .ok (.bipush (-4), 2) := by decide +kernel
theorem dX1_growth_96 : decode cX1_growth 96 = .ok (.aload_n 0, 1) := by decide +kernel
theorem dX1_growth_97 : decode cX1_growth 97 = .ok (.getfield 30, 3) := by decide +kernel
theorem dX1_growth_100 : decode cX1_growth 100 = .ok (.iload_n 1, 1) := by decide +kernel
theorem dX1_growth_101 : decode cX1_growth 101 = .ok (.invokestatic 57, 3) := by decide +kernel
theorem dX1_growth_104 : decode cX1_growth 104 = .ok (.invokevirtual 53, 3) := by decide +kernel
theorem dX1_growth_107 : decode cX1_growth 107 = .ok (.aload_n 0, 1) := by decide +kernel
theorem dX1_growth_108 : decode cX1_growth 108 = .ok (.bipush (-5), 2) := by decide +kernel
theorem dX1_growth_110 : decode cX1_growth 110 = .ok (.iload_n 2, 1) := by decide +kernel
theorem dX1_growth_111 : decode cX1_growth 111 = .ok (.invokevirtual 53, 3) := by decide +kernel
theorem dX1_growth_114 : decode cX1_growth 114 = .ok (.aload_n 0, 1) := by decide +kernel
theorem dX1_growth_115 : decode cX1_growth 115 = .ok (.bipush (-6), 2) := by decide +kernel
theorem dX1_growth_117 : decode cX1_growth 117 = .ok (.iload_n 3, 1) := by decide +kernel
theorem dX1_growth_118 : decode cX1_growth 118 = .ok (.invokevirtual 53, 3) := by decide +kernel
theorem dX1_growth_121 : decode cX1_growth 121 = .ok (.aload_n 0, 1) := by decide +kernel
theorem dX1_growth_122 : decode cX1_growth 122 = .ok (.getfield 34, 3) := by decide +kernel
theorem dX1_growth_125 : decode cX1_growth 125 = .ok (.getfield 50, 3) := by decide +kernel
theorem dX1_growth_128 : decode cX1_growth 128 = .ok (.aload_n 0, 1) := by decide +kernel
theorem dX1_growth_129 : decode cX1_growth 129 = .ok (.getfield 11, 3) := by decide +kernel
theorem dX1_growth_132 : decode cX1_growth 132 = .ok (.aload_n 0, 1) := by decide +kernel
theorem dX1_growth_133 : decode cX1_growth 133 = .ok (.getfield 17, 3) := by decide +kernel
theorem dX1_growth_136 : decode cX1_growth 136 = .ok (.invokevirtual 61, 3) := by decide +kernel
theorem dX1_growth_139 : decode cX1_growth 139 = .ok (.istore 7, 2) := by decide +kernel
theorem dX1_growth_141 : decode cX1_growth 141 = .ok (.aload_n 0, 1) := by decide +kernel
theorem dX1_growth_142 : decode cX1_growth 142 = .ok (.getfield 20, 3) := by decide +kernel
theorem dX1_growth_145 : decode cX1_growth 145 = .ok (.iload 6, 2) := by decide +kernel
theorem dX1_growth_147 : decode cX1_growth 147 = .ok (.bipush 10, 2) := by decide +kernel
theorem dX1_growth_149 : decode cX1_growth 149 = .ok (.bipush (-9), 2) := by decide +kernel
theorem dX1_growth_151 : decode cX1_growth 151 = .ok (.bipush 9, 2) := by decide +kernel
theorem dX1_growth_153 : decode cX1_growth 153 = .ok (.iload 7, 2) := by decide +kernel
theorem dX1_growth_155 : decode cX1_growth 155 = .ok (.invokestatic 65, 3) := by decide +kernel
theorem dX1_growth_158 : decode cX1_growth 158 = .ok (.invokestatic 70, 3) := by decide +kernel
theorem dX1_growth_161 : decode cX1_growth 161 = .ok (.iadd, 1) := by decide +kernel
theorem dX1_growth_162 : decode cX1_growth 162 = .ok (.i2b, 1) := by decide +kernel
theorem dX1_growth_163 : decode cX1_growth 163 = .ok (.bastore, 1) := by decide +kernel
theorem dX1_growth_164 : decode cX1_growth 164 = .ok (.aload_n 0, 1) := by decide +kernel
theorem dX1_growth_165 : decode cX1_growth 165 = .ok (.getfield 20, 3) := by decide +kernel
theorem dX1_growth_168 : decode cX1_growth 168 = .ok (.iload 6, 2) := by decide +kernel
theorem dX1_growth_170 : decode cX1_growth 170 = .ok (.baload, 1) := by decide +kernel
theorem dX1_growth_171 : decode cX1_growth 171 = .ok (.bipush 10, 2) := by decide +kernel
theorem dX1_growth_173 : decode cX1_growth 173 = .ok (.isub, 1) := by decide +kernel
theorem dX1_growth_174 : decode cX1_growth 174 = .ok (.ireturn, 1) := by decide +kernel
theorem dX1_know_0 : decode cX1_know 0 = .ok (.aload_n 0, 1) := by decide +kernel
theorem dX1_know_1 : decode cX1_know 1 = .ok (.getfield 11, 3) := by decide +kernel
theorem dX1_know_4 : decode cX1_know 4 = .ok (.iload_n 1, 1) := by decide +kernel
theorem dX1_know_5 : decode cX1_know 5 = .ok (.invokestatic 73, 3) := by decide +kernel
theorem dX1_know_8 : decode cX1_know 8 = .ok (.iload_n 2, 1) := by decide +kernel
theorem dX1_know_9 : decode cX1_know 9 = .ok (.iastore, 1) := by decide +kernel
theorem dX1_know_10 : decode cX1_know 10 = .ok (.return_, 1) := by decide +kernel
theorem dX1_collapses_0 : decode cX1_collapses 0 = .ok (.aload_n 0, 1) := by decide +kernel
theorem dX1_collapses_1 : decode cX1_collapses 1 = .ok (.getfield 34, 3) := by decide +kernel
theorem dX1_collapses_4 : decode cX1_collapses 4 = .ok (.getfield 38, 3) := by decide +kernel
theorem dX1_collapses_7 : decode cX1_collapses 7 = .ok (.ifnonnull 5, 3) := by decide +kernel
theorem dX1_collapses_10 : decode cX1_collapses 10 = .ok (.iconst 0, 1) := by decide +kernel
theorem dX1_collapses_11 : decode cX1_collapses 11 = .ok (.ireturn, 1) := by decide +kernel
theorem dX1_collapses_12 : decode cX1_collapses 12 = .ok (.iload_n 1, 1) := by decide +kernel
theorem dX1_collapses_13 : decode cX1_collapses 13 = .ok (.iload_n 2, 1) := by decide +kernel
theorem dX1_collapses_14 : decode cX1_collapses 14 = .ok (.sipush 10000, 3) := by decide +kernel
theorem dX1_collapses_17 : decode cX1_collapses 17 = .ok (.imul, 1) := by decide +kernel
theorem dX1_collapses_18 : decode cX1_collapses 18 = .ok (.iadd, 1) := by decide +kernel
theorem dX1_collapses_19 : decode cX1_collapses 19 = .ok (.istore_n 3, 1) := by decide +kernel
theorem dX1_collapses_20 : decode cX1_collapses 20 = .ok (.iload_n 3, 1) := by decide +kernel
theorem dX1_collapses_21 : decode cX1_collapses 21 = .ok (.ifCond .lt 12, 3) := by decide +kernel
theorem dX1_collapses_24 : decode cX1_collapses 24 = .ok (.iload_n 3, 1) := by decide +kernel
theorem dX1_collapses_25 : decode cX1_collapses 25 = .ok (.aload_n 0, 1) := by decide +kernel
theorem dX1_collapses_26 : decode cX1_collapses 26 = .ok (.getfield 24, 3) := by decide +kernel
theorem dX1_collapses_29 : decode cX1_collapses 29 = .ok (.arraylength, 1) := by decide +kernel
theorem dX1_collapses_30 : decode cX1_collapses 30 = .ok (.if_icmp .lt 5, 3) := by decide +kernel
theorem dX1_collapses_33 : decode cX1_collapses 33 = .ok (.iconst 0, 1) := by decide +kernel
theorem dX1_collapses_34 : decode cX1_collapses 34 = .ok (.ireturn, 1) := by decide +kernel
theorem dX1_collapses_35 : decode cX1_collapses 35 = .ok (.aload_n 0, 1) := by decide +kernel
theorem dX1_collapses_36 : decode cX1_collapses 36 = .ok (.getfield 24, 3) := by decide +kernel
theorem dX1_collapses_39 : decode cX1_collapses 39 = .ok (.iload_n 3, 1) := by decide +kernel
theorem dX1_collapses_40 : decode cX1_collapses 40 = .ok (.baload, 1) := by decide +kernel
theorem dX1_collapses_41 : decode cX1_collapses 41 = .ok (.ifCond .ne 85, 3) := by decide +kernel
theorem dX1_collapses_44 : decode cX1_collapses 44 = .ok (.aload_n 0, 1) := by decide +kernel
theorem dX1_collapses_45 : decode cX1_collapses 45 = .ok (.iconst (-1), 1) := by decide +kernel
theorem dX1_collapses_46 : decode cX1_collapses 46 = .ok (.aload_n 0, 1) := by decide +kernel
theorem dX1_collapses_47 : decode cX1_collapses 47 = .ok (.getfield 34, 3) := by decide +kernel
theorem dX1_collapses_50 : decode cX1_collapses 50 = .ok (.iload_n 1, 1) := by decide +kernel
theorem dX1_collapses_51 : decode cX1_collapses 51 = .ok (.invokevirtual 77, 3) := by decide +kernel
theorem dX1_collapses_54 : decode cX1_collapses 54 = .ok (.invokevirtual 53, 3) := by decide +kernel
theorem dX1_collapses_57 : decode cX1_collapses 57 = .ok (.aload_n 0, 1) := by decide +kernel
theorem dX1_collapses_58 : decode cX1_collapses 58 = .ok (.bipush (-2), 2) := by decide +kernel
theorem dX1_collapses_60 : decode cX1_collapses 60 = .ok (.iload_n 2, 1) := by decide +kernel
theorem dX1_collapses_61 : decode cX1_collapses 61 = .ok (.invokevirtual 53, 3) := by decide +kernel
theorem dX1_collapses_64 : decode cX1_collapses 64 = .ok (.aload_n 0, 1) := by decide +kernel
theorem dX1_collapses_65 : decode cX1_collapses 65 = .ok (.bipush (-7), 2) := by decide +kernel
theorem dX1_collapses_67 : decode cX1_collapses 67 = .ok (.aload_n 0, 1) := by decide +kernel
theorem dX1_collapses_68 : decode cX1_collapses 68 = .ok (.getfield 34, 3) := by decide +kernel
theorem dX1_collapses_71 : decode cX1_collapses 71 = .ok (.iload_n 1, 1) := by decide +kernel
theorem dX1_collapses_72 : decode cX1_collapses 72 = .ok (.invokevirtual 80, 3) := by decide +kernel
theorem dX1_collapses_75 : decode cX1_collapses 75 = .ok (.invokevirtual 53, 3) := by decide +kernel
theorem dX1_collapses_78 : decode cX1_collapses 78 = .ok (.aload_n 0, 1) := by decide +kernel
theorem dX1_collapses_79 : decode cX1_collapses 79 = .ok (.bipush (-8), 2) := by decide +kernel
theorem dX1_collapses_81 : decode cX1_collapses 81 = .ok (.aload_n 0, 1) := by decide +kernel
theorem dX1_collapses_82 : decode cX1_collapses 82 = .ok (.getfield 34, 3) := by decide +kernel
theorem dX1_collapses_85 : decode cX1_collapses 85 = .ok (.iload_n 1, 1) := by decide +kernel
theorem dX1_collapses_86 : decode cX1_collapses 86 = .ok (.invokevirtual 83, 3) := by decide +kernel
theorem dX1_collapses_89 : decode cX1_collapses 89 = .ok (.invokevirtual 53, 3) := by decide +kernel
theorem dX1_collapses_92 : decode cX1_collapses 92 = .ok (.aload_n 0, 1) := by decide +kernel
theorem dX1_collapses_93 : decode cX1_collapses 93 = .ok (.getfield 24, 3) := by decide +kernel
theorem dX1_collapses_96 : decode cX1_collapses 96 = .ok (.iload_n 3, 1) := by decide +kernel
theorem dX1_collapses_97 : decode cX1_collapses 97 = .ok (.aload_n 0, 1) := by decide +kernel
theorem dX1_collapses_98 : decode cX1_collapses 98 = .ok (.getfield 34, 3) := by decide +kernel
theorem dX1_collapses_101 : decode cX1_collapses 101 = .ok (.getfield 38, 3) := by decide +kernel
theorem dX1_collapses_104 : decode cX1_collapses 104 = .ok (.aload_n 0, 1) := by decide +kernel
theorem dX1_collapses_105 : decode cX1_collapses 105 = .ok (.getfield 11, 3) := by decide +kernel
theorem dX1_collapses_108 : decode cX1_collapses 108 = .ok (.aload_n 0, 1) := by decide +kernel
theorem dX1_collapses_109 : decode cX1_collapses 109 = .ok (.getfield 17, 3) := by decide +kernel
theorem dX1_collapses_112 : decode cX1_collapses 112 = .ok (.invokevirtual 61, 3) := by decide +kernel
theorem dX1_collapses_115 : decode cX1_collapses 115 = .ok (.iconst 1, 1) := by decide +kernel
theorem dX1_collapses_116 : decode cX1_collapses 116 = .ok (.if_icmp .ne 7, 3) := by decide +kernel
theorem dX1_collapses_119 : decode cX1_collapses 119 = .ok (.iconst 1, 1) := by decide +kernel
theorem dX1_collapses_120 : decode cX1_collapses 120 = .ok (.goto 4, 3) := by decide +kernel
theorem dX1_collapses_123 : decode cX1_collapses 123 = .ok (.iconst (-1), 1) := by decide +kernel
theorem dX1_collapses_124 : decode cX1_collapses 124 = .ok (.i2b, 1) := by decide +kernel
theorem dX1_collapses_125 : decode cX1_collapses 125 = .ok (.bastore, 1) := by decide +kernel
theorem dX1_collapses_126 : decode cX1_collapses 126 = .ok (.aload_n 0, 1) := by decide +kernel
theorem dX1_collapses_127 : decode cX1_collapses 127 = .ok (.getfield 24, 3) := by decide +kernel
theorem dX1_collapses_130 : decode cX1_collapses 130 = .ok (.iload_n 3, 1) := by decide +kernel
theorem dX1_collapses_131 : decode cX1_collapses 131 = .ok (.baload, 1) := by decide +kernel
theorem dX1_collapses_132 : decode cX1_collapses 132 = .ok (.iconst 1, 1) := by decide +kernel
theorem dX1_collapses_133 : decode cX1_collapses 133 = .ok (.if_icmp .ne 7, 3) := by decide +kernel
theorem dX1_collapses_136 : decode cX1_collapses 136 = .ok (.iconst 1, 1) := by decide +kernel
theorem dX1_collapses_137 : decode cX1_collapses 137 = .ok (.goto 4, 3) := by decide +kernel
theorem dX1_collapses_140 : decode cX1_collapses 140 = .ok (.iconst 0, 1) := by decide +kernel
theorem dX1_collapses_141 : decode cX1_collapses 141 = .ok (.ireturn, 1) := by decide +kernel
theorem dX1_after_0 : decode cX1_after 0 = .ok (.iload_n 1, 1) := by decide +kernel
theorem dX1_after_1 : decode cX1_after 1 = .ok (.sipush 10000, 3) := by decide +kernel
theorem dX1_after_4 : decode cX1_after 4 = .ok (.if_icmp .lt 5, 3) := by decide +kernel
theorem dX1_after_7 : decode cX1_after 7 = .ok (.iload_n 1, 1) := by decide +kernel
theorem dX1_after_8 : decode cX1_after 8 = .ok (.ireturn, 1) := by decide +kernel
theorem dX1_after_9 : decode cX1_after 9 = .ok (.aload_n 0, 1) := by decide +kernel
theorem dX1_after_10 : decode cX1_after 10 = .ok (.getfield 34, 3) := by decide +kernel
theorem dX1_after_13 : decode cX1_after 13 = .ok (.iload_n 1, 1) := by decide +kernel
theorem dX1_after_14 : decode cX1_after 14 = .ok (.invokevirtual 77, 3) := by decide +kernel
theorem dX1_after_17 : decode cX1_after 17 = .ok (.istore 4, 2) := by decide +kernel
theorem dX1_after_19 : decode cX1_after 19 = .ok (.iconst 0, 1) := by decide +kernel
theorem dX1_after_20 : decode cX1_after 20 = .ok (.istore 5, 2) := by decide +kernel
theorem dX1_after_22 : decode cX1_after 22 = .ok (.iconst 0, 1) := by decide +kernel
theorem dX1_after_23 : decode cX1_after 23 = .ok (.istore 6, 2) := by decide +kernel
theorem dX1_after_25 : decode cX1_after 25 = .ok (.iload 6, 2) := by decide +kernel
theorem dX1_after_27 : decode cX1_after 27 = .ok (.aload_n 0, 1) := by decide +kernel
theorem dX1_after_28 : decode cX1_after 28 = .ok (.getfield 34, 3) := by decide +kernel
theorem dX1_after_31 : decode cX1_after 31 = .ok (.getfield 86, 3) := by decide +kernel
theorem dX1_after_34 : decode cX1_after 34 = .ok (.if_icmp .ge 57, 3) := by decide +kernel
theorem dX1_after_37 : decode cX1_after 37 = .ok (.iload_n 1, 1) := by decide +kernel
theorem dX1_after_38 : decode cX1_after 38 = .ok (.iload 6, 2) := by decide +kernel
theorem dX1_after_40 : decode cX1_after 40 = .ok (.invokestatic 57, 3) := by decide +kernel
theorem dX1_after_43 : decode cX1_after 43 = .ok (.istore 7, 2) := by decide +kernel
theorem dX1_after_45 : decode cX1_after 45 = .ok (.iload 7, 2) := by decide +kernel
theorem dX1_after_47 : decode cX1_after 47 = .ok (.ifCond .le 38, 3) := by decide +kernel
theorem dX1_after_50 : decode cX1_after 50 = .ok (.iload 5, 2) := by decide +kernel
theorem dX1_after_52 : decode cX1_after 52 = .ok (.iload 7, 2) := by decide +kernel
theorem dX1_after_54 : decode cX1_after 54 = .ok (.aload_n 0, 1) := by decide +kernel
theorem dX1_after_55 : decode cX1_after 55 = .ok (.iload 6, 2) := by decide +kernel
theorem dX1_after_57 : decode cX1_after 57 = .ok (.iload_n 2, 1) := by decide +kernel
theorem dX1_after_58 : decode cX1_after 58 = .ok (.iload 6, 2) := by decide +kernel
theorem dX1_after_60 : decode cX1_after 60 = .ok (.invokestatic 89, 3) := by decide +kernel
theorem dX1_after_63 : decode cX1_after 63 = .ok (.iload 7, 2) := by decide +kernel
theorem dX1_after_65 : decode cX1_after 65 = .ok (.iload 4, 2) := by decide +kernel
theorem dX1_after_67 : decode cX1_after 67 = .ok (.iload_n 3, 1) := by decide +kernel
theorem dX1_after_68 : decode cX1_after 68 = .ok (.invokevirtual 92, 3) := by decide +kernel
theorem dX1_after_71 : decode cX1_after 71 = .ok (.isub, 1) := by decide +kernel
theorem dX1_after_72 : decode cX1_after 72 = .ok (.invokestatic 96, 3) := by decide +kernel
theorem dX1_after_75 : decode cX1_after 75 = .ok (.getstatic 99, 3) := by decide +kernel
theorem dX1_after_78 : decode cX1_after 78 = .ok (.iload 6, 2) := by decide +kernel
theorem dX1_after_80 : decode cX1_after 80 = .ok (.iaload, 1) := by decide +kernel
theorem dX1_after_81 : decode cX1_after 81 = .ok (.imul, 1) := by decide +kernel
theorem dX1_after_82 : decode cX1_after 82 = .ok (.iadd, 1) := by decide +kernel
theorem dX1_after_83 : decode cX1_after 83 = .ok (.istore 5, 2) := by decide +kernel
theorem dX1_after_85 : decode cX1_after 85 = .ok (.iinc 6 1, 3) := by decide +kernel
theorem dX1_after_88 : decode cX1_after 88 = .ok (.goto (-63), 3) := by decide +kernel
theorem dX1_after_91 : decode cX1_after 91 = .ok (.aload_n 0, 1) := by decide +kernel
theorem dX1_after_92 : decode cX1_after 92 = .ok (.iload 5, 2) := by decide +kernel
theorem dX1_after_94 : decode cX1_after 94 = .ok (.iload_n 3, 1) := by decide +kernel
theorem dX1_after_95 : decode cX1_after 95 = .ok (.invokevirtual 102, 3) := by decide +kernel
theorem dX1_after_98 : decode cX1_after 98 = .ok (.ifCond .eq 12, 3) := by decide +kernel
theorem dX1_after_101 : decode cX1_after 101 = .ok (.iload 5, 2) := by decide +kernel
theorem dX1_after_103 : decode cX1_after 103 = .ok (.sipush 10000, 3) := by decide +kernel
theorem dX1_after_106 : decode cX1_after 106 = .ok (.iadd, 1) := by decide +kernel
theorem dX1_after_107 : decode cX1_after 107 = .ok (.goto 5, 3) := by decide +kernel
theorem dX1_after_110 : decode cX1_after 110 = .ok (.iload 5, 2) := by decide +kernel
theorem dX1_after_112 : decode cX1_after 112 = .ok (.ireturn, 1) := by decide +kernel
theorem dX1_kept_0 : decode cX1_kept 0 = .ok (.iload_n 0, 1) := by decide +kernel
theorem dX1_kept_1 : decode cX1_kept 1 = .ok (.ifCond .ge 7, 3) := by decide +kernel
theorem dX1_kept_4 : decode cX1_kept 4 = .ok (.iconst 0, 1) := by decide +kernel
theorem dX1_kept_5 : decode cX1_kept 5 = .ok (.goto 9, 3) := by decide +kernel
theorem dX1_kept_8 : decode cX1_kept 8 = .ok (.iload_n 0, 1) := by decide +kernel
theorem dX1_kept_9 : decode cX1_kept 9 = .ok (.bipush 9, 2) := by decide +kernel
theorem dX1_kept_11 : decode cX1_kept 11 = .ok (.invokestatic 65, 3) := by decide +kernel
theorem dX1_kept_14 : decode cX1_kept 14 = .ok (.ireturn, 1) := by decide +kernel
theorem dX1_spread_0 : decode cX1_spread 0 = .ok (.aload_n 3, 1) := by decide +kernel
theorem dX1_spread_1 : decode cX1_spread 1 = .ok (.arraylength, 1) := by decide +kernel
theorem dX1_spread_2 : decode cX1_spread 2 = .ok (.aload_n 0, 1) := by decide +kernel
theorem dX1_spread_3 : decode cX1_spread 3 = .ok (.getfield 34, 3) := by decide +kernel
theorem dX1_spread_6 : decode cX1_spread 6 = .ok (.getfield 106, 3) := by decide +kernel
theorem dX1_spread_9 : decode cX1_spread 9 = .ok (.arraylength, 1) := by decide +kernel
theorem dX1_spread_10 : decode cX1_spread 10 = .ok (.if_icmp .ge 4, 3) := by decide +kernel
theorem dX1_spread_13 : decode cX1_spread 13 = .ok (.return_, 1) := by decide +kernel
theorem dX1_spread_14 : decode cX1_spread 14 = .ok (.aload_n 0, 1) := by decide +kernel
theorem dX1_spread_15 : decode cX1_spread 15 = .ok (.getfield 34, 3) := by decide +kernel
theorem dX1_spread_18 : decode cX1_spread 18 = .ok (.iload_n 1, 1) := by decide +kernel
theorem dX1_spread_19 : decode cX1_spread 19 = .ok (.invokevirtual 77, 3) := by decide +kernel
theorem dX1_spread_22 : decode cX1_spread 22 = .ok (.istore 4, 2) := by decide +kernel
theorem dX1_spread_24 : decode cX1_spread 24 = .ok (.iconst 0, 1) := by decide +kernel
theorem dX1_spread_25 : decode cX1_spread 25 = .ok (.istore 5, 2) := by decide +kernel
theorem dX1_spread_27 : decode cX1_spread 27 = .ok (.iload 5, 2) := by decide +kernel
theorem dX1_spread_29 : decode cX1_spread 29 = .ok (.aload_n 0, 1) := by decide +kernel
theorem dX1_spread_30 : decode cX1_spread 30 = .ok (.getfield 34, 3) := by decide +kernel
theorem dX1_spread_33 : decode cX1_spread 33 = .ok (.getfield 86, 3) := by decide +kernel
theorem dX1_spread_36 : decode cX1_spread 36 = .ok (.if_icmp .ge 89, 3) := by decide +kernel
theorem dX1_spread_39 : decode cX1_spread 39 = .ok (.iload_n 1, 1) := by decide +kernel
theorem dX1_spread_40 : decode cX1_spread 40 = .ok (.iload 5, 2) := by decide +kernel
theorem dX1_spread_42 : decode cX1_spread 42 = .ok (.invokestatic 57, 3) := by decide +kernel
theorem dX1_spread_45 : decode cX1_spread 45 = .ok (.istore 6, 2) := by decide +kernel
theorem dX1_spread_47 : decode cX1_spread 47 = .ok (.iconst 0, 1) := by decide +kernel
theorem dX1_spread_48 : decode cX1_spread 48 = .ok (.istore 7, 2) := by decide +kernel
theorem dX1_spread_50 : decode cX1_spread 50 = .ok (.iload 7, 2) := by decide +kernel
theorem dX1_spread_52 : decode cX1_spread 52 = .ok (.aload_n 0, 1) := by decide +kernel
theorem dX1_spread_53 : decode cX1_spread 53 = .ok (.getfield 34, 3) := by decide +kernel
theorem dX1_spread_56 : decode cX1_spread 56 = .ok (.getfield 109, 3) := by decide +kernel
theorem dX1_spread_59 : decode cX1_spread 59 = .ok (.if_icmp .gt 60, 3) := by decide +kernel
theorem dX1_spread_62 : decode cX1_spread 62 = .ok (.iload 6, 2) := by decide +kernel
theorem dX1_spread_64 : decode cX1_spread 64 = .ok (.ifCond .ne 7, 3) := by decide +kernel
theorem dX1_spread_67 : decode cX1_spread 67 = .ok (.iconst 0, 1) := by decide +kernel
theorem dX1_spread_68 : decode cX1_spread 68 = .ok (.goto 22, 3) := by decide +kernel
theorem dX1_spread_71 : decode cX1_spread 71 = .ok (.iload 6, 2) := by decide +kernel
theorem dX1_spread_73 : decode cX1_spread 73 = .ok (.aload_n 0, 1) := by decide +kernel
theorem dX1_spread_74 : decode cX1_spread 74 = .ok (.iload 5, 2) := by decide +kernel
theorem dX1_spread_76 : decode cX1_spread 76 = .ok (.iload 7, 2) := by decide +kernel
theorem dX1_spread_78 : decode cX1_spread 78 = .ok (.iload 6, 2) := by decide +kernel
theorem dX1_spread_80 : decode cX1_spread 80 = .ok (.iload 4, 2) := by decide +kernel
theorem dX1_spread_82 : decode cX1_spread 82 = .ok (.iload_n 2, 1) := by decide +kernel
theorem dX1_spread_83 : decode cX1_spread 83 = .ok (.invokevirtual 92, 3) := by decide +kernel
theorem dX1_spread_86 : decode cX1_spread 86 = .ok (.isub, 1) := by decide +kernel
theorem dX1_spread_87 : decode cX1_spread 87 = .ok (.invokestatic 96, 3) := by decide +kernel
theorem dX1_spread_90 : decode cX1_spread 90 = .ok (.istore 8, 2) := by decide +kernel
theorem dX1_spread_92 : decode cX1_spread 92 = .ok (.aload_n 0, 1) := by decide +kernel
theorem dX1_spread_93 : decode cX1_spread 93 = .ok (.getfield 27, 3) := by decide +kernel
theorem dX1_spread_96 : decode cX1_spread 96 = .ok (.iload 5, 2) := by decide +kernel
theorem dX1_spread_98 : decode cX1_spread 98 = .ok (.iconst 5, 1) := by decide +kernel
theorem dX1_spread_99 : decode cX1_spread 99 = .ok (.imul, 1) := by decide +kernel
theorem dX1_spread_100 : decode cX1_spread 100 = .ok (.iload 7, 2) := by decide +kernel
theorem dX1_spread_102 : decode cX1_spread 102 = .ok (.iadd, 1) := by decide +kernel
theorem dX1_spread_103 : decode cX1_spread 103 = .ok (.iload 8, 2) := by decide +kernel
theorem dX1_spread_105 : decode cX1_spread 105 = .ok (.getstatic 99, 3) := by decide +kernel
theorem dX1_spread_108 : decode cX1_spread 108 = .ok (.iload 5, 2) := by decide +kernel
theorem dX1_spread_110 : decode cX1_spread 110 = .ok (.iaload, 1) := by decide +kernel
theorem dX1_spread_111 : decode cX1_spread 111 = .ok (.imul, 1) := by decide +kernel
theorem dX1_spread_112 : decode cX1_spread 112 = .ok (.iastore, 1) := by decide +kernel
theorem dX1_spread_113 : decode cX1_spread 113 = .ok (.iinc 7 1, 3) := by decide +kernel
theorem dX1_spread_116 : decode cX1_spread 116 = .ok (.goto (-66), 3) := by decide +kernel
theorem dX1_spread_119 : decode cX1_spread 119 = .ok (.iinc 5 1, 3) := by decide +kernel
theorem dX1_spread_122 : decode cX1_spread 122 = .ok (.goto (-95), 3) := by decide +kernel
theorem dX1_spread_125 : decode cX1_spread 125 = .ok (.aload_n 0, 1) := by decide +kernel
theorem dX1_spread_126 : decode cX1_spread 126 = .ok (.getfield 34, 3) := by decide +kernel
theorem dX1_spread_129 : decode cX1_spread 129 = .ok (.getfield 112, 3) := by decide +kernel
theorem dX1_spread_132 : decode cX1_spread 132 = .ok (.astore 5, 2) := by decide +kernel
theorem dX1_spread_134 : decode cX1_spread 134 = .ok (.aload_n 0, 1) := by decide +kernel
theorem dX1_spread_135 : decode cX1_spread 135 = .ok (.getfield 34, 3) := by decide +kernel
theorem dX1_spread_138 : decode cX1_spread 138 = .ok (.getfield 38, 3) := by decide +kernel
theorem dX1_spread_141 : decode cX1_spread 141 = .ok (.ifnull 7, 3) := by decide +kernel
theorem dX1_spread_144 : decode cX1_spread 144 = .ok (.iconst 1, 1) := by decide +kernel
theorem dX1_spread_145 : decode cX1_spread 145 = .ok (.goto 4, 3) := by decide +kernel
theorem dX1_spread_148 : decode cX1_spread 148 = .ok (.iconst 0, 1) := by decide +kernel
theorem dX1_spread_149 : decode cX1_spread 149 = .ok (.istore 6, 2) := by decide +kernel
theorem dX1_spread_151 : decode cX1_spread 151 = .ok (.iconst 0, 1) := by decide +kernel
theorem dX1_spread_152 : decode cX1_spread 152 = .ok (.istore 7, 2) := by decide +kernel
theorem dX1_spread_154 : decode cX1_spread 154 = .ok (.iload 7, 2) := by decide +kernel
theorem dX1_spread_156 : decode cX1_spread 156 = .ok (.aload_n 0, 1) := by decide +kernel
theorem dX1_spread_157 : decode cX1_spread 157 = .ok (.getfield 34, 3) := by decide +kernel
theorem dX1_spread_160 : decode cX1_spread 160 = .ok (.getfield 106, 3) := by decide +kernel
theorem dX1_spread_163 : decode cX1_spread 163 = .ok (.arraylength, 1) := by decide +kernel
theorem dX1_spread_164 : decode cX1_spread 164 = .ok (.if_icmp .ge 86, 3) := by decide +kernel
theorem dX1_spread_167 : decode cX1_spread 167 = .ok (.iconst 0, 1) := by decide +kernel
theorem dX1_spread_168 : decode cX1_spread 168 = .ok (.istore 8, 2) := by decide +kernel
theorem dX1_spread_170 : decode cX1_spread 170 = .ok (.iload 7, 2) := by decide +kernel
theorem dX1_spread_172 : decode cX1_spread 172 = .ok (.iconst 4, 1) := by decide +kernel
theorem dX1_spread_173 : decode cX1_spread 173 = .ok (.imul, 1) := by decide +kernel
theorem dX1_spread_174 : decode cX1_spread 174 = .ok (.istore 9, 2) := by decide +kernel
theorem dX1_spread_176 : decode cX1_spread 176 = .ok (.iload 9, 2) := by decide +kernel
theorem dX1_spread_178 : decode cX1_spread 178 = .ok (.iload 7, 2) := by decide +kernel
theorem dX1_spread_180 : decode cX1_spread 180 = .ok (.iconst 4, 1) := by decide +kernel
theorem dX1_spread_181 : decode cX1_spread 181 = .ok (.imul, 1) := by decide +kernel
theorem dX1_spread_182 : decode cX1_spread 182 = .ok (.aload_n 0, 1) := by decide +kernel
theorem dX1_spread_183 : decode cX1_spread 183 = .ok (.getfield 34, 3) := by decide +kernel
theorem dX1_spread_186 : decode cX1_spread 186 = .ok (.getfield 86, 3) := by decide +kernel
theorem dX1_spread_189 : decode cX1_spread 189 = .ok (.iadd, 1) := by decide +kernel
theorem dX1_spread_190 : decode cX1_spread 190 = .ok (.if_icmp .ge 24, 3) := by decide +kernel
theorem dX1_spread_193 : decode cX1_spread 193 = .ok (.iload 8, 2) := by decide +kernel
theorem dX1_spread_195 : decode cX1_spread 195 = .ok (.aload_n 0, 1) := by decide +kernel
theorem dX1_spread_196 : decode cX1_spread 196 = .ok (.getfield 27, 3) := by decide +kernel
theorem dX1_spread_199 : decode cX1_spread 199 = .ok (.aload 5, 2) := by decide +kernel
theorem dX1_spread_201 : decode cX1_spread 201 = .ok (.iload 9, 2) := by decide +kernel
theorem dX1_spread_203 : decode cX1_spread 203 = .ok (.iaload, 1) := by decide +kernel
theorem dX1_spread_204 : decode cX1_spread 204 = .ok (.iaload, 1) := by decide +kernel
theorem dX1_spread_205 : decode cX1_spread 205 = .ok (.iadd, 1) := by decide +kernel
theorem dX1_spread_206 : decode cX1_spread 206 = .ok (.istore 8, 2) := by decide +kernel
theorem dX1_spread_208 : decode cX1_spread 208 = .ok (.iinc 9 1, 3) := by decide +kernel
theorem dX1_spread_211 : decode cX1_spread 211 = .ok (.goto (-35), 3) := by decide +kernel
theorem dX1_spread_214 : decode cX1_spread 214 = .ok (.aload_n 3, 1) := by decide +kernel
theorem dX1_spread_215 : decode cX1_spread 215 = .ok (.iload 7, 2) := by decide +kernel
theorem dX1_spread_217 : decode cX1_spread 217 = .ok (.iload 6, 2) := by decide +kernel
theorem dX1_spread_219 : decode cX1_spread 219 = .ok (.ifCond .eq 22, 3) := by decide +kernel
theorem dX1_spread_222 : decode cX1_spread 222 = .ok (.aload_n 0, 1) := by decide +kernel
theorem dX1_spread_223 : decode cX1_spread 223 = .ok (.iload 8, 2) := by decide +kernel
theorem dX1_spread_225 : decode cX1_spread 225 = .ok (.iload_n 2, 1) := by decide +kernel
theorem dX1_spread_226 : decode cX1_spread 226 = .ok (.invokevirtual 102, 3) := by decide +kernel
theorem dX1_spread_229 : decode cX1_spread 229 = .ok (.ifCond .eq 12, 3) := by decide +kernel
theorem dX1_spread_232 : decode cX1_spread 232 = .ok (.iload 8, 2) := by decide +kernel
theorem dX1_spread_234 : decode cX1_spread 234 = .ok (.sipush 10000, 3) := by decide +kernel
theorem dX1_spread_237 : decode cX1_spread 237 = .ok (.iadd, 1) := by decide +kernel
theorem dX1_spread_238 : decode cX1_spread 238 = .ok (.goto 5, 3) := by decide +kernel
theorem dX1_spread_241 : decode cX1_spread 241 = .ok (.iload 8, 2) := by decide +kernel
theorem dX1_spread_243 : decode cX1_spread 243 = .ok (.iastore, 1) := by decide +kernel
theorem dX1_spread_244 : decode cX1_spread 244 = .ok (.iinc 7 1, 3) := by decide +kernel
theorem dX1_spread_247 : decode cX1_spread 247 = .ok (.goto (-93), 3) := by decide +kernel
theorem dX1_spread_250 : decode cX1_spread 250 = .ok (.return_, 1) := by decide +kernel
theorem dX2_init_0 : decode cX2_init 0 = .ok (.aload_n 0, 1) := by decide +kernel
theorem dX2_init_1 : decode cX2_init 1 = .ok (.invokespecial 3, 3) := by decide +kernel
theorem dX2_init_4 : decode cX2_init 4 = .ok (.aload_n 0, 1) := by decide +kernel
theorem dX2_init_5 : decode cX2_init 5 = .ok (.iconst 0, 1) := by decide +kernel
theorem dX2_init_6 : decode cX2_init 6 = .ok (.putfield 9, 3) := by decide +kernel
theorem dX2_init_9 : decode cX2_init 9 = .ok (.aload_n 0, 1) := by decide +kernel
theorem dX2_init_10 : decode cX2_init 10 = .ok (.iconst 0, 1) := by decide +kernel
theorem dX2_init_11 : decode cX2_init 11 = .ok (.putfield 15, 3) := by decide +kernel
theorem dX2_init_14 : decode cX2_init 14 = .ok (.aload_n 0, 1) := by decide +kernel
theorem dX2_init_15 : decode cX2_init 15 = .ok (.iconst 0, 1) := by decide +kernel
theorem dX2_init_16 : decode cX2_init 16 = .ok (.putfield 18, 3) := by decide +kernel
theorem dX2_init_19 : decode cX2_init 19 = .ok (.aload_n 0, 1) := by decide +kernel
theorem dX2_init_20 : decode cX2_init 20 = .ok (.iconst 0, 1) := by decide +kernel
theorem dX2_init_21 : decode cX2_init 21 = .ok (.putfield 21, 3) := by decide +kernel
theorem dX2_init_24 : decode cX2_init 24 = .ok (.aload_n 0, 1) := by decide +kernel
theorem dX2_init_25 : decode cX2_init 25 = .ok (.iconst 0, 1) := by decide +kernel
theorem dX2_init_26 : decode cX2_init 26 = .ok (.putfield 24, 3) := by decide +kernel
theorem dX2_init_29 : decode cX2_init 29 = .ok (.aload_n 0, 1) := by decide +kernel
theorem dX2_init_30 : decode cX2_init 30 = .ok (.iconst 0, 1) := by decide +kernel
theorem dX2_init_31 : decode cX2_init 31 = .ok (.putfield 27, 3) := by decide +kernel
theorem dX2_init_34 : decode cX2_init 34 = .ok (.aload_n 0, 1) := by decide +kernel
theorem dX2_init_35 : decode cX2_init 35 = .ok (.iconst 0, 1) := by decide +kernel
theorem dX2_init_36 : decode cX2_init 36 = .ok (.putfield 30, 3) := by decide +kernel
theorem dX2_init_39 : decode cX2_init 39 = .ok (.aload_n 0, 1) := by decide +kernel
theorem dX2_init_40 : decode cX2_init 40 = .ok (.lconst 0, 1) := by decide +kernel
theorem dX2_init_41 : decode cX2_init 41 = .ok (.putfield 33, 3) := by decide +kernel
theorem dX2_init_44 : decode cX2_init 44 = .ok (.aload_n 0, 1) := by decide +kernel
theorem dX2_init_45 : decode cX2_init 45 = .ok (.lconst 0, 1) := by decide +kernel
theorem dX2_init_46 : decode cX2_init 46 = .ok (.putfield 37, 3) := by decide +kernel
theorem dX2_init_49 : decode cX2_init 49 = .ok (.aload_n 0, 1) := by decide +kernel
theorem dX2_init_50 : decode cX2_init 50 = .ok (.lconst 0, 1) := by decide +kernel
theorem dX2_init_51 : decode cX2_init 51 = .ok (.putfield 40, 3) := by decide +kernel
theorem dX2_init_54 : decode cX2_init 54 = .ok (.aload_n 0, 1) := by decide +kernel
theorem dX2_init_55 : decode cX2_init 55 = .ok (.lconst 0, 1) := by decide +kernel
theorem dX2_init_56 : decode cX2_init 56 = .ok (.putfield 43, 3) := by decide +kernel
theorem dX2_init_59 : decode cX2_init 59 = .ok (.aload_n 0, 1) := by decide +kernel
theorem dX2_init_60 : decode cX2_init 60 = .ok (.aload_n 1, 1) := by decide +kernel
theorem dX2_init_61 : decode cX2_init 61 = .ok (.putfield 46, 3) := by decide +kernel
theorem dX2_init_64 : decode cX2_init 64 = .ok (.return_, 1) := by decide +kernel
theorem dX2_trace_0 : decode cX2_trace 0 = .ok (.aload_n 0, 1) := by decide +kernel
theorem dX2_trace_1 : decode cX2_trace 1 = .ok (.iload_n 2, 1) := by decide +kernel
theorem dX2_trace_2 : decode cX2_trace 2 = .ok (.putfield 9, 3) := by decide +kernel
theorem dX2_trace_5 : decode cX2_trace 5 = .ok (.aload_n 0, 1) := by decide +kernel
theorem dX2_trace_6 : decode cX2_trace 6 = .ok (.iload 4, 2) := by decide +kernel
theorem dX2_trace_8 : decode cX2_trace 8 = .ok (.putfield 15, 3) := by decide +kernel
theorem dX2_trace_11 : decode cX2_trace 11 = .ok (.aload_n 0, 1) := by decide +kernel
theorem dX2_trace_12 : decode cX2_trace 12 = .ok (.iconst 0, 1) := by decide +kernel
theorem dX2_trace_13 : decode cX2_trace 13 = .ok (.putfield 21, 3) := by decide +kernel
theorem dX2_trace_16 : decode cX2_trace 16 = .ok (.aload_n 0, 1) := by decide +kernel
theorem dX2_trace_17 : decode cX2_trace 17 = .ok (.iconst 0, 1) := by decide +kernel
theorem dX2_trace_18 : decode cX2_trace 18 = .ok (.putfield 24, 3) := by decide +kernel
theorem dX2_trace_21 : decode cX2_trace 21 = .ok (.aload_n 0, 1) := by decide +kernel
theorem dX2_trace_22 : decode cX2_trace 22 = .ok (.iconst 1, 1) := by decide +kernel
theorem dX2_trace_23 : decode cX2_trace 23 = .ok (.aload_n 1, 1) := by decide +kernel
theorem dX2_trace_24 : decode cX2_trace 24 = .ok (.getfield 50, 3) := by decide +kernel
theorem dX2_trace_27 : decode cX2_trace 27 = .ok (.ishl, 1) := by decide +kernel
theorem dX2_trace_28 : decode cX2_trace 28 = .ok (.iconst 1, 1) := by decide +kernel
theorem dX2_trace_29 : decode cX2_trace 29 = .ok (.isub, 1) := by decide +kernel
theorem dX2_trace_30 : decode cX2_trace 30 = .ok (.putfield 27, 3) := by decide +kernel
theorem dX2_trace_33 : decode cX2_trace 33 = .ok (.aload_n 0, 1) := by decide +kernel
theorem dX2_trace_34 : decode cX2_trace 34 = .ok (.aload_n 0, 1) := by decide +kernel
theorem dX2_trace_35 : decode cX2_trace 35 = .ok (.getfield 27, 3) := by decide +kernel
theorem dX2_trace_38 : decode cX2_trace 38 = .ok (.putfield 30, 3) := by decide +kernel
theorem dX2_trace_41 : decode cX2_trace 41 = .ok (.aload_n 0, 1) := by decide +kernel
theorem dX2_trace_42 : decode cX2_trace 42 = .ok (.aload_n 1, 1) := by decide +kernel
theorem dX2_trace_43 : decode cX2_trace 43 = .ok (.iconst 0, 1) := by decide +kernel
theorem dX2_trace_44 : decode cX2_trace 44 = .ok (.iload_n 3, 1) := by decide +kernel
theorem dX2_trace_45 : decode cX2_trace 45 = .ok (.iconst 0, 1) := by decide +kernel
theorem dX2_trace_46 : decode cX2_trace 46 = .ok (.invokevirtual 55, 3) := by decide +kernel
theorem dX2_trace_49 : decode cX2_trace 49 = .ok (.return_, 1) := by decide +kernel
theorem dX2_follow_0 : decode cX2_follow 0 = .ok (.iload_n 2, 1) := by decide +kernel
theorem dX2_follow_1 : decode cX2_follow 1 = .ok (.bipush 10, 2) := by decide +kernel
theorem dX2_follow_3 : decode cX2_follow 3 = .ok (.if_icmp .le 4, 3) := by decide +kernel
theorem dX2_follow_6 : decode cX2_follow 6 = .ok (.return_, 1) := by decide +kernel
theorem dX2_follow_7 : decode cX2_follow 7 = .ok (.iload_n 2, 1) := by decide +kernel
theorem dX2_follow_8 : decode cX2_follow 8 = .ok (.aload_n 1, 1) := by decide +kernel
theorem dX2_follow_9 : decode cX2_follow 9 = .ok (.getfield 50, 3) := by decide +kernel
theorem dX2_follow_12 : decode cX2_follow 12 = .ok (.if_icmp .lt 58, 3) := by decide +kernel
theorem dX2_follow_15 : decode cX2_follow 15 = .ok (.aload_n 0, 1) := by decide +kernel
theorem dX2_follow_16 : decode cX2_follow 16 = .ok (.aload_n 0, 1) := by decide +kernel
theorem dX2_follow_17 : decode cX2_follow 17 = .ok (.getfield 21, 3) := by decide +kernel
theorem dX2_follow_20 : decode cX2_follow 20 = .ok (.ifCond .ne 8, 3) := by decide +kernel
theorem dX2_follow_23 : decode cX2_follow 23 = .ok (.iload 4, 2) := by decide +kernel
theorem dX2_follow_25 : decode cX2_follow 25 = .ok (.goto 7, 3) := by decide +kernel
theorem dX2_follow_28 : decode cX2_follow 28 = .ok (.aload_n 0, 1) := by decide +kernel
theorem dX2_follow_29 : decode cX2_follow 29 = .ok (.getfield 24, 3) := by decide +kernel
theorem dX2_follow_32 : decode cX2_follow 32 = .ok (.putfield 24, 3) := by decide +kernel
theorem dX2_follow_35 : decode cX2_follow 35 = .ok (.aload_n 0, 1) := by decide +kernel
theorem dX2_follow_36 : decode cX2_follow 36 = .ok (.dup, 1) := by decide +kernel
theorem dX2_follow_37 : decode cX2_follow 37 = .ok (.getfield 21, 3) := by decide +kernel
theorem dX2_follow_40 : decode cX2_follow 40 = .ok (.iconst 1, 1) := by decide +kernel
theorem dX2_follow_41 : decode cX2_follow 41 = .ok (.iadd, 1) := by decide +kernel
theorem dX2_follow_42 : decode cX2_follow 42 = .ok (.putfield 21, 3) := by decide +kernel
theorem dX2_follow_45 : decode cX2_follow 45 = .ok (.aload_n 0, 1) := by decide +kernel
theorem dX2_follow_46 : decode cX2_follow 46 = .ok (.dup, 1) := by decide +kernel
theorem dX2_follow_47 : decode cX2_follow 47 = .ok (.getfield 27, 3) := by decide +kernel
theorem dX2_follow_50 : decode cX2_follow 50 = .ok (.iload 4, 2) := by decide +kernel
theorem dX2_follow_52 : decode cX2_follow 52 = .ok (.iand, 1) := by decide +kernel
theorem dX2_follow_53 : decode cX2_follow 53 = .ok (.putfield 27, 3) := by decide +kernel
theorem dX2_follow_56 : decode cX2_follow 56 = .ok (.aload_n 0, 1) := by decide +kernel
theorem dX2_follow_57 : decode cX2_follow 57 = .ok (.dup, 1) := by decide +kernel
theorem dX2_follow_58 : decode cX2_follow 58 = .ok (.getfield 30, 3) := by decide +kernel
theorem dX2_follow_61 : decode cX2_follow 61 = .ok (.iload 4, 2) := by decide +kernel
theorem dX2_follow_63 : decode cX2_follow 63 = .ok (.iconst (-1), 1) := by decide +kernel
theorem dX2_follow_64 : decode cX2_follow 64 = .ok (.ixor, 1) := by decide +kernel
theorem dX2_follow_65 : decode cX2_follow 65 = .ok (.iand, 1) := by decide +kernel
theorem dX2_follow_66 : decode cX2_follow 66 = .ok (.putfield 30, 3) := by decide +kernel
theorem dX2_follow_69 : decode cX2_follow 69 = .ok (.return_, 1) := by decide +kernel
theorem dX2_follow_70 : decode cX2_follow 70 = .ok (.iconst 0, 1) := by decide +kernel
theorem dX2_follow_71 : decode cX2_follow 71 = .ok (.istore 5, 2) := by decide +kernel
theorem dX2_follow_73 : decode cX2_follow 73 = .ok (.iload 5, 2) := by decide +kernel
theorem dX2_follow_75 : decode cX2_follow 75 = .ok (.iconst 1, 1) := by decide +kernel
theorem dX2_follow_76 : decode cX2_follow 76 = .ok (.if_icmp .gt 73, 3) := by decide +kernel
theorem dX2_follow_79 : decode cX2_follow 79 = .ok (.aload_n 0, 1) := by decide +kernel
theorem dX2_follow_80 : decode cX2_follow 80 = .ok (.getfield 46, 3) := by decide +kernel
theorem dX2_follow_83 : decode cX2_follow 83 = .ok (.iload_n 3, 1) := by decide +kernel
theorem dX2_follow_84 : decode cX2_follow 84 = .ok (.aload_n 0, 1) := by decide +kernel
theorem dX2_follow_85 : decode cX2_follow 85 = .ok (.getfield 15, 3) := by decide +kernel
theorem dX2_follow_88 : decode cX2_follow 88 = .ok (.iload 5, 2) := by decide +kernel
theorem dX2_follow_90 : decode cX2_follow 90 = .ok (.invokevirtual 59, 3) := by decide +kernel
theorem dX2_follow_93 : decode cX2_follow 93 = .ok (.istore 6, 2) := by decide +kernel
theorem dX2_follow_95 : decode cX2_follow 95 = .ok (.aload_n 1, 1) := by decide +kernel
theorem dX2_follow_96 : decode cX2_follow 96 = .ok (.iload_n 2, 1) := by decide +kernel
theorem dX2_follow_97 : decode cX2_follow 97 = .ok (.invokevirtual 65, 3) := by decide +kernel
theorem dX2_follow_100 : decode cX2_follow 100 = .ok (.ldc2_w 69, 3) := by decide +kernel
theorem dX2_follow_103 : decode cX2_follow 103 = .ok (.lcmp, 1) := by decide +kernel
theorem dX2_follow_104 : decode cX2_follow 104 = .ok (.ifCond .eq 22, 3) := by decide +kernel
theorem dX2_follow_107 : decode cX2_follow 107 = .ok (.aload_n 1, 1) := by decide +kernel
theorem dX2_follow_108 : decode cX2_follow 108 = .ok (.iload_n 2, 1) := by decide +kernel
theorem dX2_follow_109 : decode cX2_follow 109 = .ok (.invokevirtual 65, 3) := by decide +kernel
theorem dX2_follow_112 : decode cX2_follow 112 = .ok (.iload 6, 2) := by decide +kernel
theorem dX2_follow_114 : decode cX2_follow 114 = .ok (.aload_n 0, 1) := by decide +kernel
theorem dX2_follow_115 : decode cX2_follow 115 = .ok (.getfield 9, 3) := by decide +kernel
theorem dX2_follow_118 : decode cX2_follow 118 = .ok (.invokestatic 71, 3) := by decide +kernel
theorem dX2_follow_121 : decode cX2_follow 121 = .ok (.i2l, 1) := by decide +kernel
theorem dX2_follow_122 : decode cX2_follow 122 = .ok (.lcmp, 1) := by decide +kernel
theorem dX2_follow_123 : decode cX2_follow 123 = .ok (.ifCond .ne 20, 3) := by decide +kernel
theorem dX2_follow_126 : decode cX2_follow 126 = .ok (.aload_n 0, 1) := by decide +kernel
theorem dX2_follow_127 : decode cX2_follow 127 = .ok (.aload_n 1, 1) := by decide +kernel
theorem dX2_follow_128 : decode cX2_follow 128 = .ok (.iload_n 2, 1) := by decide +kernel
theorem dX2_follow_129 : decode cX2_follow 129 = .ok (.iconst 1, 1) := by decide +kernel
theorem dX2_follow_130 : decode cX2_follow 130 = .ok (.iadd, 1) := by decide +kernel
theorem dX2_follow_131 : decode cX2_follow 131 = .ok (.iload 6, 2) := by decide +kernel
theorem dX2_follow_133 : decode cX2_follow 133 = .ok (.iload 4, 2) := by decide +kernel
theorem dX2_follow_135 : decode cX2_follow 135 = .ok (.iload 5, 2) := by decide +kernel
theorem dX2_follow_137 : decode cX2_follow 137 = .ok (.iload_n 2, 1) := by decide +kernel
theorem dX2_follow_138 : decode cX2_follow 138 = .ok (.ishl, 1) := by decide +kernel
theorem dX2_follow_139 : decode cX2_follow 139 = .ok (.ior, 1) := by decide +kernel
theorem dX2_follow_140 : decode cX2_follow 140 = .ok (.invokevirtual 55, 3) := by decide +kernel
theorem dX2_follow_143 : decode cX2_follow 143 = .ok (.iinc 5 1, 3) := by decide +kernel
theorem dX2_follow_146 : decode cX2_follow 146 = .ok (.goto (-73), 3) := by decide +kernel
theorem dX2_follow_149 : decode cX2_follow 149 = .ok (.return_, 1) := by decide +kernel
theorem dX2_weigh_0 : decode cX2_weigh 0 = .ok (.aload_n 0, 1) := by decide +kernel
theorem dX2_weigh_1 : decode cX2_weigh 1 = .ok (.aload_n 0, 1) := by decide +kernel
theorem dX2_weigh_2 : decode cX2_weigh 2 = .ok (.getfield 46, 3) := by decide +kernel
theorem dX2_weigh_5 : decode cX2_weigh 5 = .ok (.invokevirtual 75, 3) := by decide +kernel
theorem dX2_weigh_8 : decode cX2_weigh 8 = .ok (.getfield 79, 3) := by decide +kernel
theorem dX2_weigh_11 : decode cX2_weigh 11 = .ok (.putfield 18, 3) := by decide +kernel
theorem dX2_weigh_14 : decode cX2_weigh 14 = .ok (.aload_n 0, 1) := by decide +kernel
theorem dX2_weigh_15 : decode cX2_weigh 15 = .ok (.iload_n 1, 1) := by decide +kernel
theorem dX2_weigh_16 : decode cX2_weigh 16 = .ok (.putfield 9, 3) := by decide +kernel
theorem dX2_weigh_19 : decode cX2_weigh 19 = .ok (.aload_n 0, 1) := by decide +kernel
theorem dX2_weigh_20 : decode cX2_weigh 20 = .ok (.iload 4, 2) := by decide +kernel
theorem dX2_weigh_22 : decode cX2_weigh 22 = .ok (.putfield 15, 3) := by decide +kernel
theorem dX2_weigh_25 : decode cX2_weigh 25 = .ok (.aload_n 0, 1) := by decide +kernel
theorem dX2_weigh_26 : decode cX2_weigh 26 = .ok (.lconst 0, 1) := by decide +kernel
theorem dX2_weigh_27 : decode cX2_weigh 27 = .ok (.putfield 33, 3) := by decide +kernel
theorem dX2_weigh_30 : decode cX2_weigh 30 = .ok (.aload_n 0, 1) := by decide +kernel
theorem dX2_weigh_31 : decode cX2_weigh 31 = .ok (.lconst 0, 1) := by decide +kernel
theorem dX2_weigh_32 : decode cX2_weigh 32 = .ok (.putfield 37, 3) := by decide +kernel
theorem dX2_weigh_35 : decode cX2_weigh 35 = .ok (.aload_n 0, 1) := by decide +kernel
theorem dX2_weigh_36 : decode cX2_weigh 36 = .ok (.lconst 0, 1) := by decide +kernel
theorem dX2_weigh_37 : decode cX2_weigh 37 = .ok (.putfield 40, 3) := by decide +kernel
theorem dX2_weigh_40 : decode cX2_weigh 40 = .ok (.aload_n 0, 1) := by decide +kernel
theorem dX2_weigh_41 : decode cX2_weigh 41 = .ok (.lconst 0, 1) := by decide +kernel
theorem dX2_weigh_42 : decode cX2_weigh 42 = .ok (.putfield 43, 3) := by decide +kernel
theorem dX2_weigh_45 : decode cX2_weigh 45 = .ok (.aload_n 0, 1) := by decide +kernel
theorem dX2_weigh_46 : decode cX2_weigh 46 = .ok (.iload_n 2, 1) := by decide +kernel
theorem dX2_weigh_47 : decode cX2_weigh 47 = .ok (.iload_n 3, 1) := by decide +kernel
theorem dX2_weigh_48 : decode cX2_weigh 48 = .ok (.lconst 1, 1) := by decide +kernel
theorem dX2_weigh_49 : decode cX2_weigh 49 = .ok (.invokevirtual 82, 3) := by decide +kernel
theorem dX2_weigh_52 : decode cX2_weigh 52 = .ok (.return_, 1) := by decide +kernel
theorem dX2_spreadWeight_0 : decode cX2_spreadWeight 0 = .ok (.lload_n 3, 1) := by decide +kernel
theorem dX2_spreadWeight_1 : decode cX2_spreadWeight 1 = .ok (.lconst 0, 1) := by decide +kernel
theorem dX2_spreadWeight_2 : decode cX2_spreadWeight 2 = .ok (.lcmp, 1) := by decide +kernel
theorem dX2_spreadWeight_3 : decode cX2_spreadWeight 3 = .ok (.ifCond .eq 9, 3) := by decide +kernel
theorem dX2_spreadWeight_6 : decode cX2_spreadWeight 6 = .ok (.iload_n 1, 1) := by decide +kernel
theorem dX2_spreadWeight_7 : decode cX2_spreadWeight 7 = .ok (.bipush 8, 2) := by decide +kernel
theorem dX2_spreadWeight_9 : decode cX2_spreadWeight 9 = .ok (.if_icmp .le 4, 3) := by decide +kernel
theorem dX2_spreadWeight_12 : decode cX2_spreadWeight 12 = .ok (.return_, 1) := by decide +kernel
theorem dX2_spreadWeight_13 : decode cX2_spreadWeight 13 = .ok (.iload_n 1, 1) := by decide +kernel
theorem dX2_spreadWeight_14 : decode cX2_spreadWeight 14 = .ok (.ifCond .gt 80, 3) := by decide +kernel
theorem dX2_spreadWeight_17 : decode cX2_spreadWeight 17 = .ok (.aload_n 0, 1) := by decide +kernel
theorem dX2_spreadWeight_18 : decode cX2_spreadWeight 18 = .ok (.dup, 1) := by decide +kernel
theorem dX2_spreadWeight_19 : decode cX2_spreadWeight 19 = .ok (.getfield 43, 3) := by decide +kernel
theorem dX2_spreadWeight_22 : decode cX2_spreadWeight 22 = .ok (.lload_n 3, 1) := by decide +kernel
theorem dX2_spreadWeight_23 : decode cX2_spreadWeight 23 = .ok (.ladd, 1) := by decide +kernel
theorem dX2_spreadWeight_24 : decode cX2_spreadWeight 24 = .ok (.putfield 43, 3) := by decide +kernel
theorem dX2_spreadWeight_27 : decode cX2_spreadWeight 27 = .ok (.aload_n 0, 1) := by decide +kernel
theorem dX2_spreadWeight_28 : decode cX2_spreadWeight 28 = .ok (.dup, 1) := by decide +kernel
theorem dX2_spreadWeight_29 : decode cX2_spreadWeight 29 = .ok (.getfield 37, 3) := by decide +kernel
theorem dX2_spreadWeight_32 : decode cX2_spreadWeight 32 = .ok (.lload_n 3, 1) := by decide +kernel
theorem dX2_spreadWeight_33 : decode cX2_spreadWeight 33 = .ok (.iload_n 2, 1) := by decide +kernel
theorem dX2_spreadWeight_34 : decode cX2_spreadWeight 34 = .ok (.aload_n 0, 1) := by decide +kernel
theorem dX2_spreadWeight_35 : decode cX2_spreadWeight 35 = .ok (.getfield 9, 3) := by decide +kernel
theorem dX2_spreadWeight_38 : decode cX2_spreadWeight 38 = .ok (.invokestatic 71, 3) := by decide +kernel
theorem dX2_spreadWeight_41 : decode cX2_spreadWeight 41 = .ok (.i2l, 1) := by decide +kernel
theorem dX2_spreadWeight_42 : decode cX2_spreadWeight 42 = .ok (.lmul, 1) := by decide +kernel
theorem dX2_spreadWeight_43 : decode cX2_spreadWeight 43 = .ok (.ladd, 1) := by decide +kernel
theorem dX2_spreadWeight_44 : decode cX2_spreadWeight 44 = .ok (.putfield 37, 3) := by decide +kernel
theorem dX2_spreadWeight_47 : decode cX2_spreadWeight 47 = .ok (.aload_n 0, 1) := by decide +kernel
theorem dX2_spreadWeight_48 : decode cX2_spreadWeight 48 = .ok (.dup, 1) := by decide +kernel
theorem dX2_spreadWeight_49 : decode cX2_spreadWeight 49 = .ok (.getfield 33, 3) := by decide +kernel
theorem dX2_spreadWeight_52 : decode cX2_spreadWeight 52 = .ok (.iload_n 2, 1) := by decide +kernel
theorem dX2_spreadWeight_53 : decode cX2_spreadWeight 53 = .ok (.aload_n 0, 1) := by decide +kernel
theorem dX2_spreadWeight_54 : decode cX2_spreadWeight 54 = .ok (.getfield 9, 3) := by decide +kernel
theorem dX2_spreadWeight_57 : decode cX2_spreadWeight 57 = .ok (.invokestatic 71, 3) := by decide +kernel
theorem dX2_spreadWeight_60 : decode cX2_spreadWeight 60 = .ok (.ifCond .ne 7, 3) := by decide +kernel
theorem dX2_spreadWeight_63 : decode cX2_spreadWeight 63 = .ok (.lload_n 3, 1) := by decide +kernel
theorem dX2_spreadWeight_64 : decode cX2_spreadWeight 64 = .ok (.goto 4, 3) := by decide +kernel
theorem dX2_spreadWeight_67 : decode cX2_spreadWeight 67 = .ok (.lconst 0, 1) := by decide +kernel
theorem dX2_spreadWeight_68 : decode cX2_spreadWeight 68 = .ok (.ladd, 1) := by decide +kernel
theorem dX2_spreadWeight_69 : decode cX2_spreadWeight 69 = .ok (.putfield 33, 3) := by decide +kernel
theorem dX2_spreadWeight_72 : decode cX2_spreadWeight 72 = .ok (.aload_n 0, 1) := by decide +kernel
theorem dX2_spreadWeight_73 : decode cX2_spreadWeight 73 = .ok (.dup, 1) := by decide +kernel
theorem dX2_spreadWeight_74 : decode cX2_spreadWeight 74 = .ok (.getfield 40, 3) := by decide +kernel
theorem dX2_spreadWeight_77 : decode cX2_spreadWeight 77 = .ok (.iload_n 2, 1) := by decide +kernel
theorem dX2_spreadWeight_78 : decode cX2_spreadWeight 78 = .ok (.sipush 10000, 3) := by decide +kernel
theorem dX2_spreadWeight_81 : decode cX2_spreadWeight 81 = .ok (.if_icmp .lt 7, 3) := by decide +kernel
theorem dX2_spreadWeight_84 : decode cX2_spreadWeight 84 = .ok (.lload_n 3, 1) := by decide +kernel
theorem dX2_spreadWeight_85 : decode cX2_spreadWeight 85 = .ok (.goto 4, 3) := by decide +kernel
theorem dX2_spreadWeight_88 : decode cX2_spreadWeight 88 = .ok (.lconst 0, 1) := by decide +kernel
theorem dX2_spreadWeight_89 : decode cX2_spreadWeight 89 = .ok (.ladd, 1) := by decide +kernel
theorem dX2_spreadWeight_90 : decode cX2_spreadWeight 90 = .ok (.putfield 40, 3) := by decide +kernel
theorem dX2_spreadWeight_93 : decode cX2_spreadWeight 93 = .ok (.return_, 1) := by decide +kernel
theorem dX2_spreadWeight_94 : decode cX2_spreadWeight 94 = .ok (.aload_n 0, 1) := by decide +kernel
theorem dX2_spreadWeight_95 : decode cX2_spreadWeight 95 = .ok (.iload_n 1, 1) := by decide +kernel
theorem dX2_spreadWeight_96 : decode cX2_spreadWeight 96 = .ok (.iconst 1, 1) := by decide +kernel
theorem dX2_spreadWeight_97 : decode cX2_spreadWeight 97 = .ok (.isub, 1) := by decide +kernel
theorem dX2_spreadWeight_98 : decode cX2_spreadWeight 98 = .ok (.aload_n 0, 1) := by decide +kernel
theorem dX2_spreadWeight_99 : decode cX2_spreadWeight 99 = .ok (.getfield 46, 3) := by decide +kernel
theorem dX2_spreadWeight_102 : decode cX2_spreadWeight 102 = .ok (.iload_n 2, 1) := by decide +kernel
theorem dX2_spreadWeight_103 : decode cX2_spreadWeight 103 = .ok (.aload_n 0, 1) := by decide +kernel
theorem dX2_spreadWeight_104 : decode cX2_spreadWeight 104 = .ok (.getfield 15, 3) := by decide +kernel
theorem dX2_spreadWeight_107 : decode cX2_spreadWeight 107 = .ok (.iconst 0, 1) := by decide +kernel
theorem dX2_spreadWeight_108 : decode cX2_spreadWeight 108 = .ok (.invokevirtual 59, 3) := by decide +kernel
theorem dX2_spreadWeight_111 : decode cX2_spreadWeight 111 = .ok (.lload_n 3, 1) := by decide +kernel
theorem dX2_spreadWeight_112 : decode cX2_spreadWeight 112 = .ok (.bipush 10, 2) := by decide +kernel
theorem dX2_spreadWeight_114 : decode cX2_spreadWeight 114 = .ok (.aload_n 0, 1) := by decide +kernel
theorem dX2_spreadWeight_115 : decode cX2_spreadWeight 115 = .ok (.getfield 18, 3) := by decide +kernel
theorem dX2_spreadWeight_118 : decode cX2_spreadWeight 118 = .ok (.isub, 1) := by decide +kernel
theorem dX2_spreadWeight_119 : decode cX2_spreadWeight 119 = .ok (.i2l, 1) := by decide +kernel
theorem dX2_spreadWeight_120 : decode cX2_spreadWeight 120 = .ok (.lmul, 1) := by decide +kernel
theorem dX2_spreadWeight_121 : decode cX2_spreadWeight 121 = .ok (.invokevirtual 82, 3) := by decide +kernel
theorem dX2_spreadWeight_124 : decode cX2_spreadWeight 124 = .ok (.aload_n 0, 1) := by decide +kernel
theorem dX2_spreadWeight_125 : decode cX2_spreadWeight 125 = .ok (.iload_n 1, 1) := by decide +kernel
theorem dX2_spreadWeight_126 : decode cX2_spreadWeight 126 = .ok (.iconst 1, 1) := by decide +kernel
theorem dX2_spreadWeight_127 : decode cX2_spreadWeight 127 = .ok (.isub, 1) := by decide +kernel
theorem dX2_spreadWeight_128 : decode cX2_spreadWeight 128 = .ok (.aload_n 0, 1) := by decide +kernel
theorem dX2_spreadWeight_129 : decode cX2_spreadWeight 129 = .ok (.getfield 46, 3) := by decide +kernel
theorem dX2_spreadWeight_132 : decode cX2_spreadWeight 132 = .ok (.iload_n 2, 1) := by decide +kernel
theorem dX2_spreadWeight_133 : decode cX2_spreadWeight 133 = .ok (.aload_n 0, 1) := by decide +kernel
theorem dX2_spreadWeight_134 : decode cX2_spreadWeight 134 = .ok (.getfield 15, 3) := by decide +kernel
theorem dX2_spreadWeight_137 : decode cX2_spreadWeight 137 = .ok (.iconst 1, 1) := by decide +kernel
theorem dX2_spreadWeight_138 : decode cX2_spreadWeight 138 = .ok (.invokevirtual 59, 3) := by decide +kernel
theorem dX2_spreadWeight_141 : decode cX2_spreadWeight 141 = .ok (.lload_n 3, 1) := by decide +kernel
theorem dX2_spreadWeight_142 : decode cX2_spreadWeight 142 = .ok (.aload_n 0, 1) := by decide +kernel
theorem dX2_spreadWeight_143 : decode cX2_spreadWeight 143 = .ok (.getfield 18, 3) := by decide +kernel
theorem dX2_spreadWeight_146 : decode cX2_spreadWeight 146 = .ok (.i2l, 1) := by decide +kernel
theorem dX2_spreadWeight_147 : decode cX2_spreadWeight 147 = .ok (.lmul, 1) := by decide +kernel
theorem dX2_spreadWeight_148 : decode cX2_spreadWeight 148 = .ok (.invokevirtual 82, 3) := by decide +kernel
theorem dX2_spreadWeight_151 : decode cX2_spreadWeight 151 = .ok (.return_, 1) := by decide +kernel
theorem dX3_init_0 : decode cX3_init 0 = .ok (.aload_n 0, 1) := by decide +kernel
theorem dX3_init_1 : decode cX3_init 1 = .ok (.invokespecial 1, 3) := by decide +kernel
theorem dX3_init_4 : decode cX3_init 4 = .ok (.aload_n 0, 1) := by decide +kernel
theorem dX3_init_5 : decode cX3_init 5 = .ok (.aload_n 1, 1) := by decide +kernel
theorem dX3_init_6 : decode cX3_init 6 = .ok (.iload_n 2, 1) := by decide +kernel
theorem dX3_init_7 : decode cX3_init 7 = .ok (.invokestatic 7, 3) := by decide +kernel
theorem dX3_init_10 : decode cX3_init 10 = .ok (.putfield 13, 3) := by decide +kernel
theorem dX3_init_13 : decode cX3_init 13 = .ok (.return_, 1) := by decide +kernel
theorem dX3_placeOf_0 : decode cX3_placeOf 0 = .ok (.iconst (-1), 1) := by decide +kernel
theorem dX3_placeOf_1 : decode cX3_placeOf 1 = .ok (.iload_n 0, 1) := by decide +kernel
theorem dX3_placeOf_2 : decode cX3_placeOf 2 = .ok (.isub, 1) := by decide +kernel
theorem dX3_placeOf_3 : decode cX3_placeOf 3 = .ok (.ireturn, 1) := by decide +kernel
theorem dX3_tell_0 : decode cX3_tell 0 = .ok (.iconst 0, 1) := by decide +kernel
theorem dX3_tell_1 : decode cX3_tell 1 = .ok (.istore_n 3, 1) := by decide +kernel
theorem dX3_tell_2 : decode cX3_tell 2 = .ok (.iconst 0, 1) := by decide +kernel
theorem dX3_tell_3 : decode cX3_tell 3 = .ok (.istore 4, 2) := by decide +kernel
theorem dX3_tell_5 : decode cX3_tell 5 = .ok (.iload 4, 2) := by decide +kernel
theorem dX3_tell_7 : decode cX3_tell 7 = .ok (.aload_n 0, 1) := by decide +kernel
theorem dX3_tell_8 : decode cX3_tell 8 = .ok (.getfield 13, 3) := by decide +kernel
theorem dX3_tell_11 : decode cX3_tell 11 = .ok (.arraylength, 1) := by decide +kernel
theorem dX3_tell_12 : decode cX3_tell 12 = .ok (.if_icmp .ge 166, 3) := by decide +kernel
theorem dX3_tell_15 : decode cX3_tell 15 = .ok (.aload_n 0, 1) := by decide +kernel
theorem dX3_tell_16 : decode cX3_tell 16 = .ok (.getfield 13, 3) := by decide +kernel
theorem dX3_tell_19 : decode cX3_tell 19 = .ok (.iload 4, 2) := by decide +kernel
theorem dX3_tell_21 : decode cX3_tell 21 = .ok (.iaload, 1) := by decide +kernel
theorem dX3_tell_22 : decode cX3_tell 22 = .ok (.istore 5, 2) := by decide +kernel
theorem dX3_tell_24 : decode cX3_tell 24 = .ok (.iload 5, 2) := by decide +kernel
theorem dX3_tell_26 : decode cX3_tell 26 = .ok (.invokestatic 19, 3) := by decide +kernel
theorem dX3_tell_29 : decode cX3_tell 29 = .ok (.istore 6, 2) := by decide +kernel
theorem dX3_tell_31 : decode cX3_tell 31 = .ok (.iload_n 3, 1) := by decide +kernel
theorem dX3_tell_32 : decode cX3_tell 32 = .ok (.iload 6, 2) := by decide +kernel
theorem dX3_tell_34 : decode cX3_tell 34 = .ok (.isub, 1) := by decide +kernel
theorem dX3_tell_35 : decode cX3_tell 35 = .ok (.istore_n 3, 1) := by decide +kernel
theorem dX3_tell_36 : decode cX3_tell 36 = .ok (.iload_n 3, 1) := by decide +kernel
theorem dX3_tell_37 : decode cX3_tell 37 = .ok (.ifCond .lt 16, 3) := by decide +kernel
theorem dX3_tell_40 : decode cX3_tell 40 = .ok (.iload_n 3, 1) := by decide +kernel
theorem dX3_tell_41 : decode cX3_tell 41 = .ok (.iload 6, 2) := by decide +kernel
theorem dX3_tell_43 : decode cX3_tell 43 = .ok (.iconst 1, 1) := by decide +kernel
theorem dX3_tell_44 : decode cX3_tell 44 = .ok (.invokestatic 23, 3) := by decide +kernel
theorem dX3_tell_47 : decode cX3_tell 47 = .ok (.iadd, 1) := by decide +kernel
theorem dX3_tell_48 : decode cX3_tell 48 = .ok (.aload_n 2, 1) := by decide +kernel
theorem dX3_tell_49 : decode cX3_tell 49 = .ok (.arraylength, 1) := by decide +kernel
theorem dX3_tell_50 : decode cX3_tell 50 = .ok (.if_icmp .le 5, 3) := by decide +kernel
theorem dX3_tell_53 : decode cX3_tell 53 = .ok (.iconst 0, 1) := by decide +kernel
theorem dX3_tell_54 : decode cX3_tell 54 = .ok (.ireturn, 1) := by decide +kernel
theorem dX3_tell_55 : decode cX3_tell 55 = .ok (.iload 5, 2) := by decide +kernel
theorem dX3_tell_57 : decode cX3_tell 57 = .ok (.ifCond .lt 11, 3) := by decide +kernel
theorem dX3_tell_60 : decode cX3_tell 60 = .ok (.aload_n 2, 1) := by decide +kernel
theorem dX3_tell_61 : decode cX3_tell 61 = .ok (.iload_n 3, 1) := by decide +kernel
theorem dX3_tell_62 : decode cX3_tell 62 = .ok (.iload 5, 2) := by decide +kernel
theorem dX3_tell_64 : decode cX3_tell 64 = .ok (.iastore, 1) := by decide +kernel
theorem dX3_tell_65 : decode cX3_tell 65 = .ok (.goto 104, 3) := by decide +kernel
theorem dX3_tell_68 : decode cX3_tell 68 = .ok (.iload 6, 2) := by decide +kernel
theorem dX3_tell_70 : decode cX3_tell 70 = .ok (.ifCond .ne 30, 3) := by decide +kernel
theorem dX3_tell_73 : decode cX3_tell 73 = .ok (.aload_n 2, 1) := by decide +kernel
theorem dX3_tell_74 : decode cX3_tell 74 = .ok (.iload_n 3, 1) := by decide +kernel
theorem dX3_tell_75 : decode cX3_tell 75 = .ok (.iload 5, 2) := by decide +kernel
theorem dX3_tell_77 : decode cX3_tell 77 = .ok (.invokestatic 29, 3) := by decide +kernel
theorem dX3_tell_80 : decode cX3_tell 80 = .ok (.aload_n 1, 1) := by decide +kernel
theorem dX3_tell_81 : decode cX3_tell 81 = .ok (.arraylength, 1) := by decide +kernel
theorem dX3_tell_82 : decode cX3_tell 82 = .ok (.if_icmp .ge 13, 3) := by decide +kernel
theorem dX3_tell_85 : decode cX3_tell 85 = .ok (.aload_n 1, 1) := by decide +kernel
theorem dX3_tell_86 : decode cX3_tell 86 = .ok (.iload 5, 2) := by decide +kernel
theorem dX3_tell_88 : decode cX3_tell 88 = .ok (.invokestatic 29, 3) := by decide +kernel
theorem dX3_tell_91 : decode cX3_tell 91 = .ok (.iaload, 1) := by decide +kernel
theorem dX3_tell_92 : decode cX3_tell 92 = .ok (.goto 4, 3) := by decide +kernel
theorem dX3_tell_95 : decode cX3_tell 95 = .ok (.iconst 0, 1) := by decide +kernel
theorem dX3_tell_96 : decode cX3_tell 96 = .ok (.iastore, 1) := by decide +kernel
theorem dX3_tell_97 : decode cX3_tell 97 = .ok (.goto 72, 3) := by decide +kernel
theorem dX3_tell_100 : decode cX3_tell 100 = .ok (.iload 5, 2) := by decide +kernel
theorem dX3_tell_102 : decode cX3_tell 102 = .ok (.bipush (-19), 2) := by decide +kernel
theorem dX3_tell_104 : decode cX3_tell 104 = .ok (.if_icmp .ne 14, 3) := by decide +kernel
theorem dX3_tell_107 : decode cX3_tell 107 = .ok (.aload_n 2, 1) := by decide +kernel
theorem dX3_tell_108 : decode cX3_tell 108 = .ok (.iload_n 3, 1) := by decide +kernel
theorem dX3_tell_109 : decode cX3_tell 109 = .ok (.iconst 1, 1) := by decide +kernel
theorem dX3_tell_110 : decode cX3_tell 110 = .ok (.aload_n 2, 1) := by decide +kernel
theorem dX3_tell_111 : decode cX3_tell 111 = .ok (.iload_n 3, 1) := by decide +kernel
theorem dX3_tell_112 : decode cX3_tell 112 = .ok (.iaload, 1) := by decide +kernel
theorem dX3_tell_113 : decode cX3_tell 113 = .ok (.isub, 1) := by decide +kernel
theorem dX3_tell_114 : decode cX3_tell 114 = .ok (.iastore, 1) := by decide +kernel
theorem dX3_tell_115 : decode cX3_tell 115 = .ok (.goto 54, 3) := by decide +kernel
theorem dX3_tell_118 : decode cX3_tell 118 = .ok (.iload 5, 2) := by decide +kernel
theorem dX3_tell_120 : decode cX3_tell 120 = .ok (.bipush (-20), 2) := by decide +kernel
theorem dX3_tell_122 : decode cX3_tell 122 = .ok (.if_icmp .ne 29, 3) := by decide +kernel
theorem dX3_tell_125 : decode cX3_tell 125 = .ok (.aload_n 2, 1) := by decide +kernel
theorem dX3_tell_126 : decode cX3_tell 126 = .ok (.iload_n 3, 1) := by decide +kernel
theorem dX3_tell_127 : decode cX3_tell 127 = .ok (.aload_n 2, 1) := by decide +kernel
theorem dX3_tell_128 : decode cX3_tell 128 = .ok (.iload_n 3, 1) := by decide +kernel
theorem dX3_tell_129 : decode cX3_tell 129 = .ok (.iaload, 1) := by decide +kernel
theorem dX3_tell_130 : decode cX3_tell 130 = .ok (.iconst 1, 1) := by decide +kernel
theorem dX3_tell_131 : decode cX3_tell 131 = .ok (.if_icmp .ne 11, 3) := by decide +kernel
theorem dX3_tell_134 : decode cX3_tell 134 = .ok (.aload_n 2, 1) := by decide +kernel
theorem dX3_tell_135 : decode cX3_tell 135 = .ok (.iload_n 3, 1) := by decide +kernel
theorem dX3_tell_136 : decode cX3_tell 136 = .ok (.iconst 1, 1) := by decide +kernel
theorem dX3_tell_137 : decode cX3_tell 137 = .ok (.iadd, 1) := by decide +kernel
theorem dX3_tell_138 : decode cX3_tell 138 = .ok (.iaload, 1) := by decide +kernel
theorem dX3_tell_139 : decode cX3_tell 139 = .ok (.goto 8, 3) := by decide +kernel
theorem dX3_tell_142 : decode cX3_tell 142 = .ok (.aload_n 2, 1) := by decide +kernel
theorem dX3_tell_143 : decode cX3_tell 143 = .ok (.iload_n 3, 1) := by decide +kernel
theorem dX3_tell_144 : decode cX3_tell 144 = .ok (.iconst 2, 1) := by decide +kernel
theorem dX3_tell_145 : decode cX3_tell 145 = .ok (.iadd, 1) := by decide +kernel
theorem dX3_tell_146 : decode cX3_tell 146 = .ok (.iaload, 1) := by decide +kernel
theorem dX3_tell_147 : decode cX3_tell 147 = .ok (.iastore, 1) := by decide +kernel
theorem dX3_tell_148 : decode cX3_tell 148 = .ok (.goto 21, 3) := by decide +kernel
theorem dX3_tell_151 : decode cX3_tell 151 = .ok (.aload_n 2, 1) := by decide +kernel
theorem dX3_tell_152 : decode cX3_tell 152 = .ok (.iload_n 3, 1) := by decide +kernel
theorem dX3_tell_153 : decode cX3_tell 153 = .ok (.iload 5, 2) := by decide +kernel
theorem dX3_tell_155 : decode cX3_tell 155 = .ok (.aload_n 2, 1) := by decide +kernel
theorem dX3_tell_156 : decode cX3_tell 156 = .ok (.iload_n 3, 1) := by decide +kernel
theorem dX3_tell_157 : decode cX3_tell 157 = .ok (.iaload, 1) := by decide +kernel
theorem dX3_tell_158 : decode cX3_tell 158 = .ok (.i2l, 1) := by decide +kernel
theorem dX3_tell_159 : decode cX3_tell 159 = .ok (.aload_n 2, 1) := by decide +kernel
theorem dX3_tell_160 : decode cX3_tell 160 = .ok (.iload_n 3, 1) := by decide +kernel
theorem dX3_tell_161 : decode cX3_tell 161 = .ok (.iconst 1, 1) := by decide +kernel
theorem dX3_tell_162 : decode cX3_tell 162 = .ok (.iadd, 1) := by decide +kernel
theorem dX3_tell_163 : decode cX3_tell 163 = .ok (.iaload, 1) := by decide +kernel
theorem dX3_tell_164 : decode cX3_tell 164 = .ok (.i2l, 1) := by decide +kernel
theorem dX3_tell_165 : decode cX3_tell 165 = .ok (.invokestatic 32, 3) := by decide +kernel
theorem dX3_tell_168 : decode cX3_tell 168 = .ok (.iastore, 1) := by decide +kernel
theorem dX3_tell_169 : decode cX3_tell 169 = .ok (.iinc 3 1, 3) := by decide +kernel
theorem dX3_tell_172 : decode cX3_tell 172 = .ok (.iinc 4 1, 3) := by decide +kernel
theorem dX3_tell_175 : decode cX3_tell 175 = .ok (.goto (-170), 3) := by decide +kernel
theorem dX3_tell_178 : decode cX3_tell 178 = .ok (.iload_n 3, 1) := by decide +kernel
theorem dX3_tell_179 : decode cX3_tell 179 = .ok (.iconst 1, 1) := by decide +kernel
theorem dX3_tell_180 : decode cX3_tell 180 = .ok (.if_icmp .ne 9, 3) := by decide +kernel
theorem dX3_tell_183 : decode cX3_tell 183 = .ok (.aload_n 2, 1) := by decide +kernel
theorem dX3_tell_184 : decode cX3_tell 184 = .ok (.iconst 0, 1) := by decide +kernel
theorem dX3_tell_185 : decode cX3_tell 185 = .ok (.iaload, 1) := by decide +kernel
theorem dX3_tell_186 : decode cX3_tell 186 = .ok (.goto 4, 3) := by decide +kernel
theorem dX3_tell_189 : decode cX3_tell 189 = .ok (.iconst 0, 1) := by decide +kernel
theorem dX3_tell_190 : decode cX3_tell 190 = .ok (.ireturn, 1) := by decide +kernel
theorem dX3_takes_0 : decode cX3_takes 0 = .ok (.iload_n 0, 1) := by decide +kernel
theorem dX3_takes_1 : decode cX3_takes 1 = .ok (.bipush (-11), 2) := by decide +kernel
theorem dX3_takes_3 : decode cX3_takes 3 = .ok (.if_icmp .le 5, 3) := by decide +kernel
theorem dX3_takes_6 : decode cX3_takes 6 = .ok (.iconst 0, 1) := by decide +kernel
theorem dX3_takes_7 : decode cX3_takes 7 = .ok (.ireturn, 1) := by decide +kernel
theorem dX3_takes_8 : decode cX3_takes 8 = .ok (.iload_n 0, 1) := by decide +kernel
theorem dX3_takes_9 : decode cX3_takes 9 = .ok (.bipush (-19), 2) := by decide +kernel
theorem dX3_takes_11 : decode cX3_takes 11 = .ok (.if_icmp .ne 5, 3) := by decide +kernel
theorem dX3_takes_14 : decode cX3_takes 14 = .ok (.iconst 1, 1) := by decide +kernel
theorem dX3_takes_15 : decode cX3_takes 15 = .ok (.ireturn, 1) := by decide +kernel
theorem dX3_takes_16 : decode cX3_takes 16 = .ok (.iload_n 0, 1) := by decide +kernel
theorem dX3_takes_17 : decode cX3_takes 17 = .ok (.bipush (-20), 2) := by decide +kernel
theorem dX3_takes_19 : decode cX3_takes 19 = .ok (.if_icmp .ne 7, 3) := by decide +kernel
theorem dX3_takes_22 : decode cX3_takes 22 = .ok (.iconst 3, 1) := by decide +kernel
theorem dX3_takes_23 : decode cX3_takes 23 = .ok (.goto 4, 3) := by decide +kernel
theorem dX3_takes_26 : decode cX3_takes 26 = .ok (.iconst 2, 1) := by decide +kernel
theorem dX3_takes_27 : decode cX3_takes 27 = .ok (.ireturn, 1) := by decide +kernel
theorem dX3_join_0 : decode cX3_join 0 = .ok (.iload_n 0, 1) := by decide +kernel
theorem dX3_join_1 : decode cX3_join 1 = .ok (.tableswitch 123 (-17) (-11) #[115, 99, 83, 67, 59, 51, 43], 43) := by decide +kernel
theorem dX3_join_44 : decode cX3_join 44 = .ok (.lload_n 1, 1) := by decide +kernel
theorem dX3_join_45 : decode cX3_join 45 = .ok (.lload_n 3, 1) := by decide +kernel
theorem dX3_join_46 : decode cX3_join 46 = .ok (.ladd, 1) := by decide +kernel
theorem dX3_join_47 : decode cX3_join 47 = .ok (.lstore 5, 2) := by decide +kernel
theorem dX3_join_49 : decode cX3_join 49 = .ok (.goto 80, 3) := by decide +kernel
theorem dX3_join_52 : decode cX3_join 52 = .ok (.lload_n 1, 1) := by decide +kernel
theorem dX3_join_53 : decode cX3_join 53 = .ok (.lload_n 3, 1) := by decide +kernel
theorem dX3_join_54 : decode cX3_join 54 = .ok (.lsub, 1) := by decide +kernel
theorem dX3_join_55 : decode cX3_join 55 = .ok (.lstore 5, 2) := by decide +kernel
theorem dX3_join_57 : decode cX3_join 57 = .ok (.goto 72, 3) := by decide +kernel
theorem dX3_join_60 : decode cX3_join 60 = .ok (.lload_n 1, 1) := by decide +kernel
theorem dX3_join_61 : decode cX3_join 61 = .ok (.lload_n 3, 1) := by decide +kernel
theorem dX3_join_62 : decode cX3_join 62 = .ok (.lmul, 1) := by decide +kernel
theorem dX3_join_63 : decode cX3_join 63 = .ok (.lstore 5, 2) := by decide +kernel
theorem dX3_join_65 : decode cX3_join 65 = .ok (.goto 64, 3) := by decide +kernel
theorem dX3_join_68 : decode cX3_join 68 = .ok (.lload_n 1, 1) := by decide +kernel
theorem dX3_join_69 : decode cX3_join 69 = .ok (.lload_n 3, 1) := by decide +kernel
theorem dX3_join_70 : decode cX3_join 70 = .ok (.lcmp, 1) := by decide +kernel
theorem dX3_join_71 : decode cX3_join 71 = .ok (.ifCond .ne 7, 3) := by decide +kernel
theorem dX3_join_74 : decode cX3_join 74 = .ok (.lconst 1, 1) := by decide +kernel
theorem dX3_join_75 : decode cX3_join 75 = .ok (.goto 4, 3) := by decide +kernel
theorem dX3_join_78 : decode cX3_join 78 = .ok (.lconst 0, 1) := by decide +kernel
theorem dX3_join_79 : decode cX3_join 79 = .ok (.lstore 5, 2) := by decide +kernel
theorem dX3_join_81 : decode cX3_join 81 = .ok (.goto 48, 3) := by decide +kernel
theorem dX3_join_84 : decode cX3_join 84 = .ok (.lload_n 1, 1) := by decide +kernel
theorem dX3_join_85 : decode cX3_join 85 = .ok (.lload_n 3, 1) := by decide +kernel
theorem dX3_join_86 : decode cX3_join 86 = .ok (.lcmp, 1) := by decide +kernel
theorem dX3_join_87 : decode cX3_join 87 = .ok (.ifCond .ge 7, 3) := by decide +kernel
theorem dX3_join_90 : decode cX3_join 90 = .ok (.lconst 1, 1) := by decide +kernel
theorem dX3_join_91 : decode cX3_join 91 = .ok (.goto 4, 3) := by decide +kernel
theorem dX3_join_94 : decode cX3_join 94 = .ok (.lconst 0, 1) := by decide +kernel
theorem dX3_join_95 : decode cX3_join 95 = .ok (.lstore 5, 2) := by decide +kernel
theorem dX3_join_97 : decode cX3_join 97 = .ok (.goto 32, 3) := by decide +kernel
theorem dX3_join_100 : decode cX3_join 100 = .ok (.lload_n 1, 1) := by decide +kernel
theorem dX3_join_101 : decode cX3_join 101 = .ok (.lload_n 3, 1) := by decide +kernel
theorem dX3_join_102 : decode cX3_join 102 = .ok (.lcmp, 1) := by decide +kernel
theorem dX3_join_103 : decode cX3_join 103 = .ok (.ifCond .le 7, 3) := by decide +kernel
theorem dX3_join_106 : decode cX3_join 106 = .ok (.lconst 1, 1) := by decide +kernel
theorem dX3_join_107 : decode cX3_join 107 = .ok (.goto 4, 3) := by decide +kernel
theorem dX3_join_110 : decode cX3_join 110 = .ok (.lconst 0, 1) := by decide +kernel
theorem dX3_join_111 : decode cX3_join 111 = .ok (.lstore 5, 2) := by decide +kernel
theorem dX3_join_113 : decode cX3_join 113 = .ok (.goto 16, 3) := by decide +kernel
theorem dX3_join_116 : decode cX3_join 116 = .ok (.lload_n 1, 1) := by decide +kernel
theorem dX3_join_117 : decode cX3_join 117 = .ok (.lload_n 3, 1) := by decide +kernel
theorem dX3_join_118 : decode cX3_join 118 = .ok (.land, 1) := by decide +kernel
theorem dX3_join_119 : decode cX3_join 119 = .ok (.lstore 5, 2) := by decide +kernel
theorem dX3_join_121 : decode cX3_join 121 = .ok (.goto 8, 3) := by decide +kernel
theorem dX3_join_124 : decode cX3_join 124 = .ok (.lload_n 1, 1) := by decide +kernel
theorem dX3_join_125 : decode cX3_join 125 = .ok (.lload_n 3, 1) := by decide +kernel
theorem dX3_join_126 : decode cX3_join 126 = .ok (.lor, 1) := by decide +kernel
theorem dX3_join_127 : decode cX3_join 127 = .ok (.lstore 5, 2) := by decide +kernel
theorem dX3_join_129 : decode cX3_join 129 = .ok (.lload 5, 2) := by decide +kernel
theorem dX3_join_131 : decode cX3_join 131 = .ok (.ldc2_w 36, 3) := by decide +kernel
theorem dX3_join_134 : decode cX3_join 134 = .ok (.lcmp, 1) := by decide +kernel
theorem dX3_join_135 : decode cX3_join 135 = .ok (.ifCond .le 6, 3) := by decide +kernel
theorem dX3_join_138 : decode cX3_join 138 = .ok (.ldc 38, 2) := by decide +kernel
theorem dX3_join_140 : decode cX3_join 140 = .ok (.ireturn, 1) := by decide +kernel
theorem dX3_join_141 : decode cX3_join 141 = .ok (.lload 5, 2) := by decide +kernel
theorem dX3_join_143 : decode cX3_join 143 = .ok (.ldc2_w 39, 3) := by decide +kernel
theorem dX3_join_146 : decode cX3_join 146 = .ok (.lcmp, 1) := by decide +kernel
theorem dX3_join_147 : decode cX3_join 147 = .ok (.ifCond .ge 8, 3) := by decide +kernel
theorem dX3_join_150 : decode cX3_join 150 = .ok (.ldc 41, 2) := by decide +kernel
theorem dX3_join_152 : decode cX3_join 152 = .ok (.goto 6, 3) := by decide +kernel
theorem dX3_join_155 : decode cX3_join 155 = .ok (.lload 5, 2) := by decide +kernel
theorem dX3_join_157 : decode cX3_join 157 = .ok (.l2i, 1) := by decide +kernel
theorem dX3_join_158 : decode cX3_join 158 = .ok (.ireturn, 1) := by decide +kernel
