/-! decode rows -/
theorem dX12_cave_0 : decode cX12_cave 0 = .ok (.aload_n 0, 1) := by decide +kernel
theorem dX12_cave_1 : decode cX12_cave 1 = .ok (.iconst 0, 1) := by decide +kernel
theorem dX12_cave_2 : decode cX12_cave 2 = .ok (.putfield 1, 3) := by decide +kernel
theorem dX12_cave_5 : decode cX12_cave 5 = .ok (.iload_n 1, 1) := by decide +kernel
theorem dX12_cave_6 : decode cX12_cave 6 = .ok (.i2l, 1) := by decide +kernel
theorem dX12_cave_7 : decode cX12_cave 7 = .ok (.lconst 0, 1) := by decide +kernel
theorem dX12_cave_8 : decode cX12_cave 8 = .ok (.aload_n 0, 1) := by decide +kernel
theorem dX12_cave_9 : decode cX12_cave 9 = .ok (.getfield 93, 3) := by decide +kernel
theorem dX12_cave_12 : decode cX12_cave 12 = .ok (.i2l, 1) := by decide +kernel
theorem dX12_cave_13 : decode cX12_cave 13 = .ok (.invokestatic 155, 3) := by decide +kernel
theorem dX12_cave_16 : decode cX12_cave 16 = .ok (.ifCond .ne 6, 3) := by decide +kernel
theorem dX12_cave_19 : decode cX12_cave 19 = .ok (.bipush (-3), 2) := by decide +kernel
theorem dX12_cave_21 : decode cX12_cave 21 = .ok (.ireturn, 1) := by decide +kernel
theorem dX12_cave_22 : decode cX12_cave 22 = .ok (.aload_n 0, 1) := by decide +kernel
theorem dX12_cave_23 : decode cX12_cave 23 = .ok (.iload_n 1, 1) := by decide +kernel
theorem dX12_cave_24 : decode cX12_cave 24 = .ok (.putfield 96, 3) := by decide +kernel
theorem dX12_cave_27 : decode cX12_cave 27 = .ok (.aload_n 0, 1) := by decide +kernel
theorem dX12_cave_28 : decode cX12_cave 28 = .ok (.iconst 0, 1) := by decide +kernel
theorem dX12_cave_29 : decode cX12_cave 29 = .ok (.putfield 93, 3) := by decide +kernel
theorem dX12_cave_32 : decode cX12_cave 32 = .ok (.aload_n 0, 1) := by decide +kernel
theorem dX12_cave_33 : decode cX12_cave 33 = .ok (.iconst 0, 1) := by decide +kernel
theorem dX12_cave_34 : decode cX12_cave 34 = .ok (.putfield 114, 3) := by decide +kernel
theorem dX12_cave_37 : decode cX12_cave 37 = .ok (.aload_n 0, 1) := by decide +kernel
theorem dX12_cave_38 : decode cX12_cave 38 = .ok (.iconst 0, 1) := by decide +kernel
theorem dX12_cave_39 : decode cX12_cave 39 = .ok (.putfield 139, 3) := by decide +kernel
theorem dX12_cave_42 : decode cX12_cave 42 = .ok (.aload_n 0, 1) := by decide +kernel
theorem dX12_cave_43 : decode cX12_cave 43 = .ok (.getfield 24, 3) := by decide +kernel
theorem dX12_cave_46 : decode cX12_cave 46 = .ok (.invokestatic 89, 3) := by decide +kernel
theorem dX12_cave_49 : decode cX12_cave 49 = .ok (.aload_n 0, 1) := by decide +kernel
theorem dX12_cave_50 : decode cX12_cave 50 = .ok (.invokevirtual 148, 3) := by decide +kernel
theorem dX12_cave_53 : decode cX12_cave 53 = .ok (.aload_n 0, 1) := by decide +kernel
theorem dX12_cave_54 : decode cX12_cave 54 = .ok (.iconst 0, 1) := by decide +kernel
theorem dX12_cave_55 : decode cX12_cave 55 = .ok (.invokevirtual 174, 3) := by decide +kernel
theorem dX12_cave_58 : decode cX12_cave 58 = .ok (.ifCond .ne 8, 3) := by decide +kernel
theorem dX12_cave_61 : decode cX12_cave 61 = .ok (.aload_n 0, 1) := by decide +kernel
theorem dX12_cave_62 : decode cX12_cave 62 = .ok (.iconst 2, 1) := by decide +kernel
theorem dX12_cave_63 : decode cX12_cave 63 = .ok (.invokevirtual 151, 3) := by decide +kernel
theorem dX12_cave_66 : decode cX12_cave 66 = .ok (.aload_n 0, 1) := by decide +kernel
theorem dX12_cave_67 : decode cX12_cave 67 = .ok (.iconst 1, 1) := by decide +kernel
theorem dX12_cave_68 : decode cX12_cave 68 = .ok (.invokevirtual 174, 3) := by decide +kernel
theorem dX12_cave_71 : decode cX12_cave 71 = .ok (.ifCond .ne 8, 3) := by decide +kernel
theorem dX12_cave_74 : decode cX12_cave 74 = .ok (.aload_n 0, 1) := by decide +kernel
theorem dX12_cave_75 : decode cX12_cave 75 = .ok (.iconst 2, 1) := by decide +kernel
theorem dX12_cave_76 : decode cX12_cave 76 = .ok (.invokevirtual 151, 3) := by decide +kernel
theorem dX12_cave_79 : decode cX12_cave 79 = .ok (.aload_n 0, 1) := by decide +kernel
theorem dX12_cave_80 : decode cX12_cave 80 = .ok (.getfield 24, 3) := by decide +kernel
theorem dX12_cave_83 : decode cX12_cave 83 = .ok (.iconst 2, 1) := by decide +kernel
theorem dX12_cave_84 : decode cX12_cave 84 = .ok (.aload_n 0, 1) := by decide +kernel
theorem dX12_cave_85 : decode cX12_cave 85 = .ok (.iconst 0, 1) := by decide +kernel
theorem dX12_cave_86 : decode cX12_cave 86 = .ok (.iconst 4, 1) := by decide +kernel
theorem dX12_cave_87 : decode cX12_cave 87 = .ok (.invokevirtual 195, 3) := by decide +kernel
theorem dX12_cave_90 : decode cX12_cave 90 = .ok (.iastore, 1) := by decide +kernel
theorem dX12_cave_91 : decode cX12_cave 91 = .ok (.aload_n 0, 1) := by decide +kernel
theorem dX12_cave_92 : decode cX12_cave 92 = .ok (.invokevirtual 208, 3) := by decide +kernel
theorem dX12_cave_95 : decode cX12_cave 95 = .ok (.aload_n 0, 1) := by decide +kernel
theorem dX12_cave_96 : decode cX12_cave 96 = .ok (.getfield 139, 3) := by decide +kernel
theorem dX12_cave_99 : decode cX12_cave 99 = .ok (.ifCond .ne 23, 3) := by decide +kernel
theorem dX12_cave_102 : decode cX12_cave 102 = .ok (.aload_n 0, 1) := by decide +kernel
theorem dX12_cave_103 : decode cX12_cave 103 = .ok (.getfield 121, 3) := by decide +kernel
theorem dX12_cave_106 : decode cX12_cave 106 = .ok (.bipush 24, 2) := by decide +kernel
theorem dX12_cave_108 : decode cX12_cave 108 = .ok (.if_icmp .eq 14, 3) := by decide +kernel
theorem dX12_cave_111 : decode cX12_cave 111 = .ok (.aload_n 0, 1) := by decide +kernel
theorem dX12_cave_112 : decode cX12_cave 112 = .ok (.invokevirtual 211, 3) := by decide +kernel
theorem dX12_cave_115 : decode cX12_cave 115 = .ok (.aload_n 0, 1) := by decide +kernel
theorem dX12_cave_116 : decode cX12_cave 116 = .ok (.invokevirtual 208, 3) := by decide +kernel
theorem dX12_cave_119 : decode cX12_cave 119 = .ok (.goto (-24), 3) := by decide +kernel
theorem dX12_cave_122 : decode cX12_cave 122 = .ok (.aload_n 0, 1) := by decide +kernel
theorem dX12_cave_123 : decode cX12_cave 123 = .ok (.aload_n 0, 1) := by decide +kernel
theorem dX12_cave_124 : decode cX12_cave 124 = .ok (.getfield 139, 3) := by decide +kernel
theorem dX12_cave_127 : decode cX12_cave 127 = .ok (.putfield 214, 3) := by decide +kernel
theorem dX12_cave_130 : decode cX12_cave 130 = .ok (.aload_n 0, 1) := by decide +kernel
theorem dX12_cave_131 : decode cX12_cave 131 = .ok (.aload_n 0, 1) := by decide +kernel
theorem dX12_cave_132 : decode cX12_cave 132 = .ok (.getfield 139, 3) := by decide +kernel
theorem dX12_cave_135 : decode cX12_cave 135 = .ok (.ifCond .ne 7, 3) := by decide +kernel
theorem dX12_cave_138 : decode cX12_cave 138 = .ok (.iconst (-1), 1) := by decide +kernel
theorem dX12_cave_139 : decode cX12_cave 139 = .ok (.goto 7, 3) := by decide +kernel
theorem dX12_cave_142 : decode cX12_cave 142 = .ok (.aload_n 0, 1) := by decide +kernel
theorem dX12_cave_143 : decode cX12_cave 143 = .ok (.getfield 142, 3) := by decide +kernel
theorem dX12_cave_146 : decode cX12_cave 146 = .ok (.putfield 27, 3) := by decide +kernel
theorem dX12_cave_149 : decode cX12_cave 149 = .ok (.aload_n 0, 1) := by decide +kernel
theorem dX12_cave_150 : decode cX12_cave 150 = .ok (.getfield 139, 3) := by decide +kernel
theorem dX12_cave_153 : decode cX12_cave 153 = .ok (.ifCond .eq 11, 3) := by decide +kernel
theorem dX12_cave_156 : decode cX12_cave 156 = .ok (.bipush (-30), 2) := by decide +kernel
theorem dX12_cave_158 : decode cX12_cave 158 = .ok (.aload_n 0, 1) := by decide +kernel
theorem dX12_cave_159 : decode cX12_cave 159 = .ok (.getfield 139, 3) := by decide +kernel
theorem dX12_cave_162 : decode cX12_cave 162 = .ok (.isub, 1) := by decide +kernel
theorem dX12_cave_163 : decode cX12_cave 163 = .ok (.ireturn, 1) := by decide +kernel
theorem dX12_cave_164 : decode cX12_cave 164 = .ok (.iconst 0, 1) := by decide +kernel
theorem dX12_cave_165 : decode cX12_cave 165 = .ok (.istore_n 2, 1) := by decide +kernel
theorem dX12_cave_166 : decode cX12_cave 166 = .ok (.iload_n 2, 1) := by decide +kernel
theorem dX12_cave_167 : decode cX12_cave 167 = .ok (.sipush 1038, 3) := by decide +kernel
theorem dX12_cave_170 : decode cX12_cave 170 = .ok (.if_icmp .ge 21, 3) := by decide +kernel
theorem dX12_cave_173 : decode cX12_cave 173 = .ok (.aload_n 0, 1) := by decide +kernel
theorem dX12_cave_174 : decode cX12_cave 174 = .ok (.getfield 13, 3) := by decide +kernel
theorem dX12_cave_177 : decode cX12_cave 177 = .ok (.iload_n 2, 1) := by decide +kernel
theorem dX12_cave_178 : decode cX12_cave 178 = .ok (.aload_n 0, 1) := by decide +kernel
theorem dX12_cave_179 : decode cX12_cave 179 = .ok (.getfield 24, 3) := by decide +kernel
theorem dX12_cave_182 : decode cX12_cave 182 = .ok (.iload_n 2, 1) := by decide +kernel
theorem dX12_cave_183 : decode cX12_cave 183 = .ok (.iaload, 1) := by decide +kernel
theorem dX12_cave_184 : decode cX12_cave 184 = .ok (.iastore, 1) := by decide +kernel
theorem dX12_cave_185 : decode cX12_cave 185 = .ok (.iinc 2 1, 3) := by decide +kernel
theorem dX12_cave_188 : decode cX12_cave 188 = .ok (.goto (-22), 3) := by decide +kernel
theorem dX12_cave_191 : decode cX12_cave 191 = .ok (.iconst 0, 1) := by decide +kernel
theorem dX12_cave_192 : decode cX12_cave 192 = .ok (.istore_n 2, 1) := by decide +kernel
theorem dX12_cave_193 : decode cX12_cave 193 = .ok (.iload_n 2, 1) := by decide +kernel
theorem dX12_cave_194 : decode cX12_cave 194 = .ok (.iconst 4, 1) := by decide +kernel
theorem dX12_cave_195 : decode cX12_cave 195 = .ok (.if_icmp .ge 27, 3) := by decide +kernel
theorem dX12_cave_198 : decode cX12_cave 198 = .ok (.aload_n 0, 1) := by decide +kernel
theorem dX12_cave_199 : decode cX12_cave 199 = .ok (.getfield 13, 3) := by decide +kernel
theorem dX12_cave_202 : decode cX12_cave 202 = .ok (.bipush 15, 2) := by decide +kernel
theorem dX12_cave_204 : decode cX12_cave 204 = .ok (.iload_n 2, 1) := by decide +kernel
theorem dX12_cave_205 : decode cX12_cave 205 = .ok (.iadd, 1) := by decide +kernel
theorem dX12_cave_206 : decode cX12_cave 206 = .ok (.aload_n 0, 1) := by decide +kernel
theorem dX12_cave_207 : decode cX12_cave 207 = .ok (.getfield 13, 3) := by decide +kernel
theorem dX12_cave_210 : decode cX12_cave 210 = .ok (.bipush 11, 2) := by decide +kernel
theorem dX12_cave_212 : decode cX12_cave 212 = .ok (.iload_n 2, 1) := by decide +kernel
theorem dX12_cave_213 : decode cX12_cave 213 = .ok (.iadd, 1) := by decide +kernel
theorem dX12_cave_214 : decode cX12_cave 214 = .ok (.iaload, 1) := by decide +kernel
theorem dX12_cave_215 : decode cX12_cave 215 = .ok (.iastore, 1) := by decide +kernel
theorem dX12_cave_216 : decode cX12_cave 216 = .ok (.iinc 2 1, 3) := by decide +kernel
theorem dX12_cave_219 : decode cX12_cave 219 = .ok (.goto (-26), 3) := by decide +kernel
theorem dX12_cave_222 : decode cX12_cave 222 = .ok (.aload_n 0, 1) := by decide +kernel
theorem dX12_cave_223 : decode cX12_cave 223 = .ok (.getfield 13, 3) := by decide +kernel
theorem dX12_cave_226 : decode cX12_cave 226 = .ok (.iconst 3, 1) := by decide +kernel
theorem dX12_cave_227 : decode cX12_cave 227 = .ok (.iaload, 1) := by decide +kernel
theorem dX12_cave_228 : decode cX12_cave 228 = .ok (.ifCond .ne 25, 3) := by decide +kernel
theorem dX12_cave_231 : decode cX12_cave 231 = .ok (.aload_n 0, 1) := by decide +kernel
theorem dX12_cave_232 : decode cX12_cave 232 = .ok (.getfield 13, 3) := by decide +kernel
theorem dX12_cave_235 : decode cX12_cave 235 = .ok (.iconst 1, 1) := by decide +kernel
theorem dX12_cave_236 : decode cX12_cave 236 = .ok (.iaload, 1) := by decide +kernel
theorem dX12_cave_237 : decode cX12_cave 237 = .ok (.ifCond .le 16, 3) := by decide +kernel
theorem dX12_cave_240 : decode cX12_cave 240 = .ok (.aload_n 0, 1) := by decide +kernel
theorem dX12_cave_241 : decode cX12_cave 241 = .ok (.getfield 13, 3) := by decide +kernel
theorem dX12_cave_244 : decode cX12_cave 244 = .ok (.bipush 23, 2) := by decide +kernel
theorem dX12_cave_246 : decode cX12_cave 246 = .ok (.aload_n 0, 1) := by decide +kernel
theorem dX12_cave_247 : decode cX12_cave 247 = .ok (.getfield 13, 3) := by decide +kernel
theorem dX12_cave_250 : decode cX12_cave 250 = .ok (.iconst 2, 1) := by decide +kernel
theorem dX12_cave_251 : decode cX12_cave 251 = .ok (.iaload, 1) := by decide +kernel
theorem dX12_cave_252 : decode cX12_cave 252 = .ok (.iastore, 1) := by decide +kernel
theorem dX12_cave_253 : decode cX12_cave 253 = .ok (.aload_n 0, 1) := by decide +kernel
theorem dX12_cave_254 : decode cX12_cave 254 = .ok (.getfield 13, 3) := by decide +kernel
theorem dX12_cave_257 : decode cX12_cave 257 = .ok (.iconst 0, 1) := by decide +kernel
theorem dX12_cave_258 : decode cX12_cave 258 = .ok (.iaload, 1) := by decide +kernel
theorem dX12_cave_259 : decode cX12_cave 259 = .ok (.ireturn, 1) := by decide +kernel
theorem dX12_fault_0 : decode cX12_fault 0 = .ok (.aload_n 0, 1) := by decide +kernel
theorem dX12_fault_1 : decode cX12_fault 1 = .ok (.iconst 0, 1) := by decide +kernel
theorem dX12_fault_2 : decode cX12_fault 2 = .ok (.putfield 1, 3) := by decide +kernel
theorem dX12_fault_5 : decode cX12_fault 5 = .ok (.iload_n 1, 1) := by decide +kernel
theorem dX12_fault_6 : decode cX12_fault 6 = .ok (.ifCond .ne 10, 3) := by decide +kernel
theorem dX12_fault_9 : decode cX12_fault 9 = .ok (.aload_n 0, 1) := by decide +kernel
theorem dX12_fault_10 : decode cX12_fault 10 = .ok (.getfield 214, 3) := by decide +kernel
theorem dX12_fault_13 : decode cX12_fault 13 = .ok (.goto 16, 3) := by decide +kernel
theorem dX12_fault_16 : decode cX12_fault 16 = .ok (.iload_n 1, 1) := by decide +kernel
theorem dX12_fault_17 : decode cX12_fault 17 = .ok (.iconst 1, 1) := by decide +kernel
theorem dX12_fault_18 : decode cX12_fault 18 = .ok (.if_icmp .ne 10, 3) := by decide +kernel
theorem dX12_fault_21 : decode cX12_fault 21 = .ok (.aload_n 0, 1) := by decide +kernel
theorem dX12_fault_22 : decode cX12_fault 22 = .ok (.getfield 27, 3) := by decide +kernel
theorem dX12_fault_25 : decode cX12_fault 25 = .ok (.goto 4, 3) := by decide +kernel
theorem dX12_fault_28 : decode cX12_fault 28 = .ok (.iconst (-1), 1) := by decide +kernel
theorem dX12_fault_29 : decode cX12_fault 29 = .ok (.ireturn, 1) := by decide +kernel
theorem dX12_isPair_0 : decode cX12_isPair 0 = .ok (.lload_n 1, 1) := by decide +kernel
theorem dX12_isPair_1 : decode cX12_isPair 1 = .ok (.lconst 0, 1) := by decide +kernel
theorem dX12_isPair_2 : decode cX12_isPair 2 = .ok (.aload_n 0, 1) := by decide +kernel
theorem dX12_isPair_3 : decode cX12_isPair 3 = .ok (.getfield 13, 3) := by decide +kernel
theorem dX12_isPair_6 : decode cX12_isPair 6 = .ok (.iconst 1, 1) := by decide +kernel
theorem dX12_isPair_7 : decode cX12_isPair 7 = .ok (.iaload, 1) := by decide +kernel
theorem dX12_isPair_8 : decode cX12_isPair 8 = .ok (.iconst 1, 1) := by decide +kernel
theorem dX12_isPair_9 : decode cX12_isPair 9 = .ok (.isub, 1) := by decide +kernel
theorem dX12_isPair_10 : decode cX12_isPair 10 = .ok (.i2l, 1) := by decide +kernel
theorem dX12_isPair_11 : decode cX12_isPair 11 = .ok (.invokestatic 155, 3) := by decide +kernel
theorem dX12_isPair_14 : decode cX12_isPair 14 = .ok (.ireturn, 1) := by decide +kernel
theorem dX12_isSet_0 : decode cX12_isSet 0 = .ok (.iload_n 1, 1) := by decide +kernel
theorem dX12_isSet_1 : decode cX12_isSet 1 = .ok (.ifCond .lt 19, 3) := by decide +kernel
theorem dX12_isSet_4 : decode cX12_isSet 4 = .ok (.iload_n 1, 1) := by decide +kernel
theorem dX12_isSet_5 : decode cX12_isSet 5 = .ok (.iconst 1, 1) := by decide +kernel
theorem dX12_isSet_6 : decode cX12_isSet 6 = .ok (.aload_n 0, 1) := by decide +kernel
theorem dX12_isSet_7 : decode cX12_isSet 7 = .ok (.getfield 13, 3) := by decide +kernel
theorem dX12_isSet_10 : decode cX12_isSet 10 = .ok (.iconst 1, 1) := by decide +kernel
theorem dX12_isSet_11 : decode cX12_isSet 11 = .ok (.iaload, 1) := by decide +kernel
theorem dX12_isSet_12 : decode cX12_isSet 12 = .ok (.ishl, 1) := by decide +kernel
theorem dX12_isSet_13 : decode cX12_isSet 13 = .ok (.if_icmp .ge 7, 3) := by decide +kernel
theorem dX12_isSet_16 : decode cX12_isSet 16 = .ok (.iconst 1, 1) := by decide +kernel
theorem dX12_isSet_17 : decode cX12_isSet 17 = .ok (.goto 4, 3) := by decide +kernel
theorem dX12_isSet_20 : decode cX12_isSet 20 = .ok (.iconst 0, 1) := by decide +kernel
theorem dX12_isSet_21 : decode cX12_isSet 21 = .ok (.ireturn, 1) := by decide +kernel
theorem dX12_isDry_0 : decode cX12_isDry 0 = .ok (.lload_n 0, 1) := by decide +kernel
theorem dX12_isDry_1 : decode cX12_isDry 1 = .ok (.lconst 0, 1) := by decide +kernel
theorem dX12_isDry_2 : decode cX12_isDry 2 = .ok (.lconst 1, 1) := by decide +kernel
theorem dX12_isDry_3 : decode cX12_isDry 3 = .ok (.invokestatic 155, 3) := by decide +kernel
theorem dX12_isDry_6 : decode cX12_isDry 6 = .ok (.ireturn, 1) := by decide +kernel
theorem dX12_bitsOf_0 : decode cX12_bitsOf 0 = .ok (.iconst 0, 1) := by decide +kernel
theorem dX12_bitsOf_1 : decode cX12_bitsOf 1 = .ok (.istore_n 1, 1) := by decide +kernel
theorem dX12_bitsOf_2 : decode cX12_bitsOf 2 = .ok (.iconst 0, 1) := by decide +kernel
theorem dX12_bitsOf_3 : decode cX12_bitsOf 3 = .ok (.istore_n 2, 1) := by decide +kernel
theorem dX12_bitsOf_4 : decode cX12_bitsOf 4 = .ok (.iload_n 2, 1) := by decide +kernel
theorem dX12_bitsOf_5 : decode cX12_bitsOf 5 = .ok (.bipush 10, 2) := by decide +kernel
theorem dX12_bitsOf_7 : decode cX12_bitsOf 7 = .ok (.if_icmp .ge 17, 3) := by decide +kernel
theorem dX12_bitsOf_10 : decode cX12_bitsOf 10 = .ok (.iload_n 1, 1) := by decide +kernel
theorem dX12_bitsOf_11 : decode cX12_bitsOf 11 = .ok (.iload_n 0, 1) := by decide +kernel
theorem dX12_bitsOf_12 : decode cX12_bitsOf 12 = .ok (.iload_n 2, 1) := by decide +kernel
theorem dX12_bitsOf_13 : decode cX12_bitsOf 13 = .ok (.ishr, 1) := by decide +kernel
theorem dX12_bitsOf_14 : decode cX12_bitsOf 14 = .ok (.iconst 1, 1) := by decide +kernel
theorem dX12_bitsOf_15 : decode cX12_bitsOf 15 = .ok (.iand, 1) := by decide +kernel
theorem dX12_bitsOf_16 : decode cX12_bitsOf 16 = .ok (.iadd, 1) := by decide +kernel
theorem dX12_bitsOf_17 : decode cX12_bitsOf 17 = .ok (.istore_n 1, 1) := by decide +kernel
theorem dX12_bitsOf_18 : decode cX12_bitsOf 18 = .ok (.iinc 2 1, 3) := by decide +kernel
theorem dX12_bitsOf_21 : decode cX12_bitsOf 21 = .ok (.goto (-17), 3) := by decide +kernel
theorem dX12_bitsOf_24 : decode cX12_bitsOf 24 = .ok (.iload_n 1, 1) := by decide +kernel
theorem dX12_bitsOf_25 : decode cX12_bitsOf 25 = .ok (.ireturn, 1) := by decide +kernel
theorem dX12_gapIn_0 : decode cX12_gapIn 0 = .ok (.iload_n 0, 1) := by decide +kernel
theorem dX12_gapIn_1 : decode cX12_gapIn 1 = .ok (.istore_n 2, 1) := by decide +kernel
theorem dX12_gapIn_2 : decode cX12_gapIn 2 = .ok (.iconst 0, 1) := by decide +kernel
theorem dX12_gapIn_3 : decode cX12_gapIn 3 = .ok (.istore_n 3, 1) := by decide +kernel
theorem dX12_gapIn_4 : decode cX12_gapIn 4 = .ok (.iload_n 3, 1) := by decide +kernel
theorem dX12_gapIn_5 : decode cX12_gapIn 5 = .ok (.iload_n 1, 1) := by decide +kernel
theorem dX12_gapIn_6 : decode cX12_gapIn 6 = .ok (.if_icmp .ge 14, 3) := by decide +kernel
theorem dX12_gapIn_9 : decode cX12_gapIn 9 = .ok (.iload_n 2, 1) := by decide +kernel
theorem dX12_gapIn_10 : decode cX12_gapIn 10 = .ok (.bipush 10, 2) := by decide +kernel
theorem dX12_gapIn_12 : decode cX12_gapIn 12 = .ok (.idiv, 1) := by decide +kernel
theorem dX12_gapIn_13 : decode cX12_gapIn 13 = .ok (.istore_n 2, 1) := by decide +kernel
theorem dX12_gapIn_14 : decode cX12_gapIn 14 = .ok (.iinc 3 1, 3) := by decide +kernel
theorem dX12_gapIn_17 : decode cX12_gapIn 17 = .ok (.goto (-13), 3) := by decide +kernel
theorem dX12_gapIn_20 : decode cX12_gapIn 20 = .ok (.iload_n 2, 1) := by decide +kernel
theorem dX12_gapIn_21 : decode cX12_gapIn 21 = .ok (.bipush 10, 2) := by decide +kernel
theorem dX12_gapIn_23 : decode cX12_gapIn 23 = .ok (.irem, 1) := by decide +kernel
theorem dX12_gapIn_24 : decode cX12_gapIn 24 = .ok (.ireturn, 1) := by decide +kernel
theorem dX12_dropsIn_0 : decode cX12_dropsIn 0 = .ok (.iload_n 0, 1) := by decide +kernel
theorem dX12_dropsIn_1 : decode cX12_dropsIn 1 = .ok (.istore_n 2, 1) := by decide +kernel
theorem dX12_dropsIn_2 : decode cX12_dropsIn 2 = .ok (.iconst 0, 1) := by decide +kernel
theorem dX12_dropsIn_3 : decode cX12_dropsIn 3 = .ok (.istore_n 3, 1) := by decide +kernel
theorem dX12_dropsIn_4 : decode cX12_dropsIn 4 = .ok (.iload_n 3, 1) := by decide +kernel
theorem dX12_dropsIn_5 : decode cX12_dropsIn 5 = .ok (.iload_n 1, 1) := by decide +kernel
theorem dX12_dropsIn_6 : decode cX12_dropsIn 6 = .ok (.if_icmp .ge 13, 3) := by decide +kernel
theorem dX12_dropsIn_9 : decode cX12_dropsIn 9 = .ok (.iload_n 2, 1) := by decide +kernel
theorem dX12_dropsIn_10 : decode cX12_dropsIn 10 = .ok (.iconst 5, 1) := by decide +kernel
theorem dX12_dropsIn_11 : decode cX12_dropsIn 11 = .ok (.idiv, 1) := by decide +kernel
theorem dX12_dropsIn_12 : decode cX12_dropsIn 12 = .ok (.istore_n 2, 1) := by decide +kernel
theorem dX12_dropsIn_13 : decode cX12_dropsIn 13 = .ok (.iinc 3 1, 3) := by decide +kernel
theorem dX12_dropsIn_16 : decode cX12_dropsIn 16 = .ok (.goto (-12), 3) := by decide +kernel
theorem dX12_dropsIn_19 : decode cX12_dropsIn 19 = .ok (.iload_n 2, 1) := by decide +kernel
theorem dX12_dropsIn_20 : decode cX12_dropsIn 20 = .ok (.iconst 5, 1) := by decide +kernel
theorem dX12_dropsIn_21 : decode cX12_dropsIn 21 = .ok (.irem, 1) := by decide +kernel
theorem dX12_dropsIn_22 : decode cX12_dropsIn 22 = .ok (.ireturn, 1) := by decide +kernel
theorem dX12_hasFallen_0 : decode cX12_hasFallen 0 = .ok (.iload_n 0, 1) := by decide +kernel
theorem dX12_hasFallen_1 : decode cX12_hasFallen 1 = .ok (.sipush 10000, 3) := by decide +kernel
theorem dX12_hasFallen_4 : decode cX12_hasFallen 4 = .ok (.if_icmp .lt 7, 3) := by decide +kernel
theorem dX12_hasFallen_7 : decode cX12_hasFallen 7 = .ok (.iconst 1, 1) := by decide +kernel
theorem dX12_hasFallen_8 : decode cX12_hasFallen 8 = .ok (.goto 4, 3) := by decide +kernel
theorem dX12_hasFallen_11 : decode cX12_hasFallen 11 = .ok (.iconst 0, 1) := by decide +kernel
theorem dX12_hasFallen_12 : decode cX12_hasFallen 12 = .ok (.ireturn, 1) := by decide +kernel
theorem dX12_standNow_0 : decode cX12_standNow 0 = .ok (.aload_n 0, 1) := by decide +kernel
theorem dX12_standNow_1 : decode cX12_standNow 1 = .ok (.getfield 13, 3) := by decide +kernel
theorem dX12_standNow_4 : decode cX12_standNow 4 = .ok (.bipush 24, 2) := by decide +kernel
theorem dX12_standNow_6 : decode cX12_standNow 6 = .ok (.iaload, 1) := by decide +kernel
theorem dX12_standNow_7 : decode cX12_standNow 7 = .ok (.sipush 10000, 3) := by decide +kernel
theorem dX12_standNow_10 : decode cX12_standNow 10 = .ok (.imul, 1) := by decide +kernel
theorem dX12_standNow_11 : decode cX12_standNow 11 = .ok (.istore_n 1, 1) := by decide +kernel
theorem dX12_standNow_12 : decode cX12_standNow 12 = .ok (.iconst 1, 1) := by decide +kernel
theorem dX12_standNow_13 : decode cX12_standNow 13 = .ok (.istore_n 2, 1) := by decide +kernel
theorem dX12_standNow_14 : decode cX12_standNow 14 = .ok (.iconst 0, 1) := by decide +kernel
theorem dX12_standNow_15 : decode cX12_standNow 15 = .ok (.istore_n 3, 1) := by decide +kernel
theorem dX12_standNow_16 : decode cX12_standNow 16 = .ok (.iload_n 3, 1) := by decide +kernel
theorem dX12_standNow_17 : decode cX12_standNow 17 = .ok (.aload_n 0, 1) := by decide +kernel
theorem dX12_standNow_18 : decode cX12_standNow 18 = .ok (.getfield 13, 3) := by decide +kernel
theorem dX12_standNow_21 : decode cX12_standNow 21 = .ok (.iconst 1, 1) := by decide +kernel
theorem dX12_standNow_22 : decode cX12_standNow 22 = .ok (.iaload, 1) := by decide +kernel
theorem dX12_standNow_23 : decode cX12_standNow 23 = .ok (.if_icmp .ge 28, 3) := by decide +kernel
theorem dX12_standNow_26 : decode cX12_standNow 26 = .ok (.iload_n 1, 1) := by decide +kernel
theorem dX12_standNow_27 : decode cX12_standNow 27 = .ok (.iload_n 2, 1) := by decide +kernel
theorem dX12_standNow_28 : decode cX12_standNow 28 = .ok (.aload_n 0, 1) := by decide +kernel
theorem dX12_standNow_29 : decode cX12_standNow 29 = .ok (.getfield 13, 3) := by decide +kernel
theorem dX12_standNow_32 : decode cX12_standNow 32 = .ok (.bipush 15, 2) := by decide +kernel
theorem dX12_standNow_34 : decode cX12_standNow 34 = .ok (.iload_n 3, 1) := by decide +kernel
theorem dX12_standNow_35 : decode cX12_standNow 35 = .ok (.iadd, 1) := by decide +kernel
theorem dX12_standNow_36 : decode cX12_standNow 36 = .ok (.iaload, 1) := by decide +kernel
theorem dX12_standNow_37 : decode cX12_standNow 37 = .ok (.imul, 1) := by decide +kernel
theorem dX12_standNow_38 : decode cX12_standNow 38 = .ok (.iadd, 1) := by decide +kernel
theorem dX12_standNow_39 : decode cX12_standNow 39 = .ok (.istore_n 1, 1) := by decide +kernel
theorem dX12_standNow_40 : decode cX12_standNow 40 = .ok (.iload_n 2, 1) := by decide +kernel
theorem dX12_standNow_41 : decode cX12_standNow 41 = .ok (.bipush 10, 2) := by decide +kernel
theorem dX12_standNow_43 : decode cX12_standNow 43 = .ok (.imul, 1) := by decide +kernel
theorem dX12_standNow_44 : decode cX12_standNow 44 = .ok (.istore_n 2, 1) := by decide +kernel
theorem dX12_standNow_45 : decode cX12_standNow 45 = .ok (.iinc 3 1, 3) := by decide +kernel
theorem dX12_standNow_48 : decode cX12_standNow 48 = .ok (.goto (-32), 3) := by decide +kernel
theorem dX12_standNow_51 : decode cX12_standNow 51 = .ok (.iload_n 1, 1) := by decide +kernel
theorem dX12_standNow_52 : decode cX12_standNow 52 = .ok (.ireturn, 1) := by decide +kernel
theorem dX12_metIn_0 : decode cX12_metIn 0 = .ok (.iconst 0, 1) := by decide +kernel
theorem dX12_metIn_1 : decode cX12_metIn 1 = .ok (.istore_n 2, 1) := by decide +kernel
theorem dX12_metIn_2 : decode cX12_metIn 2 = .ok (.iconst 0, 1) := by decide +kernel
theorem dX12_metIn_3 : decode cX12_metIn 3 = .ok (.istore_n 3, 1) := by decide +kernel
theorem dX12_metIn_4 : decode cX12_metIn 4 = .ok (.iload_n 3, 1) := by decide +kernel
theorem dX12_metIn_5 : decode cX12_metIn 5 = .ok (.aload_n 0, 1) := by decide +kernel
theorem dX12_metIn_6 : decode cX12_metIn 6 = .ok (.getfield 13, 3) := by decide +kernel
theorem dX12_metIn_9 : decode cX12_metIn 9 = .ok (.iconst 1, 1) := by decide +kernel
theorem dX12_metIn_10 : decode cX12_metIn 10 = .ok (.iaload, 1) := by decide +kernel
theorem dX12_metIn_11 : decode cX12_metIn 11 = .ok (.if_icmp .ge 27, 3) := by decide +kernel
theorem dX12_metIn_14 : decode cX12_metIn 14 = .ok (.iload_n 2, 1) := by decide +kernel
theorem dX12_metIn_15 : decode cX12_metIn 15 = .ok (.iload_n 1, 1) := by decide +kernel
theorem dX12_metIn_16 : decode cX12_metIn 16 = .ok (.iload_n 3, 1) := by decide +kernel
theorem dX12_metIn_17 : decode cX12_metIn 17 = .ok (.invokestatic 217, 3) := by decide +kernel
theorem dX12_metIn_20 : decode cX12_metIn 20 = .ok (.ifCond .ne 9, 3) := by decide +kernel
theorem dX12_metIn_23 : decode cX12_metIn 23 = .ok (.iconst 1, 1) := by decide +kernel
theorem dX12_metIn_24 : decode cX12_metIn 24 = .ok (.iload_n 3, 1) := by decide +kernel
theorem dX12_metIn_25 : decode cX12_metIn 25 = .ok (.ishl, 1) := by decide +kernel
theorem dX12_metIn_26 : decode cX12_metIn 26 = .ok (.goto 4, 3) := by decide +kernel
theorem dX12_metIn_29 : decode cX12_metIn 29 = .ok (.iconst 0, 1) := by decide +kernel
theorem dX12_metIn_30 : decode cX12_metIn 30 = .ok (.ior, 1) := by decide +kernel
theorem dX12_metIn_31 : decode cX12_metIn 31 = .ok (.istore_n 2, 1) := by decide +kernel
theorem dX12_metIn_32 : decode cX12_metIn 32 = .ok (.iinc 3 1, 3) := by decide +kernel
theorem dX12_metIn_35 : decode cX12_metIn 35 = .ok (.goto (-31), 3) := by decide +kernel
theorem dX12_metIn_38 : decode cX12_metIn 38 = .ok (.iload_n 2, 1) := by decide +kernel
theorem dX12_metIn_39 : decode cX12_metIn 39 = .ok (.ireturn, 1) := by decide +kernel
theorem dX12_gapsIn_0 : decode cX12_gapsIn 0 = .ok (.iconst 0, 1) := by decide +kernel
theorem dX12_gapsIn_1 : decode cX12_gapsIn 1 = .ok (.istore_n 2, 1) := by decide +kernel
theorem dX12_gapsIn_2 : decode cX12_gapsIn 2 = .ok (.iconst 0, 1) := by decide +kernel
theorem dX12_gapsIn_3 : decode cX12_gapsIn 3 = .ok (.istore_n 3, 1) := by decide +kernel
theorem dX12_gapsIn_4 : decode cX12_gapsIn 4 = .ok (.iload_n 3, 1) := by decide +kernel
theorem dX12_gapsIn_5 : decode cX12_gapsIn 5 = .ok (.aload_n 0, 1) := by decide +kernel
theorem dX12_gapsIn_6 : decode cX12_gapsIn 6 = .ok (.getfield 13, 3) := by decide +kernel
theorem dX12_gapsIn_9 : decode cX12_gapsIn 9 = .ok (.iconst 1, 1) := by decide +kernel
theorem dX12_gapsIn_10 : decode cX12_gapsIn 10 = .ok (.iaload, 1) := by decide +kernel
theorem dX12_gapsIn_11 : decode cX12_gapsIn 11 = .ok (.if_icmp .ge 17, 3) := by decide +kernel
theorem dX12_gapsIn_14 : decode cX12_gapsIn 14 = .ok (.iload_n 2, 1) := by decide +kernel
theorem dX12_gapsIn_15 : decode cX12_gapsIn 15 = .ok (.iload_n 1, 1) := by decide +kernel
theorem dX12_gapsIn_16 : decode cX12_gapsIn 16 = .ok (.iload_n 3, 1) := by decide +kernel
theorem dX12_gapsIn_17 : decode cX12_gapsIn 17 = .ok (.invokestatic 217, 3) := by decide +kernel
theorem dX12_gapsIn_20 : decode cX12_gapsIn 20 = .ok (.iadd, 1) := by decide +kernel
theorem dX12_gapsIn_21 : decode cX12_gapsIn 21 = .ok (.istore_n 2, 1) := by decide +kernel
theorem dX12_gapsIn_22 : decode cX12_gapsIn 22 = .ok (.iinc 3 1, 3) := by decide +kernel
theorem dX12_gapsIn_25 : decode cX12_gapsIn 25 = .ok (.goto (-21), 3) := by decide +kernel
theorem dX12_gapsIn_28 : decode cX12_gapsIn 28 = .ok (.iload_n 2, 1) := by decide +kernel
theorem dX12_gapsIn_29 : decode cX12_gapsIn 29 = .ok (.ireturn, 1) := by decide +kernel
theorem dX12_widestIn_0 : decode cX12_widestIn 0 = .ok (.iconst 0, 1) := by decide +kernel
theorem dX12_widestIn_1 : decode cX12_widestIn 1 = .ok (.istore_n 2, 1) := by decide +kernel
theorem dX12_widestIn_2 : decode cX12_widestIn 2 = .ok (.iconst 0, 1) := by decide +kernel
theorem dX12_widestIn_3 : decode cX12_widestIn 3 = .ok (.istore_n 3, 1) := by decide +kernel
theorem dX12_widestIn_4 : decode cX12_widestIn 4 = .ok (.iload_n 3, 1) := by decide +kernel
theorem dX12_widestIn_5 : decode cX12_widestIn 5 = .ok (.aload_n 0, 1) := by decide +kernel
theorem dX12_widestIn_6 : decode cX12_widestIn 6 = .ok (.getfield 13, 3) := by decide +kernel
theorem dX12_widestIn_9 : decode cX12_widestIn 9 = .ok (.iconst 1, 1) := by decide +kernel
theorem dX12_widestIn_10 : decode cX12_widestIn 10 = .ok (.iaload, 1) := by decide +kernel
theorem dX12_widestIn_11 : decode cX12_widestIn 11 = .ok (.if_icmp .ge 28, 3) := by decide +kernel
theorem dX12_widestIn_14 : decode cX12_widestIn 14 = .ok (.iload_n 1, 1) := by decide +kernel
theorem dX12_widestIn_15 : decode cX12_widestIn 15 = .ok (.iload_n 3, 1) := by decide +kernel
theorem dX12_widestIn_16 : decode cX12_widestIn 16 = .ok (.invokestatic 217, 3) := by decide +kernel
theorem dX12_widestIn_19 : decode cX12_widestIn 19 = .ok (.iload_n 2, 1) := by decide +kernel
theorem dX12_widestIn_20 : decode cX12_widestIn 20 = .ok (.if_icmp .le 11, 3) := by decide +kernel
theorem dX12_widestIn_23 : decode cX12_widestIn 23 = .ok (.iload_n 1, 1) := by decide +kernel
theorem dX12_widestIn_24 : decode cX12_widestIn 24 = .ok (.iload_n 3, 1) := by decide +kernel
theorem dX12_widestIn_25 : decode cX12_widestIn 25 = .ok (.invokestatic 217, 3) := by decide +kernel
theorem dX12_widestIn_28 : decode cX12_widestIn 28 = .ok (.goto 4, 3) := by decide +kernel
theorem dX12_widestIn_31 : decode cX12_widestIn 31 = .ok (.iload_n 2, 1) := by decide +kernel
theorem dX12_widestIn_32 : decode cX12_widestIn 32 = .ok (.istore_n 2, 1) := by decide +kernel
theorem dX12_widestIn_33 : decode cX12_widestIn 33 = .ok (.iinc 3 1, 3) := by decide +kernel
theorem dX12_widestIn_36 : decode cX12_widestIn 36 = .ok (.goto (-32), 3) := by decide +kernel
theorem dX12_widestIn_39 : decode cX12_widestIn 39 = .ok (.iload_n 2, 1) := by decide +kernel
theorem dX12_widestIn_40 : decode cX12_widestIn 40 = .ok (.ireturn, 1) := by decide +kernel
theorem dX12_isLead_0 : decode cX12_isLead 0 = .ok (.lload_n 1, 1) := by decide +kernel
theorem dX12_isLead_1 : decode cX12_isLead 1 = .ok (.lconst 0, 1) := by decide +kernel
theorem dX12_isLead_2 : decode cX12_isLead 2 = .ok (.lcmp, 1) := by decide +kernel
theorem dX12_isLead_3 : decode cX12_isLead 3 = .ok (.ifCond .lt 11, 3) := by decide +kernel
theorem dX12_isLead_6 : decode cX12_isLead 6 = .ok (.lload_n 1, 1) := by decide +kernel
theorem dX12_isLead_7 : decode cX12_isLead 7 = .ok (.ldc2_w 220, 3) := by decide +kernel
theorem dX12_isLead_10 : decode cX12_isLead 10 = .ok (.lcmp, 1) := by decide +kernel
theorem dX12_isLead_11 : decode cX12_isLead 11 = .ok (.ifCond .le 5, 3) := by decide +kernel
theorem dX12_isLead_14 : decode cX12_isLead 14 = .ok (.iconst 0, 1) := by decide +kernel
theorem dX12_isLead_15 : decode cX12_isLead 15 = .ok (.ireturn, 1) := by decide +kernel
theorem dX12_isLead_16 : decode cX12_isLead 16 = .ok (.iconst 0, 1) := by decide +kernel
theorem dX12_isLead_17 : decode cX12_isLead 17 = .ok (.istore_n 3, 1) := by decide +kernel
theorem dX12_isLead_18 : decode cX12_isLead 18 = .ok (.lload_n 1, 1) := by decide +kernel
theorem dX12_isLead_19 : decode cX12_isLead 19 = .ok (.l2i, 1) := by decide +kernel
theorem dX12_isLead_20 : decode cX12_isLead 20 = .ok (.istore 4, 2) := by decide +kernel
theorem dX12_isLead_22 : decode cX12_isLead 22 = .ok (.iconst 0, 1) := by decide +kernel
theorem dX12_isLead_23 : decode cX12_isLead 23 = .ok (.istore 5, 2) := by decide +kernel
theorem dX12_isLead_25 : decode cX12_isLead 25 = .ok (.iload 5, 2) := by decide +kernel
theorem dX12_isLead_27 : decode cX12_isLead 27 = .ok (.aload_n 0, 1) := by decide +kernel
theorem dX12_isLead_28 : decode cX12_isLead 28 = .ok (.getfield 13, 3) := by decide +kernel
theorem dX12_isLead_31 : decode cX12_isLead 31 = .ok (.iconst 1, 1) := by decide +kernel
theorem dX12_isLead_32 : decode cX12_isLead 32 = .ok (.iaload, 1) := by decide +kernel
theorem dX12_isLead_33 : decode cX12_isLead 33 = .ok (.if_icmp .ge 22, 3) := by decide +kernel
theorem dX12_isLead_36 : decode cX12_isLead 36 = .ok (.iload_n 3, 1) := by decide +kernel
theorem dX12_isLead_37 : decode cX12_isLead 37 = .ok (.iload 4, 2) := by decide +kernel
theorem dX12_isLead_39 : decode cX12_isLead 39 = .ok (.iconst 5, 1) := by decide +kernel
theorem dX12_isLead_40 : decode cX12_isLead 40 = .ok (.irem, 1) := by decide +kernel
theorem dX12_isLead_41 : decode cX12_isLead 41 = .ok (.iadd, 1) := by decide +kernel
theorem dX12_isLead_42 : decode cX12_isLead 42 = .ok (.istore_n 3, 1) := by decide +kernel
theorem dX12_isLead_43 : decode cX12_isLead 43 = .ok (.iload 4, 2) := by decide +kernel
theorem dX12_isLead_45 : decode cX12_isLead 45 = .ok (.iconst 5, 1) := by decide +kernel
theorem dX12_isLead_46 : decode cX12_isLead 46 = .ok (.idiv, 1) := by decide +kernel
theorem dX12_isLead_47 : decode cX12_isLead 47 = .ok (.istore 4, 2) := by decide +kernel
theorem dX12_isLead_49 : decode cX12_isLead 49 = .ok (.iinc 5 1, 3) := by decide +kernel
theorem dX12_isLead_52 : decode cX12_isLead 52 = .ok (.goto (-27), 3) := by decide +kernel
theorem dX12_isLead_55 : decode cX12_isLead 55 = .ok (.iload 4, 2) := by decide +kernel
theorem dX12_isLead_57 : decode cX12_isLead 57 = .ok (.ifCond .ne 26, 3) := by decide +kernel
theorem dX12_isLead_60 : decode cX12_isLead 60 = .ok (.aload_n 0, 1) := by decide +kernel
theorem dX12_isLead_61 : decode cX12_isLead 61 = .ok (.getfield 13, 3) := by decide +kernel
theorem dX12_isLead_64 : decode cX12_isLead 64 = .ok (.iconst 1, 1) := by decide +kernel
theorem dX12_isLead_65 : decode cX12_isLead 65 = .ok (.iaload, 1) := by decide +kernel
theorem dX12_isLead_66 : decode cX12_isLead 66 = .ok (.ifCond .eq 13, 3) := by decide +kernel
theorem dX12_isLead_69 : decode cX12_isLead 69 = .ok (.iload_n 3, 1) := by decide +kernel
theorem dX12_isLead_70 : decode cX12_isLead 70 = .ok (.aload_n 0, 1) := by decide +kernel
theorem dX12_isLead_71 : decode cX12_isLead 71 = .ok (.getfield 13, 3) := by decide +kernel
theorem dX12_isLead_74 : decode cX12_isLead 74 = .ok (.iconst 2, 1) := by decide +kernel
theorem dX12_isLead_75 : decode cX12_isLead 75 = .ok (.iaload, 1) := by decide +kernel
theorem dX12_isLead_76 : decode cX12_isLead 76 = .ok (.if_icmp .ne 7, 3) := by decide +kernel
theorem dX12_isLead_79 : decode cX12_isLead 79 = .ok (.iconst 1, 1) := by decide +kernel
theorem dX12_isLead_80 : decode cX12_isLead 80 = .ok (.goto 4, 3) := by decide +kernel
theorem dX12_isLead_83 : decode cX12_isLead 83 = .ok (.iconst 0, 1) := by decide +kernel
theorem dX12_isLead_84 : decode cX12_isLead 84 = .ok (.ireturn, 1) := by decide +kernel
theorem dX12_between_0 : decode cX12_between 0 = .ok (.iload_n 0, 1) := by decide +kernel
theorem dX12_between_1 : decode cX12_between 1 = .ok (.tableswitch 80 3003 3008 #[39, 50, 61, 80, 72, 76], 39) := by decide +kernel
theorem dX12_between_40 : decode cX12_between 40 = .ok (.iload_n 1, 1) := by decide +kernel
theorem dX12_between_41 : decode cX12_between 41 = .ok (.iload_n 2, 1) := by decide +kernel
theorem dX12_between_42 : decode cX12_between 42 = .ok (.if_icmp .ne 7, 3) := by decide +kernel
theorem dX12_between_45 : decode cX12_between 45 = .ok (.iconst 1, 1) := by decide +kernel
theorem dX12_between_46 : decode cX12_between 46 = .ok (.goto 4, 3) := by decide +kernel
theorem dX12_between_49 : decode cX12_between 49 = .ok (.iconst 0, 1) := by decide +kernel
theorem dX12_between_50 : decode cX12_between 50 = .ok (.ireturn, 1) := by decide +kernel
theorem dX12_between_51 : decode cX12_between 51 = .ok (.iload_n 1, 1) := by decide +kernel
theorem dX12_between_52 : decode cX12_between 52 = .ok (.iload_n 2, 1) := by decide +kernel
theorem dX12_between_53 : decode cX12_between 53 = .ok (.if_icmp .ge 7, 3) := by decide +kernel
theorem dX12_between_56 : decode cX12_between 56 = .ok (.iconst 1, 1) := by decide +kernel
theorem dX12_between_57 : decode cX12_between 57 = .ok (.goto 4, 3) := by decide +kernel
theorem dX12_between_60 : decode cX12_between 60 = .ok (.iconst 0, 1) := by decide +kernel
theorem dX12_between_61 : decode cX12_between 61 = .ok (.ireturn, 1) := by decide +kernel
theorem dX12_between_62 : decode cX12_between 62 = .ok (.iload_n 1, 1) := by decide +kernel
theorem dX12_between_63 : decode cX12_between 63 = .ok (.iload_n 2, 1) := by decide +kernel
theorem dX12_between_64 : decode cX12_between 64 = .ok (.if_icmp .le 7, 3) := by decide +kernel
theorem dX12_between_67 : decode cX12_between 67 = .ok (.iconst 1, 1) := by decide +kernel
theorem dX12_between_68 : decode cX12_between 68 = .ok (.goto 4, 3) := by decide +kernel
theorem dX12_between_71 : decode cX12_between 71 = .ok (.iconst 0, 1) := by decide +kernel
theorem dX12_between_72 : decode cX12_between 72 = .ok (.ireturn, 1) := by decide +kernel
theorem dX12_between_73 : decode cX12_between 73 = .ok (.iload_n 1, 1) := by decide +kernel
theorem dX12_between_74 : decode cX12_between 74 = .ok (.iload_n 2, 1) := by decide +kernel
theorem dX12_between_75 : decode cX12_between 75 = .ok (.iand, 1) := by decide +kernel
theorem dX12_between_76 : decode cX12_between 76 = .ok (.ireturn, 1) := by decide +kernel
theorem dX12_between_77 : decode cX12_between 77 = .ok (.iload_n 1, 1) := by decide +kernel
theorem dX12_between_78 : decode cX12_between 78 = .ok (.iload_n 2, 1) := by decide +kernel
theorem dX12_between_79 : decode cX12_between 79 = .ok (.ior, 1) := by decide +kernel
theorem dX12_between_80 : decode cX12_between 80 = .ok (.ireturn, 1) := by decide +kernel
theorem dX12_between_81 : decode cX12_between 81 = .ok (.iload_n 0, 1) := by decide +kernel
theorem dX12_between_82 : decode cX12_between 82 = .ok (.sipush 3000, 3) := by decide +kernel
theorem dX12_between_85 : decode cX12_between 85 = .ok (.if_icmp .ne 11, 3) := by decide +kernel
theorem dX12_between_88 : decode cX12_between 88 = .ok (.iload_n 1, 1) := by decide +kernel
theorem dX12_between_89 : decode cX12_between 89 = .ok (.i2l, 1) := by decide +kernel
theorem dX12_between_90 : decode cX12_between 90 = .ok (.iload_n 2, 1) := by decide +kernel
theorem dX12_between_91 : decode cX12_between 91 = .ok (.i2l, 1) := by decide +kernel
theorem dX12_between_92 : decode cX12_between 92 = .ok (.ladd, 1) := by decide +kernel
theorem dX12_between_93 : decode cX12_between 93 = .ok (.goto 23, 3) := by decide +kernel
theorem dX12_between_96 : decode cX12_between 96 = .ok (.iload_n 0, 1) := by decide +kernel
theorem dX12_between_97 : decode cX12_between 97 = .ok (.sipush 3001, 3) := by decide +kernel
theorem dX12_between_100 : decode cX12_between 100 = .ok (.if_icmp .ne 11, 3) := by decide +kernel
theorem dX12_between_103 : decode cX12_between 103 = .ok (.iload_n 1, 1) := by decide +kernel
theorem dX12_between_104 : decode cX12_between 104 = .ok (.i2l, 1) := by decide +kernel
theorem dX12_between_105 : decode cX12_between 105 = .ok (.iload_n 2, 1) := by decide +kernel
theorem dX12_between_106 : decode cX12_between 106 = .ok (.i2l, 1) := by decide +kernel
theorem dX12_between_107 : decode cX12_between 107 = .ok (.lsub, 1) := by decide +kernel
theorem dX12_between_108 : decode cX12_between 108 = .ok (.goto 8, 3) := by decide +kernel
theorem dX12_between_111 : decode cX12_between 111 = .ok (.iload_n 1, 1) := by decide +kernel
theorem dX12_between_112 : decode cX12_between 112 = .ok (.i2l, 1) := by decide +kernel
theorem dX12_between_113 : decode cX12_between 113 = .ok (.iload_n 2, 1) := by decide +kernel
theorem dX12_between_114 : decode cX12_between 114 = .ok (.i2l, 1) := by decide +kernel
theorem dX12_between_115 : decode cX12_between 115 = .ok (.lmul, 1) := by decide +kernel
theorem dX12_between_116 : decode cX12_between 116 = .ok (.lstore_n 3, 1) := by decide +kernel
theorem dX12_between_117 : decode cX12_between 117 = .ok (.lload_n 3, 1) := by decide +kernel
theorem dX12_between_118 : decode cX12_between 118 = .ok (.ldc2_w 222, 3) := by decide +kernel
theorem dX12_between_121 : decode cX12_between 121 = .ok (.lcmp, 1) := by decide +kernel
theorem dX12_between_122 : decode cX12_between 122 = .ok (.ifCond .le 9, 3) := by decide +kernel
theorem dX12_between_125 : decode cX12_between 125 = .ok (.ldc2_w 222, 3) := by decide +kernel
theorem dX12_between_128 : decode cX12_between 128 = .ok (.goto 18, 3) := by decide +kernel
theorem dX12_between_131 : decode cX12_between 131 = .ok (.lload_n 3, 1) := by decide +kernel
theorem dX12_between_132 : decode cX12_between 132 = .ok (.ldc2_w 224, 3) := by decide +kernel
theorem dX12_between_135 : decode cX12_between 135 = .ok (.lcmp, 1) := by decide +kernel
theorem dX12_between_136 : decode cX12_between 136 = .ok (.ifCond .ge 9, 3) := by decide +kernel
theorem dX12_between_139 : decode cX12_between 139 = .ok (.ldc2_w 224, 3) := by decide +kernel
theorem dX12_between_142 : decode cX12_between 142 = .ok (.goto 4, 3) := by decide +kernel
theorem dX12_between_145 : decode cX12_between 145 = .ok (.lload_n 3, 1) := by decide +kernel
theorem dX12_between_146 : decode cX12_between 146 = .ok (.l2i, 1) := by decide +kernel
theorem dX12_between_147 : decode cX12_between 147 = .ok (.ireturn, 1) := by decide +kernel
theorem dX12_reckons_0 : decode cX12_reckons 0 = .ok (.iconst 0, 1) := by decide +kernel
theorem dX12_reckons_1 : decode cX12_reckons 1 = .ok (.istore_n 2, 1) := by decide +kernel
theorem dX12_reckons_2 : decode cX12_reckons 2 = .ok (.iconst 0, 1) := by decide +kernel
theorem dX12_reckons_3 : decode cX12_reckons 3 = .ok (.istore_n 3, 1) := by decide +kernel
theorem dX12_reckons_4 : decode cX12_reckons 4 = .ok (.iload_n 3, 1) := by decide +kernel
theorem dX12_reckons_5 : decode cX12_reckons 5 = .ok (.aload_n 0, 1) := by decide +kernel
theorem dX12_reckons_6 : decode cX12_reckons 6 = .ok (.getfield 13, 3) := by decide +kernel
theorem dX12_reckons_9 : decode cX12_reckons 9 = .ok (.bipush 9, 2) := by decide +kernel
theorem dX12_reckons_11 : decode cX12_reckons 11 = .ok (.iload_n 1, 1) := by decide +kernel
theorem dX12_reckons_12 : decode cX12_reckons 12 = .ok (.iadd, 1) := by decide +kernel
theorem dX12_reckons_13 : decode cX12_reckons 13 = .ok (.iaload, 1) := by decide +kernel
theorem dX12_reckons_14 : decode cX12_reckons 14 = .ok (.if_icmp .ge 185, 3) := by decide +kernel
theorem dX12_reckons_17 : decode cX12_reckons 17 = .ok (.aload_n 0, 1) := by decide +kernel
theorem dX12_reckons_18 : decode cX12_reckons 18 = .ok (.getfield 13, 3) := by decide +kernel
theorem dX12_reckons_21 : decode cX12_reckons 21 = .ok (.sipush 138, 3) := by decide +kernel
theorem dX12_reckons_24 : decode cX12_reckons 24 = .ok (.aload_n 0, 1) := by decide +kernel
theorem dX12_reckons_25 : decode cX12_reckons 25 = .ok (.getfield 13, 3) := by decide +kernel
theorem dX12_reckons_28 : decode cX12_reckons 28 = .ok (.bipush 7, 2) := by decide +kernel
theorem dX12_reckons_30 : decode cX12_reckons 30 = .ok (.iload_n 1, 1) := by decide +kernel
theorem dX12_reckons_31 : decode cX12_reckons 31 = .ok (.iadd, 1) := by decide +kernel
theorem dX12_reckons_32 : decode cX12_reckons 32 = .ok (.iaload, 1) := by decide +kernel
theorem dX12_reckons_33 : decode cX12_reckons 33 = .ok (.iadd, 1) := by decide +kernel
theorem dX12_reckons_34 : decode cX12_reckons 34 = .ok (.iload_n 3, 1) := by decide +kernel
theorem dX12_reckons_35 : decode cX12_reckons 35 = .ok (.iadd, 1) := by decide +kernel
theorem dX12_reckons_36 : decode cX12_reckons 36 = .ok (.iaload, 1) := by decide +kernel
theorem dX12_reckons_37 : decode cX12_reckons 37 = .ok (.istore 4, 2) := by decide +kernel
theorem dX12_reckons_39 : decode cX12_reckons 39 = .ok (.iload 4, 2) := by decide +kernel
theorem dX12_reckons_41 : decode cX12_reckons 41 = .ok (.sipush 3000, 3) := by decide +kernel
theorem dX12_reckons_44 : decode cX12_reckons 44 = .ok (.if_icmp .ge 39, 3) := by decide +kernel
theorem dX12_reckons_47 : decode cX12_reckons 47 = .ok (.aload_n 0, 1) := by decide +kernel
theorem dX12_reckons_48 : decode cX12_reckons 48 = .ok (.getfield 30, 3) := by decide +kernel
theorem dX12_reckons_51 : decode cX12_reckons 51 = .ok (.iload_n 2, 1) := by decide +kernel
theorem dX12_reckons_52 : decode cX12_reckons 52 = .ok (.iload 4, 2) := by decide +kernel
theorem dX12_reckons_54 : decode cX12_reckons 54 = .ok (.sipush 1000, 3) := by decide +kernel
theorem dX12_reckons_57 : decode cX12_reckons 57 = .ok (.if_icmp .ge 8, 3) := by decide +kernel
theorem dX12_reckons_60 : decode cX12_reckons 60 = .ok (.iload 4, 2) := by decide +kernel
theorem dX12_reckons_62 : decode cX12_reckons 62 = .ok (.goto 14, 3) := by decide +kernel
theorem dX12_reckons_65 : decode cX12_reckons 65 = .ok (.aload_n 0, 1) := by decide +kernel
theorem dX12_reckons_66 : decode cX12_reckons 66 = .ok (.getfield 33, 3) := by decide +kernel
theorem dX12_reckons_69 : decode cX12_reckons 69 = .ok (.iload 4, 2) := by decide +kernel
theorem dX12_reckons_71 : decode cX12_reckons 71 = .ok (.sipush 1000, 3) := by decide +kernel
theorem dX12_reckons_74 : decode cX12_reckons 74 = .ok (.isub, 1) := by decide +kernel
theorem dX12_reckons_75 : decode cX12_reckons 75 = .ok (.iaload, 1) := by decide +kernel
theorem dX12_reckons_76 : decode cX12_reckons 76 = .ok (.iastore, 1) := by decide +kernel
theorem dX12_reckons_77 : decode cX12_reckons 77 = .ok (.iinc 2 1, 3) := by decide +kernel
theorem dX12_reckons_80 : decode cX12_reckons 80 = .ok (.goto 113, 3) := by decide +kernel
theorem dX12_reckons_83 : decode cX12_reckons 83 = .ok (.iload 4, 2) := by decide +kernel
theorem dX12_reckons_85 : decode cX12_reckons 85 = .ok (.sipush 3006, 3) := by decide +kernel
theorem dX12_reckons_88 : decode cX12_reckons 88 = .ok (.if_icmp .ne 24, 3) := by decide +kernel
theorem dX12_reckons_91 : decode cX12_reckons 91 = .ok (.aload_n 0, 1) := by decide +kernel
theorem dX12_reckons_92 : decode cX12_reckons 92 = .ok (.getfield 30, 3) := by decide +kernel
theorem dX12_reckons_95 : decode cX12_reckons 95 = .ok (.iload_n 2, 1) := by decide +kernel
theorem dX12_reckons_96 : decode cX12_reckons 96 = .ok (.iconst 1, 1) := by decide +kernel
theorem dX12_reckons_97 : decode cX12_reckons 97 = .ok (.isub, 1) := by decide +kernel
theorem dX12_reckons_98 : decode cX12_reckons 98 = .ok (.iconst 1, 1) := by decide +kernel
theorem dX12_reckons_99 : decode cX12_reckons 99 = .ok (.aload_n 0, 1) := by decide +kernel
theorem dX12_reckons_100 : decode cX12_reckons 100 = .ok (.getfield 30, 3) := by decide +kernel
theorem dX12_reckons_103 : decode cX12_reckons 103 = .ok (.iload_n 2, 1) := by decide +kernel
theorem dX12_reckons_104 : decode cX12_reckons 104 = .ok (.iconst 1, 1) := by decide +kernel
theorem dX12_reckons_105 : decode cX12_reckons 105 = .ok (.isub, 1) := by decide +kernel
theorem dX12_reckons_106 : decode cX12_reckons 106 = .ok (.iaload, 1) := by decide +kernel
theorem dX12_reckons_107 : decode cX12_reckons 107 = .ok (.isub, 1) := by decide +kernel
theorem dX12_reckons_108 : decode cX12_reckons 108 = .ok (.iastore, 1) := by decide +kernel
theorem dX12_reckons_109 : decode cX12_reckons 109 = .ok (.goto 84, 3) := by decide +kernel
theorem dX12_reckons_112 : decode cX12_reckons 112 = .ok (.iload 4, 2) := by decide +kernel
theorem dX12_reckons_114 : decode cX12_reckons 114 = .ok (.sipush 3009, 3) := by decide +kernel
theorem dX12_reckons_117 : decode cX12_reckons 117 = .ok (.if_icmp .ne 46, 3) := by decide +kernel
theorem dX12_reckons_120 : decode cX12_reckons 120 = .ok (.iinc 2 (-2), 3) := by decide +kernel
theorem dX12_reckons_123 : decode cX12_reckons 123 = .ok (.aload_n 0, 1) := by decide +kernel
theorem dX12_reckons_124 : decode cX12_reckons 124 = .ok (.getfield 30, 3) := by decide +kernel
theorem dX12_reckons_127 : decode cX12_reckons 127 = .ok (.iload_n 2, 1) := by decide +kernel
theorem dX12_reckons_128 : decode cX12_reckons 128 = .ok (.iconst 1, 1) := by decide +kernel
theorem dX12_reckons_129 : decode cX12_reckons 129 = .ok (.isub, 1) := by decide +kernel
theorem dX12_reckons_130 : decode cX12_reckons 130 = .ok (.aload_n 0, 1) := by decide +kernel
theorem dX12_reckons_131 : decode cX12_reckons 131 = .ok (.getfield 30, 3) := by decide +kernel
theorem dX12_reckons_134 : decode cX12_reckons 134 = .ok (.iload_n 2, 1) := by decide +kernel
theorem dX12_reckons_135 : decode cX12_reckons 135 = .ok (.iconst 1, 1) := by decide +kernel
theorem dX12_reckons_136 : decode cX12_reckons 136 = .ok (.isub, 1) := by decide +kernel
theorem dX12_reckons_137 : decode cX12_reckons 137 = .ok (.iaload, 1) := by decide +kernel
theorem dX12_reckons_138 : decode cX12_reckons 138 = .ok (.iconst 1, 1) := by decide +kernel
theorem dX12_reckons_139 : decode cX12_reckons 139 = .ok (.if_icmp .ne 12, 3) := by decide +kernel
theorem dX12_reckons_142 : decode cX12_reckons 142 = .ok (.aload_n 0, 1) := by decide +kernel
theorem dX12_reckons_143 : decode cX12_reckons 143 = .ok (.getfield 30, 3) := by decide +kernel
theorem dX12_reckons_146 : decode cX12_reckons 146 = .ok (.iload_n 2, 1) := by decide +kernel
theorem dX12_reckons_147 : decode cX12_reckons 147 = .ok (.iaload, 1) := by decide +kernel
theorem dX12_reckons_148 : decode cX12_reckons 148 = .ok (.goto 11, 3) := by decide +kernel
theorem dX12_reckons_151 : decode cX12_reckons 151 = .ok (.aload_n 0, 1) := by decide +kernel
theorem dX12_reckons_152 : decode cX12_reckons 152 = .ok (.getfield 30, 3) := by decide +kernel
theorem dX12_reckons_155 : decode cX12_reckons 155 = .ok (.iload_n 2, 1) := by decide +kernel
theorem dX12_reckons_156 : decode cX12_reckons 156 = .ok (.iconst 1, 1) := by decide +kernel
theorem dX12_reckons_157 : decode cX12_reckons 157 = .ok (.iadd, 1) := by decide +kernel
theorem dX12_reckons_158 : decode cX12_reckons 158 = .ok (.iaload, 1) := by decide +kernel
theorem dX12_reckons_159 : decode cX12_reckons 159 = .ok (.iastore, 1) := by decide +kernel
theorem dX12_reckons_160 : decode cX12_reckons 160 = .ok (.goto 33, 3) := by decide +kernel
theorem dX12_reckons_163 : decode cX12_reckons 163 = .ok (.iinc 2 (-1), 3) := by decide +kernel
theorem dX12_reckons_166 : decode cX12_reckons 166 = .ok (.aload_n 0, 1) := by decide +kernel
theorem dX12_reckons_167 : decode cX12_reckons 167 = .ok (.getfield 30, 3) := by decide +kernel
theorem dX12_reckons_170 : decode cX12_reckons 170 = .ok (.iload_n 2, 1) := by decide +kernel
theorem dX12_reckons_171 : decode cX12_reckons 171 = .ok (.iconst 1, 1) := by decide +kernel
theorem dX12_reckons_172 : decode cX12_reckons 172 = .ok (.isub, 1) := by decide +kernel
theorem dX12_reckons_173 : decode cX12_reckons 173 = .ok (.iload 4, 2) := by decide +kernel
theorem dX12_reckons_175 : decode cX12_reckons 175 = .ok (.aload_n 0, 1) := by decide +kernel
theorem dX12_reckons_176 : decode cX12_reckons 176 = .ok (.getfield 30, 3) := by decide +kernel
theorem dX12_reckons_179 : decode cX12_reckons 179 = .ok (.iload_n 2, 1) := by decide +kernel
theorem dX12_reckons_180 : decode cX12_reckons 180 = .ok (.iconst 1, 1) := by decide +kernel
theorem dX12_reckons_181 : decode cX12_reckons 181 = .ok (.isub, 1) := by decide +kernel
theorem dX12_reckons_182 : decode cX12_reckons 182 = .ok (.iaload, 1) := by decide +kernel
theorem dX12_reckons_183 : decode cX12_reckons 183 = .ok (.aload_n 0, 1) := by decide +kernel
theorem dX12_reckons_184 : decode cX12_reckons 184 = .ok (.getfield 30, 3) := by decide +kernel
theorem dX12_reckons_187 : decode cX12_reckons 187 = .ok (.iload_n 2, 1) := by decide +kernel
theorem dX12_reckons_188 : decode cX12_reckons 188 = .ok (.iaload, 1) := by decide +kernel
theorem dX12_reckons_189 : decode cX12_reckons 189 = .ok (.invokestatic 226, 3) := by decide +kernel
theorem dX12_reckons_192 : decode cX12_reckons 192 = .ok (.iastore, 1) := by decide +kernel
theorem dX12_reckons_193 : decode cX12_reckons 193 = .ok (.iinc 3 1, 3) := by decide +kernel
theorem dX12_reckons_196 : decode cX12_reckons 196 = .ok (.goto (-192), 3) := by decide +kernel
theorem dX12_reckons_199 : decode cX12_reckons 199 = .ok (.aload_n 0, 1) := by decide +kernel
theorem dX12_reckons_200 : decode cX12_reckons 200 = .ok (.getfield 30, 3) := by decide +kernel
theorem dX12_reckons_203 : decode cX12_reckons 203 = .ok (.iconst 0, 1) := by decide +kernel
theorem dX12_reckons_204 : decode cX12_reckons 204 = .ok (.iaload, 1) := by decide +kernel
theorem dX12_reckons_205 : decode cX12_reckons 205 = .ok (.ireturn, 1) := by decide +kernel
theorem dX12_growsBy_0 : decode cX12_growsBy 0 = .ok (.aload_n 0, 1) := by decide +kernel
theorem dX12_growsBy_1 : decode cX12_growsBy 1 = .ok (.getfield 13, 3) := by decide +kernel
theorem dX12_growsBy_4 : decode cX12_growsBy 4 = .ok (.iconst 5, 1) := by decide +kernel
theorem dX12_growsBy_5 : decode cX12_growsBy 5 = .ok (.iaload, 1) := by decide +kernel
theorem dX12_growsBy_6 : decode cX12_growsBy 6 = .ok (.ifCond .ne 15, 3) := by decide +kernel
theorem dX12_growsBy_9 : decode cX12_growsBy 9 = .ok (.iload 6, 2) := by decide +kernel
theorem dX12_growsBy_11 : decode cX12_growsBy 11 = .ok (.iconst 1, 1) := by decide +kernel
theorem dX12_growsBy_12 : decode cX12_growsBy 12 = .ok (.if_icmp .ne 7, 3) := by decide +kernel
theorem dX12_growsBy_15 : decode cX12_growsBy 15 = .ok (.iconst 0, 1) := by decide +kernel
theorem dX12_growsBy_16 : decode cX12_growsBy 16 = .ok (.goto 4, 3) := by decide +kernel
theorem dX12_growsBy_19 : decode cX12_growsBy 19 = .ok (.iload_n 3, 1) := by decide +kernel
theorem dX12_growsBy_20 : decode cX12_growsBy 20 = .ok (.ireturn, 1) := by decide +kernel
theorem dX12_growsBy_21 : decode cX12_growsBy 21 = .ok (.aload_n 0, 1) := by decide +kernel
theorem dX12_growsBy_22 : decode cX12_growsBy 22 = .ok (.getfield 33, 3) := by decide +kernel
theorem dX12_growsBy_25 : decode cX12_growsBy 25 = .ok (.iconst 0, 1) := by decide +kernel
theorem dX12_growsBy_26 : decode cX12_growsBy 26 = .ok (.iload 5, 2) := by decide +kernel
theorem dX12_growsBy_28 : decode cX12_growsBy 28 = .ok (.iastore, 1) := by decide +kernel
theorem dX12_growsBy_29 : decode cX12_growsBy 29 = .ok (.aload_n 0, 1) := by decide +kernel
theorem dX12_growsBy_30 : decode cX12_growsBy 30 = .ok (.getfield 33, 3) := by decide +kernel
theorem dX12_growsBy_33 : decode cX12_growsBy 33 = .ok (.iconst 1, 1) := by decide +kernel
theorem dX12_growsBy_34 : decode cX12_growsBy 34 = .ok (.iload 6, 2) := by decide +kernel
theorem dX12_growsBy_36 : decode cX12_growsBy 36 = .ok (.iastore, 1) := by decide +kernel
theorem dX12_growsBy_37 : decode cX12_growsBy 37 = .ok (.aload_n 0, 1) := by decide +kernel
theorem dX12_growsBy_38 : decode cX12_growsBy 38 = .ok (.getfield 33, 3) := by decide +kernel
theorem dX12_growsBy_41 : decode cX12_growsBy 41 = .ok (.iconst 2, 1) := by decide +kernel
theorem dX12_growsBy_42 : decode cX12_growsBy 42 = .ok (.iload_n 1, 1) := by decide +kernel
theorem dX12_growsBy_43 : decode cX12_growsBy 43 = .ok (.iastore, 1) := by decide +kernel
theorem dX12_growsBy_44 : decode cX12_growsBy 44 = .ok (.aload_n 0, 1) := by decide +kernel
theorem dX12_growsBy_45 : decode cX12_growsBy 45 = .ok (.getfield 33, 3) := by decide +kernel
theorem dX12_growsBy_48 : decode cX12_growsBy 48 = .ok (.iconst 3, 1) := by decide +kernel
theorem dX12_growsBy_49 : decode cX12_growsBy 49 = .ok (.iload_n 2, 1) := by decide +kernel
theorem dX12_growsBy_50 : decode cX12_growsBy 50 = .ok (.iastore, 1) := by decide +kernel
theorem dX12_growsBy_51 : decode cX12_growsBy 51 = .ok (.aload_n 0, 1) := by decide +kernel
theorem dX12_growsBy_52 : decode cX12_growsBy 52 = .ok (.getfield 33, 3) := by decide +kernel
theorem dX12_growsBy_55 : decode cX12_growsBy 55 = .ok (.iconst 4, 1) := by decide +kernel
theorem dX12_growsBy_56 : decode cX12_growsBy 56 = .ok (.iload_n 3, 1) := by decide +kernel
theorem dX12_growsBy_57 : decode cX12_growsBy 57 = .ok (.iastore, 1) := by decide +kernel
theorem dX12_growsBy_58 : decode cX12_growsBy 58 = .ok (.aload_n 0, 1) := by decide +kernel
theorem dX12_growsBy_59 : decode cX12_growsBy 59 = .ok (.getfield 33, 3) := by decide +kernel
theorem dX12_growsBy_62 : decode cX12_growsBy 62 = .ok (.iconst 5, 1) := by decide +kernel
theorem dX12_growsBy_63 : decode cX12_growsBy 63 = .ok (.iload 4, 2) := by decide +kernel
theorem dX12_growsBy_65 : decode cX12_growsBy 65 = .ok (.iastore, 1) := by decide +kernel
theorem dX12_growsBy_66 : decode cX12_growsBy 66 = .ok (.aload_n 0, 1) := by decide +kernel
theorem dX12_growsBy_67 : decode cX12_growsBy 67 = .ok (.iconst 0, 1) := by decide +kernel
theorem dX12_growsBy_68 : decode cX12_growsBy 68 = .ok (.invokevirtual 230, 3) := by decide +kernel
theorem dX12_growsBy_71 : decode cX12_growsBy 71 = .ok (.istore 7, 2) := by decide +kernel
theorem dX12_growsBy_73 : decode cX12_growsBy 73 = .ok (.iload 7, 2) := by decide +kernel
theorem dX12_growsBy_75 : decode cX12_growsBy 75 = .ok (.bipush (-9), 2) := by decide +kernel
theorem dX12_growsBy_77 : decode cX12_growsBy 77 = .ok (.if_icmp .ge 8, 3) := by decide +kernel
theorem dX12_growsBy_80 : decode cX12_growsBy 80 = .ok (.bipush (-9), 2) := by decide +kernel
theorem dX12_growsBy_82 : decode cX12_growsBy 82 = .ok (.goto 17, 3) := by decide +kernel
theorem dX12_growsBy_85 : decode cX12_growsBy 85 = .ok (.iload 7, 2) := by decide +kernel
theorem dX12_growsBy_87 : decode cX12_growsBy 87 = .ok (.bipush 9, 2) := by decide +kernel
theorem dX12_growsBy_89 : decode cX12_growsBy 89 = .ok (.if_icmp .le 8, 3) := by decide +kernel
theorem dX12_growsBy_92 : decode cX12_growsBy 92 = .ok (.bipush 9, 2) := by decide +kernel
theorem dX12_growsBy_94 : decode cX12_growsBy 94 = .ok (.goto 5, 3) := by decide +kernel
theorem dX12_growsBy_97 : decode cX12_growsBy 97 = .ok (.iload 7, 2) := by decide +kernel
theorem dX12_growsBy_99 : decode cX12_growsBy 99 = .ok (.ireturn, 1) := by decide +kernel
theorem dX12_fallsBy_0 : decode cX12_fallsBy 0 = .ok (.aload_n 0, 1) := by decide +kernel
theorem dX12_fallsBy_1 : decode cX12_fallsBy 1 = .ok (.getfield 13, 3) := by decide +kernel
theorem dX12_fallsBy_4 : decode cX12_fallsBy 4 = .ok (.bipush 6, 2) := by decide +kernel
theorem dX12_fallsBy_6 : decode cX12_fallsBy 6 = .ok (.iaload, 1) := by decide +kernel
theorem dX12_fallsBy_7 : decode cX12_fallsBy 7 = .ok (.ifCond .ne 5, 3) := by decide +kernel
theorem dX12_fallsBy_10 : decode cX12_fallsBy 10 = .ok (.iconst 0, 1) := by decide +kernel
theorem dX12_fallsBy_11 : decode cX12_fallsBy 11 = .ok (.ireturn, 1) := by decide +kernel
theorem dX12_fallsBy_12 : decode cX12_fallsBy 12 = .ok (.aload_n 0, 1) := by decide +kernel
theorem dX12_fallsBy_13 : decode cX12_fallsBy 13 = .ok (.getfield 33, 3) := by decide +kernel
theorem dX12_fallsBy_16 : decode cX12_fallsBy 16 = .ok (.iconst 0, 1) := by decide +kernel
theorem dX12_fallsBy_17 : decode cX12_fallsBy 17 = .ok (.aload_n 0, 1) := by decide +kernel
theorem dX12_fallsBy_18 : decode cX12_fallsBy 18 = .ok (.iload_n 1, 1) := by decide +kernel
theorem dX12_fallsBy_19 : decode cX12_fallsBy 19 = .ok (.invokevirtual 233, 3) := by decide +kernel
theorem dX12_fallsBy_22 : decode cX12_fallsBy 22 = .ok (.invokestatic 236, 3) := by decide +kernel
theorem dX12_fallsBy_25 : decode cX12_fallsBy 25 = .ok (.iastore, 1) := by decide +kernel
theorem dX12_fallsBy_26 : decode cX12_fallsBy 26 = .ok (.aload_n 0, 1) := by decide +kernel
theorem dX12_fallsBy_27 : decode cX12_fallsBy 27 = .ok (.getfield 33, 3) := by decide +kernel
theorem dX12_fallsBy_30 : decode cX12_fallsBy 30 = .ok (.iconst 1, 1) := by decide +kernel
theorem dX12_fallsBy_31 : decode cX12_fallsBy 31 = .ok (.iload_n 2, 1) := by decide +kernel
theorem dX12_fallsBy_32 : decode cX12_fallsBy 32 = .ok (.iastore, 1) := by decide +kernel
theorem dX12_fallsBy_33 : decode cX12_fallsBy 33 = .ok (.aload_n 0, 1) := by decide +kernel
theorem dX12_fallsBy_34 : decode cX12_fallsBy 34 = .ok (.getfield 33, 3) := by decide +kernel
theorem dX12_fallsBy_37 : decode cX12_fallsBy 37 = .ok (.bipush 6, 2) := by decide +kernel
theorem dX12_fallsBy_39 : decode cX12_fallsBy 39 = .ok (.aload_n 0, 1) := by decide +kernel
theorem dX12_fallsBy_40 : decode cX12_fallsBy 40 = .ok (.iload_n 1, 1) := by decide +kernel
theorem dX12_fallsBy_41 : decode cX12_fallsBy 41 = .ok (.invokevirtual 239, 3) := by decide +kernel
theorem dX12_fallsBy_44 : decode cX12_fallsBy 44 = .ok (.iastore, 1) := by decide +kernel
theorem dX12_fallsBy_45 : decode cX12_fallsBy 45 = .ok (.aload_n 0, 1) := by decide +kernel
theorem dX12_fallsBy_46 : decode cX12_fallsBy 46 = .ok (.getfield 33, 3) := by decide +kernel
theorem dX12_fallsBy_49 : decode cX12_fallsBy 49 = .ok (.bipush 7, 2) := by decide +kernel
theorem dX12_fallsBy_51 : decode cX12_fallsBy 51 = .ok (.aload_n 0, 1) := by decide +kernel
theorem dX12_fallsBy_52 : decode cX12_fallsBy 52 = .ok (.iload_n 1, 1) := by decide +kernel
theorem dX12_fallsBy_53 : decode cX12_fallsBy 53 = .ok (.invokevirtual 242, 3) := by decide +kernel
theorem dX12_fallsBy_56 : decode cX12_fallsBy 56 = .ok (.iastore, 1) := by decide +kernel
theorem dX12_fallsBy_57 : decode cX12_fallsBy 57 = .ok (.aload_n 0, 1) := by decide +kernel
theorem dX12_fallsBy_58 : decode cX12_fallsBy 58 = .ok (.iconst 1, 1) := by decide +kernel
theorem dX12_fallsBy_59 : decode cX12_fallsBy 59 = .ok (.invokevirtual 230, 3) := by decide +kernel
theorem dX12_fallsBy_62 : decode cX12_fallsBy 62 = .ok (.iconst 1, 1) := by decide +kernel
theorem dX12_fallsBy_63 : decode cX12_fallsBy 63 = .ok (.if_icmp .ne 7, 3) := by decide +kernel
theorem dX12_fallsBy_66 : decode cX12_fallsBy 66 = .ok (.iconst 1, 1) := by decide +kernel
theorem dX12_fallsBy_67 : decode cX12_fallsBy 67 = .ok (.goto 4, 3) := by decide +kernel
theorem dX12_fallsBy_70 : decode cX12_fallsBy 70 = .ok (.iconst 0, 1) := by decide +kernel
theorem dX12_fallsBy_71 : decode cX12_fallsBy 71 = .ok (.ireturn, 1) := by decide +kernel
theorem dX12_yearTo_0 : decode cX12_yearTo 0 = .ok (.iload_n 1, 1) := by decide +kernel
theorem dX12_yearTo_1 : decode cX12_yearTo 1 = .ok (.invokestatic 245, 3) := by decide +kernel
theorem dX12_yearTo_4 : decode cX12_yearTo 4 = .ok (.ifCond .eq 5, 3) := by decide +kernel
theorem dX12_yearTo_7 : decode cX12_yearTo 7 = .ok (.iload_n 1, 1) := by decide +kernel
theorem dX12_yearTo_8 : decode cX12_yearTo 8 = .ok (.ireturn, 1) := by decide +kernel
theorem dX12_yearTo_9 : decode cX12_yearTo 9 = .ok (.aload_n 0, 1) := by decide +kernel
theorem dX12_yearTo_10 : decode cX12_yearTo 10 = .ok (.iload_n 1, 1) := by decide +kernel
theorem dX12_yearTo_11 : decode cX12_yearTo 11 = .ok (.invokevirtual 233, 3) := by decide +kernel
theorem dX12_yearTo_14 : decode cX12_yearTo 14 = .ok (.invokestatic 236, 3) := by decide +kernel
theorem dX12_yearTo_17 : decode cX12_yearTo 17 = .ok (.istore 4, 2) := by decide +kernel
theorem dX12_yearTo_19 : decode cX12_yearTo 19 = .ok (.iconst 0, 1) := by decide +kernel
theorem dX12_yearTo_20 : decode cX12_yearTo 20 = .ok (.istore 5, 2) := by decide +kernel
theorem dX12_yearTo_22 : decode cX12_yearTo 22 = .ok (.iconst 1, 1) := by decide +kernel
theorem dX12_yearTo_23 : decode cX12_yearTo 23 = .ok (.istore 6, 2) := by decide +kernel
theorem dX12_yearTo_25 : decode cX12_yearTo 25 = .ok (.iconst 0, 1) := by decide +kernel
theorem dX12_yearTo_26 : decode cX12_yearTo 26 = .ok (.istore 7, 2) := by decide +kernel
theorem dX12_yearTo_28 : decode cX12_yearTo 28 = .ok (.iload 7, 2) := by decide +kernel
theorem dX12_yearTo_30 : decode cX12_yearTo 30 = .ok (.aload_n 0, 1) := by decide +kernel
theorem dX12_yearTo_31 : decode cX12_yearTo 31 = .ok (.getfield 13, 3) := by decide +kernel
theorem dX12_yearTo_34 : decode cX12_yearTo 34 = .ok (.iconst 1, 1) := by decide +kernel
theorem dX12_yearTo_35 : decode cX12_yearTo 35 = .ok (.iaload, 1) := by decide +kernel
theorem dX12_yearTo_36 : decode cX12_yearTo 36 = .ok (.if_icmp .ge 96, 3) := by decide +kernel
theorem dX12_yearTo_39 : decode cX12_yearTo 39 = .ok (.iload_n 1, 1) := by decide +kernel
theorem dX12_yearTo_40 : decode cX12_yearTo 40 = .ok (.iload 7, 2) := by decide +kernel
theorem dX12_yearTo_42 : decode cX12_yearTo 42 = .ok (.invokestatic 217, 3) := by decide +kernel
theorem dX12_yearTo_45 : decode cX12_yearTo 45 = .ok (.istore 8, 2) := by decide +kernel
theorem dX12_yearTo_47 : decode cX12_yearTo 47 = .ok (.iload 8, 2) := by decide +kernel
theorem dX12_yearTo_49 : decode cX12_yearTo 49 = .ok (.ifCond .ne 7, 3) := by decide +kernel
theorem dX12_yearTo_52 : decode cX12_yearTo 52 = .ok (.iconst 0, 1) := by decide +kernel
theorem dX12_yearTo_53 : decode cX12_yearTo 53 = .ok (.goto 33, 3) := by decide +kernel
theorem dX12_yearTo_56 : decode cX12_yearTo 56 = .ok (.iload 8, 2) := by decide +kernel
theorem dX12_yearTo_58 : decode cX12_yearTo 58 = .ok (.aload_n 0, 1) := by decide +kernel
theorem dX12_yearTo_59 : decode cX12_yearTo 59 = .ok (.iload 7, 2) := by decide +kernel
theorem dX12_yearTo_61 : decode cX12_yearTo 61 = .ok (.aload_n 0, 1) := by decide +kernel
theorem dX12_yearTo_62 : decode cX12_yearTo 62 = .ok (.getfield 13, 3) := by decide +kernel
theorem dX12_yearTo_65 : decode cX12_yearTo 65 = .ok (.bipush 19, 2) := by decide +kernel
theorem dX12_yearTo_67 : decode cX12_yearTo 67 = .ok (.iload 7, 2) := by decide +kernel
theorem dX12_yearTo_69 : decode cX12_yearTo 69 = .ok (.iadd, 1) := by decide +kernel
theorem dX12_yearTo_70 : decode cX12_yearTo 70 = .ok (.iaload, 1) := by decide +kernel
theorem dX12_yearTo_71 : decode cX12_yearTo 71 = .ok (.iload_n 2, 1) := by decide +kernel
theorem dX12_yearTo_72 : decode cX12_yearTo 72 = .ok (.iload 7, 2) := by decide +kernel
theorem dX12_yearTo_74 : decode cX12_yearTo 74 = .ok (.invokestatic 248, 3) := by decide +kernel
theorem dX12_yearTo_77 : decode cX12_yearTo 77 = .ok (.iload 8, 2) := by decide +kernel
theorem dX12_yearTo_79 : decode cX12_yearTo 79 = .ok (.iload 4, 2) := by decide +kernel
theorem dX12_yearTo_81 : decode cX12_yearTo 81 = .ok (.iload_n 3, 1) := by decide +kernel
theorem dX12_yearTo_82 : decode cX12_yearTo 82 = .ok (.invokevirtual 251, 3) := by decide +kernel
theorem dX12_yearTo_85 : decode cX12_yearTo 85 = .ok (.isub, 1) := by decide +kernel
theorem dX12_yearTo_86 : decode cX12_yearTo 86 = .ok (.istore 9, 2) := by decide +kernel
theorem dX12_yearTo_88 : decode cX12_yearTo 88 = .ok (.iload 5, 2) := by decide +kernel
theorem dX12_yearTo_90 : decode cX12_yearTo 90 = .ok (.iload 6, 2) := by decide +kernel
theorem dX12_yearTo_92 : decode cX12_yearTo 92 = .ok (.iload 9, 2) := by decide +kernel
theorem dX12_yearTo_94 : decode cX12_yearTo 94 = .ok (.ifCond .ge 7, 3) := by decide +kernel
theorem dX12_yearTo_97 : decode cX12_yearTo 97 = .ok (.iconst 0, 1) := by decide +kernel
theorem dX12_yearTo_98 : decode cX12_yearTo 98 = .ok (.goto 17, 3) := by decide +kernel
theorem dX12_yearTo_101 : decode cX12_yearTo 101 = .ok (.iload 9, 2) := by decide +kernel
theorem dX12_yearTo_103 : decode cX12_yearTo 103 = .ok (.bipush 9, 2) := by decide +kernel
theorem dX12_yearTo_105 : decode cX12_yearTo 105 = .ok (.if_icmp .le 8, 3) := by decide +kernel
theorem dX12_yearTo_108 : decode cX12_yearTo 108 = .ok (.bipush 9, 2) := by decide +kernel
theorem dX12_yearTo_110 : decode cX12_yearTo 110 = .ok (.goto 5, 3) := by decide +kernel
theorem dX12_yearTo_113 : decode cX12_yearTo 113 = .ok (.iload 9, 2) := by decide +kernel
theorem dX12_yearTo_115 : decode cX12_yearTo 115 = .ok (.imul, 1) := by decide +kernel
theorem dX12_yearTo_116 : decode cX12_yearTo 116 = .ok (.iadd, 1) := by decide +kernel
theorem dX12_yearTo_117 : decode cX12_yearTo 117 = .ok (.istore 5, 2) := by decide +kernel
theorem dX12_yearTo_119 : decode cX12_yearTo 119 = .ok (.iload 6, 2) := by decide +kernel
theorem dX12_yearTo_121 : decode cX12_yearTo 121 = .ok (.bipush 10, 2) := by decide +kernel
theorem dX12_yearTo_123 : decode cX12_yearTo 123 = .ok (.imul, 1) := by decide +kernel
theorem dX12_yearTo_124 : decode cX12_yearTo 124 = .ok (.istore 6, 2) := by decide +kernel
theorem dX12_yearTo_126 : decode cX12_yearTo 126 = .ok (.iinc 7 1, 3) := by decide +kernel
theorem dX12_yearTo_129 : decode cX12_yearTo 129 = .ok (.goto (-101), 3) := by decide +kernel
theorem dX12_yearTo_132 : decode cX12_yearTo 132 = .ok (.aload_n 0, 1) := by decide +kernel
theorem dX12_yearTo_133 : decode cX12_yearTo 133 = .ok (.iload 5, 2) := by decide +kernel
theorem dX12_yearTo_135 : decode cX12_yearTo 135 = .ok (.iload_n 3, 1) := by decide +kernel
theorem dX12_yearTo_136 : decode cX12_yearTo 136 = .ok (.invokevirtual 255, 3) := by decide +kernel
theorem dX12_yearTo_139 : decode cX12_yearTo 139 = .ok (.ifCond .eq 12, 3) := by decide +kernel
theorem dX12_yearTo_142 : decode cX12_yearTo 142 = .ok (.iload 5, 2) := by decide +kernel
theorem dX12_yearTo_144 : decode cX12_yearTo 144 = .ok (.sipush 10000, 3) := by decide +kernel
theorem dX12_yearTo_147 : decode cX12_yearTo 147 = .ok (.iadd, 1) := by decide +kernel
theorem dX12_yearTo_148 : decode cX12_yearTo 148 = .ok (.goto 5, 3) := by decide +kernel
theorem dX12_yearTo_151 : decode cX12_yearTo 151 = .ok (.iload 5, 2) := by decide +kernel
theorem dX12_yearTo_153 : decode cX12_yearTo 153 = .ok (.ireturn, 1) := by decide +kernel
theorem dX12_growOf_0 : decode cX12_growOf 0 = .ok (.iload_n 0, 1) := by decide +kernel
theorem dX12_growOf_1 : decode cX12_growOf 1 = .ok (.iconst 4, 1) := by decide +kernel
theorem dX12_growOf_2 : decode cX12_growOf 2 = .ok (.imul, 1) := by decide +kernel
theorem dX12_growOf_3 : decode cX12_growOf 3 = .ok (.iload_n 1, 1) := by decide +kernel
theorem dX12_growOf_4 : decode cX12_growOf 4 = .ok (.iadd, 1) := by decide +kernel
theorem dX12_growOf_5 : decode cX12_growOf 5 = .ok (.iconst 5, 1) := by decide +kernel
theorem dX12_growOf_6 : decode cX12_growOf 6 = .ok (.imul, 1) := by decide +kernel
theorem dX12_growOf_7 : decode cX12_growOf 7 = .ok (.iload_n 2, 1) := by decide +kernel
theorem dX12_growOf_8 : decode cX12_growOf 8 = .ok (.iadd, 1) := by decide +kernel
theorem dX12_growOf_9 : decode cX12_growOf 9 = .ok (.bipush 10, 2) := by decide +kernel
theorem dX12_growOf_11 : decode cX12_growOf 11 = .ok (.imul, 1) := by decide +kernel
theorem dX12_growOf_12 : decode cX12_growOf 12 = .ok (.iload_n 3, 1) := by decide +kernel
theorem dX12_growOf_13 : decode cX12_growOf 13 = .ok (.iadd, 1) := by decide +kernel
theorem dX12_growOf_14 : decode cX12_growOf 14 = .ok (.iconst 5, 1) := by decide +kernel
theorem dX12_growOf_15 : decode cX12_growOf 15 = .ok (.imul, 1) := by decide +kernel
theorem dX12_growOf_16 : decode cX12_growOf 16 = .ok (.iload 4, 2) := by decide +kernel
theorem dX12_growOf_18 : decode cX12_growOf 18 = .ok (.iadd, 1) := by decide +kernel
theorem dX12_growOf_19 : decode cX12_growOf 19 = .ok (.ireturn, 1) := by decide +kernel
theorem dX12_fallOf_0 : decode cX12_fallOf 0 = .ok (.iload_n 0, 1) := by decide +kernel
theorem dX12_fallOf_1 : decode cX12_fallOf 1 = .ok (.iconst 5, 1) := by decide +kernel
theorem dX12_fallOf_2 : decode cX12_fallOf 2 = .ok (.imul, 1) := by decide +kernel
theorem dX12_fallOf_3 : decode cX12_fallOf 3 = .ok (.iload_n 1, 1) := by decide +kernel
theorem dX12_fallOf_4 : decode cX12_fallOf 4 = .ok (.iadd, 1) := by decide +kernel
theorem dX12_fallOf_5 : decode cX12_fallOf 5 = .ok (.bipush 37, 2) := by decide +kernel
theorem dX12_fallOf_7 : decode cX12_fallOf 7 = .ok (.imul, 1) := by decide +kernel
theorem dX12_fallOf_8 : decode cX12_fallOf 8 = .ok (.iload_n 2, 1) := by decide +kernel
theorem dX12_fallOf_9 : decode cX12_fallOf 9 = .ok (.iadd, 1) := by decide +kernel
theorem dX12_fallOf_10 : decode cX12_fallOf 10 = .ok (.bipush 10, 2) := by decide +kernel
theorem dX12_fallOf_12 : decode cX12_fallOf 12 = .ok (.imul, 1) := by decide +kernel
theorem dX12_fallOf_13 : decode cX12_fallOf 13 = .ok (.iload_n 3, 1) := by decide +kernel
theorem dX12_fallOf_14 : decode cX12_fallOf 14 = .ok (.iadd, 1) := by decide +kernel
theorem dX12_fallOf_15 : decode cX12_fallOf 15 = .ok (.ireturn, 1) := by decide +kernel
theorem dX12_fallsSo_0 : decode cX12_fallsSo 0 = .ok (.aload_n 0, 1) := by decide +kernel
theorem dX12_fallsSo_1 : decode cX12_fallsSo 1 = .ok (.getfield 33, 3) := by decide +kernel
theorem dX12_fallsSo_4 : decode cX12_fallsSo 4 = .ok (.iconst 0, 1) := by decide +kernel
theorem dX12_fallsSo_5 : decode cX12_fallsSo 5 = .ok (.iload_n 2, 1) := by decide +kernel
theorem dX12_fallsSo_6 : decode cX12_fallsSo 6 = .ok (.iastore, 1) := by decide +kernel
theorem dX12_fallsSo_7 : decode cX12_fallsSo 7 = .ok (.aload_n 0, 1) := by decide +kernel
theorem dX12_fallsSo_8 : decode cX12_fallsSo 8 = .ok (.getfield 33, 3) := by decide +kernel
theorem dX12_fallsSo_11 : decode cX12_fallsSo 11 = .ok (.iconst 1, 1) := by decide +kernel
theorem dX12_fallsSo_12 : decode cX12_fallsSo 12 = .ok (.iload_n 1, 1) := by decide +kernel
theorem dX12_fallsSo_13 : decode cX12_fallsSo 13 = .ok (.iastore, 1) := by decide +kernel
theorem dX12_fallsSo_14 : decode cX12_fallsSo 14 = .ok (.aload_n 0, 1) := by decide +kernel
theorem dX12_fallsSo_15 : decode cX12_fallsSo 15 = .ok (.getfield 33, 3) := by decide +kernel
theorem dX12_fallsSo_18 : decode cX12_fallsSo 18 = .ok (.bipush 6, 2) := by decide +kernel
theorem dX12_fallsSo_20 : decode cX12_fallsSo 20 = .ok (.iload_n 3, 1) := by decide +kernel
theorem dX12_fallsSo_21 : decode cX12_fallsSo 21 = .ok (.iastore, 1) := by decide +kernel
theorem dX12_fallsSo_22 : decode cX12_fallsSo 22 = .ok (.aload_n 0, 1) := by decide +kernel
theorem dX12_fallsSo_23 : decode cX12_fallsSo 23 = .ok (.getfield 33, 3) := by decide +kernel
theorem dX12_fallsSo_26 : decode cX12_fallsSo 26 = .ok (.bipush 7, 2) := by decide +kernel
theorem dX12_fallsSo_28 : decode cX12_fallsSo 28 = .ok (.iload 4, 2) := by decide +kernel
theorem dX12_fallsSo_30 : decode cX12_fallsSo 30 = .ok (.iastore, 1) := by decide +kernel
theorem dX12_fallsSo_31 : decode cX12_fallsSo 31 = .ok (.aload_n 0, 1) := by decide +kernel
theorem dX12_fallsSo_32 : decode cX12_fallsSo 32 = .ok (.iconst 1, 1) := by decide +kernel
theorem dX12_fallsSo_33 : decode cX12_fallsSo 33 = .ok (.invokevirtual 230, 3) := by decide +kernel
theorem dX12_fallsSo_36 : decode cX12_fallsSo 36 = .ok (.iconst 1, 1) := by decide +kernel
theorem dX12_fallsSo_37 : decode cX12_fallsSo 37 = .ok (.if_icmp .ne 7, 3) := by decide +kernel
theorem dX12_fallsSo_40 : decode cX12_fallsSo 40 = .ok (.iconst 1, 1) := by decide +kernel
theorem dX12_fallsSo_41 : decode cX12_fallsSo 41 = .ok (.goto 4, 3) := by decide +kernel
theorem dX12_fallsSo_44 : decode cX12_fallsSo 44 = .ok (.iconst 0, 1) := by decide +kernel
theorem dX12_fallsSo_45 : decode cX12_fallsSo 45 = .ok (.ireturn, 1) := by decide +kernel
theorem dX12_laysTables_0 : decode cX12_laysTables 0 = .ok (.iconst 0, 1) := by decide +kernel
theorem dX12_laysTables_1 : decode cX12_laysTables 1 = .ok (.istore_n 1, 1) := by decide +kernel
theorem dX12_laysTables_2 : decode cX12_laysTables 2 = .ok (.iload_n 1, 1) := by decide +kernel
theorem dX12_laysTables_3 : decode cX12_laysTables 3 = .ok (.iconst 2, 1) := by decide +kernel
theorem dX12_laysTables_4 : decode cX12_laysTables 4 = .ok (.if_icmp .ge 177, 3) := by decide +kernel
theorem dX12_laysTables_7 : decode cX12_laysTables 7 = .ok (.iconst 0, 1) := by decide +kernel
theorem dX12_laysTables_8 : decode cX12_laysTables 8 = .ok (.istore_n 2, 1) := by decide +kernel
theorem dX12_laysTables_9 : decode cX12_laysTables 9 = .ok (.iload_n 2, 1) := by decide +kernel
theorem dX12_laysTables_10 : decode cX12_laysTables 10 = .ok (.iconst 4, 1) := by decide +kernel
theorem dX12_laysTables_11 : decode cX12_laysTables 11 = .ok (.if_icmp .gt 164, 3) := by decide +kernel
theorem dX12_laysTables_14 : decode cX12_laysTables 14 = .ok (.iconst 0, 1) := by decide +kernel
theorem dX12_laysTables_15 : decode cX12_laysTables 15 = .ok (.istore_n 3, 1) := by decide +kernel
theorem dX12_laysTables_16 : decode cX12_laysTables 16 = .ok (.iload_n 3, 1) := by decide +kernel
theorem dX12_laysTables_17 : decode cX12_laysTables 17 = .ok (.aload_n 0, 1) := by decide +kernel
theorem dX12_laysTables_18 : decode cX12_laysTables 18 = .ok (.getfield 13, 3) := by decide +kernel
theorem dX12_laysTables_21 : decode cX12_laysTables 21 = .ok (.iconst 1, 1) := by decide +kernel
theorem dX12_laysTables_22 : decode cX12_laysTables 22 = .ok (.iaload, 1) := by decide +kernel
theorem dX12_laysTables_23 : decode cX12_laysTables 23 = .ok (.if_icmp .ge 75, 3) := by decide +kernel
theorem dX12_laysTables_26 : decode cX12_laysTables 26 = .ok (.iconst 0, 1) := by decide +kernel
theorem dX12_laysTables_27 : decode cX12_laysTables 27 = .ok (.istore 4, 2) := by decide +kernel
theorem dX12_laysTables_29 : decode cX12_laysTables 29 = .ok (.iload 4, 2) := by decide +kernel
theorem dX12_laysTables_31 : decode cX12_laysTables 31 = .ok (.iconst 4, 1) := by decide +kernel
theorem dX12_laysTables_32 : decode cX12_laysTables 32 = .ok (.if_icmp .gt 60, 3) := by decide +kernel
theorem dX12_laysTables_35 : decode cX12_laysTables 35 = .ok (.iconst 1, 1) := by decide +kernel
theorem dX12_laysTables_36 : decode cX12_laysTables 36 = .ok (.istore 5, 2) := by decide +kernel
theorem dX12_laysTables_38 : decode cX12_laysTables 38 = .ok (.iload 5, 2) := by decide +kernel
theorem dX12_laysTables_40 : decode cX12_laysTables 40 = .ok (.bipush 9, 2) := by decide +kernel
theorem dX12_laysTables_42 : decode cX12_laysTables 42 = .ok (.if_icmp .gt 44, 3) := by decide +kernel
theorem dX12_laysTables_45 : decode cX12_laysTables 45 = .ok (.aload_n 0, 1) := by decide +kernel
theorem dX12_laysTables_46 : decode cX12_laysTables 46 = .ok (.getfield 36, 3) := by decide +kernel
theorem dX12_laysTables_49 : decode cX12_laysTables 49 = .ok (.iload_n 1, 1) := by decide +kernel
theorem dX12_laysTables_50 : decode cX12_laysTables 50 = .ok (.iload_n 3, 1) := by decide +kernel
theorem dX12_laysTables_51 : decode cX12_laysTables 51 = .ok (.iload 4, 2) := by decide +kernel
theorem dX12_laysTables_53 : decode cX12_laysTables 53 = .ok (.iload 5, 2) := by decide +kernel
theorem dX12_laysTables_55 : decode cX12_laysTables 55 = .ok (.iload_n 2, 1) := by decide +kernel
theorem dX12_laysTables_56 : decode cX12_laysTables 56 = .ok (.invokestatic 259, 3) := by decide +kernel
theorem dX12_laysTables_59 : decode cX12_laysTables 59 = .ok (.aload_n 0, 1) := by decide +kernel
theorem dX12_laysTables_60 : decode cX12_laysTables 60 = .ok (.iload_n 3, 1) := by decide +kernel
theorem dX12_laysTables_61 : decode cX12_laysTables 61 = .ok (.aload_n 0, 1) := by decide +kernel
theorem dX12_laysTables_62 : decode cX12_laysTables 62 = .ok (.getfield 13, 3) := by decide +kernel
theorem dX12_laysTables_65 : decode cX12_laysTables 65 = .ok (.bipush 19, 2) := by decide +kernel
theorem dX12_laysTables_67 : decode cX12_laysTables 67 = .ok (.iload_n 3, 1) := by decide +kernel
theorem dX12_laysTables_68 : decode cX12_laysTables 68 = .ok (.iadd, 1) := by decide +kernel
theorem dX12_laysTables_69 : decode cX12_laysTables 69 = .ok (.iaload, 1) := by decide +kernel
theorem dX12_laysTables_70 : decode cX12_laysTables 70 = .ok (.iload 4, 2) := by decide +kernel
theorem dX12_laysTables_72 : decode cX12_laysTables 72 = .ok (.iload 5, 2) := by decide +kernel
theorem dX12_laysTables_74 : decode cX12_laysTables 74 = .ok (.iload_n 2, 1) := by decide +kernel
theorem dX12_laysTables_75 : decode cX12_laysTables 75 = .ok (.iload_n 1, 1) := by decide +kernel
theorem dX12_laysTables_76 : decode cX12_laysTables 76 = .ok (.invokevirtual 251, 3) := by decide +kernel
theorem dX12_laysTables_79 : decode cX12_laysTables 79 = .ok (.iastore, 1) := by decide +kernel
theorem dX12_laysTables_80 : decode cX12_laysTables 80 = .ok (.iinc 5 1, 3) := by decide +kernel
theorem dX12_laysTables_83 : decode cX12_laysTables 83 = .ok (.goto (-45), 3) := by decide +kernel
theorem dX12_laysTables_86 : decode cX12_laysTables 86 = .ok (.iinc 4 1, 3) := by decide +kernel
theorem dX12_laysTables_89 : decode cX12_laysTables 89 = .ok (.goto (-60), 3) := by decide +kernel
theorem dX12_laysTables_92 : decode cX12_laysTables 92 = .ok (.iinc 3 1, 3) := by decide +kernel
theorem dX12_laysTables_95 : decode cX12_laysTables 95 = .ok (.goto (-79), 3) := by decide +kernel
theorem dX12_laysTables_98 : decode cX12_laysTables 98 = .ok (.iconst 0, 1) := by decide +kernel
theorem dX12_laysTables_99 : decode cX12_laysTables 99 = .ok (.istore_n 3, 1) := by decide +kernel
theorem dX12_laysTables_100 : decode cX12_laysTables 100 = .ok (.iload_n 3, 1) := by decide +kernel
theorem dX12_laysTables_101 : decode cX12_laysTables 101 = .ok (.bipush 36, 2) := by decide +kernel
theorem dX12_laysTables_103 : decode cX12_laysTables 103 = .ok (.if_icmp .gt 66, 3) := by decide +kernel
theorem dX12_laysTables_106 : decode cX12_laysTables 106 = .ok (.iconst 0, 1) := by decide +kernel
theorem dX12_laysTables_107 : decode cX12_laysTables 107 = .ok (.istore 4, 2) := by decide +kernel
theorem dX12_laysTables_109 : decode cX12_laysTables 109 = .ok (.iload 4, 2) := by decide +kernel
theorem dX12_laysTables_111 : decode cX12_laysTables 111 = .ok (.bipush 9, 2) := by decide +kernel
theorem dX12_laysTables_113 : decode cX12_laysTables 113 = .ok (.if_icmp .gt 50, 3) := by decide +kernel
theorem dX12_laysTables_116 : decode cX12_laysTables 116 = .ok (.aload_n 0, 1) := by decide +kernel
theorem dX12_laysTables_117 : decode cX12_laysTables 117 = .ok (.getfield 39, 3) := by decide +kernel
theorem dX12_laysTables_120 : decode cX12_laysTables 120 = .ok (.iload_n 1, 1) := by decide +kernel
theorem dX12_laysTables_121 : decode cX12_laysTables 121 = .ok (.iload_n 2, 1) := by decide +kernel
theorem dX12_laysTables_122 : decode cX12_laysTables 122 = .ok (.iload_n 3, 1) := by decide +kernel
theorem dX12_laysTables_123 : decode cX12_laysTables 123 = .ok (.iload 4, 2) := by decide +kernel
theorem dX12_laysTables_125 : decode cX12_laysTables 125 = .ok (.invokestatic 263, 3) := by decide +kernel
theorem dX12_laysTables_128 : decode cX12_laysTables 128 = .ok (.aload_n 0, 1) := by decide +kernel
theorem dX12_laysTables_129 : decode cX12_laysTables 129 = .ok (.getfield 13, 3) := by decide +kernel
theorem dX12_laysTables_132 : decode cX12_laysTables 132 = .ok (.bipush 6, 2) := by decide +kernel
theorem dX12_laysTables_134 : decode cX12_laysTables 134 = .ok (.iaload, 1) := by decide +kernel
theorem dX12_laysTables_135 : decode cX12_laysTables 135 = .ok (.iconst 1, 1) := by decide +kernel
theorem dX12_laysTables_136 : decode cX12_laysTables 136 = .ok (.if_icmp .ne 19, 3) := by decide +kernel
theorem dX12_laysTables_139 : decode cX12_laysTables 139 = .ok (.aload_n 0, 1) := by decide +kernel
theorem dX12_laysTables_140 : decode cX12_laysTables 140 = .ok (.iload_n 1, 1) := by decide +kernel
theorem dX12_laysTables_141 : decode cX12_laysTables 141 = .ok (.iload_n 2, 1) := by decide +kernel
theorem dX12_laysTables_142 : decode cX12_laysTables 142 = .ok (.iload_n 3, 1) := by decide +kernel
theorem dX12_laysTables_143 : decode cX12_laysTables 143 = .ok (.iload 4, 2) := by decide +kernel
theorem dX12_laysTables_145 : decode cX12_laysTables 145 = .ok (.invokevirtual 267, 3) := by decide +kernel
theorem dX12_laysTables_148 : decode cX12_laysTables 148 = .ok (.ifCond .eq 7, 3) := by decide +kernel
theorem dX12_laysTables_151 : decode cX12_laysTables 151 = .ok (.iconst 1, 1) := by decide +kernel
theorem dX12_laysTables_152 : decode cX12_laysTables 152 = .ok (.goto 4, 3) := by decide +kernel
theorem dX12_laysTables_155 : decode cX12_laysTables 155 = .ok (.iconst 0, 1) := by decide +kernel
theorem dX12_laysTables_156 : decode cX12_laysTables 156 = .ok (.bastore, 1) := by decide +kernel
theorem dX12_laysTables_157 : decode cX12_laysTables 157 = .ok (.iinc 4 1, 3) := by decide +kernel
theorem dX12_laysTables_160 : decode cX12_laysTables 160 = .ok (.goto (-51), 3) := by decide +kernel
theorem dX12_laysTables_163 : decode cX12_laysTables 163 = .ok (.iinc 3 1, 3) := by decide +kernel
theorem dX12_laysTables_166 : decode cX12_laysTables 166 = .ok (.goto (-66), 3) := by decide +kernel
theorem dX12_laysTables_169 : decode cX12_laysTables 169 = .ok (.iinc 2 1, 3) := by decide +kernel
theorem dX12_laysTables_172 : decode cX12_laysTables 172 = .ok (.goto (-163), 3) := by decide +kernel
theorem dX12_laysTables_175 : decode cX12_laysTables 175 = .ok (.iinc 1 1, 3) := by decide +kernel
theorem dX12_laysTables_178 : decode cX12_laysTables 178 = .ok (.goto (-176), 3) := by decide +kernel
theorem dX12_laysTables_181 : decode cX12_laysTables 181 = .ok (.return_, 1) := by decide +kernel
theorem dX12_yearBy_0 : decode cX12_yearBy 0 = .ok (.iload_n 1, 1) := by decide +kernel
theorem dX12_yearBy_1 : decode cX12_yearBy 1 = .ok (.invokestatic 245, 3) := by decide +kernel
theorem dX12_yearBy_4 : decode cX12_yearBy 4 = .ok (.ifCond .eq 5, 3) := by decide +kernel
theorem dX12_yearBy_7 : decode cX12_yearBy 7 = .ok (.iload_n 1, 1) := by decide +kernel
theorem dX12_yearBy_8 : decode cX12_yearBy 8 = .ok (.ireturn, 1) := by decide +kernel
theorem dX12_yearBy_9 : decode cX12_yearBy 9 = .ok (.aload_n 0, 1) := by decide +kernel
theorem dX12_yearBy_10 : decode cX12_yearBy 10 = .ok (.iload_n 1, 1) := by decide +kernel
theorem dX12_yearBy_11 : decode cX12_yearBy 11 = .ok (.invokevirtual 233, 3) := by decide +kernel
theorem dX12_yearBy_14 : decode cX12_yearBy 14 = .ok (.invokestatic 236, 3) := by decide +kernel
theorem dX12_yearBy_17 : decode cX12_yearBy 17 = .ok (.istore 4, 2) := by decide +kernel
theorem dX12_yearBy_19 : decode cX12_yearBy 19 = .ok (.iconst 0, 1) := by decide +kernel
theorem dX12_yearBy_20 : decode cX12_yearBy 20 = .ok (.istore 5, 2) := by decide +kernel
theorem dX12_yearBy_22 : decode cX12_yearBy 22 = .ok (.iconst 1, 1) := by decide +kernel
theorem dX12_yearBy_23 : decode cX12_yearBy 23 = .ok (.istore 6, 2) := by decide +kernel
theorem dX12_yearBy_25 : decode cX12_yearBy 25 = .ok (.iconst 0, 1) := by decide +kernel
theorem dX12_yearBy_26 : decode cX12_yearBy 26 = .ok (.istore 7, 2) := by decide +kernel
theorem dX12_yearBy_28 : decode cX12_yearBy 28 = .ok (.iconst 0, 1) := by decide +kernel
theorem dX12_yearBy_29 : decode cX12_yearBy 29 = .ok (.istore 8, 2) := by decide +kernel
theorem dX12_yearBy_31 : decode cX12_yearBy 31 = .ok (.iconst 0, 1) := by decide +kernel
theorem dX12_yearBy_32 : decode cX12_yearBy 32 = .ok (.istore 9, 2) := by decide +kernel
theorem dX12_yearBy_34 : decode cX12_yearBy 34 = .ok (.iconst 0, 1) := by decide +kernel
theorem dX12_yearBy_35 : decode cX12_yearBy 35 = .ok (.istore 10, 2) := by decide +kernel
theorem dX12_yearBy_37 : decode cX12_yearBy 37 = .ok (.iload 10, 2) := by decide +kernel
theorem dX12_yearBy_39 : decode cX12_yearBy 39 = .ok (.aload_n 0, 1) := by decide +kernel
theorem dX12_yearBy_40 : decode cX12_yearBy 40 = .ok (.getfield 13, 3) := by decide +kernel
theorem dX12_yearBy_43 : decode cX12_yearBy 43 = .ok (.iconst 1, 1) := by decide +kernel
theorem dX12_yearBy_44 : decode cX12_yearBy 44 = .ok (.iaload, 1) := by decide +kernel
theorem dX12_yearBy_45 : decode cX12_yearBy 45 = .ok (.if_icmp .ge 133, 3) := by decide +kernel
theorem dX12_yearBy_48 : decode cX12_yearBy 48 = .ok (.iload_n 1, 1) := by decide +kernel
theorem dX12_yearBy_49 : decode cX12_yearBy 49 = .ok (.iload 6, 2) := by decide +kernel
theorem dX12_yearBy_51 : decode cX12_yearBy 51 = .ok (.idiv, 1) := by decide +kernel
theorem dX12_yearBy_52 : decode cX12_yearBy 52 = .ok (.bipush 10, 2) := by decide +kernel
theorem dX12_yearBy_54 : decode cX12_yearBy 54 = .ok (.irem, 1) := by decide +kernel
theorem dX12_yearBy_55 : decode cX12_yearBy 55 = .ok (.istore 11, 2) := by decide +kernel
theorem dX12_yearBy_57 : decode cX12_yearBy 57 = .ok (.iload 11, 2) := by decide +kernel
theorem dX12_yearBy_59 : decode cX12_yearBy 59 = .ok (.ifCond .ne 7, 3) := by decide +kernel
theorem dX12_yearBy_62 : decode cX12_yearBy 62 = .ok (.iconst 0, 1) := by decide +kernel
theorem dX12_yearBy_63 : decode cX12_yearBy 63 = .ok (.goto 27, 3) := by decide +kernel
theorem dX12_yearBy_66 : decode cX12_yearBy 66 = .ok (.iload 11, 2) := by decide +kernel
theorem dX12_yearBy_68 : decode cX12_yearBy 68 = .ok (.aload_n 0, 1) := by decide +kernel
theorem dX12_yearBy_69 : decode cX12_yearBy 69 = .ok (.getfield 36, 3) := by decide +kernel
theorem dX12_yearBy_72 : decode cX12_yearBy 72 = .ok (.iload_n 3, 1) := by decide +kernel
theorem dX12_yearBy_73 : decode cX12_yearBy 73 = .ok (.iload 10, 2) := by decide +kernel
theorem dX12_yearBy_75 : decode cX12_yearBy 75 = .ok (.iload_n 2, 1) := by decide +kernel
theorem dX12_yearBy_76 : decode cX12_yearBy 76 = .ok (.iload 10, 2) := by decide +kernel
theorem dX12_yearBy_78 : decode cX12_yearBy 78 = .ok (.invokestatic 248, 3) := by decide +kernel
theorem dX12_yearBy_81 : decode cX12_yearBy 81 = .ok (.iload 11, 2) := by decide +kernel
theorem dX12_yearBy_83 : decode cX12_yearBy 83 = .ok (.iload 4, 2) := by decide +kernel
theorem dX12_yearBy_85 : decode cX12_yearBy 85 = .ok (.invokestatic 259, 3) := by decide +kernel
theorem dX12_yearBy_88 : decode cX12_yearBy 88 = .ok (.iaload, 1) := by decide +kernel
theorem dX12_yearBy_89 : decode cX12_yearBy 89 = .ok (.isub, 1) := by decide +kernel
theorem dX12_yearBy_90 : decode cX12_yearBy 90 = .ok (.istore 12, 2) := by decide +kernel
theorem dX12_yearBy_92 : decode cX12_yearBy 92 = .ok (.iload 12, 2) := by decide +kernel
theorem dX12_yearBy_94 : decode cX12_yearBy 94 = .ok (.ifCond .ge 7, 3) := by decide +kernel
theorem dX12_yearBy_97 : decode cX12_yearBy 97 = .ok (.iconst 0, 1) := by decide +kernel
theorem dX12_yearBy_98 : decode cX12_yearBy 98 = .ok (.goto 17, 3) := by decide +kernel
theorem dX12_yearBy_101 : decode cX12_yearBy 101 = .ok (.iload 12, 2) := by decide +kernel
theorem dX12_yearBy_103 : decode cX12_yearBy 103 = .ok (.bipush 9, 2) := by decide +kernel
theorem dX12_yearBy_105 : decode cX12_yearBy 105 = .ok (.if_icmp .le 8, 3) := by decide +kernel
theorem dX12_yearBy_108 : decode cX12_yearBy 108 = .ok (.bipush 9, 2) := by decide +kernel
theorem dX12_yearBy_110 : decode cX12_yearBy 110 = .ok (.goto 5, 3) := by decide +kernel
theorem dX12_yearBy_113 : decode cX12_yearBy 113 = .ok (.iload 12, 2) := by decide +kernel
theorem dX12_yearBy_115 : decode cX12_yearBy 115 = .ok (.istore 12, 2) := by decide +kernel
theorem dX12_yearBy_117 : decode cX12_yearBy 117 = .ok (.iload 5, 2) := by decide +kernel
theorem dX12_yearBy_119 : decode cX12_yearBy 119 = .ok (.iload 6, 2) := by decide +kernel
theorem dX12_yearBy_121 : decode cX12_yearBy 121 = .ok (.iload 12, 2) := by decide +kernel
theorem dX12_yearBy_123 : decode cX12_yearBy 123 = .ok (.imul, 1) := by decide +kernel
theorem dX12_yearBy_124 : decode cX12_yearBy 124 = .ok (.iadd, 1) := by decide +kernel
theorem dX12_yearBy_125 : decode cX12_yearBy 125 = .ok (.istore 5, 2) := by decide +kernel
theorem dX12_yearBy_127 : decode cX12_yearBy 127 = .ok (.iload 7, 2) := by decide +kernel
theorem dX12_yearBy_129 : decode cX12_yearBy 129 = .ok (.iload 12, 2) := by decide +kernel
theorem dX12_yearBy_131 : decode cX12_yearBy 131 = .ok (.iadd, 1) := by decide +kernel
theorem dX12_yearBy_132 : decode cX12_yearBy 132 = .ok (.istore 7, 2) := by decide +kernel
theorem dX12_yearBy_134 : decode cX12_yearBy 134 = .ok (.iload 12, 2) := by decide +kernel
theorem dX12_yearBy_136 : decode cX12_yearBy 136 = .ok (.iload 8, 2) := by decide +kernel
theorem dX12_yearBy_138 : decode cX12_yearBy 138 = .ok (.if_icmp .le 8, 3) := by decide +kernel
theorem dX12_yearBy_141 : decode cX12_yearBy 141 = .ok (.iload 12, 2) := by decide +kernel
theorem dX12_yearBy_143 : decode cX12_yearBy 143 = .ok (.goto 5, 3) := by decide +kernel
theorem dX12_yearBy_146 : decode cX12_yearBy 146 = .ok (.iload 8, 2) := by decide +kernel
theorem dX12_yearBy_148 : decode cX12_yearBy 148 = .ok (.istore 8, 2) := by decide +kernel
theorem dX12_yearBy_150 : decode cX12_yearBy 150 = .ok (.iload 9, 2) := by decide +kernel
theorem dX12_yearBy_152 : decode cX12_yearBy 152 = .ok (.iload 12, 2) := by decide +kernel
theorem dX12_yearBy_154 : decode cX12_yearBy 154 = .ok (.ifCond .ne 7, 3) := by decide +kernel
theorem dX12_yearBy_157 : decode cX12_yearBy 157 = .ok (.iconst 1, 1) := by decide +kernel
theorem dX12_yearBy_158 : decode cX12_yearBy 158 = .ok (.goto 4, 3) := by decide +kernel
theorem dX12_yearBy_161 : decode cX12_yearBy 161 = .ok (.iconst 0, 1) := by decide +kernel
theorem dX12_yearBy_162 : decode cX12_yearBy 162 = .ok (.iadd, 1) := by decide +kernel
theorem dX12_yearBy_163 : decode cX12_yearBy 163 = .ok (.istore 9, 2) := by decide +kernel
theorem dX12_yearBy_165 : decode cX12_yearBy 165 = .ok (.iload 6, 2) := by decide +kernel
theorem dX12_yearBy_167 : decode cX12_yearBy 167 = .ok (.bipush 10, 2) := by decide +kernel
theorem dX12_yearBy_169 : decode cX12_yearBy 169 = .ok (.imul, 1) := by decide +kernel
theorem dX12_yearBy_170 : decode cX12_yearBy 170 = .ok (.istore 6, 2) := by decide +kernel
theorem dX12_yearBy_172 : decode cX12_yearBy 172 = .ok (.iinc 10 1, 3) := by decide +kernel
theorem dX12_yearBy_175 : decode cX12_yearBy 175 = .ok (.goto (-138), 3) := by decide +kernel
theorem dX12_yearBy_178 : decode cX12_yearBy 178 = .ok (.aload_n 0, 1) := by decide +kernel
theorem dX12_yearBy_179 : decode cX12_yearBy 179 = .ok (.getfield 39, 3) := by decide +kernel
theorem dX12_yearBy_182 : decode cX12_yearBy 182 = .ok (.iload_n 3, 1) := by decide +kernel
theorem dX12_yearBy_183 : decode cX12_yearBy 183 = .ok (.iload 9, 2) := by decide +kernel
theorem dX12_yearBy_185 : decode cX12_yearBy 185 = .ok (.iload 7, 2) := by decide +kernel
theorem dX12_yearBy_187 : decode cX12_yearBy 187 = .ok (.iload 8, 2) := by decide +kernel
theorem dX12_yearBy_189 : decode cX12_yearBy 189 = .ok (.invokestatic 263, 3) := by decide +kernel
theorem dX12_yearBy_192 : decode cX12_yearBy 192 = .ok (.baload, 1) := by decide +kernel
theorem dX12_yearBy_193 : decode cX12_yearBy 193 = .ok (.ifCond .eq 12, 3) := by decide +kernel
theorem dX12_yearBy_196 : decode cX12_yearBy 196 = .ok (.iload 5, 2) := by decide +kernel
theorem dX12_yearBy_198 : decode cX12_yearBy 198 = .ok (.sipush 10000, 3) := by decide +kernel
theorem dX12_yearBy_201 : decode cX12_yearBy 201 = .ok (.iadd, 1) := by decide +kernel
theorem dX12_yearBy_202 : decode cX12_yearBy 202 = .ok (.goto 5, 3) := by decide +kernel
theorem dX12_yearBy_205 : decode cX12_yearBy 205 = .ok (.iload 5, 2) := by decide +kernel
theorem dX12_yearBy_207 : decode cX12_yearBy 207 = .ok (.ireturn, 1) := by decide +kernel
theorem dX12_pair_0 : decode cX12_pair 0 = .ok (.aload_n 0, 1) := by decide +kernel
theorem dX12_pair_1 : decode cX12_pair 1 = .ok (.iconst 0, 1) := by decide +kernel
theorem dX12_pair_2 : decode cX12_pair 2 = .ok (.putfield 1, 3) := by decide +kernel
theorem dX12_pair_5 : decode cX12_pair 5 = .ok (.aload_n 0, 1) := by decide +kernel
theorem dX12_pair_6 : decode cX12_pair 6 = .ok (.iload_n 1, 1) := by decide +kernel
theorem dX12_pair_7 : decode cX12_pair 7 = .ok (.i2l, 1) := by decide +kernel
theorem dX12_pair_8 : decode cX12_pair 8 = .ok (.invokevirtual 271, 3) := by decide +kernel
theorem dX12_pair_11 : decode cX12_pair 11 = .ok (.ifCond .ne 6, 3) := by decide +kernel
theorem dX12_pair_14 : decode cX12_pair 14 = .ok (.bipush (-2), 2) := by decide +kernel
theorem dX12_pair_16 : decode cX12_pair 16 = .ok (.ireturn, 1) := by decide +kernel
theorem dX12_pair_17 : decode cX12_pair 17 = .ok (.iload_n 2, 1) := by decide +kernel
theorem dX12_pair_18 : decode cX12_pair 18 = .ok (.tableswitch 72 0 3 #[30, 40, 50, 62], 30) := by decide +kernel
theorem dX12_pair_48 : decode cX12_pair 48 = .ok (.aload_n 0, 1) := by decide +kernel
theorem dX12_pair_49 : decode cX12_pair 49 = .ok (.getfield 13, 3) := by decide +kernel
theorem dX12_pair_52 : decode cX12_pair 52 = .ok (.bipush 15, 2) := by decide +kernel
theorem dX12_pair_54 : decode cX12_pair 54 = .ok (.iload_n 1, 1) := by decide +kernel
theorem dX12_pair_55 : decode cX12_pair 55 = .ok (.iadd, 1) := by decide +kernel
theorem dX12_pair_56 : decode cX12_pair 56 = .ok (.iaload, 1) := by decide +kernel
theorem dX12_pair_57 : decode cX12_pair 57 = .ok (.ireturn, 1) := by decide +kernel
theorem dX12_pair_58 : decode cX12_pair 58 = .ok (.aload_n 0, 1) := by decide +kernel
theorem dX12_pair_59 : decode cX12_pair 59 = .ok (.getfield 13, 3) := by decide +kernel
theorem dX12_pair_62 : decode cX12_pair 62 = .ok (.bipush 19, 2) := by decide +kernel
theorem dX12_pair_64 : decode cX12_pair 64 = .ok (.iload_n 1, 1) := by decide +kernel
theorem dX12_pair_65 : decode cX12_pair 65 = .ok (.iadd, 1) := by decide +kernel
theorem dX12_pair_66 : decode cX12_pair 66 = .ok (.iaload, 1) := by decide +kernel
theorem dX12_pair_67 : decode cX12_pair 67 = .ok (.ireturn, 1) := by decide +kernel
theorem dX12_pair_68 : decode cX12_pair 68 = .ok (.aload_n 0, 1) := by decide +kernel
theorem dX12_pair_69 : decode cX12_pair 69 = .ok (.getfield 13, 3) := by decide +kernel
theorem dX12_pair_72 : decode cX12_pair 72 = .ok (.bipush 23, 2) := by decide +kernel
theorem dX12_pair_74 : decode cX12_pair 74 = .ok (.iaload, 1) := by decide +kernel
theorem dX12_pair_75 : decode cX12_pair 75 = .ok (.iload_n 1, 1) := by decide +kernel
theorem dX12_pair_76 : decode cX12_pair 76 = .ok (.invokestatic 248, 3) := by decide +kernel
theorem dX12_pair_79 : decode cX12_pair 79 = .ok (.ireturn, 1) := by decide +kernel
theorem dX12_pair_80 : decode cX12_pair 80 = .ok (.aload_n 0, 1) := by decide +kernel
theorem dX12_pair_81 : decode cX12_pair 81 = .ok (.getfield 13, 3) := by decide +kernel
theorem dX12_pair_84 : decode cX12_pair 84 = .ok (.bipush 11, 2) := by decide +kernel
theorem dX12_pair_86 : decode cX12_pair 86 = .ok (.iload_n 1, 1) := by decide +kernel
theorem dX12_pair_87 : decode cX12_pair 87 = .ok (.iadd, 1) := by decide +kernel
theorem dX12_pair_88 : decode cX12_pair 88 = .ok (.iaload, 1) := by decide +kernel
theorem dX12_pair_89 : decode cX12_pair 89 = .ok (.ireturn, 1) := by decide +kernel
theorem dX12_pair_90 : decode cX12_pair 90 = .ok (.bipush (-2), 2) := by decide +kernel
theorem dX12_pair_92 : decode cX12_pair 92 = .ok (.ireturn, 1) := by decide +kernel
theorem dX12_grown_0 : decode cX12_grown 0 = .ok (.aload_n 0, 1) := by decide +kernel
theorem dX12_grown_1 : decode cX12_grown 1 = .ok (.iconst 0, 1) := by decide +kernel
theorem dX12_grown_2 : decode cX12_grown 2 = .ok (.putfield 1, 3) := by decide +kernel
theorem dX12_grown_5 : decode cX12_grown 5 = .ok (.aload_n 0, 1) := by decide +kernel
theorem dX12_grown_6 : decode cX12_grown 6 = .ok (.iload_n 1, 1) := by decide +kernel
theorem dX12_grown_7 : decode cX12_grown 7 = .ok (.i2l, 1) := by decide +kernel
theorem dX12_grown_8 : decode cX12_grown 8 = .ok (.invokevirtual 271, 3) := by decide +kernel
theorem dX12_grown_11 : decode cX12_grown 11 = .ok (.ifCond .ne 7, 3) := by decide +kernel
theorem dX12_grown_14 : decode cX12_grown 14 = .ok (.ldc_w 275, 3) := by decide +kernel
theorem dX12_grown_17 : decode cX12_grown 17 = .ok (.ireturn, 1) := by decide +kernel
theorem dX12_grown_18 : decode cX12_grown 18 = .ok (.iload_n 2, 1) := by decide +kernel
theorem dX12_grown_19 : decode cX12_grown 19 = .ok (.i2l, 1) := by decide +kernel
theorem dX12_grown_20 : decode cX12_grown 20 = .ok (.lconst 0, 1) := by decide +kernel
theorem dX12_grown_21 : decode cX12_grown 21 = .ok (.ldc2_w 276, 3) := by decide +kernel
theorem dX12_grown_24 : decode cX12_grown 24 = .ok (.invokestatic 155, 3) := by decide +kernel
theorem dX12_grown_27 : decode cX12_grown 27 = .ok (.ifCond .eq 11, 3) := by decide +kernel
theorem dX12_grown_30 : decode cX12_grown 30 = .ok (.iload_n 3, 1) := by decide +kernel
theorem dX12_grown_31 : decode cX12_grown 31 = .ok (.i2l, 1) := by decide +kernel
theorem dX12_grown_32 : decode cX12_grown 32 = .ok (.invokestatic 278, 3) := by decide +kernel
theorem dX12_grown_35 : decode cX12_grown 35 = .ok (.ifCond .ne 7, 3) := by decide +kernel
theorem dX12_grown_38 : decode cX12_grown 38 = .ok (.ldc_w 281, 3) := by decide +kernel
theorem dX12_grown_41 : decode cX12_grown 41 = .ok (.ireturn, 1) := by decide +kernel
theorem dX12_grown_42 : decode cX12_grown 42 = .ok (.aload_n 0, 1) := by decide +kernel
theorem dX12_grown_43 : decode cX12_grown 43 = .ok (.getfield 13, 3) := by decide +kernel
theorem dX12_grown_46 : decode cX12_grown 46 = .ok (.bipush 15, 2) := by decide +kernel
theorem dX12_grown_48 : decode cX12_grown 48 = .ok (.iload_n 1, 1) := by decide +kernel
theorem dX12_grown_49 : decode cX12_grown 49 = .ok (.iadd, 1) := by decide +kernel
theorem dX12_grown_50 : decode cX12_grown 50 = .ok (.iaload, 1) := by decide +kernel
theorem dX12_grown_51 : decode cX12_grown 51 = .ok (.ifCond .ne 7, 3) := by decide +kernel
theorem dX12_grown_54 : decode cX12_grown 54 = .ok (.iconst 0, 1) := by decide +kernel
theorem dX12_grown_55 : decode cX12_grown 55 = .ok (.goto 39, 3) := by decide +kernel
theorem dX12_grown_58 : decode cX12_grown 58 = .ok (.aload_n 0, 1) := by decide +kernel
theorem dX12_grown_59 : decode cX12_grown 59 = .ok (.iload_n 1, 1) := by decide +kernel
theorem dX12_grown_60 : decode cX12_grown 60 = .ok (.aload_n 0, 1) := by decide +kernel
theorem dX12_grown_61 : decode cX12_grown 61 = .ok (.getfield 13, 3) := by decide +kernel
theorem dX12_grown_64 : decode cX12_grown 64 = .ok (.bipush 19, 2) := by decide +kernel
theorem dX12_grown_66 : decode cX12_grown 66 = .ok (.iload_n 1, 1) := by decide +kernel
theorem dX12_grown_67 : decode cX12_grown 67 = .ok (.iadd, 1) := by decide +kernel
theorem dX12_grown_68 : decode cX12_grown 68 = .ok (.iaload, 1) := by decide +kernel
theorem dX12_grown_69 : decode cX12_grown 69 = .ok (.iload_n 2, 1) := by decide +kernel
theorem dX12_grown_70 : decode cX12_grown 70 = .ok (.aload_n 0, 1) := by decide +kernel
theorem dX12_grown_71 : decode cX12_grown 71 = .ok (.getfield 13, 3) := by decide +kernel
theorem dX12_grown_74 : decode cX12_grown 74 = .ok (.bipush 15, 2) := by decide +kernel
theorem dX12_grown_76 : decode cX12_grown 76 = .ok (.iload_n 1, 1) := by decide +kernel
theorem dX12_grown_77 : decode cX12_grown 77 = .ok (.iadd, 1) := by decide +kernel
theorem dX12_grown_78 : decode cX12_grown 78 = .ok (.iaload, 1) := by decide +kernel
theorem dX12_grown_79 : decode cX12_grown 79 = .ok (.aload_n 0, 1) := by decide +kernel
theorem dX12_grown_80 : decode cX12_grown 80 = .ok (.aload_n 0, 1) := by decide +kernel
theorem dX12_grown_81 : decode cX12_grown 81 = .ok (.invokevirtual 282, 3) := by decide +kernel
theorem dX12_grown_84 : decode cX12_grown 84 = .ok (.invokevirtual 233, 3) := by decide +kernel
theorem dX12_grown_87 : decode cX12_grown 87 = .ok (.invokestatic 236, 3) := by decide +kernel
theorem dX12_grown_90 : decode cX12_grown 90 = .ok (.iload_n 3, 1) := by decide +kernel
theorem dX12_grown_91 : decode cX12_grown 91 = .ok (.invokevirtual 251, 3) := by decide +kernel
theorem dX12_grown_94 : decode cX12_grown 94 = .ok (.ireturn, 1) := by decide +kernel
theorem dX12_laysLeads_0 : decode cX12_laysLeads 0 = .ok (.aload_n 0, 1) := by decide +kernel
theorem dX12_laysLeads_1 : decode cX12_laysLeads 1 = .ok (.iconst 0, 1) := by decide +kernel
theorem dX12_laysLeads_2 : decode cX12_laysLeads 2 = .ok (.putfield 285, 3) := by decide +kernel
theorem dX12_laysLeads_5 : decode cX12_laysLeads 5 = .ok (.iconst 0, 1) := by decide +kernel
theorem dX12_laysLeads_6 : decode cX12_laysLeads 6 = .ok (.istore_n 1, 1) := by decide +kernel
theorem dX12_laysLeads_7 : decode cX12_laysLeads 7 = .ok (.iload_n 1, 1) := by decide +kernel
theorem dX12_laysLeads_8 : decode cX12_laysLeads 8 = .ok (.sipush 625, 3) := by decide +kernel
theorem dX12_laysLeads_11 : decode cX12_laysLeads 11 = .ok (.if_icmp .ge 41, 3) := by decide +kernel
theorem dX12_laysLeads_14 : decode cX12_laysLeads 14 = .ok (.aload_n 0, 1) := by decide +kernel
theorem dX12_laysLeads_15 : decode cX12_laysLeads 15 = .ok (.iload_n 1, 1) := by decide +kernel
theorem dX12_laysLeads_16 : decode cX12_laysLeads 16 = .ok (.i2l, 1) := by decide +kernel
theorem dX12_laysLeads_17 : decode cX12_laysLeads 17 = .ok (.invokevirtual 288, 3) := by decide +kernel
theorem dX12_laysLeads_20 : decode cX12_laysLeads 20 = .ok (.ifCond .ne 6, 3) := by decide +kernel
theorem dX12_laysLeads_23 : decode cX12_laysLeads 23 = .ok (.goto 23, 3) := by decide +kernel
theorem dX12_laysLeads_26 : decode cX12_laysLeads 26 = .ok (.aload_n 0, 1) := by decide +kernel
theorem dX12_laysLeads_27 : decode cX12_laysLeads 27 = .ok (.getfield 42, 3) := by decide +kernel
theorem dX12_laysLeads_30 : decode cX12_laysLeads 30 = .ok (.aload_n 0, 1) := by decide +kernel
theorem dX12_laysLeads_31 : decode cX12_laysLeads 31 = .ok (.getfield 285, 3) := by decide +kernel
theorem dX12_laysLeads_34 : decode cX12_laysLeads 34 = .ok (.iload_n 1, 1) := by decide +kernel
theorem dX12_laysLeads_35 : decode cX12_laysLeads 35 = .ok (.iastore, 1) := by decide +kernel
theorem dX12_laysLeads_36 : decode cX12_laysLeads 36 = .ok (.aload_n 0, 1) := by decide +kernel
theorem dX12_laysLeads_37 : decode cX12_laysLeads 37 = .ok (.dup, 1) := by decide +kernel
theorem dX12_laysLeads_38 : decode cX12_laysLeads 38 = .ok (.getfield 285, 3) := by decide +kernel
theorem dX12_laysLeads_41 : decode cX12_laysLeads 41 = .ok (.iconst 1, 1) := by decide +kernel
theorem dX12_laysLeads_42 : decode cX12_laysLeads 42 = .ok (.iadd, 1) := by decide +kernel
theorem dX12_laysLeads_43 : decode cX12_laysLeads 43 = .ok (.putfield 285, 3) := by decide +kernel
theorem dX12_laysLeads_46 : decode cX12_laysLeads 46 = .ok (.iinc 1 1, 3) := by decide +kernel
theorem dX12_laysLeads_49 : decode cX12_laysLeads 49 = .ok (.goto (-42), 3) := by decide +kernel
theorem dX12_laysLeads_52 : decode cX12_laysLeads 52 = .ok (.return_, 1) := by decide +kernel
theorem dX12_leadings_0 : decode cX12_leadings 0 = .ok (.aload_n 0, 1) := by decide +kernel
theorem dX12_leadings_1 : decode cX12_leadings 1 = .ok (.iconst 0, 1) := by decide +kernel
theorem dX12_leadings_2 : decode cX12_leadings 2 = .ok (.putfield 1, 3) := by decide +kernel
theorem dX12_leadings_5 : decode cX12_leadings 5 = .ok (.aload_n 0, 1) := by decide +kernel
theorem dX12_leadings_6 : decode cX12_leadings 6 = .ok (.invokevirtual 291, 3) := by decide +kernel
theorem dX12_leadings_9 : decode cX12_leadings 9 = .ok (.aload_n 0, 1) := by decide +kernel
theorem dX12_leadings_10 : decode cX12_leadings 10 = .ok (.getfield 285, 3) := by decide +kernel
theorem dX12_leadings_13 : decode cX12_leadings 13 = .ok (.ireturn, 1) := by decide +kernel
theorem dX12_keeps_0 : decode cX12_keeps 0 = .ok (.iconst 0, 1) := by decide +kernel
theorem dX12_keeps_1 : decode cX12_keeps 1 = .ok (.istore_n 1, 1) := by decide +kernel
theorem dX12_keeps_2 : decode cX12_keeps 2 = .ok (.iload_n 1, 1) := by decide +kernel
theorem dX12_keeps_3 : decode cX12_keeps 3 = .ok (.bipush 11, 2) := by decide +kernel
theorem dX12_keeps_5 : decode cX12_keeps 5 = .ok (.if_icmp .ge 24, 3) := by decide +kernel
theorem dX12_keeps_8 : decode cX12_keeps 8 = .ok (.aload_n 0, 1) := by decide +kernel
theorem dX12_keeps_9 : decode cX12_keeps 9 = .ok (.getfield 45, 3) := by decide +kernel
theorem dX12_keeps_12 : decode cX12_keeps 12 = .ok (.iload_n 1, 1) := by decide +kernel
theorem dX12_keeps_13 : decode cX12_keeps 13 = .ok (.aload_n 0, 1) := by decide +kernel
theorem dX12_keeps_14 : decode cX12_keeps 14 = .ok (.getfield 13, 3) := by decide +kernel
theorem dX12_keeps_17 : decode cX12_keeps 17 = .ok (.bipush 15, 2) := by decide +kernel
theorem dX12_keeps_19 : decode cX12_keeps 19 = .ok (.iload_n 1, 1) := by decide +kernel
theorem dX12_keeps_20 : decode cX12_keeps 20 = .ok (.iadd, 1) := by decide +kernel
theorem dX12_keeps_21 : decode cX12_keeps 21 = .ok (.iaload, 1) := by decide +kernel
theorem dX12_keeps_22 : decode cX12_keeps 22 = .ok (.iastore, 1) := by decide +kernel
theorem dX12_keeps_23 : decode cX12_keeps 23 = .ok (.iinc 1 1, 3) := by decide +kernel
theorem dX12_keeps_26 : decode cX12_keeps 26 = .ok (.goto (-24), 3) := by decide +kernel
theorem dX12_keeps_29 : decode cX12_keeps 29 = .ok (.return_, 1) := by decide +kernel
theorem dX12_isAgain_0 : decode cX12_isAgain 0 = .ok (.iconst 0, 1) := by decide +kernel
theorem dX12_isAgain_1 : decode cX12_isAgain 1 = .ok (.istore_n 1, 1) := by decide +kernel
theorem dX12_isAgain_2 : decode cX12_isAgain 2 = .ok (.iload_n 1, 1) := by decide +kernel
theorem dX12_isAgain_3 : decode cX12_isAgain 3 = .ok (.bipush 11, 2) := by decide +kernel
theorem dX12_isAgain_5 : decode cX12_isAgain 5 = .ok (.if_icmp .ge 24, 3) := by decide +kernel
theorem dX12_isAgain_8 : decode cX12_isAgain 8 = .ok (.aload_n 0, 1) := by decide +kernel
theorem dX12_isAgain_9 : decode cX12_isAgain 9 = .ok (.getfield 13, 3) := by decide +kernel
theorem dX12_isAgain_12 : decode cX12_isAgain 12 = .ok (.bipush 15, 2) := by decide +kernel
theorem dX12_isAgain_14 : decode cX12_isAgain 14 = .ok (.iload_n 1, 1) := by decide +kernel
theorem dX12_isAgain_15 : decode cX12_isAgain 15 = .ok (.iadd, 1) := by decide +kernel
theorem dX12_isAgain_16 : decode cX12_isAgain 16 = .ok (.aload_n 0, 1) := by decide +kernel
theorem dX12_isAgain_17 : decode cX12_isAgain 17 = .ok (.getfield 45, 3) := by decide +kernel
theorem dX12_isAgain_20 : decode cX12_isAgain 20 = .ok (.iload_n 1, 1) := by decide +kernel
theorem dX12_isAgain_21 : decode cX12_isAgain 21 = .ok (.iaload, 1) := by decide +kernel
theorem dX12_isAgain_22 : decode cX12_isAgain 22 = .ok (.iastore, 1) := by decide +kernel
theorem dX12_isAgain_23 : decode cX12_isAgain 23 = .ok (.iinc 1 1, 3) := by decide +kernel
theorem dX12_isAgain_26 : decode cX12_isAgain 26 = .ok (.goto (-24), 3) := by decide +kernel
theorem dX12_isAgain_29 : decode cX12_isAgain 29 = .ok (.return_, 1) := by decide +kernel
