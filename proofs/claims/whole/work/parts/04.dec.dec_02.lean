theorem dX8_spreadPart_107 : decode cX8_spreadPart 107 = .ok (.iconst 2, 1) := by decide +kernel
theorem dX8_spreadPart_108 : decode cX8_spreadPart 108 = .ok (.irem, 1) := by decide +kernel
theorem dX8_spreadPart_109 : decode cX8_spreadPart 109 = .ok (.ifCond .ne 7, 3) := by decide +kernel
theorem dX8_spreadPart_112 : decode cX8_spreadPart 112 = .ok (.iconst 1, 1) := by decide +kernel
theorem dX8_spreadPart_113 : decode cX8_spreadPart 113 = .ok (.goto 4, 3) := by decide +kernel
theorem dX8_spreadPart_116 : decode cX8_spreadPart 116 = .ok (.iconst 0, 1) := by decide +kernel
theorem dX8_spreadPart_117 : decode cX8_spreadPart 117 = .ok (.istore 6, 2) := by decide +kernel
theorem dX8_spreadPart_119 : decode cX8_spreadPart 119 = .ok (.aload_n 0, 1) := by decide +kernel
theorem dX8_spreadPart_120 : decode cX8_spreadPart 120 = .ok (.getfield 9, 3) := by decide +kernel
theorem dX8_spreadPart_123 : decode cX8_spreadPart 123 = .ok (.iload_n 2, 1) := by decide +kernel
theorem dX8_spreadPart_124 : decode cX8_spreadPart 124 = .ok (.iconst 1, 1) := by decide +kernel
theorem dX8_spreadPart_125 : decode cX8_spreadPart 125 = .ok (.iadd, 1) := by decide +kernel
theorem dX8_spreadPart_126 : decode cX8_spreadPart 126 = .ok (.iload 5, 2) := by decide +kernel
theorem dX8_spreadPart_128 : decode cX8_spreadPart 128 = .ok (.ifCond .eq 14, 3) := by decide +kernel
theorem dX8_spreadPart_131 : decode cX8_spreadPart 131 = .ok (.iload 6, 2) := by decide +kernel
theorem dX8_spreadPart_133 : decode cX8_spreadPart 133 = .ok (.ifCond .eq 9, 3) := by decide +kernel
theorem dX8_spreadPart_136 : decode cX8_spreadPart 136 = .ok (.iload_n 3, 1) := by decide +kernel
theorem dX8_spreadPart_137 : decode cX8_spreadPart 137 = .ok (.iconst 2, 1) := by decide +kernel
theorem dX8_spreadPart_138 : decode cX8_spreadPart 138 = .ok (.idiv, 1) := by decide +kernel
theorem dX8_spreadPart_139 : decode cX8_spreadPart 139 = .ok (.goto 4, 3) := by decide +kernel
theorem dX8_spreadPart_142 : decode cX8_spreadPart 142 = .ok (.iconst (-1), 1) := by decide +kernel
theorem dX8_spreadPart_143 : decode cX8_spreadPart 143 = .ok (.iastore, 1) := by decide +kernel
theorem dX8_spreadPart_144 : decode cX8_spreadPart 144 = .ok (.aload_n 0, 1) := by decide +kernel
theorem dX8_spreadPart_145 : decode cX8_spreadPart 145 = .ok (.getfield 9, 3) := by decide +kernel
theorem dX8_spreadPart_148 : decode cX8_spreadPart 148 = .ok (.aload_n 1, 1) := by decide +kernel
theorem dX8_spreadPart_149 : decode cX8_spreadPart 149 = .ok (.getfield 39, 3) := by decide +kernel
theorem dX8_spreadPart_152 : decode cX8_spreadPart 152 = .ok (.iload_n 2, 1) := by decide +kernel
theorem dX8_spreadPart_153 : decode cX8_spreadPart 153 = .ok (.iconst 1, 1) := by decide +kernel
theorem dX8_spreadPart_154 : decode cX8_spreadPart 154 = .ok (.iadd, 1) := by decide +kernel
theorem dX8_spreadPart_155 : decode cX8_spreadPart 155 = .ok (.iaload, 1) := by decide +kernel
theorem dX8_spreadPart_156 : decode cX8_spreadPart 156 = .ok (.iload 5, 2) := by decide +kernel
theorem dX8_spreadPart_158 : decode cX8_spreadPart 158 = .ok (.ifCond .eq 14, 3) := by decide +kernel
theorem dX8_spreadPart_161 : decode cX8_spreadPart 161 = .ok (.iload 6, 2) := by decide +kernel
theorem dX8_spreadPart_163 : decode cX8_spreadPart 163 = .ok (.ifCond .ne 9, 3) := by decide +kernel
theorem dX8_spreadPart_166 : decode cX8_spreadPart 166 = .ok (.iload_n 3, 1) := by decide +kernel
theorem dX8_spreadPart_167 : decode cX8_spreadPart 167 = .ok (.iconst 2, 1) := by decide +kernel
theorem dX8_spreadPart_168 : decode cX8_spreadPart 168 = .ok (.idiv, 1) := by decide +kernel
theorem dX8_spreadPart_169 : decode cX8_spreadPart 169 = .ok (.goto 4, 3) := by decide +kernel
theorem dX8_spreadPart_172 : decode cX8_spreadPart 172 = .ok (.iconst (-1), 1) := by decide +kernel
theorem dX8_spreadPart_173 : decode cX8_spreadPart 173 = .ok (.iastore, 1) := by decide +kernel
theorem dX8_spreadPart_174 : decode cX8_spreadPart 174 = .ok (.goto 106, 3) := by decide +kernel
theorem dX8_spreadPart_177 : decode cX8_spreadPart 177 = .ok (.aload_n 0, 1) := by decide +kernel
theorem dX8_spreadPart_178 : decode cX8_spreadPart 178 = .ok (.getfield 9, 3) := by decide +kernel
theorem dX8_spreadPart_181 : decode cX8_spreadPart 181 = .ok (.iload_n 2, 1) := by decide +kernel
theorem dX8_spreadPart_182 : decode cX8_spreadPart 182 = .ok (.iconst 1, 1) := by decide +kernel
theorem dX8_spreadPart_183 : decode cX8_spreadPart 183 = .ok (.iadd, 1) := by decide +kernel
theorem dX8_spreadPart_184 : decode cX8_spreadPart 184 = .ok (.iload 5, 2) := by decide +kernel
theorem dX8_spreadPart_186 : decode cX8_spreadPart 186 = .ok (.ifCond .eq 9, 3) := by decide +kernel
theorem dX8_spreadPart_189 : decode cX8_spreadPart 189 = .ok (.iload_n 3, 1) := by decide +kernel
theorem dX8_spreadPart_190 : decode cX8_spreadPart 190 = .ok (.iconst 1, 1) := by decide +kernel
theorem dX8_spreadPart_191 : decode cX8_spreadPart 191 = .ok (.iadd, 1) := by decide +kernel
theorem dX8_spreadPart_192 : decode cX8_spreadPart 192 = .ok (.goto 4, 3) := by decide +kernel
theorem dX8_spreadPart_195 : decode cX8_spreadPart 195 = .ok (.iconst (-1), 1) := by decide +kernel
theorem dX8_spreadPart_196 : decode cX8_spreadPart 196 = .ok (.iastore, 1) := by decide +kernel
theorem dX8_spreadPart_197 : decode cX8_spreadPart 197 = .ok (.goto 83, 3) := by decide +kernel
theorem dX8_spreadPart_200 : decode cX8_spreadPart 200 = .ok (.aload_n 0, 1) := by decide +kernel
theorem dX8_spreadPart_201 : decode cX8_spreadPart 201 = .ok (.getfield 9, 3) := by decide +kernel
theorem dX8_spreadPart_204 : decode cX8_spreadPart 204 = .ok (.iload_n 2, 1) := by decide +kernel
theorem dX8_spreadPart_205 : decode cX8_spreadPart 205 = .ok (.iconst 1, 1) := by decide +kernel
theorem dX8_spreadPart_206 : decode cX8_spreadPart 206 = .ok (.iadd, 1) := by decide +kernel
theorem dX8_spreadPart_207 : decode cX8_spreadPart 207 = .ok (.iload 5, 2) := by decide +kernel
theorem dX8_spreadPart_209 : decode cX8_spreadPart 209 = .ok (.ifCond .eq 9, 3) := by decide +kernel
theorem dX8_spreadPart_212 : decode cX8_spreadPart 212 = .ok (.iconst 2, 1) := by decide +kernel
theorem dX8_spreadPart_213 : decode cX8_spreadPart 213 = .ok (.iload_n 3, 1) := by decide +kernel
theorem dX8_spreadPart_214 : decode cX8_spreadPart 214 = .ok (.imul, 1) := by decide +kernel
theorem dX8_spreadPart_215 : decode cX8_spreadPart 215 = .ok (.goto 4, 3) := by decide +kernel
theorem dX8_spreadPart_218 : decode cX8_spreadPart 218 = .ok (.iconst (-1), 1) := by decide +kernel
theorem dX8_spreadPart_219 : decode cX8_spreadPart 219 = .ok (.iastore, 1) := by decide +kernel
theorem dX8_spreadPart_220 : decode cX8_spreadPart 220 = .ok (.goto 60, 3) := by decide +kernel
theorem dX8_spreadPart_223 : decode cX8_spreadPart 223 = .ok (.aload_n 0, 1) := by decide +kernel
theorem dX8_spreadPart_224 : decode cX8_spreadPart 224 = .ok (.getfield 9, 3) := by decide +kernel
theorem dX8_spreadPart_227 : decode cX8_spreadPart 227 = .ok (.iload_n 2, 1) := by decide +kernel
theorem dX8_spreadPart_228 : decode cX8_spreadPart 228 = .ok (.iconst 1, 1) := by decide +kernel
theorem dX8_spreadPart_229 : decode cX8_spreadPart 229 = .ok (.iadd, 1) := by decide +kernel
theorem dX8_spreadPart_230 : decode cX8_spreadPart 230 = .ok (.iload 5, 2) := by decide +kernel
theorem dX8_spreadPart_232 : decode cX8_spreadPart 232 = .ok (.ifCond .eq 11, 3) := by decide +kernel
theorem dX8_spreadPart_235 : decode cX8_spreadPart 235 = .ok (.iconst 2, 1) := by decide +kernel
theorem dX8_spreadPart_236 : decode cX8_spreadPart 236 = .ok (.iload_n 3, 1) := by decide +kernel
theorem dX8_spreadPart_237 : decode cX8_spreadPart 237 = .ok (.imul, 1) := by decide +kernel
theorem dX8_spreadPart_238 : decode cX8_spreadPart 238 = .ok (.iconst 1, 1) := by decide +kernel
theorem dX8_spreadPart_239 : decode cX8_spreadPart 239 = .ok (.iadd, 1) := by decide +kernel
theorem dX8_spreadPart_240 : decode cX8_spreadPart 240 = .ok (.goto 4, 3) := by decide +kernel
theorem dX8_spreadPart_243 : decode cX8_spreadPart 243 = .ok (.iconst (-1), 1) := by decide +kernel
theorem dX8_spreadPart_244 : decode cX8_spreadPart 244 = .ok (.iastore, 1) := by decide +kernel
theorem dX8_spreadPart_245 : decode cX8_spreadPart 245 = .ok (.goto 35, 3) := by decide +kernel
theorem dX8_spreadPart_248 : decode cX8_spreadPart 248 = .ok (.iload 4, 2) := by decide +kernel
theorem dX8_spreadPart_250 : decode cX8_spreadPart 250 = .ok (.sipush 128, 3) := by decide +kernel
theorem dX8_spreadPart_253 : decode cX8_spreadPart 253 = .ok (.if_icmp .lt 27, 3) := by decide +kernel
theorem dX8_spreadPart_256 : decode cX8_spreadPart 256 = .ok (.aload_n 0, 1) := by decide +kernel
theorem dX8_spreadPart_257 : decode cX8_spreadPart 257 = .ok (.getfield 9, 3) := by decide +kernel
theorem dX8_spreadPart_260 : decode cX8_spreadPart 260 = .ok (.iload_n 2, 1) := by decide +kernel
theorem dX8_spreadPart_261 : decode cX8_spreadPart 261 = .ok (.iconst 1, 1) := by decide +kernel
theorem dX8_spreadPart_262 : decode cX8_spreadPart 262 = .ok (.iadd, 1) := by decide +kernel
theorem dX8_spreadPart_263 : decode cX8_spreadPart 263 = .ok (.iload 5, 2) := by decide +kernel
theorem dX8_spreadPart_265 : decode cX8_spreadPart 265 = .ok (.ifCond .eq 13, 3) := by decide +kernel
theorem dX8_spreadPart_268 : decode cX8_spreadPart 268 = .ok (.iload_n 3, 1) := by decide +kernel
theorem dX8_spreadPart_269 : decode cX8_spreadPart 269 = .ok (.ifCond .le 9, 3) := by decide +kernel
theorem dX8_spreadPart_272 : decode cX8_spreadPart 272 = .ok (.iload_n 3, 1) := by decide +kernel
theorem dX8_spreadPart_273 : decode cX8_spreadPart 273 = .ok (.iconst 1, 1) := by decide +kernel
theorem dX8_spreadPart_274 : decode cX8_spreadPart 274 = .ok (.isub, 1) := by decide +kernel
theorem dX8_spreadPart_275 : decode cX8_spreadPart 275 = .ok (.goto 4, 3) := by decide +kernel
theorem dX8_spreadPart_278 : decode cX8_spreadPart 278 = .ok (.iconst (-1), 1) := by decide +kernel
theorem dX8_spreadPart_279 : decode cX8_spreadPart 279 = .ok (.iastore, 1) := by decide +kernel
theorem dX8_spreadPart_280 : decode cX8_spreadPart 280 = .ok (.return_, 1) := by decide +kernel
theorem dX8_isNeeded_0 : decode cX8_isNeeded 0 = .ok (.aload_n 0, 1) := by decide +kernel
theorem dX8_isNeeded_1 : decode cX8_isNeeded 1 = .ok (.getfield 9, 3) := by decide +kernel
theorem dX8_isNeeded_4 : decode cX8_isNeeded 4 = .ok (.iload_n 1, 1) := by decide +kernel
theorem dX8_isNeeded_5 : decode cX8_isNeeded 5 = .ok (.iaload, 1) := by decide +kernel
theorem dX8_isNeeded_6 : decode cX8_isNeeded 6 = .ok (.iconst (-1), 1) := by decide +kernel
theorem dX8_isNeeded_7 : decode cX8_isNeeded 7 = .ok (.if_icmp .eq 7, 3) := by decide +kernel
theorem dX8_isNeeded_10 : decode cX8_isNeeded 10 = .ok (.iconst 1, 1) := by decide +kernel
theorem dX8_isNeeded_11 : decode cX8_isNeeded 11 = .ok (.goto 4, 3) := by decide +kernel
theorem dX8_isNeeded_14 : decode cX8_isNeeded 14 = .ok (.iconst 0, 1) := by decide +kernel
theorem dX8_isNeeded_15 : decode cX8_isNeeded 15 = .ok (.ireturn, 1) := by decide +kernel
theorem dX8_evaluate_0 : decode cX8_evaluate 0 = .ok (.aload_n 1, 1) := by decide +kernel
theorem dX8_evaluate_1 : decode cX8_evaluate 1 = .ok (.getfield 25, 3) := by decide +kernel
theorem dX8_evaluate_4 : decode cX8_evaluate 4 = .ok (.iconst 1, 1) := by decide +kernel
theorem dX8_evaluate_5 : decode cX8_evaluate 5 = .ok (.isub, 1) := by decide +kernel
theorem dX8_evaluate_6 : decode cX8_evaluate 6 = .ok (.istore 4, 2) := by decide +kernel
theorem dX8_evaluate_8 : decode cX8_evaluate 8 = .ok (.iload 4, 2) := by decide +kernel
theorem dX8_evaluate_10 : decode cX8_evaluate 10 = .ok (.ifCond .lt 36, 3) := by decide +kernel
theorem dX8_evaluate_13 : decode cX8_evaluate 13 = .ok (.aload_n 0, 1) := by decide +kernel
theorem dX8_evaluate_14 : decode cX8_evaluate 14 = .ok (.getfield 9, 3) := by decide +kernel
theorem dX8_evaluate_17 : decode cX8_evaluate 17 = .ok (.iload 4, 2) := by decide +kernel
theorem dX8_evaluate_19 : decode cX8_evaluate 19 = .ok (.iaload, 1) := by decide +kernel
theorem dX8_evaluate_20 : decode cX8_evaluate 20 = .ok (.iconst (-1), 1) := by decide +kernel
theorem dX8_evaluate_21 : decode cX8_evaluate 21 = .ok (.if_icmp .eq 19, 3) := by decide +kernel
theorem dX8_evaluate_24 : decode cX8_evaluate 24 = .ok (.aload_n 0, 1) := by decide +kernel
theorem dX8_evaluate_25 : decode cX8_evaluate 25 = .ok (.getfield 15, 3) := by decide +kernel
theorem dX8_evaluate_28 : decode cX8_evaluate 28 = .ok (.iload 4, 2) := by decide +kernel
theorem dX8_evaluate_30 : decode cX8_evaluate 30 = .ok (.aload_n 0, 1) := by decide +kernel
theorem dX8_evaluate_31 : decode cX8_evaluate 31 = .ok (.aload_n 1, 1) := by decide +kernel
theorem dX8_evaluate_32 : decode cX8_evaluate 32 = .ok (.iload 4, 2) := by decide +kernel
theorem dX8_evaluate_34 : decode cX8_evaluate 34 = .ok (.aload_n 2, 1) := by decide +kernel
theorem dX8_evaluate_35 : decode cX8_evaluate 35 = .ok (.iload_n 3, 1) := by decide +kernel
theorem dX8_evaluate_36 : decode cX8_evaluate 36 = .ok (.invokevirtual 44, 3) := by decide +kernel
theorem dX8_evaluate_39 : decode cX8_evaluate 39 = .ok (.iastore, 1) := by decide +kernel
theorem dX8_evaluate_40 : decode cX8_evaluate 40 = .ok (.iinc 4 (-1), 3) := by decide +kernel
theorem dX8_evaluate_43 : decode cX8_evaluate 43 = .ok (.goto (-35), 3) := by decide +kernel
theorem dX8_evaluate_46 : decode cX8_evaluate 46 = .ok (.aload_n 0, 1) := by decide +kernel
theorem dX8_evaluate_47 : decode cX8_evaluate 47 = .ok (.getfield 15, 3) := by decide +kernel
theorem dX8_evaluate_50 : decode cX8_evaluate 50 = .ok (.iconst 0, 1) := by decide +kernel
theorem dX8_evaluate_51 : decode cX8_evaluate 51 = .ok (.iaload, 1) := by decide +kernel
theorem dX8_evaluate_52 : decode cX8_evaluate 52 = .ok (.ireturn, 1) := by decide +kernel
theorem dX8_resultOf_0 : decode cX8_resultOf 0 = .ok (.aload_n 1, 1) := by decide +kernel
theorem dX8_resultOf_1 : decode cX8_resultOf 1 = .ok (.getfield 36, 3) := by decide +kernel
theorem dX8_resultOf_4 : decode cX8_resultOf 4 = .ok (.iload_n 2, 1) := by decide +kernel
theorem dX8_resultOf_5 : decode cX8_resultOf 5 = .ok (.iaload, 1) := by decide +kernel
theorem dX8_resultOf_6 : decode cX8_resultOf 6 = .ok (.istore 5, 2) := by decide +kernel
theorem dX8_resultOf_8 : decode cX8_resultOf 8 = .ok (.iload 5, 2) := by decide +kernel
theorem dX8_resultOf_10 : decode cX8_resultOf 10 = .ok (.lookupswitch 155 #[(42, 84), (43, 58), (101, 146), (111, 146), (116, 146), (122, 110)], 58) := by decide +kernel
theorem dX8_resultOf_68 : decode cX8_resultOf 68 = .ok (.aload_n 0, 1) := by decide +kernel
theorem dX8_resultOf_69 : decode cX8_resultOf 69 = .ok (.getfield 15, 3) := by decide +kernel
theorem dX8_resultOf_72 : decode cX8_resultOf 72 = .ok (.iload_n 2, 1) := by decide +kernel
theorem dX8_resultOf_73 : decode cX8_resultOf 73 = .ok (.iconst 1, 1) := by decide +kernel
theorem dX8_resultOf_74 : decode cX8_resultOf 74 = .ok (.iadd, 1) := by decide +kernel
theorem dX8_resultOf_75 : decode cX8_resultOf 75 = .ok (.iaload, 1) := by decide +kernel
theorem dX8_resultOf_76 : decode cX8_resultOf 76 = .ok (.aload_n 0, 1) := by decide +kernel
theorem dX8_resultOf_77 : decode cX8_resultOf 77 = .ok (.getfield 15, 3) := by decide +kernel
theorem dX8_resultOf_80 : decode cX8_resultOf 80 = .ok (.aload_n 1, 1) := by decide +kernel
theorem dX8_resultOf_81 : decode cX8_resultOf 81 = .ok (.getfield 39, 3) := by decide +kernel
theorem dX8_resultOf_84 : decode cX8_resultOf 84 = .ok (.iload_n 2, 1) := by decide +kernel
theorem dX8_resultOf_85 : decode cX8_resultOf 85 = .ok (.iconst 1, 1) := by decide +kernel
theorem dX8_resultOf_86 : decode cX8_resultOf 86 = .ok (.iadd, 1) := by decide +kernel
theorem dX8_resultOf_87 : decode cX8_resultOf 87 = .ok (.iaload, 1) := by decide +kernel
theorem dX8_resultOf_88 : decode cX8_resultOf 88 = .ok (.iaload, 1) := by decide +kernel
theorem dX8_resultOf_89 : decode cX8_resultOf 89 = .ok (.iadd, 1) := by decide +kernel
theorem dX8_resultOf_90 : decode cX8_resultOf 90 = .ok (.iload 4, 2) := by decide +kernel
theorem dX8_resultOf_92 : decode cX8_resultOf 92 = .ok (.irem, 1) := by decide +kernel
theorem dX8_resultOf_93 : decode cX8_resultOf 93 = .ok (.ireturn, 1) := by decide +kernel
theorem dX8_resultOf_94 : decode cX8_resultOf 94 = .ok (.aload_n 0, 1) := by decide +kernel
theorem dX8_resultOf_95 : decode cX8_resultOf 95 = .ok (.getfield 15, 3) := by decide +kernel
theorem dX8_resultOf_98 : decode cX8_resultOf 98 = .ok (.iload_n 2, 1) := by decide +kernel
theorem dX8_resultOf_99 : decode cX8_resultOf 99 = .ok (.iconst 1, 1) := by decide +kernel
theorem dX8_resultOf_100 : decode cX8_resultOf 100 = .ok (.iadd, 1) := by decide +kernel
theorem dX8_resultOf_101 : decode cX8_resultOf 101 = .ok (.iaload, 1) := by decide +kernel
theorem dX8_resultOf_102 : decode cX8_resultOf 102 = .ok (.aload_n 0, 1) := by decide +kernel
theorem dX8_resultOf_103 : decode cX8_resultOf 103 = .ok (.getfield 15, 3) := by decide +kernel
theorem dX8_resultOf_106 : decode cX8_resultOf 106 = .ok (.aload_n 1, 1) := by decide +kernel
theorem dX8_resultOf_107 : decode cX8_resultOf 107 = .ok (.getfield 39, 3) := by decide +kernel
theorem dX8_resultOf_110 : decode cX8_resultOf 110 = .ok (.iload_n 2, 1) := by decide +kernel
theorem dX8_resultOf_111 : decode cX8_resultOf 111 = .ok (.iconst 1, 1) := by decide +kernel
theorem dX8_resultOf_112 : decode cX8_resultOf 112 = .ok (.iadd, 1) := by decide +kernel
theorem dX8_resultOf_113 : decode cX8_resultOf 113 = .ok (.iaload, 1) := by decide +kernel
theorem dX8_resultOf_114 : decode cX8_resultOf 114 = .ok (.iaload, 1) := by decide +kernel
theorem dX8_resultOf_115 : decode cX8_resultOf 115 = .ok (.imul, 1) := by decide +kernel
theorem dX8_resultOf_116 : decode cX8_resultOf 116 = .ok (.iload 4, 2) := by decide +kernel
theorem dX8_resultOf_118 : decode cX8_resultOf 118 = .ok (.irem, 1) := by decide +kernel
theorem dX8_resultOf_119 : decode cX8_resultOf 119 = .ok (.ireturn, 1) := by decide +kernel
theorem dX8_resultOf_120 : decode cX8_resultOf 120 = .ok (.aload_n 0, 1) := by decide +kernel
theorem dX8_resultOf_121 : decode cX8_resultOf 121 = .ok (.getfield 9, 3) := by decide +kernel
theorem dX8_resultOf_124 : decode cX8_resultOf 124 = .ok (.iload_n 2, 1) := by decide +kernel
theorem dX8_resultOf_125 : decode cX8_resultOf 125 = .ok (.iaload, 1) := by decide +kernel
theorem dX8_resultOf_126 : decode cX8_resultOf 126 = .ok (.iconst 2, 1) := by decide +kernel
theorem dX8_resultOf_127 : decode cX8_resultOf 127 = .ok (.irem, 1) := by decide +kernel
theorem dX8_resultOf_128 : decode cX8_resultOf 128 = .ok (.ifCond .ne 14, 3) := by decide +kernel
theorem dX8_resultOf_131 : decode cX8_resultOf 131 = .ok (.aload_n 0, 1) := by decide +kernel
theorem dX8_resultOf_132 : decode cX8_resultOf 132 = .ok (.getfield 15, 3) := by decide +kernel
theorem dX8_resultOf_135 : decode cX8_resultOf 135 = .ok (.iload_n 2, 1) := by decide +kernel
theorem dX8_resultOf_136 : decode cX8_resultOf 136 = .ok (.iconst 1, 1) := by decide +kernel
theorem dX8_resultOf_137 : decode cX8_resultOf 137 = .ok (.iadd, 1) := by decide +kernel
theorem dX8_resultOf_138 : decode cX8_resultOf 138 = .ok (.iaload, 1) := by decide +kernel
theorem dX8_resultOf_139 : decode cX8_resultOf 139 = .ok (.goto 16, 3) := by decide +kernel
theorem dX8_resultOf_142 : decode cX8_resultOf 142 = .ok (.aload_n 0, 1) := by decide +kernel
theorem dX8_resultOf_143 : decode cX8_resultOf 143 = .ok (.getfield 15, 3) := by decide +kernel
theorem dX8_resultOf_146 : decode cX8_resultOf 146 = .ok (.aload_n 1, 1) := by decide +kernel
theorem dX8_resultOf_147 : decode cX8_resultOf 147 = .ok (.getfield 39, 3) := by decide +kernel
theorem dX8_resultOf_150 : decode cX8_resultOf 150 = .ok (.iload_n 2, 1) := by decide +kernel
theorem dX8_resultOf_151 : decode cX8_resultOf 151 = .ok (.iconst 1, 1) := by decide +kernel
theorem dX8_resultOf_152 : decode cX8_resultOf 152 = .ok (.iadd, 1) := by decide +kernel
theorem dX8_resultOf_153 : decode cX8_resultOf 153 = .ok (.iaload, 1) := by decide +kernel
theorem dX8_resultOf_154 : decode cX8_resultOf 154 = .ok (.iaload, 1) := by decide +kernel
theorem dX8_resultOf_155 : decode cX8_resultOf 155 = .ok (.ireturn, 1) := by decide +kernel
theorem dX8_resultOf_156 : decode cX8_resultOf 156 = .ok (.aload_n 0, 1) := by decide +kernel
theorem dX8_resultOf_157 : decode cX8_resultOf 157 = .ok (.getfield 15, 3) := by decide +kernel
theorem dX8_resultOf_160 : decode cX8_resultOf 160 = .ok (.iload_n 2, 1) := by decide +kernel
theorem dX8_resultOf_161 : decode cX8_resultOf 161 = .ok (.iconst 1, 1) := by decide +kernel
theorem dX8_resultOf_162 : decode cX8_resultOf 162 = .ok (.iadd, 1) := by decide +kernel
theorem dX8_resultOf_163 : decode cX8_resultOf 163 = .ok (.iaload, 1) := by decide +kernel
theorem dX8_resultOf_164 : decode cX8_resultOf 164 = .ok (.ireturn, 1) := by decide +kernel
theorem dX8_resultOf_165 : decode cX8_resultOf 165 = .ok (.iload 5, 2) := by decide +kernel
theorem dX8_resultOf_167 : decode cX8_resultOf 167 = .ok (.sipush 128, 3) := by decide +kernel
theorem dX8_resultOf_170 : decode cX8_resultOf 170 = .ok (.if_icmp .lt 33, 3) := by decide +kernel
theorem dX8_resultOf_173 : decode cX8_resultOf 173 = .ok (.aload_n 0, 1) := by decide +kernel
theorem dX8_resultOf_174 : decode cX8_resultOf 174 = .ok (.getfield 9, 3) := by decide +kernel
theorem dX8_resultOf_177 : decode cX8_resultOf 177 = .ok (.iload_n 2, 1) := by decide +kernel
theorem dX8_resultOf_178 : decode cX8_resultOf 178 = .ok (.iaload, 1) := by decide +kernel
theorem dX8_resultOf_179 : decode cX8_resultOf 179 = .ok (.ifCond .ne 15, 3) := by decide +kernel
theorem dX8_resultOf_182 : decode cX8_resultOf 182 = .ok (.iload 5, 2) := by decide +kernel
theorem dX8_resultOf_184 : decode cX8_resultOf 184 = .ok (.sipush 128, 3) := by decide +kernel
theorem dX8_resultOf_187 : decode cX8_resultOf 187 = .ok (.isub, 1) := by decide +kernel
theorem dX8_resultOf_188 : decode cX8_resultOf 188 = .ok (.iload 4, 2) := by decide +kernel
theorem dX8_resultOf_190 : decode cX8_resultOf 190 = .ok (.irem, 1) := by decide +kernel
theorem dX8_resultOf_191 : decode cX8_resultOf 191 = .ok (.goto 11, 3) := by decide +kernel
theorem dX8_resultOf_194 : decode cX8_resultOf 194 = .ok (.aload_n 0, 1) := by decide +kernel
theorem dX8_resultOf_195 : decode cX8_resultOf 195 = .ok (.getfield 15, 3) := by decide +kernel
theorem dX8_resultOf_198 : decode cX8_resultOf 198 = .ok (.iload_n 2, 1) := by decide +kernel
theorem dX8_resultOf_199 : decode cX8_resultOf 199 = .ok (.iconst 1, 1) := by decide +kernel
theorem dX8_resultOf_200 : decode cX8_resultOf 200 = .ok (.iadd, 1) := by decide +kernel
theorem dX8_resultOf_201 : decode cX8_resultOf 201 = .ok (.iaload, 1) := by decide +kernel
theorem dX8_resultOf_202 : decode cX8_resultOf 202 = .ok (.ireturn, 1) := by decide +kernel
theorem dX8_resultOf_203 : decode cX8_resultOf 203 = .ok (.iload 5, 2) := by decide +kernel
theorem dX8_resultOf_205 : decode cX8_resultOf 205 = .ok (.bipush 57, 2) := by decide +kernel
theorem dX8_resultOf_207 : decode cX8_resultOf 207 = .ok (.if_icmp .gt 14, 3) := by decide +kernel
theorem dX8_resultOf_210 : decode cX8_resultOf 210 = .ok (.iload 5, 2) := by decide +kernel
theorem dX8_resultOf_212 : decode cX8_resultOf 212 = .ok (.bipush 48, 2) := by decide +kernel
theorem dX8_resultOf_214 : decode cX8_resultOf 214 = .ok (.isub, 1) := by decide +kernel
theorem dX8_resultOf_215 : decode cX8_resultOf 215 = .ok (.iload 4, 2) := by decide +kernel
theorem dX8_resultOf_217 : decode cX8_resultOf 217 = .ok (.irem, 1) := by decide +kernel
theorem dX8_resultOf_218 : decode cX8_resultOf 218 = .ok (.goto 24, 3) := by decide +kernel
theorem dX8_resultOf_221 : decode cX8_resultOf 221 = .ok (.aload_n 3, 1) := by decide +kernel
theorem dX8_resultOf_222 : decode cX8_resultOf 222 = .ok (.iload 5, 2) := by decide +kernel
theorem dX8_resultOf_224 : decode cX8_resultOf 224 = .ok (.bipush 65, 2) := by decide +kernel
theorem dX8_resultOf_226 : decode cX8_resultOf 226 = .ok (.isub, 1) := by decide +kernel
theorem dX8_resultOf_227 : decode cX8_resultOf 227 = .ok (.sipush 400, 3) := by decide +kernel
theorem dX8_resultOf_230 : decode cX8_resultOf 230 = .ok (.imul, 1) := by decide +kernel
theorem dX8_resultOf_231 : decode cX8_resultOf 231 = .ok (.aload_n 0, 1) := by decide +kernel
theorem dX8_resultOf_232 : decode cX8_resultOf 232 = .ok (.getfield 9, 3) := by decide +kernel
theorem dX8_resultOf_235 : decode cX8_resultOf 235 = .ok (.iload_n 2, 1) := by decide +kernel
theorem dX8_resultOf_236 : decode cX8_resultOf 236 = .ok (.iaload, 1) := by decide +kernel
theorem dX8_resultOf_237 : decode cX8_resultOf 237 = .ok (.iadd, 1) := by decide +kernel
theorem dX8_resultOf_238 : decode cX8_resultOf 238 = .ok (.iaload, 1) := by decide +kernel
theorem dX8_resultOf_239 : decode cX8_resultOf 239 = .ok (.bipush 16, 2) := by decide +kernel
theorem dX8_resultOf_241 : decode cX8_resultOf 241 = .ok (.irem, 1) := by decide +kernel
theorem dX8_resultOf_242 : decode cX8_resultOf 242 = .ok (.ireturn, 1) := by decide +kernel
theorem dX8_clearSeen_0 : decode cX8_clearSeen 0 = .ok (.aload_n 0, 1) := by decide +kernel
theorem dX8_clearSeen_1 : decode cX8_clearSeen 1 = .ok (.getfield 21, 3) := by decide +kernel
theorem dX8_clearSeen_4 : decode cX8_clearSeen 4 = .ok (.lconst 0, 1) := by decide +kernel
theorem dX8_clearSeen_5 : decode cX8_clearSeen 5 = .ok (.invokestatic 50, 3) := by decide +kernel
theorem dX8_clearSeen_8 : decode cX8_clearSeen 8 = .ok (.return_, 1) := by decide +kernel
theorem dX8_see_0 : decode cX8_see 0 = .ok (.lconst 1, 1) := by decide +kernel
theorem dX8_see_1 : decode cX8_see 1 = .ok (.iload_n 1, 1) := by decide +kernel
theorem dX8_see_2 : decode cX8_see 2 = .ok (.bipush 64, 2) := by decide +kernel
theorem dX8_see_4 : decode cX8_see 4 = .ok (.irem, 1) := by decide +kernel
theorem dX8_see_5 : decode cX8_see 5 = .ok (.lshl, 1) := by decide +kernel
theorem dX8_see_6 : decode cX8_see 6 = .ok (.lstore_n 2, 1) := by decide +kernel
theorem dX8_see_7 : decode cX8_see 7 = .ok (.aload_n 0, 1) := by decide +kernel
theorem dX8_see_8 : decode cX8_see 8 = .ok (.getfield 21, 3) := by decide +kernel
theorem dX8_see_11 : decode cX8_see 11 = .ok (.iload_n 1, 1) := by decide +kernel
theorem dX8_see_12 : decode cX8_see 12 = .ok (.bipush 64, 2) := by decide +kernel
theorem dX8_see_14 : decode cX8_see 14 = .ok (.idiv, 1) := by decide +kernel
theorem dX8_see_15 : decode cX8_see 15 = .ok (.laload, 1) := by decide +kernel
theorem dX8_see_16 : decode cX8_see 16 = .ok (.lload_n 2, 1) := by decide +kernel
theorem dX8_see_17 : decode cX8_see 17 = .ok (.land, 1) := by decide +kernel
theorem dX8_see_18 : decode cX8_see 18 = .ok (.lconst 0, 1) := by decide +kernel
theorem dX8_see_19 : decode cX8_see 19 = .ok (.lcmp, 1) := by decide +kernel
theorem dX8_see_20 : decode cX8_see 20 = .ok (.ifCond .eq 5, 3) := by decide +kernel
theorem dX8_see_23 : decode cX8_see 23 = .ok (.iconst 0, 1) := by decide +kernel
theorem dX8_see_24 : decode cX8_see 24 = .ok (.ireturn, 1) := by decide +kernel
theorem dX8_see_25 : decode cX8_see 25 = .ok (.aload_n 0, 1) := by decide +kernel
theorem dX8_see_26 : decode cX8_see 26 = .ok (.getfield 21, 3) := by decide +kernel
theorem dX8_see_29 : decode cX8_see 29 = .ok (.iload_n 1, 1) := by decide +kernel
theorem dX8_see_30 : decode cX8_see 30 = .ok (.bipush 64, 2) := by decide +kernel
theorem dX8_see_32 : decode cX8_see 32 = .ok (.idiv, 1) := by decide +kernel
theorem dX8_see_33 : decode cX8_see 33 = .ok (.dup2, 1) := by decide +kernel
theorem dX8_see_34 : decode cX8_see 34 = .ok (.laload, 1) := by decide +kernel
theorem dX8_see_35 : decode cX8_see 35 = .ok (.lload_n 2, 1) := by decide +kernel
theorem dX8_see_36 : decode cX8_see 36 = .ok (.lor, 1) := by decide +kernel
theorem dX8_see_37 : decode cX8_see 37 = .ok (.lastore, 1) := by decide +kernel
theorem dX8_see_38 : decode cX8_see 38 = .ok (.iconst 1, 1) := by decide +kernel
theorem dX8_see_39 : decode cX8_see 39 = .ok (.ireturn, 1) := by decide +kernel
theorem dX8_greatestIndex_0 : decode cX8_greatestIndex 0 = .ok (.bipush (-9), 2) := by decide +kernel
theorem dX8_greatestIndex_2 : decode cX8_greatestIndex 2 = .ok (.istore_n 2, 1) := by decide +kernel
theorem dX8_greatestIndex_3 : decode cX8_greatestIndex 3 = .ok (.iconst 1, 1) := by decide +kernel
theorem dX8_greatestIndex_4 : decode cX8_greatestIndex 4 = .ok (.istore_n 3, 1) := by decide +kernel
theorem dX8_greatestIndex_5 : decode cX8_greatestIndex 5 = .ok (.iload_n 3, 1) := by decide +kernel
theorem dX8_greatestIndex_6 : decode cX8_greatestIndex 6 = .ok (.iload_n 1, 1) := by decide +kernel
theorem dX8_greatestIndex_7 : decode cX8_greatestIndex 7 = .ok (.if_icmp .gt 31, 3) := by decide +kernel
theorem dX8_greatestIndex_10 : decode cX8_greatestIndex 10 = .ok (.iload_n 3, 1) := by decide +kernel
theorem dX8_greatestIndex_11 : decode cX8_greatestIndex 11 = .ok (.sipush 3200, 3) := by decide +kernel
theorem dX8_greatestIndex_14 : decode cX8_greatestIndex 14 = .ok (.if_icmp .ge 24, 3) := by decide +kernel
theorem dX8_greatestIndex_17 : decode cX8_greatestIndex 17 = .ok (.iload_n 2, 1) := by decide +kernel
theorem dX8_greatestIndex_18 : decode cX8_greatestIndex 18 = .ok (.aload_n 0, 1) := by decide +kernel
theorem dX8_greatestIndex_19 : decode cX8_greatestIndex 19 = .ok (.getfield 18, 3) := by decide +kernel
theorem dX8_greatestIndex_22 : decode cX8_greatestIndex 22 = .ok (.iload_n 3, 1) := by decide +kernel
theorem dX8_greatestIndex_23 : decode cX8_greatestIndex 23 = .ok (.iaload, 1) := by decide +kernel
theorem dX8_greatestIndex_24 : decode cX8_greatestIndex 24 = .ok (.sipush 400, 3) := by decide +kernel
theorem dX8_greatestIndex_27 : decode cX8_greatestIndex 27 = .ok (.irem, 1) := by decide +kernel
theorem dX8_greatestIndex_28 : decode cX8_greatestIndex 28 = .ok (.invokestatic 56, 3) := by decide +kernel
theorem dX8_greatestIndex_31 : decode cX8_greatestIndex 31 = .ok (.istore_n 2, 1) := by decide +kernel
theorem dX8_greatestIndex_32 : decode cX8_greatestIndex 32 = .ok (.iinc 3 1, 3) := by decide +kernel
theorem dX8_greatestIndex_35 : decode cX8_greatestIndex 35 = .ok (.goto (-30), 3) := by decide +kernel
theorem dX8_greatestIndex_38 : decode cX8_greatestIndex 38 = .ok (.iload_n 2, 1) := by decide +kernel
theorem dX8_greatestIndex_39 : decode cX8_greatestIndex 39 = .ok (.ireturn, 1) := by decide +kernel
theorem dX8_countStreams_0 : decode cX8_countStreams 0 = .ok (.iconst 0, 1) := by decide +kernel
theorem dX8_countStreams_1 : decode cX8_countStreams 1 = .ok (.istore_n 2, 1) := by decide +kernel
theorem dX8_countStreams_2 : decode cX8_countStreams 2 = .ok (.iconst 1, 1) := by decide +kernel
theorem dX8_countStreams_3 : decode cX8_countStreams 3 = .ok (.istore_n 3, 1) := by decide +kernel
theorem dX8_countStreams_4 : decode cX8_countStreams 4 = .ok (.iload_n 3, 1) := by decide +kernel
theorem dX8_countStreams_5 : decode cX8_countStreams 5 = .ok (.iload_n 1, 1) := by decide +kernel
theorem dX8_countStreams_6 : decode cX8_countStreams 6 = .ok (.if_icmp .gt 31, 3) := by decide +kernel
theorem dX8_countStreams_9 : decode cX8_countStreams 9 = .ok (.iload_n 3, 1) := by decide +kernel
theorem dX8_countStreams_10 : decode cX8_countStreams 10 = .ok (.sipush 3200, 3) := by decide +kernel
theorem dX8_countStreams_13 : decode cX8_countStreams 13 = .ok (.if_icmp .ge 24, 3) := by decide +kernel
theorem dX8_countStreams_16 : decode cX8_countStreams 16 = .ok (.iload_n 2, 1) := by decide +kernel
theorem dX8_countStreams_17 : decode cX8_countStreams 17 = .ok (.iconst 1, 1) := by decide +kernel
theorem dX8_countStreams_18 : decode cX8_countStreams 18 = .ok (.aload_n 0, 1) := by decide +kernel
theorem dX8_countStreams_19 : decode cX8_countStreams 19 = .ok (.getfield 18, 3) := by decide +kernel
theorem dX8_countStreams_22 : decode cX8_countStreams 22 = .ok (.iload_n 3, 1) := by decide +kernel
theorem dX8_countStreams_23 : decode cX8_countStreams 23 = .ok (.iaload, 1) := by decide +kernel
theorem dX8_countStreams_24 : decode cX8_countStreams 24 = .ok (.sipush 400, 3) := by decide +kernel
theorem dX8_countStreams_27 : decode cX8_countStreams 27 = .ok (.idiv, 1) := by decide +kernel
theorem dX8_countStreams_28 : decode cX8_countStreams 28 = .ok (.ishl, 1) := by decide +kernel
theorem dX8_countStreams_29 : decode cX8_countStreams 29 = .ok (.ior, 1) := by decide +kernel
theorem dX8_countStreams_30 : decode cX8_countStreams 30 = .ok (.istore_n 2, 1) := by decide +kernel
theorem dX8_countStreams_31 : decode cX8_countStreams 31 = .ok (.iinc 3 1, 3) := by decide +kernel
theorem dX8_countStreams_34 : decode cX8_countStreams 34 = .ok (.goto (-30), 3) := by decide +kernel
theorem dX8_countStreams_37 : decode cX8_countStreams 37 = .ok (.iload_n 2, 1) := by decide +kernel
theorem dX8_countStreams_38 : decode cX8_countStreams 38 = .ok (.invokestatic 62, 3) := by decide +kernel
theorem dX8_countStreams_41 : decode cX8_countStreams 41 = .ok (.ireturn, 1) := by decide +kernel
theorem dX9_init_0 : decode cX9_init 0 = .ok (.aload_n 0, 1) := by decide +kernel
theorem dX9_init_1 : decode cX9_init 1 = .ok (.invokespecial 3, 3) := by decide +kernel
theorem dX9_init_4 : decode cX9_init 4 = .ok (.aload_n 0, 1) := by decide +kernel
theorem dX9_init_5 : decode cX9_init 5 = .ok (.new 9, 3) := by decide +kernel
theorem dX9_init_8 : decode cX9_init 8 = .ok (.dup, 1) := by decide +kernel
theorem dX9_init_9 : decode cX9_init 9 = .ok (.invokespecial 11, 3) := by decide +kernel
theorem dX9_init_12 : decode cX9_init 12 = .ok (.putfield 12, 3) := by decide +kernel
theorem dX9_init_15 : decode cX9_init 15 = .ok (.aload_n 0, 1) := by decide +kernel
theorem dX9_init_16 : decode cX9_init 16 = .ok (.new 16, 3) := by decide +kernel
theorem dX9_init_19 : decode cX9_init 19 = .ok (.dup, 1) := by decide +kernel
theorem dX9_init_20 : decode cX9_init 20 = .ok (.invokespecial 18, 3) := by decide +kernel
theorem dX9_init_23 : decode cX9_init 23 = .ok (.putfield 19, 3) := by decide +kernel
theorem dX9_init_26 : decode cX9_init 26 = .ok (.aload_n 0, 1) := by decide +kernel
theorem dX9_init_27 : decode cX9_init 27 = .ok (.new 23, 3) := by decide +kernel
theorem dX9_init_30 : decode cX9_init 30 = .ok (.dup, 1) := by decide +kernel
theorem dX9_init_31 : decode cX9_init 31 = .ok (.invokespecial 25, 3) := by decide +kernel
theorem dX9_init_34 : decode cX9_init 34 = .ok (.putfield 26, 3) := by decide +kernel
theorem dX9_init_37 : decode cX9_init 37 = .ok (.aload_n 0, 1) := by decide +kernel
theorem dX9_init_38 : decode cX9_init 38 = .ok (.new 30, 3) := by decide +kernel
theorem dX9_init_41 : decode cX9_init 41 = .ok (.dup, 1) := by decide +kernel
theorem dX9_init_42 : decode cX9_init 42 = .ok (.invokespecial 32, 3) := by decide +kernel
theorem dX9_init_45 : decode cX9_init 45 = .ok (.putfield 33, 3) := by decide +kernel
theorem dX9_init_48 : decode cX9_init 48 = .ok (.aload_n 0, 1) := by decide +kernel
theorem dX9_init_49 : decode cX9_init 49 = .ok (.iconst 2, 1) := by decide +kernel
theorem dX9_init_50 : decode cX9_init 50 = .ok (.anewarray 16, 3) := by decide +kernel
theorem dX9_init_53 : decode cX9_init 53 = .ok (.putfield 37, 3) := by decide +kernel
theorem dX9_init_56 : decode cX9_init 56 = .ok (.aload_n 0, 1) := by decide +kernel
theorem dX9_init_57 : decode cX9_init 57 = .ok (.iconst 2, 1) := by decide +kernel
theorem dX9_init_58 : decode cX9_init 58 = .ok (.anewarray 41, 3) := by decide +kernel
theorem dX9_init_61 : decode cX9_init 61 = .ok (.putfield 43, 3) := by decide +kernel
theorem dX9_init_64 : decode cX9_init 64 = .ok (.return_, 1) := by decide +kernel
theorem dX9_write_0 : decode cX9_write 0 = .ok (.iload_n 1, 1) := by decide +kernel
theorem dX9_write_1 : decode cX9_write 1 = .ok (.bipush 32, 2) := by decide +kernel
theorem dX9_write_3 : decode cX9_write 3 = .ok (.if_icmp .lt 9, 3) := by decide +kernel
theorem dX9_write_6 : decode cX9_write 6 = .ok (.iload_n 1, 1) := by decide +kernel
theorem dX9_write_7 : decode cX9_write 7 = .ok (.bipush 126, 2) := by decide +kernel
theorem dX9_write_9 : decode cX9_write 9 = .ok (.if_icmp .le 5, 3) := by decide +kernel
theorem dX9_write_12 : decode cX9_write 12 = .ok (.iconst (-1), 1) := by decide +kernel
theorem dX9_write_13 : decode cX9_write 13 = .ok (.ireturn, 1) := by decide +kernel
theorem dX9_write_14 : decode cX9_write 14 = .ok (.aload_n 0, 1) := by decide +kernel
theorem dX9_write_15 : decode cX9_write 15 = .ok (.getfield 12, 3) := by decide +kernel
theorem dX9_write_18 : decode cX9_write 18 = .ok (.iload_n 1, 1) := by decide +kernel
theorem dX9_write_19 : decode cX9_write 19 = .ok (.invokevirtual 47, 3) := by decide +kernel
theorem dX9_write_22 : decode cX9_write 22 = .ok (.ireturn, 1) := by decide +kernel
theorem dX9_wipe_0 : decode cX9_wipe 0 = .ok (.aload_n 0, 1) := by decide +kernel
theorem dX9_wipe_1 : decode cX9_wipe 1 = .ok (.getfield 12, 3) := by decide +kernel
theorem dX9_wipe_4 : decode cX9_wipe 4 = .ok (.invokevirtual 51, 3) := by decide +kernel
theorem dX9_wipe_7 : decode cX9_wipe 7 = .ok (.ireturn, 1) := by decide +kernel
theorem dX9_fault_0 : decode cX9_fault 0 = .ok (.aload_n 0, 1) := by decide +kernel
theorem dX9_fault_1 : decode cX9_fault 1 = .ok (.getfield 12, 3) := by decide +kernel
theorem dX9_fault_4 : decode cX9_fault 4 = .ok (.invokevirtual 55, 3) := by decide +kernel
theorem dX9_fault_7 : decode cX9_fault 7 = .ok (.ireturn, 1) := by decide +kernel
theorem dX9_define_0 : decode cX9_define 0 = .ok (.iload_n 1, 1) := by decide +kernel
theorem dX9_define_1 : decode cX9_define 1 = .ok (.invokestatic 58, 3) := by decide +kernel
theorem dX9_define_4 : decode cX9_define 4 = .ok (.ifCond .ne 5, 3) := by decide +kernel
theorem dX9_define_7 : decode cX9_define 7 = .ok (.iconst (-1), 1) := by decide +kernel
theorem dX9_define_8 : decode cX9_define 8 = .ok (.ireturn, 1) := by decide +kernel
theorem dX9_define_9 : decode cX9_define 9 = .ok (.aload_n 0, 1) := by decide +kernel
theorem dX9_define_10 : decode cX9_define 10 = .ok (.getfield 12, 3) := by decide +kernel
theorem dX9_define_13 : decode cX9_define 13 = .ok (.invokevirtual 55, 3) := by decide +kernel
theorem dX9_define_16 : decode cX9_define 16 = .ok (.bipush (-9), 2) := by decide +kernel
theorem dX9_define_18 : decode cX9_define 18 = .ok (.if_icmp .eq 6, 3) := by decide +kernel
theorem dX9_define_21 : decode cX9_define 21 = .ok (.bipush (-2), 2) := by decide +kernel
theorem dX9_define_23 : decode cX9_define 23 = .ok (.ireturn, 1) := by decide +kernel
theorem dX9_define_24 : decode cX9_define 24 = .ok (.aload_n 0, 1) := by decide +kernel
theorem dX9_define_25 : decode cX9_define 25 = .ok (.getfield 12, 3) := by decide +kernel
theorem dX9_define_28 : decode cX9_define 28 = .ok (.invokevirtual 62, 3) := by decide +kernel
theorem dX9_define_31 : decode cX9_define 31 = .ok (.astore_n 2, 1) := by decide +kernel
theorem dX9_define_32 : decode cX9_define 32 = .ok (.aload_n 0, 1) := by decide +kernel
theorem dX9_define_33 : decode cX9_define 33 = .ok (.invokevirtual 66, 3) := by decide +kernel
theorem dX9_define_36 : decode cX9_define 36 = .ok (.aload_n 0, 1) := by decide +kernel
theorem dX9_define_37 : decode cX9_define 37 = .ok (.getfield 19, 3) := by decide +kernel
theorem dX9_define_40 : decode cX9_define 40 = .ok (.getfield 69, 3) := by decide +kernel
theorem dX9_define_43 : decode cX9_define 43 = .ok (.iload_n 1, 1) := by decide +kernel
theorem dX9_define_44 : decode cX9_define 44 = .ok (.aload_n 2, 1) := by decide +kernel
theorem dX9_define_45 : decode cX9_define 45 = .ok (.aastore, 1) := by decide +kernel
theorem dX9_define_46 : decode cX9_define 46 = .ok (.aload_n 2, 1) := by decide +kernel
theorem dX9_define_47 : decode cX9_define 47 = .ok (.getfield 73, 3) := by decide +kernel
theorem dX9_define_50 : decode cX9_define 50 = .ok (.ireturn, 1) := by decide +kernel
theorem dX9_undefine_0 : decode cX9_undefine 0 = .ok (.iload_n 1, 1) := by decide +kernel
theorem dX9_undefine_1 : decode cX9_undefine 1 = .ok (.invokestatic 58, 3) := by decide +kernel
theorem dX9_undefine_4 : decode cX9_undefine 4 = .ok (.ifCond .ne 5, 3) := by decide +kernel
theorem dX9_undefine_7 : decode cX9_undefine 7 = .ok (.iconst (-1), 1) := by decide +kernel
theorem dX9_undefine_8 : decode cX9_undefine 8 = .ok (.ireturn, 1) := by decide +kernel
theorem dX9_undefine_9 : decode cX9_undefine 9 = .ok (.aload_n 0, 1) := by decide +kernel
theorem dX9_undefine_10 : decode cX9_undefine 10 = .ok (.getfield 19, 3) := by decide +kernel
theorem dX9_undefine_13 : decode cX9_undefine 13 = .ok (.getfield 69, 3) := by decide +kernel
theorem dX9_undefine_16 : decode cX9_undefine 16 = .ok (.iload_n 1, 1) := by decide +kernel
theorem dX9_undefine_17 : decode cX9_undefine 17 = .ok (.aaload, 1) := by decide +kernel
theorem dX9_undefine_18 : decode cX9_undefine 18 = .ok (.astore_n 2, 1) := by decide +kernel
theorem dX9_undefine_19 : decode cX9_undefine 19 = .ok (.aload_n 2, 1) := by decide +kernel
theorem dX9_undefine_20 : decode cX9_undefine 20 = .ok (.ifnonnull 6, 3) := by decide +kernel
theorem dX9_undefine_23 : decode cX9_undefine 23 = .ok (.bipush (-2), 2) := by decide +kernel
theorem dX9_undefine_25 : decode cX9_undefine 25 = .ok (.ireturn, 1) := by decide +kernel
theorem dX9_undefine_26 : decode cX9_undefine 26 = .ok (.aload_n 0, 1) := by decide +kernel
theorem dX9_undefine_27 : decode cX9_undefine 27 = .ok (.invokevirtual 66, 3) := by decide +kernel
theorem dX9_undefine_30 : decode cX9_undefine 30 = .ok (.aload_n 0, 1) := by decide +kernel
theorem dX9_undefine_31 : decode cX9_undefine 31 = .ok (.getfield 19, 3) := by decide +kernel
theorem dX9_undefine_34 : decode cX9_undefine 34 = .ok (.getfield 69, 3) := by decide +kernel
theorem dX9_undefine_37 : decode cX9_undefine 37 = .ok (.iload_n 1, 1) := by decide +kernel
theorem dX9_undefine_38 : decode cX9_undefine 38 = .ok (.aconst_null, 1) := by decide +kernel
theorem dX9_undefine_39 : decode cX9_undefine 39 = .ok (.aastore, 1) := by decide +kernel
theorem dX9_undefine_40 : decode cX9_undefine 40 = .ok (.aload_n 2, 1) := by decide +kernel
theorem dX9_undefine_41 : decode cX9_undefine 41 = .ok (.getfield 73, 3) := by decide +kernel
theorem dX9_undefine_44 : decode cX9_undefine 44 = .ok (.ireturn, 1) := by decide +kernel
theorem dX9_setModulus_0 : decode cX9_setModulus 0 = .ok (.iload_n 1, 1) := by decide +kernel
theorem dX9_setModulus_1 : decode cX9_setModulus 1 = .ok (.iconst 2, 1) := by decide +kernel
theorem dX9_setModulus_2 : decode cX9_setModulus 2 = .ok (.if_icmp .lt 9, 3) := by decide +kernel
theorem dX9_setModulus_5 : decode cX9_setModulus 5 = .ok (.iload_n 1, 1) := by decide +kernel
theorem dX9_setModulus_6 : decode cX9_setModulus 6 = .ok (.bipush 10, 2) := by decide +kernel
theorem dX9_setModulus_8 : decode cX9_setModulus 8 = .ok (.if_icmp .le 5, 3) := by decide +kernel
theorem dX9_setModulus_11 : decode cX9_setModulus 11 = .ok (.iconst (-1), 1) := by decide +kernel
theorem dX9_setModulus_12 : decode cX9_setModulus 12 = .ok (.ireturn, 1) := by decide +kernel
theorem dX9_setModulus_13 : decode cX9_setModulus 13 = .ok (.aload_n 0, 1) := by decide +kernel
theorem dX9_setModulus_14 : decode cX9_setModulus 14 = .ok (.getfield 19, 3) := by decide +kernel
theorem dX9_setModulus_17 : decode cX9_setModulus 17 = .ok (.getfield 79, 3) := by decide +kernel
theorem dX9_setModulus_20 : decode cX9_setModulus 20 = .ok (.istore_n 2, 1) := by decide +kernel
theorem dX9_setModulus_21 : decode cX9_setModulus 21 = .ok (.aload_n 0, 1) := by decide +kernel
theorem dX9_setModulus_22 : decode cX9_setModulus 22 = .ok (.invokevirtual 66, 3) := by decide +kernel
theorem dX9_setModulus_25 : decode cX9_setModulus 25 = .ok (.aload_n 0, 1) := by decide +kernel
theorem dX9_setModulus_26 : decode cX9_setModulus 26 = .ok (.getfield 19, 3) := by decide +kernel
theorem dX9_setModulus_29 : decode cX9_setModulus 29 = .ok (.iload_n 1, 1) := by decide +kernel
theorem dX9_setModulus_30 : decode cX9_setModulus 30 = .ok (.putfield 79, 3) := by decide +kernel
theorem dX9_setModulus_33 : decode cX9_setModulus 33 = .ok (.iload_n 2, 1) := by decide +kernel
theorem dX9_setModulus_34 : decode cX9_setModulus 34 = .ok (.ireturn, 1) := by decide +kernel
theorem dX9_insert_0 : decode cX9_insert 0 = .ok (.iload_n 1, 1) := by decide +kernel
theorem dX9_insert_1 : decode cX9_insert 1 = .ok (.invokestatic 58, 3) := by decide +kernel
theorem dX9_insert_4 : decode cX9_insert 4 = .ok (.ifCond .eq 10, 3) := by decide +kernel
theorem dX9_insert_7 : decode cX9_insert 7 = .ok (.iload_n 2, 1) := by decide +kernel
theorem dX9_insert_8 : decode cX9_insert 8 = .ok (.invokestatic 58, 3) := by decide +kernel
theorem dX9_insert_11 : decode cX9_insert 11 = .ok (.ifCond .ne 5, 3) := by decide +kernel
theorem dX9_insert_14 : decode cX9_insert 14 = .ok (.iconst (-1), 1) := by decide +kernel
theorem dX9_insert_15 : decode cX9_insert 15 = .ok (.ireturn, 1) := by decide +kernel
theorem dX9_insert_16 : decode cX9_insert 16 = .ok (.aload_n 0, 1) := by decide +kernel
theorem dX9_insert_17 : decode cX9_insert 17 = .ok (.getfield 19, 3) := by decide +kernel
theorem dX9_insert_20 : decode cX9_insert 20 = .ok (.getfield 69, 3) := by decide +kernel
theorem dX9_insert_23 : decode cX9_insert 23 = .ok (.iload_n 1, 1) := by decide +kernel
theorem dX9_insert_24 : decode cX9_insert 24 = .ok (.aaload, 1) := by decide +kernel
theorem dX9_insert_25 : decode cX9_insert 25 = .ok (.astore_n 3, 1) := by decide +kernel
theorem dX9_insert_26 : decode cX9_insert 26 = .ok (.aload_n 0, 1) := by decide +kernel
theorem dX9_insert_27 : decode cX9_insert 27 = .ok (.getfield 19, 3) := by decide +kernel
theorem dX9_insert_30 : decode cX9_insert 30 = .ok (.getfield 69, 3) := by decide +kernel
theorem dX9_insert_33 : decode cX9_insert 33 = .ok (.iload_n 2, 1) := by decide +kernel
theorem dX9_insert_34 : decode cX9_insert 34 = .ok (.aaload, 1) := by decide +kernel
theorem dX9_insert_35 : decode cX9_insert 35 = .ok (.astore 4, 2) := by decide +kernel
theorem dX9_insert_37 : decode cX9_insert 37 = .ok (.aload_n 3, 1) := by decide +kernel
theorem dX9_insert_38 : decode cX9_insert 38 = .ok (.ifnull 8, 3) := by decide +kernel
theorem dX9_insert_41 : decode cX9_insert 41 = .ok (.aload 4, 2) := by decide +kernel
theorem dX9_insert_43 : decode cX9_insert 43 = .ok (.ifnonnull 6, 3) := by decide +kernel
theorem dX9_insert_46 : decode cX9_insert 46 = .ok (.bipush (-2), 2) := by decide +kernel
theorem dX9_insert_48 : decode cX9_insert 48 = .ok (.ireturn, 1) := by decide +kernel
theorem dX9_insert_49 : decode cX9_insert 49 = .ok (.aload_n 3, 1) := by decide +kernel
theorem dX9_insert_50 : decode cX9_insert 50 = .ok (.iload_n 2, 1) := by decide +kernel
theorem dX9_insert_51 : decode cX9_insert 51 = .ok (.aload 4, 2) := by decide +kernel
theorem dX9_insert_53 : decode cX9_insert 53 = .ok (.invokevirtual 82, 3) := by decide +kernel
theorem dX9_insert_56 : decode cX9_insert 56 = .ok (.bipush 120, 2) := by decide +kernel
theorem dX9_insert_58 : decode cX9_insert 58 = .ok (.if_icmp .le 6, 3) := by decide +kernel
theorem dX9_insert_61 : decode cX9_insert 61 = .ok (.bipush (-3), 2) := by decide +kernel
theorem dX9_insert_63 : decode cX9_insert 63 = .ok (.ireturn, 1) := by decide +kernel
theorem dX9_insert_64 : decode cX9_insert 64 = .ok (.aload_n 3, 1) := by decide +kernel
theorem dX9_insert_65 : decode cX9_insert 65 = .ok (.iload_n 2, 1) := by decide +kernel
theorem dX9_insert_66 : decode cX9_insert 66 = .ok (.aload 4, 2) := by decide +kernel
theorem dX9_insert_68 : decode cX9_insert 68 = .ok (.invokevirtual 86, 3) := by decide +kernel
theorem dX9_insert_71 : decode cX9_insert 71 = .ok (.astore 5, 2) := by decide +kernel
theorem dX9_insert_73 : decode cX9_insert 73 = .ok (.aload_n 0, 1) := by decide +kernel
theorem dX9_insert_74 : decode cX9_insert 74 = .ok (.invokevirtual 66, 3) := by decide +kernel
theorem dX9_insert_77 : decode cX9_insert 77 = .ok (.aload_n 0, 1) := by decide +kernel
theorem dX9_insert_78 : decode cX9_insert 78 = .ok (.getfield 19, 3) := by decide +kernel
theorem dX9_insert_81 : decode cX9_insert 81 = .ok (.getfield 69, 3) := by decide +kernel
theorem dX9_insert_84 : decode cX9_insert 84 = .ok (.iload_n 1, 1) := by decide +kernel
theorem dX9_insert_85 : decode cX9_insert 85 = .ok (.aload 5, 2) := by decide +kernel
theorem dX9_insert_87 : decode cX9_insert 87 = .ok (.aastore, 1) := by decide +kernel
theorem dX9_insert_88 : decode cX9_insert 88 = .ok (.aload 5, 2) := by decide +kernel
theorem dX9_insert_90 : decode cX9_insert 90 = .ok (.getfield 73, 3) := by decide +kernel
theorem dX9_insert_93 : decode cX9_insert 93 = .ok (.ireturn, 1) := by decide +kernel
theorem dX9_simplify_0 : decode cX9_simplify 0 = .ok (.iload_n 1, 1) := by decide +kernel
theorem dX9_simplify_1 : decode cX9_simplify 1 = .ok (.invokestatic 58, 3) := by decide +kernel
theorem dX9_simplify_4 : decode cX9_simplify 4 = .ok (.ifCond .ne 5, 3) := by decide +kernel
theorem dX9_simplify_7 : decode cX9_simplify 7 = .ok (.iconst (-1), 1) := by decide +kernel
theorem dX9_simplify_8 : decode cX9_simplify 8 = .ok (.ireturn, 1) := by decide +kernel
theorem dX9_simplify_9 : decode cX9_simplify 9 = .ok (.aload_n 0, 1) := by decide +kernel
theorem dX9_simplify_10 : decode cX9_simplify 10 = .ok (.getfield 19, 3) := by decide +kernel
theorem dX9_simplify_13 : decode cX9_simplify 13 = .ok (.getfield 69, 3) := by decide +kernel
theorem dX9_simplify_16 : decode cX9_simplify 16 = .ok (.iload_n 1, 1) := by decide +kernel
theorem dX9_simplify_17 : decode cX9_simplify 17 = .ok (.aaload, 1) := by decide +kernel
theorem dX9_simplify_18 : decode cX9_simplify 18 = .ok (.astore_n 2, 1) := by decide +kernel
theorem dX9_simplify_19 : decode cX9_simplify 19 = .ok (.aload_n 2, 1) := by decide +kernel
theorem dX9_simplify_20 : decode cX9_simplify 20 = .ok (.ifnonnull 6, 3) := by decide +kernel
theorem dX9_simplify_23 : decode cX9_simplify 23 = .ok (.bipush (-2), 2) := by decide +kernel
theorem dX9_simplify_25 : decode cX9_simplify 25 = .ok (.ireturn, 1) := by decide +kernel
theorem dX9_simplify_26 : decode cX9_simplify 26 = .ok (.aload_n 0, 1) := by decide +kernel
theorem dX9_simplify_27 : decode cX9_simplify 27 = .ok (.getfield 33, 3) := by decide +kernel
theorem dX9_simplify_30 : decode cX9_simplify 30 = .ok (.aload_n 2, 1) := by decide +kernel
theorem dX9_simplify_31 : decode cX9_simplify 31 = .ok (.invokevirtual 90, 3) := by decide +kernel
theorem dX9_simplify_34 : decode cX9_simplify 34 = .ok (.aload_n 0, 1) := by decide +kernel
theorem dX9_simplify_35 : decode cX9_simplify 35 = .ok (.getfield 33, 3) := by decide +kernel
theorem dX9_simplify_38 : decode cX9_simplify 38 = .ok (.invokevirtual 94, 3) := by decide +kernel
theorem dX9_simplify_41 : decode cX9_simplify 41 = .ok (.istore_n 3, 1) := by decide +kernel
theorem dX9_simplify_42 : decode cX9_simplify 42 = .ok (.iload_n 3, 1) := by decide +kernel
theorem dX9_simplify_43 : decode cX9_simplify 43 = .ok (.ifCond .ge 6, 3) := by decide +kernel
theorem dX9_simplify_46 : decode cX9_simplify 46 = .ok (.bipush (-3), 2) := by decide +kernel
theorem dX9_simplify_48 : decode cX9_simplify 48 = .ok (.ireturn, 1) := by decide +kernel
theorem dX9_simplify_49 : decode cX9_simplify 49 = .ok (.aload_n 0, 1) := by decide +kernel
theorem dX9_simplify_50 : decode cX9_simplify 50 = .ok (.invokevirtual 66, 3) := by decide +kernel
theorem dX9_simplify_53 : decode cX9_simplify 53 = .ok (.iload_n 3, 1) := by decide +kernel
theorem dX9_simplify_54 : decode cX9_simplify 54 = .ok (.ifCond .le 19, 3) := by decide +kernel
theorem dX9_simplify_57 : decode cX9_simplify 57 = .ok (.aload_n 0, 1) := by decide +kernel
theorem dX9_simplify_58 : decode cX9_simplify 58 = .ok (.getfield 19, 3) := by decide +kernel
theorem dX9_simplify_61 : decode cX9_simplify 61 = .ok (.getfield 69, 3) := by decide +kernel
theorem dX9_simplify_64 : decode cX9_simplify 64 = .ok (.iload_n 1, 1) := by decide +kernel
theorem dX9_simplify_65 : decode cX9_simplify 65 = .ok (.aload_n 0, 1) := by decide +kernel
theorem dX9_simplify_66 : decode cX9_simplify 66 = .ok (.getfield 33, 3) := by decide +kernel
theorem dX9_simplify_69 : decode cX9_simplify 69 = .ok (.invokevirtual 97, 3) := by decide +kernel
theorem dX9_simplify_72 : decode cX9_simplify 72 = .ok (.aastore, 1) := by decide +kernel
theorem dX9_simplify_73 : decode cX9_simplify 73 = .ok (.iload_n 3, 1) := by decide +kernel
theorem dX9_simplify_74 : decode cX9_simplify 74 = .ok (.ireturn, 1) := by decide +kernel
theorem dX9_undo_0 : decode cX9_undo 0 = .ok (.aload_n 0, 1) := by decide +kernel
theorem dX9_undo_1 : decode cX9_undo 1 = .ok (.getfield 26, 3) := by decide +kernel
theorem dX9_undo_4 : decode cX9_undo 4 = .ok (.getfield 100, 3) := by decide +kernel
theorem dX9_undo_7 : decode cX9_undo 7 = .ok (.ifCond .ne 6, 3) := by decide +kernel
theorem dX9_undo_10 : decode cX9_undo 10 = .ok (.bipush (-2), 2) := by decide +kernel
theorem dX9_undo_12 : decode cX9_undo 12 = .ok (.ireturn, 1) := by decide +kernel
theorem dX9_undo_13 : decode cX9_undo 13 = .ok (.aload_n 0, 1) := by decide +kernel
theorem dX9_undo_14 : decode cX9_undo 14 = .ok (.getfield 26, 3) := by decide +kernel
theorem dX9_undo_17 : decode cX9_undo 17 = .ok (.aload_n 0, 1) := by decide +kernel
theorem dX9_undo_18 : decode cX9_undo 18 = .ok (.getfield 19, 3) := by decide +kernel
theorem dX9_undo_21 : decode cX9_undo 21 = .ok (.invokevirtual 103, 3) := by decide +kernel
theorem dX9_undo_24 : decode cX9_undo 24 = .ok (.aload_n 0, 1) := by decide +kernel
theorem dX9_undo_25 : decode cX9_undo 25 = .ok (.invokevirtual 107, 3) := by decide +kernel
theorem dX9_undo_28 : decode cX9_undo 28 = .ok (.aload_n 0, 1) := by decide +kernel
theorem dX9_undo_29 : decode cX9_undo 29 = .ok (.getfield 26, 3) := by decide +kernel
theorem dX9_undo_32 : decode cX9_undo 32 = .ok (.getfield 100, 3) := by decide +kernel
theorem dX9_undo_35 : decode cX9_undo 35 = .ok (.ireturn, 1) := by decide +kernel
theorem dX9_told_0 : decode cX9_told 0 = .ok (.iload_n 1, 1) := by decide +kernel
theorem dX9_told_1 : decode cX9_told 1 = .ok (.ifCond .lt 9, 3) := by decide +kernel
theorem dX9_told_4 : decode cX9_told 4 = .ok (.iload_n 1, 1) := by decide +kernel
theorem dX9_told_5 : decode cX9_told 5 = .ok (.bipush 6, 2) := by decide +kernel
theorem dX9_told_7 : decode cX9_told 7 = .ok (.if_icmp .le 5, 3) := by decide +kernel
theorem dX9_told_10 : decode cX9_told 10 = .ok (.iconst (-1), 1) := by decide +kernel
theorem dX9_told_11 : decode cX9_told 11 = .ok (.ireturn, 1) := by decide +kernel
theorem dX9_told_12 : decode cX9_told 12 = .ok (.iload_n 1, 1) := by decide +kernel
theorem dX9_told_13 : decode cX9_told 13 = .ok (.tableswitch 95 0 5 #[39, 47, 55, 63, 79, 87], 39) := by decide +kernel
theorem dX9_told_52 : decode cX9_told 52 = .ok (.aload_n 0, 1) := by decide +kernel
theorem dX9_told_53 : decode cX9_told 53 = .ok (.getfield 19, 3) := by decide +kernel
theorem dX9_told_56 : decode cX9_told 56 = .ok (.getfield 79, 3) := by decide +kernel
theorem dX9_told_59 : decode cX9_told 59 = .ok (.ireturn, 1) := by decide +kernel
theorem dX9_told_60 : decode cX9_told 60 = .ok (.aload_n 0, 1) := by decide +kernel
theorem dX9_told_61 : decode cX9_told 61 = .ok (.getfield 19, 3) := by decide +kernel
theorem dX9_told_64 : decode cX9_told 64 = .ok (.invokevirtual 110, 3) := by decide +kernel
theorem dX9_told_67 : decode cX9_told 67 = .ok (.ireturn, 1) := by decide +kernel
theorem dX9_told_68 : decode cX9_told 68 = .ok (.aload_n 0, 1) := by decide +kernel
theorem dX9_told_69 : decode cX9_told 69 = .ok (.getfield 19, 3) := by decide +kernel
theorem dX9_told_72 : decode cX9_told 72 = .ok (.invokevirtual 112, 3) := by decide +kernel
theorem dX9_told_75 : decode cX9_told 75 = .ok (.ireturn, 1) := by decide +kernel
theorem dX9_told_76 : decode cX9_told 76 = .ok (.aload_n 0, 1) := by decide +kernel
theorem dX9_told_77 : decode cX9_told 77 = .ok (.getfield 19, 3) := by decide +kernel
theorem dX9_told_80 : decode cX9_told 80 = .ok (.invokevirtual 115, 3) := by decide +kernel
theorem dX9_told_83 : decode cX9_told 83 = .ok (.ifCond .eq 7, 3) := by decide +kernel
theorem dX9_told_86 : decode cX9_told 86 = .ok (.iconst 1, 1) := by decide +kernel
theorem dX9_told_87 : decode cX9_told 87 = .ok (.goto 4, 3) := by decide +kernel
theorem dX9_told_90 : decode cX9_told 90 = .ok (.iconst 0, 1) := by decide +kernel
theorem dX9_told_91 : decode cX9_told 91 = .ok (.ireturn, 1) := by decide +kernel
theorem dX9_told_92 : decode cX9_told 92 = .ok (.aload_n 0, 1) := by decide +kernel
theorem dX9_told_93 : decode cX9_told 93 = .ok (.getfield 12, 3) := by decide +kernel
theorem dX9_told_96 : decode cX9_told 96 = .ok (.getfield 119, 3) := by decide +kernel
theorem dX9_told_99 : decode cX9_told 99 = .ok (.ireturn, 1) := by decide +kernel
theorem dX9_told_100 : decode cX9_told 100 = .ok (.aload_n 0, 1) := by decide +kernel
theorem dX9_told_101 : decode cX9_told 101 = .ok (.getfield 26, 3) := by decide +kernel
theorem dX9_told_104 : decode cX9_told 104 = .ok (.getfield 100, 3) := by decide +kernel
theorem dX9_told_107 : decode cX9_told 107 = .ok (.ireturn, 1) := by decide +kernel
theorem dX9_told_108 : decode cX9_told 108 = .ok (.aload_n 0, 1) := by decide +kernel
theorem dX9_told_109 : decode cX9_told 109 = .ok (.invokevirtual 122, 3) := by decide +kernel
theorem dX9_told_112 : decode cX9_told 112 = .ok (.ireturn, 1) := by decide +kernel
theorem dX9_listing_0 : decode cX9_listing 0 = .ok (.iload_n 1, 1) := by decide +kernel
theorem dX9_listing_1 : decode cX9_listing 1 = .ok (.invokestatic 58, 3) := by decide +kernel
theorem dX9_listing_4 : decode cX9_listing 4 = .ok (.ifCond .eq 7, 3) := by decide +kernel
theorem dX9_listing_7 : decode cX9_listing 7 = .ok (.iload_n 2, 1) := by decide +kernel
theorem dX9_listing_8 : decode cX9_listing 8 = .ok (.ifCond .ge 5, 3) := by decide +kernel
theorem dX9_listing_11 : decode cX9_listing 11 = .ok (.iconst (-1), 1) := by decide +kernel
theorem dX9_listing_12 : decode cX9_listing 12 = .ok (.ireturn, 1) := by decide +kernel
theorem dX9_listing_13 : decode cX9_listing 13 = .ok (.aload_n 0, 1) := by decide +kernel
theorem dX9_listing_14 : decode cX9_listing 14 = .ok (.getfield 19, 3) := by decide +kernel
theorem dX9_listing_17 : decode cX9_listing 17 = .ok (.getfield 69, 3) := by decide +kernel
theorem dX9_listing_20 : decode cX9_listing 20 = .ok (.iload_n 1, 1) := by decide +kernel
theorem dX9_listing_21 : decode cX9_listing 21 = .ok (.aaload, 1) := by decide +kernel
theorem dX9_listing_22 : decode cX9_listing 22 = .ok (.astore_n 3, 1) := by decide +kernel
theorem dX9_listing_23 : decode cX9_listing 23 = .ok (.aload_n 3, 1) := by decide +kernel
theorem dX9_listing_24 : decode cX9_listing 24 = .ok (.ifnonnull 8, 3) := by decide +kernel
theorem dX9_listing_27 : decode cX9_listing 27 = .ok (.bipush (-9), 2) := by decide +kernel
theorem dX9_listing_29 : decode cX9_listing 29 = .ok (.goto 8, 3) := by decide +kernel
theorem dX9_listing_32 : decode cX9_listing 32 = .ok (.aload_n 3, 1) := by decide +kernel
theorem dX9_listing_33 : decode cX9_listing 33 = .ok (.iload_n 2, 1) := by decide +kernel
theorem dX9_listing_34 : decode cX9_listing 34 = .ok (.invokevirtual 125, 3) := by decide +kernel
theorem dX9_listing_37 : decode cX9_listing 37 = .ok (.ireturn, 1) := by decide +kernel
theorem dX9_uses_0 : decode cX9_uses 0 = .ok (.iload_n 1, 1) := by decide +kernel
theorem dX9_uses_1 : decode cX9_uses 1 = .ok (.invokestatic 58, 3) := by decide +kernel
theorem dX9_uses_4 : decode cX9_uses 4 = .ok (.ifCond .ne 5, 3) := by decide +kernel
theorem dX9_uses_7 : decode cX9_uses 7 = .ok (.iconst (-1), 1) := by decide +kernel
theorem dX9_uses_8 : decode cX9_uses 8 = .ok (.ireturn, 1) := by decide +kernel
theorem dX9_uses_9 : decode cX9_uses 9 = .ok (.aload_n 0, 1) := by decide +kernel
theorem dX9_uses_10 : decode cX9_uses 10 = .ok (.getfield 19, 3) := by decide +kernel
theorem dX9_uses_13 : decode cX9_uses 13 = .ok (.getfield 69, 3) := by decide +kernel
theorem dX9_uses_16 : decode cX9_uses 16 = .ok (.iload_n 1, 1) := by decide +kernel
theorem dX9_uses_17 : decode cX9_uses 17 = .ok (.aaload, 1) := by decide +kernel
theorem dX9_uses_18 : decode cX9_uses 18 = .ok (.astore_n 2, 1) := by decide +kernel
theorem dX9_uses_19 : decode cX9_uses 19 = .ok (.aload_n 2, 1) := by decide +kernel
theorem dX9_uses_20 : decode cX9_uses 20 = .ok (.ifnonnull 8, 3) := by decide +kernel
theorem dX9_uses_23 : decode cX9_uses 23 = .ok (.bipush (-9), 2) := by decide +kernel
theorem dX9_uses_25 : decode cX9_uses 25 = .ok (.goto 7, 3) := by decide +kernel
theorem dX9_uses_28 : decode cX9_uses 28 = .ok (.aload_n 2, 1) := by decide +kernel
theorem dX9_uses_29 : decode cX9_uses 29 = .ok (.invokevirtual 128, 3) := by decide +kernel
theorem dX9_uses_32 : decode cX9_uses 32 = .ok (.ireturn, 1) := by decide +kernel
theorem dX9_cycle_0 : decode cX9_cycle 0 = .ok (.iload_n 1, 1) := by decide +kernel
theorem dX9_cycle_1 : decode cX9_cycle 1 = .ok (.invokestatic 58, 3) := by decide +kernel
theorem dX9_cycle_4 : decode cX9_cycle 4 = .ok (.ifCond .ne 5, 3) := by decide +kernel
theorem dX9_cycle_7 : decode cX9_cycle 7 = .ok (.iconst (-1), 1) := by decide +kernel
theorem dX9_cycle_8 : decode cX9_cycle 8 = .ok (.ireturn, 1) := by decide +kernel
theorem dX9_cycle_9 : decode cX9_cycle 9 = .ok (.aload_n 0, 1) := by decide +kernel
theorem dX9_cycle_10 : decode cX9_cycle 10 = .ok (.getfield 19, 3) := by decide +kernel
theorem dX9_cycle_13 : decode cX9_cycle 13 = .ok (.invokevirtual 115, 3) := by decide +kernel
theorem dX9_cycle_16 : decode cX9_cycle 16 = .ok (.ifCond .ne 6, 3) := by decide +kernel
theorem dX9_cycle_19 : decode cX9_cycle 19 = .ok (.bipush (-2), 2) := by decide +kernel
theorem dX9_cycle_21 : decode cX9_cycle 21 = .ok (.ireturn, 1) := by decide +kernel
theorem dX9_cycle_22 : decode cX9_cycle 22 = .ok (.aload_n 0, 1) := by decide +kernel
theorem dX9_cycle_23 : decode cX9_cycle 23 = .ok (.getfield 131, 3) := by decide +kernel
theorem dX9_cycle_26 : decode cX9_cycle 26 = .ok (.ifnonnull 14, 3) := by decide +kernel
theorem dX9_cycle_29 : decode cX9_cycle 29 = .ok (.aload_n 0, 1) := by decide +kernel
theorem dX9_cycle_30 : decode cX9_cycle 30 = .ok (.new 135, 3) := by decide +kernel
theorem dX9_cycle_33 : decode cX9_cycle 33 = .ok (.dup, 1) := by decide +kernel
theorem dX9_cycle_34 : decode cX9_cycle 34 = .ok (.invokespecial 137, 3) := by decide +kernel
theorem dX9_cycle_37 : decode cX9_cycle 37 = .ok (.putfield 131, 3) := by decide +kernel
theorem dX9_cycle_40 : decode cX9_cycle 40 = .ok (.aload_n 0, 1) := by decide +kernel
theorem dX9_cycle_41 : decode cX9_cycle 41 = .ok (.getfield 131, 3) := by decide +kernel
theorem dX9_cycle_44 : decode cX9_cycle 44 = .ok (.aload_n 0, 1) := by decide +kernel
theorem dX9_cycle_45 : decode cX9_cycle 45 = .ok (.getfield 19, 3) := by decide +kernel
theorem dX9_cycle_48 : decode cX9_cycle 48 = .ok (.iload_n 1, 1) := by decide +kernel
theorem dX9_cycle_49 : decode cX9_cycle 49 = .ok (.invokevirtual 138, 3) := by decide +kernel
theorem dX9_cycle_52 : decode cX9_cycle 52 = .ok (.ireturn, 1) := by decide +kernel
theorem dX9_value_0 : decode cX9_value 0 = .ok (.iload_n 1, 1) := by decide +kernel
theorem dX9_value_1 : decode cX9_value 1 = .ok (.invokestatic 58, 3) := by decide +kernel
theorem dX9_value_4 : decode cX9_value 4 = .ok (.ifCond .eq 10, 3) := by decide +kernel
theorem dX9_value_7 : decode cX9_value 7 = .ok (.iload_n 2, 1) := by decide +kernel
theorem dX9_value_8 : decode cX9_value 8 = .ok (.invokestatic 142, 3) := by decide +kernel
theorem dX9_value_11 : decode cX9_value 11 = .ok (.ifCond .ne 5, 3) := by decide +kernel
theorem dX9_value_14 : decode cX9_value 14 = .ok (.iconst (-1), 1) := by decide +kernel
theorem dX9_value_15 : decode cX9_value 15 = .ok (.ireturn, 1) := by decide +kernel
theorem dX9_value_16 : decode cX9_value 16 = .ok (.aload_n 0, 1) := by decide +kernel
theorem dX9_value_17 : decode cX9_value 17 = .ok (.invokevirtual 145, 3) := by decide +kernel
theorem dX9_value_20 : decode cX9_value 20 = .ok (.astore_n 3, 1) := by decide +kernel
theorem dX9_value_21 : decode cX9_value 21 = .ok (.aload_n 3, 1) := by decide +kernel
theorem dX9_value_22 : decode cX9_value 22 = .ok (.iload_n 1, 1) := by decide +kernel
theorem dX9_value_23 : decode cX9_value 23 = .ok (.iload_n 2, 1) := by decide +kernel
theorem dX9_value_24 : decode cX9_value 24 = .ok (.invokevirtual 149, 3) := by decide +kernel
theorem dX9_value_27 : decode cX9_value 27 = .ok (.aload_n 3, 1) := by decide +kernel
theorem dX9_value_28 : decode cX9_value 28 = .ok (.iload_n 1, 1) := by decide +kernel
theorem dX9_value_29 : decode cX9_value 29 = .ok (.iload_n 2, 1) := by decide +kernel
theorem dX9_value_30 : decode cX9_value 30 = .ok (.invokevirtual 153, 3) := by decide +kernel
theorem dX9_value_33 : decode cX9_value 33 = .ok (.ireturn, 1) := by decide +kernel
theorem dX9_stream_0 : decode cX9_stream 0 = .ok (.iload_n 1, 1) := by decide +kernel
theorem dX9_stream_1 : decode cX9_stream 1 = .ok (.invokestatic 58, 3) := by decide +kernel
theorem dX9_stream_4 : decode cX9_stream 4 = .ok (.ifCond .eq 12, 3) := by decide +kernel
theorem dX9_stream_7 : decode cX9_stream 7 = .ok (.iload_n 2, 1) := by decide +kernel
theorem dX9_stream_8 : decode cX9_stream 8 = .ok (.ifCond .lt 8, 3) := by decide +kernel
theorem dX9_stream_11 : decode cX9_stream 11 = .ok (.iload_n 2, 1) := by decide +kernel
theorem dX9_stream_12 : decode cX9_stream 12 = .ok (.iconst 5, 1) := by decide +kernel
theorem dX9_stream_13 : decode cX9_stream 13 = .ok (.if_icmp .le 5, 3) := by decide +kernel
theorem dX9_stream_16 : decode cX9_stream 16 = .ok (.iconst (-1), 1) := by decide +kernel
theorem dX9_stream_17 : decode cX9_stream 17 = .ok (.ireturn, 1) := by decide +kernel
theorem dX9_stream_18 : decode cX9_stream 18 = .ok (.iload_n 2, 1) := by decide +kernel
theorem dX9_stream_19 : decode cX9_stream 19 = .ok (.ifCond .ne 27, 3) := by decide +kernel
theorem dX9_stream_22 : decode cX9_stream 22 = .ok (.aload_n 0, 1) := by decide +kernel
theorem dX9_stream_23 : decode cX9_stream 23 = .ok (.getfield 19, 3) := by decide +kernel
theorem dX9_stream_26 : decode cX9_stream 26 = .ok (.getfield 69, 3) := by decide +kernel
theorem dX9_stream_29 : decode cX9_stream 29 = .ok (.iload_n 1, 1) := by decide +kernel
theorem dX9_stream_30 : decode cX9_stream 30 = .ok (.aaload, 1) := by decide +kernel
theorem dX9_stream_31 : decode cX9_stream 31 = .ok (.astore_n 3, 1) := by decide +kernel
theorem dX9_stream_32 : decode cX9_stream 32 = .ok (.aload_n 3, 1) := by decide +kernel
theorem dX9_stream_33 : decode cX9_stream 33 = .ok (.ifnonnull 8, 3) := by decide +kernel
theorem dX9_stream_36 : decode cX9_stream 36 = .ok (.bipush (-9), 2) := by decide +kernel
theorem dX9_stream_38 : decode cX9_stream 38 = .ok (.goto 7, 3) := by decide +kernel
theorem dX9_stream_41 : decode cX9_stream 41 = .ok (.aload_n 3, 1) := by decide +kernel
theorem dX9_stream_42 : decode cX9_stream 42 = .ok (.getfield 73, 3) := by decide +kernel
theorem dX9_stream_45 : decode cX9_stream 45 = .ok (.ireturn, 1) := by decide +kernel
theorem dX9_stream_46 : decode cX9_stream 46 = .ok (.aload_n 0, 1) := by decide +kernel
theorem dX9_stream_47 : decode cX9_stream 47 = .ok (.invokevirtual 145, 3) := by decide +kernel
theorem dX9_stream_50 : decode cX9_stream 50 = .ok (.astore_n 3, 1) := by decide +kernel
theorem dX9_stream_51 : decode cX9_stream 51 = .ok (.aload_n 3, 1) := by decide +kernel
theorem dX9_stream_52 : decode cX9_stream 52 = .ok (.iload_n 1, 1) := by decide +kernel
theorem dX9_stream_53 : decode cX9_stream 53 = .ok (.invokevirtual 157, 3) := by decide +kernel
theorem dX9_stream_56 : decode cX9_stream 56 = .ok (.iload_n 2, 1) := by decide +kernel
theorem dX9_stream_57 : decode cX9_stream 57 = .ok (.tableswitch 55 1 4 #[31, 37, 43, 49], 31) := by decide +kernel
theorem dX9_stream_88 : decode cX9_stream 88 = .ok (.aload_n 3, 1) := by decide +kernel
theorem dX9_stream_89 : decode cX9_stream 89 = .ok (.iload_n 1, 1) := by decide +kernel
theorem dX9_stream_90 : decode cX9_stream 90 = .ok (.invokevirtual 161, 3) := by decide +kernel
theorem dX9_stream_93 : decode cX9_stream 93 = .ok (.ireturn, 1) := by decide +kernel
theorem dX9_stream_94 : decode cX9_stream 94 = .ok (.aload_n 3, 1) := by decide +kernel
theorem dX9_stream_95 : decode cX9_stream 95 = .ok (.iload_n 1, 1) := by decide +kernel
theorem dX9_stream_96 : decode cX9_stream 96 = .ok (.invokevirtual 164, 3) := by decide +kernel
theorem dX9_stream_99 : decode cX9_stream 99 = .ok (.ireturn, 1) := by decide +kernel
theorem dX9_stream_100 : decode cX9_stream 100 = .ok (.aload_n 3, 1) := by decide +kernel
theorem dX9_stream_101 : decode cX9_stream 101 = .ok (.iload_n 1, 1) := by decide +kernel
theorem dX9_stream_102 : decode cX9_stream 102 = .ok (.invokevirtual 167, 3) := by decide +kernel
theorem dX9_stream_105 : decode cX9_stream 105 = .ok (.ireturn, 1) := by decide +kernel
theorem dX9_stream_106 : decode cX9_stream 106 = .ok (.aload_n 3, 1) := by decide +kernel
theorem dX9_stream_107 : decode cX9_stream 107 = .ok (.iload_n 1, 1) := by decide +kernel
theorem dX9_stream_108 : decode cX9_stream 108 = .ok (.invokevirtual 170, 3) := by decide +kernel
theorem dX9_stream_111 : decode cX9_stream 111 = .ok (.ireturn, 1) := by decide +kernel
theorem dX9_stream_112 : decode cX9_stream 112 = .ok (.aload_n 3, 1) := by decide +kernel
theorem dX9_stream_113 : decode cX9_stream 113 = .ok (.iload_n 1, 1) := by decide +kernel
theorem dX9_stream_114 : decode cX9_stream 114 = .ok (.invokevirtual 173, 3) := by decide +kernel
theorem dX9_stream_117 : decode cX9_stream 117 = .ok (.ireturn, 1) := by decide +kernel
theorem dX9_parting_0 : decode cX9_parting 0 = .ok (.iload_n 1, 1) := by decide +kernel
theorem dX9_parting_1 : decode cX9_parting 1 = .ok (.invokestatic 58, 3) := by decide +kernel
theorem dX9_parting_4 : decode cX9_parting 4 = .ok (.ifCond .eq 10, 3) := by decide +kernel
theorem dX9_parting_7 : decode cX9_parting 7 = .ok (.iload_n 2, 1) := by decide +kernel
theorem dX9_parting_8 : decode cX9_parting 8 = .ok (.invokestatic 58, 3) := by decide +kernel
theorem dX9_parting_11 : decode cX9_parting 11 = .ok (.ifCond .ne 5, 3) := by decide +kernel
theorem dX9_parting_14 : decode cX9_parting 14 = .ok (.iconst (-1), 1) := by decide +kernel
theorem dX9_parting_15 : decode cX9_parting 15 = .ok (.ireturn, 1) := by decide +kernel
theorem dX9_parting_16 : decode cX9_parting 16 = .ok (.aload_n 0, 1) := by decide +kernel
theorem dX9_parting_17 : decode cX9_parting 17 = .ok (.invokevirtual 145, 3) := by decide +kernel
theorem dX9_parting_20 : decode cX9_parting 20 = .ok (.astore_n 3, 1) := by decide +kernel
theorem dX9_parting_21 : decode cX9_parting 21 = .ok (.aload_n 3, 1) := by decide +kernel
theorem dX9_parting_22 : decode cX9_parting 22 = .ok (.iload_n 1, 1) := by decide +kernel
theorem dX9_parting_23 : decode cX9_parting 23 = .ok (.invokevirtual 176, 3) := by decide +kernel
theorem dX9_parting_26 : decode cX9_parting 26 = .ok (.aload_n 3, 1) := by decide +kernel
theorem dX9_parting_27 : decode cX9_parting 27 = .ok (.iload_n 2, 1) := by decide +kernel
theorem dX9_parting_28 : decode cX9_parting 28 = .ok (.invokevirtual 176, 3) := by decide +kernel
theorem dX9_parting_31 : decode cX9_parting 31 = .ok (.aload_n 3, 1) := by decide +kernel
theorem dX9_parting_32 : decode cX9_parting 32 = .ok (.iload_n 1, 1) := by decide +kernel
theorem dX9_parting_33 : decode cX9_parting 33 = .ok (.iload_n 2, 1) := by decide +kernel
theorem dX9_parting_34 : decode cX9_parting 34 = .ok (.invokevirtual 179, 3) := by decide +kernel
theorem dX9_parting_37 : decode cX9_parting 37 = .ok (.ireturn, 1) := by decide +kernel
theorem dX9_alike_0 : decode cX9_alike 0 = .ok (.iload_n 1, 1) := by decide +kernel
theorem dX9_alike_1 : decode cX9_alike 1 = .ok (.invokestatic 58, 3) := by decide +kernel
theorem dX9_alike_4 : decode cX9_alike 4 = .ok (.ifCond .ne 5, 3) := by decide +kernel
theorem dX9_alike_7 : decode cX9_alike 7 = .ok (.iconst (-1), 1) := by decide +kernel
theorem dX9_alike_8 : decode cX9_alike 8 = .ok (.ireturn, 1) := by decide +kernel
theorem dX9_alike_9 : decode cX9_alike 9 = .ok (.aload_n 0, 1) := by decide +kernel
theorem dX9_alike_10 : decode cX9_alike 10 = .ok (.invokevirtual 145, 3) := by decide +kernel
theorem dX9_alike_13 : decode cX9_alike 13 = .ok (.astore_n 2, 1) := by decide +kernel
theorem dX9_alike_14 : decode cX9_alike 14 = .ok (.iconst 0, 1) := by decide +kernel
theorem dX9_alike_15 : decode cX9_alike 15 = .ok (.istore_n 3, 1) := by decide +kernel
theorem dX9_alike_16 : decode cX9_alike 16 = .ok (.iload_n 3, 1) := by decide +kernel
theorem dX9_alike_17 : decode cX9_alike 17 = .ok (.bipush 8, 2) := by decide +kernel
theorem dX9_alike_19 : decode cX9_alike 19 = .ok (.if_icmp .ge 14, 3) := by decide +kernel
theorem dX9_alike_22 : decode cX9_alike 22 = .ok (.aload_n 2, 1) := by decide +kernel
theorem dX9_alike_23 : decode cX9_alike 23 = .ok (.iload_n 3, 1) := by decide +kernel
theorem dX9_alike_24 : decode cX9_alike 24 = .ok (.invokevirtual 176, 3) := by decide +kernel
theorem dX9_alike_27 : decode cX9_alike 27 = .ok (.iinc 3 1, 3) := by decide +kernel
theorem dX9_alike_30 : decode cX9_alike 30 = .ok (.goto (-14), 3) := by decide +kernel
theorem dX9_alike_33 : decode cX9_alike 33 = .ok (.aload_n 2, 1) := by decide +kernel
theorem dX9_alike_34 : decode cX9_alike 34 = .ok (.iload_n 1, 1) := by decide +kernel
theorem dX9_alike_35 : decode cX9_alike 35 = .ok (.invokevirtual 182, 3) := by decide +kernel
theorem dX9_alike_38 : decode cX9_alike 38 = .ok (.ireturn, 1) := by decide +kernel
theorem dX9_needs_0 : decode cX9_needs 0 = .ok (.iload_n 1, 1) := by decide +kernel
theorem dX9_needs_1 : decode cX9_needs 1 = .ok (.invokestatic 58, 3) := by decide +kernel
theorem dX9_needs_4 : decode cX9_needs 4 = .ok (.ifCond .eq 19, 3) := by decide +kernel
theorem dX9_needs_7 : decode cX9_needs 7 = .ok (.iload_n 2, 1) := by decide +kernel
theorem dX9_needs_8 : decode cX9_needs 8 = .ok (.invokestatic 142, 3) := by decide +kernel
theorem dX9_needs_11 : decode cX9_needs 11 = .ok (.ifCond .eq 12, 3) := by decide +kernel
theorem dX9_needs_14 : decode cX9_needs 14 = .ok (.iload_n 3, 1) := by decide +kernel
theorem dX9_needs_15 : decode cX9_needs 15 = .ok (.ifCond .lt 8, 3) := by decide +kernel
theorem dX9_needs_18 : decode cX9_needs 18 = .ok (.iload_n 3, 1) := by decide +kernel
theorem dX9_needs_19 : decode cX9_needs 19 = .ok (.iconst 3, 1) := by decide +kernel
theorem dX9_needs_20 : decode cX9_needs 20 = .ok (.if_icmp .le 5, 3) := by decide +kernel
theorem dX9_needs_23 : decode cX9_needs 23 = .ok (.iconst (-1), 1) := by decide +kernel
theorem dX9_needs_24 : decode cX9_needs 24 = .ok (.ireturn, 1) := by decide +kernel
theorem dX9_needs_25 : decode cX9_needs 25 = .ok (.aload_n 0, 1) := by decide +kernel
theorem dX9_needs_26 : decode cX9_needs 26 = .ok (.invokevirtual 145, 3) := by decide +kernel
theorem dX9_needs_29 : decode cX9_needs 29 = .ok (.astore 4, 2) := by decide +kernel
theorem dX9_needs_31 : decode cX9_needs 31 = .ok (.aload 4, 2) := by decide +kernel
theorem dX9_needs_33 : decode cX9_needs 33 = .ok (.iload_n 1, 1) := by decide +kernel
theorem dX9_needs_34 : decode cX9_needs 34 = .ok (.iload_n 2, 1) := by decide +kernel
theorem dX9_needs_35 : decode cX9_needs 35 = .ok (.invokevirtual 149, 3) := by decide +kernel
theorem dX9_needs_38 : decode cX9_needs 38 = .ok (.aload 4, 2) := by decide +kernel
theorem dX9_needs_40 : decode cX9_needs 40 = .ok (.iload_n 1, 1) := by decide +kernel
theorem dX9_needs_41 : decode cX9_needs 41 = .ok (.iload_n 2, 1) := by decide +kernel
theorem dX9_needs_42 : decode cX9_needs 42 = .ok (.invokevirtual 153, 3) := by decide +kernel
theorem dX9_needs_45 : decode cX9_needs 45 = .ok (.bipush (-9), 2) := by decide +kernel
theorem dX9_needs_47 : decode cX9_needs 47 = .ok (.if_icmp .ne 6, 3) := by decide +kernel
theorem dX9_needs_50 : decode cX9_needs 50 = .ok (.bipush (-9), 2) := by decide +kernel
theorem dX9_needs_52 : decode cX9_needs 52 = .ok (.ireturn, 1) := by decide +kernel
theorem dX9_needs_53 : decode cX9_needs 53 = .ok (.iload_n 3, 1) := by decide +kernel
theorem dX9_needs_54 : decode cX9_needs 54 = .ok (.iconst 1, 1) := by decide +kernel
theorem dX9_needs_55 : decode cX9_needs 55 = .ok (.if_icmp .ne 11, 3) := by decide +kernel
theorem dX9_needs_58 : decode cX9_needs 58 = .ok (.aload 4, 2) := by decide +kernel
theorem dX9_needs_60 : decode cX9_needs 60 = .ok (.iload_n 1, 1) := by decide +kernel
theorem dX9_needs_61 : decode cX9_needs 61 = .ok (.iload_n 2, 1) := by decide +kernel
theorem dX9_needs_62 : decode cX9_needs 62 = .ok (.invokevirtual 185, 3) := by decide +kernel
theorem dX9_needs_65 : decode cX9_needs 65 = .ok (.ireturn, 1) := by decide +kernel
theorem dX9_needs_66 : decode cX9_needs 66 = .ok (.aload 4, 2) := by decide +kernel
theorem dX9_needs_68 : decode cX9_needs 68 = .ok (.iload_n 1, 1) := by decide +kernel
theorem dX9_needs_69 : decode cX9_needs 69 = .ok (.iload_n 2, 1) := by decide +kernel
theorem dX9_needs_70 : decode cX9_needs 70 = .ok (.invokevirtual 188, 3) := by decide +kernel
theorem dX9_needs_73 : decode cX9_needs 73 = .ok (.istore 5, 2) := by decide +kernel
theorem dX9_needs_75 : decode cX9_needs 75 = .ok (.iload_n 3, 1) := by decide +kernel
theorem dX9_needs_76 : decode cX9_needs 76 = .ok (.lookupswitch 41 #[(0, 28), (2, 31)], 28) := by decide +kernel
theorem dX9_needs_104 : decode cX9_needs 104 = .ok (.iload 5, 2) := by decide +kernel
theorem dX9_needs_106 : decode cX9_needs 106 = .ok (.ireturn, 1) := by decide +kernel
theorem dX9_needs_107 : decode cX9_needs 107 = .ok (.aload_n 0, 1) := by decide +kernel
theorem dX9_needs_108 : decode cX9_needs 108 = .ok (.invokevirtual 191, 3) := by decide +kernel
theorem dX9_needs_111 : decode cX9_needs 111 = .ok (.iload 5, 2) := by decide +kernel
theorem dX9_needs_113 : decode cX9_needs 113 = .ok (.invokevirtual 195, 3) := by decide +kernel
theorem dX9_needs_116 : decode cX9_needs 116 = .ok (.ireturn, 1) := by decide +kernel
theorem dX9_needs_117 : decode cX9_needs 117 = .ok (.aload_n 0, 1) := by decide +kernel
theorem dX9_needs_118 : decode cX9_needs 118 = .ok (.invokevirtual 191, 3) := by decide +kernel
theorem dX9_needs_121 : decode cX9_needs 121 = .ok (.iload 5, 2) := by decide +kernel
theorem dX9_needs_123 : decode cX9_needs 123 = .ok (.invokevirtual 200, 3) := by decide +kernel
theorem dX9_needs_126 : decode cX9_needs 126 = .ok (.ireturn, 1) := by decide +kernel
theorem dX9_keep_0 : decode cX9_keep 0 = .ok (.iload_n 1, 1) := by decide +kernel
theorem dX9_keep_1 : decode cX9_keep 1 = .ok (.invokestatic 203, 3) := by decide +kernel
theorem dX9_keep_4 : decode cX9_keep 4 = .ok (.ifCond .ne 5, 3) := by decide +kernel
theorem dX9_keep_7 : decode cX9_keep 7 = .ok (.iconst (-1), 1) := by decide +kernel
theorem dX9_keep_8 : decode cX9_keep 8 = .ok (.ireturn, 1) := by decide +kernel
theorem dX9_keep_9 : decode cX9_keep 9 = .ok (.aload_n 0, 1) := by decide +kernel
theorem dX9_keep_10 : decode cX9_keep 10 = .ok (.getfield 37, 3) := by decide +kernel
theorem dX9_keep_13 : decode cX9_keep 13 = .ok (.iload_n 1, 1) := by decide +kernel
theorem dX9_keep_14 : decode cX9_keep 14 = .ok (.aaload, 1) := by decide +kernel
theorem dX9_keep_15 : decode cX9_keep 15 = .ok (.astore_n 2, 1) := by decide +kernel
theorem dX9_keep_16 : decode cX9_keep 16 = .ok (.aload_n 2, 1) := by decide +kernel
theorem dX9_keep_17 : decode cX9_keep 17 = .ok (.ifnonnull 18, 3) := by decide +kernel
theorem dX9_keep_20 : decode cX9_keep 20 = .ok (.new 16, 3) := by decide +kernel
theorem dX9_keep_23 : decode cX9_keep 23 = .ok (.dup, 1) := by decide +kernel
theorem dX9_keep_24 : decode cX9_keep 24 = .ok (.invokespecial 18, 3) := by decide +kernel
theorem dX9_keep_27 : decode cX9_keep 27 = .ok (.astore_n 2, 1) := by decide +kernel
theorem dX9_keep_28 : decode cX9_keep 28 = .ok (.aload_n 0, 1) := by decide +kernel
theorem dX9_keep_29 : decode cX9_keep 29 = .ok (.getfield 37, 3) := by decide +kernel
theorem dX9_keep_32 : decode cX9_keep 32 = .ok (.iload_n 1, 1) := by decide +kernel
theorem dX9_keep_33 : decode cX9_keep 33 = .ok (.aload_n 2, 1) := by decide +kernel
theorem dX9_keep_34 : decode cX9_keep 34 = .ok (.aastore, 1) := by decide +kernel
theorem dX9_keep_35 : decode cX9_keep 35 = .ok (.aload_n 2, 1) := by decide +kernel
theorem dX9_keep_36 : decode cX9_keep 36 = .ok (.aload_n 0, 1) := by decide +kernel
theorem dX9_keep_37 : decode cX9_keep 37 = .ok (.getfield 19, 3) := by decide +kernel
theorem dX9_keep_40 : decode cX9_keep 40 = .ok (.invokevirtual 206, 3) := by decide +kernel
theorem dX9_keep_43 : decode cX9_keep 43 = .ok (.aload_n 0, 1) := by decide +kernel
theorem dX9_keep_44 : decode cX9_keep 44 = .ok (.getfield 43, 3) := by decide +kernel
theorem dX9_keep_47 : decode cX9_keep 47 = .ok (.iload_n 1, 1) := by decide +kernel
theorem dX9_keep_48 : decode cX9_keep 48 = .ok (.aaload, 1) := by decide +kernel
theorem dX9_keep_49 : decode cX9_keep 49 = .ok (.astore_n 3, 1) := by decide +kernel
theorem dX9_keep_50 : decode cX9_keep 50 = .ok (.aload_n 3, 1) := by decide +kernel
theorem dX9_keep_51 : decode cX9_keep 51 = .ok (.ifnull 7, 3) := by decide +kernel
theorem dX9_keep_54 : decode cX9_keep 54 = .ok (.aload_n 3, 1) := by decide +kernel
theorem dX9_keep_55 : decode cX9_keep 55 = .ok (.invokevirtual 209, 3) := by decide +kernel
theorem dX9_keep_58 : decode cX9_keep 58 = .ok (.aload_n 2, 1) := by decide +kernel
theorem dX9_keep_59 : decode cX9_keep 59 = .ok (.invokevirtual 110, 3) := by decide +kernel
theorem dX9_keep_62 : decode cX9_keep 62 = .ok (.ireturn, 1) := by decide +kernel
theorem dX9_back_0 : decode cX9_back 0 = .ok (.iload_n 1, 1) := by decide +kernel
theorem dX9_back_1 : decode cX9_back 1 = .ok (.invokestatic 203, 3) := by decide +kernel
theorem dX9_back_4 : decode cX9_back 4 = .ok (.ifCond .ne 5, 3) := by decide +kernel
theorem dX9_back_7 : decode cX9_back 7 = .ok (.iconst (-1), 1) := by decide +kernel
theorem dX9_back_8 : decode cX9_back 8 = .ok (.ireturn, 1) := by decide +kernel
theorem dX9_back_9 : decode cX9_back 9 = .ok (.aload_n 0, 1) := by decide +kernel
theorem dX9_back_10 : decode cX9_back 10 = .ok (.getfield 37, 3) := by decide +kernel
theorem dX9_back_13 : decode cX9_back 13 = .ok (.iload_n 1, 1) := by decide +kernel
theorem dX9_back_14 : decode cX9_back 14 = .ok (.aaload, 1) := by decide +kernel
theorem dX9_back_15 : decode cX9_back 15 = .ok (.astore_n 2, 1) := by decide +kernel
theorem dX9_back_16 : decode cX9_back 16 = .ok (.aload_n 2, 1) := by decide +kernel
theorem dX9_back_17 : decode cX9_back 17 = .ok (.ifnonnull 6, 3) := by decide +kernel
theorem dX9_back_20 : decode cX9_back 20 = .ok (.bipush (-2), 2) := by decide +kernel
theorem dX9_back_22 : decode cX9_back 22 = .ok (.ireturn, 1) := by decide +kernel
theorem dX9_back_23 : decode cX9_back 23 = .ok (.aload_n 0, 1) := by decide +kernel
theorem dX9_back_24 : decode cX9_back 24 = .ok (.invokevirtual 66, 3) := by decide +kernel
theorem dX9_back_27 : decode cX9_back 27 = .ok (.aload_n 0, 1) := by decide +kernel
theorem dX9_back_28 : decode cX9_back 28 = .ok (.getfield 19, 3) := by decide +kernel
theorem dX9_back_31 : decode cX9_back 31 = .ok (.aload_n 2, 1) := by decide +kernel
theorem dX9_back_32 : decode cX9_back 32 = .ok (.invokevirtual 206, 3) := by decide +kernel
theorem dX9_back_35 : decode cX9_back 35 = .ok (.aload_n 0, 1) := by decide +kernel
theorem dX9_back_36 : decode cX9_back 36 = .ok (.getfield 19, 3) := by decide +kernel
theorem dX9_back_39 : decode cX9_back 39 = .ok (.invokevirtual 110, 3) := by decide +kernel
theorem dX9_back_42 : decode cX9_back 42 = .ok (.ireturn, 1) := by decide +kernel
theorem dX9_changed_0 : decode cX9_changed 0 = .ok (.iload_n 1, 1) := by decide +kernel
theorem dX9_changed_1 : decode cX9_changed 1 = .ok (.invokestatic 58, 3) := by decide +kernel
theorem dX9_changed_4 : decode cX9_changed 4 = .ok (.ifCond .eq 10, 3) := by decide +kernel
theorem dX9_changed_7 : decode cX9_changed 7 = .ok (.iload_n 2, 1) := by decide +kernel
theorem dX9_changed_8 : decode cX9_changed 8 = .ok (.invokestatic 203, 3) := by decide +kernel
theorem dX9_changed_11 : decode cX9_changed 11 = .ok (.ifCond .ne 5, 3) := by decide +kernel
theorem dX9_changed_14 : decode cX9_changed 14 = .ok (.iconst (-1), 1) := by decide +kernel
theorem dX9_changed_15 : decode cX9_changed 15 = .ok (.ireturn, 1) := by decide +kernel
theorem dX9_changed_16 : decode cX9_changed 16 = .ok (.aload_n 0, 1) := by decide +kernel
theorem dX9_changed_17 : decode cX9_changed 17 = .ok (.getfield 37, 3) := by decide +kernel
theorem dX9_changed_20 : decode cX9_changed 20 = .ok (.iload_n 2, 1) := by decide +kernel
theorem dX9_changed_21 : decode cX9_changed 21 = .ok (.aaload, 1) := by decide +kernel
theorem dX9_changed_22 : decode cX9_changed 22 = .ok (.astore_n 3, 1) := by decide +kernel
theorem dX9_changed_23 : decode cX9_changed 23 = .ok (.aload_n 3, 1) := by decide +kernel
theorem dX9_changed_24 : decode cX9_changed 24 = .ok (.ifnonnull 6, 3) := by decide +kernel
theorem dX9_changed_27 : decode cX9_changed 27 = .ok (.bipush (-2), 2) := by decide +kernel
theorem dX9_changed_29 : decode cX9_changed 29 = .ok (.ireturn, 1) := by decide +kernel
theorem dX9_changed_30 : decode cX9_changed 30 = .ok (.aload_n 0, 1) := by decide +kernel
theorem dX9_changed_31 : decode cX9_changed 31 = .ok (.getfield 43, 3) := by decide +kernel
theorem dX9_changed_34 : decode cX9_changed 34 = .ok (.iload_n 2, 1) := by decide +kernel
theorem dX9_changed_35 : decode cX9_changed 35 = .ok (.aaload, 1) := by decide +kernel
theorem dX9_changed_36 : decode cX9_changed 36 = .ok (.astore 4, 2) := by decide +kernel
theorem dX9_changed_38 : decode cX9_changed 38 = .ok (.aload 4, 2) := by decide +kernel
theorem dX9_changed_40 : decode cX9_changed 40 = .ok (.ifnonnull 25, 3) := by decide +kernel
theorem dX9_changed_43 : decode cX9_changed 43 = .ok (.new 41, 3) := by decide +kernel
theorem dX9_changed_46 : decode cX9_changed 46 = .ok (.dup, 1) := by decide +kernel
theorem dX9_changed_47 : decode cX9_changed 47 = .ok (.aload_n 3, 1) := by decide +kernel
theorem dX9_changed_48 : decode cX9_changed 48 = .ok (.aload_n 0, 1) := by decide +kernel
theorem dX9_changed_49 : decode cX9_changed 49 = .ok (.invokevirtual 191, 3) := by decide +kernel
theorem dX9_changed_52 : decode cX9_changed 52 = .ok (.invokespecial 212, 3) := by decide +kernel
theorem dX9_changed_55 : decode cX9_changed 55 = .ok (.astore 4, 2) := by decide +kernel
theorem dX9_changed_57 : decode cX9_changed 57 = .ok (.aload_n 0, 1) := by decide +kernel
theorem dX9_changed_58 : decode cX9_changed 58 = .ok (.getfield 43, 3) := by decide +kernel
theorem dX9_changed_61 : decode cX9_changed 61 = .ok (.iload_n 2, 1) := by decide +kernel
theorem dX9_changed_62 : decode cX9_changed 62 = .ok (.aload 4, 2) := by decide +kernel
theorem dX9_changed_64 : decode cX9_changed 64 = .ok (.aastore, 1) := by decide +kernel
theorem dX9_changed_65 : decode cX9_changed 65 = .ok (.aload_n 0, 1) := by decide +kernel
theorem dX9_changed_66 : decode cX9_changed 66 = .ok (.invokevirtual 145, 3) := by decide +kernel
theorem dX9_changed_69 : decode cX9_changed 69 = .ok (.astore 5, 2) := by decide +kernel
theorem dX9_changed_71 : decode cX9_changed 71 = .ok (.aload 5, 2) := by decide +kernel
theorem dX9_changed_73 : decode cX9_changed 73 = .ok (.iload_n 1, 1) := by decide +kernel
theorem dX9_changed_74 : decode cX9_changed 74 = .ok (.invokevirtual 176, 3) := by decide +kernel
theorem dX9_changed_77 : decode cX9_changed 77 = .ok (.aload 4, 2) := by decide +kernel
theorem dX9_changed_79 : decode cX9_changed 79 = .ok (.iload_n 1, 1) := by decide +kernel
theorem dX9_changed_80 : decode cX9_changed 80 = .ok (.invokevirtual 176, 3) := by decide +kernel
theorem dX9_changed_83 : decode cX9_changed 83 = .ok (.aload 5, 2) := by decide +kernel
theorem dX9_changed_85 : decode cX9_changed 85 = .ok (.aload 4, 2) := by decide +kernel
theorem dX9_changed_87 : decode cX9_changed 87 = .ok (.iload_n 1, 1) := by decide +kernel
theorem dX9_changed_88 : decode cX9_changed 88 = .ok (.invokevirtual 215, 3) := by decide +kernel
theorem dX9_changed_91 : decode cX9_changed 91 = .ok (.ireturn, 1) := by decide +kernel
theorem dX9_isStream_0 : decode cX9_isStream 0 = .ok (.iload_n 0, 1) := by decide +kernel
theorem dX9_isStream_1 : decode cX9_isStream 1 = .ok (.ifCond .lt 13, 3) := by decide +kernel
theorem dX9_isStream_4 : decode cX9_isStream 4 = .ok (.iload_n 0, 1) := by decide +kernel
theorem dX9_isStream_5 : decode cX9_isStream 5 = .ok (.bipush 8, 2) := by decide +kernel
theorem dX9_isStream_7 : decode cX9_isStream 7 = .ok (.if_icmp .ge 7, 3) := by decide +kernel
theorem dX9_isStream_10 : decode cX9_isStream 10 = .ok (.iconst 1, 1) := by decide +kernel
theorem dX9_isStream_11 : decode cX9_isStream 11 = .ok (.goto 4, 3) := by decide +kernel
theorem dX9_isStream_14 : decode cX9_isStream 14 = .ok (.iconst 0, 1) := by decide +kernel
theorem dX9_isStream_15 : decode cX9_isStream 15 = .ok (.ireturn, 1) := by decide +kernel
theorem dX9_isIndex_0 : decode cX9_isIndex 0 = .ok (.iload_n 0, 1) := by decide +kernel
theorem dX9_isIndex_1 : decode cX9_isIndex 1 = .ok (.ifCond .lt 14, 3) := by decide +kernel
theorem dX9_isIndex_4 : decode cX9_isIndex 4 = .ok (.iload_n 0, 1) := by decide +kernel
theorem dX9_isIndex_5 : decode cX9_isIndex 5 = .ok (.sipush 400, 3) := by decide +kernel
theorem dX9_isIndex_8 : decode cX9_isIndex 8 = .ok (.if_icmp .ge 7, 3) := by decide +kernel
theorem dX9_isIndex_11 : decode cX9_isIndex 11 = .ok (.iconst 1, 1) := by decide +kernel
theorem dX9_isIndex_12 : decode cX9_isIndex 12 = .ok (.goto 4, 3) := by decide +kernel
theorem dX9_isIndex_15 : decode cX9_isIndex 15 = .ok (.iconst 0, 1) := by decide +kernel
theorem dX9_isIndex_16 : decode cX9_isIndex 16 = .ok (.ireturn, 1) := by decide +kernel
theorem dX9_isImage_0 : decode cX9_isImage 0 = .ok (.iload_n 0, 1) := by decide +kernel
theorem dX9_isImage_1 : decode cX9_isImage 1 = .ok (.ifCond .lt 12, 3) := by decide +kernel
theorem dX9_isImage_4 : decode cX9_isImage 4 = .ok (.iload_n 0, 1) := by decide +kernel
theorem dX9_isImage_5 : decode cX9_isImage 5 = .ok (.iconst 2, 1) := by decide +kernel
theorem dX9_isImage_6 : decode cX9_isImage 6 = .ok (.if_icmp .ge 7, 3) := by decide +kernel
theorem dX9_isImage_9 : decode cX9_isImage 9 = .ok (.iconst 1, 1) := by decide +kernel
theorem dX9_isImage_10 : decode cX9_isImage 10 = .ok (.goto 4, 3) := by decide +kernel
theorem dX9_isImage_13 : decode cX9_isImage 13 = .ok (.iconst 0, 1) := by decide +kernel
theorem dX9_isImage_14 : decode cX9_isImage 14 = .ok (.ireturn, 1) := by decide +kernel
theorem dX9_countFull_0 : decode cX9_countFull 0 = .ok (.aload_n 0, 1) := by decide +kernel
theorem dX9_countFull_1 : decode cX9_countFull 1 = .ok (.invokevirtual 145, 3) := by decide +kernel
theorem dX9_countFull_4 : decode cX9_countFull 4 = .ok (.astore_n 1, 1) := by decide +kernel
theorem dX9_countFull_5 : decode cX9_countFull 5 = .ok (.iconst 0, 1) := by decide +kernel
theorem dX9_countFull_6 : decode cX9_countFull 6 = .ok (.istore_n 2, 1) := by decide +kernel
theorem dX9_countFull_7 : decode cX9_countFull 7 = .ok (.iconst 0, 1) := by decide +kernel
theorem dX9_countFull_8 : decode cX9_countFull 8 = .ok (.istore_n 3, 1) := by decide +kernel
theorem dX9_countFull_9 : decode cX9_countFull 9 = .ok (.iload_n 3, 1) := by decide +kernel
theorem dX9_countFull_10 : decode cX9_countFull 10 = .ok (.bipush 8, 2) := by decide +kernel
theorem dX9_countFull_12 : decode cX9_countFull 12 = .ok (.if_icmp .ge 28, 3) := by decide +kernel
theorem dX9_countFull_15 : decode cX9_countFull 15 = .ok (.aload_n 1, 1) := by decide +kernel
theorem dX9_countFull_16 : decode cX9_countFull 16 = .ok (.iload_n 3, 1) := by decide +kernel
theorem dX9_countFull_17 : decode cX9_countFull 17 = .ok (.invokevirtual 157, 3) := by decide +kernel
theorem dX9_countFull_20 : decode cX9_countFull 20 = .ok (.aload_n 1, 1) := by decide +kernel
theorem dX9_countFull_21 : decode cX9_countFull 21 = .ok (.iload_n 3, 1) := by decide +kernel
theorem dX9_countFull_22 : decode cX9_countFull 22 = .ok (.invokevirtual 161, 3) := by decide +kernel
theorem dX9_countFull_25 : decode cX9_countFull 25 = .ok (.sipush 400, 3) := by decide +kernel
theorem dX9_countFull_28 : decode cX9_countFull 28 = .ok (.if_icmp .ne 6, 3) := by decide +kernel
theorem dX9_countFull_31 : decode cX9_countFull 31 = .ok (.iinc 2 1, 3) := by decide +kernel
theorem dX9_countFull_34 : decode cX9_countFull 34 = .ok (.iinc 3 1, 3) := by decide +kernel
theorem dX9_countFull_37 : decode cX9_countFull 37 = .ok (.goto (-28), 3) := by decide +kernel
theorem dX9_countFull_40 : decode cX9_countFull 40 = .ok (.iload_n 2, 1) := by decide +kernel
theorem dX9_countFull_41 : decode cX9_countFull 41 = .ok (.ireturn, 1) := by decide +kernel
theorem dX9_beginChange_0 : decode cX9_beginChange 0 = .ok (.aload_n 0, 1) := by decide +kernel
theorem dX9_beginChange_1 : decode cX9_beginChange 1 = .ok (.getfield 26, 3) := by decide +kernel
theorem dX9_beginChange_4 : decode cX9_beginChange 4 = .ok (.aload_n 0, 1) := by decide +kernel
theorem dX9_beginChange_5 : decode cX9_beginChange 5 = .ok (.getfield 19, 3) := by decide +kernel
theorem dX9_beginChange_8 : decode cX9_beginChange 8 = .ok (.invokevirtual 219, 3) := by decide +kernel
theorem dX9_beginChange_11 : decode cX9_beginChange 11 = .ok (.aload_n 0, 1) := by decide +kernel
theorem dX9_beginChange_12 : decode cX9_beginChange 12 = .ok (.invokevirtual 107, 3) := by decide +kernel
theorem dX9_beginChange_15 : decode cX9_beginChange 15 = .ok (.return_, 1) := by decide +kernel
theorem dX9_forgetPresentValues_0 : decode cX9_forgetPresentValues 0 = .ok (.aload_n 0, 1) := by decide +kernel
theorem dX9_forgetPresentValues_1 : decode cX9_forgetPresentValues 1 = .ok (.getfield 222, 3) := by decide +kernel
theorem dX9_forgetPresentValues_4 : decode cX9_forgetPresentValues 4 = .ok (.ifnull 10, 3) := by decide +kernel
theorem dX9_forgetPresentValues_7 : decode cX9_forgetPresentValues 7 = .ok (.aload_n 0, 1) := by decide +kernel
theorem dX9_forgetPresentValues_8 : decode cX9_forgetPresentValues 8 = .ok (.getfield 222, 3) := by decide +kernel
theorem dX9_forgetPresentValues_11 : decode cX9_forgetPresentValues 11 = .ok (.invokevirtual 209, 3) := by decide +kernel
theorem dX9_forgetPresentValues_14 : decode cX9_forgetPresentValues 14 = .ok (.return_, 1) := by decide +kernel
theorem dX9_sharedWorkspace_0 : decode cX9_sharedWorkspace 0 = .ok (.aload_n 0, 1) := by decide +kernel
theorem dX9_sharedWorkspace_1 : decode cX9_sharedWorkspace 1 = .ok (.getfield 226, 3) := by decide +kernel
theorem dX9_sharedWorkspace_4 : decode cX9_sharedWorkspace 4 = .ok (.ifnonnull 14, 3) := by decide +kernel
theorem dX9_sharedWorkspace_7 : decode cX9_sharedWorkspace 7 = .ok (.aload_n 0, 1) := by decide +kernel
theorem dX9_sharedWorkspace_8 : decode cX9_sharedWorkspace 8 = .ok (.new 196, 3) := by decide +kernel
theorem dX9_sharedWorkspace_11 : decode cX9_sharedWorkspace 11 = .ok (.dup, 1) := by decide +kernel
theorem dX9_sharedWorkspace_12 : decode cX9_sharedWorkspace 12 = .ok (.invokespecial 230, 3) := by decide +kernel
theorem dX9_sharedWorkspace_15 : decode cX9_sharedWorkspace 15 = .ok (.putfield 226, 3) := by decide +kernel
theorem dX9_sharedWorkspace_18 : decode cX9_sharedWorkspace 18 = .ok (.aload_n 0, 1) := by decide +kernel
theorem dX9_sharedWorkspace_19 : decode cX9_sharedWorkspace 19 = .ok (.getfield 226, 3) := by decide +kernel
theorem dX9_sharedWorkspace_22 : decode cX9_sharedWorkspace 22 = .ok (.areturn, 1) := by decide +kernel
theorem dX9_valuesNow_0 : decode cX9_valuesNow 0 = .ok (.aload_n 0, 1) := by decide +kernel
theorem dX9_valuesNow_1 : decode cX9_valuesNow 1 = .ok (.getfield 222, 3) := by decide +kernel
theorem dX9_valuesNow_4 : decode cX9_valuesNow 4 = .ok (.ifnonnull 22, 3) := by decide +kernel
theorem dX9_valuesNow_7 : decode cX9_valuesNow 7 = .ok (.aload_n 0, 1) := by decide +kernel
theorem dX9_valuesNow_8 : decode cX9_valuesNow 8 = .ok (.new 41, 3) := by decide +kernel
theorem dX9_valuesNow_11 : decode cX9_valuesNow 11 = .ok (.dup, 1) := by decide +kernel
theorem dX9_valuesNow_12 : decode cX9_valuesNow 12 = .ok (.aload_n 0, 1) := by decide +kernel
theorem dX9_valuesNow_13 : decode cX9_valuesNow 13 = .ok (.getfield 19, 3) := by decide +kernel
theorem dX9_valuesNow_16 : decode cX9_valuesNow 16 = .ok (.aload_n 0, 1) := by decide +kernel
theorem dX9_valuesNow_17 : decode cX9_valuesNow 17 = .ok (.invokevirtual 191, 3) := by decide +kernel
theorem dX9_valuesNow_20 : decode cX9_valuesNow 20 = .ok (.invokespecial 212, 3) := by decide +kernel
theorem dX9_valuesNow_23 : decode cX9_valuesNow 23 = .ok (.putfield 222, 3) := by decide +kernel
theorem dX9_valuesNow_26 : decode cX9_valuesNow 26 = .ok (.aload_n 0, 1) := by decide +kernel
theorem dX9_valuesNow_27 : decode cX9_valuesNow 27 = .ok (.getfield 222, 3) := by decide +kernel
theorem dX9_valuesNow_30 : decode cX9_valuesNow 30 = .ok (.areturn, 1) := by decide +kernel
theorem dX10_init_0 : decode cX10_init 0 = .ok (.aload_n 0, 1) := by decide +kernel
theorem dX10_init_1 : decode cX10_init 1 = .ok (.invokespecial 1, 3) := by decide +kernel
theorem dX10_init_4 : decode cX10_init 4 = .ok (.aload_n 0, 1) := by decide +kernel
theorem dX10_init_5 : decode cX10_init 5 = .ok (.sipush 2001, 3) := by decide +kernel
theorem dX10_init_8 : decode cX10_init 8 = .ok (.newarray .int, 2) := by decide +kernel
theorem dX10_init_10 : decode cX10_init 10 = .ok (.putfield 7, 3) := by decide +kernel
theorem dX10_init_13 : decode cX10_init 13 = .ok (.aload_n 0, 1) := by decide +kernel
theorem dX10_init_14 : decode cX10_init 14 = .ok (.sipush 16008, 3) := by decide +kernel
theorem dX10_init_17 : decode cX10_init 17 = .ok (.newarray .int, 2) := by decide +kernel
theorem dX10_init_19 : decode cX10_init 19 = .ok (.putfield 13, 3) := by decide +kernel
theorem dX10_init_22 : decode cX10_init 22 = .ok (.aload_n 0, 1) := by decide +kernel
theorem dX10_init_23 : decode cX10_init 23 = .ok (.sipush 4002, 3) := by decide +kernel
theorem dX10_init_26 : decode cX10_init 26 = .ok (.newarray .int, 2) := by decide +kernel
theorem dX10_init_28 : decode cX10_init 28 = .ok (.putfield 16, 3) := by decide +kernel
theorem dX10_init_31 : decode cX10_init 31 = .ok (.aload_n 0, 1) := by decide +kernel
theorem dX10_init_32 : decode cX10_init 32 = .ok (.bipush 80, 2) := by decide +kernel
theorem dX10_init_34 : decode cX10_init 34 = .ok (.newarray .int, 2) := by decide +kernel
theorem dX10_init_36 : decode cX10_init 36 = .ok (.putfield 19, 3) := by decide +kernel
theorem dX10_init_39 : decode cX10_init 39 = .ok (.aload_n 0, 1) := by decide +kernel
theorem dX10_init_40 : decode cX10_init 40 = .ok (.bipush 80, 2) := by decide +kernel
theorem dX10_init_42 : decode cX10_init 42 = .ok (.newarray .int, 2) := by decide +kernel
theorem dX10_init_44 : decode cX10_init 44 = .ok (.putfield 22, 3) := by decide +kernel
theorem dX10_init_47 : decode cX10_init 47 = .ok (.aload_n 0, 1) := by decide +kernel
theorem dX10_init_48 : decode cX10_init 48 = .ok (.sipush 500, 3) := by decide +kernel
theorem dX10_init_51 : decode cX10_init 51 = .ok (.newarray .int, 2) := by decide +kernel
theorem dX10_init_53 : decode cX10_init 53 = .ok (.putfield 25, 3) := by decide +kernel
theorem dX10_init_56 : decode cX10_init 56 = .ok (.aload_n 0, 1) := by decide +kernel
theorem dX10_init_57 : decode cX10_init 57 = .ok (.sipush 500, 3) := by decide +kernel
theorem dX10_init_60 : decode cX10_init 60 = .ok (.newarray .int, 2) := by decide +kernel
theorem dX10_init_62 : decode cX10_init 62 = .ok (.putfield 28, 3) := by decide +kernel
theorem dX10_init_65 : decode cX10_init 65 = .ok (.aload_n 0, 1) := by decide +kernel
theorem dX10_init_66 : decode cX10_init 66 = .ok (.sipush 3200, 3) := by decide +kernel
theorem dX10_init_69 : decode cX10_init 69 = .ok (.newarray .int, 2) := by decide +kernel
theorem dX10_init_71 : decode cX10_init 71 = .ok (.putfield 31, 3) := by decide +kernel
theorem dX10_init_74 : decode cX10_init 74 = .ok (.aload_n 0, 1) := by decide +kernel
theorem dX10_init_75 : decode cX10_init 75 = .ok (.sipush 3200, 3) := by decide +kernel
theorem dX10_init_78 : decode cX10_init 78 = .ok (.newarray .int, 2) := by decide +kernel
theorem dX10_init_80 : decode cX10_init 80 = .ok (.putfield 34, 3) := by decide +kernel
