theorem dX10_descend_16 : decode cX10_descend 16 = .ok (.if_icmp .le 6, 3) := by decide +kernel
theorem dX10_descend_19 : decode cX10_descend 19 = .ok (.bipush (-9), 2) := by decide +kernel
theorem dX10_descend_21 : decode cX10_descend 21 = .ok (.ireturn, 1) := by decide +kernel
theorem dX10_descend_22 : decode cX10_descend 22 = .ok (.iload_n 1, 1) := by decide +kernel
theorem dX10_descend_23 : decode cX10_descend 23 = .ok (.invokestatic 93, 3) := by decide +kernel
theorem dX10_descend_26 : decode cX10_descend 26 = .ok (.ifCond .eq 15, 3) := by decide +kernel
theorem dX10_descend_29 : decode cX10_descend 29 = .ok (.iload_n 1, 1) := by decide +kernel
theorem dX10_descend_30 : decode cX10_descend 30 = .ok (.bipush 48, 2) := by decide +kernel
theorem dX10_descend_32 : decode cX10_descend 32 = .ok (.isub, 1) := by decide +kernel
theorem dX10_descend_33 : decode cX10_descend 33 = .ok (.aload_n 0, 1) := by decide +kernel
theorem dX10_descend_34 : decode cX10_descend 34 = .ok (.getfield 7, 3) := by decide +kernel
theorem dX10_descend_37 : decode cX10_descend 37 = .ok (.iconst 0, 1) := by decide +kernel
theorem dX10_descend_38 : decode cX10_descend 38 = .ok (.iaload, 1) := by decide +kernel
theorem dX10_descend_39 : decode cX10_descend 39 = .ok (.irem, 1) := by decide +kernel
theorem dX10_descend_40 : decode cX10_descend 40 = .ok (.ireturn, 1) := by decide +kernel
theorem dX10_descend_41 : decode cX10_descend 41 = .ok (.iload_n 1, 1) := by decide +kernel
theorem dX10_descend_42 : decode cX10_descend 42 = .ok (.bipush 58, 2) := by decide +kernel
theorem dX10_descend_44 : decode cX10_descend 44 = .ok (.if_icmp .ne 32, 3) := by decide +kernel
theorem dX10_descend_47 : decode cX10_descend 47 = .ok (.aload_n 0, 1) := by decide +kernel
theorem dX10_descend_48 : decode cX10_descend 48 = .ok (.getfield 172, 3) := by decide +kernel
theorem dX10_descend_51 : decode cX10_descend 51 = .ok (.ifCond .ne 25, 3) := by decide +kernel
theorem dX10_descend_54 : decode cX10_descend 54 = .ok (.aload_n 0, 1) := by decide +kernel
theorem dX10_descend_55 : decode cX10_descend 55 = .ok (.getfield 7, 3) := by decide +kernel
theorem dX10_descend_58 : decode cX10_descend 58 = .ok (.aload_n 0, 1) := by decide +kernel
theorem dX10_descend_59 : decode cX10_descend 59 = .ok (.getfield 169, 3) := by decide +kernel
theorem dX10_descend_62 : decode cX10_descend 62 = .ok (.iconst 1, 1) := by decide +kernel
theorem dX10_descend_63 : decode cX10_descend 63 = .ok (.iadd, 1) := by decide +kernel
theorem dX10_descend_64 : decode cX10_descend 64 = .ok (.iaload, 1) := by decide +kernel
theorem dX10_descend_65 : decode cX10_descend 65 = .ok (.bipush 48, 2) := by decide +kernel
theorem dX10_descend_67 : decode cX10_descend 67 = .ok (.isub, 1) := by decide +kernel
theorem dX10_descend_68 : decode cX10_descend 68 = .ok (.aload_n 0, 1) := by decide +kernel
theorem dX10_descend_69 : decode cX10_descend 69 = .ok (.getfield 7, 3) := by decide +kernel
theorem dX10_descend_72 : decode cX10_descend 72 = .ok (.iconst 0, 1) := by decide +kernel
theorem dX10_descend_73 : decode cX10_descend 73 = .ok (.iaload, 1) := by decide +kernel
theorem dX10_descend_74 : decode cX10_descend 74 = .ok (.irem, 1) := by decide +kernel
theorem dX10_descend_75 : decode cX10_descend 75 = .ok (.ireturn, 1) := by decide +kernel
theorem dX10_descend_76 : decode cX10_descend 76 = .ok (.iload_n 1, 1) := by decide +kernel
theorem dX10_descend_77 : decode cX10_descend 77 = .ok (.lookupswitch 221 #[(58, 51), (101, 97), (111, 134), (116, 74), (122, 173)], 51) := by decide +kernel
theorem dX10_descend_128 : decode cX10_descend 128 = .ok (.aload_n 0, 1) := by decide +kernel
theorem dX10_descend_129 : decode cX10_descend 129 = .ok (.dup, 1) := by decide +kernel
theorem dX10_descend_130 : decode cX10_descend 130 = .ok (.getfield 169, 3) := by decide +kernel
theorem dX10_descend_133 : decode cX10_descend 133 = .ok (.iconst 2, 1) := by decide +kernel
theorem dX10_descend_134 : decode cX10_descend 134 = .ok (.iadd, 1) := by decide +kernel
theorem dX10_descend_135 : decode cX10_descend 135 = .ok (.putfield 169, 3) := by decide +kernel
theorem dX10_descend_138 : decode cX10_descend 138 = .ok (.aload_n 0, 1) := by decide +kernel
theorem dX10_descend_139 : decode cX10_descend 139 = .ok (.dup, 1) := by decide +kernel
theorem dX10_descend_140 : decode cX10_descend 140 = .ok (.getfield 172, 3) := by decide +kernel
theorem dX10_descend_143 : decode cX10_descend 143 = .ok (.iconst 1, 1) := by decide +kernel
theorem dX10_descend_144 : decode cX10_descend 144 = .ok (.isub, 1) := by decide +kernel
theorem dX10_descend_145 : decode cX10_descend 145 = .ok (.putfield 172, 3) := by decide +kernel
theorem dX10_descend_148 : decode cX10_descend 148 = .ok (.goto 153, 3) := by decide +kernel
theorem dX10_descend_151 : decode cX10_descend 151 = .ok (.aload_n 0, 1) := by decide +kernel
theorem dX10_descend_152 : decode cX10_descend 152 = .ok (.dup, 1) := by decide +kernel
theorem dX10_descend_153 : decode cX10_descend 153 = .ok (.getfield 169, 3) := by decide +kernel
theorem dX10_descend_156 : decode cX10_descend 156 = .ok (.iconst 1, 1) := by decide +kernel
theorem dX10_descend_157 : decode cX10_descend 157 = .ok (.iadd, 1) := by decide +kernel
theorem dX10_descend_158 : decode cX10_descend 158 = .ok (.putfield 169, 3) := by decide +kernel
theorem dX10_descend_161 : decode cX10_descend 161 = .ok (.aload_n 0, 1) := by decide +kernel
theorem dX10_descend_162 : decode cX10_descend 162 = .ok (.dup, 1) := by decide +kernel
theorem dX10_descend_163 : decode cX10_descend 163 = .ok (.getfield 172, 3) := by decide +kernel
theorem dX10_descend_166 : decode cX10_descend 166 = .ok (.iconst 1, 1) := by decide +kernel
theorem dX10_descend_167 : decode cX10_descend 167 = .ok (.iadd, 1) := by decide +kernel
theorem dX10_descend_168 : decode cX10_descend 168 = .ok (.putfield 172, 3) := by decide +kernel
theorem dX10_descend_171 : decode cX10_descend 171 = .ok (.goto 130, 3) := by decide +kernel
theorem dX10_descend_174 : decode cX10_descend 174 = .ok (.aload_n 0, 1) := by decide +kernel
theorem dX10_descend_175 : decode cX10_descend 175 = .ok (.dup, 1) := by decide +kernel
theorem dX10_descend_176 : decode cX10_descend 176 = .ok (.getfield 169, 3) := by decide +kernel
theorem dX10_descend_179 : decode cX10_descend 179 = .ok (.iconst 1, 1) := by decide +kernel
theorem dX10_descend_180 : decode cX10_descend 180 = .ok (.iadd, 1) := by decide +kernel
theorem dX10_descend_181 : decode cX10_descend 181 = .ok (.putfield 169, 3) := by decide +kernel
theorem dX10_descend_184 : decode cX10_descend 184 = .ok (.aload_n 0, 1) := by decide +kernel
theorem dX10_descend_185 : decode cX10_descend 185 = .ok (.aload_n 0, 1) := by decide +kernel
theorem dX10_descend_186 : decode cX10_descend 186 = .ok (.getfield 172, 3) := by decide +kernel
theorem dX10_descend_189 : decode cX10_descend 189 = .ok (.ldc 176, 2) := by decide +kernel
theorem dX10_descend_191 : decode cX10_descend 191 = .ok (.if_icmp .le 8, 3) := by decide +kernel
theorem dX10_descend_194 : decode cX10_descend 194 = .ok (.ldc 177, 2) := by decide +kernel
theorem dX10_descend_196 : decode cX10_descend 196 = .ok (.goto 9, 3) := by decide +kernel
theorem dX10_descend_199 : decode cX10_descend 199 = .ok (.iconst 2, 1) := by decide +kernel
theorem dX10_descend_200 : decode cX10_descend 200 = .ok (.aload_n 0, 1) := by decide +kernel
theorem dX10_descend_201 : decode cX10_descend 201 = .ok (.getfield 172, 3) := by decide +kernel
theorem dX10_descend_204 : decode cX10_descend 204 = .ok (.imul, 1) := by decide +kernel
theorem dX10_descend_205 : decode cX10_descend 205 = .ok (.putfield 172, 3) := by decide +kernel
theorem dX10_descend_208 : decode cX10_descend 208 = .ok (.goto 93, 3) := by decide +kernel
theorem dX10_descend_211 : decode cX10_descend 211 = .ok (.aload_n 0, 1) := by decide +kernel
theorem dX10_descend_212 : decode cX10_descend 212 = .ok (.dup, 1) := by decide +kernel
theorem dX10_descend_213 : decode cX10_descend 213 = .ok (.getfield 169, 3) := by decide +kernel
theorem dX10_descend_216 : decode cX10_descend 216 = .ok (.iconst 1, 1) := by decide +kernel
theorem dX10_descend_217 : decode cX10_descend 217 = .ok (.iadd, 1) := by decide +kernel
theorem dX10_descend_218 : decode cX10_descend 218 = .ok (.putfield 169, 3) := by decide +kernel
theorem dX10_descend_221 : decode cX10_descend 221 = .ok (.aload_n 0, 1) := by decide +kernel
theorem dX10_descend_222 : decode cX10_descend 222 = .ok (.aload_n 0, 1) := by decide +kernel
theorem dX10_descend_223 : decode cX10_descend 223 = .ok (.getfield 172, 3) := by decide +kernel
theorem dX10_descend_226 : decode cX10_descend 226 = .ok (.ldc 176, 2) := by decide +kernel
theorem dX10_descend_228 : decode cX10_descend 228 = .ok (.if_icmp .le 8, 3) := by decide +kernel
theorem dX10_descend_231 : decode cX10_descend 231 = .ok (.ldc 177, 2) := by decide +kernel
theorem dX10_descend_233 : decode cX10_descend 233 = .ok (.goto 11, 3) := by decide +kernel
theorem dX10_descend_236 : decode cX10_descend 236 = .ok (.iconst 2, 1) := by decide +kernel
theorem dX10_descend_237 : decode cX10_descend 237 = .ok (.aload_n 0, 1) := by decide +kernel
theorem dX10_descend_238 : decode cX10_descend 238 = .ok (.getfield 172, 3) := by decide +kernel
theorem dX10_descend_241 : decode cX10_descend 241 = .ok (.imul, 1) := by decide +kernel
theorem dX10_descend_242 : decode cX10_descend 242 = .ok (.iconst 1, 1) := by decide +kernel
theorem dX10_descend_243 : decode cX10_descend 243 = .ok (.iadd, 1) := by decide +kernel
theorem dX10_descend_244 : decode cX10_descend 244 = .ok (.putfield 172, 3) := by decide +kernel
theorem dX10_descend_247 : decode cX10_descend 247 = .ok (.goto 54, 3) := by decide +kernel
theorem dX10_descend_250 : decode cX10_descend 250 = .ok (.aload_n 0, 1) := by decide +kernel
theorem dX10_descend_251 : decode cX10_descend 251 = .ok (.aload_n 0, 1) := by decide +kernel
theorem dX10_descend_252 : decode cX10_descend 252 = .ok (.getfield 172, 3) := by decide +kernel
theorem dX10_descend_255 : decode cX10_descend 255 = .ok (.iconst 2, 1) := by decide +kernel
theorem dX10_descend_256 : decode cX10_descend 256 = .ok (.irem, 1) := by decide +kernel
theorem dX10_descend_257 : decode cX10_descend 257 = .ok (.ifCond .ne 12, 3) := by decide +kernel
theorem dX10_descend_260 : decode cX10_descend 260 = .ok (.aload_n 0, 1) := by decide +kernel
theorem dX10_descend_261 : decode cX10_descend 261 = .ok (.getfield 169, 3) := by decide +kernel
theorem dX10_descend_264 : decode cX10_descend 264 = .ok (.iconst 1, 1) := by decide +kernel
theorem dX10_descend_265 : decode cX10_descend 265 = .ok (.iadd, 1) := by decide +kernel
theorem dX10_descend_266 : decode cX10_descend 266 = .ok (.goto 16, 3) := by decide +kernel
theorem dX10_descend_269 : decode cX10_descend 269 = .ok (.aload_n 0, 1) := by decide +kernel
theorem dX10_descend_270 : decode cX10_descend 270 = .ok (.getfield 7, 3) := by decide +kernel
theorem dX10_descend_273 : decode cX10_descend 273 = .ok (.aload_n 0, 1) := by decide +kernel
theorem dX10_descend_274 : decode cX10_descend 274 = .ok (.getfield 169, 3) := by decide +kernel
theorem dX10_descend_277 : decode cX10_descend 277 = .ok (.iconst 1, 1) := by decide +kernel
theorem dX10_descend_278 : decode cX10_descend 278 = .ok (.iadd, 1) := by decide +kernel
theorem dX10_descend_279 : decode cX10_descend 279 = .ok (.invokestatic 136, 3) := by decide +kernel
theorem dX10_descend_282 : decode cX10_descend 282 = .ok (.putfield 169, 3) := by decide +kernel
theorem dX10_descend_285 : decode cX10_descend 285 = .ok (.aload_n 0, 1) := by decide +kernel
theorem dX10_descend_286 : decode cX10_descend 286 = .ok (.aload_n 0, 1) := by decide +kernel
theorem dX10_descend_287 : decode cX10_descend 287 = .ok (.getfield 172, 3) := by decide +kernel
theorem dX10_descend_290 : decode cX10_descend 290 = .ok (.iconst 2, 1) := by decide +kernel
theorem dX10_descend_291 : decode cX10_descend 291 = .ok (.idiv, 1) := by decide +kernel
theorem dX10_descend_292 : decode cX10_descend 292 = .ok (.putfield 172, 3) := by decide +kernel
theorem dX10_descend_295 : decode cX10_descend 295 = .ok (.goto 6, 3) := by decide +kernel
theorem dX10_descend_298 : decode cX10_descend 298 = .ok (.bipush (-9), 2) := by decide +kernel
theorem dX10_descend_300 : decode cX10_descend 300 = .ok (.ireturn, 1) := by decide +kernel
theorem dX10_descend_301 : decode cX10_descend 301 = .ok (.goto (-301), 3) := by decide +kernel
theorem dX10_compute_0 : decode cX10_compute 0 = .ok (.aload_n 0, 1) := by decide +kernel
theorem dX10_compute_1 : decode cX10_compute 1 = .ok (.iconst 0, 1) := by decide +kernel
theorem dX10_compute_2 : decode cX10_compute 2 = .ok (.putfield 178, 3) := by decide +kernel
theorem dX10_compute_5 : decode cX10_compute 5 = .ok (.aload_n 0, 1) := by decide +kernel
theorem dX10_compute_6 : decode cX10_compute 6 = .ok (.iload_n 1, 1) := by decide +kernel
theorem dX10_compute_7 : decode cX10_compute 7 = .ok (.invokevirtual 122, 3) := by decide +kernel
theorem dX10_compute_10 : decode cX10_compute 10 = .ok (.ifCond .ne 6, 3) := by decide +kernel
theorem dX10_compute_13 : decode cX10_compute 13 = .ok (.bipush (-9), 2) := by decide +kernel
theorem dX10_compute_15 : decode cX10_compute 15 = .ok (.ireturn, 1) := by decide +kernel
theorem dX10_compute_16 : decode cX10_compute 16 = .ok (.iconst 0, 1) := by decide +kernel
theorem dX10_compute_17 : decode cX10_compute 17 = .ok (.istore_n 3, 1) := by decide +kernel
theorem dX10_compute_18 : decode cX10_compute 18 = .ok (.aload_n 0, 1) := by decide +kernel
theorem dX10_compute_19 : decode cX10_compute 19 = .ok (.iload_n 1, 1) := by decide +kernel
theorem dX10_compute_20 : decode cX10_compute 20 = .ok (.invokestatic 106, 3) := by decide +kernel
theorem dX10_compute_23 : decode cX10_compute 23 = .ok (.putfield 169, 3) := by decide +kernel
theorem dX10_compute_26 : decode cX10_compute 26 = .ok (.aload_n 0, 1) := by decide +kernel
theorem dX10_compute_27 : decode cX10_compute 27 = .ok (.iload_n 2, 1) := by decide +kernel
theorem dX10_compute_28 : decode cX10_compute 28 = .ok (.putfield 172, 3) := by decide +kernel
theorem dX10_compute_31 : decode cX10_compute 31 = .ok (.aload_n 0, 1) := by decide +kernel
theorem dX10_compute_32 : decode cX10_compute 32 = .ok (.invokevirtual 181, 3) := by decide +kernel
theorem dX10_compute_35 : decode cX10_compute 35 = .ok (.istore 4, 2) := by decide +kernel
theorem dX10_compute_37 : decode cX10_compute 37 = .ok (.aload_n 0, 1) := by decide +kernel
theorem dX10_compute_38 : decode cX10_compute 38 = .ok (.getfield 7, 3) := by decide +kernel
theorem dX10_compute_41 : decode cX10_compute 41 = .ok (.aload_n 0, 1) := by decide +kernel
theorem dX10_compute_42 : decode cX10_compute 42 = .ok (.getfield 169, 3) := by decide +kernel
theorem dX10_compute_45 : decode cX10_compute 45 = .ok (.iaload, 1) := by decide +kernel
theorem dX10_compute_46 : decode cX10_compute 46 = .ok (.istore 5, 2) := by decide +kernel
theorem dX10_compute_48 : decode cX10_compute 48 = .ok (.iload 4, 2) := by decide +kernel
theorem dX10_compute_50 : decode cX10_compute 50 = .ok (.bipush (-9), 2) := by decide +kernel
theorem dX10_compute_52 : decode cX10_compute 52 = .ok (.if_icmp .ne 87, 3) := by decide +kernel
theorem dX10_compute_55 : decode cX10_compute 55 = .ok (.iload 5, 2) := by decide +kernel
theorem dX10_compute_57 : decode cX10_compute 57 = .ok (.bipush 43, 2) := by decide +kernel
theorem dX10_compute_59 : decode cX10_compute 59 = .ok (.if_icmp .eq 10, 3) := by decide +kernel
theorem dX10_compute_62 : decode cX10_compute 62 = .ok (.iload 5, 2) := by decide +kernel
theorem dX10_compute_64 : decode cX10_compute 64 = .ok (.bipush 42, 2) := by decide +kernel
theorem dX10_compute_66 : decode cX10_compute 66 = .ok (.if_icmp .ne 73, 3) := by decide +kernel
theorem dX10_compute_69 : decode cX10_compute 69 = .ok (.aload_n 0, 1) := by decide +kernel
theorem dX10_compute_70 : decode cX10_compute 70 = .ok (.getfield 172, 3) := by decide +kernel
theorem dX10_compute_73 : decode cX10_compute 73 = .ok (.ldc 175, 2) := by decide +kernel
theorem dX10_compute_75 : decode cX10_compute 75 = .ok (.if_icmp .gt 64, 3) := by decide +kernel
theorem dX10_compute_78 : decode cX10_compute 78 = .ok (.aload_n 0, 1) := by decide +kernel
theorem dX10_compute_79 : decode cX10_compute 79 = .ok (.getfield 37, 3) := by decide +kernel
theorem dX10_compute_82 : decode cX10_compute 82 = .ok (.iload_n 3, 1) := by decide +kernel
theorem dX10_compute_83 : decode cX10_compute 83 = .ok (.iload 5, 2) := by decide +kernel
theorem dX10_compute_85 : decode cX10_compute 85 = .ok (.iastore, 1) := by decide +kernel
theorem dX10_compute_86 : decode cX10_compute 86 = .ok (.aload_n 0, 1) := by decide +kernel
theorem dX10_compute_87 : decode cX10_compute 87 = .ok (.getfield 40, 3) := by decide +kernel
theorem dX10_compute_90 : decode cX10_compute 90 = .ok (.iload_n 3, 1) := by decide +kernel
theorem dX10_compute_91 : decode cX10_compute 91 = .ok (.aload_n 0, 1) := by decide +kernel
theorem dX10_compute_92 : decode cX10_compute 92 = .ok (.getfield 172, 3) := by decide +kernel
theorem dX10_compute_95 : decode cX10_compute 95 = .ok (.iastore, 1) := by decide +kernel
theorem dX10_compute_96 : decode cX10_compute 96 = .ok (.aload_n 0, 1) := by decide +kernel
theorem dX10_compute_97 : decode cX10_compute 97 = .ok (.getfield 43, 3) := by decide +kernel
theorem dX10_compute_100 : decode cX10_compute 100 = .ok (.iload_n 3, 1) := by decide +kernel
theorem dX10_compute_101 : decode cX10_compute 101 = .ok (.aload_n 0, 1) := by decide +kernel
theorem dX10_compute_102 : decode cX10_compute 102 = .ok (.getfield 7, 3) := by decide +kernel
theorem dX10_compute_105 : decode cX10_compute 105 = .ok (.aload_n 0, 1) := by decide +kernel
theorem dX10_compute_106 : decode cX10_compute 106 = .ok (.getfield 169, 3) := by decide +kernel
theorem dX10_compute_109 : decode cX10_compute 109 = .ok (.iconst 1, 1) := by decide +kernel
theorem dX10_compute_110 : decode cX10_compute 110 = .ok (.iadd, 1) := by decide +kernel
theorem dX10_compute_111 : decode cX10_compute 111 = .ok (.invokestatic 136, 3) := by decide +kernel
theorem dX10_compute_114 : decode cX10_compute 114 = .ok (.iastore, 1) := by decide +kernel
theorem dX10_compute_115 : decode cX10_compute 115 = .ok (.aload_n 0, 1) := by decide +kernel
theorem dX10_compute_116 : decode cX10_compute 116 = .ok (.getfield 46, 3) := by decide +kernel
theorem dX10_compute_119 : decode cX10_compute 119 = .ok (.iload_n 3, 1) := by decide +kernel
theorem dX10_compute_120 : decode cX10_compute 120 = .ok (.bipush (-9), 2) := by decide +kernel
theorem dX10_compute_122 : decode cX10_compute 122 = .ok (.iastore, 1) := by decide +kernel
theorem dX10_compute_123 : decode cX10_compute 123 = .ok (.iinc 3 1, 3) := by decide +kernel
theorem dX10_compute_126 : decode cX10_compute 126 = .ok (.aload_n 0, 1) := by decide +kernel
theorem dX10_compute_127 : decode cX10_compute 127 = .ok (.dup, 1) := by decide +kernel
theorem dX10_compute_128 : decode cX10_compute 128 = .ok (.getfield 169, 3) := by decide +kernel
theorem dX10_compute_131 : decode cX10_compute 131 = .ok (.iconst 1, 1) := by decide +kernel
theorem dX10_compute_132 : decode cX10_compute 132 = .ok (.iadd, 1) := by decide +kernel
theorem dX10_compute_133 : decode cX10_compute 133 = .ok (.putfield 169, 3) := by decide +kernel
theorem dX10_compute_136 : decode cX10_compute 136 = .ok (.goto 206, 3) := by decide +kernel
theorem dX10_compute_139 : decode cX10_compute 139 = .ok (.iload 4, 2) := by decide +kernel
theorem dX10_compute_141 : decode cX10_compute 141 = .ok (.bipush (-9), 2) := by decide +kernel
theorem dX10_compute_143 : decode cX10_compute 143 = .ok (.if_icmp .ne 94, 3) := by decide +kernel
theorem dX10_compute_146 : decode cX10_compute 146 = .ok (.aload_n 0, 1) := by decide +kernel
theorem dX10_compute_147 : decode cX10_compute 147 = .ok (.getfield 172, 3) := by decide +kernel
theorem dX10_compute_150 : decode cX10_compute 150 = .ok (.sipush 400, 3) := by decide +kernel
theorem dX10_compute_153 : decode cX10_compute 153 = .ok (.if_icmp .ge 27, 3) := by decide +kernel
theorem dX10_compute_156 : decode cX10_compute 156 = .ok (.aload_n 0, 1) := by decide +kernel
theorem dX10_compute_157 : decode cX10_compute 157 = .ok (.getfield 31, 3) := by decide +kernel
theorem dX10_compute_160 : decode cX10_compute 160 = .ok (.sipush 400, 3) := by decide +kernel
theorem dX10_compute_163 : decode cX10_compute 163 = .ok (.iload 5, 2) := by decide +kernel
theorem dX10_compute_165 : decode cX10_compute 165 = .ok (.bipush 65, 2) := by decide +kernel
theorem dX10_compute_167 : decode cX10_compute 167 = .ok (.isub, 1) := by decide +kernel
theorem dX10_compute_168 : decode cX10_compute 168 = .ok (.imul, 1) := by decide +kernel
theorem dX10_compute_169 : decode cX10_compute 169 = .ok (.aload_n 0, 1) := by decide +kernel
theorem dX10_compute_170 : decode cX10_compute 170 = .ok (.getfield 172, 3) := by decide +kernel
theorem dX10_compute_173 : decode cX10_compute 173 = .ok (.iadd, 1) := by decide +kernel
theorem dX10_compute_174 : decode cX10_compute 174 = .ok (.iaload, 1) := by decide +kernel
theorem dX10_compute_175 : decode cX10_compute 175 = .ok (.bipush (-9), 2) := by decide +kernel
theorem dX10_compute_177 : decode cX10_compute 177 = .ok (.if_icmp .ne 6, 3) := by decide +kernel
theorem dX10_compute_180 : decode cX10_compute 180 = .ok (.bipush (-9), 2) := by decide +kernel
theorem dX10_compute_182 : decode cX10_compute 182 = .ok (.ireturn, 1) := by decide +kernel
theorem dX10_compute_183 : decode cX10_compute 183 = .ok (.aload_n 0, 1) := by decide +kernel
theorem dX10_compute_184 : decode cX10_compute 184 = .ok (.getfield 49, 3) := by decide +kernel
theorem dX10_compute_187 : decode cX10_compute 187 = .ok (.aload_n 0, 1) := by decide +kernel
theorem dX10_compute_188 : decode cX10_compute 188 = .ok (.getfield 178, 3) := by decide +kernel
theorem dX10_compute_191 : decode cX10_compute 191 = .ok (.sipush 400, 3) := by decide +kernel
theorem dX10_compute_194 : decode cX10_compute 194 = .ok (.iload 5, 2) := by decide +kernel
theorem dX10_compute_196 : decode cX10_compute 196 = .ok (.bipush 65, 2) := by decide +kernel
theorem dX10_compute_198 : decode cX10_compute 198 = .ok (.isub, 1) := by decide +kernel
theorem dX10_compute_199 : decode cX10_compute 199 = .ok (.imul, 1) := by decide +kernel
theorem dX10_compute_200 : decode cX10_compute 200 = .ok (.aload_n 0, 1) := by decide +kernel
theorem dX10_compute_201 : decode cX10_compute 201 = .ok (.getfield 172, 3) := by decide +kernel
theorem dX10_compute_204 : decode cX10_compute 204 = .ok (.iadd, 1) := by decide +kernel
theorem dX10_compute_205 : decode cX10_compute 205 = .ok (.iastore, 1) := by decide +kernel
theorem dX10_compute_206 : decode cX10_compute 206 = .ok (.aload_n 0, 1) := by decide +kernel
theorem dX10_compute_207 : decode cX10_compute 207 = .ok (.dup, 1) := by decide +kernel
theorem dX10_compute_208 : decode cX10_compute 208 = .ok (.getfield 178, 3) := by decide +kernel
theorem dX10_compute_211 : decode cX10_compute 211 = .ok (.iconst 1, 1) := by decide +kernel
theorem dX10_compute_212 : decode cX10_compute 212 = .ok (.iadd, 1) := by decide +kernel
theorem dX10_compute_213 : decode cX10_compute 213 = .ok (.putfield 178, 3) := by decide +kernel
theorem dX10_compute_216 : decode cX10_compute 216 = .ok (.aload_n 0, 1) := by decide +kernel
theorem dX10_compute_217 : decode cX10_compute 217 = .ok (.getfield 31, 3) := by decide +kernel
theorem dX10_compute_220 : decode cX10_compute 220 = .ok (.sipush 400, 3) := by decide +kernel
theorem dX10_compute_223 : decode cX10_compute 223 = .ok (.iload 5, 2) := by decide +kernel
theorem dX10_compute_225 : decode cX10_compute 225 = .ok (.bipush 65, 2) := by decide +kernel
theorem dX10_compute_227 : decode cX10_compute 227 = .ok (.isub, 1) := by decide +kernel
theorem dX10_compute_228 : decode cX10_compute 228 = .ok (.imul, 1) := by decide +kernel
theorem dX10_compute_229 : decode cX10_compute 229 = .ok (.aload_n 0, 1) := by decide +kernel
theorem dX10_compute_230 : decode cX10_compute 230 = .ok (.getfield 172, 3) := by decide +kernel
theorem dX10_compute_233 : decode cX10_compute 233 = .ok (.iadd, 1) := by decide +kernel
theorem dX10_compute_234 : decode cX10_compute 234 = .ok (.iaload, 1) := by decide +kernel
theorem dX10_compute_235 : decode cX10_compute 235 = .ok (.istore 4, 2) := by decide +kernel
theorem dX10_compute_237 : decode cX10_compute 237 = .ok (.iload_n 3, 1) := by decide +kernel
theorem dX10_compute_238 : decode cX10_compute 238 = .ok (.ifCond .le 63, 3) := by decide +kernel
theorem dX10_compute_241 : decode cX10_compute 241 = .ok (.aload_n 0, 1) := by decide +kernel
theorem dX10_compute_242 : decode cX10_compute 242 = .ok (.getfield 46, 3) := by decide +kernel
theorem dX10_compute_245 : decode cX10_compute 245 = .ok (.iload_n 3, 1) := by decide +kernel
theorem dX10_compute_246 : decode cX10_compute 246 = .ok (.iconst 1, 1) := by decide +kernel
theorem dX10_compute_247 : decode cX10_compute 247 = .ok (.isub, 1) := by decide +kernel
theorem dX10_compute_248 : decode cX10_compute 248 = .ok (.iaload, 1) := by decide +kernel
theorem dX10_compute_249 : decode cX10_compute 249 = .ok (.bipush (-9), 2) := by decide +kernel
theorem dX10_compute_251 : decode cX10_compute 251 = .ok (.if_icmp .eq 50, 3) := by decide +kernel
theorem dX10_compute_254 : decode cX10_compute 254 = .ok (.iinc 3 (-1), 3) := by decide +kernel
theorem dX10_compute_257 : decode cX10_compute 257 = .ok (.aload_n 0, 1) := by decide +kernel
theorem dX10_compute_258 : decode cX10_compute 258 = .ok (.getfield 37, 3) := by decide +kernel
theorem dX10_compute_261 : decode cX10_compute 261 = .ok (.iload_n 3, 1) := by decide +kernel
theorem dX10_compute_262 : decode cX10_compute 262 = .ok (.iaload, 1) := by decide +kernel
theorem dX10_compute_263 : decode cX10_compute 263 = .ok (.bipush 43, 2) := by decide +kernel
theorem dX10_compute_265 : decode cX10_compute 265 = .ok (.if_icmp .ne 15, 3) := by decide +kernel
theorem dX10_compute_268 : decode cX10_compute 268 = .ok (.aload_n 0, 1) := by decide +kernel
theorem dX10_compute_269 : decode cX10_compute 269 = .ok (.getfield 46, 3) := by decide +kernel
theorem dX10_compute_272 : decode cX10_compute 272 = .ok (.iload_n 3, 1) := by decide +kernel
theorem dX10_compute_273 : decode cX10_compute 273 = .ok (.iaload, 1) := by decide +kernel
theorem dX10_compute_274 : decode cX10_compute 274 = .ok (.iload 4, 2) := by decide +kernel
theorem dX10_compute_276 : decode cX10_compute 276 = .ok (.iadd, 1) := by decide +kernel
theorem dX10_compute_277 : decode cX10_compute 277 = .ok (.goto 12, 3) := by decide +kernel
theorem dX10_compute_280 : decode cX10_compute 280 = .ok (.aload_n 0, 1) := by decide +kernel
theorem dX10_compute_281 : decode cX10_compute 281 = .ok (.getfield 46, 3) := by decide +kernel
theorem dX10_compute_284 : decode cX10_compute 284 = .ok (.iload_n 3, 1) := by decide +kernel
theorem dX10_compute_285 : decode cX10_compute 285 = .ok (.iaload, 1) := by decide +kernel
theorem dX10_compute_286 : decode cX10_compute 286 = .ok (.iload 4, 2) := by decide +kernel
theorem dX10_compute_288 : decode cX10_compute 288 = .ok (.imul, 1) := by decide +kernel
theorem dX10_compute_289 : decode cX10_compute 289 = .ok (.aload_n 0, 1) := by decide +kernel
theorem dX10_compute_290 : decode cX10_compute 290 = .ok (.getfield 7, 3) := by decide +kernel
theorem dX10_compute_293 : decode cX10_compute 293 = .ok (.iconst 0, 1) := by decide +kernel
theorem dX10_compute_294 : decode cX10_compute 294 = .ok (.iaload, 1) := by decide +kernel
theorem dX10_compute_295 : decode cX10_compute 295 = .ok (.irem, 1) := by decide +kernel
theorem dX10_compute_296 : decode cX10_compute 296 = .ok (.istore 4, 2) := by decide +kernel
theorem dX10_compute_298 : decode cX10_compute 298 = .ok (.goto (-61), 3) := by decide +kernel
theorem dX10_compute_301 : decode cX10_compute 301 = .ok (.iload_n 3, 1) := by decide +kernel
theorem dX10_compute_302 : decode cX10_compute 302 = .ok (.ifCond .ne 6, 3) := by decide +kernel
theorem dX10_compute_305 : decode cX10_compute 305 = .ok (.iload 4, 2) := by decide +kernel
theorem dX10_compute_307 : decode cX10_compute 307 = .ok (.ireturn, 1) := by decide +kernel
theorem dX10_compute_308 : decode cX10_compute 308 = .ok (.aload_n 0, 1) := by decide +kernel
theorem dX10_compute_309 : decode cX10_compute 309 = .ok (.getfield 46, 3) := by decide +kernel
theorem dX10_compute_312 : decode cX10_compute 312 = .ok (.iload_n 3, 1) := by decide +kernel
theorem dX10_compute_313 : decode cX10_compute 313 = .ok (.iconst 1, 1) := by decide +kernel
theorem dX10_compute_314 : decode cX10_compute 314 = .ok (.isub, 1) := by decide +kernel
theorem dX10_compute_315 : decode cX10_compute 315 = .ok (.iload 4, 2) := by decide +kernel
theorem dX10_compute_317 : decode cX10_compute 317 = .ok (.iastore, 1) := by decide +kernel
theorem dX10_compute_318 : decode cX10_compute 318 = .ok (.aload_n 0, 1) := by decide +kernel
theorem dX10_compute_319 : decode cX10_compute 319 = .ok (.aload_n 0, 1) := by decide +kernel
theorem dX10_compute_320 : decode cX10_compute 320 = .ok (.getfield 43, 3) := by decide +kernel
theorem dX10_compute_323 : decode cX10_compute 323 = .ok (.iload_n 3, 1) := by decide +kernel
theorem dX10_compute_324 : decode cX10_compute 324 = .ok (.iconst 1, 1) := by decide +kernel
theorem dX10_compute_325 : decode cX10_compute 325 = .ok (.isub, 1) := by decide +kernel
theorem dX10_compute_326 : decode cX10_compute 326 = .ok (.iaload, 1) := by decide +kernel
theorem dX10_compute_327 : decode cX10_compute 327 = .ok (.putfield 169, 3) := by decide +kernel
theorem dX10_compute_330 : decode cX10_compute 330 = .ok (.aload_n 0, 1) := by decide +kernel
theorem dX10_compute_331 : decode cX10_compute 331 = .ok (.aload_n 0, 1) := by decide +kernel
theorem dX10_compute_332 : decode cX10_compute 332 = .ok (.getfield 40, 3) := by decide +kernel
theorem dX10_compute_335 : decode cX10_compute 335 = .ok (.iload_n 3, 1) := by decide +kernel
theorem dX10_compute_336 : decode cX10_compute 336 = .ok (.iconst 1, 1) := by decide +kernel
theorem dX10_compute_337 : decode cX10_compute 337 = .ok (.isub, 1) := by decide +kernel
theorem dX10_compute_338 : decode cX10_compute 338 = .ok (.iaload, 1) := by decide +kernel
theorem dX10_compute_339 : decode cX10_compute 339 = .ok (.putfield 172, 3) := by decide +kernel
theorem dX10_compute_342 : decode cX10_compute 342 = .ok (.goto (-311), 3) := by decide +kernel
theorem dX10_find_0 : decode cX10_find 0 = .ok (.aload_n 0, 1) := by decide +kernel
theorem dX10_find_1 : decode cX10_find 1 = .ok (.getfield 31, 3) := by decide +kernel
theorem dX10_find_4 : decode cX10_find 4 = .ok (.iload_n 1, 1) := by decide +kernel
theorem dX10_find_5 : decode cX10_find 5 = .ok (.iaload, 1) := by decide +kernel
theorem dX10_find_6 : decode cX10_find 6 = .ok (.bipush (-9), 2) := by decide +kernel
theorem dX10_find_8 : decode cX10_find 8 = .ok (.if_icmp .eq 5, 3) := by decide +kernel
theorem dX10_find_11 : decode cX10_find 11 = .ok (.iconst 0, 1) := by decide +kernel
theorem dX10_find_12 : decode cX10_find 12 = .ok (.ireturn, 1) := by decide +kernel
theorem dX10_find_13 : decode cX10_find 13 = .ok (.aload_n 0, 1) := by decide +kernel
theorem dX10_find_14 : decode cX10_find 14 = .ok (.iload_n 1, 1) := by decide +kernel
theorem dX10_find_15 : decode cX10_find 15 = .ok (.sipush 400, 3) := by decide +kernel
theorem dX10_find_18 : decode cX10_find 18 = .ok (.idiv, 1) := by decide +kernel
theorem dX10_find_19 : decode cX10_find 19 = .ok (.iload_n 1, 1) := by decide +kernel
theorem dX10_find_20 : decode cX10_find 20 = .ok (.sipush 400, 3) := by decide +kernel
theorem dX10_find_23 : decode cX10_find 23 = .ok (.irem, 1) := by decide +kernel
theorem dX10_find_24 : decode cX10_find 24 = .ok (.invokevirtual 184, 3) := by decide +kernel
theorem dX10_find_27 : decode cX10_find 27 = .ok (.istore_n 2, 1) := by decide +kernel
theorem dX10_find_28 : decode cX10_find 28 = .ok (.iload_n 2, 1) := by decide +kernel
theorem dX10_find_29 : decode cX10_find 29 = .ok (.bipush (-9), 2) := by decide +kernel
theorem dX10_find_31 : decode cX10_find 31 = .ok (.if_icmp .ne 5, 3) := by decide +kernel
theorem dX10_find_34 : decode cX10_find 34 = .ok (.iconst 0, 1) := by decide +kernel
theorem dX10_find_35 : decode cX10_find 35 = .ok (.ireturn, 1) := by decide +kernel
theorem dX10_find_36 : decode cX10_find 36 = .ok (.iconst 0, 1) := by decide +kernel
theorem dX10_find_37 : decode cX10_find 37 = .ok (.istore_n 3, 1) := by decide +kernel
theorem dX10_find_38 : decode cX10_find 38 = .ok (.iconst 0, 1) := by decide +kernel
theorem dX10_find_39 : decode cX10_find 39 = .ok (.istore 4, 2) := by decide +kernel
theorem dX10_find_41 : decode cX10_find 41 = .ok (.iload 4, 2) := by decide +kernel
theorem dX10_find_43 : decode cX10_find 43 = .ok (.aload_n 0, 1) := by decide +kernel
theorem dX10_find_44 : decode cX10_find 44 = .ok (.getfield 178, 3) := by decide +kernel
theorem dX10_find_47 : decode cX10_find 47 = .ok (.if_icmp .ge 46, 3) := by decide +kernel
theorem dX10_find_50 : decode cX10_find 50 = .ok (.aload_n 0, 1) := by decide +kernel
theorem dX10_find_51 : decode cX10_find 51 = .ok (.getfield 34, 3) := by decide +kernel
theorem dX10_find_54 : decode cX10_find 54 = .ok (.aload_n 0, 1) := by decide +kernel
theorem dX10_find_55 : decode cX10_find 55 = .ok (.getfield 49, 3) := by decide +kernel
theorem dX10_find_58 : decode cX10_find 58 = .ok (.iload 4, 2) := by decide +kernel
theorem dX10_find_60 : decode cX10_find 60 = .ok (.iaload, 1) := by decide +kernel
theorem dX10_find_61 : decode cX10_find 61 = .ok (.iaload, 1) := by decide +kernel
theorem dX10_find_62 : decode cX10_find 62 = .ok (.iconst 1, 1) := by decide +kernel
theorem dX10_find_63 : decode cX10_find 63 = .ok (.iadd, 1) := by decide +kernel
theorem dX10_find_64 : decode cX10_find 64 = .ok (.iload_n 3, 1) := by decide +kernel
theorem dX10_find_65 : decode cX10_find 65 = .ok (.if_icmp .le 20, 3) := by decide +kernel
theorem dX10_find_68 : decode cX10_find 68 = .ok (.aload_n 0, 1) := by decide +kernel
theorem dX10_find_69 : decode cX10_find 69 = .ok (.getfield 34, 3) := by decide +kernel
theorem dX10_find_72 : decode cX10_find 72 = .ok (.aload_n 0, 1) := by decide +kernel
theorem dX10_find_73 : decode cX10_find 73 = .ok (.getfield 49, 3) := by decide +kernel
theorem dX10_find_76 : decode cX10_find 76 = .ok (.iload 4, 2) := by decide +kernel
theorem dX10_find_78 : decode cX10_find 78 = .ok (.iaload, 1) := by decide +kernel
theorem dX10_find_79 : decode cX10_find 79 = .ok (.iaload, 1) := by decide +kernel
theorem dX10_find_80 : decode cX10_find 80 = .ok (.iconst 1, 1) := by decide +kernel
theorem dX10_find_81 : decode cX10_find 81 = .ok (.iadd, 1) := by decide +kernel
theorem dX10_find_82 : decode cX10_find 82 = .ok (.goto 4, 3) := by decide +kernel
theorem dX10_find_85 : decode cX10_find 85 = .ok (.iload_n 3, 1) := by decide +kernel
theorem dX10_find_86 : decode cX10_find 86 = .ok (.istore_n 3, 1) := by decide +kernel
theorem dX10_find_87 : decode cX10_find 87 = .ok (.iinc 4 1, 3) := by decide +kernel
theorem dX10_find_90 : decode cX10_find 90 = .ok (.goto (-49), 3) := by decide +kernel
theorem dX10_find_93 : decode cX10_find 93 = .ok (.aload_n 0, 1) := by decide +kernel
theorem dX10_find_94 : decode cX10_find 94 = .ok (.getfield 31, 3) := by decide +kernel
theorem dX10_find_97 : decode cX10_find 97 = .ok (.iload_n 1, 1) := by decide +kernel
theorem dX10_find_98 : decode cX10_find 98 = .ok (.iload_n 2, 1) := by decide +kernel
theorem dX10_find_99 : decode cX10_find 99 = .ok (.iastore, 1) := by decide +kernel
theorem dX10_find_100 : decode cX10_find 100 = .ok (.aload_n 0, 1) := by decide +kernel
theorem dX10_find_101 : decode cX10_find 101 = .ok (.getfield 34, 3) := by decide +kernel
theorem dX10_find_104 : decode cX10_find 104 = .ok (.iload_n 1, 1) := by decide +kernel
theorem dX10_find_105 : decode cX10_find 105 = .ok (.iload_n 3, 1) := by decide +kernel
theorem dX10_find_106 : decode cX10_find 106 = .ok (.iastore, 1) := by decide +kernel
theorem dX10_find_107 : decode cX10_find 107 = .ok (.iconst 1, 1) := by decide +kernel
theorem dX10_find_108 : decode cX10_find 108 = .ok (.ireturn, 1) := by decide +kernel
theorem dX10_layValues_0 : decode cX10_layValues 0 = .ok (.aload_n 0, 1) := by decide +kernel
theorem dX10_layValues_1 : decode cX10_layValues 1 = .ok (.getfield 86, 3) := by decide +kernel
theorem dX10_layValues_4 : decode cX10_layValues 4 = .ok (.ifCond .eq 4, 3) := by decide +kernel
theorem dX10_layValues_7 : decode cX10_layValues 7 = .ok (.return_, 1) := by decide +kernel
theorem dX10_layValues_8 : decode cX10_layValues 8 = .ok (.aload_n 0, 1) := by decide +kernel
theorem dX10_layValues_9 : decode cX10_layValues 9 = .ok (.iconst 1, 1) := by decide +kernel
theorem dX10_layValues_10 : decode cX10_layValues 10 = .ok (.putfield 86, 3) := by decide +kernel
theorem dX10_layValues_13 : decode cX10_layValues 13 = .ok (.iconst 0, 1) := by decide +kernel
theorem dX10_layValues_14 : decode cX10_layValues 14 = .ok (.istore_n 1, 1) := by decide +kernel
theorem dX10_layValues_15 : decode cX10_layValues 15 = .ok (.iload_n 1, 1) := by decide +kernel
theorem dX10_layValues_16 : decode cX10_layValues 16 = .ok (.sipush 3200, 3) := by decide +kernel
theorem dX10_layValues_19 : decode cX10_layValues 19 = .ok (.if_icmp .ge 24, 3) := by decide +kernel
theorem dX10_layValues_22 : decode cX10_layValues 22 = .ok (.aload_n 0, 1) := by decide +kernel
theorem dX10_layValues_23 : decode cX10_layValues 23 = .ok (.getfield 31, 3) := by decide +kernel
theorem dX10_layValues_26 : decode cX10_layValues 26 = .ok (.iload_n 1, 1) := by decide +kernel
theorem dX10_layValues_27 : decode cX10_layValues 27 = .ok (.bipush (-9), 2) := by decide +kernel
theorem dX10_layValues_29 : decode cX10_layValues 29 = .ok (.iastore, 1) := by decide +kernel
theorem dX10_layValues_30 : decode cX10_layValues 30 = .ok (.aload_n 0, 1) := by decide +kernel
theorem dX10_layValues_31 : decode cX10_layValues 31 = .ok (.getfield 34, 3) := by decide +kernel
theorem dX10_layValues_34 : decode cX10_layValues 34 = .ok (.iload_n 1, 1) := by decide +kernel
theorem dX10_layValues_35 : decode cX10_layValues 35 = .ok (.iconst 0, 1) := by decide +kernel
theorem dX10_layValues_36 : decode cX10_layValues 36 = .ok (.iastore, 1) := by decide +kernel
theorem dX10_layValues_37 : decode cX10_layValues 37 = .ok (.iinc 1 1, 3) := by decide +kernel
theorem dX10_layValues_40 : decode cX10_layValues 40 = .ok (.goto (-25), 3) := by decide +kernel
theorem dX10_layValues_43 : decode cX10_layValues 43 = .ok (.iconst 1, 1) := by decide +kernel
theorem dX10_layValues_44 : decode cX10_layValues 44 = .ok (.istore_n 1, 1) := by decide +kernel
theorem dX10_layValues_45 : decode cX10_layValues 45 = .ok (.iload_n 1, 1) := by decide +kernel
theorem dX10_layValues_46 : decode cX10_layValues 46 = .ok (.ifCond .eq 92, 3) := by decide +kernel
theorem dX10_layValues_49 : decode cX10_layValues 49 = .ok (.iconst 0, 1) := by decide +kernel
theorem dX10_layValues_50 : decode cX10_layValues 50 = .ok (.istore_n 1, 1) := by decide +kernel
theorem dX10_layValues_51 : decode cX10_layValues 51 = .ok (.iconst 0, 1) := by decide +kernel
theorem dX10_layValues_52 : decode cX10_layValues 52 = .ok (.istore_n 2, 1) := by decide +kernel
theorem dX10_layValues_53 : decode cX10_layValues 53 = .ok (.iload_n 2, 1) := by decide +kernel
theorem dX10_layValues_54 : decode cX10_layValues 54 = .ok (.sipush 400, 3) := by decide +kernel
theorem dX10_layValues_57 : decode cX10_layValues 57 = .ok (.if_icmp .ge 37, 3) := by decide +kernel
theorem dX10_layValues_60 : decode cX10_layValues 60 = .ok (.iconst 0, 1) := by decide +kernel
theorem dX10_layValues_61 : decode cX10_layValues 61 = .ok (.istore_n 3, 1) := by decide +kernel
theorem dX10_layValues_62 : decode cX10_layValues 62 = .ok (.iload_n 3, 1) := by decide +kernel
theorem dX10_layValues_63 : decode cX10_layValues 63 = .ok (.bipush 8, 2) := by decide +kernel
theorem dX10_layValues_65 : decode cX10_layValues 65 = .ok (.if_icmp .ge 23, 3) := by decide +kernel
theorem dX10_layValues_68 : decode cX10_layValues 68 = .ok (.iload_n 1, 1) := by decide +kernel
theorem dX10_layValues_69 : decode cX10_layValues 69 = .ok (.aload_n 0, 1) := by decide +kernel
theorem dX10_layValues_70 : decode cX10_layValues 70 = .ok (.sipush 400, 3) := by decide +kernel
theorem dX10_layValues_73 : decode cX10_layValues 73 = .ok (.iload_n 3, 1) := by decide +kernel
theorem dX10_layValues_74 : decode cX10_layValues 74 = .ok (.imul, 1) := by decide +kernel
theorem dX10_layValues_75 : decode cX10_layValues 75 = .ok (.iload_n 2, 1) := by decide +kernel
theorem dX10_layValues_76 : decode cX10_layValues 76 = .ok (.iadd, 1) := by decide +kernel
theorem dX10_layValues_77 : decode cX10_layValues 77 = .ok (.invokevirtual 187, 3) := by decide +kernel
theorem dX10_layValues_80 : decode cX10_layValues 80 = .ok (.ior, 1) := by decide +kernel
theorem dX10_layValues_81 : decode cX10_layValues 81 = .ok (.istore_n 1, 1) := by decide +kernel
theorem dX10_layValues_82 : decode cX10_layValues 82 = .ok (.iinc 3 1, 3) := by decide +kernel
theorem dX10_layValues_85 : decode cX10_layValues 85 = .ok (.goto (-23), 3) := by decide +kernel
theorem dX10_layValues_88 : decode cX10_layValues 88 = .ok (.iinc 2 1, 3) := by decide +kernel
theorem dX10_layValues_91 : decode cX10_layValues 91 = .ok (.goto (-38), 3) := by decide +kernel
theorem dX10_layValues_94 : decode cX10_layValues 94 = .ok (.sipush 399, 3) := by decide +kernel
theorem dX10_layValues_97 : decode cX10_layValues 97 = .ok (.istore_n 2, 1) := by decide +kernel
theorem dX10_layValues_98 : decode cX10_layValues 98 = .ok (.iload_n 2, 1) := by decide +kernel
theorem dX10_layValues_99 : decode cX10_layValues 99 = .ok (.ifCond .lt 36, 3) := by decide +kernel
theorem dX10_layValues_102 : decode cX10_layValues 102 = .ok (.bipush 7, 2) := by decide +kernel
theorem dX10_layValues_104 : decode cX10_layValues 104 = .ok (.istore_n 3, 1) := by decide +kernel
theorem dX10_layValues_105 : decode cX10_layValues 105 = .ok (.iload_n 3, 1) := by decide +kernel
theorem dX10_layValues_106 : decode cX10_layValues 106 = .ok (.ifCond .lt 23, 3) := by decide +kernel
theorem dX10_layValues_109 : decode cX10_layValues 109 = .ok (.iload_n 1, 1) := by decide +kernel
theorem dX10_layValues_110 : decode cX10_layValues 110 = .ok (.aload_n 0, 1) := by decide +kernel
theorem dX10_layValues_111 : decode cX10_layValues 111 = .ok (.sipush 400, 3) := by decide +kernel
theorem dX10_layValues_114 : decode cX10_layValues 114 = .ok (.iload_n 3, 1) := by decide +kernel
theorem dX10_layValues_115 : decode cX10_layValues 115 = .ok (.imul, 1) := by decide +kernel
theorem dX10_layValues_116 : decode cX10_layValues 116 = .ok (.iload_n 2, 1) := by decide +kernel
theorem dX10_layValues_117 : decode cX10_layValues 117 = .ok (.iadd, 1) := by decide +kernel
theorem dX10_layValues_118 : decode cX10_layValues 118 = .ok (.invokevirtual 187, 3) := by decide +kernel
theorem dX10_layValues_121 : decode cX10_layValues 121 = .ok (.ior, 1) := by decide +kernel
theorem dX10_layValues_122 : decode cX10_layValues 122 = .ok (.istore_n 1, 1) := by decide +kernel
theorem dX10_layValues_123 : decode cX10_layValues 123 = .ok (.iinc 3 (-1), 3) := by decide +kernel
theorem dX10_layValues_126 : decode cX10_layValues 126 = .ok (.goto (-21), 3) := by decide +kernel
theorem dX10_layValues_129 : decode cX10_layValues 129 = .ok (.iinc 2 (-1), 3) := by decide +kernel
theorem dX10_layValues_132 : decode cX10_layValues 132 = .ok (.goto (-34), 3) := by decide +kernel
theorem dX10_layValues_135 : decode cX10_layValues 135 = .ok (.goto (-90), 3) := by decide +kernel
theorem dX10_layValues_138 : decode cX10_layValues 138 = .ok (.return_, 1) := by decide +kernel
theorem dX10_at_0 : decode cX10_at 0 = .ok (.aload_n 0, 1) := by decide +kernel
theorem dX10_at_1 : decode cX10_at 1 = .ok (.getfield 31, 3) := by decide +kernel
theorem dX10_at_4 : decode cX10_at 4 = .ok (.sipush 400, 3) := by decide +kernel
theorem dX10_at_7 : decode cX10_at 7 = .ok (.iload_n 1, 1) := by decide +kernel
theorem dX10_at_8 : decode cX10_at 8 = .ok (.imul, 1) := by decide +kernel
theorem dX10_at_9 : decode cX10_at 9 = .ok (.iload_n 2, 1) := by decide +kernel
theorem dX10_at_10 : decode cX10_at 10 = .ok (.iadd, 1) := by decide +kernel
theorem dX10_at_11 : decode cX10_at 11 = .ok (.iaload, 1) := by decide +kernel
theorem dX10_at_12 : decode cX10_at 12 = .ok (.ireturn, 1) := by decide +kernel
theorem dX10_reach_0 : decode cX10_reach 0 = .ok (.iconst 0, 1) := by decide +kernel
theorem dX10_reach_1 : decode cX10_reach 1 = .ok (.istore_n 2, 1) := by decide +kernel
theorem dX10_reach_2 : decode cX10_reach 2 = .ok (.iload_n 2, 1) := by decide +kernel
theorem dX10_reach_3 : decode cX10_reach 3 = .ok (.sipush 400, 3) := by decide +kernel
theorem dX10_reach_6 : decode cX10_reach 6 = .ok (.if_icmp .ge 20, 3) := by decide +kernel
theorem dX10_reach_9 : decode cX10_reach 9 = .ok (.aload_n 0, 1) := by decide +kernel
theorem dX10_reach_10 : decode cX10_reach 10 = .ok (.iload_n 1, 1) := by decide +kernel
theorem dX10_reach_11 : decode cX10_reach 11 = .ok (.iload_n 2, 1) := by decide +kernel
theorem dX10_reach_12 : decode cX10_reach 12 = .ok (.invokevirtual 190, 3) := by decide +kernel
theorem dX10_reach_15 : decode cX10_reach 15 = .ok (.bipush (-9), 2) := by decide +kernel
theorem dX10_reach_17 : decode cX10_reach 17 = .ok (.if_icmp .eq 9, 3) := by decide +kernel
theorem dX10_reach_20 : decode cX10_reach 20 = .ok (.iinc 2 1, 3) := by decide +kernel
theorem dX10_reach_23 : decode cX10_reach 23 = .ok (.goto (-21), 3) := by decide +kernel
theorem dX10_reach_26 : decode cX10_reach 26 = .ok (.iload_n 2, 1) := by decide +kernel
theorem dX10_reach_27 : decode cX10_reach 27 = .ok (.ireturn, 1) := by decide +kernel
theorem dX10_defined_0 : decode cX10_defined 0 = .ok (.iconst 0, 1) := by decide +kernel
theorem dX10_defined_1 : decode cX10_defined 1 = .ok (.istore_n 1, 1) := by decide +kernel
theorem dX10_defined_2 : decode cX10_defined 2 = .ok (.iconst 0, 1) := by decide +kernel
theorem dX10_defined_3 : decode cX10_defined 3 = .ok (.istore_n 2, 1) := by decide +kernel
theorem dX10_defined_4 : decode cX10_defined 4 = .ok (.iload_n 2, 1) := by decide +kernel
theorem dX10_defined_5 : decode cX10_defined 5 = .ok (.bipush 8, 2) := by decide +kernel
theorem dX10_defined_7 : decode cX10_defined 7 = .ok (.if_icmp .ge 25, 3) := by decide +kernel
theorem dX10_defined_10 : decode cX10_defined 10 = .ok (.iload_n 1, 1) := by decide +kernel
theorem dX10_defined_11 : decode cX10_defined 11 = .ok (.aload_n 0, 1) := by decide +kernel
theorem dX10_defined_12 : decode cX10_defined 12 = .ok (.iload_n 2, 1) := by decide +kernel
theorem dX10_defined_13 : decode cX10_defined 13 = .ok (.invokevirtual 122, 3) := by decide +kernel
theorem dX10_defined_16 : decode cX10_defined 16 = .ok (.ifCond .eq 7, 3) := by decide +kernel
theorem dX10_defined_19 : decode cX10_defined 19 = .ok (.iconst 1, 1) := by decide +kernel
theorem dX10_defined_20 : decode cX10_defined 20 = .ok (.goto 4, 3) := by decide +kernel
theorem dX10_defined_23 : decode cX10_defined 23 = .ok (.iconst 0, 1) := by decide +kernel
theorem dX10_defined_24 : decode cX10_defined 24 = .ok (.iadd, 1) := by decide +kernel
theorem dX10_defined_25 : decode cX10_defined 25 = .ok (.istore_n 1, 1) := by decide +kernel
theorem dX10_defined_26 : decode cX10_defined 26 = .ok (.iinc 2 1, 3) := by decide +kernel
theorem dX10_defined_29 : decode cX10_defined 29 = .ok (.goto (-25), 3) := by decide +kernel
theorem dX10_defined_32 : decode cX10_defined 32 = .ok (.iload_n 1, 1) := by decide +kernel
theorem dX10_defined_33 : decode cX10_defined 33 = .ok (.ireturn, 1) := by decide +kernel
theorem dX10_isPlain_0 : decode cX10_isPlain 0 = .ok (.iconst 1, 1) := by decide +kernel
theorem dX10_isPlain_1 : decode cX10_isPlain 1 = .ok (.istore_n 1, 1) := by decide +kernel
theorem dX10_isPlain_2 : decode cX10_isPlain 2 = .ok (.iconst 0, 1) := by decide +kernel
theorem dX10_isPlain_3 : decode cX10_isPlain 3 = .ok (.istore_n 2, 1) := by decide +kernel
theorem dX10_isPlain_4 : decode cX10_isPlain 4 = .ok (.iload_n 2, 1) := by decide +kernel
theorem dX10_isPlain_5 : decode cX10_isPlain 5 = .ok (.bipush 8, 2) := by decide +kernel
theorem dX10_isPlain_7 : decode cX10_isPlain 7 = .ok (.if_icmp .ge 68, 3) := by decide +kernel
theorem dX10_isPlain_10 : decode cX10_isPlain 10 = .ok (.iconst 0, 1) := by decide +kernel
theorem dX10_isPlain_11 : decode cX10_isPlain 11 = .ok (.istore_n 3, 1) := by decide +kernel
theorem dX10_isPlain_12 : decode cX10_isPlain 12 = .ok (.iload_n 3, 1) := by decide +kernel
theorem dX10_isPlain_13 : decode cX10_isPlain 13 = .ok (.aload_n 0, 1) := by decide +kernel
theorem dX10_isPlain_14 : decode cX10_isPlain 14 = .ok (.iload_n 2, 1) := by decide +kernel
theorem dX10_isPlain_15 : decode cX10_isPlain 15 = .ok (.invokevirtual 78, 3) := by decide +kernel
theorem dX10_isPlain_18 : decode cX10_isPlain 18 = .ok (.if_icmp .ge 51, 3) := by decide +kernel
theorem dX10_isPlain_21 : decode cX10_isPlain 21 = .ok (.aload_n 0, 1) := by decide +kernel
theorem dX10_isPlain_22 : decode cX10_isPlain 22 = .ok (.getfield 7, 3) := by decide +kernel
theorem dX10_isPlain_25 : decode cX10_isPlain 25 = .ok (.iload_n 2, 1) := by decide +kernel
theorem dX10_isPlain_26 : decode cX10_isPlain 26 = .ok (.invokestatic 106, 3) := by decide +kernel
theorem dX10_isPlain_29 : decode cX10_isPlain 29 = .ok (.iload_n 3, 1) := by decide +kernel
theorem dX10_isPlain_30 : decode cX10_isPlain 30 = .ok (.iadd, 1) := by decide +kernel
theorem dX10_isPlain_31 : decode cX10_isPlain 31 = .ok (.iaload, 1) := by decide +kernel
theorem dX10_isPlain_32 : decode cX10_isPlain 32 = .ok (.istore 4, 2) := by decide +kernel
theorem dX10_isPlain_34 : decode cX10_isPlain 34 = .ok (.iload_n 1, 1) := by decide +kernel
theorem dX10_isPlain_35 : decode cX10_isPlain 35 = .ok (.iload 4, 2) := by decide +kernel
theorem dX10_isPlain_37 : decode cX10_isPlain 37 = .ok (.bipush 122, 2) := by decide +kernel
theorem dX10_isPlain_39 : decode cX10_isPlain 39 = .ok (.if_icmp .eq 21, 3) := by decide +kernel
theorem dX10_isPlain_42 : decode cX10_isPlain 42 = .ok (.iload 4, 2) := by decide +kernel
theorem dX10_isPlain_44 : decode cX10_isPlain 44 = .ok (.bipush 101, 2) := by decide +kernel
theorem dX10_isPlain_46 : decode cX10_isPlain 46 = .ok (.if_icmp .eq 14, 3) := by decide +kernel
theorem dX10_isPlain_49 : decode cX10_isPlain 49 = .ok (.iload 4, 2) := by decide +kernel
theorem dX10_isPlain_51 : decode cX10_isPlain 51 = .ok (.bipush 111, 2) := by decide +kernel
theorem dX10_isPlain_53 : decode cX10_isPlain 53 = .ok (.if_icmp .eq 7, 3) := by decide +kernel
theorem dX10_isPlain_56 : decode cX10_isPlain 56 = .ok (.iconst 1, 1) := by decide +kernel
theorem dX10_isPlain_57 : decode cX10_isPlain 57 = .ok (.goto 4, 3) := by decide +kernel
theorem dX10_isPlain_60 : decode cX10_isPlain 60 = .ok (.iconst 0, 1) := by decide +kernel
theorem dX10_isPlain_61 : decode cX10_isPlain 61 = .ok (.iand, 1) := by decide +kernel
theorem dX10_isPlain_62 : decode cX10_isPlain 62 = .ok (.istore_n 1, 1) := by decide +kernel
theorem dX10_isPlain_63 : decode cX10_isPlain 63 = .ok (.iinc 3 1, 3) := by decide +kernel
theorem dX10_isPlain_66 : decode cX10_isPlain 66 = .ok (.goto (-54), 3) := by decide +kernel
theorem dX10_isPlain_69 : decode cX10_isPlain 69 = .ok (.iinc 2 1, 3) := by decide +kernel
theorem dX10_isPlain_72 : decode cX10_isPlain 72 = .ok (.goto (-68), 3) := by decide +kernel
theorem dX10_isPlain_75 : decode cX10_isPlain 75 = .ok (.iload_n 1, 1) := by decide +kernel
theorem dX10_isPlain_76 : decode cX10_isPlain 76 = .ok (.ireturn, 1) := by decide +kernel
theorem dX10_endless_0 : decode cX10_endless 0 = .ok (.aload_n 0, 1) := by decide +kernel
theorem dX10_endless_1 : decode cX10_endless 1 = .ok (.invokevirtual 193, 3) := by decide +kernel
theorem dX10_endless_4 : decode cX10_endless 4 = .ok (.iconst 0, 1) := by decide +kernel
theorem dX10_endless_5 : decode cX10_endless 5 = .ok (.istore_n 1, 1) := by decide +kernel
theorem dX10_endless_6 : decode cX10_endless 6 = .ok (.iconst 0, 1) := by decide +kernel
theorem dX10_endless_7 : decode cX10_endless 7 = .ok (.istore_n 2, 1) := by decide +kernel
theorem dX10_endless_8 : decode cX10_endless 8 = .ok (.iload_n 2, 1) := by decide +kernel
theorem dX10_endless_9 : decode cX10_endless 9 = .ok (.bipush 8, 2) := by decide +kernel
theorem dX10_endless_11 : decode cX10_endless 11 = .ok (.if_icmp .ge 28, 3) := by decide +kernel
theorem dX10_endless_14 : decode cX10_endless 14 = .ok (.iload_n 1, 1) := by decide +kernel
theorem dX10_endless_15 : decode cX10_endless 15 = .ok (.aload_n 0, 1) := by decide +kernel
theorem dX10_endless_16 : decode cX10_endless 16 = .ok (.iload_n 2, 1) := by decide +kernel
theorem dX10_endless_17 : decode cX10_endless 17 = .ok (.invokevirtual 196, 3) := by decide +kernel
theorem dX10_endless_20 : decode cX10_endless 20 = .ok (.sipush 400, 3) := by decide +kernel
theorem dX10_endless_23 : decode cX10_endless 23 = .ok (.if_icmp .ne 7, 3) := by decide +kernel
theorem dX10_endless_26 : decode cX10_endless 26 = .ok (.iconst 1, 1) := by decide +kernel
theorem dX10_endless_27 : decode cX10_endless 27 = .ok (.goto 4, 3) := by decide +kernel
theorem dX10_endless_30 : decode cX10_endless 30 = .ok (.iconst 0, 1) := by decide +kernel
theorem dX10_endless_31 : decode cX10_endless 31 = .ok (.iadd, 1) := by decide +kernel
theorem dX10_endless_32 : decode cX10_endless 32 = .ok (.istore_n 1, 1) := by decide +kernel
theorem dX10_endless_33 : decode cX10_endless 33 = .ok (.iinc 2 1, 3) := by decide +kernel
theorem dX10_endless_36 : decode cX10_endless 36 = .ok (.goto (-28), 3) := by decide +kernel
theorem dX10_endless_39 : decode cX10_endless 39 = .ok (.iload_n 1, 1) := by decide +kernel
theorem dX10_endless_40 : decode cX10_endless 40 = .ok (.ireturn, 1) := by decide +kernel
theorem dX10_allSizes_0 : decode cX10_allSizes 0 = .ok (.iconst 0, 1) := by decide +kernel
theorem dX10_allSizes_1 : decode cX10_allSizes 1 = .ok (.istore_n 1, 1) := by decide +kernel
theorem dX10_allSizes_2 : decode cX10_allSizes 2 = .ok (.iconst 0, 1) := by decide +kernel
theorem dX10_allSizes_3 : decode cX10_allSizes 3 = .ok (.istore_n 2, 1) := by decide +kernel
theorem dX10_allSizes_4 : decode cX10_allSizes 4 = .ok (.iload_n 2, 1) := by decide +kernel
theorem dX10_allSizes_5 : decode cX10_allSizes 5 = .ok (.bipush 8, 2) := by decide +kernel
theorem dX10_allSizes_7 : decode cX10_allSizes 7 = .ok (.if_icmp .ge 17, 3) := by decide +kernel
theorem dX10_allSizes_10 : decode cX10_allSizes 10 = .ok (.iload_n 1, 1) := by decide +kernel
theorem dX10_allSizes_11 : decode cX10_allSizes 11 = .ok (.aload_n 0, 1) := by decide +kernel
theorem dX10_allSizes_12 : decode cX10_allSizes 12 = .ok (.iload_n 2, 1) := by decide +kernel
theorem dX10_allSizes_13 : decode cX10_allSizes 13 = .ok (.invokevirtual 119, 3) := by decide +kernel
theorem dX10_allSizes_16 : decode cX10_allSizes 16 = .ok (.iadd, 1) := by decide +kernel
theorem dX10_allSizes_17 : decode cX10_allSizes 17 = .ok (.istore_n 1, 1) := by decide +kernel
theorem dX10_allSizes_18 : decode cX10_allSizes 18 = .ok (.iinc 2 1, 3) := by decide +kernel
theorem dX10_allSizes_21 : decode cX10_allSizes 21 = .ok (.goto (-17), 3) := by decide +kernel
theorem dX10_allSizes_24 : decode cX10_allSizes 24 = .ok (.iload_n 1, 1) := by decide +kernel
theorem dX10_allSizes_25 : decode cX10_allSizes 25 = .ok (.ireturn, 1) := by decide +kernel
theorem dX10_told_0 : decode cX10_told 0 = .ok (.iload_n 1, 1) := by decide +kernel
theorem dX10_told_1 : decode cX10_told 1 = .ok (.tableswitch 88 0 6 #[43, 50, 55, 60, 73, 78, 83], 43) := by decide +kernel
theorem dX10_told_44 : decode cX10_told 44 = .ok (.aload_n 0, 1) := by decide +kernel
theorem dX10_told_45 : decode cX10_told 45 = .ok (.getfield 7, 3) := by decide +kernel
theorem dX10_told_48 : decode cX10_told 48 = .ok (.iconst 0, 1) := by decide +kernel
theorem dX10_told_49 : decode cX10_told 49 = .ok (.iaload, 1) := by decide +kernel
theorem dX10_told_50 : decode cX10_told 50 = .ok (.ireturn, 1) := by decide +kernel
theorem dX10_told_51 : decode cX10_told 51 = .ok (.aload_n 0, 1) := by decide +kernel
theorem dX10_told_52 : decode cX10_told 52 = .ok (.invokevirtual 199, 3) := by decide +kernel
theorem dX10_told_55 : decode cX10_told 55 = .ok (.ireturn, 1) := by decide +kernel
theorem dX10_told_56 : decode cX10_told 56 = .ok (.aload_n 0, 1) := by decide +kernel
theorem dX10_told_57 : decode cX10_told 57 = .ok (.invokevirtual 202, 3) := by decide +kernel
theorem dX10_told_60 : decode cX10_told 60 = .ok (.ireturn, 1) := by decide +kernel
theorem dX10_told_61 : decode cX10_told 61 = .ok (.aload_n 0, 1) := by decide +kernel
theorem dX10_told_62 : decode cX10_told 62 = .ok (.invokevirtual 205, 3) := by decide +kernel
theorem dX10_told_65 : decode cX10_told 65 = .ok (.ifCond .eq 7, 3) := by decide +kernel
theorem dX10_told_68 : decode cX10_told 68 = .ok (.iconst 1, 1) := by decide +kernel
theorem dX10_told_69 : decode cX10_told 69 = .ok (.goto 4, 3) := by decide +kernel
theorem dX10_told_72 : decode cX10_told 72 = .ok (.iconst 0, 1) := by decide +kernel
theorem dX10_told_73 : decode cX10_told 73 = .ok (.ireturn, 1) := by decide +kernel
theorem dX10_told_74 : decode cX10_told 74 = .ok (.aload_n 0, 1) := by decide +kernel
theorem dX10_told_75 : decode cX10_told 75 = .ok (.getfield 90, 3) := by decide +kernel
theorem dX10_told_78 : decode cX10_told 78 = .ok (.ireturn, 1) := by decide +kernel
theorem dX10_told_79 : decode cX10_told 79 = .ok (.aload_n 0, 1) := by decide +kernel
theorem dX10_told_80 : decode cX10_told 80 = .ok (.getfield 82, 3) := by decide +kernel
theorem dX10_told_83 : decode cX10_told 83 = .ok (.ireturn, 1) := by decide +kernel
theorem dX10_told_84 : decode cX10_told 84 = .ok (.aload_n 0, 1) := by decide +kernel
theorem dX10_told_85 : decode cX10_told 85 = .ok (.invokevirtual 208, 3) := by decide +kernel
theorem dX10_told_88 : decode cX10_told 88 = .ok (.ireturn, 1) := by decide +kernel
theorem dX10_told_89 : decode cX10_told 89 = .ok (.iconst (-1), 1) := by decide +kernel
theorem dX10_told_90 : decode cX10_told 90 = .ok (.ireturn, 1) := by decide +kernel
theorem dX10_listing_0 : decode cX10_listing 0 = .ok (.iload_n 1, 1) := by decide +kernel
theorem dX10_listing_1 : decode cX10_listing 1 = .ok (.invokestatic 109, 3) := by decide +kernel
theorem dX10_listing_4 : decode cX10_listing 4 = .ok (.ifCond .eq 7, 3) := by decide +kernel
theorem dX10_listing_7 : decode cX10_listing 7 = .ok (.iload_n 2, 1) := by decide +kernel
theorem dX10_listing_8 : decode cX10_listing 8 = .ok (.ifCond .ge 5, 3) := by decide +kernel
theorem dX10_listing_11 : decode cX10_listing 11 = .ok (.iconst (-1), 1) := by decide +kernel
theorem dX10_listing_12 : decode cX10_listing 12 = .ok (.ireturn, 1) := by decide +kernel
theorem dX10_listing_13 : decode cX10_listing 13 = .ok (.iload_n 2, 1) := by decide +kernel
theorem dX10_listing_14 : decode cX10_listing 14 = .ok (.aload_n 0, 1) := by decide +kernel
theorem dX10_listing_15 : decode cX10_listing 15 = .ok (.iload_n 1, 1) := by decide +kernel
theorem dX10_listing_16 : decode cX10_listing 16 = .ok (.invokevirtual 78, 3) := by decide +kernel
theorem dX10_listing_19 : decode cX10_listing 19 = .ok (.if_icmp .ge 17, 3) := by decide +kernel
theorem dX10_listing_22 : decode cX10_listing 22 = .ok (.aload_n 0, 1) := by decide +kernel
theorem dX10_listing_23 : decode cX10_listing 23 = .ok (.getfield 7, 3) := by decide +kernel
theorem dX10_listing_26 : decode cX10_listing 26 = .ok (.iload_n 1, 1) := by decide +kernel
theorem dX10_listing_27 : decode cX10_listing 27 = .ok (.invokestatic 106, 3) := by decide +kernel
theorem dX10_listing_30 : decode cX10_listing 30 = .ok (.iload_n 2, 1) := by decide +kernel
theorem dX10_listing_31 : decode cX10_listing 31 = .ok (.iadd, 1) := by decide +kernel
theorem dX10_listing_32 : decode cX10_listing 32 = .ok (.iaload, 1) := by decide +kernel
theorem dX10_listing_33 : decode cX10_listing 33 = .ok (.goto 5, 3) := by decide +kernel
theorem dX10_listing_36 : decode cX10_listing 36 = .ok (.bipush (-9), 2) := by decide +kernel
theorem dX10_listing_38 : decode cX10_listing 38 = .ok (.ireturn, 1) := by decide +kernel
theorem dX10_uses_0 : decode cX10_uses 0 = .ok (.iload_n 1, 1) := by decide +kernel
theorem dX10_uses_1 : decode cX10_uses 1 = .ok (.invokestatic 109, 3) := by decide +kernel
theorem dX10_uses_4 : decode cX10_uses 4 = .ok (.ifCond .ne 5, 3) := by decide +kernel
theorem dX10_uses_7 : decode cX10_uses 7 = .ok (.iconst (-1), 1) := by decide +kernel
theorem dX10_uses_8 : decode cX10_uses 8 = .ok (.ireturn, 1) := by decide +kernel
theorem dX10_uses_9 : decode cX10_uses 9 = .ok (.iconst 0, 1) := by decide +kernel
theorem dX10_uses_10 : decode cX10_uses 10 = .ok (.istore_n 2, 1) := by decide +kernel
theorem dX10_uses_11 : decode cX10_uses 11 = .ok (.iconst 0, 1) := by decide +kernel
theorem dX10_uses_12 : decode cX10_uses 12 = .ok (.istore_n 3, 1) := by decide +kernel
theorem dX10_uses_13 : decode cX10_uses 13 = .ok (.iload_n 3, 1) := by decide +kernel
theorem dX10_uses_14 : decode cX10_uses 14 = .ok (.bipush 8, 2) := by decide +kernel
theorem dX10_uses_16 : decode cX10_uses 16 = .ok (.if_icmp .ge 28, 3) := by decide +kernel
theorem dX10_uses_19 : decode cX10_uses 19 = .ok (.iload_n 2, 1) := by decide +kernel
theorem dX10_uses_20 : decode cX10_uses 20 = .ok (.aload_n 0, 1) := by decide +kernel
theorem dX10_uses_21 : decode cX10_uses 21 = .ok (.iload_n 1, 1) := by decide +kernel
theorem dX10_uses_22 : decode cX10_uses 22 = .ok (.iload_n 3, 1) := by decide +kernel
theorem dX10_uses_23 : decode cX10_uses 23 = .ok (.invokevirtual 125, 3) := by decide +kernel
theorem dX10_uses_26 : decode cX10_uses 26 = .ok (.ifCond .le 9, 3) := by decide +kernel
theorem dX10_uses_29 : decode cX10_uses 29 = .ok (.iconst 1, 1) := by decide +kernel
theorem dX10_uses_30 : decode cX10_uses 30 = .ok (.iload_n 3, 1) := by decide +kernel
theorem dX10_uses_31 : decode cX10_uses 31 = .ok (.ishl, 1) := by decide +kernel
theorem dX10_uses_32 : decode cX10_uses 32 = .ok (.goto 4, 3) := by decide +kernel
theorem dX10_uses_35 : decode cX10_uses 35 = .ok (.iconst 0, 1) := by decide +kernel
theorem dX10_uses_36 : decode cX10_uses 36 = .ok (.ior, 1) := by decide +kernel
theorem dX10_uses_37 : decode cX10_uses 37 = .ok (.istore_n 2, 1) := by decide +kernel
theorem dX10_uses_38 : decode cX10_uses 38 = .ok (.iinc 3 1, 3) := by decide +kernel
theorem dX10_uses_41 : decode cX10_uses 41 = .ok (.goto (-28), 3) := by decide +kernel
theorem dX10_uses_44 : decode cX10_uses 44 = .ok (.aload_n 0, 1) := by decide +kernel
theorem dX10_uses_45 : decode cX10_uses 45 = .ok (.iload_n 1, 1) := by decide +kernel
theorem dX10_uses_46 : decode cX10_uses 46 = .ok (.invokevirtual 122, 3) := by decide +kernel
theorem dX10_uses_49 : decode cX10_uses 49 = .ok (.ifCond .eq 7, 3) := by decide +kernel
theorem dX10_uses_52 : decode cX10_uses 52 = .ok (.iload_n 2, 1) := by decide +kernel
theorem dX10_uses_53 : decode cX10_uses 53 = .ok (.goto 5, 3) := by decide +kernel
theorem dX10_uses_56 : decode cX10_uses 56 = .ok (.bipush (-9), 2) := by decide +kernel
theorem dX10_uses_58 : decode cX10_uses 58 = .ok (.ireturn, 1) := by decide +kernel
theorem dX10_layShifts_0 : decode cX10_layShifts 0 = .ok (.iconst 0, 1) := by decide +kernel
theorem dX10_layShifts_1 : decode cX10_layShifts 1 = .ok (.istore_n 2, 1) := by decide +kernel
theorem dX10_layShifts_2 : decode cX10_layShifts 2 = .ok (.iconst 0, 1) := by decide +kernel
theorem dX10_layShifts_3 : decode cX10_layShifts 3 = .ok (.istore_n 3, 1) := by decide +kernel
theorem dX10_layShifts_4 : decode cX10_layShifts 4 = .ok (.iload_n 1, 1) := by decide +kernel
theorem dX10_layShifts_5 : decode cX10_layShifts 5 = .ok (.invokestatic 106, 3) := by decide +kernel
theorem dX10_layShifts_8 : decode cX10_layShifts 8 = .ok (.istore 4, 2) := by decide +kernel
theorem dX10_layShifts_10 : decode cX10_layShifts 10 = .ok (.iload 4, 2) := by decide +kernel
theorem dX10_layShifts_12 : decode cX10_layShifts 12 = .ok (.iload_n 1, 1) := by decide +kernel
theorem dX10_layShifts_13 : decode cX10_layShifts 13 = .ok (.invokestatic 106, 3) := by decide +kernel
theorem dX10_layShifts_16 : decode cX10_layShifts 16 = .ok (.aload_n 0, 1) := by decide +kernel
theorem dX10_layShifts_17 : decode cX10_layShifts 17 = .ok (.iload_n 1, 1) := by decide +kernel
theorem dX10_layShifts_18 : decode cX10_layShifts 18 = .ok (.invokevirtual 78, 3) := by decide +kernel
theorem dX10_layShifts_21 : decode cX10_layShifts 21 = .ok (.iadd, 1) := by decide +kernel
theorem dX10_layShifts_22 : decode cX10_layShifts 22 = .ok (.if_icmp .ge 135, 3) := by decide +kernel
theorem dX10_layShifts_25 : decode cX10_layShifts 25 = .ok (.aload_n 0, 1) := by decide +kernel
theorem dX10_layShifts_26 : decode cX10_layShifts 26 = .ok (.getfield 7, 3) := by decide +kernel
theorem dX10_layShifts_29 : decode cX10_layShifts 29 = .ok (.iload 4, 2) := by decide +kernel
theorem dX10_layShifts_31 : decode cX10_layShifts 31 = .ok (.iaload, 1) := by decide +kernel
theorem dX10_layShifts_32 : decode cX10_layShifts 32 = .ok (.istore 5, 2) := by decide +kernel
theorem dX10_layShifts_34 : decode cX10_layShifts 34 = .ok (.iload 5, 2) := by decide +kernel
theorem dX10_layShifts_36 : decode cX10_layShifts 36 = .ok (.bipush 43, 2) := by decide +kernel
theorem dX10_layShifts_38 : decode cX10_layShifts 38 = .ok (.if_icmp .eq 10, 3) := by decide +kernel
theorem dX10_layShifts_41 : decode cX10_layShifts 41 = .ok (.iload 5, 2) := by decide +kernel
theorem dX10_layShifts_43 : decode cX10_layShifts 43 = .ok (.bipush 42, 2) := by decide +kernel
theorem dX10_layShifts_45 : decode cX10_layShifts 45 = .ok (.if_icmp .ne 16, 3) := by decide +kernel
theorem dX10_layShifts_48 : decode cX10_layShifts 48 = .ok (.aload_n 0, 1) := by decide +kernel
theorem dX10_layShifts_49 : decode cX10_layShifts 49 = .ok (.getfield 55, 3) := by decide +kernel
theorem dX10_layShifts_52 : decode cX10_layShifts 52 = .ok (.iload_n 2, 1) := by decide +kernel
theorem dX10_layShifts_53 : decode cX10_layShifts 53 = .ok (.iload_n 3, 1) := by decide +kernel
theorem dX10_layShifts_54 : decode cX10_layShifts 54 = .ok (.iastore, 1) := by decide +kernel
theorem dX10_layShifts_55 : decode cX10_layShifts 55 = .ok (.iinc 2 1, 3) := by decide +kernel
theorem dX10_layShifts_58 : decode cX10_layShifts 58 = .ok (.goto 93, 3) := by decide +kernel
theorem dX10_layShifts_61 : decode cX10_layShifts 61 = .ok (.iload 5, 2) := by decide +kernel
theorem dX10_layShifts_63 : decode cX10_layShifts 63 = .ok (.bipush 116, 2) := by decide +kernel
theorem dX10_layShifts_65 : decode cX10_layShifts 65 = .ok (.if_icmp .ne 9, 3) := by decide +kernel
theorem dX10_layShifts_68 : decode cX10_layShifts 68 = .ok (.iinc 3 1, 3) := by decide +kernel
theorem dX10_layShifts_71 : decode cX10_layShifts 71 = .ok (.goto 80, 3) := by decide +kernel
theorem dX10_layShifts_74 : decode cX10_layShifts 74 = .ok (.iload 5, 2) := by decide +kernel
theorem dX10_layShifts_76 : decode cX10_layShifts 76 = .ok (.bipush 58, 2) := by decide +kernel
theorem dX10_layShifts_78 : decode cX10_layShifts 78 = .ok (.if_icmp .ne 12, 3) := by decide +kernel
theorem dX10_layShifts_81 : decode cX10_layShifts 81 = .ok (.iinc 3 (-1), 3) := by decide +kernel
theorem dX10_layShifts_84 : decode cX10_layShifts 84 = .ok (.iinc 4 1, 3) := by decide +kernel
theorem dX10_layShifts_87 : decode cX10_layShifts 87 = .ok (.goto 64, 3) := by decide +kernel
theorem dX10_layShifts_90 : decode cX10_layShifts 90 = .ok (.iload 5, 2) := by decide +kernel
theorem dX10_layShifts_92 : decode cX10_layShifts 92 = .ok (.invokestatic 97, 3) := by decide +kernel
theorem dX10_layShifts_95 : decode cX10_layShifts 95 = .ok (.ifCond .eq 38, 3) := by decide +kernel
theorem dX10_layShifts_98 : decode cX10_layShifts 98 = .ok (.iload_n 3, 1) := by decide +kernel
theorem dX10_layShifts_99 : decode cX10_layShifts 99 = .ok (.aload_n 0, 1) := by decide +kernel
theorem dX10_layShifts_100 : decode cX10_layShifts 100 = .ok (.getfield 52, 3) := by decide +kernel
theorem dX10_layShifts_103 : decode cX10_layShifts 103 = .ok (.bipush 8, 2) := by decide +kernel
theorem dX10_layShifts_105 : decode cX10_layShifts 105 = .ok (.iload_n 1, 1) := by decide +kernel
theorem dX10_layShifts_106 : decode cX10_layShifts 106 = .ok (.imul, 1) := by decide +kernel
theorem dX10_layShifts_107 : decode cX10_layShifts 107 = .ok (.iload 5, 2) := by decide +kernel
theorem dX10_layShifts_109 : decode cX10_layShifts 109 = .ok (.iadd, 1) := by decide +kernel
theorem dX10_layShifts_110 : decode cX10_layShifts 110 = .ok (.bipush 65, 2) := by decide +kernel
theorem dX10_layShifts_112 : decode cX10_layShifts 112 = .ok (.isub, 1) := by decide +kernel
theorem dX10_layShifts_113 : decode cX10_layShifts 113 = .ok (.iaload, 1) := by decide +kernel
theorem dX10_layShifts_114 : decode cX10_layShifts 114 = .ok (.if_icmp .le 19, 3) := by decide +kernel
theorem dX10_layShifts_117 : decode cX10_layShifts 117 = .ok (.aload_n 0, 1) := by decide +kernel
theorem dX10_layShifts_118 : decode cX10_layShifts 118 = .ok (.getfield 52, 3) := by decide +kernel
theorem dX10_layShifts_121 : decode cX10_layShifts 121 = .ok (.bipush 8, 2) := by decide +kernel
theorem dX10_layShifts_123 : decode cX10_layShifts 123 = .ok (.iload_n 1, 1) := by decide +kernel
theorem dX10_layShifts_124 : decode cX10_layShifts 124 = .ok (.imul, 1) := by decide +kernel
theorem dX10_layShifts_125 : decode cX10_layShifts 125 = .ok (.iload 5, 2) := by decide +kernel
theorem dX10_layShifts_127 : decode cX10_layShifts 127 = .ok (.iadd, 1) := by decide +kernel
theorem dX10_layShifts_128 : decode cX10_layShifts 128 = .ok (.bipush 65, 2) := by decide +kernel
theorem dX10_layShifts_130 : decode cX10_layShifts 130 = .ok (.isub, 1) := by decide +kernel
theorem dX10_layShifts_131 : decode cX10_layShifts 131 = .ok (.iload_n 3, 1) := by decide +kernel
theorem dX10_layShifts_132 : decode cX10_layShifts 132 = .ok (.iastore, 1) := by decide +kernel
theorem dX10_layShifts_133 : decode cX10_layShifts 133 = .ok (.iinc 2 (-1), 3) := by decide +kernel
theorem dX10_layShifts_136 : decode cX10_layShifts 136 = .ok (.iload_n 2, 1) := by decide +kernel
theorem dX10_layShifts_137 : decode cX10_layShifts 137 = .ok (.ifCond .lt 12, 3) := by decide +kernel
theorem dX10_layShifts_140 : decode cX10_layShifts 140 = .ok (.aload_n 0, 1) := by decide +kernel
theorem dX10_layShifts_141 : decode cX10_layShifts 141 = .ok (.getfield 55, 3) := by decide +kernel
theorem dX10_layShifts_144 : decode cX10_layShifts 144 = .ok (.iload_n 2, 1) := by decide +kernel
theorem dX10_layShifts_145 : decode cX10_layShifts 145 = .ok (.iaload, 1) := by decide +kernel
theorem dX10_layShifts_146 : decode cX10_layShifts 146 = .ok (.goto 4, 3) := by decide +kernel
theorem dX10_layShifts_149 : decode cX10_layShifts 149 = .ok (.iconst 0, 1) := by decide +kernel
theorem dX10_layShifts_150 : decode cX10_layShifts 150 = .ok (.istore_n 3, 1) := by decide +kernel
theorem dX10_layShifts_151 : decode cX10_layShifts 151 = .ok (.iinc 4 1, 3) := by decide +kernel
theorem dX10_layShifts_154 : decode cX10_layShifts 154 = .ok (.goto (-144), 3) := by decide +kernel
theorem dX10_layShifts_157 : decode cX10_layShifts 157 = .ok (.return_, 1) := by decide +kernel
theorem dX10_greatestCycle_0 : decode cX10_greatestCycle 0 = .ok (.iconst 0, 1) := by decide +kernel
theorem dX10_greatestCycle_1 : decode cX10_greatestCycle 1 = .ok (.istore_n 2, 1) := by decide +kernel
theorem dX10_greatestCycle_2 : decode cX10_greatestCycle 2 = .ok (.iload_n 2, 1) := by decide +kernel
theorem dX10_greatestCycle_3 : decode cX10_greatestCycle 3 = .ok (.bipush 64, 2) := by decide +kernel
theorem dX10_greatestCycle_5 : decode cX10_greatestCycle 5 = .ok (.if_icmp .ge 18, 3) := by decide +kernel
theorem dX10_greatestCycle_8 : decode cX10_greatestCycle 8 = .ok (.aload_n 0, 1) := by decide +kernel
theorem dX10_greatestCycle_9 : decode cX10_greatestCycle 9 = .ok (.getfield 52, 3) := by decide +kernel
theorem dX10_greatestCycle_12 : decode cX10_greatestCycle 12 = .ok (.iload_n 2, 1) := by decide +kernel
theorem dX10_greatestCycle_13 : decode cX10_greatestCycle 13 = .ok (.sipush (-1000), 3) := by decide +kernel
theorem dX10_greatestCycle_16 : decode cX10_greatestCycle 16 = .ok (.iastore, 1) := by decide +kernel
theorem dX10_greatestCycle_17 : decode cX10_greatestCycle 17 = .ok (.iinc 2 1, 3) := by decide +kernel
theorem dX10_greatestCycle_20 : decode cX10_greatestCycle 20 = .ok (.goto (-18), 3) := by decide +kernel
theorem dX10_greatestCycle_23 : decode cX10_greatestCycle 23 = .ok (.iconst 0, 1) := by decide +kernel
theorem dX10_greatestCycle_24 : decode cX10_greatestCycle 24 = .ok (.istore_n 2, 1) := by decide +kernel
theorem dX10_greatestCycle_25 : decode cX10_greatestCycle 25 = .ok (.iload_n 2, 1) := by decide +kernel
theorem dX10_greatestCycle_26 : decode cX10_greatestCycle 26 = .ok (.bipush 8, 2) := by decide +kernel
theorem dX10_greatestCycle_28 : decode cX10_greatestCycle 28 = .ok (.if_icmp .ge 14, 3) := by decide +kernel
theorem dX10_greatestCycle_31 : decode cX10_greatestCycle 31 = .ok (.aload_n 0, 1) := by decide +kernel
theorem dX10_greatestCycle_32 : decode cX10_greatestCycle 32 = .ok (.iload_n 2, 1) := by decide +kernel
theorem dX10_greatestCycle_33 : decode cX10_greatestCycle 33 = .ok (.invokevirtual 211, 3) := by decide +kernel
theorem dX10_greatestCycle_36 : decode cX10_greatestCycle 36 = .ok (.iinc 2 1, 3) := by decide +kernel
theorem dX10_greatestCycle_39 : decode cX10_greatestCycle 39 = .ok (.goto (-14), 3) := by decide +kernel
theorem dX10_greatestCycle_42 : decode cX10_greatestCycle 42 = .ok (.iconst 0, 1) := by decide +kernel
theorem dX10_greatestCycle_43 : decode cX10_greatestCycle 43 = .ok (.istore_n 2, 1) := by decide +kernel
theorem dX10_greatestCycle_44 : decode cX10_greatestCycle 44 = .ok (.iload_n 2, 1) := by decide +kernel
theorem dX10_greatestCycle_45 : decode cX10_greatestCycle 45 = .ok (.sipush 2048, 3) := by decide +kernel
theorem dX10_greatestCycle_48 : decode cX10_greatestCycle 48 = .ok (.if_icmp .ge 17, 3) := by decide +kernel
theorem dX10_greatestCycle_51 : decode cX10_greatestCycle 51 = .ok (.aload_n 0, 1) := by decide +kernel
theorem dX10_greatestCycle_52 : decode cX10_greatestCycle 52 = .ok (.getfield 58, 3) := by decide +kernel
theorem dX10_greatestCycle_55 : decode cX10_greatestCycle 55 = .ok (.iload_n 2, 1) := by decide +kernel
theorem dX10_greatestCycle_56 : decode cX10_greatestCycle 56 = .ok (.ldc 214, 2) := by decide +kernel
theorem dX10_greatestCycle_58 : decode cX10_greatestCycle 58 = .ok (.iastore, 1) := by decide +kernel
theorem dX10_greatestCycle_59 : decode cX10_greatestCycle 59 = .ok (.iinc 2 1, 3) := by decide +kernel
theorem dX10_greatestCycle_62 : decode cX10_greatestCycle 62 = .ok (.goto (-18), 3) := by decide +kernel
theorem dX10_greatestCycle_65 : decode cX10_greatestCycle 65 = .ok (.aload_n 0, 1) := by decide +kernel
theorem dX10_greatestCycle_66 : decode cX10_greatestCycle 66 = .ok (.getfield 58, 3) := by decide +kernel
theorem dX10_greatestCycle_69 : decode cX10_greatestCycle 69 = .ok (.bipush 8, 2) := by decide +kernel
theorem dX10_greatestCycle_71 : decode cX10_greatestCycle 71 = .ok (.iconst 1, 1) := by decide +kernel
theorem dX10_greatestCycle_72 : decode cX10_greatestCycle 72 = .ok (.iload_n 1, 1) := by decide +kernel
theorem dX10_greatestCycle_73 : decode cX10_greatestCycle 73 = .ok (.ishl, 1) := by decide +kernel
theorem dX10_greatestCycle_74 : decode cX10_greatestCycle 74 = .ok (.imul, 1) := by decide +kernel
theorem dX10_greatestCycle_75 : decode cX10_greatestCycle 75 = .ok (.iload_n 1, 1) := by decide +kernel
theorem dX10_greatestCycle_76 : decode cX10_greatestCycle 76 = .ok (.iadd, 1) := by decide +kernel
theorem dX10_greatestCycle_77 : decode cX10_greatestCycle 77 = .ok (.iconst 0, 1) := by decide +kernel
theorem dX10_greatestCycle_78 : decode cX10_greatestCycle 78 = .ok (.iastore, 1) := by decide +kernel
theorem dX10_greatestCycle_79 : decode cX10_greatestCycle 79 = .ok (.ldc 214, 2) := by decide +kernel
theorem dX10_greatestCycle_81 : decode cX10_greatestCycle 81 = .ok (.istore_n 2, 1) := by decide +kernel
theorem dX10_greatestCycle_82 : decode cX10_greatestCycle 82 = .ok (.iconst 0, 1) := by decide +kernel
theorem dX10_greatestCycle_83 : decode cX10_greatestCycle 83 = .ok (.istore_n 3, 1) := by decide +kernel
theorem dX10_greatestCycle_84 : decode cX10_greatestCycle 84 = .ok (.iload_n 3, 1) := by decide +kernel
theorem dX10_greatestCycle_85 : decode cX10_greatestCycle 85 = .ok (.sipush 256, 3) := by decide +kernel
theorem dX10_greatestCycle_88 : decode cX10_greatestCycle 88 = .ok (.if_icmp .ge 96, 3) := by decide +kernel
theorem dX10_greatestCycle_91 : decode cX10_greatestCycle 91 = .ok (.iconst 0, 1) := by decide +kernel
theorem dX10_greatestCycle_92 : decode cX10_greatestCycle 92 = .ok (.istore 4, 2) := by decide +kernel
theorem dX10_greatestCycle_94 : decode cX10_greatestCycle 94 = .ok (.iload 4, 2) := by decide +kernel
theorem dX10_greatestCycle_96 : decode cX10_greatestCycle 96 = .ok (.bipush 8, 2) := by decide +kernel
theorem dX10_greatestCycle_98 : decode cX10_greatestCycle 98 = .ok (.if_icmp .ge 80, 3) := by decide +kernel
theorem dX10_greatestCycle_101 : decode cX10_greatestCycle 101 = .ok (.aload_n 0, 1) := by decide +kernel
theorem dX10_greatestCycle_102 : decode cX10_greatestCycle 102 = .ok (.getfield 58, 3) := by decide +kernel
theorem dX10_greatestCycle_105 : decode cX10_greatestCycle 105 = .ok (.bipush 8, 2) := by decide +kernel
theorem dX10_greatestCycle_107 : decode cX10_greatestCycle 107 = .ok (.iload_n 3, 1) := by decide +kernel
theorem dX10_greatestCycle_108 : decode cX10_greatestCycle 108 = .ok (.imul, 1) := by decide +kernel
theorem dX10_greatestCycle_109 : decode cX10_greatestCycle 109 = .ok (.iload 4, 2) := by decide +kernel
theorem dX10_greatestCycle_111 : decode cX10_greatestCycle 111 = .ok (.iadd, 1) := by decide +kernel
theorem dX10_greatestCycle_112 : decode cX10_greatestCycle 112 = .ok (.iaload, 1) := by decide +kernel
theorem dX10_greatestCycle_113 : decode cX10_greatestCycle 113 = .ok (.istore 5, 2) := by decide +kernel
theorem dX10_greatestCycle_115 : decode cX10_greatestCycle 115 = .ok (.iload 5, 2) := by decide +kernel
theorem dX10_greatestCycle_117 : decode cX10_greatestCycle 117 = .ok (.ldc 214, 2) := by decide +kernel
theorem dX10_greatestCycle_119 : decode cX10_greatestCycle 119 = .ok (.if_icmp .le 53, 3) := by decide +kernel
theorem dX10_greatestCycle_122 : decode cX10_greatestCycle 122 = .ok (.aload_n 0, 1) := by decide +kernel
theorem dX10_greatestCycle_123 : decode cX10_greatestCycle 123 = .ok (.getfield 52, 3) := by decide +kernel
theorem dX10_greatestCycle_126 : decode cX10_greatestCycle 126 = .ok (.bipush 8, 2) := by decide +kernel
theorem dX10_greatestCycle_128 : decode cX10_greatestCycle 128 = .ok (.iload 4, 2) := by decide +kernel
theorem dX10_greatestCycle_130 : decode cX10_greatestCycle 130 = .ok (.imul, 1) := by decide +kernel
theorem dX10_greatestCycle_131 : decode cX10_greatestCycle 131 = .ok (.iload_n 1, 1) := by decide +kernel
theorem dX10_greatestCycle_132 : decode cX10_greatestCycle 132 = .ok (.iadd, 1) := by decide +kernel
theorem dX10_greatestCycle_133 : decode cX10_greatestCycle 133 = .ok (.iaload, 1) := by decide +kernel
theorem dX10_greatestCycle_134 : decode cX10_greatestCycle 134 = .ok (.istore 6, 2) := by decide +kernel
theorem dX10_greatestCycle_136 : decode cX10_greatestCycle 136 = .ok (.iload 6, 2) := by decide +kernel
theorem dX10_greatestCycle_138 : decode cX10_greatestCycle 138 = .ok (.sipush (-1000), 3) := by decide +kernel
theorem dX10_greatestCycle_141 : decode cX10_greatestCycle 141 = .ok (.if_icmp .le 20, 3) := by decide +kernel
theorem dX10_greatestCycle_144 : decode cX10_greatestCycle 144 = .ok (.iload 5, 2) := by decide +kernel
theorem dX10_greatestCycle_146 : decode cX10_greatestCycle 146 = .ok (.iload 6, 2) := by decide +kernel
theorem dX10_greatestCycle_148 : decode cX10_greatestCycle 148 = .ok (.iadd, 1) := by decide +kernel
theorem dX10_greatestCycle_149 : decode cX10_greatestCycle 149 = .ok (.iload_n 2, 1) := by decide +kernel
theorem dX10_greatestCycle_150 : decode cX10_greatestCycle 150 = .ok (.if_icmp .le 11, 3) := by decide +kernel
theorem dX10_greatestCycle_153 : decode cX10_greatestCycle 153 = .ok (.iload 5, 2) := by decide +kernel
theorem dX10_greatestCycle_155 : decode cX10_greatestCycle 155 = .ok (.iload 6, 2) := by decide +kernel
theorem dX10_greatestCycle_157 : decode cX10_greatestCycle 157 = .ok (.iadd, 1) := by decide +kernel
theorem dX10_greatestCycle_158 : decode cX10_greatestCycle 158 = .ok (.goto 4, 3) := by decide +kernel
theorem dX10_greatestCycle_161 : decode cX10_greatestCycle 161 = .ok (.iload_n 2, 1) := by decide +kernel
theorem dX10_greatestCycle_162 : decode cX10_greatestCycle 162 = .ok (.istore_n 2, 1) := by decide +kernel
theorem dX10_greatestCycle_163 : decode cX10_greatestCycle 163 = .ok (.aload_n 0, 1) := by decide +kernel
theorem dX10_greatestCycle_164 : decode cX10_greatestCycle 164 = .ok (.iload_n 3, 1) := by decide +kernel
theorem dX10_greatestCycle_165 : decode cX10_greatestCycle 165 = .ok (.iload 4, 2) := by decide +kernel
theorem dX10_greatestCycle_167 : decode cX10_greatestCycle 167 = .ok (.iload 5, 2) := by decide +kernel
theorem dX10_greatestCycle_169 : decode cX10_greatestCycle 169 = .ok (.invokevirtual 215, 3) := by decide +kernel
theorem dX10_greatestCycle_172 : decode cX10_greatestCycle 172 = .ok (.iinc 4 1, 3) := by decide +kernel
theorem dX10_greatestCycle_175 : decode cX10_greatestCycle 175 = .ok (.goto (-81), 3) := by decide +kernel
theorem dX10_greatestCycle_178 : decode cX10_greatestCycle 178 = .ok (.iinc 3 1, 3) := by decide +kernel
theorem dX10_greatestCycle_181 : decode cX10_greatestCycle 181 = .ok (.goto (-97), 3) := by decide +kernel
theorem dX10_greatestCycle_184 : decode cX10_greatestCycle 184 = .ok (.iload_n 2, 1) := by decide +kernel
theorem dX10_greatestCycle_185 : decode cX10_greatestCycle 185 = .ok (.ireturn, 1) := by decide +kernel
theorem dX10_extend_0 : decode cX10_extend 0 = .ok (.iconst 0, 1) := by decide +kernel
theorem dX10_extend_1 : decode cX10_extend 1 = .ok (.istore 4, 2) := by decide +kernel
theorem dX10_extend_3 : decode cX10_extend 3 = .ok (.iload 4, 2) := by decide +kernel
theorem dX10_extend_5 : decode cX10_extend 5 = .ok (.bipush 8, 2) := by decide +kernel
theorem dX10_extend_7 : decode cX10_extend 7 = .ok (.if_icmp .ge 89, 3) := by decide +kernel
theorem dX10_extend_10 : decode cX10_extend 10 = .ok (.aload_n 0, 1) := by decide +kernel
theorem dX10_extend_11 : decode cX10_extend 11 = .ok (.getfield 52, 3) := by decide +kernel
theorem dX10_extend_14 : decode cX10_extend 14 = .ok (.bipush 8, 2) := by decide +kernel
theorem dX10_extend_16 : decode cX10_extend 16 = .ok (.iload_n 2, 1) := by decide +kernel
theorem dX10_extend_17 : decode cX10_extend 17 = .ok (.imul, 1) := by decide +kernel
theorem dX10_extend_18 : decode cX10_extend 18 = .ok (.iload 4, 2) := by decide +kernel
theorem dX10_extend_20 : decode cX10_extend 20 = .ok (.iadd, 1) := by decide +kernel
theorem dX10_extend_21 : decode cX10_extend 21 = .ok (.iaload, 1) := by decide +kernel
theorem dX10_extend_22 : decode cX10_extend 22 = .ok (.istore 5, 2) := by decide +kernel
theorem dX10_extend_24 : decode cX10_extend 24 = .ok (.iload_n 1, 1) := by decide +kernel
theorem dX10_extend_25 : decode cX10_extend 25 = .ok (.iload 4, 2) := by decide +kernel
theorem dX10_extend_27 : decode cX10_extend 27 = .ok (.ishr, 1) := by decide +kernel
theorem dX10_extend_28 : decode cX10_extend 28 = .ok (.iconst 1, 1) := by decide +kernel
theorem dX10_extend_29 : decode cX10_extend 29 = .ok (.iand, 1) := by decide +kernel
theorem dX10_extend_30 : decode cX10_extend 30 = .ok (.ifCond .ne 60, 3) := by decide +kernel
theorem dX10_extend_33 : decode cX10_extend 33 = .ok (.iload 5, 2) := by decide +kernel
theorem dX10_extend_35 : decode cX10_extend 35 = .ok (.sipush (-1000), 3) := by decide +kernel
theorem dX10_extend_38 : decode cX10_extend 38 = .ok (.if_icmp .le 52, 3) := by decide +kernel
theorem dX10_extend_41 : decode cX10_extend 41 = .ok (.bipush 8, 2) := by decide +kernel
theorem dX10_extend_43 : decode cX10_extend 43 = .ok (.iload_n 1, 1) := by decide +kernel
theorem dX10_extend_44 : decode cX10_extend 44 = .ok (.iconst 1, 1) := by decide +kernel
theorem dX10_extend_45 : decode cX10_extend 45 = .ok (.iload 4, 2) := by decide +kernel
theorem dX10_extend_47 : decode cX10_extend 47 = .ok (.ishl, 1) := by decide +kernel
theorem dX10_extend_48 : decode cX10_extend 48 = .ok (.ior, 1) := by decide +kernel
theorem dX10_extend_49 : decode cX10_extend 49 = .ok (.imul, 1) := by decide +kernel
theorem dX10_extend_50 : decode cX10_extend 50 = .ok (.iload 4, 2) := by decide +kernel
theorem dX10_extend_52 : decode cX10_extend 52 = .ok (.iadd, 1) := by decide +kernel
theorem dX10_extend_53 : decode cX10_extend 53 = .ok (.istore 6, 2) := by decide +kernel
theorem dX10_extend_55 : decode cX10_extend 55 = .ok (.aload_n 0, 1) := by decide +kernel
theorem dX10_extend_56 : decode cX10_extend 56 = .ok (.getfield 58, 3) := by decide +kernel
theorem dX10_extend_59 : decode cX10_extend 59 = .ok (.iload 6, 2) := by decide +kernel
theorem dX10_extend_61 : decode cX10_extend 61 = .ok (.iload_n 3, 1) := by decide +kernel
theorem dX10_extend_62 : decode cX10_extend 62 = .ok (.iload 5, 2) := by decide +kernel
theorem dX10_extend_64 : decode cX10_extend 64 = .ok (.iadd, 1) := by decide +kernel
theorem dX10_extend_65 : decode cX10_extend 65 = .ok (.aload_n 0, 1) := by decide +kernel
theorem dX10_extend_66 : decode cX10_extend 66 = .ok (.getfield 58, 3) := by decide +kernel
theorem dX10_extend_69 : decode cX10_extend 69 = .ok (.iload 6, 2) := by decide +kernel
theorem dX10_extend_71 : decode cX10_extend 71 = .ok (.iaload, 1) := by decide +kernel
theorem dX10_extend_72 : decode cX10_extend 72 = .ok (.if_icmp .le 10, 3) := by decide +kernel
theorem dX10_extend_75 : decode cX10_extend 75 = .ok (.iload_n 3, 1) := by decide +kernel
theorem dX10_extend_76 : decode cX10_extend 76 = .ok (.iload 5, 2) := by decide +kernel
theorem dX10_extend_78 : decode cX10_extend 78 = .ok (.iadd, 1) := by decide +kernel
theorem dX10_extend_79 : decode cX10_extend 79 = .ok (.goto 10, 3) := by decide +kernel
theorem dX10_extend_82 : decode cX10_extend 82 = .ok (.aload_n 0, 1) := by decide +kernel
theorem dX10_extend_83 : decode cX10_extend 83 = .ok (.getfield 58, 3) := by decide +kernel
theorem dX10_extend_86 : decode cX10_extend 86 = .ok (.iload 6, 2) := by decide +kernel
theorem dX10_extend_88 : decode cX10_extend 88 = .ok (.iaload, 1) := by decide +kernel
theorem dX10_extend_89 : decode cX10_extend 89 = .ok (.iastore, 1) := by decide +kernel
theorem dX10_extend_90 : decode cX10_extend 90 = .ok (.iinc 4 1, 3) := by decide +kernel
theorem dX10_extend_93 : decode cX10_extend 93 = .ok (.goto (-90), 3) := by decide +kernel
theorem dX10_extend_96 : decode cX10_extend 96 = .ok (.return_, 1) := by decide +kernel
theorem dX10_cycle_0 : decode cX10_cycle 0 = .ok (.iload_n 1, 1) := by decide +kernel
theorem dX10_cycle_1 : decode cX10_cycle 1 = .ok (.invokestatic 109, 3) := by decide +kernel
theorem dX10_cycle_4 : decode cX10_cycle 4 = .ok (.ifCond .ne 5, 3) := by decide +kernel
theorem dX10_cycle_7 : decode cX10_cycle 7 = .ok (.iconst (-1), 1) := by decide +kernel
theorem dX10_cycle_8 : decode cX10_cycle 8 = .ok (.ireturn, 1) := by decide +kernel
theorem dX10_cycle_9 : decode cX10_cycle 9 = .ok (.aload_n 0, 1) := by decide +kernel
theorem dX10_cycle_10 : decode cX10_cycle 10 = .ok (.invokevirtual 205, 3) := by decide +kernel
theorem dX10_cycle_13 : decode cX10_cycle 13 = .ok (.ifCond .ne 6, 3) := by decide +kernel
theorem dX10_cycle_16 : decode cX10_cycle 16 = .ok (.bipush (-2), 2) := by decide +kernel
theorem dX10_cycle_18 : decode cX10_cycle 18 = .ok (.ireturn, 1) := by decide +kernel
theorem dX10_cycle_19 : decode cX10_cycle 19 = .ok (.aload_n 0, 1) := by decide +kernel
theorem dX10_cycle_20 : decode cX10_cycle 20 = .ok (.iload_n 1, 1) := by decide +kernel
theorem dX10_cycle_21 : decode cX10_cycle 21 = .ok (.invokevirtual 219, 3) := by decide +kernel
theorem dX10_cycle_24 : decode cX10_cycle 24 = .ok (.istore_n 2, 1) := by decide +kernel
theorem dX10_cycle_25 : decode cX10_cycle 25 = .ok (.iload_n 2, 1) := by decide +kernel
theorem dX10_cycle_26 : decode cX10_cycle 26 = .ok (.ldc 214, 2) := by decide +kernel
theorem dX10_cycle_28 : decode cX10_cycle 28 = .ok (.if_icmp .ne 8, 3) := by decide +kernel
theorem dX10_cycle_31 : decode cX10_cycle 31 = .ok (.bipush (-9), 2) := by decide +kernel
theorem dX10_cycle_33 : decode cX10_cycle 33 = .ok (.goto 8, 3) := by decide +kernel
theorem dX10_cycle_36 : decode cX10_cycle 36 = .ok (.iload_n 2, 1) := by decide +kernel
theorem dX10_cycle_37 : decode cX10_cycle 37 = .ok (.sipush 1000, 3) := by decide +kernel
theorem dX10_cycle_40 : decode cX10_cycle 40 = .ok (.iadd, 1) := by decide +kernel
theorem dX10_cycle_41 : decode cX10_cycle 41 = .ok (.ireturn, 1) := by decide +kernel
theorem dX10_value_0 : decode cX10_value 0 = .ok (.iload_n 1, 1) := by decide +kernel
theorem dX10_value_1 : decode cX10_value 1 = .ok (.invokestatic 109, 3) := by decide +kernel
theorem dX10_value_4 : decode cX10_value 4 = .ok (.ifCond .eq 14, 3) := by decide +kernel
theorem dX10_value_7 : decode cX10_value 7 = .ok (.iload_n 2, 1) := by decide +kernel
theorem dX10_value_8 : decode cX10_value 8 = .ok (.iconst 0, 1) := by decide +kernel
theorem dX10_value_9 : decode cX10_value 9 = .ok (.sipush 399, 3) := by decide +kernel
theorem dX10_value_12 : decode cX10_value 12 = .ok (.invokestatic 74, 3) := by decide +kernel
theorem dX10_value_15 : decode cX10_value 15 = .ok (.ifCond .ne 5, 3) := by decide +kernel
theorem dX10_value_18 : decode cX10_value 18 = .ok (.iconst (-1), 1) := by decide +kernel
theorem dX10_value_19 : decode cX10_value 19 = .ok (.ireturn, 1) := by decide +kernel
theorem dX10_value_20 : decode cX10_value 20 = .ok (.aload_n 0, 1) := by decide +kernel
theorem dX10_value_21 : decode cX10_value 21 = .ok (.invokevirtual 193, 3) := by decide +kernel
theorem dX10_value_24 : decode cX10_value 24 = .ok (.aload_n 0, 1) := by decide +kernel
theorem dX10_value_25 : decode cX10_value 25 = .ok (.iload_n 1, 1) := by decide +kernel
theorem dX10_value_26 : decode cX10_value 26 = .ok (.iload_n 2, 1) := by decide +kernel
theorem dX10_value_27 : decode cX10_value 27 = .ok (.invokevirtual 190, 3) := by decide +kernel
theorem dX10_value_30 : decode cX10_value 30 = .ok (.ireturn, 1) := by decide +kernel
theorem dX10_differentValues_0 : decode cX10_differentValues 0 = .ok (.iconst 0, 1) := by decide +kernel
theorem dX10_differentValues_1 : decode cX10_differentValues 1 = .ok (.istore_n 3, 1) := by decide +kernel
theorem dX10_differentValues_2 : decode cX10_differentValues 2 = .ok (.iconst 0, 1) := by decide +kernel
theorem dX10_differentValues_3 : decode cX10_differentValues 3 = .ok (.istore 4, 2) := by decide +kernel
theorem dX10_differentValues_5 : decode cX10_differentValues 5 = .ok (.iconst 0, 1) := by decide +kernel
theorem dX10_differentValues_6 : decode cX10_differentValues 6 = .ok (.istore 5, 2) := by decide +kernel
theorem dX10_differentValues_8 : decode cX10_differentValues 8 = .ok (.iload 5, 2) := by decide +kernel
theorem dX10_differentValues_10 : decode cX10_differentValues 10 = .ok (.iload_n 2, 1) := by decide +kernel
theorem dX10_differentValues_11 : decode cX10_differentValues 11 = .ok (.if_icmp .ge 45, 3) := by decide +kernel
theorem dX10_differentValues_14 : decode cX10_differentValues 14 = .ok (.iload 4, 2) := by decide +kernel
theorem dX10_differentValues_16 : decode cX10_differentValues 16 = .ok (.iload_n 3, 1) := by decide +kernel
theorem dX10_differentValues_17 : decode cX10_differentValues 17 = .ok (.aload_n 0, 1) := by decide +kernel
theorem dX10_differentValues_18 : decode cX10_differentValues 18 = .ok (.iload_n 1, 1) := by decide +kernel
theorem dX10_differentValues_19 : decode cX10_differentValues 19 = .ok (.iload 5, 2) := by decide +kernel
theorem dX10_differentValues_21 : decode cX10_differentValues 21 = .ok (.invokevirtual 190, 3) := by decide +kernel
theorem dX10_differentValues_24 : decode cX10_differentValues 24 = .ok (.ishr, 1) := by decide +kernel
theorem dX10_differentValues_25 : decode cX10_differentValues 25 = .ok (.iconst 1, 1) := by decide +kernel
theorem dX10_differentValues_26 : decode cX10_differentValues 26 = .ok (.iand, 1) := by decide +kernel
theorem dX10_differentValues_27 : decode cX10_differentValues 27 = .ok (.ifCond .ne 7, 3) := by decide +kernel
theorem dX10_differentValues_30 : decode cX10_differentValues 30 = .ok (.iconst 1, 1) := by decide +kernel
theorem dX10_differentValues_31 : decode cX10_differentValues 31 = .ok (.goto 4, 3) := by decide +kernel
theorem dX10_differentValues_34 : decode cX10_differentValues 34 = .ok (.iconst 0, 1) := by decide +kernel
theorem dX10_differentValues_35 : decode cX10_differentValues 35 = .ok (.iadd, 1) := by decide +kernel
theorem dX10_differentValues_36 : decode cX10_differentValues 36 = .ok (.istore 4, 2) := by decide +kernel
theorem dX10_differentValues_38 : decode cX10_differentValues 38 = .ok (.iload_n 3, 1) := by decide +kernel
theorem dX10_differentValues_39 : decode cX10_differentValues 39 = .ok (.iconst 1, 1) := by decide +kernel
theorem dX10_differentValues_40 : decode cX10_differentValues 40 = .ok (.aload_n 0, 1) := by decide +kernel
theorem dX10_differentValues_41 : decode cX10_differentValues 41 = .ok (.iload_n 1, 1) := by decide +kernel
theorem dX10_differentValues_42 : decode cX10_differentValues 42 = .ok (.iload 5, 2) := by decide +kernel
theorem dX10_differentValues_44 : decode cX10_differentValues 44 = .ok (.invokevirtual 190, 3) := by decide +kernel
theorem dX10_differentValues_47 : decode cX10_differentValues 47 = .ok (.ishl, 1) := by decide +kernel
theorem dX10_differentValues_48 : decode cX10_differentValues 48 = .ok (.ior, 1) := by decide +kernel
theorem dX10_differentValues_49 : decode cX10_differentValues 49 = .ok (.istore_n 3, 1) := by decide +kernel
theorem dX10_differentValues_50 : decode cX10_differentValues 50 = .ok (.iinc 5 1, 3) := by decide +kernel
theorem dX10_differentValues_53 : decode cX10_differentValues 53 = .ok (.goto (-45), 3) := by decide +kernel
theorem dX10_differentValues_56 : decode cX10_differentValues 56 = .ok (.iload 4, 2) := by decide +kernel
theorem dX10_differentValues_58 : decode cX10_differentValues 58 = .ok (.ireturn, 1) := by decide +kernel
theorem dX10_sumOf_0 : decode cX10_sumOf 0 = .ok (.iconst 0, 1) := by decide +kernel
theorem dX10_sumOf_1 : decode cX10_sumOf 1 = .ok (.istore_n 3, 1) := by decide +kernel
theorem dX10_sumOf_2 : decode cX10_sumOf 2 = .ok (.iconst 0, 1) := by decide +kernel
theorem dX10_sumOf_3 : decode cX10_sumOf 3 = .ok (.istore 4, 2) := by decide +kernel
theorem dX10_sumOf_5 : decode cX10_sumOf 5 = .ok (.iload 4, 2) := by decide +kernel
theorem dX10_sumOf_7 : decode cX10_sumOf 7 = .ok (.iload_n 2, 1) := by decide +kernel
theorem dX10_sumOf_8 : decode cX10_sumOf 8 = .ok (.if_icmp .ge 19, 3) := by decide +kernel
theorem dX10_sumOf_11 : decode cX10_sumOf 11 = .ok (.iload_n 3, 1) := by decide +kernel
theorem dX10_sumOf_12 : decode cX10_sumOf 12 = .ok (.aload_n 0, 1) := by decide +kernel
theorem dX10_sumOf_13 : decode cX10_sumOf 13 = .ok (.iload_n 1, 1) := by decide +kernel
theorem dX10_sumOf_14 : decode cX10_sumOf 14 = .ok (.iload 4, 2) := by decide +kernel
theorem dX10_sumOf_16 : decode cX10_sumOf 16 = .ok (.invokevirtual 190, 3) := by decide +kernel
theorem dX10_sumOf_19 : decode cX10_sumOf 19 = .ok (.iadd, 1) := by decide +kernel
theorem dX10_sumOf_20 : decode cX10_sumOf 20 = .ok (.istore_n 3, 1) := by decide +kernel
theorem dX10_sumOf_21 : decode cX10_sumOf 21 = .ok (.iinc 4 1, 3) := by decide +kernel
theorem dX10_sumOf_24 : decode cX10_sumOf 24 = .ok (.goto (-19), 3) := by decide +kernel
theorem dX10_sumOf_27 : decode cX10_sumOf 27 = .ok (.iload_n 3, 1) := by decide +kernel
theorem dX10_sumOf_28 : decode cX10_sumOf 28 = .ok (.ireturn, 1) := by decide +kernel
theorem dX10_ahead_0 : decode cX10_ahead 0 = .ok (.sipush 200, 3) := by decide +kernel
theorem dX10_ahead_3 : decode cX10_ahead 3 = .ok (.iload_n 2, 1) := by decide +kernel
theorem dX10_ahead_4 : decode cX10_ahead 4 = .ok (.isub, 1) := by decide +kernel
theorem dX10_ahead_5 : decode cX10_ahead 5 = .ok (.istore_n 3, 1) := by decide +kernel
theorem dX10_ahead_6 : decode cX10_ahead 6 = .ok (.iload_n 3, 1) := by decide +kernel
theorem dX10_ahead_7 : decode cX10_ahead 7 = .ok (.ifCond .le 30, 3) := by decide +kernel
theorem dX10_ahead_10 : decode cX10_ahead 10 = .ok (.aload_n 0, 1) := by decide +kernel
theorem dX10_ahead_11 : decode cX10_ahead 11 = .ok (.iload_n 1, 1) := by decide +kernel
theorem dX10_ahead_12 : decode cX10_ahead 12 = .ok (.iload_n 3, 1) := by decide +kernel
theorem dX10_ahead_13 : decode cX10_ahead 13 = .ok (.iconst 1, 1) := by decide +kernel
theorem dX10_ahead_14 : decode cX10_ahead 14 = .ok (.isub, 1) := by decide +kernel
theorem dX10_ahead_15 : decode cX10_ahead 15 = .ok (.invokevirtual 190, 3) := by decide +kernel
theorem dX10_ahead_18 : decode cX10_ahead 18 = .ok (.aload_n 0, 1) := by decide +kernel
theorem dX10_ahead_19 : decode cX10_ahead 19 = .ok (.iload_n 1, 1) := by decide +kernel
theorem dX10_ahead_20 : decode cX10_ahead 20 = .ok (.iload_n 3, 1) := by decide +kernel
theorem dX10_ahead_21 : decode cX10_ahead 21 = .ok (.iconst 1, 1) := by decide +kernel
theorem dX10_ahead_22 : decode cX10_ahead 22 = .ok (.isub, 1) := by decide +kernel
theorem dX10_ahead_23 : decode cX10_ahead 23 = .ok (.iload_n 2, 1) := by decide +kernel
theorem dX10_ahead_24 : decode cX10_ahead 24 = .ok (.iadd, 1) := by decide +kernel
theorem dX10_ahead_25 : decode cX10_ahead 25 = .ok (.invokevirtual 190, 3) := by decide +kernel
theorem dX10_ahead_28 : decode cX10_ahead 28 = .ok (.if_icmp .ne 9, 3) := by decide +kernel
theorem dX10_ahead_31 : decode cX10_ahead 31 = .ok (.iinc 3 (-1), 3) := by decide +kernel
theorem dX10_ahead_34 : decode cX10_ahead 34 = .ok (.goto (-28), 3) := by decide +kernel
theorem dX10_ahead_37 : decode cX10_ahead 37 = .ok (.iload_n 3, 1) := by decide +kernel
theorem dX10_ahead_38 : decode cX10_ahead 38 = .ok (.iconst 2, 1) := by decide +kernel
theorem dX10_ahead_39 : decode cX10_ahead 39 = .ok (.iload_n 2, 1) := by decide +kernel
theorem dX10_ahead_40 : decode cX10_ahead 40 = .ok (.imul, 1) := by decide +kernel
theorem dX10_ahead_41 : decode cX10_ahead 41 = .ok (.iadd, 1) := by decide +kernel
theorem dX10_ahead_42 : decode cX10_ahead 42 = .ok (.sipush 200, 3) := by decide +kernel
theorem dX10_ahead_45 : decode cX10_ahead 45 = .ok (.if_icmp .gt 7, 3) := by decide +kernel
theorem dX10_ahead_48 : decode cX10_ahead 48 = .ok (.iload_n 3, 1) := by decide +kernel
theorem dX10_ahead_49 : decode cX10_ahead 49 = .ok (.goto 5, 3) := by decide +kernel
theorem dX10_ahead_52 : decode cX10_ahead 52 = .ok (.bipush (-9), 2) := by decide +kernel
theorem dX10_ahead_54 : decode cX10_ahead 54 = .ok (.ireturn, 1) := by decide +kernel
theorem dX10_period_0 : decode cX10_period 0 = .ok (.aload_n 0, 1) := by decide +kernel
theorem dX10_period_1 : decode cX10_period 1 = .ok (.iload_n 1, 1) := by decide +kernel
theorem dX10_period_2 : decode cX10_period 2 = .ok (.invokevirtual 196, 3) := by decide +kernel
theorem dX10_period_5 : decode cX10_period 5 = .ok (.sipush 200, 3) := by decide +kernel
theorem dX10_period_8 : decode cX10_period 8 = .ok (.if_icmp .ge 6, 3) := by decide +kernel
theorem dX10_period_11 : decode cX10_period 11 = .ok (.bipush (-9), 2) := by decide +kernel
theorem dX10_period_13 : decode cX10_period 13 = .ok (.ireturn, 1) := by decide +kernel
theorem dX10_period_14 : decode cX10_period 14 = .ok (.iconst 1, 1) := by decide +kernel
theorem dX10_period_15 : decode cX10_period 15 = .ok (.istore_n 3, 1) := by decide +kernel
theorem dX10_period_16 : decode cX10_period 16 = .ok (.iload_n 3, 1) := by decide +kernel
theorem dX10_period_17 : decode cX10_period 17 = .ok (.bipush 100, 2) := by decide +kernel
theorem dX10_period_19 : decode cX10_period 19 = .ok (.if_icmp .gt 35, 3) := by decide +kernel
theorem dX10_period_22 : decode cX10_period 22 = .ok (.aload_n 0, 1) := by decide +kernel
theorem dX10_period_23 : decode cX10_period 23 = .ok (.iload_n 1, 1) := by decide +kernel
theorem dX10_period_24 : decode cX10_period 24 = .ok (.iload_n 3, 1) := by decide +kernel
theorem dX10_period_25 : decode cX10_period 25 = .ok (.invokevirtual 222, 3) := by decide +kernel
theorem dX10_period_28 : decode cX10_period 28 = .ok (.bipush (-9), 2) := by decide +kernel
theorem dX10_period_30 : decode cX10_period 30 = .ok (.if_icmp .eq 18, 3) := by decide +kernel
theorem dX10_period_33 : decode cX10_period 33 = .ok (.iload_n 2, 1) := by decide +kernel
theorem dX10_period_34 : decode cX10_period 34 = .ok (.ifCond .eq 7, 3) := by decide +kernel
theorem dX10_period_37 : decode cX10_period 37 = .ok (.iload_n 3, 1) := by decide +kernel
theorem dX10_period_38 : decode cX10_period 38 = .ok (.goto 9, 3) := by decide +kernel
theorem dX10_period_41 : decode cX10_period 41 = .ok (.aload_n 0, 1) := by decide +kernel
theorem dX10_period_42 : decode cX10_period 42 = .ok (.iload_n 1, 1) := by decide +kernel
theorem dX10_period_43 : decode cX10_period 43 = .ok (.iload_n 3, 1) := by decide +kernel
theorem dX10_period_44 : decode cX10_period 44 = .ok (.invokevirtual 222, 3) := by decide +kernel
theorem dX10_period_47 : decode cX10_period 47 = .ok (.ireturn, 1) := by decide +kernel
theorem dX10_period_48 : decode cX10_period 48 = .ok (.iinc 3 1, 3) := by decide +kernel
theorem dX10_period_51 : decode cX10_period 51 = .ok (.goto (-35), 3) := by decide +kernel
theorem dX10_period_54 : decode cX10_period 54 = .ok (.bipush (-9), 2) := by decide +kernel
theorem dX10_period_56 : decode cX10_period 56 = .ok (.ireturn, 1) := by decide +kernel
theorem dX10_stream_0 : decode cX10_stream 0 = .ok (.iload_n 1, 1) := by decide +kernel
theorem dX10_stream_1 : decode cX10_stream 1 = .ok (.invokestatic 109, 3) := by decide +kernel
theorem dX10_stream_4 : decode cX10_stream 4 = .ok (.ifCond .eq 12, 3) := by decide +kernel
theorem dX10_stream_7 : decode cX10_stream 7 = .ok (.iload_n 2, 1) := by decide +kernel
theorem dX10_stream_8 : decode cX10_stream 8 = .ok (.iconst 0, 1) := by decide +kernel
theorem dX10_stream_9 : decode cX10_stream 9 = .ok (.iconst 5, 1) := by decide +kernel
theorem dX10_stream_10 : decode cX10_stream 10 = .ok (.invokestatic 74, 3) := by decide +kernel
theorem dX10_stream_13 : decode cX10_stream 13 = .ok (.ifCond .ne 5, 3) := by decide +kernel
theorem dX10_stream_16 : decode cX10_stream 16 = .ok (.iconst (-1), 1) := by decide +kernel
theorem dX10_stream_17 : decode cX10_stream 17 = .ok (.ireturn, 1) := by decide +kernel
