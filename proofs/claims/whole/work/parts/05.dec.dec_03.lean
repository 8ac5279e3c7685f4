theorem dX10_init_83 : decode cX10_init 83 = .ok (.aload_n 0, 1) := by decide +kernel
theorem dX10_init_84 : decode cX10_init 84 = .ok (.sipush 130, 3) := by decide +kernel
theorem dX10_init_87 : decode cX10_init 87 = .ok (.newarray .int, 2) := by decide +kernel
theorem dX10_init_89 : decode cX10_init 89 = .ok (.putfield 37, 3) := by decide +kernel
theorem dX10_init_92 : decode cX10_init 92 = .ok (.aload_n 0, 1) := by decide +kernel
theorem dX10_init_93 : decode cX10_init 93 = .ok (.sipush 130, 3) := by decide +kernel
theorem dX10_init_96 : decode cX10_init 96 = .ok (.newarray .int, 2) := by decide +kernel
theorem dX10_init_98 : decode cX10_init 98 = .ok (.putfield 40, 3) := by decide +kernel
theorem dX10_init_101 : decode cX10_init 101 = .ok (.aload_n 0, 1) := by decide +kernel
theorem dX10_init_102 : decode cX10_init 102 = .ok (.sipush 130, 3) := by decide +kernel
theorem dX10_init_105 : decode cX10_init 105 = .ok (.newarray .int, 2) := by decide +kernel
theorem dX10_init_107 : decode cX10_init 107 = .ok (.putfield 43, 3) := by decide +kernel
theorem dX10_init_110 : decode cX10_init 110 = .ok (.aload_n 0, 1) := by decide +kernel
theorem dX10_init_111 : decode cX10_init 111 = .ok (.sipush 130, 3) := by decide +kernel
theorem dX10_init_114 : decode cX10_init 114 = .ok (.newarray .int, 2) := by decide +kernel
theorem dX10_init_116 : decode cX10_init 116 = .ok (.putfield 46, 3) := by decide +kernel
theorem dX10_init_119 : decode cX10_init 119 = .ok (.aload_n 0, 1) := by decide +kernel
theorem dX10_init_120 : decode cX10_init 120 = .ok (.sipush 130, 3) := by decide +kernel
theorem dX10_init_123 : decode cX10_init 123 = .ok (.newarray .int, 2) := by decide +kernel
theorem dX10_init_125 : decode cX10_init 125 = .ok (.putfield 49, 3) := by decide +kernel
theorem dX10_init_128 : decode cX10_init 128 = .ok (.aload_n 0, 1) := by decide +kernel
theorem dX10_init_129 : decode cX10_init 129 = .ok (.bipush 64, 2) := by decide +kernel
theorem dX10_init_131 : decode cX10_init 131 = .ok (.newarray .int, 2) := by decide +kernel
theorem dX10_init_133 : decode cX10_init 133 = .ok (.putfield 52, 3) := by decide +kernel
theorem dX10_init_136 : decode cX10_init 136 = .ok (.aload_n 0, 1) := by decide +kernel
theorem dX10_init_137 : decode cX10_init 137 = .ok (.sipush 130, 3) := by decide +kernel
theorem dX10_init_140 : decode cX10_init 140 = .ok (.newarray .int, 2) := by decide +kernel
theorem dX10_init_142 : decode cX10_init 142 = .ok (.putfield 55, 3) := by decide +kernel
theorem dX10_init_145 : decode cX10_init 145 = .ok (.aload_n 0, 1) := by decide +kernel
theorem dX10_init_146 : decode cX10_init 146 = .ok (.sipush 2048, 3) := by decide +kernel
theorem dX10_init_149 : decode cX10_init 149 = .ok (.newarray .int, 2) := by decide +kernel
theorem dX10_init_151 : decode cX10_init 151 = .ok (.putfield 58, 3) := by decide +kernel
theorem dX10_init_154 : decode cX10_init 154 = .ok (.aload_n 0, 1) := by decide +kernel
theorem dX10_init_155 : decode cX10_init 155 = .ok (.sipush 3200, 3) := by decide +kernel
theorem dX10_init_158 : decode cX10_init 158 = .ok (.newarray .boolean, 2) := by decide +kernel
theorem dX10_init_160 : decode cX10_init 160 = .ok (.putfield 61, 3) := by decide +kernel
theorem dX10_init_163 : decode cX10_init 163 = .ok (.aload_n 0, 1) := by decide +kernel
theorem dX10_init_164 : decode cX10_init 164 = .ok (.sipush 3200, 3) := by decide +kernel
theorem dX10_init_167 : decode cX10_init 167 = .ok (.newarray .int, 2) := by decide +kernel
theorem dX10_init_169 : decode cX10_init 169 = .ok (.putfield 65, 3) := by decide +kernel
theorem dX10_init_172 : decode cX10_init 172 = .ok (.aload_n 0, 1) := by decide +kernel
theorem dX10_init_173 : decode cX10_init 173 = .ok (.sipush 2001, 3) := by decide +kernel
theorem dX10_init_176 : decode cX10_init 176 = .ok (.newarray .int, 2) := by decide +kernel
theorem dX10_init_178 : decode cX10_init 178 = .ok (.putfield 68, 3) := by decide +kernel
theorem dX10_init_181 : decode cX10_init 181 = .ok (.aload_n 0, 1) := by decide +kernel
theorem dX10_init_182 : decode cX10_init 182 = .ok (.sipush 400, 3) := by decide +kernel
theorem dX10_init_185 : decode cX10_init 185 = .ok (.newarray .int, 2) := by decide +kernel
theorem dX10_init_187 : decode cX10_init 187 = .ok (.putfield 71, 3) := by decide +kernel
theorem dX10_init_190 : decode cX10_init 190 = .ok (.aload_n 0, 1) := by decide +kernel
theorem dX10_init_191 : decode cX10_init 191 = .ok (.getfield 7, 3) := by decide +kernel
theorem dX10_init_194 : decode cX10_init 194 = .ok (.iconst 0, 1) := by decide +kernel
theorem dX10_init_195 : decode cX10_init 195 = .ok (.iconst 2, 1) := by decide +kernel
theorem dX10_init_196 : decode cX10_init 196 = .ok (.iastore, 1) := by decide +kernel
theorem dX10_init_197 : decode cX10_init 197 = .ok (.return_, 1) := by decide +kernel
theorem dX10_isIn_0 : decode cX10_isIn 0 = .ok (.iload_n 0, 1) := by decide +kernel
theorem dX10_isIn_1 : decode cX10_isIn 1 = .ok (.iload_n 1, 1) := by decide +kernel
theorem dX10_isIn_2 : decode cX10_isIn 2 = .ok (.if_icmp .lt 12, 3) := by decide +kernel
theorem dX10_isIn_5 : decode cX10_isIn 5 = .ok (.iload_n 0, 1) := by decide +kernel
theorem dX10_isIn_6 : decode cX10_isIn 6 = .ok (.iload_n 2, 1) := by decide +kernel
theorem dX10_isIn_7 : decode cX10_isIn 7 = .ok (.if_icmp .gt 7, 3) := by decide +kernel
theorem dX10_isIn_10 : decode cX10_isIn 10 = .ok (.iconst 1, 1) := by decide +kernel
theorem dX10_isIn_11 : decode cX10_isIn 11 = .ok (.goto 4, 3) := by decide +kernel
theorem dX10_isIn_14 : decode cX10_isIn 14 = .ok (.iconst 0, 1) := by decide +kernel
theorem dX10_isIn_15 : decode cX10_isIn 15 = .ok (.ireturn, 1) := by decide +kernel
theorem dX10_isStream_0 : decode cX10_isStream 0 = .ok (.iload_n 0, 1) := by decide +kernel
theorem dX10_isStream_1 : decode cX10_isStream 1 = .ok (.iconst 0, 1) := by decide +kernel
theorem dX10_isStream_2 : decode cX10_isStream 2 = .ok (.bipush 7, 2) := by decide +kernel
theorem dX10_isStream_4 : decode cX10_isStream 4 = .ok (.invokestatic 74, 3) := by decide +kernel
theorem dX10_isStream_7 : decode cX10_isStream 7 = .ok (.ireturn, 1) := by decide +kernel
theorem dX10_begin_0 : decode cX10_begin 0 = .ok (.iconst 2, 1) := by decide +kernel
theorem dX10_begin_1 : decode cX10_begin 1 = .ok (.sipush 250, 3) := by decide +kernel
theorem dX10_begin_4 : decode cX10_begin 4 = .ok (.iload_n 0, 1) := by decide +kernel
theorem dX10_begin_5 : decode cX10_begin 5 = .ok (.imul, 1) := by decide +kernel
theorem dX10_begin_6 : decode cX10_begin 6 = .ok (.iadd, 1) := by decide +kernel
theorem dX10_begin_7 : decode cX10_begin 7 = .ok (.ireturn, 1) := by decide +kernel
theorem dX10_bytes_0 : decode cX10_bytes 0 = .ok (.aload_n 0, 1) := by decide +kernel
theorem dX10_bytes_1 : decode cX10_bytes 1 = .ok (.getfield 7, 3) := by decide +kernel
theorem dX10_bytes_4 : decode cX10_bytes 4 = .ok (.iconst 1, 1) := by decide +kernel
theorem dX10_bytes_5 : decode cX10_bytes 5 = .ok (.sipush 250, 3) := by decide +kernel
theorem dX10_bytes_8 : decode cX10_bytes 8 = .ok (.iload_n 1, 1) := by decide +kernel
theorem dX10_bytes_9 : decode cX10_bytes 9 = .ok (.imul, 1) := by decide +kernel
theorem dX10_bytes_10 : decode cX10_bytes 10 = .ok (.iadd, 1) := by decide +kernel
theorem dX10_bytes_11 : decode cX10_bytes 11 = .ok (.iaload, 1) := by decide +kernel
theorem dX10_bytes_12 : decode cX10_bytes 12 = .ok (.ireturn, 1) := by decide +kernel
theorem dX10_has_0 : decode cX10_has 0 = .ok (.aload_n 0, 1) := by decide +kernel
theorem dX10_has_1 : decode cX10_has 1 = .ok (.iload_n 1, 1) := by decide +kernel
theorem dX10_has_2 : decode cX10_has 2 = .ok (.invokevirtual 78, 3) := by decide +kernel
theorem dX10_has_5 : decode cX10_has 5 = .ok (.ifCond .le 7, 3) := by decide +kernel
theorem dX10_has_8 : decode cX10_has 8 = .ok (.iconst 1, 1) := by decide +kernel
theorem dX10_has_9 : decode cX10_has 9 = .ok (.goto 4, 3) := by decide +kernel
theorem dX10_has_12 : decode cX10_has 12 = .ok (.iconst 0, 1) := by decide +kernel
theorem dX10_has_13 : decode cX10_has 13 = .ok (.ireturn, 1) := by decide +kernel
theorem dX10_remember_0 : decode cX10_remember 0 = .ok (.aload_n 0, 1) := by decide +kernel
theorem dX10_remember_1 : decode cX10_remember 1 = .ok (.getfield 82, 3) := by decide +kernel
theorem dX10_remember_4 : decode cX10_remember 4 = .ok (.bipush 8, 2) := by decide +kernel
theorem dX10_remember_6 : decode cX10_remember 6 = .ok (.if_icmp .ne 44, 3) := by decide +kernel
theorem dX10_remember_9 : decode cX10_remember 9 = .ok (.iconst 0, 1) := by decide +kernel
theorem dX10_remember_10 : decode cX10_remember 10 = .ok (.istore_n 1, 1) := by decide +kernel
theorem dX10_remember_11 : decode cX10_remember 11 = .ok (.iload_n 1, 1) := by decide +kernel
theorem dX10_remember_12 : decode cX10_remember 12 = .ok (.sipush 14007, 3) := by decide +kernel
theorem dX10_remember_15 : decode cX10_remember 15 = .ok (.if_icmp .ge 25, 3) := by decide +kernel
theorem dX10_remember_18 : decode cX10_remember 18 = .ok (.aload_n 0, 1) := by decide +kernel
theorem dX10_remember_19 : decode cX10_remember 19 = .ok (.getfield 13, 3) := by decide +kernel
theorem dX10_remember_22 : decode cX10_remember 22 = .ok (.iload_n 1, 1) := by decide +kernel
theorem dX10_remember_23 : decode cX10_remember 23 = .ok (.aload_n 0, 1) := by decide +kernel
theorem dX10_remember_24 : decode cX10_remember 24 = .ok (.getfield 13, 3) := by decide +kernel
theorem dX10_remember_27 : decode cX10_remember 27 = .ok (.iload_n 1, 1) := by decide +kernel
theorem dX10_remember_28 : decode cX10_remember 28 = .ok (.sipush 2001, 3) := by decide +kernel
theorem dX10_remember_31 : decode cX10_remember 31 = .ok (.iadd, 1) := by decide +kernel
theorem dX10_remember_32 : decode cX10_remember 32 = .ok (.iaload, 1) := by decide +kernel
theorem dX10_remember_33 : decode cX10_remember 33 = .ok (.iastore, 1) := by decide +kernel
theorem dX10_remember_34 : decode cX10_remember 34 = .ok (.iinc 1 1, 3) := by decide +kernel
theorem dX10_remember_37 : decode cX10_remember 37 = .ok (.goto (-26), 3) := by decide +kernel
theorem dX10_remember_40 : decode cX10_remember 40 = .ok (.aload_n 0, 1) := by decide +kernel
theorem dX10_remember_41 : decode cX10_remember 41 = .ok (.dup, 1) := by decide +kernel
theorem dX10_remember_42 : decode cX10_remember 42 = .ok (.getfield 82, 3) := by decide +kernel
theorem dX10_remember_45 : decode cX10_remember 45 = .ok (.iconst 1, 1) := by decide +kernel
theorem dX10_remember_46 : decode cX10_remember 46 = .ok (.isub, 1) := by decide +kernel
theorem dX10_remember_47 : decode cX10_remember 47 = .ok (.putfield 82, 3) := by decide +kernel
theorem dX10_remember_50 : decode cX10_remember 50 = .ok (.iconst 0, 1) := by decide +kernel
theorem dX10_remember_51 : decode cX10_remember 51 = .ok (.istore_n 1, 1) := by decide +kernel
theorem dX10_remember_52 : decode cX10_remember 52 = .ok (.iload_n 1, 1) := by decide +kernel
theorem dX10_remember_53 : decode cX10_remember 53 = .ok (.sipush 2001, 3) := by decide +kernel
theorem dX10_remember_56 : decode cX10_remember 56 = .ok (.if_icmp .ge 30, 3) := by decide +kernel
theorem dX10_remember_59 : decode cX10_remember 59 = .ok (.aload_n 0, 1) := by decide +kernel
theorem dX10_remember_60 : decode cX10_remember 60 = .ok (.getfield 13, 3) := by decide +kernel
theorem dX10_remember_63 : decode cX10_remember 63 = .ok (.sipush 2001, 3) := by decide +kernel
theorem dX10_remember_66 : decode cX10_remember 66 = .ok (.aload_n 0, 1) := by decide +kernel
theorem dX10_remember_67 : decode cX10_remember 67 = .ok (.getfield 82, 3) := by decide +kernel
theorem dX10_remember_70 : decode cX10_remember 70 = .ok (.imul, 1) := by decide +kernel
theorem dX10_remember_71 : decode cX10_remember 71 = .ok (.iload_n 1, 1) := by decide +kernel
theorem dX10_remember_72 : decode cX10_remember 72 = .ok (.iadd, 1) := by decide +kernel
theorem dX10_remember_73 : decode cX10_remember 73 = .ok (.aload_n 0, 1) := by decide +kernel
theorem dX10_remember_74 : decode cX10_remember 74 = .ok (.getfield 7, 3) := by decide +kernel
theorem dX10_remember_77 : decode cX10_remember 77 = .ok (.iload_n 1, 1) := by decide +kernel
theorem dX10_remember_78 : decode cX10_remember 78 = .ok (.iaload, 1) := by decide +kernel
theorem dX10_remember_79 : decode cX10_remember 79 = .ok (.iastore, 1) := by decide +kernel
theorem dX10_remember_80 : decode cX10_remember 80 = .ok (.iinc 1 1, 3) := by decide +kernel
theorem dX10_remember_83 : decode cX10_remember 83 = .ok (.goto (-31), 3) := by decide +kernel
theorem dX10_remember_86 : decode cX10_remember 86 = .ok (.aload_n 0, 1) := by decide +kernel
theorem dX10_remember_87 : decode cX10_remember 87 = .ok (.dup, 1) := by decide +kernel
theorem dX10_remember_88 : decode cX10_remember 88 = .ok (.getfield 82, 3) := by decide +kernel
theorem dX10_remember_91 : decode cX10_remember 91 = .ok (.iconst 1, 1) := by decide +kernel
theorem dX10_remember_92 : decode cX10_remember 92 = .ok (.iadd, 1) := by decide +kernel
theorem dX10_remember_93 : decode cX10_remember 93 = .ok (.putfield 82, 3) := by decide +kernel
theorem dX10_remember_96 : decode cX10_remember 96 = .ok (.aload_n 0, 1) := by decide +kernel
theorem dX10_remember_97 : decode cX10_remember 97 = .ok (.iconst 0, 1) := by decide +kernel
theorem dX10_remember_98 : decode cX10_remember 98 = .ok (.putfield 86, 3) := by decide +kernel
theorem dX10_remember_101 : decode cX10_remember 101 = .ok (.return_, 1) := by decide +kernel
theorem dX10_write_0 : decode cX10_write 0 = .ok (.iload_n 1, 1) := by decide +kernel
theorem dX10_write_1 : decode cX10_write 1 = .ok (.bipush 32, 2) := by decide +kernel
theorem dX10_write_3 : decode cX10_write 3 = .ok (.bipush 126, 2) := by decide +kernel
theorem dX10_write_5 : decode cX10_write 5 = .ok (.invokestatic 74, 3) := by decide +kernel
theorem dX10_write_8 : decode cX10_write 8 = .ok (.ifCond .ne 5, 3) := by decide +kernel
theorem dX10_write_11 : decode cX10_write 11 = .ok (.iconst (-1), 1) := by decide +kernel
theorem dX10_write_12 : decode cX10_write 12 = .ok (.ireturn, 1) := by decide +kernel
theorem dX10_write_13 : decode cX10_write 13 = .ok (.aload_n 0, 1) := by decide +kernel
theorem dX10_write_14 : decode cX10_write 14 = .ok (.getfield 90, 3) := by decide +kernel
theorem dX10_write_17 : decode cX10_write 17 = .ok (.bipush 80, 2) := by decide +kernel
theorem dX10_write_19 : decode cX10_write 19 = .ok (.if_icmp .ne 6, 3) := by decide +kernel
theorem dX10_write_22 : decode cX10_write 22 = .ok (.bipush (-3), 2) := by decide +kernel
theorem dX10_write_24 : decode cX10_write 24 = .ok (.ireturn, 1) := by decide +kernel
theorem dX10_write_25 : decode cX10_write 25 = .ok (.aload_n 0, 1) := by decide +kernel
theorem dX10_write_26 : decode cX10_write 26 = .ok (.getfield 19, 3) := by decide +kernel
theorem dX10_write_29 : decode cX10_write 29 = .ok (.aload_n 0, 1) := by decide +kernel
theorem dX10_write_30 : decode cX10_write 30 = .ok (.getfield 90, 3) := by decide +kernel
theorem dX10_write_33 : decode cX10_write 33 = .ok (.iload_n 1, 1) := by decide +kernel
theorem dX10_write_34 : decode cX10_write 34 = .ok (.iastore, 1) := by decide +kernel
theorem dX10_write_35 : decode cX10_write 35 = .ok (.aload_n 0, 1) := by decide +kernel
theorem dX10_write_36 : decode cX10_write 36 = .ok (.dup, 1) := by decide +kernel
theorem dX10_write_37 : decode cX10_write 37 = .ok (.getfield 90, 3) := by decide +kernel
theorem dX10_write_40 : decode cX10_write 40 = .ok (.iconst 1, 1) := by decide +kernel
theorem dX10_write_41 : decode cX10_write 41 = .ok (.iadd, 1) := by decide +kernel
theorem dX10_write_42 : decode cX10_write 42 = .ok (.putfield 90, 3) := by decide +kernel
theorem dX10_write_45 : decode cX10_write 45 = .ok (.aload_n 0, 1) := by decide +kernel
theorem dX10_write_46 : decode cX10_write 46 = .ok (.getfield 90, 3) := by decide +kernel
theorem dX10_write_49 : decode cX10_write 49 = .ok (.ireturn, 1) := by decide +kernel
theorem dX10_wipe_0 : decode cX10_wipe 0 = .ok (.aload_n 0, 1) := by decide +kernel
theorem dX10_wipe_1 : decode cX10_wipe 1 = .ok (.getfield 90, 3) := by decide +kernel
theorem dX10_wipe_4 : decode cX10_wipe 4 = .ok (.istore_n 1, 1) := by decide +kernel
theorem dX10_wipe_5 : decode cX10_wipe 5 = .ok (.aload_n 0, 1) := by decide +kernel
theorem dX10_wipe_6 : decode cX10_wipe 6 = .ok (.iconst 0, 1) := by decide +kernel
theorem dX10_wipe_7 : decode cX10_wipe 7 = .ok (.putfield 90, 3) := by decide +kernel
theorem dX10_wipe_10 : decode cX10_wipe 10 = .ok (.iload_n 1, 1) := by decide +kernel
theorem dX10_wipe_11 : decode cX10_wipe 11 = .ok (.ireturn, 1) := by decide +kernel
theorem dX10_isDigit_0 : decode cX10_isDigit 0 = .ok (.iload_n 0, 1) := by decide +kernel
theorem dX10_isDigit_1 : decode cX10_isDigit 1 = .ok (.bipush 48, 2) := by decide +kernel
theorem dX10_isDigit_3 : decode cX10_isDigit 3 = .ok (.if_icmp .lt 13, 3) := by decide +kernel
theorem dX10_isDigit_6 : decode cX10_isDigit 6 = .ok (.iload_n 0, 1) := by decide +kernel
theorem dX10_isDigit_7 : decode cX10_isDigit 7 = .ok (.bipush 57, 2) := by decide +kernel
theorem dX10_isDigit_9 : decode cX10_isDigit 9 = .ok (.if_icmp .gt 7, 3) := by decide +kernel
theorem dX10_isDigit_12 : decode cX10_isDigit 12 = .ok (.iconst 1, 1) := by decide +kernel
theorem dX10_isDigit_13 : decode cX10_isDigit 13 = .ok (.goto 4, 3) := by decide +kernel
theorem dX10_isDigit_16 : decode cX10_isDigit 16 = .ok (.iconst 0, 1) := by decide +kernel
theorem dX10_isDigit_17 : decode cX10_isDigit 17 = .ok (.ireturn, 1) := by decide +kernel
theorem dX10_isLetter_0 : decode cX10_isLetter 0 = .ok (.iload_n 0, 1) := by decide +kernel
theorem dX10_isLetter_1 : decode cX10_isLetter 1 = .ok (.bipush 65, 2) := by decide +kernel
theorem dX10_isLetter_3 : decode cX10_isLetter 3 = .ok (.if_icmp .lt 13, 3) := by decide +kernel
theorem dX10_isLetter_6 : decode cX10_isLetter 6 = .ok (.iload_n 0, 1) := by decide +kernel
theorem dX10_isLetter_7 : decode cX10_isLetter 7 = .ok (.bipush 72, 2) := by decide +kernel
theorem dX10_isLetter_9 : decode cX10_isLetter 9 = .ok (.if_icmp .gt 7, 3) := by decide +kernel
theorem dX10_isLetter_12 : decode cX10_isLetter 12 = .ok (.iconst 1, 1) := by decide +kernel
theorem dX10_isLetter_13 : decode cX10_isLetter 13 = .ok (.goto 4, 3) := by decide +kernel
theorem dX10_isLetter_16 : decode cX10_isLetter 16 = .ok (.iconst 0, 1) := by decide +kernel
theorem dX10_isLetter_17 : decode cX10_isLetter 17 = .ok (.ireturn, 1) := by decide +kernel
theorem dX10_parts_0 : decode cX10_parts 0 = .ok (.iload_n 0, 1) := by decide +kernel
theorem dX10_parts_1 : decode cX10_parts 1 = .ok (.lookupswitch 71 #[(42, 69), (43, 69), (58, 67), (101, 67), (111, 67), (116, 67), (122, 69)], 67) := by decide +kernel
theorem dX10_parts_68 : decode cX10_parts 68 = .ok (.iconst 1, 1) := by decide +kernel
theorem dX10_parts_69 : decode cX10_parts 69 = .ok (.ireturn, 1) := by decide +kernel
theorem dX10_parts_70 : decode cX10_parts 70 = .ok (.iconst 2, 1) := by decide +kernel
theorem dX10_parts_71 : decode cX10_parts 71 = .ok (.ireturn, 1) := by decide +kernel
theorem dX10_parts_72 : decode cX10_parts 72 = .ok (.iload_n 0, 1) := by decide +kernel
theorem dX10_parts_73 : decode cX10_parts 73 = .ok (.invokestatic 93, 3) := by decide +kernel
theorem dX10_parts_76 : decode cX10_parts 76 = .ok (.ifCond .ne 10, 3) := by decide +kernel
theorem dX10_parts_79 : decode cX10_parts 79 = .ok (.iload_n 0, 1) := by decide +kernel
theorem dX10_parts_80 : decode cX10_parts 80 = .ok (.invokestatic 97, 3) := by decide +kernel
theorem dX10_parts_83 : decode cX10_parts 83 = .ok (.ifCond .eq 7, 3) := by decide +kernel
theorem dX10_parts_86 : decode cX10_parts 86 = .ok (.iconst 0, 1) := by decide +kernel
theorem dX10_parts_87 : decode cX10_parts 87 = .ok (.goto 5, 3) := by decide +kernel
theorem dX10_parts_90 : decode cX10_parts 90 = .ok (.bipush (-9), 2) := by decide +kernel
theorem dX10_parts_92 : decode cX10_parts 92 = .ok (.ireturn, 1) := by decide +kernel
theorem dX10_fault_0 : decode cX10_fault 0 = .ok (.aload_n 0, 1) := by decide +kernel
theorem dX10_fault_1 : decode cX10_fault 1 = .ok (.iconst 0, 1) := by decide +kernel
theorem dX10_fault_2 : decode cX10_fault 2 = .ok (.putfield 100, 3) := by decide +kernel
theorem dX10_fault_5 : decode cX10_fault 5 = .ok (.iconst 1, 1) := by decide +kernel
theorem dX10_fault_6 : decode cX10_fault 6 = .ok (.istore_n 1, 1) := by decide +kernel
theorem dX10_fault_7 : decode cX10_fault 7 = .ok (.iconst 0, 1) := by decide +kernel
theorem dX10_fault_8 : decode cX10_fault 8 = .ok (.istore_n 2, 1) := by decide +kernel
theorem dX10_fault_9 : decode cX10_fault 9 = .ok (.iconst 0, 1) := by decide +kernel
theorem dX10_fault_10 : decode cX10_fault 10 = .ok (.istore_n 3, 1) := by decide +kernel
theorem dX10_fault_11 : decode cX10_fault 11 = .ok (.iload_n 3, 1) := by decide +kernel
theorem dX10_fault_12 : decode cX10_fault 12 = .ok (.aload_n 0, 1) := by decide +kernel
theorem dX10_fault_13 : decode cX10_fault 13 = .ok (.getfield 90, 3) := by decide +kernel
theorem dX10_fault_16 : decode cX10_fault 16 = .ok (.if_icmp .ge 111, 3) := by decide +kernel
theorem dX10_fault_19 : decode cX10_fault 19 = .ok (.aload_n 0, 1) := by decide +kernel
theorem dX10_fault_20 : decode cX10_fault 20 = .ok (.getfield 19, 3) := by decide +kernel
theorem dX10_fault_23 : decode cX10_fault 23 = .ok (.iload_n 3, 1) := by decide +kernel
theorem dX10_fault_24 : decode cX10_fault 24 = .ok (.iaload, 1) := by decide +kernel
theorem dX10_fault_25 : decode cX10_fault 25 = .ok (.istore 4, 2) := by decide +kernel
theorem dX10_fault_27 : decode cX10_fault 27 = .ok (.iload 4, 2) := by decide +kernel
theorem dX10_fault_29 : decode cX10_fault 29 = .ok (.bipush 32, 2) := by decide +kernel
theorem dX10_fault_31 : decode cX10_fault 31 = .ok (.if_icmp .eq 90, 3) := by decide +kernel
theorem dX10_fault_34 : decode cX10_fault 34 = .ok (.iload_n 2, 1) := by decide +kernel
theorem dX10_fault_35 : decode cX10_fault 35 = .ok (.ifCond .eq 14, 3) := by decide +kernel
theorem dX10_fault_38 : decode cX10_fault 38 = .ok (.iload 4, 2) := by decide +kernel
theorem dX10_fault_40 : decode cX10_fault 40 = .ok (.invokestatic 93, 3) := by decide +kernel
theorem dX10_fault_43 : decode cX10_fault 43 = .ok (.ifCond .ne 22, 3) := by decide +kernel
theorem dX10_fault_46 : decode cX10_fault 46 = .ok (.goto 17, 3) := by decide +kernel
theorem dX10_fault_49 : decode cX10_fault 49 = .ok (.iload_n 1, 1) := by decide +kernel
theorem dX10_fault_50 : decode cX10_fault 50 = .ok (.ifCond .eq 13, 3) := by decide +kernel
theorem dX10_fault_53 : decode cX10_fault 53 = .ok (.iload 4, 2) := by decide +kernel
theorem dX10_fault_55 : decode cX10_fault 55 = .ok (.invokestatic 103, 3) := by decide +kernel
theorem dX10_fault_58 : decode cX10_fault 58 = .ok (.bipush (-9), 2) := by decide +kernel
theorem dX10_fault_60 : decode cX10_fault 60 = .ok (.if_icmp .ne 5, 3) := by decide +kernel
theorem dX10_fault_63 : decode cX10_fault 63 = .ok (.iload_n 3, 1) := by decide +kernel
theorem dX10_fault_64 : decode cX10_fault 64 = .ok (.ireturn, 1) := by decide +kernel
theorem dX10_fault_65 : decode cX10_fault 65 = .ok (.aload_n 0, 1) := by decide +kernel
theorem dX10_fault_66 : decode cX10_fault 66 = .ok (.getfield 22, 3) := by decide +kernel
theorem dX10_fault_69 : decode cX10_fault 69 = .ok (.aload_n 0, 1) := by decide +kernel
theorem dX10_fault_70 : decode cX10_fault 70 = .ok (.getfield 100, 3) := by decide +kernel
theorem dX10_fault_73 : decode cX10_fault 73 = .ok (.iload 4, 2) := by decide +kernel
theorem dX10_fault_75 : decode cX10_fault 75 = .ok (.iastore, 1) := by decide +kernel
theorem dX10_fault_76 : decode cX10_fault 76 = .ok (.aload_n 0, 1) := by decide +kernel
theorem dX10_fault_77 : decode cX10_fault 77 = .ok (.dup, 1) := by decide +kernel
theorem dX10_fault_78 : decode cX10_fault 78 = .ok (.getfield 100, 3) := by decide +kernel
theorem dX10_fault_81 : decode cX10_fault 81 = .ok (.iconst 1, 1) := by decide +kernel
theorem dX10_fault_82 : decode cX10_fault 82 = .ok (.iadd, 1) := by decide +kernel
theorem dX10_fault_83 : decode cX10_fault 83 = .ok (.putfield 100, 3) := by decide +kernel
theorem dX10_fault_86 : decode cX10_fault 86 = .ok (.iload_n 1, 1) := by decide +kernel
theorem dX10_fault_87 : decode cX10_fault 87 = .ok (.iload_n 2, 1) := by decide +kernel
theorem dX10_fault_88 : decode cX10_fault 88 = .ok (.ifCond .eq 7, 3) := by decide +kernel
theorem dX10_fault_91 : decode cX10_fault 91 = .ok (.iconst 0, 1) := by decide +kernel
theorem dX10_fault_92 : decode cX10_fault 92 = .ok (.goto 10, 3) := by decide +kernel
theorem dX10_fault_95 : decode cX10_fault 95 = .ok (.iload 4, 2) := by decide +kernel
theorem dX10_fault_97 : decode cX10_fault 97 = .ok (.invokestatic 103, 3) := by decide +kernel
theorem dX10_fault_100 : decode cX10_fault 100 = .ok (.iconst 1, 1) := by decide +kernel
theorem dX10_fault_101 : decode cX10_fault 101 = .ok (.isub, 1) := by decide +kernel
theorem dX10_fault_102 : decode cX10_fault 102 = .ok (.iadd, 1) := by decide +kernel
theorem dX10_fault_103 : decode cX10_fault 103 = .ok (.istore_n 1, 1) := by decide +kernel
theorem dX10_fault_104 : decode cX10_fault 104 = .ok (.iload_n 2, 1) := by decide +kernel
theorem dX10_fault_105 : decode cX10_fault 105 = .ok (.ifCond .ne 14, 3) := by decide +kernel
theorem dX10_fault_108 : decode cX10_fault 108 = .ok (.iload 4, 2) := by decide +kernel
theorem dX10_fault_110 : decode cX10_fault 110 = .ok (.bipush 58, 2) := by decide +kernel
theorem dX10_fault_112 : decode cX10_fault 112 = .ok (.if_icmp .ne 7, 3) := by decide +kernel
theorem dX10_fault_115 : decode cX10_fault 115 = .ok (.iconst 1, 1) := by decide +kernel
theorem dX10_fault_116 : decode cX10_fault 116 = .ok (.goto 4, 3) := by decide +kernel
theorem dX10_fault_119 : decode cX10_fault 119 = .ok (.iconst 0, 1) := by decide +kernel
theorem dX10_fault_120 : decode cX10_fault 120 = .ok (.istore_n 2, 1) := by decide +kernel
theorem dX10_fault_121 : decode cX10_fault 121 = .ok (.iinc 3 1, 3) := by decide +kernel
theorem dX10_fault_124 : decode cX10_fault 124 = .ok (.goto (-113), 3) := by decide +kernel
theorem dX10_fault_127 : decode cX10_fault 127 = .ok (.iload_n 1, 1) := by decide +kernel
theorem dX10_fault_128 : decode cX10_fault 128 = .ok (.ifCond .gt 7, 3) := by decide +kernel
theorem dX10_fault_131 : decode cX10_fault 131 = .ok (.iload_n 2, 1) := by decide +kernel
theorem dX10_fault_132 : decode cX10_fault 132 = .ok (.ifCond .eq 10, 3) := by decide +kernel
theorem dX10_fault_135 : decode cX10_fault 135 = .ok (.aload_n 0, 1) := by decide +kernel
theorem dX10_fault_136 : decode cX10_fault 136 = .ok (.getfield 90, 3) := by decide +kernel
theorem dX10_fault_139 : decode cX10_fault 139 = .ok (.goto 5, 3) := by decide +kernel
theorem dX10_fault_142 : decode cX10_fault 142 = .ok (.bipush (-9), 2) := by decide +kernel
theorem dX10_fault_144 : decode cX10_fault 144 = .ok (.ireturn, 1) := by decide +kernel
theorem dX10_sizeOf_0 : decode cX10_sizeOf 0 = .ok (.iconst 0, 1) := by decide +kernel
theorem dX10_sizeOf_1 : decode cX10_sizeOf 1 = .ok (.istore_n 2, 1) := by decide +kernel
theorem dX10_sizeOf_2 : decode cX10_sizeOf 2 = .ok (.iconst 0, 1) := by decide +kernel
theorem dX10_sizeOf_3 : decode cX10_sizeOf 3 = .ok (.istore_n 3, 1) := by decide +kernel
theorem dX10_sizeOf_4 : decode cX10_sizeOf 4 = .ok (.iload_n 3, 1) := by decide +kernel
theorem dX10_sizeOf_5 : decode cX10_sizeOf 5 = .ok (.aload_n 0, 1) := by decide +kernel
theorem dX10_sizeOf_6 : decode cX10_sizeOf 6 = .ok (.iload_n 1, 1) := by decide +kernel
theorem dX10_sizeOf_7 : decode cX10_sizeOf 7 = .ok (.invokevirtual 78, 3) := by decide +kernel
theorem dX10_sizeOf_10 : decode cX10_sizeOf 10 = .ok (.if_icmp .ge 39, 3) := by decide +kernel
theorem dX10_sizeOf_13 : decode cX10_sizeOf 13 = .ok (.iload_n 2, 1) := by decide +kernel
theorem dX10_sizeOf_14 : decode cX10_sizeOf 14 = .ok (.iload_n 3, 1) := by decide +kernel
theorem dX10_sizeOf_15 : decode cX10_sizeOf 15 = .ok (.ifCond .le 25, 3) := by decide +kernel
theorem dX10_sizeOf_18 : decode cX10_sizeOf 18 = .ok (.aload_n 0, 1) := by decide +kernel
theorem dX10_sizeOf_19 : decode cX10_sizeOf 19 = .ok (.getfield 7, 3) := by decide +kernel
theorem dX10_sizeOf_22 : decode cX10_sizeOf 22 = .ok (.iload_n 1, 1) := by decide +kernel
theorem dX10_sizeOf_23 : decode cX10_sizeOf 23 = .ok (.invokestatic 106, 3) := by decide +kernel
theorem dX10_sizeOf_26 : decode cX10_sizeOf 26 = .ok (.iload_n 3, 1) := by decide +kernel
theorem dX10_sizeOf_27 : decode cX10_sizeOf 27 = .ok (.iadd, 1) := by decide +kernel
theorem dX10_sizeOf_28 : decode cX10_sizeOf 28 = .ok (.iconst 1, 1) := by decide +kernel
theorem dX10_sizeOf_29 : decode cX10_sizeOf 29 = .ok (.isub, 1) := by decide +kernel
theorem dX10_sizeOf_30 : decode cX10_sizeOf 30 = .ok (.iaload, 1) := by decide +kernel
theorem dX10_sizeOf_31 : decode cX10_sizeOf 31 = .ok (.bipush 58, 2) := by decide +kernel
theorem dX10_sizeOf_33 : decode cX10_sizeOf 33 = .ok (.if_icmp .ne 7, 3) := by decide +kernel
theorem dX10_sizeOf_36 : decode cX10_sizeOf 36 = .ok (.iconst 0, 1) := by decide +kernel
theorem dX10_sizeOf_37 : decode cX10_sizeOf 37 = .ok (.goto 4, 3) := by decide +kernel
theorem dX10_sizeOf_40 : decode cX10_sizeOf 40 = .ok (.iconst 1, 1) := by decide +kernel
theorem dX10_sizeOf_41 : decode cX10_sizeOf 41 = .ok (.iadd, 1) := by decide +kernel
theorem dX10_sizeOf_42 : decode cX10_sizeOf 42 = .ok (.istore_n 2, 1) := by decide +kernel
theorem dX10_sizeOf_43 : decode cX10_sizeOf 43 = .ok (.iinc 3 1, 3) := by decide +kernel
theorem dX10_sizeOf_46 : decode cX10_sizeOf 46 = .ok (.goto (-42), 3) := by decide +kernel
theorem dX10_sizeOf_49 : decode cX10_sizeOf 49 = .ok (.iload_n 2, 1) := by decide +kernel
theorem dX10_sizeOf_50 : decode cX10_sizeOf 50 = .ok (.ireturn, 1) := by decide +kernel
theorem dX10_skip_0 : decode cX10_skip 0 = .ok (.iload_n 1, 1) := by decide +kernel
theorem dX10_skip_1 : decode cX10_skip 1 = .ok (.istore_n 2, 1) := by decide +kernel
theorem dX10_skip_2 : decode cX10_skip 2 = .ok (.iconst 1, 1) := by decide +kernel
theorem dX10_skip_3 : decode cX10_skip 3 = .ok (.istore_n 3, 1) := by decide +kernel
theorem dX10_skip_4 : decode cX10_skip 4 = .ok (.iload_n 3, 1) := by decide +kernel
theorem dX10_skip_5 : decode cX10_skip 5 = .ok (.ifCond .le 33, 3) := by decide +kernel
theorem dX10_skip_8 : decode cX10_skip 8 = .ok (.iload_n 3, 1) := by decide +kernel
theorem dX10_skip_9 : decode cX10_skip 9 = .ok (.aload_n 0, 1) := by decide +kernel
theorem dX10_skip_10 : decode cX10_skip 10 = .ok (.iload_n 2, 1) := by decide +kernel
theorem dX10_skip_11 : decode cX10_skip 11 = .ok (.iaload, 1) := by decide +kernel
theorem dX10_skip_12 : decode cX10_skip 12 = .ok (.invokestatic 103, 3) := by decide +kernel
theorem dX10_skip_15 : decode cX10_skip 15 = .ok (.iconst 1, 1) := by decide +kernel
theorem dX10_skip_16 : decode cX10_skip 16 = .ok (.isub, 1) := by decide +kernel
theorem dX10_skip_17 : decode cX10_skip 17 = .ok (.iadd, 1) := by decide +kernel
theorem dX10_skip_18 : decode cX10_skip 18 = .ok (.istore_n 3, 1) := by decide +kernel
theorem dX10_skip_19 : decode cX10_skip 19 = .ok (.iload_n 2, 1) := by decide +kernel
theorem dX10_skip_20 : decode cX10_skip 20 = .ok (.aload_n 0, 1) := by decide +kernel
theorem dX10_skip_21 : decode cX10_skip 21 = .ok (.iload_n 2, 1) := by decide +kernel
theorem dX10_skip_22 : decode cX10_skip 22 = .ok (.iaload, 1) := by decide +kernel
theorem dX10_skip_23 : decode cX10_skip 23 = .ok (.bipush 58, 2) := by decide +kernel
theorem dX10_skip_25 : decode cX10_skip 25 = .ok (.if_icmp .ne 7, 3) := by decide +kernel
theorem dX10_skip_28 : decode cX10_skip 28 = .ok (.iconst 2, 1) := by decide +kernel
theorem dX10_skip_29 : decode cX10_skip 29 = .ok (.goto 4, 3) := by decide +kernel
theorem dX10_skip_32 : decode cX10_skip 32 = .ok (.iconst 1, 1) := by decide +kernel
theorem dX10_skip_33 : decode cX10_skip 33 = .ok (.iadd, 1) := by decide +kernel
theorem dX10_skip_34 : decode cX10_skip 34 = .ok (.istore_n 2, 1) := by decide +kernel
theorem dX10_skip_35 : decode cX10_skip 35 = .ok (.goto (-31), 3) := by decide +kernel
theorem dX10_skip_38 : decode cX10_skip 38 = .ok (.iload_n 2, 1) := by decide +kernel
theorem dX10_skip_39 : decode cX10_skip 39 = .ok (.ireturn, 1) := by decide +kernel
theorem dX10_define_0 : decode cX10_define 0 = .ok (.iload_n 1, 1) := by decide +kernel
theorem dX10_define_1 : decode cX10_define 1 = .ok (.invokestatic 109, 3) := by decide +kernel
theorem dX10_define_4 : decode cX10_define 4 = .ok (.ifCond .ne 5, 3) := by decide +kernel
theorem dX10_define_7 : decode cX10_define 7 = .ok (.iconst (-1), 1) := by decide +kernel
theorem dX10_define_8 : decode cX10_define 8 = .ok (.ireturn, 1) := by decide +kernel
theorem dX10_define_9 : decode cX10_define 9 = .ok (.aload_n 0, 1) := by decide +kernel
theorem dX10_define_10 : decode cX10_define 10 = .ok (.invokevirtual 112, 3) := by decide +kernel
theorem dX10_define_13 : decode cX10_define 13 = .ok (.bipush (-9), 2) := by decide +kernel
theorem dX10_define_15 : decode cX10_define 15 = .ok (.if_icmp .eq 6, 3) := by decide +kernel
theorem dX10_define_18 : decode cX10_define 18 = .ok (.bipush (-2), 2) := by decide +kernel
theorem dX10_define_20 : decode cX10_define 20 = .ok (.ireturn, 1) := by decide +kernel
theorem dX10_define_21 : decode cX10_define 21 = .ok (.aload_n 0, 1) := by decide +kernel
theorem dX10_define_22 : decode cX10_define 22 = .ok (.invokevirtual 116, 3) := by decide +kernel
theorem dX10_define_25 : decode cX10_define 25 = .ok (.iconst 0, 1) := by decide +kernel
theorem dX10_define_26 : decode cX10_define 26 = .ok (.istore_n 2, 1) := by decide +kernel
theorem dX10_define_27 : decode cX10_define 27 = .ok (.iload_n 2, 1) := by decide +kernel
theorem dX10_define_28 : decode cX10_define 28 = .ok (.aload_n 0, 1) := by decide +kernel
theorem dX10_define_29 : decode cX10_define 29 = .ok (.getfield 100, 3) := by decide +kernel
theorem dX10_define_32 : decode cX10_define 32 = .ok (.if_icmp .ge 26, 3) := by decide +kernel
theorem dX10_define_35 : decode cX10_define 35 = .ok (.aload_n 0, 1) := by decide +kernel
theorem dX10_define_36 : decode cX10_define 36 = .ok (.getfield 7, 3) := by decide +kernel
theorem dX10_define_39 : decode cX10_define 39 = .ok (.iload_n 1, 1) := by decide +kernel
theorem dX10_define_40 : decode cX10_define 40 = .ok (.invokestatic 106, 3) := by decide +kernel
theorem dX10_define_43 : decode cX10_define 43 = .ok (.iload_n 2, 1) := by decide +kernel
theorem dX10_define_44 : decode cX10_define 44 = .ok (.iadd, 1) := by decide +kernel
theorem dX10_define_45 : decode cX10_define 45 = .ok (.aload_n 0, 1) := by decide +kernel
theorem dX10_define_46 : decode cX10_define 46 = .ok (.getfield 22, 3) := by decide +kernel
theorem dX10_define_49 : decode cX10_define 49 = .ok (.iload_n 2, 1) := by decide +kernel
theorem dX10_define_50 : decode cX10_define 50 = .ok (.iaload, 1) := by decide +kernel
theorem dX10_define_51 : decode cX10_define 51 = .ok (.iastore, 1) := by decide +kernel
theorem dX10_define_52 : decode cX10_define 52 = .ok (.iinc 2 1, 3) := by decide +kernel
theorem dX10_define_55 : decode cX10_define 55 = .ok (.goto (-28), 3) := by decide +kernel
theorem dX10_define_58 : decode cX10_define 58 = .ok (.aload_n 0, 1) := by decide +kernel
theorem dX10_define_59 : decode cX10_define 59 = .ok (.getfield 7, 3) := by decide +kernel
theorem dX10_define_62 : decode cX10_define 62 = .ok (.iconst 1, 1) := by decide +kernel
theorem dX10_define_63 : decode cX10_define 63 = .ok (.sipush 250, 3) := by decide +kernel
theorem dX10_define_66 : decode cX10_define 66 = .ok (.iload_n 1, 1) := by decide +kernel
theorem dX10_define_67 : decode cX10_define 67 = .ok (.imul, 1) := by decide +kernel
theorem dX10_define_68 : decode cX10_define 68 = .ok (.iadd, 1) := by decide +kernel
theorem dX10_define_69 : decode cX10_define 69 = .ok (.aload_n 0, 1) := by decide +kernel
theorem dX10_define_70 : decode cX10_define 70 = .ok (.getfield 100, 3) := by decide +kernel
theorem dX10_define_73 : decode cX10_define 73 = .ok (.iastore, 1) := by decide +kernel
theorem dX10_define_74 : decode cX10_define 74 = .ok (.aload_n 0, 1) := by decide +kernel
theorem dX10_define_75 : decode cX10_define 75 = .ok (.iload_n 1, 1) := by decide +kernel
theorem dX10_define_76 : decode cX10_define 76 = .ok (.invokevirtual 119, 3) := by decide +kernel
theorem dX10_define_79 : decode cX10_define 79 = .ok (.ireturn, 1) := by decide +kernel
theorem dX10_undefine_0 : decode cX10_undefine 0 = .ok (.iload_n 1, 1) := by decide +kernel
theorem dX10_undefine_1 : decode cX10_undefine 1 = .ok (.invokestatic 109, 3) := by decide +kernel
theorem dX10_undefine_4 : decode cX10_undefine 4 = .ok (.ifCond .ne 5, 3) := by decide +kernel
theorem dX10_undefine_7 : decode cX10_undefine 7 = .ok (.iconst (-1), 1) := by decide +kernel
theorem dX10_undefine_8 : decode cX10_undefine 8 = .ok (.ireturn, 1) := by decide +kernel
theorem dX10_undefine_9 : decode cX10_undefine 9 = .ok (.aload_n 0, 1) := by decide +kernel
theorem dX10_undefine_10 : decode cX10_undefine 10 = .ok (.iload_n 1, 1) := by decide +kernel
theorem dX10_undefine_11 : decode cX10_undefine 11 = .ok (.invokevirtual 122, 3) := by decide +kernel
theorem dX10_undefine_14 : decode cX10_undefine 14 = .ok (.ifCond .ne 6, 3) := by decide +kernel
theorem dX10_undefine_17 : decode cX10_undefine 17 = .ok (.bipush (-2), 2) := by decide +kernel
theorem dX10_undefine_19 : decode cX10_undefine 19 = .ok (.ireturn, 1) := by decide +kernel
theorem dX10_undefine_20 : decode cX10_undefine 20 = .ok (.aload_n 0, 1) := by decide +kernel
theorem dX10_undefine_21 : decode cX10_undefine 21 = .ok (.iload_n 1, 1) := by decide +kernel
theorem dX10_undefine_22 : decode cX10_undefine 22 = .ok (.invokevirtual 119, 3) := by decide +kernel
theorem dX10_undefine_25 : decode cX10_undefine 25 = .ok (.istore_n 2, 1) := by decide +kernel
theorem dX10_undefine_26 : decode cX10_undefine 26 = .ok (.aload_n 0, 1) := by decide +kernel
theorem dX10_undefine_27 : decode cX10_undefine 27 = .ok (.invokevirtual 116, 3) := by decide +kernel
theorem dX10_undefine_30 : decode cX10_undefine 30 = .ok (.aload_n 0, 1) := by decide +kernel
theorem dX10_undefine_31 : decode cX10_undefine 31 = .ok (.getfield 7, 3) := by decide +kernel
theorem dX10_undefine_34 : decode cX10_undefine 34 = .ok (.iconst 1, 1) := by decide +kernel
theorem dX10_undefine_35 : decode cX10_undefine 35 = .ok (.sipush 250, 3) := by decide +kernel
theorem dX10_undefine_38 : decode cX10_undefine 38 = .ok (.iload_n 1, 1) := by decide +kernel
theorem dX10_undefine_39 : decode cX10_undefine 39 = .ok (.imul, 1) := by decide +kernel
theorem dX10_undefine_40 : decode cX10_undefine 40 = .ok (.iadd, 1) := by decide +kernel
theorem dX10_undefine_41 : decode cX10_undefine 41 = .ok (.iconst 0, 1) := by decide +kernel
theorem dX10_undefine_42 : decode cX10_undefine 42 = .ok (.iastore, 1) := by decide +kernel
theorem dX10_undefine_43 : decode cX10_undefine 43 = .ok (.iload_n 2, 1) := by decide +kernel
theorem dX10_undefine_44 : decode cX10_undefine 44 = .ok (.ireturn, 1) := by decide +kernel
theorem dX10_setModulus_0 : decode cX10_setModulus 0 = .ok (.iload_n 1, 1) := by decide +kernel
theorem dX10_setModulus_1 : decode cX10_setModulus 1 = .ok (.iconst 2, 1) := by decide +kernel
theorem dX10_setModulus_2 : decode cX10_setModulus 2 = .ok (.bipush 10, 2) := by decide +kernel
theorem dX10_setModulus_4 : decode cX10_setModulus 4 = .ok (.invokestatic 74, 3) := by decide +kernel
theorem dX10_setModulus_7 : decode cX10_setModulus 7 = .ok (.ifCond .ne 5, 3) := by decide +kernel
theorem dX10_setModulus_10 : decode cX10_setModulus 10 = .ok (.iconst (-1), 1) := by decide +kernel
theorem dX10_setModulus_11 : decode cX10_setModulus 11 = .ok (.ireturn, 1) := by decide +kernel
theorem dX10_setModulus_12 : decode cX10_setModulus 12 = .ok (.aload_n 0, 1) := by decide +kernel
theorem dX10_setModulus_13 : decode cX10_setModulus 13 = .ok (.invokevirtual 116, 3) := by decide +kernel
theorem dX10_setModulus_16 : decode cX10_setModulus 16 = .ok (.aload_n 0, 1) := by decide +kernel
theorem dX10_setModulus_17 : decode cX10_setModulus 17 = .ok (.getfield 7, 3) := by decide +kernel
theorem dX10_setModulus_20 : decode cX10_setModulus 20 = .ok (.iconst 0, 1) := by decide +kernel
theorem dX10_setModulus_21 : decode cX10_setModulus 21 = .ok (.iaload, 1) := by decide +kernel
theorem dX10_setModulus_22 : decode cX10_setModulus 22 = .ok (.istore_n 2, 1) := by decide +kernel
theorem dX10_setModulus_23 : decode cX10_setModulus 23 = .ok (.aload_n 0, 1) := by decide +kernel
theorem dX10_setModulus_24 : decode cX10_setModulus 24 = .ok (.getfield 7, 3) := by decide +kernel
theorem dX10_setModulus_27 : decode cX10_setModulus 27 = .ok (.iconst 0, 1) := by decide +kernel
theorem dX10_setModulus_28 : decode cX10_setModulus 28 = .ok (.iload_n 1, 1) := by decide +kernel
theorem dX10_setModulus_29 : decode cX10_setModulus 29 = .ok (.iastore, 1) := by decide +kernel
theorem dX10_setModulus_30 : decode cX10_setModulus 30 = .ok (.iload_n 2, 1) := by decide +kernel
theorem dX10_setModulus_31 : decode cX10_setModulus 31 = .ok (.ireturn, 1) := by decide +kernel
theorem dX10_occurrences_0 : decode cX10_occurrences 0 = .ok (.iconst 0, 1) := by decide +kernel
theorem dX10_occurrences_1 : decode cX10_occurrences 1 = .ok (.istore_n 3, 1) := by decide +kernel
theorem dX10_occurrences_2 : decode cX10_occurrences 2 = .ok (.iconst 0, 1) := by decide +kernel
theorem dX10_occurrences_3 : decode cX10_occurrences 3 = .ok (.istore 4, 2) := by decide +kernel
theorem dX10_occurrences_5 : decode cX10_occurrences 5 = .ok (.iload 4, 2) := by decide +kernel
theorem dX10_occurrences_7 : decode cX10_occurrences 7 = .ok (.aload_n 0, 1) := by decide +kernel
theorem dX10_occurrences_8 : decode cX10_occurrences 8 = .ok (.iload_n 1, 1) := by decide +kernel
theorem dX10_occurrences_9 : decode cX10_occurrences 9 = .ok (.invokevirtual 78, 3) := by decide +kernel
theorem dX10_occurrences_12 : decode cX10_occurrences 12 = .ok (.if_icmp .ge 36, 3) := by decide +kernel
theorem dX10_occurrences_15 : decode cX10_occurrences 15 = .ok (.iload_n 3, 1) := by decide +kernel
theorem dX10_occurrences_16 : decode cX10_occurrences 16 = .ok (.aload_n 0, 1) := by decide +kernel
theorem dX10_occurrences_17 : decode cX10_occurrences 17 = .ok (.getfield 7, 3) := by decide +kernel
theorem dX10_occurrences_20 : decode cX10_occurrences 20 = .ok (.iload_n 1, 1) := by decide +kernel
theorem dX10_occurrences_21 : decode cX10_occurrences 21 = .ok (.invokestatic 106, 3) := by decide +kernel
theorem dX10_occurrences_24 : decode cX10_occurrences 24 = .ok (.iload 4, 2) := by decide +kernel
theorem dX10_occurrences_26 : decode cX10_occurrences 26 = .ok (.iadd, 1) := by decide +kernel
theorem dX10_occurrences_27 : decode cX10_occurrences 27 = .ok (.iaload, 1) := by decide +kernel
theorem dX10_occurrences_28 : decode cX10_occurrences 28 = .ok (.bipush 65, 2) := by decide +kernel
theorem dX10_occurrences_30 : decode cX10_occurrences 30 = .ok (.iload_n 2, 1) := by decide +kernel
theorem dX10_occurrences_31 : decode cX10_occurrences 31 = .ok (.iadd, 1) := by decide +kernel
theorem dX10_occurrences_32 : decode cX10_occurrences 32 = .ok (.if_icmp .ne 7, 3) := by decide +kernel
theorem dX10_occurrences_35 : decode cX10_occurrences 35 = .ok (.iconst 1, 1) := by decide +kernel
theorem dX10_occurrences_36 : decode cX10_occurrences 36 = .ok (.goto 4, 3) := by decide +kernel
theorem dX10_occurrences_39 : decode cX10_occurrences 39 = .ok (.iconst 0, 1) := by decide +kernel
theorem dX10_occurrences_40 : decode cX10_occurrences 40 = .ok (.iadd, 1) := by decide +kernel
theorem dX10_occurrences_41 : decode cX10_occurrences 41 = .ok (.istore_n 3, 1) := by decide +kernel
theorem dX10_occurrences_42 : decode cX10_occurrences 42 = .ok (.iinc 4 1, 3) := by decide +kernel
theorem dX10_occurrences_45 : decode cX10_occurrences 45 = .ok (.goto (-40), 3) := by decide +kernel
theorem dX10_occurrences_48 : decode cX10_occurrences 48 = .ok (.iload_n 3, 1) := by decide +kernel
theorem dX10_occurrences_49 : decode cX10_occurrences 49 = .ok (.ireturn, 1) := by decide +kernel
theorem dX10_insert_0 : decode cX10_insert 0 = .ok (.iload_n 1, 1) := by decide +kernel
theorem dX10_insert_1 : decode cX10_insert 1 = .ok (.invokestatic 109, 3) := by decide +kernel
theorem dX10_insert_4 : decode cX10_insert 4 = .ok (.ifCond .eq 10, 3) := by decide +kernel
theorem dX10_insert_7 : decode cX10_insert 7 = .ok (.iload_n 2, 1) := by decide +kernel
theorem dX10_insert_8 : decode cX10_insert 8 = .ok (.invokestatic 109, 3) := by decide +kernel
theorem dX10_insert_11 : decode cX10_insert 11 = .ok (.ifCond .ne 5, 3) := by decide +kernel
theorem dX10_insert_14 : decode cX10_insert 14 = .ok (.iconst (-1), 1) := by decide +kernel
theorem dX10_insert_15 : decode cX10_insert 15 = .ok (.ireturn, 1) := by decide +kernel
theorem dX10_insert_16 : decode cX10_insert 16 = .ok (.aload_n 0, 1) := by decide +kernel
theorem dX10_insert_17 : decode cX10_insert 17 = .ok (.iload_n 1, 1) := by decide +kernel
theorem dX10_insert_18 : decode cX10_insert 18 = .ok (.invokevirtual 122, 3) := by decide +kernel
theorem dX10_insert_21 : decode cX10_insert 21 = .ok (.ifCond .eq 11, 3) := by decide +kernel
theorem dX10_insert_24 : decode cX10_insert 24 = .ok (.aload_n 0, 1) := by decide +kernel
theorem dX10_insert_25 : decode cX10_insert 25 = .ok (.iload_n 2, 1) := by decide +kernel
theorem dX10_insert_26 : decode cX10_insert 26 = .ok (.invokevirtual 122, 3) := by decide +kernel
theorem dX10_insert_29 : decode cX10_insert 29 = .ok (.ifCond .ne 6, 3) := by decide +kernel
theorem dX10_insert_32 : decode cX10_insert 32 = .ok (.bipush (-2), 2) := by decide +kernel
theorem dX10_insert_34 : decode cX10_insert 34 = .ok (.ireturn, 1) := by decide +kernel
theorem dX10_insert_35 : decode cX10_insert 35 = .ok (.aload_n 0, 1) := by decide +kernel
theorem dX10_insert_36 : decode cX10_insert 36 = .ok (.iload_n 1, 1) := by decide +kernel
theorem dX10_insert_37 : decode cX10_insert 37 = .ok (.invokevirtual 119, 3) := by decide +kernel
theorem dX10_insert_40 : decode cX10_insert 40 = .ok (.aload_n 0, 1) := by decide +kernel
theorem dX10_insert_41 : decode cX10_insert 41 = .ok (.iload_n 1, 1) := by decide +kernel
theorem dX10_insert_42 : decode cX10_insert 42 = .ok (.iload_n 2, 1) := by decide +kernel
theorem dX10_insert_43 : decode cX10_insert 43 = .ok (.invokevirtual 125, 3) := by decide +kernel
theorem dX10_insert_46 : decode cX10_insert 46 = .ok (.aload_n 0, 1) := by decide +kernel
theorem dX10_insert_47 : decode cX10_insert 47 = .ok (.iload_n 2, 1) := by decide +kernel
theorem dX10_insert_48 : decode cX10_insert 48 = .ok (.invokevirtual 119, 3) := by decide +kernel
theorem dX10_insert_51 : decode cX10_insert 51 = .ok (.iconst 1, 1) := by decide +kernel
theorem dX10_insert_52 : decode cX10_insert 52 = .ok (.isub, 1) := by decide +kernel
theorem dX10_insert_53 : decode cX10_insert 53 = .ok (.imul, 1) := by decide +kernel
theorem dX10_insert_54 : decode cX10_insert 54 = .ok (.iadd, 1) := by decide +kernel
theorem dX10_insert_55 : decode cX10_insert 55 = .ok (.bipush 120, 2) := by decide +kernel
theorem dX10_insert_57 : decode cX10_insert 57 = .ok (.if_icmp .le 6, 3) := by decide +kernel
theorem dX10_insert_60 : decode cX10_insert 60 = .ok (.bipush (-3), 2) := by decide +kernel
theorem dX10_insert_62 : decode cX10_insert 62 = .ok (.ireturn, 1) := by decide +kernel
theorem dX10_insert_63 : decode cX10_insert 63 = .ok (.aload_n 0, 1) := by decide +kernel
theorem dX10_insert_64 : decode cX10_insert 64 = .ok (.invokevirtual 116, 3) := by decide +kernel
theorem dX10_insert_67 : decode cX10_insert 67 = .ok (.iconst 0, 1) := by decide +kernel
theorem dX10_insert_68 : decode cX10_insert 68 = .ok (.istore_n 3, 1) := by decide +kernel
theorem dX10_insert_69 : decode cX10_insert 69 = .ok (.iconst 0, 1) := by decide +kernel
theorem dX10_insert_70 : decode cX10_insert 70 = .ok (.istore 4, 2) := by decide +kernel
theorem dX10_insert_72 : decode cX10_insert 72 = .ok (.iload 4, 2) := by decide +kernel
theorem dX10_insert_74 : decode cX10_insert 74 = .ok (.aload_n 0, 1) := by decide +kernel
theorem dX10_insert_75 : decode cX10_insert 75 = .ok (.iload_n 1, 1) := by decide +kernel
theorem dX10_insert_76 : decode cX10_insert 76 = .ok (.invokevirtual 78, 3) := by decide +kernel
theorem dX10_insert_79 : decode cX10_insert 79 = .ok (.if_icmp .ge 86, 3) := by decide +kernel
theorem dX10_insert_82 : decode cX10_insert 82 = .ok (.aload_n 0, 1) := by decide +kernel
theorem dX10_insert_83 : decode cX10_insert 83 = .ok (.getfield 7, 3) := by decide +kernel
theorem dX10_insert_86 : decode cX10_insert 86 = .ok (.iload_n 1, 1) := by decide +kernel
theorem dX10_insert_87 : decode cX10_insert 87 = .ok (.invokestatic 106, 3) := by decide +kernel
theorem dX10_insert_90 : decode cX10_insert 90 = .ok (.iload 4, 2) := by decide +kernel
theorem dX10_insert_92 : decode cX10_insert 92 = .ok (.iadd, 1) := by decide +kernel
theorem dX10_insert_93 : decode cX10_insert 93 = .ok (.iaload, 1) := by decide +kernel
theorem dX10_insert_94 : decode cX10_insert 94 = .ok (.istore 5, 2) := by decide +kernel
theorem dX10_insert_96 : decode cX10_insert 96 = .ok (.iload 5, 2) := by decide +kernel
theorem dX10_insert_98 : decode cX10_insert 98 = .ok (.bipush 65, 2) := by decide +kernel
theorem dX10_insert_100 : decode cX10_insert 100 = .ok (.iload_n 2, 1) := by decide +kernel
theorem dX10_insert_101 : decode cX10_insert 101 = .ok (.iadd, 1) := by decide +kernel
theorem dX10_insert_102 : decode cX10_insert 102 = .ok (.if_icmp .ne 46, 3) := by decide +kernel
theorem dX10_insert_105 : decode cX10_insert 105 = .ok (.iconst 0, 1) := by decide +kernel
theorem dX10_insert_106 : decode cX10_insert 106 = .ok (.istore 6, 2) := by decide +kernel
theorem dX10_insert_108 : decode cX10_insert 108 = .ok (.iload 6, 2) := by decide +kernel
theorem dX10_insert_110 : decode cX10_insert 110 = .ok (.aload_n 0, 1) := by decide +kernel
theorem dX10_insert_111 : decode cX10_insert 111 = .ok (.iload_n 2, 1) := by decide +kernel
theorem dX10_insert_112 : decode cX10_insert 112 = .ok (.invokevirtual 78, 3) := by decide +kernel
theorem dX10_insert_115 : decode cX10_insert 115 = .ok (.if_icmp .ge 30, 3) := by decide +kernel
theorem dX10_insert_118 : decode cX10_insert 118 = .ok (.aload_n 0, 1) := by decide +kernel
theorem dX10_insert_119 : decode cX10_insert 119 = .ok (.getfield 25, 3) := by decide +kernel
theorem dX10_insert_122 : decode cX10_insert 122 = .ok (.iload_n 3, 1) := by decide +kernel
theorem dX10_insert_123 : decode cX10_insert 123 = .ok (.aload_n 0, 1) := by decide +kernel
theorem dX10_insert_124 : decode cX10_insert 124 = .ok (.getfield 7, 3) := by decide +kernel
theorem dX10_insert_127 : decode cX10_insert 127 = .ok (.iload_n 2, 1) := by decide +kernel
theorem dX10_insert_128 : decode cX10_insert 128 = .ok (.invokestatic 106, 3) := by decide +kernel
theorem dX10_insert_131 : decode cX10_insert 131 = .ok (.iload 6, 2) := by decide +kernel
theorem dX10_insert_133 : decode cX10_insert 133 = .ok (.iadd, 1) := by decide +kernel
theorem dX10_insert_134 : decode cX10_insert 134 = .ok (.iaload, 1) := by decide +kernel
theorem dX10_insert_135 : decode cX10_insert 135 = .ok (.iastore, 1) := by decide +kernel
theorem dX10_insert_136 : decode cX10_insert 136 = .ok (.iinc 3 1, 3) := by decide +kernel
theorem dX10_insert_139 : decode cX10_insert 139 = .ok (.iinc 6 1, 3) := by decide +kernel
theorem dX10_insert_142 : decode cX10_insert 142 = .ok (.goto (-34), 3) := by decide +kernel
theorem dX10_insert_145 : decode cX10_insert 145 = .ok (.goto 14, 3) := by decide +kernel
theorem dX10_insert_148 : decode cX10_insert 148 = .ok (.aload_n 0, 1) := by decide +kernel
theorem dX10_insert_149 : decode cX10_insert 149 = .ok (.getfield 25, 3) := by decide +kernel
theorem dX10_insert_152 : decode cX10_insert 152 = .ok (.iload_n 3, 1) := by decide +kernel
theorem dX10_insert_153 : decode cX10_insert 153 = .ok (.iload 5, 2) := by decide +kernel
theorem dX10_insert_155 : decode cX10_insert 155 = .ok (.iastore, 1) := by decide +kernel
theorem dX10_insert_156 : decode cX10_insert 156 = .ok (.iinc 3 1, 3) := by decide +kernel
theorem dX10_insert_159 : decode cX10_insert 159 = .ok (.iinc 4 1, 3) := by decide +kernel
theorem dX10_insert_162 : decode cX10_insert 162 = .ok (.goto (-90), 3) := by decide +kernel
theorem dX10_insert_165 : decode cX10_insert 165 = .ok (.iconst 0, 1) := by decide +kernel
theorem dX10_insert_166 : decode cX10_insert 166 = .ok (.istore 4, 2) := by decide +kernel
theorem dX10_insert_168 : decode cX10_insert 168 = .ok (.iload 4, 2) := by decide +kernel
theorem dX10_insert_170 : decode cX10_insert 170 = .ok (.iload_n 3, 1) := by decide +kernel
theorem dX10_insert_171 : decode cX10_insert 171 = .ok (.if_icmp .ge 28, 3) := by decide +kernel
theorem dX10_insert_174 : decode cX10_insert 174 = .ok (.aload_n 0, 1) := by decide +kernel
theorem dX10_insert_175 : decode cX10_insert 175 = .ok (.getfield 7, 3) := by decide +kernel
theorem dX10_insert_178 : decode cX10_insert 178 = .ok (.iload_n 1, 1) := by decide +kernel
theorem dX10_insert_179 : decode cX10_insert 179 = .ok (.invokestatic 106, 3) := by decide +kernel
theorem dX10_insert_182 : decode cX10_insert 182 = .ok (.iload 4, 2) := by decide +kernel
theorem dX10_insert_184 : decode cX10_insert 184 = .ok (.iadd, 1) := by decide +kernel
theorem dX10_insert_185 : decode cX10_insert 185 = .ok (.aload_n 0, 1) := by decide +kernel
theorem dX10_insert_186 : decode cX10_insert 186 = .ok (.getfield 25, 3) := by decide +kernel
theorem dX10_insert_189 : decode cX10_insert 189 = .ok (.iload 4, 2) := by decide +kernel
theorem dX10_insert_191 : decode cX10_insert 191 = .ok (.iaload, 1) := by decide +kernel
theorem dX10_insert_192 : decode cX10_insert 192 = .ok (.iastore, 1) := by decide +kernel
theorem dX10_insert_193 : decode cX10_insert 193 = .ok (.iinc 4 1, 3) := by decide +kernel
theorem dX10_insert_196 : decode cX10_insert 196 = .ok (.goto (-28), 3) := by decide +kernel
theorem dX10_insert_199 : decode cX10_insert 199 = .ok (.aload_n 0, 1) := by decide +kernel
theorem dX10_insert_200 : decode cX10_insert 200 = .ok (.getfield 7, 3) := by decide +kernel
theorem dX10_insert_203 : decode cX10_insert 203 = .ok (.iconst 1, 1) := by decide +kernel
theorem dX10_insert_204 : decode cX10_insert 204 = .ok (.sipush 250, 3) := by decide +kernel
theorem dX10_insert_207 : decode cX10_insert 207 = .ok (.iload_n 1, 1) := by decide +kernel
theorem dX10_insert_208 : decode cX10_insert 208 = .ok (.imul, 1) := by decide +kernel
theorem dX10_insert_209 : decode cX10_insert 209 = .ok (.iadd, 1) := by decide +kernel
theorem dX10_insert_210 : decode cX10_insert 210 = .ok (.iload_n 3, 1) := by decide +kernel
theorem dX10_insert_211 : decode cX10_insert 211 = .ok (.iastore, 1) := by decide +kernel
theorem dX10_insert_212 : decode cX10_insert 212 = .ok (.aload_n 0, 1) := by decide +kernel
theorem dX10_insert_213 : decode cX10_insert 213 = .ok (.iload_n 1, 1) := by decide +kernel
theorem dX10_insert_214 : decode cX10_insert 214 = .ok (.invokevirtual 119, 3) := by decide +kernel
theorem dX10_insert_217 : decode cX10_insert 217 = .ok (.ireturn, 1) := by decide +kernel
theorem dX10_lay_0 : decode cX10_lay 0 = .ok (.aload_n 0, 1) := by decide +kernel
theorem dX10_lay_1 : decode cX10_lay 1 = .ok (.getfield 25, 3) := by decide +kernel
theorem dX10_lay_4 : decode cX10_lay 4 = .ok (.aload_n 0, 1) := by decide +kernel
theorem dX10_lay_5 : decode cX10_lay 5 = .ok (.getfield 129, 3) := by decide +kernel
theorem dX10_lay_8 : decode cX10_lay 8 = .ok (.iload_n 1, 1) := by decide +kernel
theorem dX10_lay_9 : decode cX10_lay 9 = .ok (.iastore, 1) := by decide +kernel
theorem dX10_lay_10 : decode cX10_lay 10 = .ok (.aload_n 0, 1) := by decide +kernel
theorem dX10_lay_11 : decode cX10_lay 11 = .ok (.dup, 1) := by decide +kernel
theorem dX10_lay_12 : decode cX10_lay 12 = .ok (.getfield 129, 3) := by decide +kernel
theorem dX10_lay_15 : decode cX10_lay 15 = .ok (.iconst 1, 1) := by decide +kernel
theorem dX10_lay_16 : decode cX10_lay 16 = .ok (.iadd, 1) := by decide +kernel
theorem dX10_lay_17 : decode cX10_lay 17 = .ok (.putfield 129, 3) := by decide +kernel
theorem dX10_lay_20 : decode cX10_lay 20 = .ok (.return_, 1) := by decide +kernel
theorem dX10_layPart_0 : decode cX10_layPart 0 = .ok (.iload_n 1, 1) := by decide +kernel
theorem dX10_layPart_1 : decode cX10_layPart 1 = .ok (.istore_n 3, 1) := by decide +kernel
theorem dX10_layPart_2 : decode cX10_layPart 2 = .ok (.iload_n 3, 1) := by decide +kernel
theorem dX10_layPart_3 : decode cX10_layPart 3 = .ok (.iload_n 2, 1) := by decide +kernel
theorem dX10_layPart_4 : decode cX10_layPart 4 = .ok (.if_icmp .ge 19, 3) := by decide +kernel
theorem dX10_layPart_7 : decode cX10_layPart 7 = .ok (.aload_n 0, 1) := by decide +kernel
theorem dX10_layPart_8 : decode cX10_layPart 8 = .ok (.aload_n 0, 1) := by decide +kernel
theorem dX10_layPart_9 : decode cX10_layPart 9 = .ok (.getfield 28, 3) := by decide +kernel
theorem dX10_layPart_12 : decode cX10_layPart 12 = .ok (.iload_n 3, 1) := by decide +kernel
theorem dX10_layPart_13 : decode cX10_layPart 13 = .ok (.iaload, 1) := by decide +kernel
theorem dX10_layPart_14 : decode cX10_layPart 14 = .ok (.invokevirtual 132, 3) := by decide +kernel
theorem dX10_layPart_17 : decode cX10_layPart 17 = .ok (.iinc 3 1, 3) := by decide +kernel
theorem dX10_layPart_20 : decode cX10_layPart 20 = .ok (.goto (-18), 3) := by decide +kernel
theorem dX10_layPart_23 : decode cX10_layPart 23 = .ok (.return_, 1) := by decide +kernel
theorem dX10_isSamePart_0 : decode cX10_isSamePart 0 = .ok (.iconst 0, 1) := by decide +kernel
theorem dX10_isSamePart_1 : decode cX10_isSamePart 1 = .ok (.istore 4, 2) := by decide +kernel
theorem dX10_isSamePart_3 : decode cX10_isSamePart 3 = .ok (.iload 4, 2) := by decide +kernel
theorem dX10_isSamePart_5 : decode cX10_isSamePart 5 = .ok (.iload_n 3, 1) := by decide +kernel
theorem dX10_isSamePart_6 : decode cX10_isSamePart 6 = .ok (.if_icmp .ge 32, 3) := by decide +kernel
theorem dX10_isSamePart_9 : decode cX10_isSamePart 9 = .ok (.aload_n 0, 1) := by decide +kernel
theorem dX10_isSamePart_10 : decode cX10_isSamePart 10 = .ok (.getfield 28, 3) := by decide +kernel
theorem dX10_isSamePart_13 : decode cX10_isSamePart 13 = .ok (.iload_n 1, 1) := by decide +kernel
theorem dX10_isSamePart_14 : decode cX10_isSamePart 14 = .ok (.iload 4, 2) := by decide +kernel
theorem dX10_isSamePart_16 : decode cX10_isSamePart 16 = .ok (.iadd, 1) := by decide +kernel
theorem dX10_isSamePart_17 : decode cX10_isSamePart 17 = .ok (.iaload, 1) := by decide +kernel
theorem dX10_isSamePart_18 : decode cX10_isSamePart 18 = .ok (.aload_n 0, 1) := by decide +kernel
theorem dX10_isSamePart_19 : decode cX10_isSamePart 19 = .ok (.getfield 28, 3) := by decide +kernel
theorem dX10_isSamePart_22 : decode cX10_isSamePart 22 = .ok (.iload_n 2, 1) := by decide +kernel
theorem dX10_isSamePart_23 : decode cX10_isSamePart 23 = .ok (.iload 4, 2) := by decide +kernel
theorem dX10_isSamePart_25 : decode cX10_isSamePart 25 = .ok (.iadd, 1) := by decide +kernel
theorem dX10_isSamePart_26 : decode cX10_isSamePart 26 = .ok (.iaload, 1) := by decide +kernel
theorem dX10_isSamePart_27 : decode cX10_isSamePart 27 = .ok (.if_icmp .eq 5, 3) := by decide +kernel
theorem dX10_isSamePart_30 : decode cX10_isSamePart 30 = .ok (.iconst 0, 1) := by decide +kernel
theorem dX10_isSamePart_31 : decode cX10_isSamePart 31 = .ok (.ireturn, 1) := by decide +kernel
theorem dX10_isSamePart_32 : decode cX10_isSamePart 32 = .ok (.iinc 4 1, 3) := by decide +kernel
theorem dX10_isSamePart_35 : decode cX10_isSamePart 35 = .ok (.goto (-32), 3) := by decide +kernel
theorem dX10_isSamePart_38 : decode cX10_isSamePart 38 = .ok (.iconst 1, 1) := by decide +kernel
theorem dX10_isSamePart_39 : decode cX10_isSamePart 39 = .ok (.ireturn, 1) := by decide +kernel
theorem dX10_layTail_0 : decode cX10_layTail 0 = .ok (.aload_n 0, 1) := by decide +kernel
theorem dX10_layTail_1 : decode cX10_layTail 1 = .ok (.getfield 28, 3) := by decide +kernel
theorem dX10_layTail_4 : decode cX10_layTail 4 = .ok (.iload_n 1, 1) := by decide +kernel
theorem dX10_layTail_5 : decode cX10_layTail 5 = .ok (.iconst 1, 1) := by decide +kernel
theorem dX10_layTail_6 : decode cX10_layTail 6 = .ok (.iadd, 1) := by decide +kernel
theorem dX10_layTail_7 : decode cX10_layTail 7 = .ok (.iaload, 1) := by decide +kernel
theorem dX10_layTail_8 : decode cX10_layTail 8 = .ok (.istore_n 2, 1) := by decide +kernel
theorem dX10_layTail_9 : decode cX10_layTail 9 = .ok (.aload_n 0, 1) := by decide +kernel
theorem dX10_layTail_10 : decode cX10_layTail 10 = .ok (.getfield 28, 3) := by decide +kernel
theorem dX10_layTail_13 : decode cX10_layTail 13 = .ok (.iload_n 1, 1) := by decide +kernel
theorem dX10_layTail_14 : decode cX10_layTail 14 = .ok (.invokestatic 136, 3) := by decide +kernel
theorem dX10_layTail_17 : decode cX10_layTail 17 = .ok (.istore_n 3, 1) := by decide +kernel
theorem dX10_layTail_18 : decode cX10_layTail 18 = .ok (.iload_n 1, 1) := by decide +kernel
theorem dX10_layTail_19 : decode cX10_layTail 19 = .ok (.iconst 2, 1) := by decide +kernel
theorem dX10_layTail_20 : decode cX10_layTail 20 = .ok (.iadd, 1) := by decide +kernel
theorem dX10_layTail_21 : decode cX10_layTail 21 = .ok (.istore 4, 2) := by decide +kernel
theorem dX10_layTail_23 : decode cX10_layTail 23 = .ok (.iload_n 2, 1) := by decide +kernel
theorem dX10_layTail_24 : decode cX10_layTail 24 = .ok (.lookupswitch 187 #[(42, 70), (43, 70), (58, 60), (101, 161), (111, 161), (122, 118)], 60) := by decide +kernel
theorem dX10_layTail_84 : decode cX10_layTail 84 = .ok (.aload_n 0, 1) := by decide +kernel
theorem dX10_layTail_85 : decode cX10_layTail 85 = .ok (.iload_n 1, 1) := by decide +kernel
theorem dX10_layTail_86 : decode cX10_layTail 86 = .ok (.iconst 3, 1) := by decide +kernel
theorem dX10_layTail_87 : decode cX10_layTail 87 = .ok (.iadd, 1) := by decide +kernel
theorem dX10_layTail_88 : decode cX10_layTail 88 = .ok (.iload_n 3, 1) := by decide +kernel
theorem dX10_layTail_89 : decode cX10_layTail 89 = .ok (.invokevirtual 140, 3) := by decide +kernel
theorem dX10_layTail_92 : decode cX10_layTail 92 = .ok (.iconst 1, 1) := by decide +kernel
theorem dX10_layTail_93 : decode cX10_layTail 93 = .ok (.ireturn, 1) := by decide +kernel
theorem dX10_layTail_94 : decode cX10_layTail 94 = .ok (.aload_n 0, 1) := by decide +kernel
theorem dX10_layTail_95 : decode cX10_layTail 95 = .ok (.iload_n 2, 1) := by decide +kernel
theorem dX10_layTail_96 : decode cX10_layTail 96 = .ok (.invokevirtual 132, 3) := by decide +kernel
theorem dX10_layTail_99 : decode cX10_layTail 99 = .ok (.aload_n 0, 1) := by decide +kernel
theorem dX10_layTail_100 : decode cX10_layTail 100 = .ok (.bipush 116, 2) := by decide +kernel
theorem dX10_layTail_102 : decode cX10_layTail 102 = .ok (.invokevirtual 132, 3) := by decide +kernel
theorem dX10_layTail_105 : decode cX10_layTail 105 = .ok (.aload_n 0, 1) := by decide +kernel
theorem dX10_layTail_106 : decode cX10_layTail 106 = .ok (.iload 4, 2) := by decide +kernel
theorem dX10_layTail_108 : decode cX10_layTail 108 = .ok (.aload_n 0, 1) := by decide +kernel
theorem dX10_layTail_109 : decode cX10_layTail 109 = .ok (.getfield 28, 3) := by decide +kernel
theorem dX10_layTail_112 : decode cX10_layTail 112 = .ok (.iload 4, 2) := by decide +kernel
theorem dX10_layTail_114 : decode cX10_layTail 114 = .ok (.invokestatic 136, 3) := by decide +kernel
theorem dX10_layTail_117 : decode cX10_layTail 117 = .ok (.invokevirtual 140, 3) := by decide +kernel
theorem dX10_layTail_120 : decode cX10_layTail 120 = .ok (.aload_n 0, 1) := by decide +kernel
theorem dX10_layTail_121 : decode cX10_layTail 121 = .ok (.bipush 116, 2) := by decide +kernel
theorem dX10_layTail_123 : decode cX10_layTail 123 = .ok (.invokevirtual 132, 3) := by decide +kernel
theorem dX10_layTail_126 : decode cX10_layTail 126 = .ok (.aload_n 0, 1) := by decide +kernel
theorem dX10_layTail_127 : decode cX10_layTail 127 = .ok (.aload_n 0, 1) := by decide +kernel
theorem dX10_layTail_128 : decode cX10_layTail 128 = .ok (.getfield 28, 3) := by decide +kernel
theorem dX10_layTail_131 : decode cX10_layTail 131 = .ok (.iload 4, 2) := by decide +kernel
theorem dX10_layTail_133 : decode cX10_layTail 133 = .ok (.invokestatic 136, 3) := by decide +kernel
theorem dX10_layTail_136 : decode cX10_layTail 136 = .ok (.iload_n 3, 1) := by decide +kernel
theorem dX10_layTail_137 : decode cX10_layTail 137 = .ok (.invokevirtual 140, 3) := by decide +kernel
theorem dX10_layTail_140 : decode cX10_layTail 140 = .ok (.iconst 1, 1) := by decide +kernel
theorem dX10_layTail_141 : decode cX10_layTail 141 = .ok (.ireturn, 1) := by decide +kernel
theorem dX10_layTail_142 : decode cX10_layTail 142 = .ok (.aload_n 0, 1) := by decide +kernel
theorem dX10_layTail_143 : decode cX10_layTail 143 = .ok (.bipush 122, 2) := by decide +kernel
theorem dX10_layTail_145 : decode cX10_layTail 145 = .ok (.invokevirtual 132, 3) := by decide +kernel
theorem dX10_layTail_148 : decode cX10_layTail 148 = .ok (.aload_n 0, 1) := by decide +kernel
theorem dX10_layTail_149 : decode cX10_layTail 149 = .ok (.aload_n 0, 1) := by decide +kernel
theorem dX10_layTail_150 : decode cX10_layTail 150 = .ok (.getfield 28, 3) := by decide +kernel
theorem dX10_layTail_153 : decode cX10_layTail 153 = .ok (.iload 4, 2) := by decide +kernel
theorem dX10_layTail_155 : decode cX10_layTail 155 = .ok (.invokestatic 136, 3) := by decide +kernel
theorem dX10_layTail_158 : decode cX10_layTail 158 = .ok (.iload_n 3, 1) := by decide +kernel
theorem dX10_layTail_159 : decode cX10_layTail 159 = .ok (.invokevirtual 140, 3) := by decide +kernel
theorem dX10_layTail_162 : decode cX10_layTail 162 = .ok (.aload_n 0, 1) := by decide +kernel
theorem dX10_layTail_163 : decode cX10_layTail 163 = .ok (.bipush 116, 2) := by decide +kernel
theorem dX10_layTail_165 : decode cX10_layTail 165 = .ok (.invokevirtual 132, 3) := by decide +kernel
theorem dX10_layTail_168 : decode cX10_layTail 168 = .ok (.aload_n 0, 1) := by decide +kernel
theorem dX10_layTail_169 : decode cX10_layTail 169 = .ok (.iload 4, 2) := by decide +kernel
theorem dX10_layTail_171 : decode cX10_layTail 171 = .ok (.aload_n 0, 1) := by decide +kernel
theorem dX10_layTail_172 : decode cX10_layTail 172 = .ok (.getfield 28, 3) := by decide +kernel
theorem dX10_layTail_175 : decode cX10_layTail 175 = .ok (.iload 4, 2) := by decide +kernel
theorem dX10_layTail_177 : decode cX10_layTail 177 = .ok (.invokestatic 136, 3) := by decide +kernel
theorem dX10_layTail_180 : decode cX10_layTail 180 = .ok (.invokevirtual 140, 3) := by decide +kernel
theorem dX10_layTail_183 : decode cX10_layTail 183 = .ok (.iconst 1, 1) := by decide +kernel
theorem dX10_layTail_184 : decode cX10_layTail 184 = .ok (.ireturn, 1) := by decide +kernel
theorem dX10_layTail_185 : decode cX10_layTail 185 = .ok (.aload_n 0, 1) := by decide +kernel
theorem dX10_layTail_186 : decode cX10_layTail 186 = .ok (.iload_n 2, 1) := by decide +kernel
theorem dX10_layTail_187 : decode cX10_layTail 187 = .ok (.invokevirtual 132, 3) := by decide +kernel
theorem dX10_layTail_190 : decode cX10_layTail 190 = .ok (.aload_n 0, 1) := by decide +kernel
theorem dX10_layTail_191 : decode cX10_layTail 191 = .ok (.bipush 116, 2) := by decide +kernel
theorem dX10_layTail_193 : decode cX10_layTail 193 = .ok (.invokevirtual 132, 3) := by decide +kernel
theorem dX10_layTail_196 : decode cX10_layTail 196 = .ok (.aload_n 0, 1) := by decide +kernel
theorem dX10_layTail_197 : decode cX10_layTail 197 = .ok (.bipush 116, 2) := by decide +kernel
theorem dX10_layTail_199 : decode cX10_layTail 199 = .ok (.invokevirtual 132, 3) := by decide +kernel
theorem dX10_layTail_202 : decode cX10_layTail 202 = .ok (.aload_n 0, 1) := by decide +kernel
theorem dX10_layTail_203 : decode cX10_layTail 203 = .ok (.iload 4, 2) := by decide +kernel
theorem dX10_layTail_205 : decode cX10_layTail 205 = .ok (.iload_n 3, 1) := by decide +kernel
theorem dX10_layTail_206 : decode cX10_layTail 206 = .ok (.invokevirtual 140, 3) := by decide +kernel
theorem dX10_layTail_209 : decode cX10_layTail 209 = .ok (.iconst 1, 1) := by decide +kernel
theorem dX10_layTail_210 : decode cX10_layTail 210 = .ok (.ireturn, 1) := by decide +kernel
theorem dX10_layTail_211 : decode cX10_layTail 211 = .ok (.iload_n 2, 1) := by decide +kernel
theorem dX10_layTail_212 : decode cX10_layTail 212 = .ok (.invokestatic 93, 3) := by decide +kernel
theorem dX10_layTail_215 : decode cX10_layTail 215 = .ok (.ifCond .eq 10, 3) := by decide +kernel
theorem dX10_layTail_218 : decode cX10_layTail 218 = .ok (.aload_n 0, 1) := by decide +kernel
theorem dX10_layTail_219 : decode cX10_layTail 219 = .ok (.iload_n 2, 1) := by decide +kernel
theorem dX10_layTail_220 : decode cX10_layTail 220 = .ok (.invokevirtual 132, 3) := by decide +kernel
theorem dX10_layTail_223 : decode cX10_layTail 223 = .ok (.iconst 1, 1) := by decide +kernel
theorem dX10_layTail_224 : decode cX10_layTail 224 = .ok (.ireturn, 1) := by decide +kernel
theorem dX10_layTail_225 : decode cX10_layTail 225 = .ok (.iconst 0, 1) := by decide +kernel
theorem dX10_layTail_226 : decode cX10_layTail 226 = .ok (.ireturn, 1) := by decide +kernel
theorem dX10_layEvery_0 : decode cX10_layEvery 0 = .ok (.aload_n 0, 1) := by decide +kernel
theorem dX10_layEvery_1 : decode cX10_layEvery 1 = .ok (.getfield 28, 3) := by decide +kernel
theorem dX10_layEvery_4 : decode cX10_layEvery 4 = .ok (.iload_n 1, 1) := by decide +kernel
theorem dX10_layEvery_5 : decode cX10_layEvery 5 = .ok (.iconst 1, 1) := by decide +kernel
theorem dX10_layEvery_6 : decode cX10_layEvery 6 = .ok (.iadd, 1) := by decide +kernel
theorem dX10_layEvery_7 : decode cX10_layEvery 7 = .ok (.iaload, 1) := by decide +kernel
theorem dX10_layEvery_8 : decode cX10_layEvery 8 = .ok (.istore_n 2, 1) := by decide +kernel
theorem dX10_layEvery_9 : decode cX10_layEvery 9 = .ok (.iload_n 1, 1) := by decide +kernel
theorem dX10_layEvery_10 : decode cX10_layEvery 10 = .ok (.iconst 2, 1) := by decide +kernel
theorem dX10_layEvery_11 : decode cX10_layEvery 11 = .ok (.iadd, 1) := by decide +kernel
theorem dX10_layEvery_12 : decode cX10_layEvery 12 = .ok (.istore_n 3, 1) := by decide +kernel
theorem dX10_layEvery_13 : decode cX10_layEvery 13 = .ok (.iload_n 2, 1) := by decide +kernel
theorem dX10_layEvery_14 : decode cX10_layEvery 14 = .ok (.invokestatic 93, 3) := by decide +kernel
theorem dX10_layEvery_17 : decode cX10_layEvery 17 = .ok (.ifCond .eq 10, 3) := by decide +kernel
theorem dX10_layEvery_20 : decode cX10_layEvery 20 = .ok (.aload_n 0, 1) := by decide +kernel
theorem dX10_layEvery_21 : decode cX10_layEvery 21 = .ok (.iload_n 2, 1) := by decide +kernel
theorem dX10_layEvery_22 : decode cX10_layEvery 22 = .ok (.invokevirtual 132, 3) := by decide +kernel
theorem dX10_layEvery_25 : decode cX10_layEvery 25 = .ok (.iconst 1, 1) := by decide +kernel
theorem dX10_layEvery_26 : decode cX10_layEvery 26 = .ok (.ireturn, 1) := by decide +kernel
theorem dX10_layEvery_27 : decode cX10_layEvery 27 = .ok (.iload_n 2, 1) := by decide +kernel
theorem dX10_layEvery_28 : decode cX10_layEvery 28 = .ok (.bipush 122, 2) := by decide +kernel
theorem dX10_layEvery_30 : decode cX10_layEvery 30 = .ok (.if_icmp .eq 5, 3) := by decide +kernel
theorem dX10_layEvery_33 : decode cX10_layEvery 33 = .ok (.iconst 0, 1) := by decide +kernel
theorem dX10_layEvery_34 : decode cX10_layEvery 34 = .ok (.ireturn, 1) := by decide +kernel
theorem dX10_layEvery_35 : decode cX10_layEvery 35 = .ok (.aload_n 0, 1) := by decide +kernel
theorem dX10_layEvery_36 : decode cX10_layEvery 36 = .ok (.getfield 28, 3) := by decide +kernel
theorem dX10_layEvery_39 : decode cX10_layEvery 39 = .ok (.iload_n 3, 1) := by decide +kernel
theorem dX10_layEvery_40 : decode cX10_layEvery 40 = .ok (.invokestatic 136, 3) := by decide +kernel
theorem dX10_layEvery_43 : decode cX10_layEvery 43 = .ok (.istore 4, 2) := by decide +kernel
theorem dX10_layEvery_45 : decode cX10_layEvery 45 = .ok (.aload_n 0, 1) := by decide +kernel
theorem dX10_layEvery_46 : decode cX10_layEvery 46 = .ok (.getfield 28, 3) := by decide +kernel
theorem dX10_layEvery_49 : decode cX10_layEvery 49 = .ok (.iload_n 1, 1) := by decide +kernel
theorem dX10_layEvery_50 : decode cX10_layEvery 50 = .ok (.iaload, 1) := by decide +kernel
theorem dX10_layEvery_51 : decode cX10_layEvery 51 = .ok (.bipush 101, 2) := by decide +kernel
theorem dX10_layEvery_53 : decode cX10_layEvery 53 = .ok (.if_icmp .ne 13, 3) := by decide +kernel
theorem dX10_layEvery_56 : decode cX10_layEvery 56 = .ok (.aload_n 0, 1) := by decide +kernel
theorem dX10_layEvery_57 : decode cX10_layEvery 57 = .ok (.iload_n 3, 1) := by decide +kernel
theorem dX10_layEvery_58 : decode cX10_layEvery 58 = .ok (.iload 4, 2) := by decide +kernel
theorem dX10_layEvery_60 : decode cX10_layEvery 60 = .ok (.invokevirtual 140, 3) := by decide +kernel
theorem dX10_layEvery_63 : decode cX10_layEvery 63 = .ok (.goto 18, 3) := by decide +kernel
theorem dX10_layEvery_66 : decode cX10_layEvery 66 = .ok (.aload_n 0, 1) := by decide +kernel
theorem dX10_layEvery_67 : decode cX10_layEvery 67 = .ok (.iload 4, 2) := by decide +kernel
theorem dX10_layEvery_69 : decode cX10_layEvery 69 = .ok (.aload_n 0, 1) := by decide +kernel
theorem dX10_layEvery_70 : decode cX10_layEvery 70 = .ok (.getfield 28, 3) := by decide +kernel
theorem dX10_layEvery_73 : decode cX10_layEvery 73 = .ok (.iload 4, 2) := by decide +kernel
theorem dX10_layEvery_75 : decode cX10_layEvery 75 = .ok (.invokestatic 136, 3) := by decide +kernel
theorem dX10_layEvery_78 : decode cX10_layEvery 78 = .ok (.invokevirtual 140, 3) := by decide +kernel
theorem dX10_layEvery_81 : decode cX10_layEvery 81 = .ok (.iconst 1, 1) := by decide +kernel
theorem dX10_layEvery_82 : decode cX10_layEvery 82 = .ok (.ireturn, 1) := by decide +kernel
theorem dX10_layZip_0 : decode cX10_layZip 0 = .ok (.iload_n 1, 1) := by decide +kernel
theorem dX10_layZip_1 : decode cX10_layZip 1 = .ok (.iconst 1, 1) := by decide +kernel
theorem dX10_layZip_2 : decode cX10_layZip 2 = .ok (.iadd, 1) := by decide +kernel
theorem dX10_layZip_3 : decode cX10_layZip 3 = .ok (.istore_n 2, 1) := by decide +kernel
theorem dX10_layZip_4 : decode cX10_layZip 4 = .ok (.aload_n 0, 1) := by decide +kernel
theorem dX10_layZip_5 : decode cX10_layZip 5 = .ok (.getfield 28, 3) := by decide +kernel
theorem dX10_layZip_8 : decode cX10_layZip 8 = .ok (.iload_n 2, 1) := by decide +kernel
theorem dX10_layZip_9 : decode cX10_layZip 9 = .ok (.invokestatic 136, 3) := by decide +kernel
theorem dX10_layZip_12 : decode cX10_layZip 12 = .ok (.istore_n 3, 1) := by decide +kernel
theorem dX10_layZip_13 : decode cX10_layZip 13 = .ok (.aload_n 0, 1) := by decide +kernel
theorem dX10_layZip_14 : decode cX10_layZip 14 = .ok (.getfield 28, 3) := by decide +kernel
theorem dX10_layZip_17 : decode cX10_layZip 17 = .ok (.iload_n 3, 1) := by decide +kernel
theorem dX10_layZip_18 : decode cX10_layZip 18 = .ok (.invokestatic 136, 3) := by decide +kernel
theorem dX10_layZip_21 : decode cX10_layZip 21 = .ok (.istore 4, 2) := by decide +kernel
theorem dX10_layZip_23 : decode cX10_layZip 23 = .ok (.aload_n 0, 1) := by decide +kernel
theorem dX10_layZip_24 : decode cX10_layZip 24 = .ok (.getfield 28, 3) := by decide +kernel
theorem dX10_layZip_27 : decode cX10_layZip 27 = .ok (.iload_n 2, 1) := by decide +kernel
theorem dX10_layZip_28 : decode cX10_layZip 28 = .ok (.iaload, 1) := by decide +kernel
theorem dX10_layZip_29 : decode cX10_layZip 29 = .ok (.bipush 101, 2) := by decide +kernel
theorem dX10_layZip_31 : decode cX10_layZip 31 = .ok (.if_icmp .ne 46, 3) := by decide +kernel
theorem dX10_layZip_34 : decode cX10_layZip 34 = .ok (.aload_n 0, 1) := by decide +kernel
theorem dX10_layZip_35 : decode cX10_layZip 35 = .ok (.getfield 28, 3) := by decide +kernel
theorem dX10_layZip_38 : decode cX10_layZip 38 = .ok (.iload_n 3, 1) := by decide +kernel
theorem dX10_layZip_39 : decode cX10_layZip 39 = .ok (.iaload, 1) := by decide +kernel
theorem dX10_layZip_40 : decode cX10_layZip 40 = .ok (.bipush 111, 2) := by decide +kernel
theorem dX10_layZip_42 : decode cX10_layZip 42 = .ok (.if_icmp .ne 35, 3) := by decide +kernel
theorem dX10_layZip_45 : decode cX10_layZip 45 = .ok (.iload_n 3, 1) := by decide +kernel
theorem dX10_layZip_46 : decode cX10_layZip 46 = .ok (.iload_n 2, 1) := by decide +kernel
theorem dX10_layZip_47 : decode cX10_layZip 47 = .ok (.isub, 1) := by decide +kernel
theorem dX10_layZip_48 : decode cX10_layZip 48 = .ok (.iload 4, 2) := by decide +kernel
theorem dX10_layZip_50 : decode cX10_layZip 50 = .ok (.iload_n 3, 1) := by decide +kernel
theorem dX10_layZip_51 : decode cX10_layZip 51 = .ok (.isub, 1) := by decide +kernel
theorem dX10_layZip_52 : decode cX10_layZip 52 = .ok (.if_icmp .ne 25, 3) := by decide +kernel
theorem dX10_layZip_55 : decode cX10_layZip 55 = .ok (.aload_n 0, 1) := by decide +kernel
theorem dX10_layZip_56 : decode cX10_layZip 56 = .ok (.iload_n 2, 1) := by decide +kernel
theorem dX10_layZip_57 : decode cX10_layZip 57 = .ok (.iconst 1, 1) := by decide +kernel
theorem dX10_layZip_58 : decode cX10_layZip 58 = .ok (.iadd, 1) := by decide +kernel
theorem dX10_layZip_59 : decode cX10_layZip 59 = .ok (.iload_n 3, 1) := by decide +kernel
theorem dX10_layZip_60 : decode cX10_layZip 60 = .ok (.iconst 1, 1) := by decide +kernel
theorem dX10_layZip_61 : decode cX10_layZip 61 = .ok (.iadd, 1) := by decide +kernel
theorem dX10_layZip_62 : decode cX10_layZip 62 = .ok (.iload_n 3, 1) := by decide +kernel
theorem dX10_layZip_63 : decode cX10_layZip 63 = .ok (.iload_n 2, 1) := by decide +kernel
theorem dX10_layZip_64 : decode cX10_layZip 64 = .ok (.isub, 1) := by decide +kernel
theorem dX10_layZip_65 : decode cX10_layZip 65 = .ok (.iconst 1, 1) := by decide +kernel
theorem dX10_layZip_66 : decode cX10_layZip 66 = .ok (.isub, 1) := by decide +kernel
theorem dX10_layZip_67 : decode cX10_layZip 67 = .ok (.invokevirtual 144, 3) := by decide +kernel
theorem dX10_layZip_70 : decode cX10_layZip 70 = .ok (.ifCond .eq 7, 3) := by decide +kernel
theorem dX10_layZip_73 : decode cX10_layZip 73 = .ok (.iconst 1, 1) := by decide +kernel
theorem dX10_layZip_74 : decode cX10_layZip 74 = .ok (.goto 4, 3) := by decide +kernel
theorem dX10_layZip_77 : decode cX10_layZip 77 = .ok (.iconst 0, 1) := by decide +kernel
theorem dX10_layZip_78 : decode cX10_layZip 78 = .ok (.istore 5, 2) := by decide +kernel
theorem dX10_layZip_80 : decode cX10_layZip 80 = .ok (.iload 5, 2) := by decide +kernel
theorem dX10_layZip_82 : decode cX10_layZip 82 = .ok (.ifCond .eq 11, 3) := by decide +kernel
theorem dX10_layZip_85 : decode cX10_layZip 85 = .ok (.aload_n 0, 1) := by decide +kernel
theorem dX10_layZip_86 : decode cX10_layZip 86 = .ok (.iload_n 2, 1) := by decide +kernel
theorem dX10_layZip_87 : decode cX10_layZip 87 = .ok (.iconst 1, 1) := by decide +kernel
theorem dX10_layZip_88 : decode cX10_layZip 88 = .ok (.iadd, 1) := by decide +kernel
theorem dX10_layZip_89 : decode cX10_layZip 89 = .ok (.iload_n 3, 1) := by decide +kernel
theorem dX10_layZip_90 : decode cX10_layZip 90 = .ok (.invokevirtual 140, 3) := by decide +kernel
theorem dX10_layZip_93 : decode cX10_layZip 93 = .ok (.iload 5, 2) := by decide +kernel
theorem dX10_layZip_95 : decode cX10_layZip 95 = .ok (.ireturn, 1) := by decide +kernel
theorem dX10_layRule_0 : decode cX10_layRule 0 = .ok (.aload_n 0, 1) := by decide +kernel
theorem dX10_layRule_1 : decode cX10_layRule 1 = .ok (.getfield 28, 3) := by decide +kernel
theorem dX10_layRule_4 : decode cX10_layRule 4 = .ok (.iload_n 1, 1) := by decide +kernel
theorem dX10_layRule_5 : decode cX10_layRule 5 = .ok (.iaload, 1) := by decide +kernel
theorem dX10_layRule_6 : decode cX10_layRule 6 = .ok (.lookupswitch 60 #[(101, 48), (111, 48), (116, 42), (122, 54)], 42) := by decide +kernel
theorem dX10_layRule_48 : decode cX10_layRule 48 = .ok (.aload_n 0, 1) := by decide +kernel
theorem dX10_layRule_49 : decode cX10_layRule 49 = .ok (.iload_n 1, 1) := by decide +kernel
theorem dX10_layRule_50 : decode cX10_layRule 50 = .ok (.invokevirtual 147, 3) := by decide +kernel
theorem dX10_layRule_53 : decode cX10_layRule 53 = .ok (.ireturn, 1) := by decide +kernel
theorem dX10_layRule_54 : decode cX10_layRule 54 = .ok (.aload_n 0, 1) := by decide +kernel
theorem dX10_layRule_55 : decode cX10_layRule 55 = .ok (.iload_n 1, 1) := by decide +kernel
theorem dX10_layRule_56 : decode cX10_layRule 56 = .ok (.invokevirtual 150, 3) := by decide +kernel
theorem dX10_layRule_59 : decode cX10_layRule 59 = .ok (.ireturn, 1) := by decide +kernel
theorem dX10_layRule_60 : decode cX10_layRule 60 = .ok (.aload_n 0, 1) := by decide +kernel
theorem dX10_layRule_61 : decode cX10_layRule 61 = .ok (.iload_n 1, 1) := by decide +kernel
theorem dX10_layRule_62 : decode cX10_layRule 62 = .ok (.invokevirtual 153, 3) := by decide +kernel
theorem dX10_layRule_65 : decode cX10_layRule 65 = .ok (.ireturn, 1) := by decide +kernel
theorem dX10_layRule_66 : decode cX10_layRule 66 = .ok (.iconst 0, 1) := by decide +kernel
theorem dX10_layRule_67 : decode cX10_layRule 67 = .ok (.ireturn, 1) := by decide +kernel
theorem dX10_simplifies_0 : decode cX10_simplifies 0 = .ok (.iconst 0, 1) := by decide +kernel
theorem dX10_simplifies_1 : decode cX10_simplifies 1 = .ok (.istore_n 1, 1) := by decide +kernel
theorem dX10_simplifies_2 : decode cX10_simplifies 2 = .ok (.iload_n 1, 1) := by decide +kernel
theorem dX10_simplifies_3 : decode cX10_simplifies 3 = .ok (.aload_n 0, 1) := by decide +kernel
theorem dX10_simplifies_4 : decode cX10_simplifies 4 = .ok (.getfield 156, 3) := by decide +kernel
theorem dX10_simplifies_7 : decode cX10_simplifies 7 = .ok (.if_icmp .ge 98, 3) := by decide +kernel
theorem dX10_simplifies_10 : decode cX10_simplifies 10 = .ok (.aload_n 0, 1) := by decide +kernel
theorem dX10_simplifies_11 : decode cX10_simplifies 11 = .ok (.iconst 0, 1) := by decide +kernel
theorem dX10_simplifies_12 : decode cX10_simplifies 12 = .ok (.putfield 129, 3) := by decide +kernel
theorem dX10_simplifies_15 : decode cX10_simplifies 15 = .ok (.aload_n 0, 1) := by decide +kernel
theorem dX10_simplifies_16 : decode cX10_simplifies 16 = .ok (.iconst 0, 1) := by decide +kernel
theorem dX10_simplifies_17 : decode cX10_simplifies 17 = .ok (.iload_n 1, 1) := by decide +kernel
theorem dX10_simplifies_18 : decode cX10_simplifies 18 = .ok (.invokevirtual 140, 3) := by decide +kernel
theorem dX10_simplifies_21 : decode cX10_simplifies 21 = .ok (.aload_n 0, 1) := by decide +kernel
theorem dX10_simplifies_22 : decode cX10_simplifies 22 = .ok (.iload_n 1, 1) := by decide +kernel
theorem dX10_simplifies_23 : decode cX10_simplifies 23 = .ok (.invokevirtual 159, 3) := by decide +kernel
theorem dX10_simplifies_26 : decode cX10_simplifies 26 = .ok (.ifCond .eq 57, 3) := by decide +kernel
theorem dX10_simplifies_29 : decode cX10_simplifies 29 = .ok (.aload_n 0, 1) := by decide +kernel
theorem dX10_simplifies_30 : decode cX10_simplifies 30 = .ok (.aload_n 0, 1) := by decide +kernel
theorem dX10_simplifies_31 : decode cX10_simplifies 31 = .ok (.getfield 28, 3) := by decide +kernel
theorem dX10_simplifies_34 : decode cX10_simplifies 34 = .ok (.iload_n 1, 1) := by decide +kernel
theorem dX10_simplifies_35 : decode cX10_simplifies 35 = .ok (.invokestatic 136, 3) := by decide +kernel
theorem dX10_simplifies_38 : decode cX10_simplifies 38 = .ok (.aload_n 0, 1) := by decide +kernel
theorem dX10_simplifies_39 : decode cX10_simplifies 39 = .ok (.getfield 156, 3) := by decide +kernel
theorem dX10_simplifies_42 : decode cX10_simplifies 42 = .ok (.invokevirtual 140, 3) := by decide +kernel
theorem dX10_simplifies_45 : decode cX10_simplifies 45 = .ok (.iconst 0, 1) := by decide +kernel
theorem dX10_simplifies_46 : decode cX10_simplifies 46 = .ok (.istore_n 2, 1) := by decide +kernel
theorem dX10_simplifies_47 : decode cX10_simplifies 47 = .ok (.iload_n 2, 1) := by decide +kernel
theorem dX10_simplifies_48 : decode cX10_simplifies 48 = .ok (.aload_n 0, 1) := by decide +kernel
theorem dX10_simplifies_49 : decode cX10_simplifies 49 = .ok (.getfield 129, 3) := by decide +kernel
theorem dX10_simplifies_52 : decode cX10_simplifies 52 = .ok (.if_icmp .ge 21, 3) := by decide +kernel
theorem dX10_simplifies_55 : decode cX10_simplifies 55 = .ok (.aload_n 0, 1) := by decide +kernel
theorem dX10_simplifies_56 : decode cX10_simplifies 56 = .ok (.getfield 28, 3) := by decide +kernel
theorem dX10_simplifies_59 : decode cX10_simplifies 59 = .ok (.iload_n 2, 1) := by decide +kernel
theorem dX10_simplifies_60 : decode cX10_simplifies 60 = .ok (.aload_n 0, 1) := by decide +kernel
theorem dX10_simplifies_61 : decode cX10_simplifies 61 = .ok (.getfield 25, 3) := by decide +kernel
theorem dX10_simplifies_64 : decode cX10_simplifies 64 = .ok (.iload_n 2, 1) := by decide +kernel
theorem dX10_simplifies_65 : decode cX10_simplifies 65 = .ok (.iaload, 1) := by decide +kernel
theorem dX10_simplifies_66 : decode cX10_simplifies 66 = .ok (.iastore, 1) := by decide +kernel
theorem dX10_simplifies_67 : decode cX10_simplifies 67 = .ok (.iinc 2 1, 3) := by decide +kernel
theorem dX10_simplifies_70 : decode cX10_simplifies 70 = .ok (.goto (-23), 3) := by decide +kernel
theorem dX10_simplifies_73 : decode cX10_simplifies 73 = .ok (.aload_n 0, 1) := by decide +kernel
theorem dX10_simplifies_74 : decode cX10_simplifies 74 = .ok (.aload_n 0, 1) := by decide +kernel
theorem dX10_simplifies_75 : decode cX10_simplifies 75 = .ok (.getfield 129, 3) := by decide +kernel
theorem dX10_simplifies_78 : decode cX10_simplifies 78 = .ok (.putfield 156, 3) := by decide +kernel
theorem dX10_simplifies_81 : decode cX10_simplifies 81 = .ok (.iconst 1, 1) := by decide +kernel
theorem dX10_simplifies_82 : decode cX10_simplifies 82 = .ok (.ireturn, 1) := by decide +kernel
theorem dX10_simplifies_83 : decode cX10_simplifies 83 = .ok (.iload_n 1, 1) := by decide +kernel
theorem dX10_simplifies_84 : decode cX10_simplifies 84 = .ok (.aload_n 0, 1) := by decide +kernel
theorem dX10_simplifies_85 : decode cX10_simplifies 85 = .ok (.getfield 28, 3) := by decide +kernel
theorem dX10_simplifies_88 : decode cX10_simplifies 88 = .ok (.iload_n 1, 1) := by decide +kernel
theorem dX10_simplifies_89 : decode cX10_simplifies 89 = .ok (.iaload, 1) := by decide +kernel
theorem dX10_simplifies_90 : decode cX10_simplifies 90 = .ok (.bipush 58, 2) := by decide +kernel
theorem dX10_simplifies_92 : decode cX10_simplifies 92 = .ok (.if_icmp .ne 7, 3) := by decide +kernel
theorem dX10_simplifies_95 : decode cX10_simplifies 95 = .ok (.iconst 2, 1) := by decide +kernel
theorem dX10_simplifies_96 : decode cX10_simplifies 96 = .ok (.goto 4, 3) := by decide +kernel
theorem dX10_simplifies_99 : decode cX10_simplifies 99 = .ok (.iconst 1, 1) := by decide +kernel
theorem dX10_simplifies_100 : decode cX10_simplifies 100 = .ok (.iadd, 1) := by decide +kernel
theorem dX10_simplifies_101 : decode cX10_simplifies 101 = .ok (.istore_n 1, 1) := by decide +kernel
theorem dX10_simplifies_102 : decode cX10_simplifies 102 = .ok (.goto (-100), 3) := by decide +kernel
theorem dX10_simplifies_105 : decode cX10_simplifies 105 = .ok (.iconst 0, 1) := by decide +kernel
theorem dX10_simplifies_106 : decode cX10_simplifies 106 = .ok (.ireturn, 1) := by decide +kernel
theorem dX10_oldSize_0 : decode cX10_oldSize 0 = .ok (.iconst 0, 1) := by decide +kernel
theorem dX10_oldSize_1 : decode cX10_oldSize 1 = .ok (.istore_n 1, 1) := by decide +kernel
theorem dX10_oldSize_2 : decode cX10_oldSize 2 = .ok (.iconst 0, 1) := by decide +kernel
theorem dX10_oldSize_3 : decode cX10_oldSize 3 = .ok (.istore_n 2, 1) := by decide +kernel
theorem dX10_oldSize_4 : decode cX10_oldSize 4 = .ok (.iload_n 2, 1) := by decide +kernel
theorem dX10_oldSize_5 : decode cX10_oldSize 5 = .ok (.aload_n 0, 1) := by decide +kernel
theorem dX10_oldSize_6 : decode cX10_oldSize 6 = .ok (.getfield 156, 3) := by decide +kernel
theorem dX10_oldSize_9 : decode cX10_oldSize 9 = .ok (.if_icmp .ge 34, 3) := by decide +kernel
theorem dX10_oldSize_12 : decode cX10_oldSize 12 = .ok (.iload_n 1, 1) := by decide +kernel
theorem dX10_oldSize_13 : decode cX10_oldSize 13 = .ok (.iload_n 2, 1) := by decide +kernel
theorem dX10_oldSize_14 : decode cX10_oldSize 14 = .ok (.ifCond .le 20, 3) := by decide +kernel
theorem dX10_oldSize_17 : decode cX10_oldSize 17 = .ok (.aload_n 0, 1) := by decide +kernel
theorem dX10_oldSize_18 : decode cX10_oldSize 18 = .ok (.getfield 28, 3) := by decide +kernel
theorem dX10_oldSize_21 : decode cX10_oldSize 21 = .ok (.iload_n 2, 1) := by decide +kernel
theorem dX10_oldSize_22 : decode cX10_oldSize 22 = .ok (.iconst 1, 1) := by decide +kernel
theorem dX10_oldSize_23 : decode cX10_oldSize 23 = .ok (.isub, 1) := by decide +kernel
theorem dX10_oldSize_24 : decode cX10_oldSize 24 = .ok (.iaload, 1) := by decide +kernel
theorem dX10_oldSize_25 : decode cX10_oldSize 25 = .ok (.bipush 58, 2) := by decide +kernel
theorem dX10_oldSize_27 : decode cX10_oldSize 27 = .ok (.if_icmp .ne 7, 3) := by decide +kernel
theorem dX10_oldSize_30 : decode cX10_oldSize 30 = .ok (.iconst 0, 1) := by decide +kernel
theorem dX10_oldSize_31 : decode cX10_oldSize 31 = .ok (.goto 4, 3) := by decide +kernel
theorem dX10_oldSize_34 : decode cX10_oldSize 34 = .ok (.iconst 1, 1) := by decide +kernel
theorem dX10_oldSize_35 : decode cX10_oldSize 35 = .ok (.iadd, 1) := by decide +kernel
theorem dX10_oldSize_36 : decode cX10_oldSize 36 = .ok (.istore_n 1, 1) := by decide +kernel
theorem dX10_oldSize_37 : decode cX10_oldSize 37 = .ok (.iinc 2 1, 3) := by decide +kernel
theorem dX10_oldSize_40 : decode cX10_oldSize 40 = .ok (.goto (-36), 3) := by decide +kernel
theorem dX10_oldSize_43 : decode cX10_oldSize 43 = .ok (.iload_n 1, 1) := by decide +kernel
theorem dX10_oldSize_44 : decode cX10_oldSize 44 = .ok (.ireturn, 1) := by decide +kernel
theorem dX10_simplify_0 : decode cX10_simplify 0 = .ok (.iload_n 1, 1) := by decide +kernel
theorem dX10_simplify_1 : decode cX10_simplify 1 = .ok (.invokestatic 109, 3) := by decide +kernel
theorem dX10_simplify_4 : decode cX10_simplify 4 = .ok (.ifCond .ne 5, 3) := by decide +kernel
theorem dX10_simplify_7 : decode cX10_simplify 7 = .ok (.iconst (-1), 1) := by decide +kernel
theorem dX10_simplify_8 : decode cX10_simplify 8 = .ok (.ireturn, 1) := by decide +kernel
theorem dX10_simplify_9 : decode cX10_simplify 9 = .ok (.aload_n 0, 1) := by decide +kernel
theorem dX10_simplify_10 : decode cX10_simplify 10 = .ok (.iload_n 1, 1) := by decide +kernel
theorem dX10_simplify_11 : decode cX10_simplify 11 = .ok (.invokevirtual 122, 3) := by decide +kernel
theorem dX10_simplify_14 : decode cX10_simplify 14 = .ok (.ifCond .ne 6, 3) := by decide +kernel
theorem dX10_simplify_17 : decode cX10_simplify 17 = .ok (.bipush (-2), 2) := by decide +kernel
theorem dX10_simplify_19 : decode cX10_simplify 19 = .ok (.ireturn, 1) := by decide +kernel
theorem dX10_simplify_20 : decode cX10_simplify 20 = .ok (.aload_n 0, 1) := by decide +kernel
theorem dX10_simplify_21 : decode cX10_simplify 21 = .ok (.aload_n 0, 1) := by decide +kernel
theorem dX10_simplify_22 : decode cX10_simplify 22 = .ok (.iload_n 1, 1) := by decide +kernel
theorem dX10_simplify_23 : decode cX10_simplify 23 = .ok (.invokevirtual 78, 3) := by decide +kernel
theorem dX10_simplify_26 : decode cX10_simplify 26 = .ok (.putfield 156, 3) := by decide +kernel
theorem dX10_simplify_29 : decode cX10_simplify 29 = .ok (.iconst 0, 1) := by decide +kernel
theorem dX10_simplify_30 : decode cX10_simplify 30 = .ok (.istore_n 2, 1) := by decide +kernel
theorem dX10_simplify_31 : decode cX10_simplify 31 = .ok (.iload_n 2, 1) := by decide +kernel
theorem dX10_simplify_32 : decode cX10_simplify 32 = .ok (.aload_n 0, 1) := by decide +kernel
theorem dX10_simplify_33 : decode cX10_simplify 33 = .ok (.getfield 156, 3) := by decide +kernel
theorem dX10_simplify_36 : decode cX10_simplify 36 = .ok (.if_icmp .ge 26, 3) := by decide +kernel
theorem dX10_simplify_39 : decode cX10_simplify 39 = .ok (.aload_n 0, 1) := by decide +kernel
theorem dX10_simplify_40 : decode cX10_simplify 40 = .ok (.getfield 28, 3) := by decide +kernel
theorem dX10_simplify_43 : decode cX10_simplify 43 = .ok (.iload_n 2, 1) := by decide +kernel
theorem dX10_simplify_44 : decode cX10_simplify 44 = .ok (.aload_n 0, 1) := by decide +kernel
theorem dX10_simplify_45 : decode cX10_simplify 45 = .ok (.getfield 7, 3) := by decide +kernel
theorem dX10_simplify_48 : decode cX10_simplify 48 = .ok (.iload_n 1, 1) := by decide +kernel
theorem dX10_simplify_49 : decode cX10_simplify 49 = .ok (.invokestatic 106, 3) := by decide +kernel
theorem dX10_simplify_52 : decode cX10_simplify 52 = .ok (.iload_n 2, 1) := by decide +kernel
theorem dX10_simplify_53 : decode cX10_simplify 53 = .ok (.iadd, 1) := by decide +kernel
theorem dX10_simplify_54 : decode cX10_simplify 54 = .ok (.iaload, 1) := by decide +kernel
theorem dX10_simplify_55 : decode cX10_simplify 55 = .ok (.iastore, 1) := by decide +kernel
theorem dX10_simplify_56 : decode cX10_simplify 56 = .ok (.iinc 2 1, 3) := by decide +kernel
theorem dX10_simplify_59 : decode cX10_simplify 59 = .ok (.goto (-28), 3) := by decide +kernel
theorem dX10_simplify_62 : decode cX10_simplify 62 = .ok (.iconst 0, 1) := by decide +kernel
theorem dX10_simplify_63 : decode cX10_simplify 63 = .ok (.istore_n 2, 1) := by decide +kernel
theorem dX10_simplify_64 : decode cX10_simplify 64 = .ok (.aload_n 0, 1) := by decide +kernel
theorem dX10_simplify_65 : decode cX10_simplify 65 = .ok (.invokevirtual 162, 3) := by decide +kernel
theorem dX10_simplify_68 : decode cX10_simplify 68 = .ok (.ifCond .eq 18, 3) := by decide +kernel
theorem dX10_simplify_71 : decode cX10_simplify 71 = .ok (.iinc 2 1, 3) := by decide +kernel
theorem dX10_simplify_74 : decode cX10_simplify 74 = .ok (.aload_n 0, 1) := by decide +kernel
theorem dX10_simplify_75 : decode cX10_simplify 75 = .ok (.invokevirtual 166, 3) := by decide +kernel
theorem dX10_simplify_78 : decode cX10_simplify 78 = .ok (.bipush 120, 2) := by decide +kernel
theorem dX10_simplify_80 : decode cX10_simplify 80 = .ok (.if_icmp .le (-16), 3) := by decide +kernel
theorem dX10_simplify_83 : decode cX10_simplify 83 = .ok (.bipush (-3), 2) := by decide +kernel
theorem dX10_simplify_85 : decode cX10_simplify 85 = .ok (.ireturn, 1) := by decide +kernel
theorem dX10_simplify_86 : decode cX10_simplify 86 = .ok (.aload_n 0, 1) := by decide +kernel
theorem dX10_simplify_87 : decode cX10_simplify 87 = .ok (.invokevirtual 116, 3) := by decide +kernel
theorem dX10_simplify_90 : decode cX10_simplify 90 = .ok (.iconst 0, 1) := by decide +kernel
theorem dX10_simplify_91 : decode cX10_simplify 91 = .ok (.istore_n 3, 1) := by decide +kernel
theorem dX10_simplify_92 : decode cX10_simplify 92 = .ok (.iload_n 3, 1) := by decide +kernel
theorem dX10_simplify_93 : decode cX10_simplify 93 = .ok (.aload_n 0, 1) := by decide +kernel
theorem dX10_simplify_94 : decode cX10_simplify 94 = .ok (.getfield 156, 3) := by decide +kernel
theorem dX10_simplify_97 : decode cX10_simplify 97 = .ok (.if_icmp .ge 26, 3) := by decide +kernel
theorem dX10_simplify_100 : decode cX10_simplify 100 = .ok (.aload_n 0, 1) := by decide +kernel
theorem dX10_simplify_101 : decode cX10_simplify 101 = .ok (.getfield 7, 3) := by decide +kernel
theorem dX10_simplify_104 : decode cX10_simplify 104 = .ok (.iload_n 1, 1) := by decide +kernel
theorem dX10_simplify_105 : decode cX10_simplify 105 = .ok (.invokestatic 106, 3) := by decide +kernel
theorem dX10_simplify_108 : decode cX10_simplify 108 = .ok (.iload_n 3, 1) := by decide +kernel
theorem dX10_simplify_109 : decode cX10_simplify 109 = .ok (.iadd, 1) := by decide +kernel
theorem dX10_simplify_110 : decode cX10_simplify 110 = .ok (.aload_n 0, 1) := by decide +kernel
theorem dX10_simplify_111 : decode cX10_simplify 111 = .ok (.getfield 28, 3) := by decide +kernel
theorem dX10_simplify_114 : decode cX10_simplify 114 = .ok (.iload_n 3, 1) := by decide +kernel
theorem dX10_simplify_115 : decode cX10_simplify 115 = .ok (.iaload, 1) := by decide +kernel
theorem dX10_simplify_116 : decode cX10_simplify 116 = .ok (.iastore, 1) := by decide +kernel
theorem dX10_simplify_117 : decode cX10_simplify 117 = .ok (.iinc 3 1, 3) := by decide +kernel
theorem dX10_simplify_120 : decode cX10_simplify 120 = .ok (.goto (-28), 3) := by decide +kernel
theorem dX10_simplify_123 : decode cX10_simplify 123 = .ok (.aload_n 0, 1) := by decide +kernel
theorem dX10_simplify_124 : decode cX10_simplify 124 = .ok (.getfield 7, 3) := by decide +kernel
theorem dX10_simplify_127 : decode cX10_simplify 127 = .ok (.iconst 1, 1) := by decide +kernel
theorem dX10_simplify_128 : decode cX10_simplify 128 = .ok (.sipush 250, 3) := by decide +kernel
theorem dX10_simplify_131 : decode cX10_simplify 131 = .ok (.iload_n 1, 1) := by decide +kernel
theorem dX10_simplify_132 : decode cX10_simplify 132 = .ok (.imul, 1) := by decide +kernel
theorem dX10_simplify_133 : decode cX10_simplify 133 = .ok (.iadd, 1) := by decide +kernel
theorem dX10_simplify_134 : decode cX10_simplify 134 = .ok (.aload_n 0, 1) := by decide +kernel
theorem dX10_simplify_135 : decode cX10_simplify 135 = .ok (.getfield 156, 3) := by decide +kernel
theorem dX10_simplify_138 : decode cX10_simplify 138 = .ok (.iastore, 1) := by decide +kernel
theorem dX10_simplify_139 : decode cX10_simplify 139 = .ok (.iload_n 2, 1) := by decide +kernel
theorem dX10_simplify_140 : decode cX10_simplify 140 = .ok (.ireturn, 1) := by decide +kernel
theorem dX10_undo_0 : decode cX10_undo 0 = .ok (.aload_n 0, 1) := by decide +kernel
theorem dX10_undo_1 : decode cX10_undo 1 = .ok (.getfield 82, 3) := by decide +kernel
theorem dX10_undo_4 : decode cX10_undo 4 = .ok (.ifCond .ne 6, 3) := by decide +kernel
theorem dX10_undo_7 : decode cX10_undo 7 = .ok (.bipush (-2), 2) := by decide +kernel
theorem dX10_undo_9 : decode cX10_undo 9 = .ok (.ireturn, 1) := by decide +kernel
theorem dX10_undo_10 : decode cX10_undo 10 = .ok (.aload_n 0, 1) := by decide +kernel
theorem dX10_undo_11 : decode cX10_undo 11 = .ok (.dup, 1) := by decide +kernel
theorem dX10_undo_12 : decode cX10_undo 12 = .ok (.getfield 82, 3) := by decide +kernel
theorem dX10_undo_15 : decode cX10_undo 15 = .ok (.iconst 1, 1) := by decide +kernel
theorem dX10_undo_16 : decode cX10_undo 16 = .ok (.isub, 1) := by decide +kernel
theorem dX10_undo_17 : decode cX10_undo 17 = .ok (.putfield 82, 3) := by decide +kernel
theorem dX10_undo_20 : decode cX10_undo 20 = .ok (.iconst 0, 1) := by decide +kernel
theorem dX10_undo_21 : decode cX10_undo 21 = .ok (.istore_n 1, 1) := by decide +kernel
theorem dX10_undo_22 : decode cX10_undo 22 = .ok (.iload_n 1, 1) := by decide +kernel
theorem dX10_undo_23 : decode cX10_undo 23 = .ok (.sipush 2001, 3) := by decide +kernel
theorem dX10_undo_26 : decode cX10_undo 26 = .ok (.if_icmp .ge 30, 3) := by decide +kernel
theorem dX10_undo_29 : decode cX10_undo 29 = .ok (.aload_n 0, 1) := by decide +kernel
theorem dX10_undo_30 : decode cX10_undo 30 = .ok (.getfield 7, 3) := by decide +kernel
theorem dX10_undo_33 : decode cX10_undo 33 = .ok (.iload_n 1, 1) := by decide +kernel
theorem dX10_undo_34 : decode cX10_undo 34 = .ok (.aload_n 0, 1) := by decide +kernel
theorem dX10_undo_35 : decode cX10_undo 35 = .ok (.getfield 13, 3) := by decide +kernel
theorem dX10_undo_38 : decode cX10_undo 38 = .ok (.sipush 2001, 3) := by decide +kernel
theorem dX10_undo_41 : decode cX10_undo 41 = .ok (.aload_n 0, 1) := by decide +kernel
theorem dX10_undo_42 : decode cX10_undo 42 = .ok (.getfield 82, 3) := by decide +kernel
theorem dX10_undo_45 : decode cX10_undo 45 = .ok (.imul, 1) := by decide +kernel
theorem dX10_undo_46 : decode cX10_undo 46 = .ok (.iload_n 1, 1) := by decide +kernel
theorem dX10_undo_47 : decode cX10_undo 47 = .ok (.iadd, 1) := by decide +kernel
theorem dX10_undo_48 : decode cX10_undo 48 = .ok (.iaload, 1) := by decide +kernel
theorem dX10_undo_49 : decode cX10_undo 49 = .ok (.iastore, 1) := by decide +kernel
theorem dX10_undo_50 : decode cX10_undo 50 = .ok (.iinc 1 1, 3) := by decide +kernel
theorem dX10_undo_53 : decode cX10_undo 53 = .ok (.goto (-31), 3) := by decide +kernel
theorem dX10_undo_56 : decode cX10_undo 56 = .ok (.aload_n 0, 1) := by decide +kernel
theorem dX10_undo_57 : decode cX10_undo 57 = .ok (.iconst 0, 1) := by decide +kernel
theorem dX10_undo_58 : decode cX10_undo 58 = .ok (.putfield 86, 3) := by decide +kernel
theorem dX10_undo_61 : decode cX10_undo 61 = .ok (.aload_n 0, 1) := by decide +kernel
theorem dX10_undo_62 : decode cX10_undo 62 = .ok (.getfield 82, 3) := by decide +kernel
theorem dX10_undo_65 : decode cX10_undo 65 = .ok (.ireturn, 1) := by decide +kernel
theorem dX10_descend_0 : decode cX10_descend 0 = .ok (.aload_n 0, 1) := by decide +kernel
theorem dX10_descend_1 : decode cX10_descend 1 = .ok (.getfield 7, 3) := by decide +kernel
theorem dX10_descend_4 : decode cX10_descend 4 = .ok (.aload_n 0, 1) := by decide +kernel
theorem dX10_descend_5 : decode cX10_descend 5 = .ok (.getfield 169, 3) := by decide +kernel
theorem dX10_descend_8 : decode cX10_descend 8 = .ok (.iaload, 1) := by decide +kernel
theorem dX10_descend_9 : decode cX10_descend 9 = .ok (.istore_n 1, 1) := by decide +kernel
theorem dX10_descend_10 : decode cX10_descend 10 = .ok (.aload_n 0, 1) := by decide +kernel
theorem dX10_descend_11 : decode cX10_descend 11 = .ok (.getfield 172, 3) := by decide +kernel
theorem dX10_descend_14 : decode cX10_descend 14 = .ok (.ldc 175, 2) := by decide +kernel
