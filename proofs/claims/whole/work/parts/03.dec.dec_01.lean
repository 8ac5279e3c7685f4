theorem dX4_putTail_16 : decode cX4_putTail 16 = .ok (.iload_n 1, 1) := by decide +kernel
theorem dX4_putTail_17 : decode cX4_putTail 17 = .ok (.isub, 1) := by decide +kernel
theorem dX4_putTail_18 : decode cX4_putTail 18 = .ok (.invokestatic 35, 3) := by decide +kernel
theorem dX4_putTail_21 : decode cX4_putTail 21 = .ok (.aload_n 0, 1) := by decide +kernel
theorem dX4_putTail_22 : decode cX4_putTail 22 = .ok (.getfield 9, 3) := by decide +kernel
theorem dX4_putTail_25 : decode cX4_putTail 25 = .ok (.iload_n 1, 1) := by decide +kernel
theorem dX4_putTail_26 : decode cX4_putTail 26 = .ok (.bipush 116, 2) := by decide +kernel
theorem dX4_putTail_28 : decode cX4_putTail 28 = .ok (.iastore, 1) := by decide +kernel
theorem dX4_putTail_29 : decode cX4_putTail 29 = .ok (.aload_n 0, 1) := by decide +kernel
theorem dX4_putTail_30 : decode cX4_putTail 30 = .ok (.dup, 1) := by decide +kernel
theorem dX4_putTail_31 : decode cX4_putTail 31 = .ok (.getfield 33, 3) := by decide +kernel
theorem dX4_putTail_34 : decode cX4_putTail 34 = .ok (.iconst 1, 1) := by decide +kernel
theorem dX4_putTail_35 : decode cX4_putTail 35 = .ok (.iadd, 1) := by decide +kernel
theorem dX4_putTail_36 : decode cX4_putTail 36 = .ok (.putfield 33, 3) := by decide +kernel
theorem dX4_putTail_39 : decode cX4_putTail 39 = .ok (.return_, 1) := by decide +kernel
theorem dX5_init_0 : decode cX5_init 0 = .ok (.aload_n 0, 1) := by decide +kernel
theorem dX5_init_1 : decode cX5_init 1 = .ok (.invokespecial 3, 3) := by decide +kernel
theorem dX5_init_4 : decode cX5_init 4 = .ok (.aload_n 0, 1) := by decide +kernel
theorem dX5_init_5 : decode cX5_init 5 = .ok (.iload_n 2, 1) := by decide +kernel
theorem dX5_init_6 : decode cX5_init 6 = .ok (.putfield 9, 3) := by decide +kernel
theorem dX5_init_9 : decode cX5_init 9 = .ok (.aload_n 0, 1) := by decide +kernel
theorem dX5_init_10 : decode cX5_init 10 = .ok (.aload_n 1, 1) := by decide +kernel
theorem dX5_init_11 : decode cX5_init 11 = .ok (.iload_n 2, 1) := by decide +kernel
theorem dX5_init_12 : decode cX5_init 12 = .ok (.invokestatic 15, 3) := by decide +kernel
theorem dX5_init_15 : decode cX5_init 15 = .ok (.putfield 21, 3) := by decide +kernel
theorem dX5_init_18 : decode cX5_init 18 = .ok (.aload_n 0, 1) := by decide +kernel
theorem dX5_init_19 : decode cX5_init 19 = .ok (.aload_n 1, 1) := by decide +kernel
theorem dX5_init_20 : decode cX5_init 20 = .ok (.iload_n 2, 1) := by decide +kernel
theorem dX5_init_21 : decode cX5_init 21 = .ok (.invokestatic 25, 3) := by decide +kernel
theorem dX5_init_24 : decode cX5_init 24 = .ok (.putfield 30, 3) := by decide +kernel
theorem dX5_init_27 : decode cX5_init 27 = .ok (.aload_n 0, 1) := by decide +kernel
theorem dX5_init_28 : decode cX5_init 28 = .ok (.aload_n 1, 1) := by decide +kernel
theorem dX5_init_29 : decode cX5_init 29 = .ok (.iload_n 2, 1) := by decide +kernel
theorem dX5_init_30 : decode cX5_init 30 = .ok (.invokestatic 33, 3) := by decide +kernel
theorem dX5_init_33 : decode cX5_init 33 = .ok (.putfield 36, 3) := by decide +kernel
theorem dX5_init_36 : decode cX5_init 36 = .ok (.return_, 1) := by decide +kernel
theorem dX5_streamAt_0 : decode cX5_streamAt 0 = .ok (.aload_n 0, 1) := by decide +kernel
theorem dX5_streamAt_1 : decode cX5_streamAt 1 = .ok (.getfield 21, 3) := by decide +kernel
theorem dX5_streamAt_4 : decode cX5_streamAt 4 = .ok (.iload_n 1, 1) := by decide +kernel
theorem dX5_streamAt_5 : decode cX5_streamAt 5 = .ok (.iaload, 1) := by decide +kernel
theorem dX5_streamAt_6 : decode cX5_streamAt 6 = .ok (.bipush 65, 2) := by decide +kernel
theorem dX5_streamAt_8 : decode cX5_streamAt 8 = .ok (.isub, 1) := by decide +kernel
theorem dX5_streamAt_9 : decode cX5_streamAt 9 = .ok (.ireturn, 1) := by decide +kernel
theorem dX5_byteAt_0 : decode cX5_byteAt 0 = .ok (.iconst 0, 1) := by decide +kernel
theorem dX5_byteAt_1 : decode cX5_byteAt 1 = .ok (.istore_n 2, 1) := by decide +kernel
theorem dX5_byteAt_2 : decode cX5_byteAt 2 = .ok (.iconst 0, 1) := by decide +kernel
theorem dX5_byteAt_3 : decode cX5_byteAt 3 = .ok (.istore_n 3, 1) := by decide +kernel
theorem dX5_byteAt_4 : decode cX5_byteAt 4 = .ok (.iload_n 3, 1) := by decide +kernel
theorem dX5_byteAt_5 : decode cX5_byteAt 5 = .ok (.aload_n 0, 1) := by decide +kernel
theorem dX5_byteAt_6 : decode cX5_byteAt 6 = .ok (.getfield 9, 3) := by decide +kernel
theorem dX5_byteAt_9 : decode cX5_byteAt 9 = .ok (.if_icmp .ge 71, 3) := by decide +kernel
theorem dX5_byteAt_12 : decode cX5_byteAt 12 = .ok (.aload_n 0, 1) := by decide +kernel
theorem dX5_byteAt_13 : decode cX5_byteAt 13 = .ok (.getfield 21, 3) := by decide +kernel
theorem dX5_byteAt_16 : decode cX5_byteAt 16 = .ok (.iload_n 3, 1) := by decide +kernel
theorem dX5_byteAt_17 : decode cX5_byteAt 17 = .ok (.iaload, 1) := by decide +kernel
theorem dX5_byteAt_18 : decode cX5_byteAt 18 = .ok (.istore 4, 2) := by decide +kernel
theorem dX5_byteAt_20 : decode cX5_byteAt 20 = .ok (.iload 4, 2) := by decide +kernel
theorem dX5_byteAt_22 : decode cX5_byteAt 22 = .ok (.invokestatic 39, 3) := by decide +kernel
theorem dX5_byteAt_25 : decode cX5_byteAt 25 = .ok (.istore 5, 2) := by decide +kernel
theorem dX5_byteAt_27 : decode cX5_byteAt 27 = .ok (.iload_n 2, 1) := by decide +kernel
theorem dX5_byteAt_28 : decode cX5_byteAt 28 = .ok (.iload_n 1, 1) := by decide +kernel
theorem dX5_byteAt_29 : decode cX5_byteAt 29 = .ok (.if_icmp .ne 16, 3) := by decide +kernel
theorem dX5_byteAt_32 : decode cX5_byteAt 32 = .ok (.iload 5, 2) := by decide +kernel
theorem dX5_byteAt_34 : decode cX5_byteAt 34 = .ok (.ifCond .eq 8, 3) := by decide +kernel
theorem dX5_byteAt_37 : decode cX5_byteAt 37 = .ok (.bipush 58, 2) := by decide +kernel
theorem dX5_byteAt_39 : decode cX5_byteAt 39 = .ok (.goto 5, 3) := by decide +kernel
theorem dX5_byteAt_42 : decode cX5_byteAt 42 = .ok (.iload 4, 2) := by decide +kernel
theorem dX5_byteAt_44 : decode cX5_byteAt 44 = .ok (.ireturn, 1) := by decide +kernel
theorem dX5_byteAt_45 : decode cX5_byteAt 45 = .ok (.iinc 2 1, 3) := by decide +kernel
theorem dX5_byteAt_48 : decode cX5_byteAt 48 = .ok (.iload 5, 2) := by decide +kernel
theorem dX5_byteAt_50 : decode cX5_byteAt 50 = .ok (.ifCond .ne 6, 3) := by decide +kernel
theorem dX5_byteAt_53 : decode cX5_byteAt 53 = .ok (.goto 21, 3) := by decide +kernel
theorem dX5_byteAt_56 : decode cX5_byteAt 56 = .ok (.iload_n 2, 1) := by decide +kernel
theorem dX5_byteAt_57 : decode cX5_byteAt 57 = .ok (.iload_n 1, 1) := by decide +kernel
theorem dX5_byteAt_58 : decode cX5_byteAt 58 = .ok (.if_icmp .ne 13, 3) := by decide +kernel
theorem dX5_byteAt_61 : decode cX5_byteAt 61 = .ok (.bipush 48, 2) := by decide +kernel
theorem dX5_byteAt_63 : decode cX5_byteAt 63 = .ok (.iload 4, 2) := by decide +kernel
theorem dX5_byteAt_65 : decode cX5_byteAt 65 = .ok (.sipush 128, 3) := by decide +kernel
theorem dX5_byteAt_68 : decode cX5_byteAt 68 = .ok (.isub, 1) := by decide +kernel
theorem dX5_byteAt_69 : decode cX5_byteAt 69 = .ok (.iadd, 1) := by decide +kernel
theorem dX5_byteAt_70 : decode cX5_byteAt 70 = .ok (.ireturn, 1) := by decide +kernel
theorem dX5_byteAt_71 : decode cX5_byteAt 71 = .ok (.iinc 2 1, 3) := by decide +kernel
theorem dX5_byteAt_74 : decode cX5_byteAt 74 = .ok (.iinc 3 1, 3) := by decide +kernel
theorem dX5_byteAt_77 : decode cX5_byteAt 77 = .ok (.goto (-73), 3) := by decide +kernel
theorem dX5_byteAt_80 : decode cX5_byteAt 80 = .ok (.bipush (-9), 2) := by decide +kernel
theorem dX5_byteAt_82 : decode cX5_byteAt 82 = .ok (.ireturn, 1) := by decide +kernel
theorem dX5_streamSet_0 : decode cX5_streamSet 0 = .ok (.iconst 0, 1) := by decide +kernel
theorem dX5_streamSet_1 : decode cX5_streamSet 1 = .ok (.istore_n 1, 1) := by decide +kernel
theorem dX5_streamSet_2 : decode cX5_streamSet 2 = .ok (.aload_n 0, 1) := by decide +kernel
theorem dX5_streamSet_3 : decode cX5_streamSet 3 = .ok (.getfield 36, 3) := by decide +kernel
theorem dX5_streamSet_6 : decode cX5_streamSet 6 = .ok (.astore_n 2, 1) := by decide +kernel
theorem dX5_streamSet_7 : decode cX5_streamSet 7 = .ok (.aload_n 2, 1) := by decide +kernel
theorem dX5_streamSet_8 : decode cX5_streamSet 8 = .ok (.arraylength, 1) := by decide +kernel
theorem dX5_streamSet_9 : decode cX5_streamSet 9 = .ok (.istore_n 3, 1) := by decide +kernel
theorem dX5_streamSet_10 : decode cX5_streamSet 10 = .ok (.iconst 0, 1) := by decide +kernel
theorem dX5_streamSet_11 : decode cX5_streamSet 11 = .ok (.istore 4, 2) := by decide +kernel
theorem dX5_streamSet_13 : decode cX5_streamSet 13 = .ok (.iload 4, 2) := by decide +kernel
theorem dX5_streamSet_15 : decode cX5_streamSet 15 = .ok (.iload_n 3, 1) := by decide +kernel
theorem dX5_streamSet_16 : decode cX5_streamSet 16 = .ok (.if_icmp .ge 26, 3) := by decide +kernel
theorem dX5_streamSet_19 : decode cX5_streamSet 19 = .ok (.aload_n 2, 1) := by decide +kernel
theorem dX5_streamSet_20 : decode cX5_streamSet 20 = .ok (.iload 4, 2) := by decide +kernel
theorem dX5_streamSet_22 : decode cX5_streamSet 22 = .ok (.iaload, 1) := by decide +kernel
theorem dX5_streamSet_23 : decode cX5_streamSet 23 = .ok (.istore 5, 2) := by decide +kernel
theorem dX5_streamSet_25 : decode cX5_streamSet 25 = .ok (.iload_n 1, 1) := by decide +kernel
theorem dX5_streamSet_26 : decode cX5_streamSet 26 = .ok (.iconst 1, 1) := by decide +kernel
theorem dX5_streamSet_27 : decode cX5_streamSet 27 = .ok (.aload_n 0, 1) := by decide +kernel
theorem dX5_streamSet_28 : decode cX5_streamSet 28 = .ok (.iload 5, 2) := by decide +kernel
theorem dX5_streamSet_30 : decode cX5_streamSet 30 = .ok (.invokevirtual 43, 3) := by decide +kernel
theorem dX5_streamSet_33 : decode cX5_streamSet 33 = .ok (.ishl, 1) := by decide +kernel
theorem dX5_streamSet_34 : decode cX5_streamSet 34 = .ok (.ior, 1) := by decide +kernel
theorem dX5_streamSet_35 : decode cX5_streamSet 35 = .ok (.istore_n 1, 1) := by decide +kernel
theorem dX5_streamSet_36 : decode cX5_streamSet 36 = .ok (.iinc 4 1, 3) := by decide +kernel
theorem dX5_streamSet_39 : decode cX5_streamSet 39 = .ok (.goto (-26), 3) := by decide +kernel
theorem dX5_streamSet_42 : decode cX5_streamSet 42 = .ok (.iload_n 1, 1) := by decide +kernel
theorem dX5_streamSet_43 : decode cX5_streamSet 43 = .ok (.ireturn, 1) := by decide +kernel
theorem dX5_isPlain_0 : decode cX5_isPlain 0 = .ok (.iconst 0, 1) := by decide +kernel
theorem dX5_isPlain_1 : decode cX5_isPlain 1 = .ok (.istore_n 1, 1) := by decide +kernel
theorem dX5_isPlain_2 : decode cX5_isPlain 2 = .ok (.iload_n 1, 1) := by decide +kernel
theorem dX5_isPlain_3 : decode cX5_isPlain 3 = .ok (.aload_n 0, 1) := by decide +kernel
theorem dX5_isPlain_4 : decode cX5_isPlain 4 = .ok (.getfield 9, 3) := by decide +kernel
theorem dX5_isPlain_7 : decode cX5_isPlain 7 = .ok (.if_icmp .ge 23, 3) := by decide +kernel
theorem dX5_isPlain_10 : decode cX5_isPlain 10 = .ok (.aload_n 0, 1) := by decide +kernel
theorem dX5_isPlain_11 : decode cX5_isPlain 11 = .ok (.getfield 21, 3) := by decide +kernel
theorem dX5_isPlain_14 : decode cX5_isPlain 14 = .ok (.iload_n 1, 1) := by decide +kernel
theorem dX5_isPlain_15 : decode cX5_isPlain 15 = .ok (.iaload, 1) := by decide +kernel
theorem dX5_isPlain_16 : decode cX5_isPlain 16 = .ok (.invokestatic 47, 3) := by decide +kernel
theorem dX5_isPlain_19 : decode cX5_isPlain 19 = .ok (.ifCond .ne 5, 3) := by decide +kernel
theorem dX5_isPlain_22 : decode cX5_isPlain 22 = .ok (.iconst 0, 1) := by decide +kernel
theorem dX5_isPlain_23 : decode cX5_isPlain 23 = .ok (.ireturn, 1) := by decide +kernel
theorem dX5_isPlain_24 : decode cX5_isPlain 24 = .ok (.iinc 1 1, 3) := by decide +kernel
theorem dX5_isPlain_27 : decode cX5_isPlain 27 = .ok (.goto (-25), 3) := by decide +kernel
theorem dX5_isPlain_30 : decode cX5_isPlain 30 = .ok (.iconst 1, 1) := by decide +kernel
theorem dX5_isPlain_31 : decode cX5_isPlain 31 = .ok (.ireturn, 1) := by decide +kernel
theorem dX5_sizeWith_0 : decode cX5_sizeWith 0 = .ok (.aload_n 0, 1) := by decide +kernel
theorem dX5_sizeWith_1 : decode cX5_sizeWith 1 = .ok (.getfield 9, 3) := by decide +kernel
theorem dX5_sizeWith_4 : decode cX5_sizeWith 4 = .ok (.istore_n 3, 1) := by decide +kernel
theorem dX5_sizeWith_5 : decode cX5_sizeWith 5 = .ok (.aload_n 0, 1) := by decide +kernel
theorem dX5_sizeWith_6 : decode cX5_sizeWith 6 = .ok (.getfield 36, 3) := by decide +kernel
theorem dX5_sizeWith_9 : decode cX5_sizeWith 9 = .ok (.astore 4, 2) := by decide +kernel
theorem dX5_sizeWith_11 : decode cX5_sizeWith 11 = .ok (.aload 4, 2) := by decide +kernel
theorem dX5_sizeWith_13 : decode cX5_sizeWith 13 = .ok (.arraylength, 1) := by decide +kernel
theorem dX5_sizeWith_14 : decode cX5_sizeWith 14 = .ok (.istore 5, 2) := by decide +kernel
theorem dX5_sizeWith_16 : decode cX5_sizeWith 16 = .ok (.iconst 0, 1) := by decide +kernel
theorem dX5_sizeWith_17 : decode cX5_sizeWith 17 = .ok (.istore 6, 2) := by decide +kernel
theorem dX5_sizeWith_19 : decode cX5_sizeWith 19 = .ok (.iload 6, 2) := by decide +kernel
theorem dX5_sizeWith_21 : decode cX5_sizeWith 21 = .ok (.iload 5, 2) := by decide +kernel
theorem dX5_sizeWith_23 : decode cX5_sizeWith 23 = .ok (.if_icmp .ge 35, 3) := by decide +kernel
theorem dX5_sizeWith_26 : decode cX5_sizeWith 26 = .ok (.aload 4, 2) := by decide +kernel
theorem dX5_sizeWith_28 : decode cX5_sizeWith 28 = .ok (.iload 6, 2) := by decide +kernel
theorem dX5_sizeWith_30 : decode cX5_sizeWith 30 = .ok (.iaload, 1) := by decide +kernel
theorem dX5_sizeWith_31 : decode cX5_sizeWith 31 = .ok (.istore 7, 2) := by decide +kernel
theorem dX5_sizeWith_33 : decode cX5_sizeWith 33 = .ok (.aload_n 0, 1) := by decide +kernel
theorem dX5_sizeWith_34 : decode cX5_sizeWith 34 = .ok (.iload 7, 2) := by decide +kernel
theorem dX5_sizeWith_36 : decode cX5_sizeWith 36 = .ok (.invokevirtual 43, 3) := by decide +kernel
theorem dX5_sizeWith_39 : decode cX5_sizeWith 39 = .ok (.iload_n 1, 1) := by decide +kernel
theorem dX5_sizeWith_40 : decode cX5_sizeWith 40 = .ok (.if_icmp .ne 12, 3) := by decide +kernel
theorem dX5_sizeWith_43 : decode cX5_sizeWith 43 = .ok (.iload_n 3, 1) := by decide +kernel
theorem dX5_sizeWith_44 : decode cX5_sizeWith 44 = .ok (.aload_n 2, 1) := by decide +kernel
theorem dX5_sizeWith_45 : decode cX5_sizeWith 45 = .ok (.getfield 9, 3) := by decide +kernel
theorem dX5_sizeWith_48 : decode cX5_sizeWith 48 = .ok (.iconst 1, 1) := by decide +kernel
theorem dX5_sizeWith_49 : decode cX5_sizeWith 49 = .ok (.isub, 1) := by decide +kernel
theorem dX5_sizeWith_50 : decode cX5_sizeWith 50 = .ok (.iadd, 1) := by decide +kernel
theorem dX5_sizeWith_51 : decode cX5_sizeWith 51 = .ok (.istore_n 3, 1) := by decide +kernel
theorem dX5_sizeWith_52 : decode cX5_sizeWith 52 = .ok (.iinc 6 1, 3) := by decide +kernel
theorem dX5_sizeWith_55 : decode cX5_sizeWith 55 = .ok (.goto (-36), 3) := by decide +kernel
theorem dX5_sizeWith_58 : decode cX5_sizeWith 58 = .ok (.iload_n 3, 1) := by decide +kernel
theorem dX5_sizeWith_59 : decode cX5_sizeWith 59 = .ok (.ireturn, 1) := by decide +kernel
theorem dX5_with_0 : decode cX5_with 0 = .ok (.aload_n 0, 1) := by decide +kernel
theorem dX5_with_1 : decode cX5_with 1 = .ok (.iload_n 1, 1) := by decide +kernel
theorem dX5_with_2 : decode cX5_with 2 = .ok (.aload_n 2, 1) := by decide +kernel
theorem dX5_with_3 : decode cX5_with 3 = .ok (.invokevirtual 50, 3) := by decide +kernel
theorem dX5_with_6 : decode cX5_with 6 = .ok (.newarray .int, 2) := by decide +kernel
theorem dX5_with_8 : decode cX5_with 8 = .ok (.astore_n 3, 1) := by decide +kernel
theorem dX5_with_9 : decode cX5_with 9 = .ok (.iconst 0, 1) := by decide +kernel
theorem dX5_with_10 : decode cX5_with 10 = .ok (.istore 4, 2) := by decide +kernel
theorem dX5_with_12 : decode cX5_with 12 = .ok (.iconst 0, 1) := by decide +kernel
theorem dX5_with_13 : decode cX5_with 13 = .ok (.istore 5, 2) := by decide +kernel
theorem dX5_with_15 : decode cX5_with 15 = .ok (.iload 5, 2) := by decide +kernel
theorem dX5_with_17 : decode cX5_with 17 = .ok (.aload_n 0, 1) := by decide +kernel
theorem dX5_with_18 : decode cX5_with 18 = .ok (.getfield 9, 3) := by decide +kernel
theorem dX5_with_21 : decode cX5_with 21 = .ok (.if_icmp .ge 64, 3) := by decide +kernel
theorem dX5_with_24 : decode cX5_with 24 = .ok (.aload_n 0, 1) := by decide +kernel
theorem dX5_with_25 : decode cX5_with 25 = .ok (.getfield 21, 3) := by decide +kernel
theorem dX5_with_28 : decode cX5_with 28 = .ok (.iload 5, 2) := by decide +kernel
theorem dX5_with_30 : decode cX5_with 30 = .ok (.iaload, 1) := by decide +kernel
theorem dX5_with_31 : decode cX5_with 31 = .ok (.bipush 65, 2) := by decide +kernel
theorem dX5_with_33 : decode cX5_with 33 = .ok (.iload_n 1, 1) := by decide +kernel
theorem dX5_with_34 : decode cX5_with 34 = .ok (.iadd, 1) := by decide +kernel
theorem dX5_with_35 : decode cX5_with 35 = .ok (.if_icmp .ne 30, 3) := by decide +kernel
theorem dX5_with_38 : decode cX5_with 38 = .ok (.aload_n 2, 1) := by decide +kernel
theorem dX5_with_39 : decode cX5_with 39 = .ok (.getfield 21, 3) := by decide +kernel
theorem dX5_with_42 : decode cX5_with 42 = .ok (.iconst 0, 1) := by decide +kernel
theorem dX5_with_43 : decode cX5_with 43 = .ok (.aload_n 3, 1) := by decide +kernel
theorem dX5_with_44 : decode cX5_with 44 = .ok (.iload 4, 2) := by decide +kernel
theorem dX5_with_46 : decode cX5_with 46 = .ok (.aload_n 2, 1) := by decide +kernel
theorem dX5_with_47 : decode cX5_with 47 = .ok (.getfield 9, 3) := by decide +kernel
theorem dX5_with_50 : decode cX5_with 50 = .ok (.invokestatic 54, 3) := by decide +kernel
theorem dX5_with_53 : decode cX5_with 53 = .ok (.iload 4, 2) := by decide +kernel
theorem dX5_with_55 : decode cX5_with 55 = .ok (.aload_n 2, 1) := by decide +kernel
theorem dX5_with_56 : decode cX5_with 56 = .ok (.getfield 9, 3) := by decide +kernel
theorem dX5_with_59 : decode cX5_with 59 = .ok (.iadd, 1) := by decide +kernel
theorem dX5_with_60 : decode cX5_with 60 = .ok (.istore 4, 2) := by decide +kernel
theorem dX5_with_62 : decode cX5_with 62 = .ok (.goto 17, 3) := by decide +kernel
theorem dX5_with_65 : decode cX5_with 65 = .ok (.aload_n 3, 1) := by decide +kernel
theorem dX5_with_66 : decode cX5_with 66 = .ok (.iload 4, 2) := by decide +kernel
theorem dX5_with_68 : decode cX5_with 68 = .ok (.aload_n 0, 1) := by decide +kernel
theorem dX5_with_69 : decode cX5_with 69 = .ok (.getfield 21, 3) := by decide +kernel
theorem dX5_with_72 : decode cX5_with 72 = .ok (.iload 5, 2) := by decide +kernel
theorem dX5_with_74 : decode cX5_with 74 = .ok (.iaload, 1) := by decide +kernel
theorem dX5_with_75 : decode cX5_with 75 = .ok (.iastore, 1) := by decide +kernel
theorem dX5_with_76 : decode cX5_with 76 = .ok (.iinc 4 1, 3) := by decide +kernel
theorem dX5_with_79 : decode cX5_with 79 = .ok (.iinc 5 1, 3) := by decide +kernel
theorem dX5_with_82 : decode cX5_with 82 = .ok (.goto (-67), 3) := by decide +kernel
theorem dX5_with_85 : decode cX5_with 85 = .ok (.new 10, 3) := by decide +kernel
theorem dX5_with_88 : decode cX5_with 88 = .ok (.dup, 1) := by decide +kernel
theorem dX5_with_89 : decode cX5_with 89 = .ok (.aload_n 3, 1) := by decide +kernel
theorem dX5_with_90 : decode cX5_with 90 = .ok (.iload 4, 2) := by decide +kernel
theorem dX5_with_92 : decode cX5_with 92 = .ok (.invokespecial 60, 3) := by decide +kernel
theorem dX5_with_95 : decode cX5_with 95 = .ok (.areturn, 1) := by decide +kernel
theorem dX6_init_0 : decode cX6_init 0 = .ok (.aload_n 0, 1) := by decide +kernel
theorem dX6_init_1 : decode cX6_init 1 = .ok (.invokespecial 3, 3) := by decide +kernel
theorem dX6_init_4 : decode cX6_init 4 = .ok (.aload_n 0, 1) := by decide +kernel
theorem dX6_init_5 : decode cX6_init 5 = .ok (.bipush 80, 2) := by decide +kernel
theorem dX6_init_7 : decode cX6_init 7 = .ok (.newarray .int, 2) := by decide +kernel
theorem dX6_init_9 : decode cX6_init 9 = .ok (.putfield 11, 3) := by decide +kernel
theorem dX6_init_12 : decode cX6_init 12 = .ok (.aload_n 0, 1) := by decide +kernel
theorem dX6_init_13 : decode cX6_init 13 = .ok (.bipush 80, 2) := by decide +kernel
theorem dX6_init_15 : decode cX6_init 15 = .ok (.newarray .int, 2) := by decide +kernel
theorem dX6_init_17 : decode cX6_init 17 = .ok (.putfield 15, 3) := by decide +kernel
theorem dX6_init_20 : decode cX6_init 20 = .ok (.return_, 1) := by decide +kernel
theorem dX6_append_0 : decode cX6_append 0 = .ok (.aload_n 0, 1) := by decide +kernel
theorem dX6_append_1 : decode cX6_append 1 = .ok (.getfield 18, 3) := by decide +kernel
theorem dX6_append_4 : decode cX6_append 4 = .ok (.bipush 80, 2) := by decide +kernel
theorem dX6_append_6 : decode cX6_append 6 = .ok (.if_icmp .lt 6, 3) := by decide +kernel
theorem dX6_append_9 : decode cX6_append 9 = .ok (.bipush (-3), 2) := by decide +kernel
theorem dX6_append_11 : decode cX6_append 11 = .ok (.ireturn, 1) := by decide +kernel
theorem dX6_append_12 : decode cX6_append 12 = .ok (.aload_n 0, 1) := by decide +kernel
theorem dX6_append_13 : decode cX6_append 13 = .ok (.getfield 11, 3) := by decide +kernel
theorem dX6_append_16 : decode cX6_append 16 = .ok (.aload_n 0, 1) := by decide +kernel
theorem dX6_append_17 : decode cX6_append 17 = .ok (.getfield 18, 3) := by decide +kernel
theorem dX6_append_20 : decode cX6_append 20 = .ok (.iload_n 1, 1) := by decide +kernel
theorem dX6_append_21 : decode cX6_append 21 = .ok (.iastore, 1) := by decide +kernel
theorem dX6_append_22 : decode cX6_append 22 = .ok (.aload_n 0, 1) := by decide +kernel
theorem dX6_append_23 : decode cX6_append 23 = .ok (.dup, 1) := by decide +kernel
theorem dX6_append_24 : decode cX6_append 24 = .ok (.getfield 18, 3) := by decide +kernel
theorem dX6_append_27 : decode cX6_append 27 = .ok (.iconst 1, 1) := by decide +kernel
theorem dX6_append_28 : decode cX6_append 28 = .ok (.iadd, 1) := by decide +kernel
theorem dX6_append_29 : decode cX6_append 29 = .ok (.putfield 18, 3) := by decide +kernel
theorem dX6_append_32 : decode cX6_append 32 = .ok (.aload_n 0, 1) := by decide +kernel
theorem dX6_append_33 : decode cX6_append 33 = .ok (.getfield 18, 3) := by decide +kernel
theorem dX6_append_36 : decode cX6_append 36 = .ok (.ireturn, 1) := by decide +kernel
theorem dX6_empty_0 : decode cX6_empty 0 = .ok (.aload_n 0, 1) := by decide +kernel
theorem dX6_empty_1 : decode cX6_empty 1 = .ok (.getfield 18, 3) := by decide +kernel
theorem dX6_empty_4 : decode cX6_empty 4 = .ok (.istore_n 1, 1) := by decide +kernel
theorem dX6_empty_5 : decode cX6_empty 5 = .ok (.aload_n 0, 1) := by decide +kernel
theorem dX6_empty_6 : decode cX6_empty 6 = .ok (.iconst 0, 1) := by decide +kernel
theorem dX6_empty_7 : decode cX6_empty 7 = .ok (.putfield 18, 3) := by decide +kernel
theorem dX6_empty_10 : decode cX6_empty 10 = .ok (.iload_n 1, 1) := by decide +kernel
theorem dX6_empty_11 : decode cX6_empty 11 = .ok (.ireturn, 1) := by decide +kernel
theorem dX6_firstFault_0 : decode cX6_firstFault 0 = .ok (.iconst 1, 1) := by decide +kernel
theorem dX6_firstFault_1 : decode cX6_firstFault 1 = .ok (.istore_n 1, 1) := by decide +kernel
theorem dX6_firstFault_2 : decode cX6_firstFault 2 = .ok (.iconst 0, 1) := by decide +kernel
theorem dX6_firstFault_3 : decode cX6_firstFault 3 = .ok (.istore_n 2, 1) := by decide +kernel
theorem dX6_firstFault_4 : decode cX6_firstFault 4 = .ok (.iconst 0, 1) := by decide +kernel
theorem dX6_firstFault_5 : decode cX6_firstFault 5 = .ok (.istore_n 3, 1) := by decide +kernel
theorem dX6_firstFault_6 : decode cX6_firstFault 6 = .ok (.iload_n 3, 1) := by decide +kernel
theorem dX6_firstFault_7 : decode cX6_firstFault 7 = .ok (.aload_n 0, 1) := by decide +kernel
theorem dX6_firstFault_8 : decode cX6_firstFault 8 = .ok (.getfield 18, 3) := by decide +kernel
theorem dX6_firstFault_11 : decode cX6_firstFault 11 = .ok (.if_icmp .ge 84, 3) := by decide +kernel
theorem dX6_firstFault_14 : decode cX6_firstFault 14 = .ok (.aload_n 0, 1) := by decide +kernel
theorem dX6_firstFault_15 : decode cX6_firstFault 15 = .ok (.getfield 11, 3) := by decide +kernel
theorem dX6_firstFault_18 : decode cX6_firstFault 18 = .ok (.iload_n 3, 1) := by decide +kernel
theorem dX6_firstFault_19 : decode cX6_firstFault 19 = .ok (.iaload, 1) := by decide +kernel
theorem dX6_firstFault_20 : decode cX6_firstFault 20 = .ok (.istore 4, 2) := by decide +kernel
theorem dX6_firstFault_22 : decode cX6_firstFault 22 = .ok (.iload 4, 2) := by decide +kernel
theorem dX6_firstFault_24 : decode cX6_firstFault 24 = .ok (.bipush 32, 2) := by decide +kernel
theorem dX6_firstFault_26 : decode cX6_firstFault 26 = .ok (.if_icmp .ne 6, 3) := by decide +kernel
theorem dX6_firstFault_29 : decode cX6_firstFault 29 = .ok (.goto 60, 3) := by decide +kernel
theorem dX6_firstFault_32 : decode cX6_firstFault 32 = .ok (.iload_n 2, 1) := by decide +kernel
theorem dX6_firstFault_33 : decode cX6_firstFault 33 = .ok (.ifCond .eq 18, 3) := by decide +kernel
theorem dX6_firstFault_36 : decode cX6_firstFault 36 = .ok (.iload 4, 2) := by decide +kernel
theorem dX6_firstFault_38 : decode cX6_firstFault 38 = .ok (.invokestatic 22, 3) := by decide +kernel
theorem dX6_firstFault_41 : decode cX6_firstFault 41 = .ok (.ifCond .ne 5, 3) := by decide +kernel
theorem dX6_firstFault_44 : decode cX6_firstFault 44 = .ok (.iload_n 3, 1) := by decide +kernel
theorem dX6_firstFault_45 : decode cX6_firstFault 45 = .ok (.ireturn, 1) := by decide +kernel
theorem dX6_firstFault_46 : decode cX6_firstFault 46 = .ok (.iconst 0, 1) := by decide +kernel
theorem dX6_firstFault_47 : decode cX6_firstFault 47 = .ok (.istore_n 2, 1) := by decide +kernel
theorem dX6_firstFault_48 : decode cX6_firstFault 48 = .ok (.goto 41, 3) := by decide +kernel
theorem dX6_firstFault_51 : decode cX6_firstFault 51 = .ok (.iload 4, 2) := by decide +kernel
theorem dX6_firstFault_53 : decode cX6_firstFault 53 = .ok (.invokestatic 28, 3) := by decide +kernel
theorem dX6_firstFault_56 : decode cX6_firstFault 56 = .ok (.istore 5, 2) := by decide +kernel
theorem dX6_firstFault_58 : decode cX6_firstFault 58 = .ok (.iload_n 1, 1) := by decide +kernel
theorem dX6_firstFault_59 : decode cX6_firstFault 59 = .ok (.ifCond .eq 8, 3) := by decide +kernel
theorem dX6_firstFault_62 : decode cX6_firstFault 62 = .ok (.iload 5, 2) := by decide +kernel
theorem dX6_firstFault_64 : decode cX6_firstFault 64 = .ok (.ifCond .ge 5, 3) := by decide +kernel
theorem dX6_firstFault_67 : decode cX6_firstFault 67 = .ok (.iload_n 3, 1) := by decide +kernel
theorem dX6_firstFault_68 : decode cX6_firstFault 68 = .ok (.ireturn, 1) := by decide +kernel
theorem dX6_firstFault_69 : decode cX6_firstFault 69 = .ok (.iload_n 1, 1) := by decide +kernel
theorem dX6_firstFault_70 : decode cX6_firstFault 70 = .ok (.iload 5, 2) := by decide +kernel
theorem dX6_firstFault_72 : decode cX6_firstFault 72 = .ok (.iconst 1, 1) := by decide +kernel
theorem dX6_firstFault_73 : decode cX6_firstFault 73 = .ok (.isub, 1) := by decide +kernel
theorem dX6_firstFault_74 : decode cX6_firstFault 74 = .ok (.iadd, 1) := by decide +kernel
theorem dX6_firstFault_75 : decode cX6_firstFault 75 = .ok (.istore_n 1, 1) := by decide +kernel
theorem dX6_firstFault_76 : decode cX6_firstFault 76 = .ok (.iload 4, 2) := by decide +kernel
theorem dX6_firstFault_78 : decode cX6_firstFault 78 = .ok (.bipush 58, 2) := by decide +kernel
theorem dX6_firstFault_80 : decode cX6_firstFault 80 = .ok (.if_icmp .ne 7, 3) := by decide +kernel
theorem dX6_firstFault_83 : decode cX6_firstFault 83 = .ok (.iconst 1, 1) := by decide +kernel
theorem dX6_firstFault_84 : decode cX6_firstFault 84 = .ok (.goto 4, 3) := by decide +kernel
theorem dX6_firstFault_87 : decode cX6_firstFault 87 = .ok (.iconst 0, 1) := by decide +kernel
theorem dX6_firstFault_88 : decode cX6_firstFault 88 = .ok (.istore_n 2, 1) := by decide +kernel
theorem dX6_firstFault_89 : decode cX6_firstFault 89 = .ok (.iinc 3 1, 3) := by decide +kernel
theorem dX6_firstFault_92 : decode cX6_firstFault 92 = .ok (.goto (-86), 3) := by decide +kernel
theorem dX6_firstFault_95 : decode cX6_firstFault 95 = .ok (.iload_n 1, 1) := by decide +kernel
theorem dX6_firstFault_96 : decode cX6_firstFault 96 = .ok (.ifCond .le 10, 3) := by decide +kernel
theorem dX6_firstFault_99 : decode cX6_firstFault 99 = .ok (.aload_n 0, 1) := by decide +kernel
theorem dX6_firstFault_100 : decode cX6_firstFault 100 = .ok (.getfield 18, 3) := by decide +kernel
theorem dX6_firstFault_103 : decode cX6_firstFault 103 = .ok (.goto 5, 3) := by decide +kernel
theorem dX6_firstFault_106 : decode cX6_firstFault 106 = .ok (.bipush (-9), 2) := by decide +kernel
theorem dX6_firstFault_108 : decode cX6_firstFault 108 = .ok (.ireturn, 1) := by decide +kernel
theorem dX6_read_0 : decode cX6_read 0 = .ok (.iconst 0, 1) := by decide +kernel
theorem dX6_read_1 : decode cX6_read 1 = .ok (.istore_n 1, 1) := by decide +kernel
theorem dX6_read_2 : decode cX6_read 2 = .ok (.iconst 0, 1) := by decide +kernel
theorem dX6_read_3 : decode cX6_read 3 = .ok (.istore_n 2, 1) := by decide +kernel
theorem dX6_read_4 : decode cX6_read 4 = .ok (.iconst 0, 1) := by decide +kernel
theorem dX6_read_5 : decode cX6_read 5 = .ok (.istore_n 3, 1) := by decide +kernel
theorem dX6_read_6 : decode cX6_read 6 = .ok (.iload_n 3, 1) := by decide +kernel
theorem dX6_read_7 : decode cX6_read 7 = .ok (.aload_n 0, 1) := by decide +kernel
theorem dX6_read_8 : decode cX6_read 8 = .ok (.getfield 18, 3) := by decide +kernel
theorem dX6_read_11 : decode cX6_read 11 = .ok (.if_icmp .ge 68, 3) := by decide +kernel
theorem dX6_read_14 : decode cX6_read 14 = .ok (.aload_n 0, 1) := by decide +kernel
theorem dX6_read_15 : decode cX6_read 15 = .ok (.getfield 11, 3) := by decide +kernel
theorem dX6_read_18 : decode cX6_read 18 = .ok (.iload_n 3, 1) := by decide +kernel
theorem dX6_read_19 : decode cX6_read 19 = .ok (.iaload, 1) := by decide +kernel
theorem dX6_read_20 : decode cX6_read 20 = .ok (.istore 4, 2) := by decide +kernel
theorem dX6_read_22 : decode cX6_read 22 = .ok (.iload 4, 2) := by decide +kernel
theorem dX6_read_24 : decode cX6_read 24 = .ok (.bipush 32, 2) := by decide +kernel
theorem dX6_read_26 : decode cX6_read 26 = .ok (.if_icmp .ne 6, 3) := by decide +kernel
theorem dX6_read_29 : decode cX6_read 29 = .ok (.goto 44, 3) := by decide +kernel
theorem dX6_read_32 : decode cX6_read 32 = .ok (.iload 4, 2) := by decide +kernel
theorem dX6_read_34 : decode cX6_read 34 = .ok (.bipush 58, 2) := by decide +kernel
theorem dX6_read_36 : decode cX6_read 36 = .ok (.if_icmp .ne 8, 3) := by decide +kernel
theorem dX6_read_39 : decode cX6_read 39 = .ok (.iconst 1, 1) := by decide +kernel
theorem dX6_read_40 : decode cX6_read 40 = .ok (.istore_n 2, 1) := by decide +kernel
theorem dX6_read_41 : decode cX6_read 41 = .ok (.goto 32, 3) := by decide +kernel
theorem dX6_read_44 : decode cX6_read 44 = .ok (.aload_n 0, 1) := by decide +kernel
theorem dX6_read_45 : decode cX6_read 45 = .ok (.getfield 15, 3) := by decide +kernel
theorem dX6_read_48 : decode cX6_read 48 = .ok (.iload_n 1, 1) := by decide +kernel
theorem dX6_read_49 : decode cX6_read 49 = .ok (.iload_n 2, 1) := by decide +kernel
theorem dX6_read_50 : decode cX6_read 50 = .ok (.ifCond .eq 15, 3) := by decide +kernel
theorem dX6_read_53 : decode cX6_read 53 = .ok (.sipush 128, 3) := by decide +kernel
theorem dX6_read_56 : decode cX6_read 56 = .ok (.iload 4, 2) := by decide +kernel
theorem dX6_read_58 : decode cX6_read 58 = .ok (.bipush 48, 2) := by decide +kernel
theorem dX6_read_60 : decode cX6_read 60 = .ok (.isub, 1) := by decide +kernel
theorem dX6_read_61 : decode cX6_read 61 = .ok (.iadd, 1) := by decide +kernel
theorem dX6_read_62 : decode cX6_read 62 = .ok (.goto 5, 3) := by decide +kernel
theorem dX6_read_65 : decode cX6_read 65 = .ok (.iload 4, 2) := by decide +kernel
theorem dX6_read_67 : decode cX6_read 67 = .ok (.iastore, 1) := by decide +kernel
theorem dX6_read_68 : decode cX6_read 68 = .ok (.iinc 1 1, 3) := by decide +kernel
theorem dX6_read_71 : decode cX6_read 71 = .ok (.iconst 0, 1) := by decide +kernel
theorem dX6_read_72 : decode cX6_read 72 = .ok (.istore_n 2, 1) := by decide +kernel
theorem dX6_read_73 : decode cX6_read 73 = .ok (.iinc 3 1, 3) := by decide +kernel
theorem dX6_read_76 : decode cX6_read 76 = .ok (.goto (-70), 3) := by decide +kernel
theorem dX6_read_79 : decode cX6_read 79 = .ok (.new 32, 3) := by decide +kernel
theorem dX6_read_82 : decode cX6_read 82 = .ok (.dup, 1) := by decide +kernel
theorem dX6_read_83 : decode cX6_read 83 = .ok (.aload_n 0, 1) := by decide +kernel
theorem dX6_read_84 : decode cX6_read 84 = .ok (.getfield 15, 3) := by decide +kernel
theorem dX6_read_87 : decode cX6_read 87 = .ok (.iload_n 1, 1) := by decide +kernel
theorem dX6_read_88 : decode cX6_read 88 = .ok (.invokespecial 34, 3) := by decide +kernel
theorem dX6_read_91 : decode cX6_read 91 = .ok (.areturn, 1) := by decide +kernel
theorem dX7_init_0 : decode cX7_init 0 = .ok (.aload_n 0, 1) := by decide +kernel
theorem dX7_init_1 : decode cX7_init 1 = .ok (.invokespecial 3, 3) := by decide +kernel
theorem dX7_init_4 : decode cX7_init 4 = .ok (.aload_n 0, 1) := by decide +kernel
theorem dX7_init_5 : decode cX7_init 5 = .ok (.sipush 3200, 3) := by decide +kernel
theorem dX7_init_8 : decode cX7_init 8 = .ok (.newarray .int, 2) := by decide +kernel
theorem dX7_init_10 : decode cX7_init 10 = .ok (.putfield 9, 3) := by decide +kernel
theorem dX7_init_13 : decode cX7_init 13 = .ok (.aload_n 0, 1) := by decide +kernel
theorem dX7_init_14 : decode cX7_init 14 = .ok (.aload_n 1, 1) := by decide +kernel
theorem dX7_init_15 : decode cX7_init 15 = .ok (.putfield 15, 3) := by decide +kernel
theorem dX7_init_18 : decode cX7_init 18 = .ok (.aload_n 0, 1) := by decide +kernel
theorem dX7_init_19 : decode cX7_init 19 = .ok (.aload_n 2, 1) := by decide +kernel
theorem dX7_init_20 : decode cX7_init 20 = .ok (.putfield 19, 3) := by decide +kernel
theorem dX7_init_23 : decode cX7_init 23 = .ok (.return_, 1) := by decide +kernel
theorem dX7_rankIn_0 : decode cX7_rankIn 0 = .ok (.iload_n 0, 1) := by decide +kernel
theorem dX7_rankIn_1 : decode cX7_rankIn 1 = .ok (.bipush 16, 2) := by decide +kernel
theorem dX7_rankIn_3 : decode cX7_rankIn 3 = .ok (.idiv, 1) := by decide +kernel
theorem dX7_rankIn_4 : decode cX7_rankIn 4 = .ok (.iconst 1, 1) := by decide +kernel
theorem dX7_rankIn_5 : decode cX7_rankIn 5 = .ok (.isub, 1) := by decide +kernel
theorem dX7_rankIn_6 : decode cX7_rankIn 6 = .ok (.ireturn, 1) := by decide +kernel
theorem dX7_forget_0 : decode cX7_forget 0 = .ok (.aload_n 0, 1) := by decide +kernel
theorem dX7_forget_1 : decode cX7_forget 1 = .ok (.getfield 23, 3) := by decide +kernel
theorem dX7_forget_4 : decode cX7_forget 4 = .ok (.ifCond .eq 16, 3) := by decide +kernel
theorem dX7_forget_7 : decode cX7_forget 7 = .ok (.aload_n 0, 1) := by decide +kernel
theorem dX7_forget_8 : decode cX7_forget 8 = .ok (.getfield 9, 3) := by decide +kernel
theorem dX7_forget_11 : decode cX7_forget 11 = .ok (.iconst 0, 1) := by decide +kernel
theorem dX7_forget_12 : decode cX7_forget 12 = .ok (.invokestatic 27, 3) := by decide +kernel
theorem dX7_forget_15 : decode cX7_forget 15 = .ok (.aload_n 0, 1) := by decide +kernel
theorem dX7_forget_16 : decode cX7_forget 16 = .ok (.iconst 0, 1) := by decide +kernel
theorem dX7_forget_17 : decode cX7_forget 17 = .ok (.putfield 23, 3) := by decide +kernel
theorem dX7_forget_20 : decode cX7_forget 20 = .ok (.return_, 1) := by decide +kernel
theorem dX7_find_0 : decode cX7_find 0 = .ok (.iload_n 1, 1) := by decide +kernel
theorem dX7_find_1 : decode cX7_find 1 = .ok (.sipush 400, 3) := by decide +kernel
theorem dX7_find_4 : decode cX7_find 4 = .ok (.imul, 1) := by decide +kernel
theorem dX7_find_5 : decode cX7_find 5 = .ok (.iload_n 2, 1) := by decide +kernel
theorem dX7_find_6 : decode cX7_find 6 = .ok (.iadd, 1) := by decide +kernel
theorem dX7_find_7 : decode cX7_find 7 = .ok (.istore_n 3, 1) := by decide +kernel
theorem dX7_find_8 : decode cX7_find 8 = .ok (.aload_n 0, 1) := by decide +kernel
theorem dX7_find_9 : decode cX7_find 9 = .ok (.getfield 9, 3) := by decide +kernel
theorem dX7_find_12 : decode cX7_find 12 = .ok (.iload_n 3, 1) := by decide +kernel
theorem dX7_find_13 : decode cX7_find 13 = .ok (.iaload, 1) := by decide +kernel
theorem dX7_find_14 : decode cX7_find 14 = .ok (.ifCond .ne 8, 3) := by decide +kernel
theorem dX7_find_17 : decode cX7_find 17 = .ok (.aload_n 0, 1) := by decide +kernel
theorem dX7_find_18 : decode cX7_find 18 = .ok (.iload_n 3, 1) := by decide +kernel
theorem dX7_find_19 : decode cX7_find 19 = .ok (.invokevirtual 33, 3) := by decide +kernel
theorem dX7_find_22 : decode cX7_find 22 = .ok (.return_, 1) := by decide +kernel
theorem dX7_findAll_0 : decode cX7_findAll 0 = .ok (.iload_n 1, 1) := by decide +kernel
theorem dX7_findAll_1 : decode cX7_findAll 1 = .ok (.sipush 400, 3) := by decide +kernel
theorem dX7_findAll_4 : decode cX7_findAll 4 = .ok (.imul, 1) := by decide +kernel
theorem dX7_findAll_5 : decode cX7_findAll 5 = .ok (.istore_n 2, 1) := by decide +kernel
theorem dX7_findAll_6 : decode cX7_findAll 6 = .ok (.iload_n 2, 1) := by decide +kernel
theorem dX7_findAll_7 : decode cX7_findAll 7 = .ok (.iload_n 1, 1) := by decide +kernel
theorem dX7_findAll_8 : decode cX7_findAll 8 = .ok (.iconst 1, 1) := by decide +kernel
theorem dX7_findAll_9 : decode cX7_findAll 9 = .ok (.iadd, 1) := by decide +kernel
theorem dX7_findAll_10 : decode cX7_findAll 10 = .ok (.sipush 400, 3) := by decide +kernel
theorem dX7_findAll_13 : decode cX7_findAll 13 = .ok (.imul, 1) := by decide +kernel
theorem dX7_findAll_14 : decode cX7_findAll 14 = .ok (.if_icmp .ge 23, 3) := by decide +kernel
theorem dX7_findAll_17 : decode cX7_findAll 17 = .ok (.aload_n 0, 1) := by decide +kernel
theorem dX7_findAll_18 : decode cX7_findAll 18 = .ok (.getfield 9, 3) := by decide +kernel
theorem dX7_findAll_21 : decode cX7_findAll 21 = .ok (.iload_n 2, 1) := by decide +kernel
theorem dX7_findAll_22 : decode cX7_findAll 22 = .ok (.iaload, 1) := by decide +kernel
theorem dX7_findAll_23 : decode cX7_findAll 23 = .ok (.ifCond .ne 8, 3) := by decide +kernel
theorem dX7_findAll_26 : decode cX7_findAll 26 = .ok (.aload_n 0, 1) := by decide +kernel
theorem dX7_findAll_27 : decode cX7_findAll 27 = .ok (.iload_n 2, 1) := by decide +kernel
theorem dX7_findAll_28 : decode cX7_findAll 28 = .ok (.invokevirtual 33, 3) := by decide +kernel
theorem dX7_findAll_31 : decode cX7_findAll 31 = .ok (.iinc 2 1, 3) := by decide +kernel
theorem dX7_findAll_34 : decode cX7_findAll 34 = .ok (.goto (-28), 3) := by decide +kernel
theorem dX7_findAll_37 : decode cX7_findAll 37 = .ok (.return_, 1) := by decide +kernel
theorem dX7_findUpToReach_0 : decode cX7_findUpToReach 0 = .ok (.iconst 1, 1) := by decide +kernel
theorem dX7_findUpToReach_1 : decode cX7_findUpToReach 1 = .ok (.istore_n 2, 1) := by decide +kernel
theorem dX7_findUpToReach_2 : decode cX7_findUpToReach 2 = .ok (.iload_n 1, 1) := by decide +kernel
theorem dX7_findUpToReach_3 : decode cX7_findUpToReach 3 = .ok (.sipush 400, 3) := by decide +kernel
theorem dX7_findUpToReach_6 : decode cX7_findUpToReach 6 = .ok (.imul, 1) := by decide +kernel
theorem dX7_findUpToReach_7 : decode cX7_findUpToReach 7 = .ok (.istore_n 3, 1) := by decide +kernel
theorem dX7_findUpToReach_8 : decode cX7_findUpToReach 8 = .ok (.iload_n 3, 1) := by decide +kernel
theorem dX7_findUpToReach_9 : decode cX7_findUpToReach 9 = .ok (.iload_n 1, 1) := by decide +kernel
theorem dX7_findUpToReach_10 : decode cX7_findUpToReach 10 = .ok (.iconst 1, 1) := by decide +kernel
theorem dX7_findUpToReach_11 : decode cX7_findUpToReach 11 = .ok (.iadd, 1) := by decide +kernel
theorem dX7_findUpToReach_12 : decode cX7_findUpToReach 12 = .ok (.sipush 400, 3) := by decide +kernel
theorem dX7_findUpToReach_15 : decode cX7_findUpToReach 15 = .ok (.imul, 1) := by decide +kernel
theorem dX7_findUpToReach_16 : decode cX7_findUpToReach 16 = .ok (.if_icmp .ge 44, 3) := by decide +kernel
theorem dX7_findUpToReach_19 : decode cX7_findUpToReach 19 = .ok (.iload_n 2, 1) := by decide +kernel
theorem dX7_findUpToReach_20 : decode cX7_findUpToReach 20 = .ok (.ifCond .eq 40, 3) := by decide +kernel
theorem dX7_findUpToReach_23 : decode cX7_findUpToReach 23 = .ok (.aload_n 0, 1) := by decide +kernel
theorem dX7_findUpToReach_24 : decode cX7_findUpToReach 24 = .ok (.getfield 9, 3) := by decide +kernel
theorem dX7_findUpToReach_27 : decode cX7_findUpToReach 27 = .ok (.iload_n 3, 1) := by decide +kernel
theorem dX7_findUpToReach_28 : decode cX7_findUpToReach 28 = .ok (.iaload, 1) := by decide +kernel
theorem dX7_findUpToReach_29 : decode cX7_findUpToReach 29 = .ok (.ifCond .ne 8, 3) := by decide +kernel
theorem dX7_findUpToReach_32 : decode cX7_findUpToReach 32 = .ok (.aload_n 0, 1) := by decide +kernel
theorem dX7_findUpToReach_33 : decode cX7_findUpToReach 33 = .ok (.iload_n 3, 1) := by decide +kernel
theorem dX7_findUpToReach_34 : decode cX7_findUpToReach 34 = .ok (.invokevirtual 33, 3) := by decide +kernel
theorem dX7_findUpToReach_37 : decode cX7_findUpToReach 37 = .ok (.aload_n 0, 1) := by decide +kernel
theorem dX7_findUpToReach_38 : decode cX7_findUpToReach 38 = .ok (.getfield 9, 3) := by decide +kernel
theorem dX7_findUpToReach_41 : decode cX7_findUpToReach 41 = .ok (.iload_n 3, 1) := by decide +kernel
theorem dX7_findUpToReach_42 : decode cX7_findUpToReach 42 = .ok (.iaload, 1) := by decide +kernel
theorem dX7_findUpToReach_43 : decode cX7_findUpToReach 43 = .ok (.bipush 16, 2) := by decide +kernel
theorem dX7_findUpToReach_45 : decode cX7_findUpToReach 45 = .ok (.if_icmp .lt 7, 3) := by decide +kernel
theorem dX7_findUpToReach_48 : decode cX7_findUpToReach 48 = .ok (.iconst 1, 1) := by decide +kernel
theorem dX7_findUpToReach_49 : decode cX7_findUpToReach 49 = .ok (.goto 4, 3) := by decide +kernel
theorem dX7_findUpToReach_52 : decode cX7_findUpToReach 52 = .ok (.iconst 0, 1) := by decide +kernel
theorem dX7_findUpToReach_53 : decode cX7_findUpToReach 53 = .ok (.istore_n 2, 1) := by decide +kernel
theorem dX7_findUpToReach_54 : decode cX7_findUpToReach 54 = .ok (.iinc 3 1, 3) := by decide +kernel
theorem dX7_findUpToReach_57 : decode cX7_findUpToReach 57 = .ok (.goto (-49), 3) := by decide +kernel
theorem dX7_findUpToReach_60 : decode cX7_findUpToReach 60 = .ok (.return_, 1) := by decide +kernel
theorem dX7_at_0 : decode cX7_at 0 = .ok (.aload_n 0, 1) := by decide +kernel
theorem dX7_at_1 : decode cX7_at 1 = .ok (.getfield 9, 3) := by decide +kernel
theorem dX7_at_4 : decode cX7_at 4 = .ok (.iload_n 1, 1) := by decide +kernel
theorem dX7_at_5 : decode cX7_at 5 = .ok (.sipush 400, 3) := by decide +kernel
theorem dX7_at_8 : decode cX7_at 8 = .ok (.imul, 1) := by decide +kernel
theorem dX7_at_9 : decode cX7_at 9 = .ok (.iload_n 2, 1) := by decide +kernel
theorem dX7_at_10 : decode cX7_at 10 = .ok (.iadd, 1) := by decide +kernel
theorem dX7_at_11 : decode cX7_at 11 = .ok (.iaload, 1) := by decide +kernel
theorem dX7_at_12 : decode cX7_at 12 = .ok (.istore_n 3, 1) := by decide +kernel
theorem dX7_at_13 : decode cX7_at 13 = .ok (.iload_n 3, 1) := by decide +kernel
theorem dX7_at_14 : decode cX7_at 14 = .ok (.bipush 16, 2) := by decide +kernel
theorem dX7_at_16 : decode cX7_at 16 = .ok (.if_icmp .ge 8, 3) := by decide +kernel
theorem dX7_at_19 : decode cX7_at 19 = .ok (.bipush (-9), 2) := by decide +kernel
theorem dX7_at_21 : decode cX7_at 21 = .ok (.goto 7, 3) := by decide +kernel
theorem dX7_at_24 : decode cX7_at 24 = .ok (.iload_n 3, 1) := by decide +kernel
theorem dX7_at_25 : decode cX7_at 25 = .ok (.bipush 16, 2) := by decide +kernel
theorem dX7_at_27 : decode cX7_at 27 = .ok (.irem, 1) := by decide +kernel
theorem dX7_at_28 : decode cX7_at 28 = .ok (.ireturn, 1) := by decide +kernel
theorem dX7_rank_0 : decode cX7_rank 0 = .ok (.aload_n 0, 1) := by decide +kernel
theorem dX7_rank_1 : decode cX7_rank 1 = .ok (.getfield 9, 3) := by decide +kernel
theorem dX7_rank_4 : decode cX7_rank 4 = .ok (.iload_n 1, 1) := by decide +kernel
theorem dX7_rank_5 : decode cX7_rank 5 = .ok (.sipush 400, 3) := by decide +kernel
theorem dX7_rank_8 : decode cX7_rank 8 = .ok (.imul, 1) := by decide +kernel
theorem dX7_rank_9 : decode cX7_rank 9 = .ok (.iload_n 2, 1) := by decide +kernel
theorem dX7_rank_10 : decode cX7_rank 10 = .ok (.iadd, 1) := by decide +kernel
theorem dX7_rank_11 : decode cX7_rank 11 = .ok (.iaload, 1) := by decide +kernel
theorem dX7_rank_12 : decode cX7_rank 12 = .ok (.invokestatic 37, 3) := by decide +kernel
theorem dX7_rank_15 : decode cX7_rank 15 = .ok (.ireturn, 1) := by decide +kernel
theorem dX7_solve_0 : decode cX7_solve 0 = .ok (.aload_n 0, 1) := by decide +kernel
theorem dX7_solve_1 : decode cX7_solve 1 = .ok (.iconst 1, 1) := by decide +kernel
theorem dX7_solve_2 : decode cX7_solve 2 = .ok (.putfield 23, 3) := by decide +kernel
theorem dX7_solve_5 : decode cX7_solve 5 = .ok (.aload_n 0, 1) := by decide +kernel
theorem dX7_solve_6 : decode cX7_solve 6 = .ok (.getfield 19, 3) := by decide +kernel
theorem dX7_solve_9 : decode cX7_solve 9 = .ok (.getfield 41, 3) := by decide +kernel
theorem dX7_solve_12 : decode cX7_solve 12 = .ok (.astore_n 2, 1) := by decide +kernel
theorem dX7_solve_13 : decode cX7_solve 13 = .ok (.aload_n 2, 1) := by decide +kernel
theorem dX7_solve_14 : decode cX7_solve 14 = .ok (.iconst 0, 1) := by decide +kernel
theorem dX7_solve_15 : decode cX7_solve 15 = .ok (.iload_n 1, 1) := by decide +kernel
theorem dX7_solve_16 : decode cX7_solve 16 = .ok (.iastore, 1) := by decide +kernel
theorem dX7_solve_17 : decode cX7_solve 17 = .ok (.aload_n 0, 1) := by decide +kernel
theorem dX7_solve_18 : decode cX7_solve 18 = .ok (.getfield 9, 3) := by decide +kernel
theorem dX7_solve_21 : decode cX7_solve 21 = .ok (.iload_n 1, 1) := by decide +kernel
theorem dX7_solve_22 : decode cX7_solve 22 = .ok (.iconst 1, 1) := by decide +kernel
theorem dX7_solve_23 : decode cX7_solve 23 = .ok (.iastore, 1) := by decide +kernel
theorem dX7_solve_24 : decode cX7_solve 24 = .ok (.iconst 1, 1) := by decide +kernel
theorem dX7_solve_25 : decode cX7_solve 25 = .ok (.istore_n 3, 1) := by decide +kernel
theorem dX7_solve_26 : decode cX7_solve 26 = .ok (.iconst 0, 1) := by decide +kernel
theorem dX7_solve_27 : decode cX7_solve 27 = .ok (.istore 4, 2) := by decide +kernel
theorem dX7_solve_29 : decode cX7_solve 29 = .ok (.iload 4, 2) := by decide +kernel
theorem dX7_solve_31 : decode cX7_solve 31 = .ok (.sipush 6400, 3) := by decide +kernel
theorem dX7_solve_34 : decode cX7_solve 34 = .ok (.if_icmp .ge 59, 3) := by decide +kernel
theorem dX7_solve_37 : decode cX7_solve 37 = .ok (.iload_n 3, 1) := by decide +kernel
theorem dX7_solve_38 : decode cX7_solve 38 = .ok (.ifCond .le 55, 3) := by decide +kernel
theorem dX7_solve_41 : decode cX7_solve 41 = .ok (.aload_n 0, 1) := by decide +kernel
theorem dX7_solve_42 : decode cX7_solve 42 = .ok (.aload_n 2, 1) := by decide +kernel
theorem dX7_solve_43 : decode cX7_solve 43 = .ok (.iload_n 3, 1) := by decide +kernel
theorem dX7_solve_44 : decode cX7_solve 44 = .ok (.iconst 1, 1) := by decide +kernel
theorem dX7_solve_45 : decode cX7_solve 45 = .ok (.isub, 1) := by decide +kernel
theorem dX7_solve_46 : decode cX7_solve 46 = .ok (.iaload, 1) := by decide +kernel
theorem dX7_solve_47 : decode cX7_solve 47 = .ok (.invokevirtual 46, 3) := by decide +kernel
theorem dX7_solve_50 : decode cX7_solve 50 = .ok (.istore 5, 2) := by decide +kernel
theorem dX7_solve_52 : decode cX7_solve 52 = .ok (.iload 5, 2) := by decide +kernel
theorem dX7_solve_54 : decode cX7_solve 54 = .ok (.iconst (-1), 1) := by decide +kernel
theorem dX7_solve_55 : decode cX7_solve 55 = .ok (.if_icmp .eq 10, 3) := by decide +kernel
theorem dX7_solve_58 : decode cX7_solve 58 = .ok (.iload_n 3, 1) := by decide +kernel
theorem dX7_solve_59 : decode cX7_solve 59 = .ok (.sipush 3200, 3) := by decide +kernel
theorem dX7_solve_62 : decode cX7_solve 62 = .ok (.if_icmp .lt 9, 3) := by decide +kernel
theorem dX7_solve_65 : decode cX7_solve 65 = .ok (.iinc 3 (-1), 3) := by decide +kernel
theorem dX7_solve_68 : decode cX7_solve 68 = .ok (.goto 19, 3) := by decide +kernel
theorem dX7_solve_71 : decode cX7_solve 71 = .ok (.aload_n 0, 1) := by decide +kernel
theorem dX7_solve_72 : decode cX7_solve 72 = .ok (.getfield 9, 3) := by decide +kernel
theorem dX7_solve_75 : decode cX7_solve 75 = .ok (.iload 5, 2) := by decide +kernel
theorem dX7_solve_77 : decode cX7_solve 77 = .ok (.iconst 1, 1) := by decide +kernel
theorem dX7_solve_78 : decode cX7_solve 78 = .ok (.iastore, 1) := by decide +kernel
theorem dX7_solve_79 : decode cX7_solve 79 = .ok (.aload_n 2, 1) := by decide +kernel
theorem dX7_solve_80 : decode cX7_solve 80 = .ok (.iload_n 3, 1) := by decide +kernel
theorem dX7_solve_81 : decode cX7_solve 81 = .ok (.iload 5, 2) := by decide +kernel
theorem dX7_solve_83 : decode cX7_solve 83 = .ok (.iastore, 1) := by decide +kernel
theorem dX7_solve_84 : decode cX7_solve 84 = .ok (.iinc 3 1, 3) := by decide +kernel
theorem dX7_solve_87 : decode cX7_solve 87 = .ok (.iinc 4 1, 3) := by decide +kernel
theorem dX7_solve_90 : decode cX7_solve 90 = .ok (.goto (-61), 3) := by decide +kernel
theorem dX7_solve_93 : decode cX7_solve 93 = .ok (.return_, 1) := by decide +kernel
theorem dX7_settle_0 : decode cX7_settle 0 = .ok (.aload_n 0, 1) := by decide +kernel
theorem dX7_settle_1 : decode cX7_settle 1 = .ok (.getfield 15, 3) := by decide +kernel
theorem dX7_settle_4 : decode cX7_settle 4 = .ok (.getfield 49, 3) := by decide +kernel
theorem dX7_settle_7 : decode cX7_settle 7 = .ok (.iload_n 1, 1) := by decide +kernel
theorem dX7_settle_8 : decode cX7_settle 8 = .ok (.sipush 400, 3) := by decide +kernel
theorem dX7_settle_11 : decode cX7_settle 11 = .ok (.idiv, 1) := by decide +kernel
theorem dX7_settle_12 : decode cX7_settle 12 = .ok (.aaload, 1) := by decide +kernel
theorem dX7_settle_13 : decode cX7_settle 13 = .ok (.astore_n 2, 1) := by decide +kernel
theorem dX7_settle_14 : decode cX7_settle 14 = .ok (.aload_n 2, 1) := by decide +kernel
theorem dX7_settle_15 : decode cX7_settle 15 = .ok (.ifnull 19, 3) := by decide +kernel
theorem dX7_settle_18 : decode cX7_settle 18 = .ok (.aload_n 0, 1) := by decide +kernel
theorem dX7_settle_19 : decode cX7_settle 19 = .ok (.getfield 19, 3) := by decide +kernel
theorem dX7_settle_22 : decode cX7_settle 22 = .ok (.aload_n 2, 1) := by decide +kernel
theorem dX7_settle_23 : decode cX7_settle 23 = .ok (.iload_n 1, 1) := by decide +kernel
theorem dX7_settle_24 : decode cX7_settle 24 = .ok (.sipush 400, 3) := by decide +kernel
theorem dX7_settle_27 : decode cX7_settle 27 = .ok (.irem, 1) := by decide +kernel
theorem dX7_settle_28 : decode cX7_settle 28 = .ok (.invokevirtual 55, 3) := by decide +kernel
theorem dX7_settle_31 : decode cX7_settle 31 = .ok (.ifCond .ne 12, 3) := by decide +kernel
theorem dX7_settle_34 : decode cX7_settle 34 = .ok (.aload_n 0, 1) := by decide +kernel
theorem dX7_settle_35 : decode cX7_settle 35 = .ok (.getfield 9, 3) := by decide +kernel
theorem dX7_settle_38 : decode cX7_settle 38 = .ok (.iload_n 1, 1) := by decide +kernel
theorem dX7_settle_39 : decode cX7_settle 39 = .ok (.iconst 2, 1) := by decide +kernel
theorem dX7_settle_40 : decode cX7_settle 40 = .ok (.iastore, 1) := by decide +kernel
theorem dX7_settle_41 : decode cX7_settle 41 = .ok (.iconst (-1), 1) := by decide +kernel
theorem dX7_settle_42 : decode cX7_settle 42 = .ok (.ireturn, 1) := by decide +kernel
theorem dX7_settle_43 : decode cX7_settle 43 = .ok (.iconst 0, 1) := by decide +kernel
theorem dX7_settle_44 : decode cX7_settle 44 = .ok (.istore_n 3, 1) := by decide +kernel
theorem dX7_settle_45 : decode cX7_settle 45 = .ok (.aload_n 2, 1) := by decide +kernel
theorem dX7_settle_46 : decode cX7_settle 46 = .ok (.getfield 59, 3) := by decide +kernel
theorem dX7_settle_49 : decode cX7_settle 49 = .ok (.astore 4, 2) := by decide +kernel
theorem dX7_settle_51 : decode cX7_settle 51 = .ok (.aload 4, 2) := by decide +kernel
theorem dX7_settle_53 : decode cX7_settle 53 = .ok (.arraylength, 1) := by decide +kernel
theorem dX7_settle_54 : decode cX7_settle 54 = .ok (.istore 5, 2) := by decide +kernel
theorem dX7_settle_56 : decode cX7_settle 56 = .ok (.iconst 0, 1) := by decide +kernel
theorem dX7_settle_57 : decode cX7_settle 57 = .ok (.istore 6, 2) := by decide +kernel
theorem dX7_settle_59 : decode cX7_settle 59 = .ok (.iload 6, 2) := by decide +kernel
theorem dX7_settle_61 : decode cX7_settle 61 = .ok (.iload 5, 2) := by decide +kernel
theorem dX7_settle_63 : decode cX7_settle 63 = .ok (.if_icmp .ge 101, 3) := by decide +kernel
theorem dX7_settle_66 : decode cX7_settle 66 = .ok (.aload 4, 2) := by decide +kernel
theorem dX7_settle_68 : decode cX7_settle 68 = .ok (.iload 6, 2) := by decide +kernel
theorem dX7_settle_70 : decode cX7_settle 70 = .ok (.iaload, 1) := by decide +kernel
theorem dX7_settle_71 : decode cX7_settle 71 = .ok (.istore 7, 2) := by decide +kernel
theorem dX7_settle_73 : decode cX7_settle 73 = .ok (.aload_n 0, 1) := by decide +kernel
theorem dX7_settle_74 : decode cX7_settle 74 = .ok (.getfield 19, 3) := by decide +kernel
theorem dX7_settle_77 : decode cX7_settle 77 = .ok (.iload 7, 2) := by decide +kernel
theorem dX7_settle_79 : decode cX7_settle 79 = .ok (.invokevirtual 64, 3) := by decide +kernel
theorem dX7_settle_82 : decode cX7_settle 82 = .ok (.ifCond .ne 6, 3) := by decide +kernel
theorem dX7_settle_85 : decode cX7_settle 85 = .ok (.goto 73, 3) := by decide +kernel
theorem dX7_settle_88 : decode cX7_settle 88 = .ok (.aload_n 0, 1) := by decide +kernel
theorem dX7_settle_89 : decode cX7_settle 89 = .ok (.aload_n 2, 1) := by decide +kernel
theorem dX7_settle_90 : decode cX7_settle 90 = .ok (.iload 7, 2) := by decide +kernel
theorem dX7_settle_92 : decode cX7_settle 92 = .ok (.invokevirtual 68, 3) := by decide +kernel
theorem dX7_settle_95 : decode cX7_settle 95 = .ok (.istore 8, 2) := by decide +kernel
theorem dX7_settle_97 : decode cX7_settle 97 = .ok (.iload 8, 2) := by decide +kernel
theorem dX7_settle_99 : decode cX7_settle 99 = .ok (.ifCond .lt 16, 3) := by decide +kernel
theorem dX7_settle_102 : decode cX7_settle 102 = .ok (.aload_n 0, 1) := by decide +kernel
theorem dX7_settle_103 : decode cX7_settle 103 = .ok (.getfield 9, 3) := by decide +kernel
theorem dX7_settle_106 : decode cX7_settle 106 = .ok (.iload 8, 2) := by decide +kernel
theorem dX7_settle_108 : decode cX7_settle 108 = .ok (.iaload, 1) := by decide +kernel
theorem dX7_settle_109 : decode cX7_settle 109 = .ok (.ifCond .ne 6, 3) := by decide +kernel
theorem dX7_settle_112 : decode cX7_settle 112 = .ok (.iload 8, 2) := by decide +kernel
theorem dX7_settle_114 : decode cX7_settle 114 = .ok (.ireturn, 1) := by decide +kernel
theorem dX7_settle_115 : decode cX7_settle 115 = .ok (.iload 8, 2) := by decide +kernel
theorem dX7_settle_117 : decode cX7_settle 117 = .ok (.ifCond .lt 15, 3) := by decide +kernel
theorem dX7_settle_120 : decode cX7_settle 120 = .ok (.aload_n 0, 1) := by decide +kernel
theorem dX7_settle_121 : decode cX7_settle 121 = .ok (.getfield 9, 3) := by decide +kernel
theorem dX7_settle_124 : decode cX7_settle 124 = .ok (.iload 8, 2) := by decide +kernel
theorem dX7_settle_126 : decode cX7_settle 126 = .ok (.iaload, 1) := by decide +kernel
theorem dX7_settle_127 : decode cX7_settle 127 = .ok (.bipush 16, 2) := by decide +kernel
theorem dX7_settle_129 : decode cX7_settle 129 = .ok (.if_icmp .ge 12, 3) := by decide +kernel
theorem dX7_settle_132 : decode cX7_settle 132 = .ok (.aload_n 0, 1) := by decide +kernel
theorem dX7_settle_133 : decode cX7_settle 133 = .ok (.getfield 9, 3) := by decide +kernel
theorem dX7_settle_136 : decode cX7_settle 136 = .ok (.iload_n 1, 1) := by decide +kernel
theorem dX7_settle_137 : decode cX7_settle 137 = .ok (.iconst 2, 1) := by decide +kernel
theorem dX7_settle_138 : decode cX7_settle 138 = .ok (.iastore, 1) := by decide +kernel
theorem dX7_settle_139 : decode cX7_settle 139 = .ok (.iconst (-1), 1) := by decide +kernel
theorem dX7_settle_140 : decode cX7_settle 140 = .ok (.ireturn, 1) := by decide +kernel
theorem dX7_settle_141 : decode cX7_settle 141 = .ok (.iload_n 3, 1) := by decide +kernel
theorem dX7_settle_142 : decode cX7_settle 142 = .ok (.aload_n 0, 1) := by decide +kernel
theorem dX7_settle_143 : decode cX7_settle 143 = .ok (.getfield 9, 3) := by decide +kernel
theorem dX7_settle_146 : decode cX7_settle 146 = .ok (.iload 8, 2) := by decide +kernel
theorem dX7_settle_148 : decode cX7_settle 148 = .ok (.iaload, 1) := by decide +kernel
theorem dX7_settle_149 : decode cX7_settle 149 = .ok (.invokestatic 37, 3) := by decide +kernel
theorem dX7_settle_152 : decode cX7_settle 152 = .ok (.iconst 1, 1) := by decide +kernel
theorem dX7_settle_153 : decode cX7_settle 153 = .ok (.iadd, 1) := by decide +kernel
theorem dX7_settle_154 : decode cX7_settle 154 = .ok (.invokestatic 72, 3) := by decide +kernel
theorem dX7_settle_157 : decode cX7_settle 157 = .ok (.istore_n 3, 1) := by decide +kernel
theorem dX7_settle_158 : decode cX7_settle 158 = .ok (.iinc 6 1, 3) := by decide +kernel
theorem dX7_settle_161 : decode cX7_settle 161 = .ok (.goto (-102), 3) := by decide +kernel
theorem dX7_settle_164 : decode cX7_settle 164 = .ok (.aload_n 0, 1) := by decide +kernel
theorem dX7_settle_165 : decode cX7_settle 165 = .ok (.getfield 9, 3) := by decide +kernel
theorem dX7_settle_168 : decode cX7_settle 168 = .ok (.iload_n 1, 1) := by decide +kernel
theorem dX7_settle_169 : decode cX7_settle 169 = .ok (.bipush 16, 2) := by decide +kernel
theorem dX7_settle_171 : decode cX7_settle 171 = .ok (.iload_n 3, 1) := by decide +kernel
theorem dX7_settle_172 : decode cX7_settle 172 = .ok (.iconst 1, 1) := by decide +kernel
theorem dX7_settle_173 : decode cX7_settle 173 = .ok (.iadd, 1) := by decide +kernel
theorem dX7_settle_174 : decode cX7_settle 174 = .ok (.imul, 1) := by decide +kernel
theorem dX7_settle_175 : decode cX7_settle 175 = .ok (.aload_n 0, 1) := by decide +kernel
theorem dX7_settle_176 : decode cX7_settle 176 = .ok (.getfield 19, 3) := by decide +kernel
theorem dX7_settle_179 : decode cX7_settle 179 = .ok (.aload_n 2, 1) := by decide +kernel
theorem dX7_settle_180 : decode cX7_settle 180 = .ok (.aload_n 0, 1) := by decide +kernel
theorem dX7_settle_181 : decode cX7_settle 181 = .ok (.getfield 9, 3) := by decide +kernel
theorem dX7_settle_184 : decode cX7_settle 184 = .ok (.aload_n 0, 1) := by decide +kernel
theorem dX7_settle_185 : decode cX7_settle 185 = .ok (.getfield 15, 3) := by decide +kernel
theorem dX7_settle_188 : decode cX7_settle 188 = .ok (.getfield 78, 3) := by decide +kernel
theorem dX7_settle_191 : decode cX7_settle 191 = .ok (.invokevirtual 82, 3) := by decide +kernel
theorem dX7_settle_194 : decode cX7_settle 194 = .ok (.iadd, 1) := by decide +kernel
theorem dX7_settle_195 : decode cX7_settle 195 = .ok (.iastore, 1) := by decide +kernel
theorem dX7_settle_196 : decode cX7_settle 196 = .ok (.iconst (-1), 1) := by decide +kernel
theorem dX7_settle_197 : decode cX7_settle 197 = .ok (.ireturn, 1) := by decide +kernel
theorem dX7_neededCell_0 : decode cX7_neededCell 0 = .ok (.aload_n 0, 1) := by decide +kernel
theorem dX7_neededCell_1 : decode cX7_neededCell 1 = .ok (.getfield 19, 3) := by decide +kernel
theorem dX7_neededCell_4 : decode cX7_neededCell 4 = .ok (.getfield 86, 3) := by decide +kernel
theorem dX7_neededCell_7 : decode cX7_neededCell 7 = .ok (.iload_n 2, 1) := by decide +kernel
theorem dX7_neededCell_8 : decode cX7_neededCell 8 = .ok (.iaload, 1) := by decide +kernel
theorem dX7_neededCell_9 : decode cX7_neededCell 9 = .ok (.istore_n 3, 1) := by decide +kernel
theorem dX7_neededCell_10 : decode cX7_neededCell 10 = .ok (.iload_n 3, 1) := by decide +kernel
theorem dX7_neededCell_11 : decode cX7_neededCell 11 = .ok (.sipush 400, 3) := by decide +kernel
theorem dX7_neededCell_14 : decode cX7_neededCell 14 = .ok (.if_icmp .ge 17, 3) := by decide +kernel
theorem dX7_neededCell_17 : decode cX7_neededCell 17 = .ok (.aload_n 1, 1) := by decide +kernel
theorem dX7_neededCell_18 : decode cX7_neededCell 18 = .ok (.iload_n 2, 1) := by decide +kernel
theorem dX7_neededCell_19 : decode cX7_neededCell 19 = .ok (.invokevirtual 89, 3) := by decide +kernel
theorem dX7_neededCell_22 : decode cX7_neededCell 22 = .ok (.sipush 400, 3) := by decide +kernel
theorem dX7_neededCell_25 : decode cX7_neededCell 25 = .ok (.imul, 1) := by decide +kernel
theorem dX7_neededCell_26 : decode cX7_neededCell 26 = .ok (.iload_n 3, 1) := by decide +kernel
theorem dX7_neededCell_27 : decode cX7_neededCell 27 = .ok (.iadd, 1) := by decide +kernel
theorem dX7_neededCell_28 : decode cX7_neededCell 28 = .ok (.goto 4, 3) := by decide +kernel
theorem dX7_neededCell_31 : decode cX7_neededCell 31 = .ok (.iconst (-1), 1) := by decide +kernel
theorem dX7_neededCell_32 : decode cX7_neededCell 32 = .ok (.ireturn, 1) := by decide +kernel
theorem dX7_collectNeeded_0 : decode cX7_collectNeeded 0 = .ok (.aload_n 0, 1) := by decide +kernel
theorem dX7_collectNeeded_1 : decode cX7_collectNeeded 1 = .ok (.getfield 19, 3) := by decide +kernel
theorem dX7_collectNeeded_4 : decode cX7_collectNeeded 4 = .ok (.getfield 41, 3) := by decide +kernel
theorem dX7_collectNeeded_7 : decode cX7_collectNeeded 7 = .ok (.astore_n 3, 1) := by decide +kernel
theorem dX7_collectNeeded_8 : decode cX7_collectNeeded 8 = .ok (.aload_n 0, 1) := by decide +kernel
theorem dX7_collectNeeded_9 : decode cX7_collectNeeded 9 = .ok (.getfield 19, 3) := by decide +kernel
theorem dX7_collectNeeded_12 : decode cX7_collectNeeded 12 = .ok (.invokevirtual 92, 3) := by decide +kernel
theorem dX7_collectNeeded_15 : decode cX7_collectNeeded 15 = .ok (.aload_n 3, 1) := by decide +kernel
theorem dX7_collectNeeded_16 : decode cX7_collectNeeded 16 = .ok (.iconst 0, 1) := by decide +kernel
theorem dX7_collectNeeded_17 : decode cX7_collectNeeded 17 = .ok (.iload_n 1, 1) := by decide +kernel
theorem dX7_collectNeeded_18 : decode cX7_collectNeeded 18 = .ok (.sipush 400, 3) := by decide +kernel
theorem dX7_collectNeeded_21 : decode cX7_collectNeeded 21 = .ok (.imul, 1) := by decide +kernel
theorem dX7_collectNeeded_22 : decode cX7_collectNeeded 22 = .ok (.iload_n 2, 1) := by decide +kernel
theorem dX7_collectNeeded_23 : decode cX7_collectNeeded 23 = .ok (.iadd, 1) := by decide +kernel
theorem dX7_collectNeeded_24 : decode cX7_collectNeeded 24 = .ok (.iastore, 1) := by decide +kernel
theorem dX7_collectNeeded_25 : decode cX7_collectNeeded 25 = .ok (.aload_n 0, 1) := by decide +kernel
theorem dX7_collectNeeded_26 : decode cX7_collectNeeded 26 = .ok (.getfield 19, 3) := by decide +kernel
theorem dX7_collectNeeded_29 : decode cX7_collectNeeded 29 = .ok (.aload_n 3, 1) := by decide +kernel
theorem dX7_collectNeeded_30 : decode cX7_collectNeeded 30 = .ok (.iconst 0, 1) := by decide +kernel
theorem dX7_collectNeeded_31 : decode cX7_collectNeeded 31 = .ok (.iaload, 1) := by decide +kernel
theorem dX7_collectNeeded_32 : decode cX7_collectNeeded 32 = .ok (.invokevirtual 95, 3) := by decide +kernel
theorem dX7_collectNeeded_35 : decode cX7_collectNeeded 35 = .ok (.pop, 1) := by decide +kernel
theorem dX7_collectNeeded_36 : decode cX7_collectNeeded 36 = .ok (.iconst 1, 1) := by decide +kernel
theorem dX7_collectNeeded_37 : decode cX7_collectNeeded 37 = .ok (.istore 4, 2) := by decide +kernel
theorem dX7_collectNeeded_39 : decode cX7_collectNeeded 39 = .ok (.iconst 0, 1) := by decide +kernel
theorem dX7_collectNeeded_40 : decode cX7_collectNeeded 40 = .ok (.istore 5, 2) := by decide +kernel
theorem dX7_collectNeeded_42 : decode cX7_collectNeeded 42 = .ok (.iload 5, 2) := by decide +kernel
theorem dX7_collectNeeded_44 : decode cX7_collectNeeded 44 = .ok (.iload 4, 2) := by decide +kernel
theorem dX7_collectNeeded_46 : decode cX7_collectNeeded 46 = .ok (.if_icmp .ge 29, 3) := by decide +kernel
theorem dX7_collectNeeded_49 : decode cX7_collectNeeded 49 = .ok (.iload 5, 2) := by decide +kernel
theorem dX7_collectNeeded_51 : decode cX7_collectNeeded 51 = .ok (.sipush 3200, 3) := by decide +kernel
theorem dX7_collectNeeded_54 : decode cX7_collectNeeded 54 = .ok (.if_icmp .ge 21, 3) := by decide +kernel
theorem dX7_collectNeeded_57 : decode cX7_collectNeeded 57 = .ok (.aload_n 0, 1) := by decide +kernel
theorem dX7_collectNeeded_58 : decode cX7_collectNeeded 58 = .ok (.aload_n 3, 1) := by decide +kernel
theorem dX7_collectNeeded_59 : decode cX7_collectNeeded 59 = .ok (.iload 5, 2) := by decide +kernel
theorem dX7_collectNeeded_61 : decode cX7_collectNeeded 61 = .ok (.iaload, 1) := by decide +kernel
theorem dX7_collectNeeded_62 : decode cX7_collectNeeded 62 = .ok (.iload 4, 2) := by decide +kernel
theorem dX7_collectNeeded_64 : decode cX7_collectNeeded 64 = .ok (.invokevirtual 98, 3) := by decide +kernel
theorem dX7_collectNeeded_67 : decode cX7_collectNeeded 67 = .ok (.istore 4, 2) := by decide +kernel
theorem dX7_collectNeeded_69 : decode cX7_collectNeeded 69 = .ok (.iinc 5 1, 3) := by decide +kernel
theorem dX7_collectNeeded_72 : decode cX7_collectNeeded 72 = .ok (.goto (-30), 3) := by decide +kernel
theorem dX7_collectNeeded_75 : decode cX7_collectNeeded 75 = .ok (.iload 4, 2) := by decide +kernel
theorem dX7_collectNeeded_77 : decode cX7_collectNeeded 77 = .ok (.iconst 1, 1) := by decide +kernel
theorem dX7_collectNeeded_78 : decode cX7_collectNeeded 78 = .ok (.isub, 1) := by decide +kernel
theorem dX7_collectNeeded_79 : decode cX7_collectNeeded 79 = .ok (.ireturn, 1) := by decide +kernel
theorem dX7_collectAtOnce_0 : decode cX7_collectAtOnce 0 = .ok (.aload_n 0, 1) := by decide +kernel
theorem dX7_collectAtOnce_1 : decode cX7_collectAtOnce 1 = .ok (.getfield 15, 3) := by decide +kernel
theorem dX7_collectAtOnce_4 : decode cX7_collectAtOnce 4 = .ok (.getfield 49, 3) := by decide +kernel
theorem dX7_collectAtOnce_7 : decode cX7_collectAtOnce 7 = .ok (.iload_n 1, 1) := by decide +kernel
theorem dX7_collectAtOnce_8 : decode cX7_collectAtOnce 8 = .ok (.sipush 400, 3) := by decide +kernel
theorem dX7_collectAtOnce_11 : decode cX7_collectAtOnce 11 = .ok (.idiv, 1) := by decide +kernel
theorem dX7_collectAtOnce_12 : decode cX7_collectAtOnce 12 = .ok (.aaload, 1) := by decide +kernel
theorem dX7_collectAtOnce_13 : decode cX7_collectAtOnce 13 = .ok (.astore_n 3, 1) := by decide +kernel
theorem dX7_collectAtOnce_14 : decode cX7_collectAtOnce 14 = .ok (.aload_n 3, 1) := by decide +kernel
theorem dX7_collectAtOnce_15 : decode cX7_collectAtOnce 15 = .ok (.ifnull 19, 3) := by decide +kernel
theorem dX7_collectAtOnce_18 : decode cX7_collectAtOnce 18 = .ok (.aload_n 0, 1) := by decide +kernel
theorem dX7_collectAtOnce_19 : decode cX7_collectAtOnce 19 = .ok (.getfield 19, 3) := by decide +kernel
theorem dX7_collectAtOnce_22 : decode cX7_collectAtOnce 22 = .ok (.aload_n 3, 1) := by decide +kernel
theorem dX7_collectAtOnce_23 : decode cX7_collectAtOnce 23 = .ok (.iload_n 1, 1) := by decide +kernel
theorem dX7_collectAtOnce_24 : decode cX7_collectAtOnce 24 = .ok (.sipush 400, 3) := by decide +kernel
theorem dX7_collectAtOnce_27 : decode cX7_collectAtOnce 27 = .ok (.irem, 1) := by decide +kernel
theorem dX7_collectAtOnce_28 : decode cX7_collectAtOnce 28 = .ok (.invokevirtual 55, 3) := by decide +kernel
theorem dX7_collectAtOnce_31 : decode cX7_collectAtOnce 31 = .ok (.ifCond .ne 5, 3) := by decide +kernel
theorem dX7_collectAtOnce_34 : decode cX7_collectAtOnce 34 = .ok (.iload_n 2, 1) := by decide +kernel
theorem dX7_collectAtOnce_35 : decode cX7_collectAtOnce 35 = .ok (.ireturn, 1) := by decide +kernel
theorem dX7_collectAtOnce_36 : decode cX7_collectAtOnce 36 = .ok (.iload_n 2, 1) := by decide +kernel
theorem dX7_collectAtOnce_37 : decode cX7_collectAtOnce 37 = .ok (.istore 4, 2) := by decide +kernel
theorem dX7_collectAtOnce_39 : decode cX7_collectAtOnce 39 = .ok (.aload_n 3, 1) := by decide +kernel
theorem dX7_collectAtOnce_40 : decode cX7_collectAtOnce 40 = .ok (.getfield 59, 3) := by decide +kernel
theorem dX7_collectAtOnce_43 : decode cX7_collectAtOnce 43 = .ok (.astore 5, 2) := by decide +kernel
theorem dX7_collectAtOnce_45 : decode cX7_collectAtOnce 45 = .ok (.aload 5, 2) := by decide +kernel
theorem dX7_collectAtOnce_47 : decode cX7_collectAtOnce 47 = .ok (.arraylength, 1) := by decide +kernel
theorem dX7_collectAtOnce_48 : decode cX7_collectAtOnce 48 = .ok (.istore 6, 2) := by decide +kernel
theorem dX7_collectAtOnce_50 : decode cX7_collectAtOnce 50 = .ok (.iconst 0, 1) := by decide +kernel
theorem dX7_collectAtOnce_51 : decode cX7_collectAtOnce 51 = .ok (.istore 7, 2) := by decide +kernel
theorem dX7_collectAtOnce_53 : decode cX7_collectAtOnce 53 = .ok (.iload 7, 2) := by decide +kernel
theorem dX7_collectAtOnce_55 : decode cX7_collectAtOnce 55 = .ok (.iload 6, 2) := by decide +kernel
theorem dX7_collectAtOnce_57 : decode cX7_collectAtOnce 57 = .ok (.if_icmp .ge 80, 3) := by decide +kernel
theorem dX7_collectAtOnce_60 : decode cX7_collectAtOnce 60 = .ok (.aload 5, 2) := by decide +kernel
theorem dX7_collectAtOnce_62 : decode cX7_collectAtOnce 62 = .ok (.iload 7, 2) := by decide +kernel
theorem dX7_collectAtOnce_64 : decode cX7_collectAtOnce 64 = .ok (.iaload, 1) := by decide +kernel
theorem dX7_collectAtOnce_65 : decode cX7_collectAtOnce 65 = .ok (.istore 8, 2) := by decide +kernel
theorem dX7_collectAtOnce_67 : decode cX7_collectAtOnce 67 = .ok (.aload_n 0, 1) := by decide +kernel
theorem dX7_collectAtOnce_68 : decode cX7_collectAtOnce 68 = .ok (.getfield 19, 3) := by decide +kernel
theorem dX7_collectAtOnce_71 : decode cX7_collectAtOnce 71 = .ok (.iload 8, 2) := by decide +kernel
theorem dX7_collectAtOnce_73 : decode cX7_collectAtOnce 73 = .ok (.invokevirtual 64, 3) := by decide +kernel
theorem dX7_collectAtOnce_76 : decode cX7_collectAtOnce 76 = .ok (.ifCond .ne 6, 3) := by decide +kernel
theorem dX7_collectAtOnce_79 : decode cX7_collectAtOnce 79 = .ok (.goto 52, 3) := by decide +kernel
theorem dX7_collectAtOnce_82 : decode cX7_collectAtOnce 82 = .ok (.aload_n 0, 1) := by decide +kernel
theorem dX7_collectAtOnce_83 : decode cX7_collectAtOnce 83 = .ok (.aload_n 3, 1) := by decide +kernel
theorem dX7_collectAtOnce_84 : decode cX7_collectAtOnce 84 = .ok (.iload 8, 2) := by decide +kernel
theorem dX7_collectAtOnce_86 : decode cX7_collectAtOnce 86 = .ok (.invokevirtual 68, 3) := by decide +kernel
theorem dX7_collectAtOnce_89 : decode cX7_collectAtOnce 89 = .ok (.istore 9, 2) := by decide +kernel
theorem dX7_collectAtOnce_91 : decode cX7_collectAtOnce 91 = .ok (.iload 9, 2) := by decide +kernel
theorem dX7_collectAtOnce_93 : decode cX7_collectAtOnce 93 = .ok (.ifCond .lt 38, 3) := by decide +kernel
theorem dX7_collectAtOnce_96 : decode cX7_collectAtOnce 96 = .ok (.iload 4, 2) := by decide +kernel
theorem dX7_collectAtOnce_98 : decode cX7_collectAtOnce 98 = .ok (.sipush 3200, 3) := by decide +kernel
theorem dX7_collectAtOnce_101 : decode cX7_collectAtOnce 101 = .ok (.if_icmp .ge 30, 3) := by decide +kernel
theorem dX7_collectAtOnce_104 : decode cX7_collectAtOnce 104 = .ok (.aload_n 0, 1) := by decide +kernel
theorem dX7_collectAtOnce_105 : decode cX7_collectAtOnce 105 = .ok (.getfield 19, 3) := by decide +kernel
theorem dX7_collectAtOnce_108 : decode cX7_collectAtOnce 108 = .ok (.iload 9, 2) := by decide +kernel
theorem dX7_collectAtOnce_110 : decode cX7_collectAtOnce 110 = .ok (.invokevirtual 95, 3) := by decide +kernel
theorem dX7_collectAtOnce_113 : decode cX7_collectAtOnce 113 = .ok (.ifCond .eq 18, 3) := by decide +kernel
theorem dX7_collectAtOnce_116 : decode cX7_collectAtOnce 116 = .ok (.aload_n 0, 1) := by decide +kernel
theorem dX7_collectAtOnce_117 : decode cX7_collectAtOnce 117 = .ok (.getfield 19, 3) := by decide +kernel
theorem dX7_collectAtOnce_120 : decode cX7_collectAtOnce 120 = .ok (.getfield 41, 3) := by decide +kernel
theorem dX7_collectAtOnce_123 : decode cX7_collectAtOnce 123 = .ok (.iload 4, 2) := by decide +kernel
theorem dX7_collectAtOnce_125 : decode cX7_collectAtOnce 125 = .ok (.iload 9, 2) := by decide +kernel
theorem dX7_collectAtOnce_127 : decode cX7_collectAtOnce 127 = .ok (.iastore, 1) := by decide +kernel
theorem dX7_collectAtOnce_128 : decode cX7_collectAtOnce 128 = .ok (.iinc 4 1, 3) := by decide +kernel
theorem dX7_collectAtOnce_131 : decode cX7_collectAtOnce 131 = .ok (.iinc 7 1, 3) := by decide +kernel
theorem dX7_collectAtOnce_134 : decode cX7_collectAtOnce 134 = .ok (.goto (-81), 3) := by decide +kernel
theorem dX7_collectAtOnce_137 : decode cX7_collectAtOnce 137 = .ok (.iload 4, 2) := by decide +kernel
theorem dX7_collectAtOnce_139 : decode cX7_collectAtOnce 139 = .ok (.ireturn, 1) := by decide +kernel
theorem dX7_reach_0 : decode cX7_reach 0 = .ok (.iconst 0, 1) := by decide +kernel
theorem dX7_reach_1 : decode cX7_reach 1 = .ok (.istore_n 2, 1) := by decide +kernel
theorem dX7_reach_2 : decode cX7_reach 2 = .ok (.iload_n 2, 1) := by decide +kernel
theorem dX7_reach_3 : decode cX7_reach 3 = .ok (.sipush 400, 3) := by decide +kernel
theorem dX7_reach_6 : decode cX7_reach 6 = .ok (.if_icmp .ge 22, 3) := by decide +kernel
theorem dX7_reach_9 : decode cX7_reach 9 = .ok (.aload_n 0, 1) := by decide +kernel
theorem dX7_reach_10 : decode cX7_reach 10 = .ok (.iload_n 1, 1) := by decide +kernel
theorem dX7_reach_11 : decode cX7_reach 11 = .ok (.iload_n 2, 1) := by decide +kernel
theorem dX7_reach_12 : decode cX7_reach 12 = .ok (.invokevirtual 101, 3) := by decide +kernel
theorem dX7_reach_15 : decode cX7_reach 15 = .ok (.bipush (-9), 2) := by decide +kernel
theorem dX7_reach_17 : decode cX7_reach 17 = .ok (.if_icmp .ne 5, 3) := by decide +kernel
theorem dX7_reach_20 : decode cX7_reach 20 = .ok (.iload_n 2, 1) := by decide +kernel
theorem dX7_reach_21 : decode cX7_reach 21 = .ok (.ireturn, 1) := by decide +kernel
theorem dX7_reach_22 : decode cX7_reach 22 = .ok (.iinc 2 1, 3) := by decide +kernel
theorem dX7_reach_25 : decode cX7_reach 25 = .ok (.goto (-23), 3) := by decide +kernel
theorem dX7_reach_28 : decode cX7_reach 28 = .ok (.sipush 400, 3) := by decide +kernel
theorem dX7_reach_31 : decode cX7_reach 31 = .ok (.ireturn, 1) := by decide +kernel
theorem dX7_countDifferent_0 : decode cX7_countDifferent 0 = .ok (.aload_n 0, 1) := by decide +kernel
theorem dX7_countDifferent_1 : decode cX7_countDifferent 1 = .ok (.iload_n 1, 1) := by decide +kernel
theorem dX7_countDifferent_2 : decode cX7_countDifferent 2 = .ok (.invokevirtual 104, 3) := by decide +kernel
theorem dX7_countDifferent_5 : decode cX7_countDifferent 5 = .ok (.istore_n 2, 1) := by decide +kernel
theorem dX7_countDifferent_6 : decode cX7_countDifferent 6 = .ok (.iconst 0, 1) := by decide +kernel
theorem dX7_countDifferent_7 : decode cX7_countDifferent 7 = .ok (.istore_n 3, 1) := by decide +kernel
theorem dX7_countDifferent_8 : decode cX7_countDifferent 8 = .ok (.iconst 0, 1) := by decide +kernel
theorem dX7_countDifferent_9 : decode cX7_countDifferent 9 = .ok (.istore 4, 2) := by decide +kernel
theorem dX7_countDifferent_11 : decode cX7_countDifferent 11 = .ok (.iload 4, 2) := by decide +kernel
theorem dX7_countDifferent_13 : decode cX7_countDifferent 13 = .ok (.iload_n 2, 1) := by decide +kernel
theorem dX7_countDifferent_14 : decode cX7_countDifferent 14 = .ok (.if_icmp .ge 21, 3) := by decide +kernel
theorem dX7_countDifferent_17 : decode cX7_countDifferent 17 = .ok (.iload_n 3, 1) := by decide +kernel
theorem dX7_countDifferent_18 : decode cX7_countDifferent 18 = .ok (.iconst 1, 1) := by decide +kernel
theorem dX7_countDifferent_19 : decode cX7_countDifferent 19 = .ok (.aload_n 0, 1) := by decide +kernel
theorem dX7_countDifferent_20 : decode cX7_countDifferent 20 = .ok (.iload_n 1, 1) := by decide +kernel
theorem dX7_countDifferent_21 : decode cX7_countDifferent 21 = .ok (.iload 4, 2) := by decide +kernel
theorem dX7_countDifferent_23 : decode cX7_countDifferent 23 = .ok (.invokevirtual 101, 3) := by decide +kernel
theorem dX7_countDifferent_26 : decode cX7_countDifferent 26 = .ok (.ishl, 1) := by decide +kernel
theorem dX7_countDifferent_27 : decode cX7_countDifferent 27 = .ok (.ior, 1) := by decide +kernel
theorem dX7_countDifferent_28 : decode cX7_countDifferent 28 = .ok (.istore_n 3, 1) := by decide +kernel
theorem dX7_countDifferent_29 : decode cX7_countDifferent 29 = .ok (.iinc 4 1, 3) := by decide +kernel
theorem dX7_countDifferent_32 : decode cX7_countDifferent 32 = .ok (.goto (-21), 3) := by decide +kernel
theorem dX7_countDifferent_35 : decode cX7_countDifferent 35 = .ok (.iload_n 3, 1) := by decide +kernel
theorem dX7_countDifferent_36 : decode cX7_countDifferent 36 = .ok (.invokestatic 107, 3) := by decide +kernel
theorem dX7_countDifferent_39 : decode cX7_countDifferent 39 = .ok (.ireturn, 1) := by decide +kernel
theorem dX7_sum_0 : decode cX7_sum 0 = .ok (.aload_n 0, 1) := by decide +kernel
theorem dX7_sum_1 : decode cX7_sum 1 = .ok (.iload_n 1, 1) := by decide +kernel
theorem dX7_sum_2 : decode cX7_sum 2 = .ok (.invokevirtual 104, 3) := by decide +kernel
theorem dX7_sum_5 : decode cX7_sum 5 = .ok (.istore_n 2, 1) := by decide +kernel
theorem dX7_sum_6 : decode cX7_sum 6 = .ok (.iconst 0, 1) := by decide +kernel
theorem dX7_sum_7 : decode cX7_sum 7 = .ok (.istore_n 3, 1) := by decide +kernel
theorem dX7_sum_8 : decode cX7_sum 8 = .ok (.iconst 0, 1) := by decide +kernel
theorem dX7_sum_9 : decode cX7_sum 9 = .ok (.istore 4, 2) := by decide +kernel
theorem dX7_sum_11 : decode cX7_sum 11 = .ok (.iload 4, 2) := by decide +kernel
theorem dX7_sum_13 : decode cX7_sum 13 = .ok (.iload_n 2, 1) := by decide +kernel
theorem dX7_sum_14 : decode cX7_sum 14 = .ok (.if_icmp .ge 19, 3) := by decide +kernel
theorem dX7_sum_17 : decode cX7_sum 17 = .ok (.iload_n 3, 1) := by decide +kernel
theorem dX7_sum_18 : decode cX7_sum 18 = .ok (.aload_n 0, 1) := by decide +kernel
theorem dX7_sum_19 : decode cX7_sum 19 = .ok (.iload_n 1, 1) := by decide +kernel
theorem dX7_sum_20 : decode cX7_sum 20 = .ok (.iload 4, 2) := by decide +kernel
theorem dX7_sum_22 : decode cX7_sum 22 = .ok (.invokevirtual 101, 3) := by decide +kernel
theorem dX7_sum_25 : decode cX7_sum 25 = .ok (.iadd, 1) := by decide +kernel
theorem dX7_sum_26 : decode cX7_sum 26 = .ok (.istore_n 3, 1) := by decide +kernel
theorem dX7_sum_27 : decode cX7_sum 27 = .ok (.iinc 4 1, 3) := by decide +kernel
theorem dX7_sum_30 : decode cX7_sum 30 = .ok (.goto (-19), 3) := by decide +kernel
theorem dX7_sum_33 : decode cX7_sum 33 = .ok (.iload_n 3, 1) := by decide +kernel
theorem dX7_sum_34 : decode cX7_sum 34 = .ok (.ireturn, 1) := by decide +kernel
theorem dX7_period_0 : decode cX7_period 0 = .ok (.aload_n 0, 1) := by decide +kernel
theorem dX7_period_1 : decode cX7_period 1 = .ok (.iload_n 1, 1) := by decide +kernel
theorem dX7_period_2 : decode cX7_period 2 = .ok (.invokevirtual 104, 3) := by decide +kernel
theorem dX7_period_5 : decode cX7_period 5 = .ok (.sipush 200, 3) := by decide +kernel
theorem dX7_period_8 : decode cX7_period 8 = .ok (.if_icmp .ge 6, 3) := by decide +kernel
theorem dX7_period_11 : decode cX7_period 11 = .ok (.bipush (-9), 2) := by decide +kernel
theorem dX7_period_13 : decode cX7_period 13 = .ok (.ireturn, 1) := by decide +kernel
theorem dX7_period_14 : decode cX7_period 14 = .ok (.iconst 1, 1) := by decide +kernel
theorem dX7_period_15 : decode cX7_period 15 = .ok (.istore_n 2, 1) := by decide +kernel
theorem dX7_period_16 : decode cX7_period 16 = .ok (.iconst 2, 1) := by decide +kernel
theorem dX7_period_17 : decode cX7_period 17 = .ok (.iload_n 2, 1) := by decide +kernel
theorem dX7_period_18 : decode cX7_period 18 = .ok (.imul, 1) := by decide +kernel
theorem dX7_period_19 : decode cX7_period 19 = .ok (.sipush 200, 3) := by decide +kernel
theorem dX7_period_22 : decode cX7_period 22 = .ok (.if_icmp .gt 27, 3) := by decide +kernel
theorem dX7_period_25 : decode cX7_period 25 = .ok (.aload_n 0, 1) := by decide +kernel
theorem dX7_period_26 : decode cX7_period 26 = .ok (.iload_n 1, 1) := by decide +kernel
theorem dX7_period_27 : decode cX7_period 27 = .ok (.iload_n 2, 1) := by decide +kernel
theorem dX7_period_28 : decode cX7_period 28 = .ok (.invokevirtual 112, 3) := by decide +kernel
theorem dX7_period_31 : decode cX7_period 31 = .ok (.iconst 2, 1) := by decide +kernel
theorem dX7_period_32 : decode cX7_period 32 = .ok (.iload_n 2, 1) := by decide +kernel
theorem dX7_period_33 : decode cX7_period 33 = .ok (.imul, 1) := by decide +kernel
theorem dX7_period_34 : decode cX7_period 34 = .ok (.iadd, 1) := by decide +kernel
theorem dX7_period_35 : decode cX7_period 35 = .ok (.sipush 200, 3) := by decide +kernel
theorem dX7_period_38 : decode cX7_period 38 = .ok (.if_icmp .gt 5, 3) := by decide +kernel
theorem dX7_period_41 : decode cX7_period 41 = .ok (.iload_n 2, 1) := by decide +kernel
theorem dX7_period_42 : decode cX7_period 42 = .ok (.ireturn, 1) := by decide +kernel
theorem dX7_period_43 : decode cX7_period 43 = .ok (.iinc 2 1, 3) := by decide +kernel
theorem dX7_period_46 : decode cX7_period 46 = .ok (.goto (-30), 3) := by decide +kernel
theorem dX7_period_49 : decode cX7_period 49 = .ok (.bipush (-9), 2) := by decide +kernel
theorem dX7_period_51 : decode cX7_period 51 = .ok (.ireturn, 1) := by decide +kernel
theorem dX7_lengthBeforePeriod_0 : decode cX7_lengthBeforePeriod 0 = .ok (.aload_n 0, 1) := by decide +kernel
theorem dX7_lengthBeforePeriod_1 : decode cX7_lengthBeforePeriod 1 = .ok (.iload_n 1, 1) := by decide +kernel
theorem dX7_lengthBeforePeriod_2 : decode cX7_lengthBeforePeriod 2 = .ok (.invokevirtual 115, 3) := by decide +kernel
theorem dX7_lengthBeforePeriod_5 : decode cX7_lengthBeforePeriod 5 = .ok (.istore_n 2, 1) := by decide +kernel
theorem dX7_lengthBeforePeriod_6 : decode cX7_lengthBeforePeriod 6 = .ok (.iload_n 2, 1) := by decide +kernel
theorem dX7_lengthBeforePeriod_7 : decode cX7_lengthBeforePeriod 7 = .ok (.bipush (-9), 2) := by decide +kernel
theorem dX7_lengthBeforePeriod_9 : decode cX7_lengthBeforePeriod 9 = .ok (.if_icmp .ne 8, 3) := by decide +kernel
theorem dX7_lengthBeforePeriod_12 : decode cX7_lengthBeforePeriod 12 = .ok (.bipush (-9), 2) := by decide +kernel
theorem dX7_lengthBeforePeriod_14 : decode cX7_lengthBeforePeriod 14 = .ok (.goto 9, 3) := by decide +kernel
theorem dX7_lengthBeforePeriod_17 : decode cX7_lengthBeforePeriod 17 = .ok (.aload_n 0, 1) := by decide +kernel
theorem dX7_lengthBeforePeriod_18 : decode cX7_lengthBeforePeriod 18 = .ok (.iload_n 1, 1) := by decide +kernel
theorem dX7_lengthBeforePeriod_19 : decode cX7_lengthBeforePeriod 19 = .ok (.iload_n 2, 1) := by decide +kernel
theorem dX7_lengthBeforePeriod_20 : decode cX7_lengthBeforePeriod 20 = .ok (.invokevirtual 112, 3) := by decide +kernel
theorem dX7_lengthBeforePeriod_23 : decode cX7_lengthBeforePeriod 23 = .ok (.ireturn, 1) := by decide +kernel
theorem dX7_lengthBefore_0 : decode cX7_lengthBefore 0 = .ok (.sipush 200, 3) := by decide +kernel
theorem dX7_lengthBefore_3 : decode cX7_lengthBefore 3 = .ok (.iload_n 2, 1) := by decide +kernel
theorem dX7_lengthBefore_4 : decode cX7_lengthBefore 4 = .ok (.isub, 1) := by decide +kernel
theorem dX7_lengthBefore_5 : decode cX7_lengthBefore 5 = .ok (.iconst 1, 1) := by decide +kernel
theorem dX7_lengthBefore_6 : decode cX7_lengthBefore 6 = .ok (.isub, 1) := by decide +kernel
theorem dX7_lengthBefore_7 : decode cX7_lengthBefore 7 = .ok (.istore_n 3, 1) := by decide +kernel
theorem dX7_lengthBefore_8 : decode cX7_lengthBefore 8 = .ok (.iload_n 3, 1) := by decide +kernel
theorem dX7_lengthBefore_9 : decode cX7_lengthBefore 9 = .ok (.ifCond .lt 30, 3) := by decide +kernel
theorem dX7_lengthBefore_12 : decode cX7_lengthBefore 12 = .ok (.aload_n 0, 1) := by decide +kernel
theorem dX7_lengthBefore_13 : decode cX7_lengthBefore 13 = .ok (.iload_n 1, 1) := by decide +kernel
theorem dX7_lengthBefore_14 : decode cX7_lengthBefore 14 = .ok (.iload_n 3, 1) := by decide +kernel
theorem dX7_lengthBefore_15 : decode cX7_lengthBefore 15 = .ok (.invokevirtual 101, 3) := by decide +kernel
theorem dX7_lengthBefore_18 : decode cX7_lengthBefore 18 = .ok (.aload_n 0, 1) := by decide +kernel
theorem dX7_lengthBefore_19 : decode cX7_lengthBefore 19 = .ok (.iload_n 1, 1) := by decide +kernel
theorem dX7_lengthBefore_20 : decode cX7_lengthBefore 20 = .ok (.iload_n 3, 1) := by decide +kernel
theorem dX7_lengthBefore_21 : decode cX7_lengthBefore 21 = .ok (.iload_n 2, 1) := by decide +kernel
theorem dX7_lengthBefore_22 : decode cX7_lengthBefore 22 = .ok (.iadd, 1) := by decide +kernel
theorem dX7_lengthBefore_23 : decode cX7_lengthBefore 23 = .ok (.invokevirtual 101, 3) := by decide +kernel
theorem dX7_lengthBefore_26 : decode cX7_lengthBefore 26 = .ok (.if_icmp .eq 7, 3) := by decide +kernel
theorem dX7_lengthBefore_29 : decode cX7_lengthBefore 29 = .ok (.iload_n 3, 1) := by decide +kernel
theorem dX7_lengthBefore_30 : decode cX7_lengthBefore 30 = .ok (.iconst 1, 1) := by decide +kernel
theorem dX7_lengthBefore_31 : decode cX7_lengthBefore 31 = .ok (.iadd, 1) := by decide +kernel
theorem dX7_lengthBefore_32 : decode cX7_lengthBefore 32 = .ok (.ireturn, 1) := by decide +kernel
theorem dX7_lengthBefore_33 : decode cX7_lengthBefore 33 = .ok (.iinc 3 (-1), 3) := by decide +kernel
theorem dX7_lengthBefore_36 : decode cX7_lengthBefore 36 = .ok (.goto (-28), 3) := by decide +kernel
theorem dX7_lengthBefore_39 : decode cX7_lengthBefore 39 = .ok (.iconst 0, 1) := by decide +kernel
theorem dX7_lengthBefore_40 : decode cX7_lengthBefore 40 = .ok (.ireturn, 1) := by decide +kernel
theorem dX7_firstParting_0 : decode cX7_firstParting 0 = .ok (.iconst 0, 1) := by decide +kernel
theorem dX7_firstParting_1 : decode cX7_firstParting 1 = .ok (.istore_n 3, 1) := by decide +kernel
theorem dX7_firstParting_2 : decode cX7_firstParting 2 = .ok (.iload_n 3, 1) := by decide +kernel
theorem dX7_firstParting_3 : decode cX7_firstParting 3 = .ok (.sipush 400, 3) := by decide +kernel
theorem dX7_firstParting_6 : decode cX7_firstParting 6 = .ok (.if_icmp .ge 48, 3) := by decide +kernel
theorem dX7_firstParting_9 : decode cX7_firstParting 9 = .ok (.aload_n 0, 1) := by decide +kernel
theorem dX7_firstParting_10 : decode cX7_firstParting 10 = .ok (.iload_n 1, 1) := by decide +kernel
theorem dX7_firstParting_11 : decode cX7_firstParting 11 = .ok (.iload_n 3, 1) := by decide +kernel
theorem dX7_firstParting_12 : decode cX7_firstParting 12 = .ok (.invokevirtual 101, 3) := by decide +kernel
theorem dX7_firstParting_15 : decode cX7_firstParting 15 = .ok (.istore 4, 2) := by decide +kernel
theorem dX7_firstParting_17 : decode cX7_firstParting 17 = .ok (.aload_n 0, 1) := by decide +kernel
theorem dX7_firstParting_18 : decode cX7_firstParting 18 = .ok (.iload_n 2, 1) := by decide +kernel
theorem dX7_firstParting_19 : decode cX7_firstParting 19 = .ok (.iload_n 3, 1) := by decide +kernel
theorem dX7_firstParting_20 : decode cX7_firstParting 20 = .ok (.invokevirtual 101, 3) := by decide +kernel
theorem dX7_firstParting_23 : decode cX7_firstParting 23 = .ok (.istore 5, 2) := by decide +kernel
theorem dX7_firstParting_25 : decode cX7_firstParting 25 = .ok (.iload 4, 2) := by decide +kernel
theorem dX7_firstParting_27 : decode cX7_firstParting 27 = .ok (.bipush (-9), 2) := by decide +kernel
theorem dX7_firstParting_29 : decode cX7_firstParting 29 = .ok (.if_icmp .eq 19, 3) := by decide +kernel
theorem dX7_firstParting_32 : decode cX7_firstParting 32 = .ok (.iload 5, 2) := by decide +kernel
theorem dX7_firstParting_34 : decode cX7_firstParting 34 = .ok (.bipush (-9), 2) := by decide +kernel
theorem dX7_firstParting_36 : decode cX7_firstParting 36 = .ok (.if_icmp .eq 12, 3) := by decide +kernel
theorem dX7_firstParting_39 : decode cX7_firstParting 39 = .ok (.iload 4, 2) := by decide +kernel
theorem dX7_firstParting_41 : decode cX7_firstParting 41 = .ok (.iload 5, 2) := by decide +kernel
theorem dX7_firstParting_43 : decode cX7_firstParting 43 = .ok (.if_icmp .eq 5, 3) := by decide +kernel
theorem dX7_firstParting_46 : decode cX7_firstParting 46 = .ok (.iload_n 3, 1) := by decide +kernel
theorem dX7_firstParting_47 : decode cX7_firstParting 47 = .ok (.ireturn, 1) := by decide +kernel
theorem dX7_firstParting_48 : decode cX7_firstParting 48 = .ok (.iinc 3 1, 3) := by decide +kernel
theorem dX7_firstParting_51 : decode cX7_firstParting 51 = .ok (.goto (-49), 3) := by decide +kernel
theorem dX7_firstParting_54 : decode cX7_firstParting 54 = .ok (.bipush (-9), 2) := by decide +kernel
theorem dX7_firstParting_56 : decode cX7_firstParting 56 = .ok (.ireturn, 1) := by decide +kernel
theorem dX7_alikeSet_0 : decode cX7_alikeSet 0 = .ok (.aload_n 0, 1) := by decide +kernel
theorem dX7_alikeSet_1 : decode cX7_alikeSet 1 = .ok (.iload_n 1, 1) := by decide +kernel
theorem dX7_alikeSet_2 : decode cX7_alikeSet 2 = .ok (.invokevirtual 104, 3) := by decide +kernel
theorem dX7_alikeSet_5 : decode cX7_alikeSet 5 = .ok (.istore_n 2, 1) := by decide +kernel
theorem dX7_alikeSet_6 : decode cX7_alikeSet 6 = .ok (.iconst 0, 1) := by decide +kernel
theorem dX7_alikeSet_7 : decode cX7_alikeSet 7 = .ok (.istore_n 3, 1) := by decide +kernel
theorem dX7_alikeSet_8 : decode cX7_alikeSet 8 = .ok (.iconst 0, 1) := by decide +kernel
theorem dX7_alikeSet_9 : decode cX7_alikeSet 9 = .ok (.istore 4, 2) := by decide +kernel
theorem dX7_alikeSet_11 : decode cX7_alikeSet 11 = .ok (.iload 4, 2) := by decide +kernel
theorem dX7_alikeSet_13 : decode cX7_alikeSet 13 = .ok (.bipush 8, 2) := by decide +kernel
theorem dX7_alikeSet_15 : decode cX7_alikeSet 15 = .ok (.if_icmp .ge 44, 3) := by decide +kernel
theorem dX7_alikeSet_18 : decode cX7_alikeSet 18 = .ok (.iload 4, 2) := by decide +kernel
theorem dX7_alikeSet_20 : decode cX7_alikeSet 20 = .ok (.iload_n 1, 1) := by decide +kernel
theorem dX7_alikeSet_21 : decode cX7_alikeSet 21 = .ok (.if_icmp .eq 32, 3) := by decide +kernel
theorem dX7_alikeSet_24 : decode cX7_alikeSet 24 = .ok (.aload_n 0, 1) := by decide +kernel
theorem dX7_alikeSet_25 : decode cX7_alikeSet 25 = .ok (.iload 4, 2) := by decide +kernel
theorem dX7_alikeSet_27 : decode cX7_alikeSet 27 = .ok (.invokevirtual 104, 3) := by decide +kernel
theorem dX7_alikeSet_30 : decode cX7_alikeSet 30 = .ok (.iload_n 2, 1) := by decide +kernel
theorem dX7_alikeSet_31 : decode cX7_alikeSet 31 = .ok (.if_icmp .ne 22, 3) := by decide +kernel
theorem dX7_alikeSet_34 : decode cX7_alikeSet 34 = .ok (.aload_n 0, 1) := by decide +kernel
theorem dX7_alikeSet_35 : decode cX7_alikeSet 35 = .ok (.iload_n 1, 1) := by decide +kernel
theorem dX7_alikeSet_36 : decode cX7_alikeSet 36 = .ok (.iload 4, 2) := by decide +kernel
theorem dX7_alikeSet_38 : decode cX7_alikeSet 38 = .ok (.invokevirtual 118, 3) := by decide +kernel
theorem dX7_alikeSet_41 : decode cX7_alikeSet 41 = .ok (.bipush (-9), 2) := by decide +kernel
theorem dX7_alikeSet_43 : decode cX7_alikeSet 43 = .ok (.if_icmp .ne 10, 3) := by decide +kernel
theorem dX7_alikeSet_46 : decode cX7_alikeSet 46 = .ok (.iload_n 3, 1) := by decide +kernel
theorem dX7_alikeSet_47 : decode cX7_alikeSet 47 = .ok (.iconst 1, 1) := by decide +kernel
theorem dX7_alikeSet_48 : decode cX7_alikeSet 48 = .ok (.iload 4, 2) := by decide +kernel
theorem dX7_alikeSet_50 : decode cX7_alikeSet 50 = .ok (.ishl, 1) := by decide +kernel
theorem dX7_alikeSet_51 : decode cX7_alikeSet 51 = .ok (.ior, 1) := by decide +kernel
theorem dX7_alikeSet_52 : decode cX7_alikeSet 52 = .ok (.istore_n 3, 1) := by decide +kernel
theorem dX7_alikeSet_53 : decode cX7_alikeSet 53 = .ok (.iinc 4 1, 3) := by decide +kernel
theorem dX7_alikeSet_56 : decode cX7_alikeSet 56 = .ok (.goto (-45), 3) := by decide +kernel
theorem dX7_alikeSet_59 : decode cX7_alikeSet 59 = .ok (.iload_n 3, 1) := by decide +kernel
theorem dX7_alikeSet_60 : decode cX7_alikeSet 60 = .ok (.ireturn, 1) := by decide +kernel
theorem dX7_firstDifference_0 : decode cX7_firstDifference 0 = .ok (.iconst 0, 1) := by decide +kernel
theorem dX7_firstDifference_1 : decode cX7_firstDifference 1 = .ok (.istore_n 3, 1) := by decide +kernel
theorem dX7_firstDifference_2 : decode cX7_firstDifference 2 = .ok (.iload_n 3, 1) := by decide +kernel
theorem dX7_firstDifference_3 : decode cX7_firstDifference 3 = .ok (.sipush 400, 3) := by decide +kernel
theorem dX7_firstDifference_6 : decode cX7_firstDifference 6 = .ok (.if_icmp .ge 26, 3) := by decide +kernel
theorem dX7_firstDifference_9 : decode cX7_firstDifference 9 = .ok (.aload_n 0, 1) := by decide +kernel
theorem dX7_firstDifference_10 : decode cX7_firstDifference 10 = .ok (.iload_n 2, 1) := by decide +kernel
theorem dX7_firstDifference_11 : decode cX7_firstDifference 11 = .ok (.iload_n 3, 1) := by decide +kernel
theorem dX7_firstDifference_12 : decode cX7_firstDifference 12 = .ok (.invokevirtual 101, 3) := by decide +kernel
theorem dX7_firstDifference_15 : decode cX7_firstDifference 15 = .ok (.aload_n 1, 1) := by decide +kernel
theorem dX7_firstDifference_16 : decode cX7_firstDifference 16 = .ok (.iload_n 2, 1) := by decide +kernel
theorem dX7_firstDifference_17 : decode cX7_firstDifference 17 = .ok (.iload_n 3, 1) := by decide +kernel
theorem dX7_firstDifference_18 : decode cX7_firstDifference 18 = .ok (.invokevirtual 101, 3) := by decide +kernel
theorem dX7_firstDifference_21 : decode cX7_firstDifference 21 = .ok (.if_icmp .eq 5, 3) := by decide +kernel
theorem dX7_firstDifference_24 : decode cX7_firstDifference 24 = .ok (.iload_n 3, 1) := by decide +kernel
theorem dX7_firstDifference_25 : decode cX7_firstDifference 25 = .ok (.ireturn, 1) := by decide +kernel
theorem dX7_firstDifference_26 : decode cX7_firstDifference 26 = .ok (.iinc 3 1, 3) := by decide +kernel
theorem dX7_firstDifference_29 : decode cX7_firstDifference 29 = .ok (.goto (-27), 3) := by decide +kernel
theorem dX7_firstDifference_32 : decode cX7_firstDifference 32 = .ok (.bipush (-9), 2) := by decide +kernel
theorem dX7_firstDifference_34 : decode cX7_firstDifference 34 = .ok (.ireturn, 1) := by decide +kernel
theorem dX8_init_0 : decode cX8_init 0 = .ok (.aload_n 0, 1) := by decide +kernel
theorem dX8_init_1 : decode cX8_init 1 = .ok (.invokespecial 3, 3) := by decide +kernel
theorem dX8_init_4 : decode cX8_init 4 = .ok (.aload_n 0, 1) := by decide +kernel
theorem dX8_init_5 : decode cX8_init 5 = .ok (.bipush 120, 2) := by decide +kernel
theorem dX8_init_7 : decode cX8_init 7 = .ok (.newarray .int, 2) := by decide +kernel
theorem dX8_init_9 : decode cX8_init 9 = .ok (.putfield 9, 3) := by decide +kernel
theorem dX8_init_12 : decode cX8_init 12 = .ok (.aload_n 0, 1) := by decide +kernel
theorem dX8_init_13 : decode cX8_init 13 = .ok (.bipush 120, 2) := by decide +kernel
theorem dX8_init_15 : decode cX8_init 15 = .ok (.newarray .int, 2) := by decide +kernel
theorem dX8_init_17 : decode cX8_init 17 = .ok (.putfield 15, 3) := by decide +kernel
theorem dX8_init_20 : decode cX8_init 20 = .ok (.aload_n 0, 1) := by decide +kernel
theorem dX8_init_21 : decode cX8_init 21 = .ok (.sipush 3200, 3) := by decide +kernel
theorem dX8_init_24 : decode cX8_init 24 = .ok (.newarray .int, 2) := by decide +kernel
theorem dX8_init_26 : decode cX8_init 26 = .ok (.putfield 18, 3) := by decide +kernel
theorem dX8_init_29 : decode cX8_init 29 = .ok (.aload_n 0, 1) := by decide +kernel
theorem dX8_init_30 : decode cX8_init 30 = .ok (.bipush 50, 2) := by decide +kernel
theorem dX8_init_32 : decode cX8_init 32 = .ok (.newarray .long, 2) := by decide +kernel
theorem dX8_init_34 : decode cX8_init 34 = .ok (.putfield 21, 3) := by decide +kernel
theorem dX8_init_37 : decode cX8_init 37 = .ok (.return_, 1) := by decide +kernel
theorem dX8_spread_0 : decode cX8_spread 0 = .ok (.aload_n 0, 1) := by decide +kernel
theorem dX8_spread_1 : decode cX8_spread 1 = .ok (.getfield 9, 3) := by decide +kernel
theorem dX8_spread_4 : decode cX8_spread 4 = .ok (.iconst 0, 1) := by decide +kernel
theorem dX8_spread_5 : decode cX8_spread 5 = .ok (.iload_n 2, 1) := by decide +kernel
theorem dX8_spread_6 : decode cX8_spread 6 = .ok (.iastore, 1) := by decide +kernel
theorem dX8_spread_7 : decode cX8_spread 7 = .ok (.iconst 0, 1) := by decide +kernel
theorem dX8_spread_8 : decode cX8_spread 8 = .ok (.istore_n 3, 1) := by decide +kernel
theorem dX8_spread_9 : decode cX8_spread 9 = .ok (.iload_n 3, 1) := by decide +kernel
theorem dX8_spread_10 : decode cX8_spread 10 = .ok (.aload_n 1, 1) := by decide +kernel
theorem dX8_spread_11 : decode cX8_spread 11 = .ok (.getfield 25, 3) := by decide +kernel
theorem dX8_spread_14 : decode cX8_spread 14 = .ok (.if_icmp .ge 34, 3) := by decide +kernel
theorem dX8_spread_17 : decode cX8_spread 17 = .ok (.aload_n 0, 1) := by decide +kernel
theorem dX8_spread_18 : decode cX8_spread 18 = .ok (.getfield 9, 3) := by decide +kernel
theorem dX8_spread_21 : decode cX8_spread 21 = .ok (.iload_n 3, 1) := by decide +kernel
theorem dX8_spread_22 : decode cX8_spread 22 = .ok (.iaload, 1) := by decide +kernel
theorem dX8_spread_23 : decode cX8_spread 23 = .ok (.ldc 31, 2) := by decide +kernel
theorem dX8_spread_25 : decode cX8_spread 25 = .ok (.if_icmp .le 5, 3) := by decide +kernel
theorem dX8_spread_28 : decode cX8_spread 28 = .ok (.iconst 0, 1) := by decide +kernel
theorem dX8_spread_29 : decode cX8_spread 29 = .ok (.ireturn, 1) := by decide +kernel
theorem dX8_spread_30 : decode cX8_spread 30 = .ok (.aload_n 0, 1) := by decide +kernel
theorem dX8_spread_31 : decode cX8_spread 31 = .ok (.aload_n 1, 1) := by decide +kernel
theorem dX8_spread_32 : decode cX8_spread 32 = .ok (.iload_n 3, 1) := by decide +kernel
theorem dX8_spread_33 : decode cX8_spread 33 = .ok (.aload_n 0, 1) := by decide +kernel
theorem dX8_spread_34 : decode cX8_spread 34 = .ok (.getfield 9, 3) := by decide +kernel
theorem dX8_spread_37 : decode cX8_spread 37 = .ok (.iload_n 3, 1) := by decide +kernel
theorem dX8_spread_38 : decode cX8_spread 38 = .ok (.iaload, 1) := by decide +kernel
theorem dX8_spread_39 : decode cX8_spread 39 = .ok (.invokevirtual 32, 3) := by decide +kernel
theorem dX8_spread_42 : decode cX8_spread 42 = .ok (.iinc 3 1, 3) := by decide +kernel
theorem dX8_spread_45 : decode cX8_spread 45 = .ok (.goto (-36), 3) := by decide +kernel
theorem dX8_spread_48 : decode cX8_spread 48 = .ok (.iconst 1, 1) := by decide +kernel
theorem dX8_spread_49 : decode cX8_spread 49 = .ok (.ireturn, 1) := by decide +kernel
theorem dX8_spreadPart_0 : decode cX8_spreadPart 0 = .ok (.aload_n 1, 1) := by decide +kernel
theorem dX8_spreadPart_1 : decode cX8_spreadPart 1 = .ok (.getfield 36, 3) := by decide +kernel
theorem dX8_spreadPart_4 : decode cX8_spreadPart 4 = .ok (.iload_n 2, 1) := by decide +kernel
theorem dX8_spreadPart_5 : decode cX8_spreadPart 5 = .ok (.iaload, 1) := by decide +kernel
theorem dX8_spreadPart_6 : decode cX8_spreadPart 6 = .ok (.istore 4, 2) := by decide +kernel
theorem dX8_spreadPart_8 : decode cX8_spreadPart 8 = .ok (.iload_n 3, 1) := by decide +kernel
theorem dX8_spreadPart_9 : decode cX8_spreadPart 9 = .ok (.iconst (-1), 1) := by decide +kernel
theorem dX8_spreadPart_10 : decode cX8_spreadPart 10 = .ok (.if_icmp .eq 7, 3) := by decide +kernel
theorem dX8_spreadPart_13 : decode cX8_spreadPart 13 = .ok (.iconst 1, 1) := by decide +kernel
theorem dX8_spreadPart_14 : decode cX8_spreadPart 14 = .ok (.goto 4, 3) := by decide +kernel
theorem dX8_spreadPart_17 : decode cX8_spreadPart 17 = .ok (.iconst 0, 1) := by decide +kernel
theorem dX8_spreadPart_18 : decode cX8_spreadPart 18 = .ok (.istore 5, 2) := by decide +kernel
theorem dX8_spreadPart_20 : decode cX8_spreadPart 20 = .ok (.iload 4, 2) := by decide +kernel
theorem dX8_spreadPart_22 : decode cX8_spreadPart 22 = .ok (.lookupswitch 226 #[(42, 58), (43, 58), (101, 178), (111, 201), (116, 155), (122, 84)], 58) := by decide +kernel
theorem dX8_spreadPart_80 : decode cX8_spreadPart 80 = .ok (.aload_n 0, 1) := by decide +kernel
theorem dX8_spreadPart_81 : decode cX8_spreadPart 81 = .ok (.getfield 9, 3) := by decide +kernel
theorem dX8_spreadPart_84 : decode cX8_spreadPart 84 = .ok (.iload_n 2, 1) := by decide +kernel
theorem dX8_spreadPart_85 : decode cX8_spreadPart 85 = .ok (.iconst 1, 1) := by decide +kernel
theorem dX8_spreadPart_86 : decode cX8_spreadPart 86 = .ok (.iadd, 1) := by decide +kernel
theorem dX8_spreadPart_87 : decode cX8_spreadPart 87 = .ok (.iload_n 3, 1) := by decide +kernel
theorem dX8_spreadPart_88 : decode cX8_spreadPart 88 = .ok (.iastore, 1) := by decide +kernel
theorem dX8_spreadPart_89 : decode cX8_spreadPart 89 = .ok (.aload_n 0, 1) := by decide +kernel
theorem dX8_spreadPart_90 : decode cX8_spreadPart 90 = .ok (.getfield 9, 3) := by decide +kernel
theorem dX8_spreadPart_93 : decode cX8_spreadPart 93 = .ok (.aload_n 1, 1) := by decide +kernel
theorem dX8_spreadPart_94 : decode cX8_spreadPart 94 = .ok (.getfield 39, 3) := by decide +kernel
theorem dX8_spreadPart_97 : decode cX8_spreadPart 97 = .ok (.iload_n 2, 1) := by decide +kernel
theorem dX8_spreadPart_98 : decode cX8_spreadPart 98 = .ok (.iconst 1, 1) := by decide +kernel
theorem dX8_spreadPart_99 : decode cX8_spreadPart 99 = .ok (.iadd, 1) := by decide +kernel
theorem dX8_spreadPart_100 : decode cX8_spreadPart 100 = .ok (.iaload, 1) := by decide +kernel
theorem dX8_spreadPart_101 : decode cX8_spreadPart 101 = .ok (.iload_n 3, 1) := by decide +kernel
theorem dX8_spreadPart_102 : decode cX8_spreadPart 102 = .ok (.iastore, 1) := by decide +kernel
theorem dX8_spreadPart_103 : decode cX8_spreadPart 103 = .ok (.goto 177, 3) := by decide +kernel
theorem dX8_spreadPart_106 : decode cX8_spreadPart 106 = .ok (.iload_n 3, 1) := by decide +kernel
