theorem dX10_stream_18 : decode cX10_stream 18 = .ok (.iload_n 2, 1) := by decide +kernel
theorem dX10_stream_19 : decode cX10_stream 19 = .ok (.ifCond .ne 22, 3) := by decide +kernel
theorem dX10_stream_22 : decode cX10_stream 22 = .ok (.aload_n 0, 1) := by decide +kernel
theorem dX10_stream_23 : decode cX10_stream 23 = .ok (.iload_n 1, 1) := by decide +kernel
theorem dX10_stream_24 : decode cX10_stream 24 = .ok (.invokevirtual 122, 3) := by decide +kernel
theorem dX10_stream_27 : decode cX10_stream 27 = .ok (.ifCond .eq 11, 3) := by decide +kernel
theorem dX10_stream_30 : decode cX10_stream 30 = .ok (.aload_n 0, 1) := by decide +kernel
theorem dX10_stream_31 : decode cX10_stream 31 = .ok (.iload_n 1, 1) := by decide +kernel
theorem dX10_stream_32 : decode cX10_stream 32 = .ok (.invokevirtual 119, 3) := by decide +kernel
theorem dX10_stream_35 : decode cX10_stream 35 = .ok (.goto 5, 3) := by decide +kernel
theorem dX10_stream_38 : decode cX10_stream 38 = .ok (.bipush (-9), 2) := by decide +kernel
theorem dX10_stream_40 : decode cX10_stream 40 = .ok (.ireturn, 1) := by decide +kernel
theorem dX10_stream_41 : decode cX10_stream 41 = .ok (.aload_n 0, 1) := by decide +kernel
theorem dX10_stream_42 : decode cX10_stream 42 = .ok (.invokevirtual 193, 3) := by decide +kernel
theorem dX10_stream_45 : decode cX10_stream 45 = .ok (.iload_n 2, 1) := by decide +kernel
theorem dX10_stream_46 : decode cX10_stream 46 = .ok (.tableswitch 54 1 3 #[26, 32, 43], 26) := by decide +kernel
theorem dX10_stream_72 : decode cX10_stream 72 = .ok (.aload_n 0, 1) := by decide +kernel
theorem dX10_stream_73 : decode cX10_stream 73 = .ok (.iload_n 1, 1) := by decide +kernel
theorem dX10_stream_74 : decode cX10_stream 74 = .ok (.invokevirtual 196, 3) := by decide +kernel
theorem dX10_stream_77 : decode cX10_stream 77 = .ok (.ireturn, 1) := by decide +kernel
theorem dX10_stream_78 : decode cX10_stream 78 = .ok (.aload_n 0, 1) := by decide +kernel
theorem dX10_stream_79 : decode cX10_stream 79 = .ok (.iload_n 1, 1) := by decide +kernel
theorem dX10_stream_80 : decode cX10_stream 80 = .ok (.aload_n 0, 1) := by decide +kernel
theorem dX10_stream_81 : decode cX10_stream 81 = .ok (.iload_n 1, 1) := by decide +kernel
theorem dX10_stream_82 : decode cX10_stream 82 = .ok (.invokevirtual 196, 3) := by decide +kernel
theorem dX10_stream_85 : decode cX10_stream 85 = .ok (.invokevirtual 225, 3) := by decide +kernel
theorem dX10_stream_88 : decode cX10_stream 88 = .ok (.ireturn, 1) := by decide +kernel
theorem dX10_stream_89 : decode cX10_stream 89 = .ok (.aload_n 0, 1) := by decide +kernel
theorem dX10_stream_90 : decode cX10_stream 90 = .ok (.iload_n 1, 1) := by decide +kernel
theorem dX10_stream_91 : decode cX10_stream 91 = .ok (.aload_n 0, 1) := by decide +kernel
theorem dX10_stream_92 : decode cX10_stream 92 = .ok (.iload_n 1, 1) := by decide +kernel
theorem dX10_stream_93 : decode cX10_stream 93 = .ok (.invokevirtual 196, 3) := by decide +kernel
theorem dX10_stream_96 : decode cX10_stream 96 = .ok (.invokevirtual 228, 3) := by decide +kernel
theorem dX10_stream_99 : decode cX10_stream 99 = .ok (.ireturn, 1) := by decide +kernel
theorem dX10_stream_100 : decode cX10_stream 100 = .ok (.aload_n 0, 1) := by decide +kernel
theorem dX10_stream_101 : decode cX10_stream 101 = .ok (.iload_n 1, 1) := by decide +kernel
theorem dX10_stream_102 : decode cX10_stream 102 = .ok (.iload_n 2, 1) := by decide +kernel
theorem dX10_stream_103 : decode cX10_stream 103 = .ok (.iconst 4, 1) := by decide +kernel
theorem dX10_stream_104 : decode cX10_stream 104 = .ok (.if_icmp .ne 7, 3) := by decide +kernel
theorem dX10_stream_107 : decode cX10_stream 107 = .ok (.iconst 1, 1) := by decide +kernel
theorem dX10_stream_108 : decode cX10_stream 108 = .ok (.goto 4, 3) := by decide +kernel
theorem dX10_stream_111 : decode cX10_stream 111 = .ok (.iconst 0, 1) := by decide +kernel
theorem dX10_stream_112 : decode cX10_stream 112 = .ok (.invokevirtual 231, 3) := by decide +kernel
theorem dX10_stream_115 : decode cX10_stream 115 = .ok (.ireturn, 1) := by decide +kernel
theorem dX10_partingOf_0 : decode cX10_partingOf 0 = .ok (.iconst 0, 1) := by decide +kernel
theorem dX10_partingOf_1 : decode cX10_partingOf 1 = .ok (.istore_n 3, 1) := by decide +kernel
theorem dX10_partingOf_2 : decode cX10_partingOf 2 = .ok (.iload_n 3, 1) := by decide +kernel
theorem dX10_partingOf_3 : decode cX10_partingOf 3 = .ok (.sipush 400, 3) := by decide +kernel
theorem dX10_partingOf_6 : decode cX10_partingOf 6 = .ok (.if_icmp .ge 48, 3) := by decide +kernel
theorem dX10_partingOf_9 : decode cX10_partingOf 9 = .ok (.aload_n 0, 1) := by decide +kernel
theorem dX10_partingOf_10 : decode cX10_partingOf 10 = .ok (.iload_n 1, 1) := by decide +kernel
theorem dX10_partingOf_11 : decode cX10_partingOf 11 = .ok (.iload_n 3, 1) := by decide +kernel
theorem dX10_partingOf_12 : decode cX10_partingOf 12 = .ok (.invokevirtual 190, 3) := by decide +kernel
theorem dX10_partingOf_15 : decode cX10_partingOf 15 = .ok (.bipush (-9), 2) := by decide +kernel
theorem dX10_partingOf_17 : decode cX10_partingOf 17 = .ok (.if_icmp .eq 31, 3) := by decide +kernel
theorem dX10_partingOf_20 : decode cX10_partingOf 20 = .ok (.aload_n 0, 1) := by decide +kernel
theorem dX10_partingOf_21 : decode cX10_partingOf 21 = .ok (.iload_n 2, 1) := by decide +kernel
theorem dX10_partingOf_22 : decode cX10_partingOf 22 = .ok (.iload_n 3, 1) := by decide +kernel
theorem dX10_partingOf_23 : decode cX10_partingOf 23 = .ok (.invokevirtual 190, 3) := by decide +kernel
theorem dX10_partingOf_26 : decode cX10_partingOf 26 = .ok (.bipush (-9), 2) := by decide +kernel
theorem dX10_partingOf_28 : decode cX10_partingOf 28 = .ok (.if_icmp .eq 20, 3) := by decide +kernel
theorem dX10_partingOf_31 : decode cX10_partingOf 31 = .ok (.aload_n 0, 1) := by decide +kernel
theorem dX10_partingOf_32 : decode cX10_partingOf 32 = .ok (.iload_n 1, 1) := by decide +kernel
theorem dX10_partingOf_33 : decode cX10_partingOf 33 = .ok (.iload_n 3, 1) := by decide +kernel
theorem dX10_partingOf_34 : decode cX10_partingOf 34 = .ok (.invokevirtual 190, 3) := by decide +kernel
theorem dX10_partingOf_37 : decode cX10_partingOf 37 = .ok (.aload_n 0, 1) := by decide +kernel
theorem dX10_partingOf_38 : decode cX10_partingOf 38 = .ok (.iload_n 2, 1) := by decide +kernel
theorem dX10_partingOf_39 : decode cX10_partingOf 39 = .ok (.iload_n 3, 1) := by decide +kernel
theorem dX10_partingOf_40 : decode cX10_partingOf 40 = .ok (.invokevirtual 190, 3) := by decide +kernel
theorem dX10_partingOf_43 : decode cX10_partingOf 43 = .ok (.if_icmp .eq 5, 3) := by decide +kernel
theorem dX10_partingOf_46 : decode cX10_partingOf 46 = .ok (.iload_n 3, 1) := by decide +kernel
theorem dX10_partingOf_47 : decode cX10_partingOf 47 = .ok (.ireturn, 1) := by decide +kernel
theorem dX10_partingOf_48 : decode cX10_partingOf 48 = .ok (.iinc 3 1, 3) := by decide +kernel
theorem dX10_partingOf_51 : decode cX10_partingOf 51 = .ok (.goto (-49), 3) := by decide +kernel
theorem dX10_partingOf_54 : decode cX10_partingOf 54 = .ok (.bipush (-9), 2) := by decide +kernel
theorem dX10_partingOf_56 : decode cX10_partingOf 56 = .ok (.ireturn, 1) := by decide +kernel
theorem dX10_parting_0 : decode cX10_parting 0 = .ok (.iload_n 1, 1) := by decide +kernel
theorem dX10_parting_1 : decode cX10_parting 1 = .ok (.invokestatic 109, 3) := by decide +kernel
theorem dX10_parting_4 : decode cX10_parting 4 = .ok (.ifCond .eq 10, 3) := by decide +kernel
theorem dX10_parting_7 : decode cX10_parting 7 = .ok (.iload_n 2, 1) := by decide +kernel
theorem dX10_parting_8 : decode cX10_parting 8 = .ok (.invokestatic 109, 3) := by decide +kernel
theorem dX10_parting_11 : decode cX10_parting 11 = .ok (.ifCond .ne 5, 3) := by decide +kernel
theorem dX10_parting_14 : decode cX10_parting 14 = .ok (.iconst (-1), 1) := by decide +kernel
theorem dX10_parting_15 : decode cX10_parting 15 = .ok (.ireturn, 1) := by decide +kernel
theorem dX10_parting_16 : decode cX10_parting 16 = .ok (.aload_n 0, 1) := by decide +kernel
theorem dX10_parting_17 : decode cX10_parting 17 = .ok (.invokevirtual 193, 3) := by decide +kernel
theorem dX10_parting_20 : decode cX10_parting 20 = .ok (.aload_n 0, 1) := by decide +kernel
theorem dX10_parting_21 : decode cX10_parting 21 = .ok (.iload_n 1, 1) := by decide +kernel
theorem dX10_parting_22 : decode cX10_parting 22 = .ok (.iload_n 2, 1) := by decide +kernel
theorem dX10_parting_23 : decode cX10_parting 23 = .ok (.invokevirtual 235, 3) := by decide +kernel
theorem dX10_parting_26 : decode cX10_parting 26 = .ok (.ireturn, 1) := by decide +kernel
theorem dX10_alike_0 : decode cX10_alike 0 = .ok (.iload_n 1, 1) := by decide +kernel
theorem dX10_alike_1 : decode cX10_alike 1 = .ok (.invokestatic 109, 3) := by decide +kernel
theorem dX10_alike_4 : decode cX10_alike 4 = .ok (.ifCond .ne 5, 3) := by decide +kernel
theorem dX10_alike_7 : decode cX10_alike 7 = .ok (.iconst (-1), 1) := by decide +kernel
theorem dX10_alike_8 : decode cX10_alike 8 = .ok (.ireturn, 1) := by decide +kernel
theorem dX10_alike_9 : decode cX10_alike 9 = .ok (.aload_n 0, 1) := by decide +kernel
theorem dX10_alike_10 : decode cX10_alike 10 = .ok (.invokevirtual 193, 3) := by decide +kernel
theorem dX10_alike_13 : decode cX10_alike 13 = .ok (.iconst 0, 1) := by decide +kernel
theorem dX10_alike_14 : decode cX10_alike 14 = .ok (.istore_n 2, 1) := by decide +kernel
theorem dX10_alike_15 : decode cX10_alike 15 = .ok (.iconst 0, 1) := by decide +kernel
theorem dX10_alike_16 : decode cX10_alike 16 = .ok (.istore_n 3, 1) := by decide +kernel
theorem dX10_alike_17 : decode cX10_alike 17 = .ok (.iload_n 3, 1) := by decide +kernel
theorem dX10_alike_18 : decode cX10_alike 18 = .ok (.bipush 8, 2) := by decide +kernel
theorem dX10_alike_20 : decode cX10_alike 20 = .ok (.if_icmp .ge 48, 3) := by decide +kernel
theorem dX10_alike_23 : decode cX10_alike 23 = .ok (.iload_n 2, 1) := by decide +kernel
theorem dX10_alike_24 : decode cX10_alike 24 = .ok (.iload_n 3, 1) := by decide +kernel
theorem dX10_alike_25 : decode cX10_alike 25 = .ok (.iload_n 1, 1) := by decide +kernel
theorem dX10_alike_26 : decode cX10_alike 26 = .ok (.if_icmp .eq 33, 3) := by decide +kernel
theorem dX10_alike_29 : decode cX10_alike 29 = .ok (.aload_n 0, 1) := by decide +kernel
theorem dX10_alike_30 : decode cX10_alike 30 = .ok (.iload_n 3, 1) := by decide +kernel
theorem dX10_alike_31 : decode cX10_alike 31 = .ok (.invokevirtual 196, 3) := by decide +kernel
theorem dX10_alike_34 : decode cX10_alike 34 = .ok (.aload_n 0, 1) := by decide +kernel
theorem dX10_alike_35 : decode cX10_alike 35 = .ok (.iload_n 1, 1) := by decide +kernel
theorem dX10_alike_36 : decode cX10_alike 36 = .ok (.invokevirtual 196, 3) := by decide +kernel
theorem dX10_alike_39 : decode cX10_alike 39 = .ok (.if_icmp .ne 20, 3) := by decide +kernel
theorem dX10_alike_42 : decode cX10_alike 42 = .ok (.aload_n 0, 1) := by decide +kernel
theorem dX10_alike_43 : decode cX10_alike 43 = .ok (.iload_n 1, 1) := by decide +kernel
theorem dX10_alike_44 : decode cX10_alike 44 = .ok (.iload_n 3, 1) := by decide +kernel
theorem dX10_alike_45 : decode cX10_alike 45 = .ok (.invokevirtual 235, 3) := by decide +kernel
theorem dX10_alike_48 : decode cX10_alike 48 = .ok (.bipush (-9), 2) := by decide +kernel
theorem dX10_alike_50 : decode cX10_alike 50 = .ok (.if_icmp .ne 9, 3) := by decide +kernel
theorem dX10_alike_53 : decode cX10_alike 53 = .ok (.iconst 1, 1) := by decide +kernel
theorem dX10_alike_54 : decode cX10_alike 54 = .ok (.iload_n 3, 1) := by decide +kernel
theorem dX10_alike_55 : decode cX10_alike 55 = .ok (.ishl, 1) := by decide +kernel
theorem dX10_alike_56 : decode cX10_alike 56 = .ok (.goto 4, 3) := by decide +kernel
theorem dX10_alike_59 : decode cX10_alike 59 = .ok (.iconst 0, 1) := by decide +kernel
theorem dX10_alike_60 : decode cX10_alike 60 = .ok (.ior, 1) := by decide +kernel
theorem dX10_alike_61 : decode cX10_alike 61 = .ok (.istore_n 2, 1) := by decide +kernel
theorem dX10_alike_62 : decode cX10_alike 62 = .ok (.iinc 3 1, 3) := by decide +kernel
theorem dX10_alike_65 : decode cX10_alike 65 = .ok (.goto (-48), 3) := by decide +kernel
theorem dX10_alike_68 : decode cX10_alike 68 = .ok (.iload_n 2, 1) := by decide +kernel
theorem dX10_alike_69 : decode cX10_alike 69 = .ok (.ireturn, 1) := by decide +kernel
theorem dX10_gather_0 : decode cX10_gather 0 = .ok (.iconst 0, 1) := by decide +kernel
theorem dX10_gather_1 : decode cX10_gather 1 = .ok (.istore_n 2, 1) := by decide +kernel
theorem dX10_gather_2 : decode cX10_gather 2 = .ok (.iload_n 2, 1) := by decide +kernel
theorem dX10_gather_3 : decode cX10_gather 3 = .ok (.sipush 3200, 3) := by decide +kernel
theorem dX10_gather_6 : decode cX10_gather 6 = .ok (.if_icmp .ge 16, 3) := by decide +kernel
theorem dX10_gather_9 : decode cX10_gather 9 = .ok (.aload_n 0, 1) := by decide +kernel
theorem dX10_gather_10 : decode cX10_gather 10 = .ok (.getfield 61, 3) := by decide +kernel
theorem dX10_gather_13 : decode cX10_gather 13 = .ok (.iload_n 2, 1) := by decide +kernel
theorem dX10_gather_14 : decode cX10_gather 14 = .ok (.iconst 0, 1) := by decide +kernel
theorem dX10_gather_15 : decode cX10_gather 15 = .ok (.bastore, 1) := by decide +kernel
theorem dX10_gather_16 : decode cX10_gather 16 = .ok (.iinc 2 1, 3) := by decide +kernel
theorem dX10_gather_19 : decode cX10_gather 19 = .ok (.goto (-17), 3) := by decide +kernel
theorem dX10_gather_22 : decode cX10_gather 22 = .ok (.aload_n 0, 1) := by decide +kernel
theorem dX10_gather_23 : decode cX10_gather 23 = .ok (.getfield 65, 3) := by decide +kernel
theorem dX10_gather_26 : decode cX10_gather 26 = .ok (.iconst 0, 1) := by decide +kernel
theorem dX10_gather_27 : decode cX10_gather 27 = .ok (.iload_n 1, 1) := by decide +kernel
theorem dX10_gather_28 : decode cX10_gather 28 = .ok (.iastore, 1) := by decide +kernel
theorem dX10_gather_29 : decode cX10_gather 29 = .ok (.iconst 1, 1) := by decide +kernel
theorem dX10_gather_30 : decode cX10_gather 30 = .ok (.istore_n 2, 1) := by decide +kernel
theorem dX10_gather_31 : decode cX10_gather 31 = .ok (.iconst 0, 1) := by decide +kernel
theorem dX10_gather_32 : decode cX10_gather 32 = .ok (.istore_n 3, 1) := by decide +kernel
theorem dX10_gather_33 : decode cX10_gather 33 = .ok (.iload_n 3, 1) := by decide +kernel
theorem dX10_gather_34 : decode cX10_gather 34 = .ok (.iload_n 2, 1) := by decide +kernel
theorem dX10_gather_35 : decode cX10_gather 35 = .ok (.if_icmp .ge 97, 3) := by decide +kernel
theorem dX10_gather_38 : decode cX10_gather 38 = .ok (.aload_n 0, 1) := by decide +kernel
theorem dX10_gather_39 : decode cX10_gather 39 = .ok (.aload_n 0, 1) := by decide +kernel
theorem dX10_gather_40 : decode cX10_gather 40 = .ok (.getfield 65, 3) := by decide +kernel
theorem dX10_gather_43 : decode cX10_gather 43 = .ok (.iload_n 3, 1) := by decide +kernel
theorem dX10_gather_44 : decode cX10_gather 44 = .ok (.iaload, 1) := by decide +kernel
theorem dX10_gather_45 : decode cX10_gather 45 = .ok (.sipush 400, 3) := by decide +kernel
theorem dX10_gather_48 : decode cX10_gather 48 = .ok (.idiv, 1) := by decide +kernel
theorem dX10_gather_49 : decode cX10_gather 49 = .ok (.aload_n 0, 1) := by decide +kernel
theorem dX10_gather_50 : decode cX10_gather 50 = .ok (.getfield 65, 3) := by decide +kernel
theorem dX10_gather_53 : decode cX10_gather 53 = .ok (.iload_n 3, 1) := by decide +kernel
theorem dX10_gather_54 : decode cX10_gather 54 = .ok (.iaload, 1) := by decide +kernel
theorem dX10_gather_55 : decode cX10_gather 55 = .ok (.sipush 400, 3) := by decide +kernel
theorem dX10_gather_58 : decode cX10_gather 58 = .ok (.irem, 1) := by decide +kernel
theorem dX10_gather_59 : decode cX10_gather 59 = .ok (.invokevirtual 184, 3) := by decide +kernel
theorem dX10_gather_62 : decode cX10_gather 62 = .ok (.istore 4, 2) := by decide +kernel
theorem dX10_gather_64 : decode cX10_gather 64 = .ok (.iconst 0, 1) := by decide +kernel
theorem dX10_gather_65 : decode cX10_gather 65 = .ok (.istore 5, 2) := by decide +kernel
theorem dX10_gather_67 : decode cX10_gather 67 = .ok (.iload 5, 2) := by decide +kernel
theorem dX10_gather_69 : decode cX10_gather 69 = .ok (.aload_n 0, 1) := by decide +kernel
theorem dX10_gather_70 : decode cX10_gather 70 = .ok (.getfield 178, 3) := by decide +kernel
theorem dX10_gather_73 : decode cX10_gather 73 = .ok (.if_icmp .ge 53, 3) := by decide +kernel
theorem dX10_gather_76 : decode cX10_gather 76 = .ok (.aload_n 0, 1) := by decide +kernel
theorem dX10_gather_77 : decode cX10_gather 77 = .ok (.getfield 61, 3) := by decide +kernel
theorem dX10_gather_80 : decode cX10_gather 80 = .ok (.aload_n 0, 1) := by decide +kernel
theorem dX10_gather_81 : decode cX10_gather 81 = .ok (.getfield 49, 3) := by decide +kernel
theorem dX10_gather_84 : decode cX10_gather 84 = .ok (.iload 5, 2) := by decide +kernel
theorem dX10_gather_86 : decode cX10_gather 86 = .ok (.iaload, 1) := by decide +kernel
theorem dX10_gather_87 : decode cX10_gather 87 = .ok (.baload, 1) := by decide +kernel
theorem dX10_gather_88 : decode cX10_gather 88 = .ok (.ifCond .ne 32, 3) := by decide +kernel
theorem dX10_gather_91 : decode cX10_gather 91 = .ok (.aload_n 0, 1) := by decide +kernel
theorem dX10_gather_92 : decode cX10_gather 92 = .ok (.getfield 61, 3) := by decide +kernel
theorem dX10_gather_95 : decode cX10_gather 95 = .ok (.aload_n 0, 1) := by decide +kernel
theorem dX10_gather_96 : decode cX10_gather 96 = .ok (.getfield 49, 3) := by decide +kernel
theorem dX10_gather_99 : decode cX10_gather 99 = .ok (.iload 5, 2) := by decide +kernel
theorem dX10_gather_101 : decode cX10_gather 101 = .ok (.iaload, 1) := by decide +kernel
theorem dX10_gather_102 : decode cX10_gather 102 = .ok (.iconst 1, 1) := by decide +kernel
theorem dX10_gather_103 : decode cX10_gather 103 = .ok (.bastore, 1) := by decide +kernel
theorem dX10_gather_104 : decode cX10_gather 104 = .ok (.aload_n 0, 1) := by decide +kernel
theorem dX10_gather_105 : decode cX10_gather 105 = .ok (.getfield 65, 3) := by decide +kernel
theorem dX10_gather_108 : decode cX10_gather 108 = .ok (.iload_n 2, 1) := by decide +kernel
theorem dX10_gather_109 : decode cX10_gather 109 = .ok (.aload_n 0, 1) := by decide +kernel
theorem dX10_gather_110 : decode cX10_gather 110 = .ok (.getfield 49, 3) := by decide +kernel
theorem dX10_gather_113 : decode cX10_gather 113 = .ok (.iload 5, 2) := by decide +kernel
theorem dX10_gather_115 : decode cX10_gather 115 = .ok (.iaload, 1) := by decide +kernel
theorem dX10_gather_116 : decode cX10_gather 116 = .ok (.iastore, 1) := by decide +kernel
theorem dX10_gather_117 : decode cX10_gather 117 = .ok (.iinc 2 1, 3) := by decide +kernel
theorem dX10_gather_120 : decode cX10_gather 120 = .ok (.iinc 5 1, 3) := by decide +kernel
theorem dX10_gather_123 : decode cX10_gather 123 = .ok (.goto (-56), 3) := by decide +kernel
theorem dX10_gather_126 : decode cX10_gather 126 = .ok (.iinc 3 1, 3) := by decide +kernel
theorem dX10_gather_129 : decode cX10_gather 129 = .ok (.goto (-96), 3) := by decide +kernel
theorem dX10_gather_132 : decode cX10_gather 132 = .ok (.iload_n 2, 1) := by decide +kernel
theorem dX10_gather_133 : decode cX10_gather 133 = .ok (.iconst 1, 1) := by decide +kernel
theorem dX10_gather_134 : decode cX10_gather 134 = .ok (.isub, 1) := by decide +kernel
theorem dX10_gather_135 : decode cX10_gather 135 = .ok (.ireturn, 1) := by decide +kernel
theorem dX10_highestNeeded_0 : decode cX10_highestNeeded 0 = .ok (.bipush (-9), 2) := by decide +kernel
theorem dX10_highestNeeded_2 : decode cX10_highestNeeded 2 = .ok (.istore_n 2, 1) := by decide +kernel
theorem dX10_highestNeeded_3 : decode cX10_highestNeeded 3 = .ok (.iconst 1, 1) := by decide +kernel
theorem dX10_highestNeeded_4 : decode cX10_highestNeeded 4 = .ok (.istore_n 3, 1) := by decide +kernel
theorem dX10_highestNeeded_5 : decode cX10_highestNeeded 5 = .ok (.iload_n 3, 1) := by decide +kernel
theorem dX10_highestNeeded_6 : decode cX10_highestNeeded 6 = .ok (.iload_n 1, 1) := by decide +kernel
theorem dX10_highestNeeded_7 : decode cX10_highestNeeded 7 = .ok (.if_icmp .gt 38, 3) := by decide +kernel
theorem dX10_highestNeeded_10 : decode cX10_highestNeeded 10 = .ok (.aload_n 0, 1) := by decide +kernel
theorem dX10_highestNeeded_11 : decode cX10_highestNeeded 11 = .ok (.getfield 65, 3) := by decide +kernel
theorem dX10_highestNeeded_14 : decode cX10_highestNeeded 14 = .ok (.iload_n 3, 1) := by decide +kernel
theorem dX10_highestNeeded_15 : decode cX10_highestNeeded 15 = .ok (.iaload, 1) := by decide +kernel
theorem dX10_highestNeeded_16 : decode cX10_highestNeeded 16 = .ok (.sipush 400, 3) := by decide +kernel
theorem dX10_highestNeeded_19 : decode cX10_highestNeeded 19 = .ok (.irem, 1) := by decide +kernel
theorem dX10_highestNeeded_20 : decode cX10_highestNeeded 20 = .ok (.iload_n 2, 1) := by decide +kernel
theorem dX10_highestNeeded_21 : decode cX10_highestNeeded 21 = .ok (.if_icmp .le 16, 3) := by decide +kernel
theorem dX10_highestNeeded_24 : decode cX10_highestNeeded 24 = .ok (.aload_n 0, 1) := by decide +kernel
theorem dX10_highestNeeded_25 : decode cX10_highestNeeded 25 = .ok (.getfield 65, 3) := by decide +kernel
theorem dX10_highestNeeded_28 : decode cX10_highestNeeded 28 = .ok (.iload_n 3, 1) := by decide +kernel
theorem dX10_highestNeeded_29 : decode cX10_highestNeeded 29 = .ok (.iaload, 1) := by decide +kernel
theorem dX10_highestNeeded_30 : decode cX10_highestNeeded 30 = .ok (.sipush 400, 3) := by decide +kernel
theorem dX10_highestNeeded_33 : decode cX10_highestNeeded 33 = .ok (.irem, 1) := by decide +kernel
theorem dX10_highestNeeded_34 : decode cX10_highestNeeded 34 = .ok (.goto 4, 3) := by decide +kernel
theorem dX10_highestNeeded_37 : decode cX10_highestNeeded 37 = .ok (.iload_n 2, 1) := by decide +kernel
theorem dX10_highestNeeded_38 : decode cX10_highestNeeded 38 = .ok (.istore_n 2, 1) := by decide +kernel
theorem dX10_highestNeeded_39 : decode cX10_highestNeeded 39 = .ok (.iinc 3 1, 3) := by decide +kernel
theorem dX10_highestNeeded_42 : decode cX10_highestNeeded 42 = .ok (.goto (-37), 3) := by decide +kernel
theorem dX10_highestNeeded_45 : decode cX10_highestNeeded 45 = .ok (.iload_n 2, 1) := by decide +kernel
theorem dX10_highestNeeded_46 : decode cX10_highestNeeded 46 = .ok (.ireturn, 1) := by decide +kernel
theorem dX10_streamsNeeded_0 : decode cX10_streamsNeeded 0 = .ok (.iconst 0, 1) := by decide +kernel
theorem dX10_streamsNeeded_1 : decode cX10_streamsNeeded 1 = .ok (.istore_n 2, 1) := by decide +kernel
theorem dX10_streamsNeeded_2 : decode cX10_streamsNeeded 2 = .ok (.iconst 0, 1) := by decide +kernel
theorem dX10_streamsNeeded_3 : decode cX10_streamsNeeded 3 = .ok (.istore_n 3, 1) := by decide +kernel
theorem dX10_streamsNeeded_4 : decode cX10_streamsNeeded 4 = .ok (.iconst 1, 1) := by decide +kernel
theorem dX10_streamsNeeded_5 : decode cX10_streamsNeeded 5 = .ok (.istore 4, 2) := by decide +kernel
theorem dX10_streamsNeeded_7 : decode cX10_streamsNeeded 7 = .ok (.iload 4, 2) := by decide +kernel
theorem dX10_streamsNeeded_9 : decode cX10_streamsNeeded 9 = .ok (.iload_n 1, 1) := by decide +kernel
theorem dX10_streamsNeeded_10 : decode cX10_streamsNeeded 10 = .ok (.if_icmp .gt 46, 3) := by decide +kernel
theorem dX10_streamsNeeded_13 : decode cX10_streamsNeeded 13 = .ok (.aload_n 0, 1) := by decide +kernel
theorem dX10_streamsNeeded_14 : decode cX10_streamsNeeded 14 = .ok (.getfield 65, 3) := by decide +kernel
theorem dX10_streamsNeeded_17 : decode cX10_streamsNeeded 17 = .ok (.iload 4, 2) := by decide +kernel
theorem dX10_streamsNeeded_19 : decode cX10_streamsNeeded 19 = .ok (.iaload, 1) := by decide +kernel
theorem dX10_streamsNeeded_20 : decode cX10_streamsNeeded 20 = .ok (.sipush 400, 3) := by decide +kernel
theorem dX10_streamsNeeded_23 : decode cX10_streamsNeeded 23 = .ok (.idiv, 1) := by decide +kernel
theorem dX10_streamsNeeded_24 : decode cX10_streamsNeeded 24 = .ok (.istore 5, 2) := by decide +kernel
theorem dX10_streamsNeeded_26 : decode cX10_streamsNeeded 26 = .ok (.iload_n 3, 1) := by decide +kernel
theorem dX10_streamsNeeded_27 : decode cX10_streamsNeeded 27 = .ok (.iload_n 2, 1) := by decide +kernel
theorem dX10_streamsNeeded_28 : decode cX10_streamsNeeded 28 = .ok (.iload 5, 2) := by decide +kernel
theorem dX10_streamsNeeded_30 : decode cX10_streamsNeeded 30 = .ok (.ishr, 1) := by decide +kernel
theorem dX10_streamsNeeded_31 : decode cX10_streamsNeeded 31 = .ok (.iconst 1, 1) := by decide +kernel
theorem dX10_streamsNeeded_32 : decode cX10_streamsNeeded 32 = .ok (.iand, 1) := by decide +kernel
theorem dX10_streamsNeeded_33 : decode cX10_streamsNeeded 33 = .ok (.ifCond .ne 7, 3) := by decide +kernel
theorem dX10_streamsNeeded_36 : decode cX10_streamsNeeded 36 = .ok (.iconst 1, 1) := by decide +kernel
theorem dX10_streamsNeeded_37 : decode cX10_streamsNeeded 37 = .ok (.goto 4, 3) := by decide +kernel
theorem dX10_streamsNeeded_40 : decode cX10_streamsNeeded 40 = .ok (.iconst 0, 1) := by decide +kernel
theorem dX10_streamsNeeded_41 : decode cX10_streamsNeeded 41 = .ok (.iadd, 1) := by decide +kernel
theorem dX10_streamsNeeded_42 : decode cX10_streamsNeeded 42 = .ok (.istore_n 3, 1) := by decide +kernel
theorem dX10_streamsNeeded_43 : decode cX10_streamsNeeded 43 = .ok (.iload_n 2, 1) := by decide +kernel
theorem dX10_streamsNeeded_44 : decode cX10_streamsNeeded 44 = .ok (.iconst 1, 1) := by decide +kernel
theorem dX10_streamsNeeded_45 : decode cX10_streamsNeeded 45 = .ok (.iload 5, 2) := by decide +kernel
theorem dX10_streamsNeeded_47 : decode cX10_streamsNeeded 47 = .ok (.ishl, 1) := by decide +kernel
theorem dX10_streamsNeeded_48 : decode cX10_streamsNeeded 48 = .ok (.ior, 1) := by decide +kernel
theorem dX10_streamsNeeded_49 : decode cX10_streamsNeeded 49 = .ok (.istore_n 2, 1) := by decide +kernel
theorem dX10_streamsNeeded_50 : decode cX10_streamsNeeded 50 = .ok (.iinc 4 1, 3) := by decide +kernel
theorem dX10_streamsNeeded_53 : decode cX10_streamsNeeded 53 = .ok (.goto (-46), 3) := by decide +kernel
theorem dX10_streamsNeeded_56 : decode cX10_streamsNeeded 56 = .ok (.iload_n 3, 1) := by decide +kernel
theorem dX10_streamsNeeded_57 : decode cX10_streamsNeeded 57 = .ok (.ireturn, 1) := by decide +kernel
theorem dX10_needs_0 : decode cX10_needs 0 = .ok (.iload_n 1, 1) := by decide +kernel
theorem dX10_needs_1 : decode cX10_needs 1 = .ok (.invokestatic 109, 3) := by decide +kernel
theorem dX10_needs_4 : decode cX10_needs 4 = .ok (.ifCond .eq 23, 3) := by decide +kernel
theorem dX10_needs_7 : decode cX10_needs 7 = .ok (.iload_n 2, 1) := by decide +kernel
theorem dX10_needs_8 : decode cX10_needs 8 = .ok (.iconst 0, 1) := by decide +kernel
theorem dX10_needs_9 : decode cX10_needs 9 = .ok (.sipush 399, 3) := by decide +kernel
theorem dX10_needs_12 : decode cX10_needs 12 = .ok (.invokestatic 74, 3) := by decide +kernel
theorem dX10_needs_15 : decode cX10_needs 15 = .ok (.ifCond .eq 12, 3) := by decide +kernel
theorem dX10_needs_18 : decode cX10_needs 18 = .ok (.iload_n 3, 1) := by decide +kernel
theorem dX10_needs_19 : decode cX10_needs 19 = .ok (.iconst 0, 1) := by decide +kernel
theorem dX10_needs_20 : decode cX10_needs 20 = .ok (.iconst 3, 1) := by decide +kernel
theorem dX10_needs_21 : decode cX10_needs 21 = .ok (.invokestatic 74, 3) := by decide +kernel
theorem dX10_needs_24 : decode cX10_needs 24 = .ok (.ifCond .ne 5, 3) := by decide +kernel
theorem dX10_needs_27 : decode cX10_needs 27 = .ok (.iconst (-1), 1) := by decide +kernel
theorem dX10_needs_28 : decode cX10_needs 28 = .ok (.ireturn, 1) := by decide +kernel
theorem dX10_needs_29 : decode cX10_needs 29 = .ok (.aload_n 0, 1) := by decide +kernel
theorem dX10_needs_30 : decode cX10_needs 30 = .ok (.invokevirtual 193, 3) := by decide +kernel
theorem dX10_needs_33 : decode cX10_needs 33 = .ok (.aload_n 0, 1) := by decide +kernel
theorem dX10_needs_34 : decode cX10_needs 34 = .ok (.iload_n 1, 1) := by decide +kernel
theorem dX10_needs_35 : decode cX10_needs 35 = .ok (.iload_n 2, 1) := by decide +kernel
theorem dX10_needs_36 : decode cX10_needs 36 = .ok (.invokevirtual 190, 3) := by decide +kernel
theorem dX10_needs_39 : decode cX10_needs 39 = .ok (.bipush (-9), 2) := by decide +kernel
theorem dX10_needs_41 : decode cX10_needs 41 = .ok (.if_icmp .ne 6, 3) := by decide +kernel
theorem dX10_needs_44 : decode cX10_needs 44 = .ok (.bipush (-9), 2) := by decide +kernel
theorem dX10_needs_46 : decode cX10_needs 46 = .ok (.ireturn, 1) := by decide +kernel
theorem dX10_needs_47 : decode cX10_needs 47 = .ok (.iload_n 3, 1) := by decide +kernel
theorem dX10_needs_48 : decode cX10_needs 48 = .ok (.iconst 1, 1) := by decide +kernel
theorem dX10_needs_49 : decode cX10_needs 49 = .ok (.if_icmp .ne 16, 3) := by decide +kernel
theorem dX10_needs_52 : decode cX10_needs 52 = .ok (.aload_n 0, 1) := by decide +kernel
theorem dX10_needs_53 : decode cX10_needs 53 = .ok (.getfield 34, 3) := by decide +kernel
theorem dX10_needs_56 : decode cX10_needs 56 = .ok (.sipush 400, 3) := by decide +kernel
theorem dX10_needs_59 : decode cX10_needs 59 = .ok (.iload_n 1, 1) := by decide +kernel
theorem dX10_needs_60 : decode cX10_needs 60 = .ok (.imul, 1) := by decide +kernel
theorem dX10_needs_61 : decode cX10_needs 61 = .ok (.iload_n 2, 1) := by decide +kernel
theorem dX10_needs_62 : decode cX10_needs 62 = .ok (.iadd, 1) := by decide +kernel
theorem dX10_needs_63 : decode cX10_needs 63 = .ok (.iaload, 1) := by decide +kernel
theorem dX10_needs_64 : decode cX10_needs 64 = .ok (.ireturn, 1) := by decide +kernel
theorem dX10_needs_65 : decode cX10_needs 65 = .ok (.aload_n 0, 1) := by decide +kernel
theorem dX10_needs_66 : decode cX10_needs 66 = .ok (.sipush 400, 3) := by decide +kernel
theorem dX10_needs_69 : decode cX10_needs 69 = .ok (.iload_n 1, 1) := by decide +kernel
theorem dX10_needs_70 : decode cX10_needs 70 = .ok (.imul, 1) := by decide +kernel
theorem dX10_needs_71 : decode cX10_needs 71 = .ok (.iload_n 2, 1) := by decide +kernel
theorem dX10_needs_72 : decode cX10_needs 72 = .ok (.iadd, 1) := by decide +kernel
theorem dX10_needs_73 : decode cX10_needs 73 = .ok (.invokevirtual 238, 3) := by decide +kernel
theorem dX10_needs_76 : decode cX10_needs 76 = .ok (.istore 4, 2) := by decide +kernel
theorem dX10_needs_78 : decode cX10_needs 78 = .ok (.iload_n 3, 1) := by decide +kernel
theorem dX10_needs_79 : decode cX10_needs 79 = .ok (.ifCond .ne 8, 3) := by decide +kernel
theorem dX10_needs_82 : decode cX10_needs 82 = .ok (.iload 4, 2) := by decide +kernel
theorem dX10_needs_84 : decode cX10_needs 84 = .ok (.goto 23, 3) := by decide +kernel
theorem dX10_needs_87 : decode cX10_needs 87 = .ok (.iload_n 3, 1) := by decide +kernel
theorem dX10_needs_88 : decode cX10_needs 88 = .ok (.iconst 2, 1) := by decide +kernel
theorem dX10_needs_89 : decode cX10_needs 89 = .ok (.if_icmp .ne 12, 3) := by decide +kernel
theorem dX10_needs_92 : decode cX10_needs 92 = .ok (.aload_n 0, 1) := by decide +kernel
theorem dX10_needs_93 : decode cX10_needs 93 = .ok (.iload 4, 2) := by decide +kernel
theorem dX10_needs_95 : decode cX10_needs 95 = .ok (.invokevirtual 241, 3) := by decide +kernel
theorem dX10_needs_98 : decode cX10_needs 98 = .ok (.goto 9, 3) := by decide +kernel
theorem dX10_needs_101 : decode cX10_needs 101 = .ok (.aload_n 0, 1) := by decide +kernel
theorem dX10_needs_102 : decode cX10_needs 102 = .ok (.iload 4, 2) := by decide +kernel
theorem dX10_needs_104 : decode cX10_needs 104 = .ok (.invokevirtual 244, 3) := by decide +kernel
theorem dX10_needs_107 : decode cX10_needs 107 = .ok (.ireturn, 1) := by decide +kernel
theorem dX10_isImage_0 : decode cX10_isImage 0 = .ok (.iload_n 0, 1) := by decide +kernel
theorem dX10_isImage_1 : decode cX10_isImage 1 = .ok (.iconst 0, 1) := by decide +kernel
theorem dX10_isImage_2 : decode cX10_isImage 2 = .ok (.iconst 1, 1) := by decide +kernel
theorem dX10_isImage_3 : decode cX10_isImage 3 = .ok (.invokestatic 74, 3) := by decide +kernel
theorem dX10_isImage_6 : decode cX10_isImage 6 = .ok (.ireturn, 1) := by decide +kernel
theorem dX10_isKept_0 : decode cX10_isKept 0 = .ok (.aload_n 0, 1) := by decide +kernel
theorem dX10_isKept_1 : decode cX10_isKept 1 = .ok (.getfield 247, 3) := by decide +kernel
theorem dX10_isKept_4 : decode cX10_isKept 4 = .ok (.iload_n 1, 1) := by decide +kernel
theorem dX10_isKept_5 : decode cX10_isKept 5 = .ok (.ishr, 1) := by decide +kernel
theorem dX10_isKept_6 : decode cX10_isKept 6 = .ok (.iconst 1, 1) := by decide +kernel
theorem dX10_isKept_7 : decode cX10_isKept 7 = .ok (.iand, 1) := by decide +kernel
theorem dX10_isKept_8 : decode cX10_isKept 8 = .ok (.iconst 1, 1) := by decide +kernel
theorem dX10_isKept_9 : decode cX10_isKept 9 = .ok (.if_icmp .ne 7, 3) := by decide +kernel
theorem dX10_isKept_12 : decode cX10_isKept 12 = .ok (.iconst 1, 1) := by decide +kernel
theorem dX10_isKept_13 : decode cX10_isKept 13 = .ok (.goto 4, 3) := by decide +kernel
theorem dX10_isKept_16 : decode cX10_isKept 16 = .ok (.iconst 0, 1) := by decide +kernel
theorem dX10_isKept_17 : decode cX10_isKept 17 = .ok (.ireturn, 1) := by decide +kernel
theorem dX10_keep_0 : decode cX10_keep 0 = .ok (.iload_n 1, 1) := by decide +kernel
theorem dX10_keep_1 : decode cX10_keep 1 = .ok (.invokestatic 250, 3) := by decide +kernel
theorem dX10_keep_4 : decode cX10_keep 4 = .ok (.ifCond .ne 5, 3) := by decide +kernel
theorem dX10_keep_7 : decode cX10_keep 7 = .ok (.iconst (-1), 1) := by decide +kernel
theorem dX10_keep_8 : decode cX10_keep 8 = .ok (.ireturn, 1) := by decide +kernel
theorem dX10_keep_9 : decode cX10_keep 9 = .ok (.iconst 0, 1) := by decide +kernel
theorem dX10_keep_10 : decode cX10_keep 10 = .ok (.istore_n 2, 1) := by decide +kernel
theorem dX10_keep_11 : decode cX10_keep 11 = .ok (.iload_n 2, 1) := by decide +kernel
theorem dX10_keep_12 : decode cX10_keep 12 = .ok (.sipush 2001, 3) := by decide +kernel
theorem dX10_keep_15 : decode cX10_keep 15 = .ok (.if_icmp .ge 27, 3) := by decide +kernel
theorem dX10_keep_18 : decode cX10_keep 18 = .ok (.aload_n 0, 1) := by decide +kernel
theorem dX10_keep_19 : decode cX10_keep 19 = .ok (.getfield 16, 3) := by decide +kernel
theorem dX10_keep_22 : decode cX10_keep 22 = .ok (.sipush 2001, 3) := by decide +kernel
theorem dX10_keep_25 : decode cX10_keep 25 = .ok (.iload_n 1, 1) := by decide +kernel
theorem dX10_keep_26 : decode cX10_keep 26 = .ok (.imul, 1) := by decide +kernel
theorem dX10_keep_27 : decode cX10_keep 27 = .ok (.iload_n 2, 1) := by decide +kernel
theorem dX10_keep_28 : decode cX10_keep 28 = .ok (.iadd, 1) := by decide +kernel
theorem dX10_keep_29 : decode cX10_keep 29 = .ok (.aload_n 0, 1) := by decide +kernel
theorem dX10_keep_30 : decode cX10_keep 30 = .ok (.getfield 7, 3) := by decide +kernel
theorem dX10_keep_33 : decode cX10_keep 33 = .ok (.iload_n 2, 1) := by decide +kernel
theorem dX10_keep_34 : decode cX10_keep 34 = .ok (.iaload, 1) := by decide +kernel
theorem dX10_keep_35 : decode cX10_keep 35 = .ok (.iastore, 1) := by decide +kernel
theorem dX10_keep_36 : decode cX10_keep 36 = .ok (.iinc 2 1, 3) := by decide +kernel
theorem dX10_keep_39 : decode cX10_keep 39 = .ok (.goto (-28), 3) := by decide +kernel
theorem dX10_keep_42 : decode cX10_keep 42 = .ok (.aload_n 0, 1) := by decide +kernel
theorem dX10_keep_43 : decode cX10_keep 43 = .ok (.dup, 1) := by decide +kernel
theorem dX10_keep_44 : decode cX10_keep 44 = .ok (.getfield 247, 3) := by decide +kernel
theorem dX10_keep_47 : decode cX10_keep 47 = .ok (.iconst 1, 1) := by decide +kernel
theorem dX10_keep_48 : decode cX10_keep 48 = .ok (.iload_n 1, 1) := by decide +kernel
theorem dX10_keep_49 : decode cX10_keep 49 = .ok (.ishl, 1) := by decide +kernel
theorem dX10_keep_50 : decode cX10_keep 50 = .ok (.ior, 1) := by decide +kernel
theorem dX10_keep_51 : decode cX10_keep 51 = .ok (.putfield 247, 3) := by decide +kernel
theorem dX10_keep_54 : decode cX10_keep 54 = .ok (.aload_n 0, 1) := by decide +kernel
theorem dX10_keep_55 : decode cX10_keep 55 = .ok (.invokevirtual 199, 3) := by decide +kernel
theorem dX10_keep_58 : decode cX10_keep 58 = .ok (.ireturn, 1) := by decide +kernel
theorem dX10_back_0 : decode cX10_back 0 = .ok (.iload_n 1, 1) := by decide +kernel
theorem dX10_back_1 : decode cX10_back 1 = .ok (.invokestatic 250, 3) := by decide +kernel
theorem dX10_back_4 : decode cX10_back 4 = .ok (.ifCond .ne 5, 3) := by decide +kernel
theorem dX10_back_7 : decode cX10_back 7 = .ok (.iconst (-1), 1) := by decide +kernel
theorem dX10_back_8 : decode cX10_back 8 = .ok (.ireturn, 1) := by decide +kernel
theorem dX10_back_9 : decode cX10_back 9 = .ok (.aload_n 0, 1) := by decide +kernel
theorem dX10_back_10 : decode cX10_back 10 = .ok (.iload_n 1, 1) := by decide +kernel
theorem dX10_back_11 : decode cX10_back 11 = .ok (.invokevirtual 253, 3) := by decide +kernel
theorem dX10_back_14 : decode cX10_back 14 = .ok (.ifCond .ne 6, 3) := by decide +kernel
theorem dX10_back_17 : decode cX10_back 17 = .ok (.bipush (-2), 2) := by decide +kernel
theorem dX10_back_19 : decode cX10_back 19 = .ok (.ireturn, 1) := by decide +kernel
theorem dX10_back_20 : decode cX10_back 20 = .ok (.aload_n 0, 1) := by decide +kernel
theorem dX10_back_21 : decode cX10_back 21 = .ok (.invokevirtual 116, 3) := by decide +kernel
theorem dX10_back_24 : decode cX10_back 24 = .ok (.iconst 0, 1) := by decide +kernel
theorem dX10_back_25 : decode cX10_back 25 = .ok (.istore_n 2, 1) := by decide +kernel
theorem dX10_back_26 : decode cX10_back 26 = .ok (.iload_n 2, 1) := by decide +kernel
theorem dX10_back_27 : decode cX10_back 27 = .ok (.sipush 2001, 3) := by decide +kernel
theorem dX10_back_30 : decode cX10_back 30 = .ok (.if_icmp .ge 27, 3) := by decide +kernel
theorem dX10_back_33 : decode cX10_back 33 = .ok (.aload_n 0, 1) := by decide +kernel
theorem dX10_back_34 : decode cX10_back 34 = .ok (.getfield 7, 3) := by decide +kernel
theorem dX10_back_37 : decode cX10_back 37 = .ok (.iload_n 2, 1) := by decide +kernel
theorem dX10_back_38 : decode cX10_back 38 = .ok (.aload_n 0, 1) := by decide +kernel
theorem dX10_back_39 : decode cX10_back 39 = .ok (.getfield 16, 3) := by decide +kernel
theorem dX10_back_42 : decode cX10_back 42 = .ok (.sipush 2001, 3) := by decide +kernel
theorem dX10_back_45 : decode cX10_back 45 = .ok (.iload_n 1, 1) := by decide +kernel
theorem dX10_back_46 : decode cX10_back 46 = .ok (.imul, 1) := by decide +kernel
theorem dX10_back_47 : decode cX10_back 47 = .ok (.iload_n 2, 1) := by decide +kernel
theorem dX10_back_48 : decode cX10_back 48 = .ok (.iadd, 1) := by decide +kernel
theorem dX10_back_49 : decode cX10_back 49 = .ok (.iaload, 1) := by decide +kernel
theorem dX10_back_50 : decode cX10_back 50 = .ok (.iastore, 1) := by decide +kernel
theorem dX10_back_51 : decode cX10_back 51 = .ok (.iinc 2 1, 3) := by decide +kernel
theorem dX10_back_54 : decode cX10_back 54 = .ok (.goto (-28), 3) := by decide +kernel
theorem dX10_back_57 : decode cX10_back 57 = .ok (.aload_n 0, 1) := by decide +kernel
theorem dX10_back_58 : decode cX10_back 58 = .ok (.invokevirtual 199, 3) := by decide +kernel
theorem dX10_back_61 : decode cX10_back 61 = .ok (.ireturn, 1) := by decide +kernel
theorem dX10_changed_0 : decode cX10_changed 0 = .ok (.iload_n 1, 1) := by decide +kernel
theorem dX10_changed_1 : decode cX10_changed 1 = .ok (.invokestatic 109, 3) := by decide +kernel
theorem dX10_changed_4 : decode cX10_changed 4 = .ok (.ifCond .eq 10, 3) := by decide +kernel
theorem dX10_changed_7 : decode cX10_changed 7 = .ok (.iload_n 2, 1) := by decide +kernel
theorem dX10_changed_8 : decode cX10_changed 8 = .ok (.invokestatic 250, 3) := by decide +kernel
theorem dX10_changed_11 : decode cX10_changed 11 = .ok (.ifCond .ne 5, 3) := by decide +kernel
theorem dX10_changed_14 : decode cX10_changed 14 = .ok (.iconst (-1), 1) := by decide +kernel
theorem dX10_changed_15 : decode cX10_changed 15 = .ok (.ireturn, 1) := by decide +kernel
theorem dX10_changed_16 : decode cX10_changed 16 = .ok (.aload_n 0, 1) := by decide +kernel
theorem dX10_changed_17 : decode cX10_changed 17 = .ok (.iload_n 2, 1) := by decide +kernel
theorem dX10_changed_18 : decode cX10_changed 18 = .ok (.invokevirtual 253, 3) := by decide +kernel
theorem dX10_changed_21 : decode cX10_changed 21 = .ok (.ifCond .ne 6, 3) := by decide +kernel
theorem dX10_changed_24 : decode cX10_changed 24 = .ok (.bipush (-2), 2) := by decide +kernel
theorem dX10_changed_26 : decode cX10_changed 26 = .ok (.ireturn, 1) := by decide +kernel
theorem dX10_changed_27 : decode cX10_changed 27 = .ok (.iconst 0, 1) := by decide +kernel
theorem dX10_changed_28 : decode cX10_changed 28 = .ok (.istore_n 3, 1) := by decide +kernel
theorem dX10_changed_29 : decode cX10_changed 29 = .ok (.iload_n 3, 1) := by decide +kernel
theorem dX10_changed_30 : decode cX10_changed 30 = .ok (.sipush 2001, 3) := by decide +kernel
theorem dX10_changed_33 : decode cX10_changed 33 = .ok (.if_icmp .ge 39, 3) := by decide +kernel
theorem dX10_changed_36 : decode cX10_changed 36 = .ok (.aload_n 0, 1) := by decide +kernel
theorem dX10_changed_37 : decode cX10_changed 37 = .ok (.getfield 68, 3) := by decide +kernel
theorem dX10_changed_40 : decode cX10_changed 40 = .ok (.iload_n 3, 1) := by decide +kernel
theorem dX10_changed_41 : decode cX10_changed 41 = .ok (.aload_n 0, 1) := by decide +kernel
theorem dX10_changed_42 : decode cX10_changed 42 = .ok (.getfield 7, 3) := by decide +kernel
theorem dX10_changed_45 : decode cX10_changed 45 = .ok (.iload_n 3, 1) := by decide +kernel
theorem dX10_changed_46 : decode cX10_changed 46 = .ok (.iaload, 1) := by decide +kernel
theorem dX10_changed_47 : decode cX10_changed 47 = .ok (.iastore, 1) := by decide +kernel
theorem dX10_changed_48 : decode cX10_changed 48 = .ok (.aload_n 0, 1) := by decide +kernel
theorem dX10_changed_49 : decode cX10_changed 49 = .ok (.getfield 7, 3) := by decide +kernel
theorem dX10_changed_52 : decode cX10_changed 52 = .ok (.iload_n 3, 1) := by decide +kernel
theorem dX10_changed_53 : decode cX10_changed 53 = .ok (.aload_n 0, 1) := by decide +kernel
theorem dX10_changed_54 : decode cX10_changed 54 = .ok (.getfield 16, 3) := by decide +kernel
theorem dX10_changed_57 : decode cX10_changed 57 = .ok (.sipush 2001, 3) := by decide +kernel
theorem dX10_changed_60 : decode cX10_changed 60 = .ok (.iload_n 2, 1) := by decide +kernel
theorem dX10_changed_61 : decode cX10_changed 61 = .ok (.imul, 1) := by decide +kernel
theorem dX10_changed_62 : decode cX10_changed 62 = .ok (.iload_n 3, 1) := by decide +kernel
theorem dX10_changed_63 : decode cX10_changed 63 = .ok (.iadd, 1) := by decide +kernel
theorem dX10_changed_64 : decode cX10_changed 64 = .ok (.iaload, 1) := by decide +kernel
theorem dX10_changed_65 : decode cX10_changed 65 = .ok (.iastore, 1) := by decide +kernel
theorem dX10_changed_66 : decode cX10_changed 66 = .ok (.iinc 3 1, 3) := by decide +kernel
theorem dX10_changed_69 : decode cX10_changed 69 = .ok (.goto (-40), 3) := by decide +kernel
theorem dX10_changed_72 : decode cX10_changed 72 = .ok (.aload_n 0, 1) := by decide +kernel
theorem dX10_changed_73 : decode cX10_changed 73 = .ok (.iconst 0, 1) := by decide +kernel
theorem dX10_changed_74 : decode cX10_changed 74 = .ok (.putfield 86, 3) := by decide +kernel
theorem dX10_changed_77 : decode cX10_changed 77 = .ok (.aload_n 0, 1) := by decide +kernel
theorem dX10_changed_78 : decode cX10_changed 78 = .ok (.invokevirtual 193, 3) := by decide +kernel
theorem dX10_changed_81 : decode cX10_changed 81 = .ok (.iconst 0, 1) := by decide +kernel
theorem dX10_changed_82 : decode cX10_changed 82 = .ok (.istore_n 3, 1) := by decide +kernel
theorem dX10_changed_83 : decode cX10_changed 83 = .ok (.iload_n 3, 1) := by decide +kernel
theorem dX10_changed_84 : decode cX10_changed 84 = .ok (.sipush 400, 3) := by decide +kernel
theorem dX10_changed_87 : decode cX10_changed 87 = .ok (.if_icmp .ge 21, 3) := by decide +kernel
theorem dX10_changed_90 : decode cX10_changed 90 = .ok (.aload_n 0, 1) := by decide +kernel
theorem dX10_changed_91 : decode cX10_changed 91 = .ok (.getfield 71, 3) := by decide +kernel
theorem dX10_changed_94 : decode cX10_changed 94 = .ok (.iload_n 3, 1) := by decide +kernel
theorem dX10_changed_95 : decode cX10_changed 95 = .ok (.aload_n 0, 1) := by decide +kernel
theorem dX10_changed_96 : decode cX10_changed 96 = .ok (.iload_n 1, 1) := by decide +kernel
theorem dX10_changed_97 : decode cX10_changed 97 = .ok (.iload_n 3, 1) := by decide +kernel
theorem dX10_changed_98 : decode cX10_changed 98 = .ok (.invokevirtual 190, 3) := by decide +kernel
theorem dX10_changed_101 : decode cX10_changed 101 = .ok (.iastore, 1) := by decide +kernel
theorem dX10_changed_102 : decode cX10_changed 102 = .ok (.iinc 3 1, 3) := by decide +kernel
theorem dX10_changed_105 : decode cX10_changed 105 = .ok (.goto (-22), 3) := by decide +kernel
theorem dX10_changed_108 : decode cX10_changed 108 = .ok (.iconst 0, 1) := by decide +kernel
theorem dX10_changed_109 : decode cX10_changed 109 = .ok (.istore_n 3, 1) := by decide +kernel
theorem dX10_changed_110 : decode cX10_changed 110 = .ok (.iload_n 3, 1) := by decide +kernel
theorem dX10_changed_111 : decode cX10_changed 111 = .ok (.sipush 2001, 3) := by decide +kernel
theorem dX10_changed_114 : decode cX10_changed 114 = .ok (.if_icmp .ge 21, 3) := by decide +kernel
theorem dX10_changed_117 : decode cX10_changed 117 = .ok (.aload_n 0, 1) := by decide +kernel
theorem dX10_changed_118 : decode cX10_changed 118 = .ok (.getfield 7, 3) := by decide +kernel
theorem dX10_changed_121 : decode cX10_changed 121 = .ok (.iload_n 3, 1) := by decide +kernel
theorem dX10_changed_122 : decode cX10_changed 122 = .ok (.aload_n 0, 1) := by decide +kernel
theorem dX10_changed_123 : decode cX10_changed 123 = .ok (.getfield 68, 3) := by decide +kernel
theorem dX10_changed_126 : decode cX10_changed 126 = .ok (.iload_n 3, 1) := by decide +kernel
theorem dX10_changed_127 : decode cX10_changed 127 = .ok (.iaload, 1) := by decide +kernel
theorem dX10_changed_128 : decode cX10_changed 128 = .ok (.iastore, 1) := by decide +kernel
theorem dX10_changed_129 : decode cX10_changed 129 = .ok (.iinc 3 1, 3) := by decide +kernel
theorem dX10_changed_132 : decode cX10_changed 132 = .ok (.goto (-22), 3) := by decide +kernel
theorem dX10_changed_135 : decode cX10_changed 135 = .ok (.aload_n 0, 1) := by decide +kernel
theorem dX10_changed_136 : decode cX10_changed 136 = .ok (.iconst 0, 1) := by decide +kernel
theorem dX10_changed_137 : decode cX10_changed 137 = .ok (.putfield 86, 3) := by decide +kernel
theorem dX10_changed_140 : decode cX10_changed 140 = .ok (.aload_n 0, 1) := by decide +kernel
theorem dX10_changed_141 : decode cX10_changed 141 = .ok (.invokevirtual 193, 3) := by decide +kernel
theorem dX10_changed_144 : decode cX10_changed 144 = .ok (.iconst 0, 1) := by decide +kernel
theorem dX10_changed_145 : decode cX10_changed 145 = .ok (.istore_n 3, 1) := by decide +kernel
theorem dX10_changed_146 : decode cX10_changed 146 = .ok (.iload_n 3, 1) := by decide +kernel
theorem dX10_changed_147 : decode cX10_changed 147 = .ok (.sipush 400, 3) := by decide +kernel
theorem dX10_changed_150 : decode cX10_changed 150 = .ok (.if_icmp .ge 26, 3) := by decide +kernel
theorem dX10_changed_153 : decode cX10_changed 153 = .ok (.aload_n 0, 1) := by decide +kernel
theorem dX10_changed_154 : decode cX10_changed 154 = .ok (.iload_n 1, 1) := by decide +kernel
theorem dX10_changed_155 : decode cX10_changed 155 = .ok (.iload_n 3, 1) := by decide +kernel
theorem dX10_changed_156 : decode cX10_changed 156 = .ok (.invokevirtual 190, 3) := by decide +kernel
theorem dX10_changed_159 : decode cX10_changed 159 = .ok (.aload_n 0, 1) := by decide +kernel
theorem dX10_changed_160 : decode cX10_changed 160 = .ok (.getfield 71, 3) := by decide +kernel
theorem dX10_changed_163 : decode cX10_changed 163 = .ok (.iload_n 3, 1) := by decide +kernel
theorem dX10_changed_164 : decode cX10_changed 164 = .ok (.iaload, 1) := by decide +kernel
theorem dX10_changed_165 : decode cX10_changed 165 = .ok (.if_icmp .eq 5, 3) := by decide +kernel
theorem dX10_changed_168 : decode cX10_changed 168 = .ok (.iload_n 3, 1) := by decide +kernel
theorem dX10_changed_169 : decode cX10_changed 169 = .ok (.ireturn, 1) := by decide +kernel
theorem dX10_changed_170 : decode cX10_changed 170 = .ok (.iinc 3 1, 3) := by decide +kernel
theorem dX10_changed_173 : decode cX10_changed 173 = .ok (.goto (-27), 3) := by decide +kernel
theorem dX10_changed_176 : decode cX10_changed 176 = .ok (.bipush (-9), 2) := by decide +kernel
theorem dX10_changed_178 : decode cX10_changed 178 = .ok (.ireturn, 1) := by decide +kernel
theorem dJ6_bitCount_0f7a4_0 : decode cJ6_bitCount_0f7a4 0 = .ok (.iload_n 0, 1) := by decide +kernel
theorem dJ6_bitCount_0f7a4_1 : decode cJ6_bitCount_0f7a4 1 = .ok (.iload_n 0, 1) := by decide +kernel
theorem dJ6_bitCount_0f7a4_2 : decode cJ6_bitCount_0f7a4 2 = .ok (.iconst 1, 1) := by decide +kernel
theorem dJ6_bitCount_0f7a4_3 : decode cJ6_bitCount_0f7a4 3 = .ok (.iushr, 1) := by decide +kernel
theorem dJ6_bitCount_0f7a4_4 : decode cJ6_bitCount_0f7a4 4 = .ok (.ldc_w 265, 3) := by decide +kernel
theorem dJ6_bitCount_0f7a4_7 : decode cJ6_bitCount_0f7a4 7 = .ok (.iand, 1) := by decide +kernel
theorem dJ6_bitCount_0f7a4_8 : decode cJ6_bitCount_0f7a4 8 = .ok (.isub, 1) := by decide +kernel
theorem dJ6_bitCount_0f7a4_9 : decode cJ6_bitCount_0f7a4 9 = .ok (.istore_n 0, 1) := by decide +kernel
theorem dJ6_bitCount_0f7a4_10 : decode cJ6_bitCount_0f7a4 10 = .ok (.iload_n 0, 1) := by decide +kernel
theorem dJ6_bitCount_0f7a4_11 : decode cJ6_bitCount_0f7a4 11 = .ok (.ldc_w 266, 3) := by decide +kernel
theorem dJ6_bitCount_0f7a4_14 : decode cJ6_bitCount_0f7a4 14 = .ok (.iand, 1) := by decide +kernel
theorem dJ6_bitCount_0f7a4_15 : decode cJ6_bitCount_0f7a4 15 = .ok (.iload_n 0, 1) := by decide +kernel
theorem dJ6_bitCount_0f7a4_16 : decode cJ6_bitCount_0f7a4 16 = .ok (.iconst 2, 1) := by decide +kernel
theorem dJ6_bitCount_0f7a4_17 : decode cJ6_bitCount_0f7a4 17 = .ok (.iushr, 1) := by decide +kernel
theorem dJ6_bitCount_0f7a4_18 : decode cJ6_bitCount_0f7a4 18 = .ok (.ldc_w 266, 3) := by decide +kernel
theorem dJ6_bitCount_0f7a4_21 : decode cJ6_bitCount_0f7a4 21 = .ok (.iand, 1) := by decide +kernel
theorem dJ6_bitCount_0f7a4_22 : decode cJ6_bitCount_0f7a4 22 = .ok (.iadd, 1) := by decide +kernel
theorem dJ6_bitCount_0f7a4_23 : decode cJ6_bitCount_0f7a4 23 = .ok (.istore_n 0, 1) := by decide +kernel
theorem dJ6_bitCount_0f7a4_24 : decode cJ6_bitCount_0f7a4 24 = .ok (.iload_n 0, 1) := by decide +kernel
theorem dJ6_bitCount_0f7a4_25 : decode cJ6_bitCount_0f7a4 25 = .ok (.iload_n 0, 1) := by decide +kernel
theorem dJ6_bitCount_0f7a4_26 : decode cJ6_bitCount_0f7a4 26 = .ok (.iconst 4, 1) := by decide +kernel
theorem dJ6_bitCount_0f7a4_27 : decode cJ6_bitCount_0f7a4 27 = .ok (.iushr, 1) := by decide +kernel
theorem dJ6_bitCount_0f7a4_28 : decode cJ6_bitCount_0f7a4 28 = .ok (.iadd, 1) := by decide +kernel
theorem dJ6_bitCount_0f7a4_29 : decode cJ6_bitCount_0f7a4 29 = .ok (.ldc_w 267, 3) := by decide +kernel
theorem dJ6_bitCount_0f7a4_32 : decode cJ6_bitCount_0f7a4 32 = .ok (.iand, 1) := by decide +kernel
theorem dJ6_bitCount_0f7a4_33 : decode cJ6_bitCount_0f7a4 33 = .ok (.istore_n 0, 1) := by decide +kernel
theorem dJ6_bitCount_0f7a4_34 : decode cJ6_bitCount_0f7a4 34 = .ok (.iload_n 0, 1) := by decide +kernel
theorem dJ6_bitCount_0f7a4_35 : decode cJ6_bitCount_0f7a4 35 = .ok (.iload_n 0, 1) := by decide +kernel
theorem dJ6_bitCount_0f7a4_36 : decode cJ6_bitCount_0f7a4 36 = .ok (.bipush 8, 2) := by decide +kernel
theorem dJ6_bitCount_0f7a4_38 : decode cJ6_bitCount_0f7a4 38 = .ok (.iushr, 1) := by decide +kernel
theorem dJ6_bitCount_0f7a4_39 : decode cJ6_bitCount_0f7a4 39 = .ok (.iadd, 1) := by decide +kernel
theorem dJ6_bitCount_0f7a4_40 : decode cJ6_bitCount_0f7a4 40 = .ok (.istore_n 0, 1) := by decide +kernel
theorem dJ6_bitCount_0f7a4_41 : decode cJ6_bitCount_0f7a4 41 = .ok (.iload_n 0, 1) := by decide +kernel
theorem dJ6_bitCount_0f7a4_42 : decode cJ6_bitCount_0f7a4 42 = .ok (.iload_n 0, 1) := by decide +kernel
theorem dJ6_bitCount_0f7a4_43 : decode cJ6_bitCount_0f7a4 43 = .ok (.bipush 16, 2) := by decide +kernel
theorem dJ6_bitCount_0f7a4_45 : decode cJ6_bitCount_0f7a4 45 = .ok (.iushr, 1) := by decide +kernel
theorem dJ6_bitCount_0f7a4_46 : decode cJ6_bitCount_0f7a4 46 = .ok (.iadd, 1) := by decide +kernel
theorem dJ6_bitCount_0f7a4_47 : decode cJ6_bitCount_0f7a4 47 = .ok (.istore_n 0, 1) := by decide +kernel
theorem dJ6_bitCount_0f7a4_48 : decode cJ6_bitCount_0f7a4 48 = .ok (.iload_n 0, 1) := by decide +kernel
theorem dJ6_bitCount_0f7a4_49 : decode cJ6_bitCount_0f7a4 49 = .ok (.bipush 63, 2) := by decide +kernel
theorem dJ6_bitCount_0f7a4_51 : decode cJ6_bitCount_0f7a4 51 = .ok (.iand, 1) := by decide +kernel
theorem dJ6_bitCount_0f7a4_52 : decode cJ6_bitCount_0f7a4 52 = .ok (.ireturn, 1) := by decide +kernel
theorem dJ9_max_7cf53_0 : decode cJ9_max_7cf53 0 = .ok (.iload_n 0, 1) := by decide +kernel
theorem dJ9_max_7cf53_1 : decode cJ9_max_7cf53 1 = .ok (.iload_n 1, 1) := by decide +kernel
theorem dJ9_max_7cf53_2 : decode cJ9_max_7cf53 2 = .ok (.if_icmp .lt 7, 3) := by decide +kernel
theorem dJ9_max_7cf53_5 : decode cJ9_max_7cf53 5 = .ok (.iload_n 0, 1) := by decide +kernel
theorem dJ9_max_7cf53_6 : decode cJ9_max_7cf53 6 = .ok (.goto 4, 3) := by decide +kernel
theorem dJ9_max_7cf53_9 : decode cJ9_max_7cf53 9 = .ok (.iload_n 1, 1) := by decide +kernel
theorem dJ9_max_7cf53_10 : decode cJ9_max_7cf53 10 = .ok (.ireturn, 1) := by decide +kernel
theorem dJ9_min_7cf53_0 : decode cJ9_min_7cf53 0 = .ok (.iload_n 0, 1) := by decide +kernel
theorem dJ9_min_7cf53_1 : decode cJ9_min_7cf53 1 = .ok (.iload_n 1, 1) := by decide +kernel
theorem dJ9_min_7cf53_2 : decode cJ9_min_7cf53 2 = .ok (.if_icmp .gt 7, 3) := by decide +kernel
theorem dJ9_min_7cf53_5 : decode cJ9_min_7cf53 5 = .ok (.iload_n 0, 1) := by decide +kernel
theorem dJ9_min_7cf53_6 : decode cJ9_min_7cf53 6 = .ok (.goto 4, 3) := by decide +kernel
theorem dJ9_min_7cf53_9 : decode cJ9_min_7cf53 9 = .ok (.iload_n 1, 1) := by decide +kernel
theorem dJ9_min_7cf53_10 : decode cJ9_min_7cf53 10 = .ok (.ireturn, 1) := by decide +kernel
theorem dJ7_fill_d0a16_0 : decode cJ7_fill_d0a16 0 = .ok (.iconst 0, 1) := by decide +kernel
theorem dJ7_fill_d0a16_1 : decode cJ7_fill_d0a16 1 = .ok (.istore_n 3, 1) := by decide +kernel
theorem dJ7_fill_d0a16_2 : decode cJ7_fill_d0a16 2 = .ok (.aload_n 0, 1) := by decide +kernel
theorem dJ7_fill_d0a16_3 : decode cJ7_fill_d0a16 3 = .ok (.arraylength, 1) := by decide +kernel
theorem dJ7_fill_d0a16_4 : decode cJ7_fill_d0a16 4 = .ok (.istore 4, 2) := by decide +kernel
theorem dJ7_fill_d0a16_6 : decode cJ7_fill_d0a16 6 = .ok (.iload_n 3, 1) := by decide +kernel
theorem dJ7_fill_d0a16_7 : decode cJ7_fill_d0a16 7 = .ok (.iload 4, 2) := by decide +kernel
theorem dJ7_fill_d0a16_9 : decode cJ7_fill_d0a16 9 = .ok (.if_icmp .ge 13, 3) := by decide +kernel
theorem dJ7_fill_d0a16_12 : decode cJ7_fill_d0a16 12 = .ok (.aload_n 0, 1) := by decide +kernel
theorem dJ7_fill_d0a16_13 : decode cJ7_fill_d0a16 13 = .ok (.iload_n 3, 1) := by decide +kernel
theorem dJ7_fill_d0a16_14 : decode cJ7_fill_d0a16 14 = .ok (.lload_n 1, 1) := by decide +kernel
theorem dJ7_fill_d0a16_15 : decode cJ7_fill_d0a16 15 = .ok (.lastore, 1) := by decide +kernel
theorem dJ7_fill_d0a16_16 : decode cJ7_fill_d0a16 16 = .ok (.iinc 3 1, 3) := by decide +kernel
theorem dJ7_fill_d0a16_19 : decode cJ7_fill_d0a16 19 = .ok (.goto (-13), 3) := by decide +kernel
theorem dJ7_fill_d0a16_22 : decode cJ7_fill_d0a16 22 = .ok (.return_, 1) := by decide +kernel
theorem dJ7_fill_53178_0 : decode cJ7_fill_53178 0 = .ok (.iconst 0, 1) := by decide +kernel
theorem dJ7_fill_53178_1 : decode cJ7_fill_53178 1 = .ok (.istore_n 2, 1) := by decide +kernel
theorem dJ7_fill_53178_2 : decode cJ7_fill_53178 2 = .ok (.aload_n 0, 1) := by decide +kernel
theorem dJ7_fill_53178_3 : decode cJ7_fill_53178 3 = .ok (.arraylength, 1) := by decide +kernel
theorem dJ7_fill_53178_4 : decode cJ7_fill_53178 4 = .ok (.istore_n 3, 1) := by decide +kernel
theorem dJ7_fill_53178_5 : decode cJ7_fill_53178 5 = .ok (.iload_n 2, 1) := by decide +kernel
theorem dJ7_fill_53178_6 : decode cJ7_fill_53178 6 = .ok (.iload_n 3, 1) := by decide +kernel
theorem dJ7_fill_53178_7 : decode cJ7_fill_53178 7 = .ok (.if_icmp .ge 13, 3) := by decide +kernel
theorem dJ7_fill_53178_10 : decode cJ7_fill_53178 10 = .ok (.aload_n 0, 1) := by decide +kernel
theorem dJ7_fill_53178_11 : decode cJ7_fill_53178 11 = .ok (.iload_n 2, 1) := by decide +kernel
theorem dJ7_fill_53178_12 : decode cJ7_fill_53178 12 = .ok (.iload_n 1, 1) := by decide +kernel
theorem dJ7_fill_53178_13 : decode cJ7_fill_53178 13 = .ok (.iastore, 1) := by decide +kernel
theorem dJ7_fill_53178_14 : decode cJ7_fill_53178 14 = .ok (.iinc 2 1, 3) := by decide +kernel
theorem dJ7_fill_53178_17 : decode cJ7_fill_53178 17 = .ok (.goto (-12), 3) := by decide +kernel
theorem dJ7_fill_53178_20 : decode cJ7_fill_53178 20 = .ok (.return_, 1) := by decide +kernel
theorem dJ7_copyOf_59c91_0 : decode cJ7_copyOf_59c91 0 = .ok (.iload_n 1, 1) := by decide +kernel
theorem dJ7_copyOf_59c91_1 : decode cJ7_copyOf_59c91 1 = .ok (.aload_n 0, 1) := by decide +kernel
theorem dJ7_copyOf_59c91_2 : decode cJ7_copyOf_59c91 2 = .ok (.arraylength, 1) := by decide +kernel
theorem dJ7_copyOf_59c91_3 : decode cJ7_copyOf_59c91 3 = .ok (.if_icmp .ne 11, 3) := by decide +kernel
theorem dJ7_copyOf_59c91_6 : decode cJ7_copyOf_59c91 6 = .ok (.aload_n 0, 1) := by decide +kernel
theorem dJ7_copyOf_59c91_7 : decode cJ7_copyOf_59c91 7 = .ok (.invokevirtual 316, 3) := by decide +kernel
theorem dJ7_copyOf_59c91_10 : decode cJ7_copyOf_59c91 10 = .ok (.checkcast 317, 3) := by decide +kernel
theorem dJ7_copyOf_59c91_13 : decode cJ7_copyOf_59c91 13 = .ok (.areturn, 1) := by decide +kernel
theorem dJ7_copyOf_59c91_14 : decode cJ7_copyOf_59c91 14 = .ok (.iload_n 1, 1) := by decide +kernel
theorem dJ7_copyOf_59c91_15 : decode cJ7_copyOf_59c91 15 = .ok (.newarray .int, 2) := by decide +kernel
theorem dJ7_copyOf_59c91_17 : decode cJ7_copyOf_59c91 17 = .ok (.astore_n 2, 1) := by decide +kernel
theorem dJ7_copyOf_59c91_18 : decode cJ7_copyOf_59c91 18 = .ok (.aload_n 0, 1) := by decide +kernel
theorem dJ7_copyOf_59c91_19 : decode cJ7_copyOf_59c91 19 = .ok (.iconst 0, 1) := by decide +kernel
theorem dJ7_copyOf_59c91_20 : decode cJ7_copyOf_59c91 20 = .ok (.aload_n 2, 1) := by decide +kernel
theorem dJ7_copyOf_59c91_21 : decode cJ7_copyOf_59c91 21 = .ok (.iconst 0, 1) := by decide +kernel
theorem dJ7_copyOf_59c91_22 : decode cJ7_copyOf_59c91 22 = .ok (.aload_n 0, 1) := by decide +kernel
theorem dJ7_copyOf_59c91_23 : decode cJ7_copyOf_59c91 23 = .ok (.arraylength, 1) := by decide +kernel
theorem dJ7_copyOf_59c91_24 : decode cJ7_copyOf_59c91 24 = .ok (.iload_n 1, 1) := by decide +kernel
theorem dJ7_copyOf_59c91_25 : decode cJ7_copyOf_59c91 25 = .ok (.invokestatic 304, 3) := by decide +kernel
theorem dJ7_copyOf_59c91_28 : decode cJ7_copyOf_59c91 28 = .ok (.invokestatic 150, 3) := by decide +kernel
theorem dJ7_copyOf_59c91_31 : decode cJ7_copyOf_59c91 31 = .ok (.aload_n 2, 1) := by decide +kernel
theorem dJ7_copyOf_59c91_32 : decode cJ7_copyOf_59c91 32 = .ok (.areturn, 1) := by decide +kernel
theorem dL_law_0 : decode cL_law 0 = .ok (.new 7, 3) := by decide +kernel
theorem dL_law_3 : decode cL_law 3 = .ok (.dup, 1) := by decide +kernel
theorem dL_law_4 : decode cL_law 4 = .ok (.invokespecial 9, 3) := by decide +kernel
theorem dL_law_7 : decode cL_law 7 = .ok (.astore_n 1, 1) := by decide +kernel
theorem dL_law_8 : decode cL_law 8 = .ok (.new 10, 3) := by decide +kernel
theorem dL_law_11 : decode cL_law 11 = .ok (.dup, 1) := by decide +kernel
theorem dL_law_12 : decode cL_law 12 = .ok (.invokespecial 12, 3) := by decide +kernel
theorem dL_law_15 : decode cL_law 15 = .ok (.astore_n 2, 1) := by decide +kernel
theorem dL_law_16 : decode cL_law 16 = .ok (.iconst 0, 1) := by decide +kernel
theorem dL_law_17 : decode cL_law 17 = .ok (.istore_n 3, 1) := by decide +kernel
theorem dL_law_18 : decode cL_law 18 = .ok (.iload_n 3, 1) := by decide +kernel
theorem dL_law_19 : decode cL_law 19 = .ok (.aload_n 0, 1) := by decide +kernel
theorem dL_law_20 : decode cL_law 20 = .ok (.arraylength, 1) := by decide +kernel
theorem dL_law_21 : decode cL_law 21 = .ok (.iconst 4, 1) := by decide +kernel
theorem dL_law_22 : decode cL_law 22 = .ok (.isub, 1) := by decide +kernel
theorem dL_law_23 : decode cL_law 23 = .ok (.if_icmp .gt 648, 3) := by decide +kernel
theorem dL_law_26 : decode cL_law 26 = .ok (.aload_n 0, 1) := by decide +kernel
theorem dL_law_27 : decode cL_law 27 = .ok (.iload_n 3, 1) := by decide +kernel
theorem dL_law_28 : decode cL_law 28 = .ok (.iaload, 1) := by decide +kernel
theorem dL_law_29 : decode cL_law 29 = .ok (.bipush 31, 2) := by decide +kernel
theorem dL_law_31 : decode cL_law 31 = .ok (.iand, 1) := by decide +kernel
theorem dL_law_32 : decode cL_law 32 = .ok (.tableswitch 633 0 20 #[100, 123, 136, 149, 172, 195, 218, 251, 274, 287, 310, 343, 366, 389, 422, 455, 488, 511, 554, 577, 600], 100) := by decide +kernel
theorem dL_law_132 : decode cL_law 132 = .ok (.aload_n 1, 1) := by decide +kernel
theorem dL_law_133 : decode cL_law 133 = .ok (.aload_n 0, 1) := by decide +kernel
theorem dL_law_134 : decode cL_law 134 = .ok (.iload_n 3, 1) := by decide +kernel
theorem dL_law_135 : decode cL_law 135 = .ok (.iconst 1, 1) := by decide +kernel
theorem dL_law_136 : decode cL_law 136 = .ok (.iadd, 1) := by decide +kernel
theorem dL_law_137 : decode cL_law 137 = .ok (.iaload, 1) := by decide +kernel
theorem dL_law_138 : decode cL_law 138 = .ok (.invokevirtual 13, 3) := by decide +kernel
theorem dL_law_141 : decode cL_law 141 = .ok (.aload_n 2, 1) := by decide +kernel
theorem dL_law_142 : decode cL_law 142 = .ok (.aload_n 0, 1) := by decide +kernel
theorem dL_law_143 : decode cL_law 143 = .ok (.iload_n 3, 1) := by decide +kernel
theorem dL_law_144 : decode cL_law 144 = .ok (.iconst 1, 1) := by decide +kernel
theorem dL_law_145 : decode cL_law 145 = .ok (.iadd, 1) := by decide +kernel
theorem dL_law_146 : decode cL_law 146 = .ok (.iaload, 1) := by decide +kernel
theorem dL_law_147 : decode cL_law 147 = .ok (.invokevirtual 17, 3) := by decide +kernel
theorem dL_law_150 : decode cL_law 150 = .ok (.if_icmp .eq 515, 3) := by decide +kernel
theorem dL_law_153 : decode cL_law 153 = .ok (.iconst 0, 1) := by decide +kernel
theorem dL_law_154 : decode cL_law 154 = .ok (.ireturn, 1) := by decide +kernel
theorem dL_law_155 : decode cL_law 155 = .ok (.aload_n 1, 1) := by decide +kernel
theorem dL_law_156 : decode cL_law 156 = .ok (.invokevirtual 18, 3) := by decide +kernel
theorem dL_law_159 : decode cL_law 159 = .ok (.aload_n 2, 1) := by decide +kernel
theorem dL_law_160 : decode cL_law 160 = .ok (.invokevirtual 22, 3) := by decide +kernel
theorem dL_law_163 : decode cL_law 163 = .ok (.if_icmp .eq 502, 3) := by decide +kernel
theorem dL_law_166 : decode cL_law 166 = .ok (.iconst 0, 1) := by decide +kernel
theorem dL_law_167 : decode cL_law 167 = .ok (.ireturn, 1) := by decide +kernel
theorem dL_law_168 : decode cL_law 168 = .ok (.aload_n 1, 1) := by decide +kernel
theorem dL_law_169 : decode cL_law 169 = .ok (.invokevirtual 23, 3) := by decide +kernel
theorem dL_law_172 : decode cL_law 172 = .ok (.aload_n 2, 1) := by decide +kernel
theorem dL_law_173 : decode cL_law 173 = .ok (.invokevirtual 26, 3) := by decide +kernel
theorem dL_law_176 : decode cL_law 176 = .ok (.if_icmp .eq 489, 3) := by decide +kernel
theorem dL_law_179 : decode cL_law 179 = .ok (.iconst 0, 1) := by decide +kernel
theorem dL_law_180 : decode cL_law 180 = .ok (.ireturn, 1) := by decide +kernel
theorem dL_law_181 : decode cL_law 181 = .ok (.aload_n 1, 1) := by decide +kernel
theorem dL_law_182 : decode cL_law 182 = .ok (.aload_n 0, 1) := by decide +kernel
theorem dL_law_183 : decode cL_law 183 = .ok (.iload_n 3, 1) := by decide +kernel
theorem dL_law_184 : decode cL_law 184 = .ok (.iconst 1, 1) := by decide +kernel
theorem dL_law_185 : decode cL_law 185 = .ok (.iadd, 1) := by decide +kernel
theorem dL_law_186 : decode cL_law 186 = .ok (.iaload, 1) := by decide +kernel
theorem dL_law_187 : decode cL_law 187 = .ok (.invokevirtual 27, 3) := by decide +kernel
theorem dL_law_190 : decode cL_law 190 = .ok (.aload_n 2, 1) := by decide +kernel
theorem dL_law_191 : decode cL_law 191 = .ok (.aload_n 0, 1) := by decide +kernel
theorem dL_law_192 : decode cL_law 192 = .ok (.iload_n 3, 1) := by decide +kernel
theorem dL_law_193 : decode cL_law 193 = .ok (.iconst 1, 1) := by decide +kernel
theorem dL_law_194 : decode cL_law 194 = .ok (.iadd, 1) := by decide +kernel
theorem dL_law_195 : decode cL_law 195 = .ok (.iaload, 1) := by decide +kernel
theorem dL_law_196 : decode cL_law 196 = .ok (.invokevirtual 30, 3) := by decide +kernel
theorem dL_law_199 : decode cL_law 199 = .ok (.if_icmp .eq 466, 3) := by decide +kernel
theorem dL_law_202 : decode cL_law 202 = .ok (.iconst 0, 1) := by decide +kernel
theorem dL_law_203 : decode cL_law 203 = .ok (.ireturn, 1) := by decide +kernel
theorem dL_law_204 : decode cL_law 204 = .ok (.aload_n 1, 1) := by decide +kernel
theorem dL_law_205 : decode cL_law 205 = .ok (.aload_n 0, 1) := by decide +kernel
theorem dL_law_206 : decode cL_law 206 = .ok (.iload_n 3, 1) := by decide +kernel
theorem dL_law_207 : decode cL_law 207 = .ok (.iconst 1, 1) := by decide +kernel
theorem dL_law_208 : decode cL_law 208 = .ok (.iadd, 1) := by decide +kernel
theorem dL_law_209 : decode cL_law 209 = .ok (.iaload, 1) := by decide +kernel
theorem dL_law_210 : decode cL_law 210 = .ok (.invokevirtual 31, 3) := by decide +kernel
theorem dL_law_213 : decode cL_law 213 = .ok (.aload_n 2, 1) := by decide +kernel
theorem dL_law_214 : decode cL_law 214 = .ok (.aload_n 0, 1) := by decide +kernel
theorem dL_law_215 : decode cL_law 215 = .ok (.iload_n 3, 1) := by decide +kernel
theorem dL_law_216 : decode cL_law 216 = .ok (.iconst 1, 1) := by decide +kernel
theorem dL_law_217 : decode cL_law 217 = .ok (.iadd, 1) := by decide +kernel
theorem dL_law_218 : decode cL_law 218 = .ok (.iaload, 1) := by decide +kernel
theorem dL_law_219 : decode cL_law 219 = .ok (.invokevirtual 34, 3) := by decide +kernel
theorem dL_law_222 : decode cL_law 222 = .ok (.if_icmp .eq 443, 3) := by decide +kernel
theorem dL_law_225 : decode cL_law 225 = .ok (.iconst 0, 1) := by decide +kernel
theorem dL_law_226 : decode cL_law 226 = .ok (.ireturn, 1) := by decide +kernel
theorem dL_law_227 : decode cL_law 227 = .ok (.aload_n 1, 1) := by decide +kernel
theorem dL_law_228 : decode cL_law 228 = .ok (.aload_n 0, 1) := by decide +kernel
theorem dL_law_229 : decode cL_law 229 = .ok (.iload_n 3, 1) := by decide +kernel
theorem dL_law_230 : decode cL_law 230 = .ok (.iconst 1, 1) := by decide +kernel
theorem dL_law_231 : decode cL_law 231 = .ok (.iadd, 1) := by decide +kernel
theorem dL_law_232 : decode cL_law 232 = .ok (.iaload, 1) := by decide +kernel
theorem dL_law_233 : decode cL_law 233 = .ok (.invokevirtual 35, 3) := by decide +kernel
theorem dL_law_236 : decode cL_law 236 = .ok (.aload_n 2, 1) := by decide +kernel
theorem dL_law_237 : decode cL_law 237 = .ok (.aload_n 0, 1) := by decide +kernel
theorem dL_law_238 : decode cL_law 238 = .ok (.iload_n 3, 1) := by decide +kernel
theorem dL_law_239 : decode cL_law 239 = .ok (.iconst 1, 1) := by decide +kernel
theorem dL_law_240 : decode cL_law 240 = .ok (.iadd, 1) := by decide +kernel
theorem dL_law_241 : decode cL_law 241 = .ok (.iaload, 1) := by decide +kernel
theorem dL_law_242 : decode cL_law 242 = .ok (.invokevirtual 38, 3) := by decide +kernel
theorem dL_law_245 : decode cL_law 245 = .ok (.if_icmp .eq 420, 3) := by decide +kernel
theorem dL_law_248 : decode cL_law 248 = .ok (.iconst 0, 1) := by decide +kernel
theorem dL_law_249 : decode cL_law 249 = .ok (.ireturn, 1) := by decide +kernel
theorem dL_law_250 : decode cL_law 250 = .ok (.aload_n 1, 1) := by decide +kernel
theorem dL_law_251 : decode cL_law 251 = .ok (.aload_n 0, 1) := by decide +kernel
theorem dL_law_252 : decode cL_law 252 = .ok (.iload_n 3, 1) := by decide +kernel
theorem dL_law_253 : decode cL_law 253 = .ok (.iconst 1, 1) := by decide +kernel
theorem dL_law_254 : decode cL_law 254 = .ok (.iadd, 1) := by decide +kernel
theorem dL_law_255 : decode cL_law 255 = .ok (.iaload, 1) := by decide +kernel
theorem dL_law_256 : decode cL_law 256 = .ok (.aload_n 0, 1) := by decide +kernel
theorem dL_law_257 : decode cL_law 257 = .ok (.iload_n 3, 1) := by decide +kernel
theorem dL_law_258 : decode cL_law 258 = .ok (.iconst 2, 1) := by decide +kernel
theorem dL_law_259 : decode cL_law 259 = .ok (.iadd, 1) := by decide +kernel
theorem dL_law_260 : decode cL_law 260 = .ok (.iaload, 1) := by decide +kernel
theorem dL_law_261 : decode cL_law 261 = .ok (.invokevirtual 39, 3) := by decide +kernel
theorem dL_law_264 : decode cL_law 264 = .ok (.aload_n 2, 1) := by decide +kernel
theorem dL_law_265 : decode cL_law 265 = .ok (.aload_n 0, 1) := by decide +kernel
theorem dL_law_266 : decode cL_law 266 = .ok (.iload_n 3, 1) := by decide +kernel
theorem dL_law_267 : decode cL_law 267 = .ok (.iconst 1, 1) := by decide +kernel
theorem dL_law_268 : decode cL_law 268 = .ok (.iadd, 1) := by decide +kernel
theorem dL_law_269 : decode cL_law 269 = .ok (.iaload, 1) := by decide +kernel
theorem dL_law_270 : decode cL_law 270 = .ok (.aload_n 0, 1) := by decide +kernel
theorem dL_law_271 : decode cL_law 271 = .ok (.iload_n 3, 1) := by decide +kernel
theorem dL_law_272 : decode cL_law 272 = .ok (.iconst 2, 1) := by decide +kernel
theorem dL_law_273 : decode cL_law 273 = .ok (.iadd, 1) := by decide +kernel
theorem dL_law_274 : decode cL_law 274 = .ok (.iaload, 1) := by decide +kernel
theorem dL_law_275 : decode cL_law 275 = .ok (.invokevirtual 43, 3) := by decide +kernel
theorem dL_law_278 : decode cL_law 278 = .ok (.if_icmp .eq 387, 3) := by decide +kernel
theorem dL_law_281 : decode cL_law 281 = .ok (.iconst 0, 1) := by decide +kernel
theorem dL_law_282 : decode cL_law 282 = .ok (.ireturn, 1) := by decide +kernel
theorem dL_law_283 : decode cL_law 283 = .ok (.aload_n 1, 1) := by decide +kernel
theorem dL_law_284 : decode cL_law 284 = .ok (.aload_n 0, 1) := by decide +kernel
theorem dL_law_285 : decode cL_law 285 = .ok (.iload_n 3, 1) := by decide +kernel
theorem dL_law_286 : decode cL_law 286 = .ok (.iconst 1, 1) := by decide +kernel
theorem dL_law_287 : decode cL_law 287 = .ok (.iadd, 1) := by decide +kernel
theorem dL_law_288 : decode cL_law 288 = .ok (.iaload, 1) := by decide +kernel
theorem dL_law_289 : decode cL_law 289 = .ok (.invokevirtual 44, 3) := by decide +kernel
theorem dL_law_292 : decode cL_law 292 = .ok (.aload_n 2, 1) := by decide +kernel
theorem dL_law_293 : decode cL_law 293 = .ok (.aload_n 0, 1) := by decide +kernel
theorem dL_law_294 : decode cL_law 294 = .ok (.iload_n 3, 1) := by decide +kernel
theorem dL_law_295 : decode cL_law 295 = .ok (.iconst 1, 1) := by decide +kernel
theorem dL_law_296 : decode cL_law 296 = .ok (.iadd, 1) := by decide +kernel
theorem dL_law_297 : decode cL_law 297 = .ok (.iaload, 1) := by decide +kernel
theorem dL_law_298 : decode cL_law 298 = .ok (.invokevirtual 47, 3) := by decide +kernel
theorem dL_law_301 : decode cL_law 301 = .ok (.if_icmp .eq 364, 3) := by decide +kernel
theorem dL_law_304 : decode cL_law 304 = .ok (.iconst 0, 1) := by decide +kernel
theorem dL_law_305 : decode cL_law 305 = .ok (.ireturn, 1) := by decide +kernel
theorem dL_law_306 : decode cL_law 306 = .ok (.aload_n 1, 1) := by decide +kernel
theorem dL_law_307 : decode cL_law 307 = .ok (.invokevirtual 48, 3) := by decide +kernel
theorem dL_law_310 : decode cL_law 310 = .ok (.aload_n 2, 1) := by decide +kernel
theorem dL_law_311 : decode cL_law 311 = .ok (.invokevirtual 51, 3) := by decide +kernel
theorem dL_law_314 : decode cL_law 314 = .ok (.if_icmp .eq 351, 3) := by decide +kernel
theorem dL_law_317 : decode cL_law 317 = .ok (.iconst 0, 1) := by decide +kernel
theorem dL_law_318 : decode cL_law 318 = .ok (.ireturn, 1) := by decide +kernel
theorem dL_law_319 : decode cL_law 319 = .ok (.aload_n 1, 1) := by decide +kernel
theorem dL_law_320 : decode cL_law 320 = .ok (.aload_n 0, 1) := by decide +kernel
theorem dL_law_321 : decode cL_law 321 = .ok (.iload_n 3, 1) := by decide +kernel
theorem dL_law_322 : decode cL_law 322 = .ok (.iconst 1, 1) := by decide +kernel
theorem dL_law_323 : decode cL_law 323 = .ok (.iadd, 1) := by decide +kernel
theorem dL_law_324 : decode cL_law 324 = .ok (.iaload, 1) := by decide +kernel
theorem dL_law_325 : decode cL_law 325 = .ok (.invokevirtual 52, 3) := by decide +kernel
theorem dL_law_328 : decode cL_law 328 = .ok (.aload_n 2, 1) := by decide +kernel
theorem dL_law_329 : decode cL_law 329 = .ok (.aload_n 0, 1) := by decide +kernel
theorem dL_law_330 : decode cL_law 330 = .ok (.iload_n 3, 1) := by decide +kernel
theorem dL_law_331 : decode cL_law 331 = .ok (.iconst 1, 1) := by decide +kernel
theorem dL_law_332 : decode cL_law 332 = .ok (.iadd, 1) := by decide +kernel
theorem dL_law_333 : decode cL_law 333 = .ok (.iaload, 1) := by decide +kernel
theorem dL_law_334 : decode cL_law 334 = .ok (.invokevirtual 55, 3) := by decide +kernel
theorem dL_law_337 : decode cL_law 337 = .ok (.if_icmp .eq 328, 3) := by decide +kernel
theorem dL_law_340 : decode cL_law 340 = .ok (.iconst 0, 1) := by decide +kernel
theorem dL_law_341 : decode cL_law 341 = .ok (.ireturn, 1) := by decide +kernel
theorem dL_law_342 : decode cL_law 342 = .ok (.aload_n 1, 1) := by decide +kernel
theorem dL_law_343 : decode cL_law 343 = .ok (.aload_n 0, 1) := by decide +kernel
theorem dL_law_344 : decode cL_law 344 = .ok (.iload_n 3, 1) := by decide +kernel
theorem dL_law_345 : decode cL_law 345 = .ok (.iconst 1, 1) := by decide +kernel
theorem dL_law_346 : decode cL_law 346 = .ok (.iadd, 1) := by decide +kernel
theorem dL_law_347 : decode cL_law 347 = .ok (.iaload, 1) := by decide +kernel
theorem dL_law_348 : decode cL_law 348 = .ok (.aload_n 0, 1) := by decide +kernel
theorem dL_law_349 : decode cL_law 349 = .ok (.iload_n 3, 1) := by decide +kernel
theorem dL_law_350 : decode cL_law 350 = .ok (.iconst 2, 1) := by decide +kernel
theorem dL_law_351 : decode cL_law 351 = .ok (.iadd, 1) := by decide +kernel
theorem dL_law_352 : decode cL_law 352 = .ok (.iaload, 1) := by decide +kernel
theorem dL_law_353 : decode cL_law 353 = .ok (.invokevirtual 56, 3) := by decide +kernel
theorem dL_law_356 : decode cL_law 356 = .ok (.aload_n 2, 1) := by decide +kernel
theorem dL_law_357 : decode cL_law 357 = .ok (.aload_n 0, 1) := by decide +kernel
theorem dL_law_358 : decode cL_law 358 = .ok (.iload_n 3, 1) := by decide +kernel
theorem dL_law_359 : decode cL_law 359 = .ok (.iconst 1, 1) := by decide +kernel
theorem dL_law_360 : decode cL_law 360 = .ok (.iadd, 1) := by decide +kernel
theorem dL_law_361 : decode cL_law 361 = .ok (.iaload, 1) := by decide +kernel
theorem dL_law_362 : decode cL_law 362 = .ok (.aload_n 0, 1) := by decide +kernel
theorem dL_law_363 : decode cL_law 363 = .ok (.iload_n 3, 1) := by decide +kernel
theorem dL_law_364 : decode cL_law 364 = .ok (.iconst 2, 1) := by decide +kernel
theorem dL_law_365 : decode cL_law 365 = .ok (.iadd, 1) := by decide +kernel
theorem dL_law_366 : decode cL_law 366 = .ok (.iaload, 1) := by decide +kernel
theorem dL_law_367 : decode cL_law 367 = .ok (.invokevirtual 59, 3) := by decide +kernel
theorem dL_law_370 : decode cL_law 370 = .ok (.if_icmp .eq 295, 3) := by decide +kernel
theorem dL_law_373 : decode cL_law 373 = .ok (.iconst 0, 1) := by decide +kernel
theorem dL_law_374 : decode cL_law 374 = .ok (.ireturn, 1) := by decide +kernel
theorem dL_law_375 : decode cL_law 375 = .ok (.aload_n 1, 1) := by decide +kernel
theorem dL_law_376 : decode cL_law 376 = .ok (.aload_n 0, 1) := by decide +kernel
theorem dL_law_377 : decode cL_law 377 = .ok (.iload_n 3, 1) := by decide +kernel
theorem dL_law_378 : decode cL_law 378 = .ok (.iconst 1, 1) := by decide +kernel
theorem dL_law_379 : decode cL_law 379 = .ok (.iadd, 1) := by decide +kernel
theorem dL_law_380 : decode cL_law 380 = .ok (.iaload, 1) := by decide +kernel
theorem dL_law_381 : decode cL_law 381 = .ok (.invokevirtual 60, 3) := by decide +kernel
theorem dL_law_384 : decode cL_law 384 = .ok (.aload_n 2, 1) := by decide +kernel
theorem dL_law_385 : decode cL_law 385 = .ok (.aload_n 0, 1) := by decide +kernel
theorem dL_law_386 : decode cL_law 386 = .ok (.iload_n 3, 1) := by decide +kernel
theorem dL_law_387 : decode cL_law 387 = .ok (.iconst 1, 1) := by decide +kernel
theorem dL_law_388 : decode cL_law 388 = .ok (.iadd, 1) := by decide +kernel
theorem dL_law_389 : decode cL_law 389 = .ok (.iaload, 1) := by decide +kernel
theorem dL_law_390 : decode cL_law 390 = .ok (.invokevirtual 63, 3) := by decide +kernel
theorem dL_law_393 : decode cL_law 393 = .ok (.if_icmp .eq 272, 3) := by decide +kernel
theorem dL_law_396 : decode cL_law 396 = .ok (.iconst 0, 1) := by decide +kernel
theorem dL_law_397 : decode cL_law 397 = .ok (.ireturn, 1) := by decide +kernel
theorem dL_law_398 : decode cL_law 398 = .ok (.aload_n 1, 1) := by decide +kernel
theorem dL_law_399 : decode cL_law 399 = .ok (.aload_n 0, 1) := by decide +kernel
theorem dL_law_400 : decode cL_law 400 = .ok (.iload_n 3, 1) := by decide +kernel
theorem dL_law_401 : decode cL_law 401 = .ok (.iconst 1, 1) := by decide +kernel
theorem dL_law_402 : decode cL_law 402 = .ok (.iadd, 1) := by decide +kernel
theorem dL_law_403 : decode cL_law 403 = .ok (.iaload, 1) := by decide +kernel
theorem dL_law_404 : decode cL_law 404 = .ok (.invokevirtual 64, 3) := by decide +kernel
theorem dL_law_407 : decode cL_law 407 = .ok (.aload_n 2, 1) := by decide +kernel
theorem dL_law_408 : decode cL_law 408 = .ok (.aload_n 0, 1) := by decide +kernel
theorem dL_law_409 : decode cL_law 409 = .ok (.iload_n 3, 1) := by decide +kernel
theorem dL_law_410 : decode cL_law 410 = .ok (.iconst 1, 1) := by decide +kernel
theorem dL_law_411 : decode cL_law 411 = .ok (.iadd, 1) := by decide +kernel
theorem dL_law_412 : decode cL_law 412 = .ok (.iaload, 1) := by decide +kernel
theorem dL_law_413 : decode cL_law 413 = .ok (.invokevirtual 67, 3) := by decide +kernel
theorem dL_law_416 : decode cL_law 416 = .ok (.if_icmp .eq 249, 3) := by decide +kernel
theorem dL_law_419 : decode cL_law 419 = .ok (.iconst 0, 1) := by decide +kernel
theorem dL_law_420 : decode cL_law 420 = .ok (.ireturn, 1) := by decide +kernel
theorem dL_law_421 : decode cL_law 421 = .ok (.aload_n 1, 1) := by decide +kernel
theorem dL_law_422 : decode cL_law 422 = .ok (.aload_n 0, 1) := by decide +kernel
theorem dL_law_423 : decode cL_law 423 = .ok (.iload_n 3, 1) := by decide +kernel
theorem dL_law_424 : decode cL_law 424 = .ok (.iconst 1, 1) := by decide +kernel
theorem dL_law_425 : decode cL_law 425 = .ok (.iadd, 1) := by decide +kernel
theorem dL_law_426 : decode cL_law 426 = .ok (.iaload, 1) := by decide +kernel
theorem dL_law_427 : decode cL_law 427 = .ok (.aload_n 0, 1) := by decide +kernel
theorem dL_law_428 : decode cL_law 428 = .ok (.iload_n 3, 1) := by decide +kernel
theorem dL_law_429 : decode cL_law 429 = .ok (.iconst 2, 1) := by decide +kernel
theorem dL_law_430 : decode cL_law 430 = .ok (.iadd, 1) := by decide +kernel
theorem dL_law_431 : decode cL_law 431 = .ok (.iaload, 1) := by decide +kernel
theorem dL_law_432 : decode cL_law 432 = .ok (.invokevirtual 68, 3) := by decide +kernel
theorem dL_law_435 : decode cL_law 435 = .ok (.aload_n 2, 1) := by decide +kernel
theorem dL_law_436 : decode cL_law 436 = .ok (.aload_n 0, 1) := by decide +kernel
theorem dL_law_437 : decode cL_law 437 = .ok (.iload_n 3, 1) := by decide +kernel
theorem dL_law_438 : decode cL_law 438 = .ok (.iconst 1, 1) := by decide +kernel
theorem dL_law_439 : decode cL_law 439 = .ok (.iadd, 1) := by decide +kernel
theorem dL_law_440 : decode cL_law 440 = .ok (.iaload, 1) := by decide +kernel
theorem dL_law_441 : decode cL_law 441 = .ok (.aload_n 0, 1) := by decide +kernel
theorem dL_law_442 : decode cL_law 442 = .ok (.iload_n 3, 1) := by decide +kernel
theorem dL_law_443 : decode cL_law 443 = .ok (.iconst 2, 1) := by decide +kernel
theorem dL_law_444 : decode cL_law 444 = .ok (.iadd, 1) := by decide +kernel
theorem dL_law_445 : decode cL_law 445 = .ok (.iaload, 1) := by decide +kernel
theorem dL_law_446 : decode cL_law 446 = .ok (.invokevirtual 71, 3) := by decide +kernel
theorem dL_law_449 : decode cL_law 449 = .ok (.if_icmp .eq 216, 3) := by decide +kernel
theorem dL_law_452 : decode cL_law 452 = .ok (.iconst 0, 1) := by decide +kernel
theorem dL_law_453 : decode cL_law 453 = .ok (.ireturn, 1) := by decide +kernel
theorem dL_law_454 : decode cL_law 454 = .ok (.aload_n 1, 1) := by decide +kernel
theorem dL_law_455 : decode cL_law 455 = .ok (.aload_n 0, 1) := by decide +kernel
theorem dL_law_456 : decode cL_law 456 = .ok (.iload_n 3, 1) := by decide +kernel
theorem dL_law_457 : decode cL_law 457 = .ok (.iconst 1, 1) := by decide +kernel
theorem dL_law_458 : decode cL_law 458 = .ok (.iadd, 1) := by decide +kernel
theorem dL_law_459 : decode cL_law 459 = .ok (.iaload, 1) := by decide +kernel
theorem dL_law_460 : decode cL_law 460 = .ok (.aload_n 0, 1) := by decide +kernel
theorem dL_law_461 : decode cL_law 461 = .ok (.iload_n 3, 1) := by decide +kernel
theorem dL_law_462 : decode cL_law 462 = .ok (.iconst 2, 1) := by decide +kernel
theorem dL_law_463 : decode cL_law 463 = .ok (.iadd, 1) := by decide +kernel
theorem dL_law_464 : decode cL_law 464 = .ok (.iaload, 1) := by decide +kernel
theorem dL_law_465 : decode cL_law 465 = .ok (.invokevirtual 72, 3) := by decide +kernel
theorem dL_law_468 : decode cL_law 468 = .ok (.aload_n 2, 1) := by decide +kernel
theorem dL_law_469 : decode cL_law 469 = .ok (.aload_n 0, 1) := by decide +kernel
theorem dL_law_470 : decode cL_law 470 = .ok (.iload_n 3, 1) := by decide +kernel
theorem dL_law_471 : decode cL_law 471 = .ok (.iconst 1, 1) := by decide +kernel
theorem dL_law_472 : decode cL_law 472 = .ok (.iadd, 1) := by decide +kernel
theorem dL_law_473 : decode cL_law 473 = .ok (.iaload, 1) := by decide +kernel
theorem dL_law_474 : decode cL_law 474 = .ok (.aload_n 0, 1) := by decide +kernel
theorem dL_law_475 : decode cL_law 475 = .ok (.iload_n 3, 1) := by decide +kernel
theorem dL_law_476 : decode cL_law 476 = .ok (.iconst 2, 1) := by decide +kernel
theorem dL_law_477 : decode cL_law 477 = .ok (.iadd, 1) := by decide +kernel
theorem dL_law_478 : decode cL_law 478 = .ok (.iaload, 1) := by decide +kernel
theorem dL_law_479 : decode cL_law 479 = .ok (.invokevirtual 75, 3) := by decide +kernel
theorem dL_law_482 : decode cL_law 482 = .ok (.if_icmp .eq 183, 3) := by decide +kernel
theorem dL_law_485 : decode cL_law 485 = .ok (.iconst 0, 1) := by decide +kernel
theorem dL_law_486 : decode cL_law 486 = .ok (.ireturn, 1) := by decide +kernel
theorem dL_law_487 : decode cL_law 487 = .ok (.aload_n 1, 1) := by decide +kernel
theorem dL_law_488 : decode cL_law 488 = .ok (.aload_n 0, 1) := by decide +kernel
theorem dL_law_489 : decode cL_law 489 = .ok (.iload_n 3, 1) := by decide +kernel
theorem dL_law_490 : decode cL_law 490 = .ok (.iconst 1, 1) := by decide +kernel
theorem dL_law_491 : decode cL_law 491 = .ok (.iadd, 1) := by decide +kernel
theorem dL_law_492 : decode cL_law 492 = .ok (.iaload, 1) := by decide +kernel
theorem dL_law_493 : decode cL_law 493 = .ok (.aload_n 0, 1) := by decide +kernel
theorem dL_law_494 : decode cL_law 494 = .ok (.iload_n 3, 1) := by decide +kernel
theorem dL_law_495 : decode cL_law 495 = .ok (.iconst 2, 1) := by decide +kernel
theorem dL_law_496 : decode cL_law 496 = .ok (.iadd, 1) := by decide +kernel
theorem dL_law_497 : decode cL_law 497 = .ok (.iaload, 1) := by decide +kernel
theorem dL_law_498 : decode cL_law 498 = .ok (.invokevirtual 76, 3) := by decide +kernel
theorem dL_law_501 : decode cL_law 501 = .ok (.aload_n 2, 1) := by decide +kernel
theorem dL_law_502 : decode cL_law 502 = .ok (.aload_n 0, 1) := by decide +kernel
theorem dL_law_503 : decode cL_law 503 = .ok (.iload_n 3, 1) := by decide +kernel
theorem dL_law_504 : decode cL_law 504 = .ok (.iconst 1, 1) := by decide +kernel
theorem dL_law_505 : decode cL_law 505 = .ok (.iadd, 1) := by decide +kernel
theorem dL_law_506 : decode cL_law 506 = .ok (.iaload, 1) := by decide +kernel
theorem dL_law_507 : decode cL_law 507 = .ok (.aload_n 0, 1) := by decide +kernel
theorem dL_law_508 : decode cL_law 508 = .ok (.iload_n 3, 1) := by decide +kernel
theorem dL_law_509 : decode cL_law 509 = .ok (.iconst 2, 1) := by decide +kernel
theorem dL_law_510 : decode cL_law 510 = .ok (.iadd, 1) := by decide +kernel
theorem dL_law_511 : decode cL_law 511 = .ok (.iaload, 1) := by decide +kernel
theorem dL_law_512 : decode cL_law 512 = .ok (.invokevirtual 79, 3) := by decide +kernel
theorem dL_law_515 : decode cL_law 515 = .ok (.if_icmp .eq 150, 3) := by decide +kernel
theorem dL_law_518 : decode cL_law 518 = .ok (.iconst 0, 1) := by decide +kernel
theorem dL_law_519 : decode cL_law 519 = .ok (.ireturn, 1) := by decide +kernel
theorem dL_law_520 : decode cL_law 520 = .ok (.aload_n 1, 1) := by decide +kernel
theorem dL_law_521 : decode cL_law 521 = .ok (.aload_n 0, 1) := by decide +kernel
theorem dL_law_522 : decode cL_law 522 = .ok (.iload_n 3, 1) := by decide +kernel
theorem dL_law_523 : decode cL_law 523 = .ok (.iconst 1, 1) := by decide +kernel
theorem dL_law_524 : decode cL_law 524 = .ok (.iadd, 1) := by decide +kernel
theorem dL_law_525 : decode cL_law 525 = .ok (.iaload, 1) := by decide +kernel
theorem dL_law_526 : decode cL_law 526 = .ok (.invokevirtual 80, 3) := by decide +kernel
theorem dL_law_529 : decode cL_law 529 = .ok (.aload_n 2, 1) := by decide +kernel
theorem dL_law_530 : decode cL_law 530 = .ok (.aload_n 0, 1) := by decide +kernel
theorem dL_law_531 : decode cL_law 531 = .ok (.iload_n 3, 1) := by decide +kernel
theorem dL_law_532 : decode cL_law 532 = .ok (.iconst 1, 1) := by decide +kernel
theorem dL_law_533 : decode cL_law 533 = .ok (.iadd, 1) := by decide +kernel
theorem dL_law_534 : decode cL_law 534 = .ok (.iaload, 1) := by decide +kernel
theorem dL_law_535 : decode cL_law 535 = .ok (.invokevirtual 83, 3) := by decide +kernel
theorem dL_law_538 : decode cL_law 538 = .ok (.if_icmp .eq 127, 3) := by decide +kernel
theorem dL_law_541 : decode cL_law 541 = .ok (.iconst 0, 1) := by decide +kernel
theorem dL_law_542 : decode cL_law 542 = .ok (.ireturn, 1) := by decide +kernel
theorem dL_law_543 : decode cL_law 543 = .ok (.aload_n 1, 1) := by decide +kernel
theorem dL_law_544 : decode cL_law 544 = .ok (.aload_n 0, 1) := by decide +kernel
theorem dL_law_545 : decode cL_law 545 = .ok (.iload_n 3, 1) := by decide +kernel
theorem dL_law_546 : decode cL_law 546 = .ok (.iconst 1, 1) := by decide +kernel
theorem dL_law_547 : decode cL_law 547 = .ok (.iadd, 1) := by decide +kernel
theorem dL_law_548 : decode cL_law 548 = .ok (.iaload, 1) := by decide +kernel
theorem dL_law_549 : decode cL_law 549 = .ok (.aload_n 0, 1) := by decide +kernel
theorem dL_law_550 : decode cL_law 550 = .ok (.iload_n 3, 1) := by decide +kernel
theorem dL_law_551 : decode cL_law 551 = .ok (.iconst 2, 1) := by decide +kernel
theorem dL_law_552 : decode cL_law 552 = .ok (.iadd, 1) := by decide +kernel
theorem dL_law_553 : decode cL_law 553 = .ok (.iaload, 1) := by decide +kernel
theorem dL_law_554 : decode cL_law 554 = .ok (.aload_n 0, 1) := by decide +kernel
theorem dL_law_555 : decode cL_law 555 = .ok (.iload_n 3, 1) := by decide +kernel
theorem dL_law_556 : decode cL_law 556 = .ok (.iconst 3, 1) := by decide +kernel
theorem dL_law_557 : decode cL_law 557 = .ok (.iadd, 1) := by decide +kernel
theorem dL_law_558 : decode cL_law 558 = .ok (.iaload, 1) := by decide +kernel
theorem dL_law_559 : decode cL_law 559 = .ok (.invokevirtual 84, 3) := by decide +kernel
theorem dL_law_562 : decode cL_law 562 = .ok (.aload_n 2, 1) := by decide +kernel
theorem dL_law_563 : decode cL_law 563 = .ok (.aload_n 0, 1) := by decide +kernel
theorem dL_law_564 : decode cL_law 564 = .ok (.iload_n 3, 1) := by decide +kernel
theorem dL_law_565 : decode cL_law 565 = .ok (.iconst 1, 1) := by decide +kernel
theorem dL_law_566 : decode cL_law 566 = .ok (.iadd, 1) := by decide +kernel
theorem dL_law_567 : decode cL_law 567 = .ok (.iaload, 1) := by decide +kernel
theorem dL_law_568 : decode cL_law 568 = .ok (.aload_n 0, 1) := by decide +kernel
theorem dL_law_569 : decode cL_law 569 = .ok (.iload_n 3, 1) := by decide +kernel
theorem dL_law_570 : decode cL_law 570 = .ok (.iconst 2, 1) := by decide +kernel
theorem dL_law_571 : decode cL_law 571 = .ok (.iadd, 1) := by decide +kernel
theorem dL_law_572 : decode cL_law 572 = .ok (.iaload, 1) := by decide +kernel
theorem dL_law_573 : decode cL_law 573 = .ok (.aload_n 0, 1) := by decide +kernel
theorem dL_law_574 : decode cL_law 574 = .ok (.iload_n 3, 1) := by decide +kernel
theorem dL_law_575 : decode cL_law 575 = .ok (.iconst 3, 1) := by decide +kernel
theorem dL_law_576 : decode cL_law 576 = .ok (.iadd, 1) := by decide +kernel
theorem dL_law_577 : decode cL_law 577 = .ok (.iaload, 1) := by decide +kernel
theorem dL_law_578 : decode cL_law 578 = .ok (.invokevirtual 88, 3) := by decide +kernel
theorem dL_law_581 : decode cL_law 581 = .ok (.if_icmp .eq 84, 3) := by decide +kernel
theorem dL_law_584 : decode cL_law 584 = .ok (.iconst 0, 1) := by decide +kernel
theorem dL_law_585 : decode cL_law 585 = .ok (.ireturn, 1) := by decide +kernel
theorem dL_law_586 : decode cL_law 586 = .ok (.aload_n 1, 1) := by decide +kernel
theorem dL_law_587 : decode cL_law 587 = .ok (.aload_n 0, 1) := by decide +kernel
theorem dL_law_588 : decode cL_law 588 = .ok (.iload_n 3, 1) := by decide +kernel
theorem dL_law_589 : decode cL_law 589 = .ok (.iconst 1, 1) := by decide +kernel
theorem dL_law_590 : decode cL_law 590 = .ok (.iadd, 1) := by decide +kernel
theorem dL_law_591 : decode cL_law 591 = .ok (.iaload, 1) := by decide +kernel
theorem dL_law_592 : decode cL_law 592 = .ok (.invokevirtual 89, 3) := by decide +kernel
theorem dL_law_595 : decode cL_law 595 = .ok (.aload_n 2, 1) := by decide +kernel
theorem dL_law_596 : decode cL_law 596 = .ok (.aload_n 0, 1) := by decide +kernel
theorem dL_law_597 : decode cL_law 597 = .ok (.iload_n 3, 1) := by decide +kernel
theorem dL_law_598 : decode cL_law 598 = .ok (.iconst 1, 1) := by decide +kernel
theorem dL_law_599 : decode cL_law 599 = .ok (.iadd, 1) := by decide +kernel
theorem dL_law_600 : decode cL_law 600 = .ok (.iaload, 1) := by decide +kernel
theorem dL_law_601 : decode cL_law 601 = .ok (.invokevirtual 92, 3) := by decide +kernel
theorem dL_law_604 : decode cL_law 604 = .ok (.if_icmp .eq 61, 3) := by decide +kernel
theorem dL_law_607 : decode cL_law 607 = .ok (.iconst 0, 1) := by decide +kernel
theorem dL_law_608 : decode cL_law 608 = .ok (.ireturn, 1) := by decide +kernel
theorem dL_law_609 : decode cL_law 609 = .ok (.aload_n 1, 1) := by decide +kernel
theorem dL_law_610 : decode cL_law 610 = .ok (.aload_n 0, 1) := by decide +kernel
theorem dL_law_611 : decode cL_law 611 = .ok (.iload_n 3, 1) := by decide +kernel
theorem dL_law_612 : decode cL_law 612 = .ok (.iconst 1, 1) := by decide +kernel
theorem dL_law_613 : decode cL_law 613 = .ok (.iadd, 1) := by decide +kernel
theorem dL_law_614 : decode cL_law 614 = .ok (.iaload, 1) := by decide +kernel
theorem dL_law_615 : decode cL_law 615 = .ok (.invokevirtual 93, 3) := by decide +kernel
theorem dL_law_618 : decode cL_law 618 = .ok (.aload_n 2, 1) := by decide +kernel
theorem dL_law_619 : decode cL_law 619 = .ok (.aload_n 0, 1) := by decide +kernel
theorem dL_law_620 : decode cL_law 620 = .ok (.iload_n 3, 1) := by decide +kernel
theorem dL_law_621 : decode cL_law 621 = .ok (.iconst 1, 1) := by decide +kernel
theorem dL_law_622 : decode cL_law 622 = .ok (.iadd, 1) := by decide +kernel
theorem dL_law_623 : decode cL_law 623 = .ok (.iaload, 1) := by decide +kernel
theorem dL_law_624 : decode cL_law 624 = .ok (.invokevirtual 96, 3) := by decide +kernel
theorem dL_law_627 : decode cL_law 627 = .ok (.if_icmp .eq 38, 3) := by decide +kernel
theorem dL_law_630 : decode cL_law 630 = .ok (.iconst 0, 1) := by decide +kernel
theorem dL_law_631 : decode cL_law 631 = .ok (.ireturn, 1) := by decide +kernel
theorem dL_law_632 : decode cL_law 632 = .ok (.aload_n 1, 1) := by decide +kernel
theorem dL_law_633 : decode cL_law 633 = .ok (.aload_n 0, 1) := by decide +kernel
theorem dL_law_634 : decode cL_law 634 = .ok (.iload_n 3, 1) := by decide +kernel
theorem dL_law_635 : decode cL_law 635 = .ok (.iconst 1, 1) := by decide +kernel
theorem dL_law_636 : decode cL_law 636 = .ok (.iadd, 1) := by decide +kernel
theorem dL_law_637 : decode cL_law 637 = .ok (.iaload, 1) := by decide +kernel
theorem dL_law_638 : decode cL_law 638 = .ok (.aload_n 0, 1) := by decide +kernel
theorem dL_law_639 : decode cL_law 639 = .ok (.iload_n 3, 1) := by decide +kernel
theorem dL_law_640 : decode cL_law 640 = .ok (.iconst 2, 1) := by decide +kernel
theorem dL_law_641 : decode cL_law 641 = .ok (.iadd, 1) := by decide +kernel
theorem dL_law_642 : decode cL_law 642 = .ok (.iaload, 1) := by decide +kernel
theorem dL_law_643 : decode cL_law 643 = .ok (.invokevirtual 97, 3) := by decide +kernel
theorem dL_law_646 : decode cL_law 646 = .ok (.aload_n 2, 1) := by decide +kernel
theorem dL_law_647 : decode cL_law 647 = .ok (.aload_n 0, 1) := by decide +kernel
theorem dL_law_648 : decode cL_law 648 = .ok (.iload_n 3, 1) := by decide +kernel
theorem dL_law_649 : decode cL_law 649 = .ok (.iconst 1, 1) := by decide +kernel
theorem dL_law_650 : decode cL_law 650 = .ok (.iadd, 1) := by decide +kernel
theorem dL_law_651 : decode cL_law 651 = .ok (.iaload, 1) := by decide +kernel
theorem dL_law_652 : decode cL_law 652 = .ok (.aload_n 0, 1) := by decide +kernel
theorem dL_law_653 : decode cL_law 653 = .ok (.iload_n 3, 1) := by decide +kernel
theorem dL_law_654 : decode cL_law 654 = .ok (.iconst 2, 1) := by decide +kernel
theorem dL_law_655 : decode cL_law 655 = .ok (.iadd, 1) := by decide +kernel
theorem dL_law_656 : decode cL_law 656 = .ok (.iaload, 1) := by decide +kernel
theorem dL_law_657 : decode cL_law 657 = .ok (.invokevirtual 100, 3) := by decide +kernel
theorem dL_law_660 : decode cL_law 660 = .ok (.if_icmp .eq 5, 3) := by decide +kernel
theorem dL_law_663 : decode cL_law 663 = .ok (.iconst 0, 1) := by decide +kernel
theorem dL_law_664 : decode cL_law 664 = .ok (.ireturn, 1) := by decide +kernel
theorem dL_law_665 : decode cL_law 665 = .ok (.iinc 3 4, 3) := by decide +kernel
theorem dL_law_668 : decode cL_law 668 = .ok (.goto (-650), 3) := by decide +kernel
theorem dL_law_671 : decode cL_law 671 = .ok (.iconst 1, 1) := by decide +kernel
theorem dL_law_672 : decode cL_law 672 = .ok (.ireturn, 1) := by decide +kernel
