theorem dX0_isStreamName_0 : decode cX0_isStreamName 0 = .ok (.iload_n 0, 1) := by decide +kernel
theorem dX0_isStreamName_1 : decode cX0_isStreamName 1 = .ok (.bipush 65, 2) := by decide +kernel
theorem dX0_isStreamName_3 : decode cX0_isStreamName 3 = .ok (.if_icmp .lt 13, 3) := by decide +kernel
theorem dX0_isStreamName_6 : decode cX0_isStreamName 6 = .ok (.iload_n 0, 1) := by decide +kernel
theorem dX0_isStreamName_7 : decode cX0_isStreamName 7 = .ok (.bipush 73, 2) := by decide +kernel
theorem dX0_isStreamName_9 : decode cX0_isStreamName 9 = .ok (.if_icmp .ge 7, 3) := by decide +kernel
theorem dX0_isStreamName_12 : decode cX0_isStreamName 12 = .ok (.iconst 1, 1) := by decide +kernel
theorem dX0_isStreamName_13 : decode cX0_isStreamName 13 = .ok (.goto 4, 3) := by decide +kernel
theorem dX0_isStreamName_16 : decode cX0_isStreamName 16 = .ok (.iconst 0, 1) := by decide +kernel
theorem dX0_isStreamName_17 : decode cX0_isStreamName 17 = .ok (.ireturn, 1) := by decide +kernel
theorem dX0_isDigit_0 : decode cX0_isDigit 0 = .ok (.iload_n 0, 1) := by decide +kernel
theorem dX0_isDigit_1 : decode cX0_isDigit 1 = .ok (.bipush 48, 2) := by decide +kernel
theorem dX0_isDigit_3 : decode cX0_isDigit 3 = .ok (.if_icmp .lt 13, 3) := by decide +kernel
theorem dX0_isDigit_6 : decode cX0_isDigit 6 = .ok (.iload_n 0, 1) := by decide +kernel
theorem dX0_isDigit_7 : decode cX0_isDigit 7 = .ok (.bipush 57, 2) := by decide +kernel
theorem dX0_isDigit_9 : decode cX0_isDigit 9 = .ok (.if_icmp .gt 7, 3) := by decide +kernel
theorem dX0_isDigit_12 : decode cX0_isDigit 12 = .ok (.iconst 1, 1) := by decide +kernel
theorem dX0_isDigit_13 : decode cX0_isDigit 13 = .ok (.goto 4, 3) := by decide +kernel
theorem dX0_isDigit_16 : decode cX0_isDigit 16 = .ok (.iconst 0, 1) := by decide +kernel
theorem dX0_isDigit_17 : decode cX0_isDigit 17 = .ok (.ireturn, 1) := by decide +kernel
theorem dX0_isFront_0 : decode cX0_isFront 0 = .ok (.iload_n 0, 1) := by decide +kernel
theorem dX0_isFront_1 : decode cX0_isFront 1 = .ok (.sipush 128, 3) := by decide +kernel
theorem dX0_isFront_4 : decode cX0_isFront 4 = .ok (.if_icmp .lt 7, 3) := by decide +kernel
theorem dX0_isFront_7 : decode cX0_isFront 7 = .ok (.iconst 1, 1) := by decide +kernel
theorem dX0_isFront_8 : decode cX0_isFront 8 = .ok (.goto 4, 3) := by decide +kernel
theorem dX0_isFront_11 : decode cX0_isFront 11 = .ok (.iconst 0, 1) := by decide +kernel
theorem dX0_isFront_12 : decode cX0_isFront 12 = .ok (.ireturn, 1) := by decide +kernel
theorem dX0_isLeaf_0 : decode cX0_isLeaf 0 = .ok (.iload_n 0, 1) := by decide +kernel
theorem dX0_isLeaf_1 : decode cX0_isLeaf 1 = .ok (.invokestatic 11, 3) := by decide +kernel
theorem dX0_isLeaf_4 : decode cX0_isLeaf 4 = .ok (.ifCond .ne 10, 3) := by decide +kernel
theorem dX0_isLeaf_7 : decode cX0_isLeaf 7 = .ok (.iload_n 0, 1) := by decide +kernel
theorem dX0_isLeaf_8 : decode cX0_isLeaf 8 = .ok (.invokestatic 15, 3) := by decide +kernel
theorem dX0_isLeaf_11 : decode cX0_isLeaf 11 = .ok (.ifCond .eq 7, 3) := by decide +kernel
theorem dX0_isLeaf_14 : decode cX0_isLeaf 14 = .ok (.iconst 1, 1) := by decide +kernel
theorem dX0_isLeaf_15 : decode cX0_isLeaf 15 = .ok (.goto 4, 3) := by decide +kernel
theorem dX0_isLeaf_18 : decode cX0_isLeaf 18 = .ok (.iconst 0, 1) := by decide +kernel
theorem dX0_isLeaf_19 : decode cX0_isLeaf 19 = .ok (.ireturn, 1) := by decide +kernel
theorem dX0_isPair_0 : decode cX0_isPair 0 = .ok (.iload_n 0, 1) := by decide +kernel
theorem dX0_isPair_1 : decode cX0_isPair 1 = .ok (.bipush 43, 2) := by decide +kernel
theorem dX0_isPair_3 : decode cX0_isPair 3 = .ok (.if_icmp .eq 15, 3) := by decide +kernel
theorem dX0_isPair_6 : decode cX0_isPair 6 = .ok (.iload_n 0, 1) := by decide +kernel
theorem dX0_isPair_7 : decode cX0_isPair 7 = .ok (.bipush 42, 2) := by decide +kernel
theorem dX0_isPair_9 : decode cX0_isPair 9 = .ok (.if_icmp .eq 9, 3) := by decide +kernel
theorem dX0_isPair_12 : decode cX0_isPair 12 = .ok (.iload_n 0, 1) := by decide +kernel
theorem dX0_isPair_13 : decode cX0_isPair 13 = .ok (.bipush 122, 2) := by decide +kernel
theorem dX0_isPair_15 : decode cX0_isPair 15 = .ok (.if_icmp .ne 7, 3) := by decide +kernel
theorem dX0_isPair_18 : decode cX0_isPair 18 = .ok (.iconst 1, 1) := by decide +kernel
theorem dX0_isPair_19 : decode cX0_isPair 19 = .ok (.goto 4, 3) := by decide +kernel
theorem dX0_isPair_22 : decode cX0_isPair 22 = .ok (.iconst 0, 1) := by decide +kernel
theorem dX0_isPair_23 : decode cX0_isPair 23 = .ok (.ireturn, 1) := by decide +kernel
theorem dX0_isPlain_0 : decode cX0_isPlain 0 = .ok (.iload_n 0, 1) := by decide +kernel
theorem dX0_isPlain_1 : decode cX0_isPlain 1 = .ok (.bipush 122, 2) := by decide +kernel
theorem dX0_isPlain_3 : decode cX0_isPlain 3 = .ok (.if_icmp .eq 19, 3) := by decide +kernel
theorem dX0_isPlain_6 : decode cX0_isPlain 6 = .ok (.iload_n 0, 1) := by decide +kernel
theorem dX0_isPlain_7 : decode cX0_isPlain 7 = .ok (.bipush 101, 2) := by decide +kernel
theorem dX0_isPlain_9 : decode cX0_isPlain 9 = .ok (.if_icmp .eq 13, 3) := by decide +kernel
theorem dX0_isPlain_12 : decode cX0_isPlain 12 = .ok (.iload_n 0, 1) := by decide +kernel
theorem dX0_isPlain_13 : decode cX0_isPlain 13 = .ok (.bipush 111, 2) := by decide +kernel
theorem dX0_isPlain_15 : decode cX0_isPlain 15 = .ok (.if_icmp .eq 7, 3) := by decide +kernel
theorem dX0_isPlain_18 : decode cX0_isPlain 18 = .ok (.iconst 1, 1) := by decide +kernel
theorem dX0_isPlain_19 : decode cX0_isPlain 19 = .ok (.goto 4, 3) := by decide +kernel
theorem dX0_isPlain_22 : decode cX0_isPlain 22 = .ok (.iconst 0, 1) := by decide +kernel
theorem dX0_isPlain_23 : decode cX0_isPlain 23 = .ok (.ireturn, 1) := by decide +kernel
theorem dX0_operands_0 : decode cX0_operands 0 = .ok (.iload_n 0, 1) := by decide +kernel
theorem dX0_operands_1 : decode cX0_operands 1 = .ok (.invokestatic 18, 3) := by decide +kernel
theorem dX0_operands_4 : decode cX0_operands 4 = .ok (.ifCond .eq 5, 3) := by decide +kernel
theorem dX0_operands_7 : decode cX0_operands 7 = .ok (.iconst 0, 1) := by decide +kernel
theorem dX0_operands_8 : decode cX0_operands 8 = .ok (.ireturn, 1) := by decide +kernel
theorem dX0_operands_9 : decode cX0_operands 9 = .ok (.iload_n 0, 1) := by decide +kernel
theorem dX0_operands_10 : decode cX0_operands 10 = .ok (.invokestatic 21, 3) := by decide +kernel
theorem dX0_operands_13 : decode cX0_operands 13 = .ok (.ifCond .eq 5, 3) := by decide +kernel
theorem dX0_operands_16 : decode cX0_operands 16 = .ok (.iconst 2, 1) := by decide +kernel
theorem dX0_operands_17 : decode cX0_operands 17 = .ok (.ireturn, 1) := by decide +kernel
theorem dX0_operands_18 : decode cX0_operands 18 = .ok (.iload_n 0, 1) := by decide +kernel
theorem dX0_operands_19 : decode cX0_operands 19 = .ok (.bipush 58, 2) := by decide +kernel
theorem dX0_operands_21 : decode cX0_operands 21 = .ok (.if_icmp .eq 21, 3) := by decide +kernel
theorem dX0_operands_24 : decode cX0_operands 24 = .ok (.iload_n 0, 1) := by decide +kernel
theorem dX0_operands_25 : decode cX0_operands 25 = .ok (.bipush 116, 2) := by decide +kernel
theorem dX0_operands_27 : decode cX0_operands 27 = .ok (.if_icmp .eq 15, 3) := by decide +kernel
theorem dX0_operands_30 : decode cX0_operands 30 = .ok (.iload_n 0, 1) := by decide +kernel
theorem dX0_operands_31 : decode cX0_operands 31 = .ok (.bipush 101, 2) := by decide +kernel
theorem dX0_operands_33 : decode cX0_operands 33 = .ok (.if_icmp .eq 9, 3) := by decide +kernel
theorem dX0_operands_36 : decode cX0_operands 36 = .ok (.iload_n 0, 1) := by decide +kernel
theorem dX0_operands_37 : decode cX0_operands 37 = .ok (.bipush 111, 2) := by decide +kernel
theorem dX0_operands_39 : decode cX0_operands 39 = .ok (.if_icmp .ne 7, 3) := by decide +kernel
theorem dX0_operands_42 : decode cX0_operands 42 = .ok (.iconst 1, 1) := by decide +kernel
theorem dX0_operands_43 : decode cX0_operands 43 = .ok (.goto 4, 3) := by decide +kernel
theorem dX0_operands_46 : decode cX0_operands 46 = .ok (.iconst (-1), 1) := by decide +kernel
theorem dX0_operands_47 : decode cX0_operands 47 = .ok (.ireturn, 1) := by decide +kernel
theorem dX0_endsOf_0 : decode cX0_endsOf 0 = .ok (.iload_n 1, 1) := by decide +kernel
theorem dX0_endsOf_1 : decode cX0_endsOf 1 = .ok (.newarray .int, 2) := by decide +kernel
theorem dX0_endsOf_3 : decode cX0_endsOf 3 = .ok (.astore_n 2, 1) := by decide +kernel
theorem dX0_endsOf_4 : decode cX0_endsOf 4 = .ok (.aload_n 0, 1) := by decide +kernel
theorem dX0_endsOf_5 : decode cX0_endsOf 5 = .ok (.iload_n 1, 1) := by decide +kernel
theorem dX0_endsOf_6 : decode cX0_endsOf 6 = .ok (.aload_n 2, 1) := by decide +kernel
theorem dX0_endsOf_7 : decode cX0_endsOf 7 = .ok (.invokestatic 24, 3) := by decide +kernel
theorem dX0_endsOf_10 : decode cX0_endsOf 10 = .ok (.aload_n 2, 1) := by decide +kernel
theorem dX0_endsOf_11 : decode cX0_endsOf 11 = .ok (.areturn, 1) := by decide +kernel
theorem dX0_findEnds_0 : decode cX0_findEnds 0 = .ok (.iload_n 1, 1) := by decide +kernel
theorem dX0_findEnds_1 : decode cX0_findEnds 1 = .ok (.iconst 1, 1) := by decide +kernel
theorem dX0_findEnds_2 : decode cX0_findEnds 2 = .ok (.isub, 1) := by decide +kernel
theorem dX0_findEnds_3 : decode cX0_findEnds 3 = .ok (.istore_n 3, 1) := by decide +kernel
theorem dX0_findEnds_4 : decode cX0_findEnds 4 = .ok (.iload_n 3, 1) := by decide +kernel
theorem dX0_findEnds_5 : decode cX0_findEnds 5 = .ok (.ifCond .lt 57, 3) := by decide +kernel
theorem dX0_findEnds_8 : decode cX0_findEnds 8 = .ok (.aload_n 0, 1) := by decide +kernel
theorem dX0_findEnds_9 : decode cX0_findEnds 9 = .ok (.iload_n 3, 1) := by decide +kernel
theorem dX0_findEnds_10 : decode cX0_findEnds 10 = .ok (.iaload, 1) := by decide +kernel
theorem dX0_findEnds_11 : decode cX0_findEnds 11 = .ok (.invokestatic 18, 3) := by decide +kernel
theorem dX0_findEnds_14 : decode cX0_findEnds 14 = .ok (.ifCond .eq 12, 3) := by decide +kernel
theorem dX0_findEnds_17 : decode cX0_findEnds 17 = .ok (.aload_n 2, 1) := by decide +kernel
theorem dX0_findEnds_18 : decode cX0_findEnds 18 = .ok (.iload_n 3, 1) := by decide +kernel
theorem dX0_findEnds_19 : decode cX0_findEnds 19 = .ok (.iload_n 3, 1) := by decide +kernel
theorem dX0_findEnds_20 : decode cX0_findEnds 20 = .ok (.iconst 1, 1) := by decide +kernel
theorem dX0_findEnds_21 : decode cX0_findEnds 21 = .ok (.iadd, 1) := by decide +kernel
theorem dX0_findEnds_22 : decode cX0_findEnds 22 = .ok (.iastore, 1) := by decide +kernel
theorem dX0_findEnds_23 : decode cX0_findEnds 23 = .ok (.goto 33, 3) := by decide +kernel
theorem dX0_findEnds_26 : decode cX0_findEnds 26 = .ok (.aload_n 0, 1) := by decide +kernel
theorem dX0_findEnds_27 : decode cX0_findEnds 27 = .ok (.iload_n 3, 1) := by decide +kernel
theorem dX0_findEnds_28 : decode cX0_findEnds 28 = .ok (.iaload, 1) := by decide +kernel
theorem dX0_findEnds_29 : decode cX0_findEnds 29 = .ok (.invokestatic 21, 3) := by decide +kernel
theorem dX0_findEnds_32 : decode cX0_findEnds 32 = .ok (.ifCond .eq 16, 3) := by decide +kernel
theorem dX0_findEnds_35 : decode cX0_findEnds 35 = .ok (.aload_n 2, 1) := by decide +kernel
theorem dX0_findEnds_36 : decode cX0_findEnds 36 = .ok (.iload_n 3, 1) := by decide +kernel
theorem dX0_findEnds_37 : decode cX0_findEnds 37 = .ok (.aload_n 2, 1) := by decide +kernel
theorem dX0_findEnds_38 : decode cX0_findEnds 38 = .ok (.aload_n 2, 1) := by decide +kernel
theorem dX0_findEnds_39 : decode cX0_findEnds 39 = .ok (.iload_n 3, 1) := by decide +kernel
theorem dX0_findEnds_40 : decode cX0_findEnds 40 = .ok (.iconst 1, 1) := by decide +kernel
theorem dX0_findEnds_41 : decode cX0_findEnds 41 = .ok (.iadd, 1) := by decide +kernel
theorem dX0_findEnds_42 : decode cX0_findEnds 42 = .ok (.iaload, 1) := by decide +kernel
theorem dX0_findEnds_43 : decode cX0_findEnds 43 = .ok (.iaload, 1) := by decide +kernel
theorem dX0_findEnds_44 : decode cX0_findEnds 44 = .ok (.iastore, 1) := by decide +kernel
theorem dX0_findEnds_45 : decode cX0_findEnds 45 = .ok (.goto 11, 3) := by decide +kernel
theorem dX0_findEnds_48 : decode cX0_findEnds 48 = .ok (.aload_n 2, 1) := by decide +kernel
theorem dX0_findEnds_49 : decode cX0_findEnds 49 = .ok (.iload_n 3, 1) := by decide +kernel
theorem dX0_findEnds_50 : decode cX0_findEnds 50 = .ok (.aload_n 2, 1) := by decide +kernel
theorem dX0_findEnds_51 : decode cX0_findEnds 51 = .ok (.iload_n 3, 1) := by decide +kernel
theorem dX0_findEnds_52 : decode cX0_findEnds 52 = .ok (.iconst 1, 1) := by decide +kernel
theorem dX0_findEnds_53 : decode cX0_findEnds 53 = .ok (.iadd, 1) := by decide +kernel
theorem dX0_findEnds_54 : decode cX0_findEnds 54 = .ok (.iaload, 1) := by decide +kernel
theorem dX0_findEnds_55 : decode cX0_findEnds 55 = .ok (.iastore, 1) := by decide +kernel
theorem dX0_findEnds_56 : decode cX0_findEnds 56 = .ok (.iinc 3 (-1), 3) := by decide +kernel
theorem dX0_findEnds_59 : decode cX0_findEnds 59 = .ok (.goto (-55), 3) := by decide +kernel
theorem dX0_findEnds_62 : decode cX0_findEnds 62 = .ok (.return_, 1) := by decide +kernel
theorem dX0_findMentions_0 : decode cX0_findMentions 0 = .ok (.iconst 0, 1) := by decide +kernel
theorem dX0_findMentions_1 : decode cX0_findMentions 1 = .ok (.istore_n 2, 1) := by decide +kernel
theorem dX0_findMentions_2 : decode cX0_findMentions 2 = .ok (.iconst 0, 1) := by decide +kernel
theorem dX0_findMentions_3 : decode cX0_findMentions 3 = .ok (.istore_n 3, 1) := by decide +kernel
theorem dX0_findMentions_4 : decode cX0_findMentions 4 = .ok (.iload_n 3, 1) := by decide +kernel
theorem dX0_findMentions_5 : decode cX0_findMentions 5 = .ok (.iload_n 1, 1) := by decide +kernel
theorem dX0_findMentions_6 : decode cX0_findMentions 6 = .ok (.if_icmp .ge 21, 3) := by decide +kernel
theorem dX0_findMentions_9 : decode cX0_findMentions 9 = .ok (.aload_n 0, 1) := by decide +kernel
theorem dX0_findMentions_10 : decode cX0_findMentions 10 = .ok (.iload_n 3, 1) := by decide +kernel
theorem dX0_findMentions_11 : decode cX0_findMentions 11 = .ok (.iaload, 1) := by decide +kernel
theorem dX0_findMentions_12 : decode cX0_findMentions 12 = .ok (.invokestatic 11, 3) := by decide +kernel
theorem dX0_findMentions_15 : decode cX0_findMentions 15 = .ok (.ifCond .eq 6, 3) := by decide +kernel
theorem dX0_findMentions_18 : decode cX0_findMentions 18 = .ok (.iinc 2 1, 3) := by decide +kernel
theorem dX0_findMentions_21 : decode cX0_findMentions 21 = .ok (.iinc 3 1, 3) := by decide +kernel
theorem dX0_findMentions_24 : decode cX0_findMentions 24 = .ok (.goto (-20), 3) := by decide +kernel
theorem dX0_findMentions_27 : decode cX0_findMentions 27 = .ok (.iload_n 2, 1) := by decide +kernel
theorem dX0_findMentions_28 : decode cX0_findMentions 28 = .ok (.newarray .int, 2) := by decide +kernel
theorem dX0_findMentions_30 : decode cX0_findMentions 30 = .ok (.astore_n 3, 1) := by decide +kernel
theorem dX0_findMentions_31 : decode cX0_findMentions 31 = .ok (.iconst 0, 1) := by decide +kernel
theorem dX0_findMentions_32 : decode cX0_findMentions 32 = .ok (.istore 4, 2) := by decide +kernel
theorem dX0_findMentions_34 : decode cX0_findMentions 34 = .ok (.iconst 0, 1) := by decide +kernel
theorem dX0_findMentions_35 : decode cX0_findMentions 35 = .ok (.istore 5, 2) := by decide +kernel
theorem dX0_findMentions_37 : decode cX0_findMentions 37 = .ok (.iload 5, 2) := by decide +kernel
theorem dX0_findMentions_39 : decode cX0_findMentions 39 = .ok (.iload_n 1, 1) := by decide +kernel
theorem dX0_findMentions_40 : decode cX0_findMentions 40 = .ok (.if_icmp .ge 34, 3) := by decide +kernel
theorem dX0_findMentions_43 : decode cX0_findMentions 43 = .ok (.iload 4, 2) := by decide +kernel
theorem dX0_findMentions_45 : decode cX0_findMentions 45 = .ok (.iload_n 2, 1) := by decide +kernel
theorem dX0_findMentions_46 : decode cX0_findMentions 46 = .ok (.if_icmp .ge 28, 3) := by decide +kernel
theorem dX0_findMentions_49 : decode cX0_findMentions 49 = .ok (.aload_n 0, 1) := by decide +kernel
theorem dX0_findMentions_50 : decode cX0_findMentions 50 = .ok (.iload 5, 2) := by decide +kernel
theorem dX0_findMentions_52 : decode cX0_findMentions 52 = .ok (.iaload, 1) := by decide +kernel
theorem dX0_findMentions_53 : decode cX0_findMentions 53 = .ok (.invokestatic 11, 3) := by decide +kernel
theorem dX0_findMentions_56 : decode cX0_findMentions 56 = .ok (.ifCond .eq 12, 3) := by decide +kernel
theorem dX0_findMentions_59 : decode cX0_findMentions 59 = .ok (.aload_n 3, 1) := by decide +kernel
theorem dX0_findMentions_60 : decode cX0_findMentions 60 = .ok (.iload 4, 2) := by decide +kernel
theorem dX0_findMentions_62 : decode cX0_findMentions 62 = .ok (.iload 5, 2) := by decide +kernel
theorem dX0_findMentions_64 : decode cX0_findMentions 64 = .ok (.iastore, 1) := by decide +kernel
theorem dX0_findMentions_65 : decode cX0_findMentions 65 = .ok (.iinc 4 1, 3) := by decide +kernel
theorem dX0_findMentions_68 : decode cX0_findMentions 68 = .ok (.iinc 5 1, 3) := by decide +kernel
theorem dX0_findMentions_71 : decode cX0_findMentions 71 = .ok (.goto (-34), 3) := by decide +kernel
theorem dX0_findMentions_74 : decode cX0_findMentions 74 = .ok (.aload_n 3, 1) := by decide +kernel
theorem dX0_findMentions_75 : decode cX0_findMentions 75 = .ok (.areturn, 1) := by decide +kernel
theorem dX1_init_0 : decode cX1_init 0 = .ok (.aload_n 0, 1) := by decide +kernel
theorem dX1_init_1 : decode cX1_init 1 = .ok (.invokespecial 3, 3) := by decide +kernel
theorem dX1_init_4 : decode cX1_init 4 = .ok (.aload_n 0, 1) := by decide +kernel
theorem dX1_init_5 : decode cX1_init 5 = .ok (.bipush 120, 2) := by decide +kernel
theorem dX1_init_7 : decode cX1_init 7 = .ok (.newarray .int, 2) := by decide +kernel
theorem dX1_init_9 : decode cX1_init 9 = .ok (.putfield 9, 3) := by decide +kernel
theorem dX1_init_12 : decode cX1_init 12 = .ok (.aload_n 0, 1) := by decide +kernel
theorem dX1_init_13 : decode cX1_init 13 = .ok (.bipush 64, 2) := by decide +kernel
theorem dX1_init_15 : decode cX1_init 15 = .ok (.newarray .int, 2) := by decide +kernel
theorem dX1_init_17 : decode cX1_init 17 = .ok (.putfield 15, 3) := by decide +kernel
theorem dX1_init_20 : decode cX1_init 20 = .ok (.aload_n 0, 1) := by decide +kernel
theorem dX1_init_21 : decode cX1_init 21 = .ok (.sipush 2048, 3) := by decide +kernel
theorem dX1_init_24 : decode cX1_init 24 = .ok (.newarray .int, 2) := by decide +kernel
theorem dX1_init_26 : decode cX1_init 26 = .ok (.putfield 18, 3) := by decide +kernel
theorem dX1_init_29 : decode cX1_init 29 = .ok (.return_, 1) := by decide +kernel
theorem dX1_greatestThrough_0 : decode cX1_greatestThrough 0 = .ok (.aload_n 0, 1) := by decide +kernel
theorem dX1_greatestThrough_1 : decode cX1_greatestThrough 1 = .ok (.aload_n 1, 1) := by decide +kernel
theorem dX1_greatestThrough_2 : decode cX1_greatestThrough 2 = .ok (.invokevirtual 21, 3) := by decide +kernel
theorem dX1_greatestThrough_5 : decode cX1_greatestThrough 5 = .ok (.aload_n 0, 1) := by decide +kernel
theorem dX1_greatestThrough_6 : decode cX1_greatestThrough 6 = .ok (.getfield 18, 3) := by decide +kernel
theorem dX1_greatestThrough_9 : decode cX1_greatestThrough 9 = .ok (.ldc 25, 2) := by decide +kernel
theorem dX1_greatestThrough_11 : decode cX1_greatestThrough 11 = .ok (.invokestatic 26, 3) := by decide +kernel
theorem dX1_greatestThrough_14 : decode cX1_greatestThrough 14 = .ok (.aload_n 0, 1) := by decide +kernel
theorem dX1_greatestThrough_15 : decode cX1_greatestThrough 15 = .ok (.getfield 18, 3) := by decide +kernel
theorem dX1_greatestThrough_18 : decode cX1_greatestThrough 18 = .ok (.iconst 1, 1) := by decide +kernel
theorem dX1_greatestThrough_19 : decode cX1_greatestThrough 19 = .ok (.iload_n 2, 1) := by decide +kernel
theorem dX1_greatestThrough_20 : decode cX1_greatestThrough 20 = .ok (.ishl, 1) := by decide +kernel
theorem dX1_greatestThrough_21 : decode cX1_greatestThrough 21 = .ok (.bipush 8, 2) := by decide +kernel
theorem dX1_greatestThrough_23 : decode cX1_greatestThrough 23 = .ok (.imul, 1) := by decide +kernel
theorem dX1_greatestThrough_24 : decode cX1_greatestThrough 24 = .ok (.iload_n 2, 1) := by decide +kernel
theorem dX1_greatestThrough_25 : decode cX1_greatestThrough 25 = .ok (.iadd, 1) := by decide +kernel
theorem dX1_greatestThrough_26 : decode cX1_greatestThrough 26 = .ok (.iconst 0, 1) := by decide +kernel
theorem dX1_greatestThrough_27 : decode cX1_greatestThrough 27 = .ok (.iastore, 1) := by decide +kernel
theorem dX1_greatestThrough_28 : decode cX1_greatestThrough 28 = .ok (.ldc 25, 2) := by decide +kernel
theorem dX1_greatestThrough_30 : decode cX1_greatestThrough 30 = .ok (.istore_n 3, 1) := by decide +kernel
theorem dX1_greatestThrough_31 : decode cX1_greatestThrough 31 = .ok (.iconst 1, 1) := by decide +kernel
theorem dX1_greatestThrough_32 : decode cX1_greatestThrough 32 = .ok (.istore 4, 2) := by decide +kernel
theorem dX1_greatestThrough_34 : decode cX1_greatestThrough 34 = .ok (.iload 4, 2) := by decide +kernel
theorem dX1_greatestThrough_36 : decode cX1_greatestThrough 36 = .ok (.sipush 256, 3) := by decide +kernel
theorem dX1_greatestThrough_39 : decode cX1_greatestThrough 39 = .ok (.if_icmp .ge 91, 3) := by decide +kernel
theorem dX1_greatestThrough_42 : decode cX1_greatestThrough 42 = .ok (.iconst 0, 1) := by decide +kernel
theorem dX1_greatestThrough_43 : decode cX1_greatestThrough 43 = .ok (.istore 5, 2) := by decide +kernel
theorem dX1_greatestThrough_45 : decode cX1_greatestThrough 45 = .ok (.iload 5, 2) := by decide +kernel
theorem dX1_greatestThrough_47 : decode cX1_greatestThrough 47 = .ok (.bipush 8, 2) := by decide +kernel
theorem dX1_greatestThrough_49 : decode cX1_greatestThrough 49 = .ok (.if_icmp .ge 75, 3) := by decide +kernel
theorem dX1_greatestThrough_52 : decode cX1_greatestThrough 52 = .ok (.aload_n 0, 1) := by decide +kernel
theorem dX1_greatestThrough_53 : decode cX1_greatestThrough 53 = .ok (.getfield 18, 3) := by decide +kernel
theorem dX1_greatestThrough_56 : decode cX1_greatestThrough 56 = .ok (.iload 4, 2) := by decide +kernel
theorem dX1_greatestThrough_58 : decode cX1_greatestThrough 58 = .ok (.bipush 8, 2) := by decide +kernel
theorem dX1_greatestThrough_60 : decode cX1_greatestThrough 60 = .ok (.imul, 1) := by decide +kernel
theorem dX1_greatestThrough_61 : decode cX1_greatestThrough 61 = .ok (.iload 5, 2) := by decide +kernel
theorem dX1_greatestThrough_63 : decode cX1_greatestThrough 63 = .ok (.iadd, 1) := by decide +kernel
theorem dX1_greatestThrough_64 : decode cX1_greatestThrough 64 = .ok (.iaload, 1) := by decide +kernel
theorem dX1_greatestThrough_65 : decode cX1_greatestThrough 65 = .ok (.istore 6, 2) := by decide +kernel
theorem dX1_greatestThrough_67 : decode cX1_greatestThrough 67 = .ok (.aload_n 0, 1) := by decide +kernel
theorem dX1_greatestThrough_68 : decode cX1_greatestThrough 68 = .ok (.getfield 15, 3) := by decide +kernel
theorem dX1_greatestThrough_71 : decode cX1_greatestThrough 71 = .ok (.iload 5, 2) := by decide +kernel
theorem dX1_greatestThrough_73 : decode cX1_greatestThrough 73 = .ok (.bipush 8, 2) := by decide +kernel
theorem dX1_greatestThrough_75 : decode cX1_greatestThrough 75 = .ok (.imul, 1) := by decide +kernel
theorem dX1_greatestThrough_76 : decode cX1_greatestThrough 76 = .ok (.iload_n 2, 1) := by decide +kernel
theorem dX1_greatestThrough_77 : decode cX1_greatestThrough 77 = .ok (.iadd, 1) := by decide +kernel
theorem dX1_greatestThrough_78 : decode cX1_greatestThrough 78 = .ok (.iaload, 1) := by decide +kernel
theorem dX1_greatestThrough_79 : decode cX1_greatestThrough 79 = .ok (.istore 7, 2) := by decide +kernel
theorem dX1_greatestThrough_81 : decode cX1_greatestThrough 81 = .ok (.iload 6, 2) := by decide +kernel
theorem dX1_greatestThrough_83 : decode cX1_greatestThrough 83 = .ok (.ldc 25, 2) := by decide +kernel
theorem dX1_greatestThrough_85 : decode cX1_greatestThrough 85 = .ok (.if_icmp .ne 6, 3) := by decide +kernel
theorem dX1_greatestThrough_88 : decode cX1_greatestThrough 88 = .ok (.goto 30, 3) := by decide +kernel
theorem dX1_greatestThrough_91 : decode cX1_greatestThrough 91 = .ok (.iload 7, 2) := by decide +kernel
theorem dX1_greatestThrough_93 : decode cX1_greatestThrough 93 = .ok (.ldc 25, 2) := by decide +kernel
theorem dX1_greatestThrough_95 : decode cX1_greatestThrough 95 = .ok (.if_icmp .eq 13, 3) := by decide +kernel
theorem dX1_greatestThrough_98 : decode cX1_greatestThrough 98 = .ok (.iload_n 3, 1) := by decide +kernel
theorem dX1_greatestThrough_99 : decode cX1_greatestThrough 99 = .ok (.iload 6, 2) := by decide +kernel
theorem dX1_greatestThrough_101 : decode cX1_greatestThrough 101 = .ok (.iload 7, 2) := by decide +kernel
theorem dX1_greatestThrough_103 : decode cX1_greatestThrough 103 = .ok (.iadd, 1) := by decide +kernel
theorem dX1_greatestThrough_104 : decode cX1_greatestThrough 104 = .ok (.invokestatic 32, 3) := by decide +kernel
theorem dX1_greatestThrough_107 : decode cX1_greatestThrough 107 = .ok (.istore_n 3, 1) := by decide +kernel
theorem dX1_greatestThrough_108 : decode cX1_greatestThrough 108 = .ok (.aload_n 0, 1) := by decide +kernel
theorem dX1_greatestThrough_109 : decode cX1_greatestThrough 109 = .ok (.iload 4, 2) := by decide +kernel
theorem dX1_greatestThrough_111 : decode cX1_greatestThrough 111 = .ok (.iload 5, 2) := by decide +kernel
theorem dX1_greatestThrough_113 : decode cX1_greatestThrough 113 = .ok (.iload 6, 2) := by decide +kernel
theorem dX1_greatestThrough_115 : decode cX1_greatestThrough 115 = .ok (.invokevirtual 38, 3) := by decide +kernel
theorem dX1_greatestThrough_118 : decode cX1_greatestThrough 118 = .ok (.iinc 5 1, 3) := by decide +kernel
theorem dX1_greatestThrough_121 : decode cX1_greatestThrough 121 = .ok (.goto (-76), 3) := by decide +kernel
theorem dX1_greatestThrough_124 : decode cX1_greatestThrough 124 = .ok (.iinc 4 1, 3) := by decide +kernel
theorem dX1_greatestThrough_127 : decode cX1_greatestThrough 127 = .ok (.goto (-93), 3) := by decide +kernel
theorem dX1_greatestThrough_130 : decode cX1_greatestThrough 130 = .ok (.iload_n 3, 1) := by decide +kernel
theorem dX1_greatestThrough_131 : decode cX1_greatestThrough 131 = .ok (.ldc 25, 2) := by decide +kernel
theorem dX1_greatestThrough_133 : decode cX1_greatestThrough 133 = .ok (.if_icmp .ne 8, 3) := by decide +kernel
theorem dX1_greatestThrough_136 : decode cX1_greatestThrough 136 = .ok (.bipush (-9), 2) := by decide +kernel
theorem dX1_greatestThrough_138 : decode cX1_greatestThrough 138 = .ok (.goto 8, 3) := by decide +kernel
theorem dX1_greatestThrough_141 : decode cX1_greatestThrough 141 = .ok (.iload_n 3, 1) := by decide +kernel
theorem dX1_greatestThrough_142 : decode cX1_greatestThrough 142 = .ok (.sipush 1000, 3) := by decide +kernel
theorem dX1_greatestThrough_145 : decode cX1_greatestThrough 145 = .ok (.iadd, 1) := by decide +kernel
theorem dX1_greatestThrough_146 : decode cX1_greatestThrough 146 = .ok (.ireturn, 1) := by decide +kernel
theorem dX1_goOn_0 : decode cX1_goOn 0 = .ok (.iconst 0, 1) := by decide +kernel
theorem dX1_goOn_1 : decode cX1_goOn 1 = .ok (.istore 4, 2) := by decide +kernel
theorem dX1_goOn_3 : decode cX1_goOn 3 = .ok (.iload 4, 2) := by decide +kernel
theorem dX1_goOn_5 : decode cX1_goOn 5 = .ok (.bipush 8, 2) := by decide +kernel
theorem dX1_goOn_7 : decode cX1_goOn 7 = .ok (.if_icmp .ge 78, 3) := by decide +kernel
theorem dX1_goOn_10 : decode cX1_goOn 10 = .ok (.aload_n 0, 1) := by decide +kernel
theorem dX1_goOn_11 : decode cX1_goOn 11 = .ok (.getfield 15, 3) := by decide +kernel
theorem dX1_goOn_14 : decode cX1_goOn 14 = .ok (.iload_n 2, 1) := by decide +kernel
theorem dX1_goOn_15 : decode cX1_goOn 15 = .ok (.bipush 8, 2) := by decide +kernel
theorem dX1_goOn_17 : decode cX1_goOn 17 = .ok (.imul, 1) := by decide +kernel
theorem dX1_goOn_18 : decode cX1_goOn 18 = .ok (.iload 4, 2) := by decide +kernel
theorem dX1_goOn_20 : decode cX1_goOn 20 = .ok (.iadd, 1) := by decide +kernel
theorem dX1_goOn_21 : decode cX1_goOn 21 = .ok (.iaload, 1) := by decide +kernel
theorem dX1_goOn_22 : decode cX1_goOn 22 = .ok (.istore 5, 2) := by decide +kernel
theorem dX1_goOn_24 : decode cX1_goOn 24 = .ok (.iload 5, 2) := by decide +kernel
theorem dX1_goOn_26 : decode cX1_goOn 26 = .ok (.ldc 25, 2) := by decide +kernel
theorem dX1_goOn_28 : decode cX1_goOn 28 = .ok (.if_icmp .eq 51, 3) := by decide +kernel
theorem dX1_goOn_31 : decode cX1_goOn 31 = .ok (.iload_n 1, 1) := by decide +kernel
theorem dX1_goOn_32 : decode cX1_goOn 32 = .ok (.iload 4, 2) := by decide +kernel
theorem dX1_goOn_34 : decode cX1_goOn 34 = .ok (.ishr, 1) := by decide +kernel
theorem dX1_goOn_35 : decode cX1_goOn 35 = .ok (.iconst 1, 1) := by decide +kernel
theorem dX1_goOn_36 : decode cX1_goOn 36 = .ok (.iand, 1) := by decide +kernel
theorem dX1_goOn_37 : decode cX1_goOn 37 = .ok (.iconst 1, 1) := by decide +kernel
theorem dX1_goOn_38 : decode cX1_goOn 38 = .ok (.if_icmp .ne 6, 3) := by decide +kernel
theorem dX1_goOn_41 : decode cX1_goOn 41 = .ok (.goto 38, 3) := by decide +kernel
theorem dX1_goOn_44 : decode cX1_goOn 44 = .ok (.iload_n 1, 1) := by decide +kernel
theorem dX1_goOn_45 : decode cX1_goOn 45 = .ok (.iconst 1, 1) := by decide +kernel
theorem dX1_goOn_46 : decode cX1_goOn 46 = .ok (.iload 4, 2) := by decide +kernel
theorem dX1_goOn_48 : decode cX1_goOn 48 = .ok (.ishl, 1) := by decide +kernel
theorem dX1_goOn_49 : decode cX1_goOn 49 = .ok (.ior, 1) := by decide +kernel
theorem dX1_goOn_50 : decode cX1_goOn 50 = .ok (.bipush 8, 2) := by decide +kernel
theorem dX1_goOn_52 : decode cX1_goOn 52 = .ok (.imul, 1) := by decide +kernel
theorem dX1_goOn_53 : decode cX1_goOn 53 = .ok (.iload 4, 2) := by decide +kernel
theorem dX1_goOn_55 : decode cX1_goOn 55 = .ok (.iadd, 1) := by decide +kernel
theorem dX1_goOn_56 : decode cX1_goOn 56 = .ok (.istore 6, 2) := by decide +kernel
theorem dX1_goOn_58 : decode cX1_goOn 58 = .ok (.aload_n 0, 1) := by decide +kernel
theorem dX1_goOn_59 : decode cX1_goOn 59 = .ok (.getfield 18, 3) := by decide +kernel
theorem dX1_goOn_62 : decode cX1_goOn 62 = .ok (.iload 6, 2) := by decide +kernel
theorem dX1_goOn_64 : decode cX1_goOn 64 = .ok (.aload_n 0, 1) := by decide +kernel
theorem dX1_goOn_65 : decode cX1_goOn 65 = .ok (.getfield 18, 3) := by decide +kernel
theorem dX1_goOn_68 : decode cX1_goOn 68 = .ok (.iload 6, 2) := by decide +kernel
theorem dX1_goOn_70 : decode cX1_goOn 70 = .ok (.iaload, 1) := by decide +kernel
theorem dX1_goOn_71 : decode cX1_goOn 71 = .ok (.iload_n 3, 1) := by decide +kernel
theorem dX1_goOn_72 : decode cX1_goOn 72 = .ok (.iload 5, 2) := by decide +kernel
theorem dX1_goOn_74 : decode cX1_goOn 74 = .ok (.iadd, 1) := by decide +kernel
theorem dX1_goOn_75 : decode cX1_goOn 75 = .ok (.invokestatic 32, 3) := by decide +kernel
theorem dX1_goOn_78 : decode cX1_goOn 78 = .ok (.iastore, 1) := by decide +kernel
theorem dX1_goOn_79 : decode cX1_goOn 79 = .ok (.iinc 4 1, 3) := by decide +kernel
theorem dX1_goOn_82 : decode cX1_goOn 82 = .ok (.goto (-79), 3) := by decide +kernel
theorem dX1_goOn_85 : decode cX1_goOn 85 = .ok (.return_, 1) := by decide +kernel
theorem dX1_findSteps_0 : decode cX1_findSteps 0 = .ok (.aload_n 0, 1) := by decide +kernel
theorem dX1_findSteps_1 : decode cX1_findSteps 1 = .ok (.getfield 15, 3) := by decide +kernel
theorem dX1_findSteps_4 : decode cX1_findSteps 4 = .ok (.ldc 25, 2) := by decide +kernel
theorem dX1_findSteps_6 : decode cX1_findSteps 6 = .ok (.invokestatic 26, 3) := by decide +kernel
theorem dX1_findSteps_9 : decode cX1_findSteps 9 = .ok (.iconst 0, 1) := by decide +kernel
theorem dX1_findSteps_10 : decode cX1_findSteps 10 = .ok (.istore_n 2, 1) := by decide +kernel
theorem dX1_findSteps_11 : decode cX1_findSteps 11 = .ok (.iload_n 2, 1) := by decide +kernel
theorem dX1_findSteps_12 : decode cX1_findSteps 12 = .ok (.bipush 8, 2) := by decide +kernel
theorem dX1_findSteps_14 : decode cX1_findSteps 14 = .ok (.if_icmp .ge 99, 3) := by decide +kernel
theorem dX1_findSteps_17 : decode cX1_findSteps 17 = .ok (.aload_n 1, 1) := by decide +kernel
theorem dX1_findSteps_18 : decode cX1_findSteps 18 = .ok (.getfield 42, 3) := by decide +kernel
theorem dX1_findSteps_21 : decode cX1_findSteps 21 = .ok (.iload_n 2, 1) := by decide +kernel
theorem dX1_findSteps_22 : decode cX1_findSteps 22 = .ok (.aaload, 1) := by decide +kernel
theorem dX1_findSteps_23 : decode cX1_findSteps 23 = .ok (.astore_n 3, 1) := by decide +kernel
theorem dX1_findSteps_24 : decode cX1_findSteps 24 = .ok (.aload_n 3, 1) := by decide +kernel
theorem dX1_findSteps_25 : decode cX1_findSteps 25 = .ok (.ifnonnull 6, 3) := by decide +kernel
theorem dX1_findSteps_28 : decode cX1_findSteps 28 = .ok (.goto 79, 3) := by decide +kernel
theorem dX1_findSteps_31 : decode cX1_findSteps 31 = .ok (.aload_n 0, 1) := by decide +kernel
theorem dX1_findSteps_32 : decode cX1_findSteps 32 = .ok (.aload_n 3, 1) := by decide +kernel
theorem dX1_findSteps_33 : decode cX1_findSteps 33 = .ok (.invokevirtual 48, 3) := by decide +kernel
theorem dX1_findSteps_36 : decode cX1_findSteps 36 = .ok (.aload_n 3, 1) := by decide +kernel
theorem dX1_findSteps_37 : decode cX1_findSteps 37 = .ok (.getfield 52, 3) := by decide +kernel
theorem dX1_findSteps_40 : decode cX1_findSteps 40 = .ok (.astore 4, 2) := by decide +kernel
theorem dX1_findSteps_42 : decode cX1_findSteps 42 = .ok (.aload 4, 2) := by decide +kernel
theorem dX1_findSteps_44 : decode cX1_findSteps 44 = .ok (.arraylength, 1) := by decide +kernel
theorem dX1_findSteps_45 : decode cX1_findSteps 45 = .ok (.istore 5, 2) := by decide +kernel
theorem dX1_findSteps_47 : decode cX1_findSteps 47 = .ok (.iconst 0, 1) := by decide +kernel
theorem dX1_findSteps_48 : decode cX1_findSteps 48 = .ok (.istore 6, 2) := by decide +kernel
theorem dX1_findSteps_50 : decode cX1_findSteps 50 = .ok (.iload 6, 2) := by decide +kernel
theorem dX1_findSteps_52 : decode cX1_findSteps 52 = .ok (.iload 5, 2) := by decide +kernel
theorem dX1_findSteps_54 : decode cX1_findSteps 54 = .ok (.if_icmp .ge 53, 3) := by decide +kernel
theorem dX1_findSteps_57 : decode cX1_findSteps 57 = .ok (.aload 4, 2) := by decide +kernel
theorem dX1_findSteps_59 : decode cX1_findSteps 59 = .ok (.iload 6, 2) := by decide +kernel
theorem dX1_findSteps_61 : decode cX1_findSteps 61 = .ok (.iaload, 1) := by decide +kernel
theorem dX1_findSteps_62 : decode cX1_findSteps 62 = .ok (.istore 7, 2) := by decide +kernel
theorem dX1_findSteps_64 : decode cX1_findSteps 64 = .ok (.iload_n 2, 1) := by decide +kernel
theorem dX1_findSteps_65 : decode cX1_findSteps 65 = .ok (.bipush 8, 2) := by decide +kernel
theorem dX1_findSteps_67 : decode cX1_findSteps 67 = .ok (.imul, 1) := by decide +kernel
theorem dX1_findSteps_68 : decode cX1_findSteps 68 = .ok (.aload_n 3, 1) := by decide +kernel
theorem dX1_findSteps_69 : decode cX1_findSteps 69 = .ok (.iload 7, 2) := by decide +kernel
theorem dX1_findSteps_71 : decode cX1_findSteps 71 = .ok (.invokevirtual 57, 3) := by decide +kernel
theorem dX1_findSteps_74 : decode cX1_findSteps 74 = .ok (.iadd, 1) := by decide +kernel
theorem dX1_findSteps_75 : decode cX1_findSteps 75 = .ok (.istore 8, 2) := by decide +kernel
theorem dX1_findSteps_77 : decode cX1_findSteps 77 = .ok (.aload_n 0, 1) := by decide +kernel
theorem dX1_findSteps_78 : decode cX1_findSteps 78 = .ok (.getfield 15, 3) := by decide +kernel
theorem dX1_findSteps_81 : decode cX1_findSteps 81 = .ok (.iload 8, 2) := by decide +kernel
theorem dX1_findSteps_83 : decode cX1_findSteps 83 = .ok (.aload_n 0, 1) := by decide +kernel
theorem dX1_findSteps_84 : decode cX1_findSteps 84 = .ok (.getfield 15, 3) := by decide +kernel
theorem dX1_findSteps_87 : decode cX1_findSteps 87 = .ok (.iload 8, 2) := by decide +kernel
theorem dX1_findSteps_89 : decode cX1_findSteps 89 = .ok (.iaload, 1) := by decide +kernel
theorem dX1_findSteps_90 : decode cX1_findSteps 90 = .ok (.aload_n 0, 1) := by decide +kernel
theorem dX1_findSteps_91 : decode cX1_findSteps 91 = .ok (.getfield 9, 3) := by decide +kernel
theorem dX1_findSteps_94 : decode cX1_findSteps 94 = .ok (.iload 7, 2) := by decide +kernel
theorem dX1_findSteps_96 : decode cX1_findSteps 96 = .ok (.iaload, 1) := by decide +kernel
theorem dX1_findSteps_97 : decode cX1_findSteps 97 = .ok (.invokestatic 32, 3) := by decide +kernel
theorem dX1_findSteps_100 : decode cX1_findSteps 100 = .ok (.iastore, 1) := by decide +kernel
theorem dX1_findSteps_101 : decode cX1_findSteps 101 = .ok (.iinc 6 1, 3) := by decide +kernel
theorem dX1_findSteps_104 : decode cX1_findSteps 104 = .ok (.goto (-54), 3) := by decide +kernel
theorem dX1_findSteps_107 : decode cX1_findSteps 107 = .ok (.iinc 2 1, 3) := by decide +kernel
theorem dX1_findSteps_110 : decode cX1_findSteps 110 = .ok (.goto (-99), 3) := by decide +kernel
theorem dX1_findSteps_113 : decode cX1_findSteps 113 = .ok (.return_, 1) := by decide +kernel
theorem dX1_findShifts_0 : decode cX1_findShifts 0 = .ok (.aload_n 0, 1) := by decide +kernel
theorem dX1_findShifts_1 : decode cX1_findShifts 1 = .ok (.getfield 9, 3) := by decide +kernel
theorem dX1_findShifts_4 : decode cX1_findShifts 4 = .ok (.iconst 0, 1) := by decide +kernel
theorem dX1_findShifts_5 : decode cX1_findShifts 5 = .ok (.iconst 0, 1) := by decide +kernel
theorem dX1_findShifts_6 : decode cX1_findShifts 6 = .ok (.iastore, 1) := by decide +kernel
theorem dX1_findShifts_7 : decode cX1_findShifts 7 = .ok (.iconst 0, 1) := by decide +kernel
theorem dX1_findShifts_8 : decode cX1_findShifts 8 = .ok (.istore_n 2, 1) := by decide +kernel
theorem dX1_findShifts_9 : decode cX1_findShifts 9 = .ok (.iload_n 2, 1) := by decide +kernel
theorem dX1_findShifts_10 : decode cX1_findShifts 10 = .ok (.aload_n 1, 1) := by decide +kernel
theorem dX1_findShifts_11 : decode cX1_findShifts 11 = .ok (.getfield 61, 3) := by decide +kernel
theorem dX1_findShifts_14 : decode cX1_findShifts 14 = .ok (.if_icmp .ge 95, 3) := by decide +kernel
theorem dX1_findShifts_17 : decode cX1_findShifts 17 = .ok (.aload_n 1, 1) := by decide +kernel
theorem dX1_findShifts_18 : decode cX1_findShifts 18 = .ok (.getfield 65, 3) := by decide +kernel
theorem dX1_findShifts_21 : decode cX1_findShifts 21 = .ok (.iload_n 2, 1) := by decide +kernel
theorem dX1_findShifts_22 : decode cX1_findShifts 22 = .ok (.iaload, 1) := by decide +kernel
theorem dX1_findShifts_23 : decode cX1_findShifts 23 = .ok (.istore_n 3, 1) := by decide +kernel
theorem dX1_findShifts_24 : decode cX1_findShifts 24 = .ok (.iload_n 3, 1) := by decide +kernel
theorem dX1_findShifts_25 : decode cX1_findShifts 25 = .ok (.invokestatic 68, 3) := by decide +kernel
theorem dX1_findShifts_28 : decode cX1_findShifts 28 = .ok (.ifCond .eq 6, 3) := by decide +kernel
theorem dX1_findShifts_31 : decode cX1_findShifts 31 = .ok (.goto 72, 3) := by decide +kernel
theorem dX1_findShifts_34 : decode cX1_findShifts 34 = .ok (.iload_n 3, 1) := by decide +kernel
theorem dX1_findShifts_35 : decode cX1_findShifts 35 = .ok (.invokestatic 74, 3) := by decide +kernel
theorem dX1_findShifts_38 : decode cX1_findShifts 38 = .ok (.ifCond .eq 39, 3) := by decide +kernel
theorem dX1_findShifts_41 : decode cX1_findShifts 41 = .ok (.aload_n 0, 1) := by decide +kernel
theorem dX1_findShifts_42 : decode cX1_findShifts 42 = .ok (.getfield 9, 3) := by decide +kernel
theorem dX1_findShifts_45 : decode cX1_findShifts 45 = .ok (.iload_n 2, 1) := by decide +kernel
theorem dX1_findShifts_46 : decode cX1_findShifts 46 = .ok (.iconst 1, 1) := by decide +kernel
theorem dX1_findShifts_47 : decode cX1_findShifts 47 = .ok (.iadd, 1) := by decide +kernel
theorem dX1_findShifts_48 : decode cX1_findShifts 48 = .ok (.aload_n 0, 1) := by decide +kernel
theorem dX1_findShifts_49 : decode cX1_findShifts 49 = .ok (.getfield 9, 3) := by decide +kernel
theorem dX1_findShifts_52 : decode cX1_findShifts 52 = .ok (.iload_n 2, 1) := by decide +kernel
theorem dX1_findShifts_53 : decode cX1_findShifts 53 = .ok (.iaload, 1) := by decide +kernel
theorem dX1_findShifts_54 : decode cX1_findShifts 54 = .ok (.iastore, 1) := by decide +kernel
theorem dX1_findShifts_55 : decode cX1_findShifts 55 = .ok (.aload_n 0, 1) := by decide +kernel
theorem dX1_findShifts_56 : decode cX1_findShifts 56 = .ok (.getfield 9, 3) := by decide +kernel
theorem dX1_findShifts_59 : decode cX1_findShifts 59 = .ok (.aload_n 1, 1) := by decide +kernel
theorem dX1_findShifts_60 : decode cX1_findShifts 60 = .ok (.getfield 77, 3) := by decide +kernel
theorem dX1_findShifts_63 : decode cX1_findShifts 63 = .ok (.iload_n 2, 1) := by decide +kernel
theorem dX1_findShifts_64 : decode cX1_findShifts 64 = .ok (.iconst 1, 1) := by decide +kernel
theorem dX1_findShifts_65 : decode cX1_findShifts 65 = .ok (.iadd, 1) := by decide +kernel
theorem dX1_findShifts_66 : decode cX1_findShifts 66 = .ok (.iaload, 1) := by decide +kernel
theorem dX1_findShifts_67 : decode cX1_findShifts 67 = .ok (.aload_n 0, 1) := by decide +kernel
theorem dX1_findShifts_68 : decode cX1_findShifts 68 = .ok (.getfield 9, 3) := by decide +kernel
theorem dX1_findShifts_71 : decode cX1_findShifts 71 = .ok (.iload_n 2, 1) := by decide +kernel
theorem dX1_findShifts_72 : decode cX1_findShifts 72 = .ok (.iaload, 1) := by decide +kernel
theorem dX1_findShifts_73 : decode cX1_findShifts 73 = .ok (.iastore, 1) := by decide +kernel
theorem dX1_findShifts_74 : decode cX1_findShifts 74 = .ok (.goto 29, 3) := by decide +kernel
theorem dX1_findShifts_77 : decode cX1_findShifts 77 = .ok (.aload_n 0, 1) := by decide +kernel
theorem dX1_findShifts_78 : decode cX1_findShifts 78 = .ok (.getfield 9, 3) := by decide +kernel
theorem dX1_findShifts_81 : decode cX1_findShifts 81 = .ok (.iload_n 2, 1) := by decide +kernel
theorem dX1_findShifts_82 : decode cX1_findShifts 82 = .ok (.iconst 1, 1) := by decide +kernel
theorem dX1_findShifts_83 : decode cX1_findShifts 83 = .ok (.iadd, 1) := by decide +kernel
theorem dX1_findShifts_84 : decode cX1_findShifts 84 = .ok (.aload_n 0, 1) := by decide +kernel
theorem dX1_findShifts_85 : decode cX1_findShifts 85 = .ok (.getfield 9, 3) := by decide +kernel
theorem dX1_findShifts_88 : decode cX1_findShifts 88 = .ok (.iload_n 2, 1) := by decide +kernel
theorem dX1_findShifts_89 : decode cX1_findShifts 89 = .ok (.iaload, 1) := by decide +kernel
theorem dX1_findShifts_90 : decode cX1_findShifts 90 = .ok (.iload_n 3, 1) := by decide +kernel
theorem dX1_findShifts_91 : decode cX1_findShifts 91 = .ok (.bipush 116, 2) := by decide +kernel
theorem dX1_findShifts_93 : decode cX1_findShifts 93 = .ok (.if_icmp .ne 7, 3) := by decide +kernel
theorem dX1_findShifts_96 : decode cX1_findShifts 96 = .ok (.iconst 1, 1) := by decide +kernel
theorem dX1_findShifts_97 : decode cX1_findShifts 97 = .ok (.goto 4, 3) := by decide +kernel
theorem dX1_findShifts_100 : decode cX1_findShifts 100 = .ok (.iconst (-1), 1) := by decide +kernel
theorem dX1_findShifts_101 : decode cX1_findShifts 101 = .ok (.iadd, 1) := by decide +kernel
theorem dX1_findShifts_102 : decode cX1_findShifts 102 = .ok (.iastore, 1) := by decide +kernel
theorem dX1_findShifts_103 : decode cX1_findShifts 103 = .ok (.iinc 2 1, 3) := by decide +kernel
theorem dX1_findShifts_106 : decode cX1_findShifts 106 = .ok (.goto (-97), 3) := by decide +kernel
theorem dX1_findShifts_109 : decode cX1_findShifts 109 = .ok (.return_, 1) := by decide +kernel
theorem dX2_init_0 : decode cX2_init 0 = .ok (.aload_n 0, 1) := by decide +kernel
theorem dX2_init_1 : decode cX2_init 1 = .ok (.invokespecial 3, 3) := by decide +kernel
theorem dX2_init_4 : decode cX2_init 4 = .ok (.aload_n 0, 1) := by decide +kernel
theorem dX2_init_5 : decode cX2_init 5 = .ok (.iconst 2, 1) := by decide +kernel
theorem dX2_init_6 : decode cX2_init 6 = .ok (.putfield 9, 3) := by decide +kernel
theorem dX2_init_9 : decode cX2_init 9 = .ok (.aload_n 0, 1) := by decide +kernel
theorem dX2_init_10 : decode cX2_init 10 = .ok (.bipush 8, 2) := by decide +kernel
theorem dX2_init_12 : decode cX2_init 12 = .ok (.anewarray 15, 3) := by decide +kernel
theorem dX2_init_15 : decode cX2_init 15 = .ok (.putfield 17, 3) := by decide +kernel
theorem dX2_init_18 : decode cX2_init 18 = .ok (.return_, 1) := by decide +kernel
theorem dX2_copyFrom_0 : decode cX2_copyFrom 0 = .ok (.aload_n 0, 1) := by decide +kernel
theorem dX2_copyFrom_1 : decode cX2_copyFrom 1 = .ok (.aload_n 1, 1) := by decide +kernel
theorem dX2_copyFrom_2 : decode cX2_copyFrom 2 = .ok (.getfield 9, 3) := by decide +kernel
theorem dX2_copyFrom_5 : decode cX2_copyFrom 5 = .ok (.putfield 9, 3) := by decide +kernel
theorem dX2_copyFrom_8 : decode cX2_copyFrom 8 = .ok (.iconst 0, 1) := by decide +kernel
theorem dX2_copyFrom_9 : decode cX2_copyFrom 9 = .ok (.istore_n 2, 1) := by decide +kernel
theorem dX2_copyFrom_10 : decode cX2_copyFrom 10 = .ok (.iload_n 2, 1) := by decide +kernel
theorem dX2_copyFrom_11 : decode cX2_copyFrom 11 = .ok (.bipush 8, 2) := by decide +kernel
theorem dX2_copyFrom_13 : decode cX2_copyFrom 13 = .ok (.if_icmp .ge 21, 3) := by decide +kernel
theorem dX2_copyFrom_16 : decode cX2_copyFrom 16 = .ok (.aload_n 0, 1) := by decide +kernel
theorem dX2_copyFrom_17 : decode cX2_copyFrom 17 = .ok (.getfield 17, 3) := by decide +kernel
theorem dX2_copyFrom_20 : decode cX2_copyFrom 20 = .ok (.iload_n 2, 1) := by decide +kernel
theorem dX2_copyFrom_21 : decode cX2_copyFrom 21 = .ok (.aload_n 1, 1) := by decide +kernel
theorem dX2_copyFrom_22 : decode cX2_copyFrom 22 = .ok (.getfield 17, 3) := by decide +kernel
theorem dX2_copyFrom_25 : decode cX2_copyFrom 25 = .ok (.iload_n 2, 1) := by decide +kernel
theorem dX2_copyFrom_26 : decode cX2_copyFrom 26 = .ok (.aaload, 1) := by decide +kernel
theorem dX2_copyFrom_27 : decode cX2_copyFrom 27 = .ok (.aastore, 1) := by decide +kernel
theorem dX2_copyFrom_28 : decode cX2_copyFrom 28 = .ok (.iinc 2 1, 3) := by decide +kernel
theorem dX2_copyFrom_31 : decode cX2_copyFrom 31 = .ok (.goto (-21), 3) := by decide +kernel
theorem dX2_copyFrom_34 : decode cX2_copyFrom 34 = .ok (.return_, 1) := by decide +kernel
theorem dX2_count_0 : decode cX2_count 0 = .ok (.iconst 0, 1) := by decide +kernel
theorem dX2_count_1 : decode cX2_count 1 = .ok (.istore_n 1, 1) := by decide +kernel
theorem dX2_count_2 : decode cX2_count 2 = .ok (.iconst 0, 1) := by decide +kernel
theorem dX2_count_3 : decode cX2_count 3 = .ok (.istore_n 2, 1) := by decide +kernel
theorem dX2_count_4 : decode cX2_count 4 = .ok (.iload_n 2, 1) := by decide +kernel
theorem dX2_count_5 : decode cX2_count 5 = .ok (.bipush 8, 2) := by decide +kernel
theorem dX2_count_7 : decode cX2_count 7 = .ok (.if_icmp .ge 21, 3) := by decide +kernel
theorem dX2_count_10 : decode cX2_count 10 = .ok (.aload_n 0, 1) := by decide +kernel
theorem dX2_count_11 : decode cX2_count 11 = .ok (.getfield 17, 3) := by decide +kernel
theorem dX2_count_14 : decode cX2_count 14 = .ok (.iload_n 2, 1) := by decide +kernel
theorem dX2_count_15 : decode cX2_count 15 = .ok (.aaload, 1) := by decide +kernel
theorem dX2_count_16 : decode cX2_count 16 = .ok (.ifnull 6, 3) := by decide +kernel
theorem dX2_count_19 : decode cX2_count 19 = .ok (.iinc 1 1, 3) := by decide +kernel
theorem dX2_count_22 : decode cX2_count 22 = .ok (.iinc 2 1, 3) := by decide +kernel
theorem dX2_count_25 : decode cX2_count 25 = .ok (.goto (-21), 3) := by decide +kernel
theorem dX2_count_28 : decode cX2_count 28 = .ok (.iload_n 1, 1) := by decide +kernel
theorem dX2_count_29 : decode cX2_count 29 = .ok (.ireturn, 1) := by decide +kernel
theorem dX2_totalSize_0 : decode cX2_totalSize 0 = .ok (.iconst 0, 1) := by decide +kernel
theorem dX2_totalSize_1 : decode cX2_totalSize 1 = .ok (.istore_n 1, 1) := by decide +kernel
theorem dX2_totalSize_2 : decode cX2_totalSize 2 = .ok (.iconst 0, 1) := by decide +kernel
theorem dX2_totalSize_3 : decode cX2_totalSize 3 = .ok (.istore_n 2, 1) := by decide +kernel
theorem dX2_totalSize_4 : decode cX2_totalSize 4 = .ok (.iload_n 2, 1) := by decide +kernel
theorem dX2_totalSize_5 : decode cX2_totalSize 5 = .ok (.bipush 8, 2) := by decide +kernel
theorem dX2_totalSize_7 : decode cX2_totalSize 7 = .ok (.if_icmp .ge 30, 3) := by decide +kernel
theorem dX2_totalSize_10 : decode cX2_totalSize 10 = .ok (.aload_n 0, 1) := by decide +kernel
theorem dX2_totalSize_11 : decode cX2_totalSize 11 = .ok (.getfield 17, 3) := by decide +kernel
theorem dX2_totalSize_14 : decode cX2_totalSize 14 = .ok (.iload_n 2, 1) := by decide +kernel
theorem dX2_totalSize_15 : decode cX2_totalSize 15 = .ok (.aaload, 1) := by decide +kernel
theorem dX2_totalSize_16 : decode cX2_totalSize 16 = .ok (.ifnull 15, 3) := by decide +kernel
theorem dX2_totalSize_19 : decode cX2_totalSize 19 = .ok (.iload_n 1, 1) := by decide +kernel
theorem dX2_totalSize_20 : decode cX2_totalSize 20 = .ok (.aload_n 0, 1) := by decide +kernel
theorem dX2_totalSize_21 : decode cX2_totalSize 21 = .ok (.getfield 17, 3) := by decide +kernel
theorem dX2_totalSize_24 : decode cX2_totalSize 24 = .ok (.iload_n 2, 1) := by decide +kernel
theorem dX2_totalSize_25 : decode cX2_totalSize 25 = .ok (.aaload, 1) := by decide +kernel
theorem dX2_totalSize_26 : decode cX2_totalSize 26 = .ok (.getfield 21, 3) := by decide +kernel
theorem dX2_totalSize_29 : decode cX2_totalSize 29 = .ok (.iadd, 1) := by decide +kernel
theorem dX2_totalSize_30 : decode cX2_totalSize 30 = .ok (.istore_n 1, 1) := by decide +kernel
theorem dX2_totalSize_31 : decode cX2_totalSize 31 = .ok (.iinc 2 1, 3) := by decide +kernel
theorem dX2_totalSize_34 : decode cX2_totalSize 34 = .ok (.goto (-30), 3) := by decide +kernel
theorem dX2_totalSize_37 : decode cX2_totalSize 37 = .ok (.iload_n 1, 1) := by decide +kernel
theorem dX2_totalSize_38 : decode cX2_totalSize 38 = .ok (.ireturn, 1) := by decide +kernel
theorem dX2_isPlain_0 : decode cX2_isPlain 0 = .ok (.iconst 0, 1) := by decide +kernel
theorem dX2_isPlain_1 : decode cX2_isPlain 1 = .ok (.istore_n 1, 1) := by decide +kernel
theorem dX2_isPlain_2 : decode cX2_isPlain 2 = .ok (.iload_n 1, 1) := by decide +kernel
theorem dX2_isPlain_3 : decode cX2_isPlain 3 = .ok (.bipush 8, 2) := by decide +kernel
theorem dX2_isPlain_5 : decode cX2_isPlain 5 = .ok (.if_icmp .ge 32, 3) := by decide +kernel
theorem dX2_isPlain_8 : decode cX2_isPlain 8 = .ok (.aload_n 0, 1) := by decide +kernel
theorem dX2_isPlain_9 : decode cX2_isPlain 9 = .ok (.getfield 17, 3) := by decide +kernel
theorem dX2_isPlain_12 : decode cX2_isPlain 12 = .ok (.iload_n 1, 1) := by decide +kernel
theorem dX2_isPlain_13 : decode cX2_isPlain 13 = .ok (.aaload, 1) := by decide +kernel
theorem dX2_isPlain_14 : decode cX2_isPlain 14 = .ok (.ifnull 17, 3) := by decide +kernel
theorem dX2_isPlain_17 : decode cX2_isPlain 17 = .ok (.aload_n 0, 1) := by decide +kernel
theorem dX2_isPlain_18 : decode cX2_isPlain 18 = .ok (.getfield 17, 3) := by decide +kernel
theorem dX2_isPlain_21 : decode cX2_isPlain 21 = .ok (.iload_n 1, 1) := by decide +kernel
theorem dX2_isPlain_22 : decode cX2_isPlain 22 = .ok (.aaload, 1) := by decide +kernel
theorem dX2_isPlain_23 : decode cX2_isPlain 23 = .ok (.invokevirtual 24, 3) := by decide +kernel
theorem dX2_isPlain_26 : decode cX2_isPlain 26 = .ok (.ifCond .ne 5, 3) := by decide +kernel
theorem dX2_isPlain_29 : decode cX2_isPlain 29 = .ok (.iconst 0, 1) := by decide +kernel
theorem dX2_isPlain_30 : decode cX2_isPlain 30 = .ok (.ireturn, 1) := by decide +kernel
theorem dX2_isPlain_31 : decode cX2_isPlain 31 = .ok (.iinc 1 1, 3) := by decide +kernel
theorem dX2_isPlain_34 : decode cX2_isPlain 34 = .ok (.goto (-32), 3) := by decide +kernel
theorem dX2_isPlain_37 : decode cX2_isPlain 37 = .ok (.iconst 1, 1) := by decide +kernel
theorem dX2_isPlain_38 : decode cX2_isPlain 38 = .ok (.ireturn, 1) := by decide +kernel
theorem dX3_init_0 : decode cX3_init 0 = .ok (.aload_n 0, 1) := by decide +kernel
theorem dX3_init_1 : decode cX3_init 1 = .ok (.invokespecial 1, 3) := by decide +kernel
theorem dX3_init_4 : decode cX3_init 4 = .ok (.aload_n 0, 1) := by decide +kernel
theorem dX3_init_5 : decode cX3_init 5 = .ok (.bipush 8, 2) := by decide +kernel
theorem dX3_init_7 : decode cX3_init 7 = .ok (.anewarray 9, 3) := by decide +kernel
theorem dX3_init_10 : decode cX3_init 10 = .ok (.putfield 11, 3) := by decide +kernel
theorem dX3_init_13 : decode cX3_init 13 = .ok (.return_, 1) := by decide +kernel
theorem dX3_record_0 : decode cX3_record 0 = .ok (.aload_n 0, 1) := by decide +kernel
theorem dX3_record_1 : decode cX3_record 1 = .ok (.getfield 15, 3) := by decide +kernel
theorem dX3_record_4 : decode cX3_record 4 = .ok (.aload_n 0, 1) := by decide +kernel
theorem dX3_record_5 : decode cX3_record 5 = .ok (.getfield 19, 3) := by decide +kernel
theorem dX3_record_8 : decode cX3_record 8 = .ok (.iadd, 1) := by decide +kernel
theorem dX3_record_9 : decode cX3_record 9 = .ok (.bipush 8, 2) := by decide +kernel
theorem dX3_record_11 : decode cX3_record 11 = .ok (.irem, 1) := by decide +kernel
theorem dX3_record_12 : decode cX3_record 12 = .ok (.istore_n 2, 1) := by decide +kernel
theorem dX3_record_13 : decode cX3_record 13 = .ok (.aload_n 0, 1) := by decide +kernel
theorem dX3_record_14 : decode cX3_record 14 = .ok (.getfield 11, 3) := by decide +kernel
theorem dX3_record_17 : decode cX3_record 17 = .ok (.iload_n 2, 1) := by decide +kernel
theorem dX3_record_18 : decode cX3_record 18 = .ok (.aaload, 1) := by decide +kernel
theorem dX3_record_19 : decode cX3_record 19 = .ok (.astore_n 3, 1) := by decide +kernel
theorem dX3_record_20 : decode cX3_record 20 = .ok (.aload_n 3, 1) := by decide +kernel
theorem dX3_record_21 : decode cX3_record 21 = .ok (.ifnonnull 18, 3) := by decide +kernel
theorem dX3_record_24 : decode cX3_record 24 = .ok (.new 9, 3) := by decide +kernel
theorem dX3_record_27 : decode cX3_record 27 = .ok (.dup, 1) := by decide +kernel
theorem dX3_record_28 : decode cX3_record 28 = .ok (.invokespecial 22, 3) := by decide +kernel
theorem dX3_record_31 : decode cX3_record 31 = .ok (.astore_n 3, 1) := by decide +kernel
theorem dX3_record_32 : decode cX3_record 32 = .ok (.aload_n 0, 1) := by decide +kernel
theorem dX3_record_33 : decode cX3_record 33 = .ok (.getfield 11, 3) := by decide +kernel
theorem dX3_record_36 : decode cX3_record 36 = .ok (.iload_n 2, 1) := by decide +kernel
theorem dX3_record_37 : decode cX3_record 37 = .ok (.aload_n 3, 1) := by decide +kernel
theorem dX3_record_38 : decode cX3_record 38 = .ok (.aastore, 1) := by decide +kernel
theorem dX3_record_39 : decode cX3_record 39 = .ok (.aload_n 3, 1) := by decide +kernel
theorem dX3_record_40 : decode cX3_record 40 = .ok (.aload_n 1, 1) := by decide +kernel
theorem dX3_record_41 : decode cX3_record 41 = .ok (.invokevirtual 23, 3) := by decide +kernel
theorem dX3_record_44 : decode cX3_record 44 = .ok (.aload_n 0, 1) := by decide +kernel
theorem dX3_record_45 : decode cX3_record 45 = .ok (.getfield 19, 3) := by decide +kernel
theorem dX3_record_48 : decode cX3_record 48 = .ok (.bipush 8, 2) := by decide +kernel
theorem dX3_record_50 : decode cX3_record 50 = .ok (.if_icmp .ge 16, 3) := by decide +kernel
theorem dX3_record_53 : decode cX3_record 53 = .ok (.aload_n 0, 1) := by decide +kernel
theorem dX3_record_54 : decode cX3_record 54 = .ok (.dup, 1) := by decide +kernel
theorem dX3_record_55 : decode cX3_record 55 = .ok (.getfield 19, 3) := by decide +kernel
theorem dX3_record_58 : decode cX3_record 58 = .ok (.iconst 1, 1) := by decide +kernel
theorem dX3_record_59 : decode cX3_record 59 = .ok (.iadd, 1) := by decide +kernel
theorem dX3_record_60 : decode cX3_record 60 = .ok (.putfield 19, 3) := by decide +kernel
theorem dX3_record_63 : decode cX3_record 63 = .ok (.goto 16, 3) := by decide +kernel
theorem dX3_record_66 : decode cX3_record 66 = .ok (.aload_n 0, 1) := by decide +kernel
theorem dX3_record_67 : decode cX3_record 67 = .ok (.aload_n 0, 1) := by decide +kernel
theorem dX3_record_68 : decode cX3_record 68 = .ok (.getfield 15, 3) := by decide +kernel
theorem dX3_record_71 : decode cX3_record 71 = .ok (.iconst 1, 1) := by decide +kernel
theorem dX3_record_72 : decode cX3_record 72 = .ok (.iadd, 1) := by decide +kernel
theorem dX3_record_73 : decode cX3_record 73 = .ok (.bipush 8, 2) := by decide +kernel
theorem dX3_record_75 : decode cX3_record 75 = .ok (.irem, 1) := by decide +kernel
theorem dX3_record_76 : decode cX3_record 76 = .ok (.putfield 15, 3) := by decide +kernel
theorem dX3_record_79 : decode cX3_record 79 = .ok (.return_, 1) := by decide +kernel
theorem dX3_restore_0 : decode cX3_restore 0 = .ok (.aload_n 0, 1) := by decide +kernel
theorem dX3_restore_1 : decode cX3_restore 1 = .ok (.getfield 19, 3) := by decide +kernel
theorem dX3_restore_4 : decode cX3_restore 4 = .ok (.ifCond .ne 4, 3) := by decide +kernel
theorem dX3_restore_7 : decode cX3_restore 7 = .ok (.return_, 1) := by decide +kernel
theorem dX3_restore_8 : decode cX3_restore 8 = .ok (.aload_n 0, 1) := by decide +kernel
theorem dX3_restore_9 : decode cX3_restore 9 = .ok (.dup, 1) := by decide +kernel
theorem dX3_restore_10 : decode cX3_restore 10 = .ok (.getfield 19, 3) := by decide +kernel
theorem dX3_restore_13 : decode cX3_restore 13 = .ok (.iconst 1, 1) := by decide +kernel
theorem dX3_restore_14 : decode cX3_restore 14 = .ok (.isub, 1) := by decide +kernel
theorem dX3_restore_15 : decode cX3_restore 15 = .ok (.putfield 19, 3) := by decide +kernel
theorem dX3_restore_18 : decode cX3_restore 18 = .ok (.aload_n 0, 1) := by decide +kernel
theorem dX3_restore_19 : decode cX3_restore 19 = .ok (.getfield 11, 3) := by decide +kernel
theorem dX3_restore_22 : decode cX3_restore 22 = .ok (.aload_n 0, 1) := by decide +kernel
theorem dX3_restore_23 : decode cX3_restore 23 = .ok (.getfield 15, 3) := by decide +kernel
theorem dX3_restore_26 : decode cX3_restore 26 = .ok (.aload_n 0, 1) := by decide +kernel
theorem dX3_restore_27 : decode cX3_restore 27 = .ok (.getfield 19, 3) := by decide +kernel
theorem dX3_restore_30 : decode cX3_restore 30 = .ok (.iadd, 1) := by decide +kernel
theorem dX3_restore_31 : decode cX3_restore 31 = .ok (.bipush 8, 2) := by decide +kernel
theorem dX3_restore_33 : decode cX3_restore 33 = .ok (.irem, 1) := by decide +kernel
theorem dX3_restore_34 : decode cX3_restore 34 = .ok (.aaload, 1) := by decide +kernel
theorem dX3_restore_35 : decode cX3_restore 35 = .ok (.astore_n 2, 1) := by decide +kernel
theorem dX3_restore_36 : decode cX3_restore 36 = .ok (.aload_n 2, 1) := by decide +kernel
theorem dX3_restore_37 : decode cX3_restore 37 = .ok (.ifnull 8, 3) := by decide +kernel
theorem dX3_restore_40 : decode cX3_restore 40 = .ok (.aload_n 1, 1) := by decide +kernel
theorem dX3_restore_41 : decode cX3_restore 41 = .ok (.aload_n 2, 1) := by decide +kernel
theorem dX3_restore_42 : decode cX3_restore 42 = .ok (.invokevirtual 23, 3) := by decide +kernel
theorem dX3_restore_45 : decode cX3_restore 45 = .ok (.return_, 1) := by decide +kernel
theorem dX4_init_0 : decode cX4_init 0 = .ok (.aload_n 0, 1) := by decide +kernel
theorem dX4_init_1 : decode cX4_init 1 = .ok (.invokespecial 3, 3) := by decide +kernel
theorem dX4_init_4 : decode cX4_init 4 = .ok (.aload_n 0, 1) := by decide +kernel
theorem dX4_init_5 : decode cX4_init 5 = .ok (.bipush 120, 2) := by decide +kernel
theorem dX4_init_7 : decode cX4_init 7 = .ok (.newarray .int, 2) := by decide +kernel
theorem dX4_init_9 : decode cX4_init 9 = .ok (.putfield 9, 3) := by decide +kernel
theorem dX4_init_12 : decode cX4_init 12 = .ok (.aload_n 0, 1) := by decide +kernel
theorem dX4_init_13 : decode cX4_init 13 = .ok (.bipush 120, 2) := by decide +kernel
theorem dX4_init_15 : decode cX4_init 15 = .ok (.newarray .int, 2) := by decide +kernel
theorem dX4_init_17 : decode cX4_init 17 = .ok (.putfield 15, 3) := by decide +kernel
theorem dX4_init_20 : decode cX4_init 20 = .ok (.aload_n 0, 1) := by decide +kernel
theorem dX4_init_21 : decode cX4_init 21 = .ok (.bipush 120, 2) := by decide +kernel
theorem dX4_init_23 : decode cX4_init 23 = .ok (.newarray .int, 2) := by decide +kernel
theorem dX4_init_25 : decode cX4_init 25 = .ok (.putfield 18, 3) := by decide +kernel
theorem dX4_init_28 : decode cX4_init 28 = .ok (.return_, 1) := by decide +kernel
theorem dX4_load_0 : decode cX4_load 0 = .ok (.aload_n 0, 1) := by decide +kernel
theorem dX4_load_1 : decode cX4_load 1 = .ok (.aload_n 1, 1) := by decide +kernel
theorem dX4_load_2 : decode cX4_load 2 = .ok (.getfield 21, 3) := by decide +kernel
theorem dX4_load_5 : decode cX4_load 5 = .ok (.bipush 120, 2) := by decide +kernel
theorem dX4_load_7 : decode cX4_load 7 = .ok (.invokestatic 27, 3) := by decide +kernel
theorem dX4_load_10 : decode cX4_load 10 = .ok (.putfield 33, 3) := by decide +kernel
theorem dX4_load_13 : decode cX4_load 13 = .ok (.aload_n 1, 1) := by decide +kernel
theorem dX4_load_14 : decode cX4_load 14 = .ok (.getfield 34, 3) := by decide +kernel
theorem dX4_load_17 : decode cX4_load 17 = .ok (.iconst 0, 1) := by decide +kernel
theorem dX4_load_18 : decode cX4_load 18 = .ok (.aload_n 0, 1) := by decide +kernel
theorem dX4_load_19 : decode cX4_load 19 = .ok (.getfield 9, 3) := by decide +kernel
theorem dX4_load_22 : decode cX4_load 22 = .ok (.iconst 0, 1) := by decide +kernel
theorem dX4_load_23 : decode cX4_load 23 = .ok (.aload_n 0, 1) := by decide +kernel
theorem dX4_load_24 : decode cX4_load 24 = .ok (.getfield 33, 3) := by decide +kernel
theorem dX4_load_27 : decode cX4_load 27 = .ok (.invokestatic 35, 3) := by decide +kernel
theorem dX4_load_30 : decode cX4_load 30 = .ok (.return_, 1) := by decide +kernel
theorem dX4_result_0 : decode cX4_result 0 = .ok (.new 22, 3) := by decide +kernel
theorem dX4_result_3 : decode cX4_result 3 = .ok (.dup, 1) := by decide +kernel
theorem dX4_result_4 : decode cX4_result 4 = .ok (.aload_n 0, 1) := by decide +kernel
theorem dX4_result_5 : decode cX4_result 5 = .ok (.getfield 9, 3) := by decide +kernel
theorem dX4_result_8 : decode cX4_result 8 = .ok (.aload_n 0, 1) := by decide +kernel
theorem dX4_result_9 : decode cX4_result 9 = .ok (.getfield 33, 3) := by decide +kernel
theorem dX4_result_12 : decode cX4_result 12 = .ok (.invokespecial 41, 3) := by decide +kernel
theorem dX4_result_15 : decode cX4_result 15 = .ok (.areturn, 1) := by decide +kernel
theorem dX4_applyAll_0 : decode cX4_applyAll 0 = .ok (.iconst 0, 1) := by decide +kernel
theorem dX4_applyAll_1 : decode cX4_applyAll 1 = .ok (.istore_n 1, 1) := by decide +kernel
theorem dX4_applyAll_2 : decode cX4_applyAll 2 = .ok (.iload_n 1, 1) := by decide +kernel
theorem dX4_applyAll_3 : decode cX4_applyAll 3 = .ok (.ldc 44, 2) := by decide +kernel
theorem dX4_applyAll_5 : decode cX4_applyAll 5 = .ok (.if_icmp .ge 46, 3) := by decide +kernel
theorem dX4_applyAll_8 : decode cX4_applyAll 8 = .ok (.aload_n 0, 1) := by decide +kernel
theorem dX4_applyAll_9 : decode cX4_applyAll 9 = .ok (.getfield 9, 3) := by decide +kernel
theorem dX4_applyAll_12 : decode cX4_applyAll 12 = .ok (.aload_n 0, 1) := by decide +kernel
theorem dX4_applyAll_13 : decode cX4_applyAll 13 = .ok (.getfield 33, 3) := by decide +kernel
theorem dX4_applyAll_16 : decode cX4_applyAll 16 = .ok (.aload_n 0, 1) := by decide +kernel
theorem dX4_applyAll_17 : decode cX4_applyAll 17 = .ok (.getfield 15, 3) := by decide +kernel
theorem dX4_applyAll_20 : decode cX4_applyAll 20 = .ok (.invokestatic 45, 3) := by decide +kernel
theorem dX4_applyAll_23 : decode cX4_applyAll 23 = .ok (.aload_n 0, 1) := by decide +kernel
theorem dX4_applyAll_24 : decode cX4_applyAll 24 = .ok (.invokevirtual 51, 3) := by decide +kernel
theorem dX4_applyAll_27 : decode cX4_applyAll 27 = .ok (.istore_n 2, 1) := by decide +kernel
theorem dX4_applyAll_28 : decode cX4_applyAll 28 = .ok (.iload_n 2, 1) := by decide +kernel
theorem dX4_applyAll_29 : decode cX4_applyAll 29 = .ok (.ifCond .ge 5, 3) := by decide +kernel
theorem dX4_applyAll_32 : decode cX4_applyAll 32 = .ok (.iload_n 1, 1) := by decide +kernel
theorem dX4_applyAll_33 : decode cX4_applyAll 33 = .ok (.ireturn, 1) := by decide +kernel
theorem dX4_applyAll_34 : decode cX4_applyAll 34 = .ok (.aload_n 0, 1) := by decide +kernel
theorem dX4_applyAll_35 : decode cX4_applyAll 35 = .ok (.iload_n 2, 1) := by decide +kernel
theorem dX4_applyAll_36 : decode cX4_applyAll 36 = .ok (.invokevirtual 55, 3) := by decide +kernel
theorem dX4_applyAll_39 : decode cX4_applyAll 39 = .ok (.ifCond .ne 6, 3) := by decide +kernel
theorem dX4_applyAll_42 : decode cX4_applyAll 42 = .ok (.bipush (-3), 2) := by decide +kernel
theorem dX4_applyAll_44 : decode cX4_applyAll 44 = .ok (.ireturn, 1) := by decide +kernel
theorem dX4_applyAll_45 : decode cX4_applyAll 45 = .ok (.iinc 1 1, 3) := by decide +kernel
theorem dX4_applyAll_48 : decode cX4_applyAll 48 = .ok (.goto (-46), 3) := by decide +kernel
theorem dX4_applyAll_51 : decode cX4_applyAll 51 = .ok (.ldc 44, 2) := by decide +kernel
theorem dX4_applyAll_53 : decode cX4_applyAll 53 = .ok (.ireturn, 1) := by decide +kernel
theorem dX4_firstMatch_0 : decode cX4_firstMatch 0 = .ok (.iconst 0, 1) := by decide +kernel
theorem dX4_firstMatch_1 : decode cX4_firstMatch 1 = .ok (.istore_n 1, 1) := by decide +kernel
theorem dX4_firstMatch_2 : decode cX4_firstMatch 2 = .ok (.iload_n 1, 1) := by decide +kernel
theorem dX4_firstMatch_3 : decode cX4_firstMatch 3 = .ok (.aload_n 0, 1) := by decide +kernel
theorem dX4_firstMatch_4 : decode cX4_firstMatch 4 = .ok (.getfield 33, 3) := by decide +kernel
theorem dX4_firstMatch_7 : decode cX4_firstMatch 7 = .ok (.if_icmp .ge 19, 3) := by decide +kernel
theorem dX4_firstMatch_10 : decode cX4_firstMatch 10 = .ok (.aload_n 0, 1) := by decide +kernel
theorem dX4_firstMatch_11 : decode cX4_firstMatch 11 = .ok (.iload_n 1, 1) := by decide +kernel
theorem dX4_firstMatch_12 : decode cX4_firstMatch 12 = .ok (.invokevirtual 59, 3) := by decide +kernel
theorem dX4_firstMatch_15 : decode cX4_firstMatch 15 = .ok (.ifCond .eq 5, 3) := by decide +kernel
theorem dX4_firstMatch_18 : decode cX4_firstMatch 18 = .ok (.iload_n 1, 1) := by decide +kernel
theorem dX4_firstMatch_19 : decode cX4_firstMatch 19 = .ok (.ireturn, 1) := by decide +kernel
theorem dX4_firstMatch_20 : decode cX4_firstMatch 20 = .ok (.iinc 1 1, 3) := by decide +kernel
theorem dX4_firstMatch_23 : decode cX4_firstMatch 23 = .ok (.goto (-21), 3) := by decide +kernel
theorem dX4_firstMatch_26 : decode cX4_firstMatch 26 = .ok (.iconst (-1), 1) := by decide +kernel
theorem dX4_firstMatch_27 : decode cX4_firstMatch 27 = .ok (.ireturn, 1) := by decide +kernel
theorem dX4_matches_0 : decode cX4_matches 0 = .ok (.aload_n 0, 1) := by decide +kernel
theorem dX4_matches_1 : decode cX4_matches 1 = .ok (.getfield 9, 3) := by decide +kernel
theorem dX4_matches_4 : decode cX4_matches 4 = .ok (.iload_n 1, 1) := by decide +kernel
theorem dX4_matches_5 : decode cX4_matches 5 = .ok (.iaload, 1) := by decide +kernel
theorem dX4_matches_6 : decode cX4_matches 6 = .ok (.istore_n 2, 1) := by decide +kernel
theorem dX4_matches_7 : decode cX4_matches 7 = .ok (.iload_n 2, 1) := by decide +kernel
theorem dX4_matches_8 : decode cX4_matches 8 = .ok (.bipush 116, 2) := by decide +kernel
theorem dX4_matches_10 : decode cX4_matches 10 = .ok (.if_icmp .ne 36, 3) := by decide +kernel
theorem dX4_matches_13 : decode cX4_matches 13 = .ok (.aload_n 0, 1) := by decide +kernel
theorem dX4_matches_14 : decode cX4_matches 14 = .ok (.getfield 9, 3) := by decide +kernel
theorem dX4_matches_17 : decode cX4_matches 17 = .ok (.iload_n 1, 1) := by decide +kernel
theorem dX4_matches_18 : decode cX4_matches 18 = .ok (.iconst 1, 1) := by decide +kernel
theorem dX4_matches_19 : decode cX4_matches 19 = .ok (.iadd, 1) := by decide +kernel
theorem dX4_matches_20 : decode cX4_matches 20 = .ok (.iaload, 1) := by decide +kernel
theorem dX4_matches_21 : decode cX4_matches 21 = .ok (.bipush 116, 2) := by decide +kernel
theorem dX4_matches_23 : decode cX4_matches 23 = .ok (.if_icmp .eq 21, 3) := by decide +kernel
theorem dX4_matches_26 : decode cX4_matches 26 = .ok (.aload_n 0, 1) := by decide +kernel
theorem dX4_matches_27 : decode cX4_matches 27 = .ok (.getfield 9, 3) := by decide +kernel
theorem dX4_matches_30 : decode cX4_matches 30 = .ok (.iload_n 1, 1) := by decide +kernel
theorem dX4_matches_31 : decode cX4_matches 31 = .ok (.iconst 1, 1) := by decide +kernel
theorem dX4_matches_32 : decode cX4_matches 32 = .ok (.iadd, 1) := by decide +kernel
theorem dX4_matches_33 : decode cX4_matches 33 = .ok (.iaload, 1) := by decide +kernel
theorem dX4_matches_34 : decode cX4_matches 34 = .ok (.invokestatic 62, 3) := by decide +kernel
theorem dX4_matches_37 : decode cX4_matches 37 = .ok (.ifCond .ne 7, 3) := by decide +kernel
theorem dX4_matches_40 : decode cX4_matches 40 = .ok (.iconst 1, 1) := by decide +kernel
theorem dX4_matches_41 : decode cX4_matches 41 = .ok (.goto 4, 3) := by decide +kernel
theorem dX4_matches_44 : decode cX4_matches 44 = .ok (.iconst 0, 1) := by decide +kernel
theorem dX4_matches_45 : decode cX4_matches 45 = .ok (.ireturn, 1) := by decide +kernel
theorem dX4_matches_46 : decode cX4_matches 46 = .ok (.iload_n 2, 1) := by decide +kernel
theorem dX4_matches_47 : decode cX4_matches 47 = .ok (.bipush 101, 2) := by decide +kernel
theorem dX4_matches_49 : decode cX4_matches 49 = .ok (.if_icmp .eq 9, 3) := by decide +kernel
theorem dX4_matches_52 : decode cX4_matches 52 = .ok (.iload_n 2, 1) := by decide +kernel
theorem dX4_matches_53 : decode cX4_matches 53 = .ok (.bipush 111, 2) := by decide +kernel
theorem dX4_matches_55 : decode cX4_matches 55 = .ok (.if_icmp .ne 36, 3) := by decide +kernel
theorem dX4_matches_58 : decode cX4_matches 58 = .ok (.aload_n 0, 1) := by decide +kernel
theorem dX4_matches_59 : decode cX4_matches 59 = .ok (.getfield 9, 3) := by decide +kernel
theorem dX4_matches_62 : decode cX4_matches 62 = .ok (.iload_n 1, 1) := by decide +kernel
theorem dX4_matches_63 : decode cX4_matches 63 = .ok (.iconst 1, 1) := by decide +kernel
theorem dX4_matches_64 : decode cX4_matches 64 = .ok (.iadd, 1) := by decide +kernel
theorem dX4_matches_65 : decode cX4_matches 65 = .ok (.iaload, 1) := by decide +kernel
theorem dX4_matches_66 : decode cX4_matches 66 = .ok (.bipush 122, 2) := by decide +kernel
theorem dX4_matches_68 : decode cX4_matches 68 = .ok (.if_icmp .eq 17, 3) := by decide +kernel
theorem dX4_matches_71 : decode cX4_matches 71 = .ok (.aload_n 0, 1) := by decide +kernel
theorem dX4_matches_72 : decode cX4_matches 72 = .ok (.getfield 9, 3) := by decide +kernel
theorem dX4_matches_75 : decode cX4_matches 75 = .ok (.iload_n 1, 1) := by decide +kernel
theorem dX4_matches_76 : decode cX4_matches 76 = .ok (.iconst 1, 1) := by decide +kernel
theorem dX4_matches_77 : decode cX4_matches 77 = .ok (.iadd, 1) := by decide +kernel
theorem dX4_matches_78 : decode cX4_matches 78 = .ok (.iaload, 1) := by decide +kernel
theorem dX4_matches_79 : decode cX4_matches 79 = .ok (.invokestatic 65, 3) := by decide +kernel
theorem dX4_matches_82 : decode cX4_matches 82 = .ok (.ifCond .eq 7, 3) := by decide +kernel
theorem dX4_matches_85 : decode cX4_matches 85 = .ok (.iconst 1, 1) := by decide +kernel
theorem dX4_matches_86 : decode cX4_matches 86 = .ok (.goto 4, 3) := by decide +kernel
theorem dX4_matches_89 : decode cX4_matches 89 = .ok (.iconst 0, 1) := by decide +kernel
theorem dX4_matches_90 : decode cX4_matches 90 = .ok (.ireturn, 1) := by decide +kernel
theorem dX4_matches_91 : decode cX4_matches 91 = .ok (.iload_n 2, 1) := by decide +kernel
theorem dX4_matches_92 : decode cX4_matches 92 = .ok (.bipush 122, 2) := by decide +kernel
theorem dX4_matches_94 : decode cX4_matches 94 = .ok (.if_icmp .ne 15, 3) := by decide +kernel
theorem dX4_matches_97 : decode cX4_matches 97 = .ok (.aload_n 0, 1) := by decide +kernel
theorem dX4_matches_98 : decode cX4_matches 98 = .ok (.iload_n 1, 1) := by decide +kernel
theorem dX4_matches_99 : decode cX4_matches 99 = .ok (.invokevirtual 68, 3) := by decide +kernel
theorem dX4_matches_102 : decode cX4_matches 102 = .ok (.ifCond .eq 7, 3) := by decide +kernel
theorem dX4_matches_105 : decode cX4_matches 105 = .ok (.iconst 1, 1) := by decide +kernel
theorem dX4_matches_106 : decode cX4_matches 106 = .ok (.goto 4, 3) := by decide +kernel
theorem dX4_matches_109 : decode cX4_matches 109 = .ok (.iconst 0, 1) := by decide +kernel
theorem dX4_matches_110 : decode cX4_matches 110 = .ok (.ireturn, 1) := by decide +kernel
theorem dX4_isSplitTwin_0 : decode cX4_isSplitTwin 0 = .ok (.aload_n 0, 1) := by decide +kernel
theorem dX4_isSplitTwin_1 : decode cX4_isSplitTwin 1 = .ok (.getfield 15, 3) := by decide +kernel
theorem dX4_isSplitTwin_4 : decode cX4_isSplitTwin 4 = .ok (.iload_n 1, 1) := by decide +kernel
theorem dX4_isSplitTwin_5 : decode cX4_isSplitTwin 5 = .ok (.iconst 1, 1) := by decide +kernel
theorem dX4_isSplitTwin_6 : decode cX4_isSplitTwin 6 = .ok (.iadd, 1) := by decide +kernel
theorem dX4_isSplitTwin_7 : decode cX4_isSplitTwin 7 = .ok (.iaload, 1) := by decide +kernel
theorem dX4_isSplitTwin_8 : decode cX4_isSplitTwin 8 = .ok (.istore_n 2, 1) := by decide +kernel
theorem dX4_isSplitTwin_9 : decode cX4_isSplitTwin 9 = .ok (.aload_n 0, 1) := by decide +kernel
theorem dX4_isSplitTwin_10 : decode cX4_isSplitTwin 10 = .ok (.getfield 9, 3) := by decide +kernel
theorem dX4_isSplitTwin_13 : decode cX4_isSplitTwin 13 = .ok (.iload_n 1, 1) := by decide +kernel
theorem dX4_isSplitTwin_14 : decode cX4_isSplitTwin 14 = .ok (.iconst 1, 1) := by decide +kernel
theorem dX4_isSplitTwin_15 : decode cX4_isSplitTwin 15 = .ok (.iadd, 1) := by decide +kernel
theorem dX4_isSplitTwin_16 : decode cX4_isSplitTwin 16 = .ok (.iaload, 1) := by decide +kernel
theorem dX4_isSplitTwin_17 : decode cX4_isSplitTwin 17 = .ok (.bipush 101, 2) := by decide +kernel
theorem dX4_isSplitTwin_19 : decode cX4_isSplitTwin 19 = .ok (.if_icmp .ne 31, 3) := by decide +kernel
theorem dX4_isSplitTwin_22 : decode cX4_isSplitTwin 22 = .ok (.aload_n 0, 1) := by decide +kernel
theorem dX4_isSplitTwin_23 : decode cX4_isSplitTwin 23 = .ok (.getfield 9, 3) := by decide +kernel
theorem dX4_isSplitTwin_26 : decode cX4_isSplitTwin 26 = .ok (.iload_n 2, 1) := by decide +kernel
theorem dX4_isSplitTwin_27 : decode cX4_isSplitTwin 27 = .ok (.iaload, 1) := by decide +kernel
theorem dX4_isSplitTwin_28 : decode cX4_isSplitTwin 28 = .ok (.bipush 111, 2) := by decide +kernel
theorem dX4_isSplitTwin_30 : decode cX4_isSplitTwin 30 = .ok (.if_icmp .ne 20, 3) := by decide +kernel
theorem dX4_isSplitTwin_33 : decode cX4_isSplitTwin 33 = .ok (.aload_n 0, 1) := by decide +kernel
theorem dX4_isSplitTwin_34 : decode cX4_isSplitTwin 34 = .ok (.iload_n 1, 1) := by decide +kernel
theorem dX4_isSplitTwin_35 : decode cX4_isSplitTwin 35 = .ok (.iconst 2, 1) := by decide +kernel
theorem dX4_isSplitTwin_36 : decode cX4_isSplitTwin 36 = .ok (.iadd, 1) := by decide +kernel
theorem dX4_isSplitTwin_37 : decode cX4_isSplitTwin 37 = .ok (.iload_n 2, 1) := by decide +kernel
theorem dX4_isSplitTwin_38 : decode cX4_isSplitTwin 38 = .ok (.iconst 1, 1) := by decide +kernel
theorem dX4_isSplitTwin_39 : decode cX4_isSplitTwin 39 = .ok (.iadd, 1) := by decide +kernel
theorem dX4_isSplitTwin_40 : decode cX4_isSplitTwin 40 = .ok (.invokevirtual 71, 3) := by decide +kernel
theorem dX4_isSplitTwin_43 : decode cX4_isSplitTwin 43 = .ok (.ifCond .eq 7, 3) := by decide +kernel
theorem dX4_isSplitTwin_46 : decode cX4_isSplitTwin 46 = .ok (.iconst 1, 1) := by decide +kernel
theorem dX4_isSplitTwin_47 : decode cX4_isSplitTwin 47 = .ok (.goto 4, 3) := by decide +kernel
theorem dX4_isSplitTwin_50 : decode cX4_isSplitTwin 50 = .ok (.iconst 0, 1) := by decide +kernel
theorem dX4_isSplitTwin_51 : decode cX4_isSplitTwin 51 = .ok (.ireturn, 1) := by decide +kernel
theorem dX4_areWrittenAlike_0 : decode cX4_areWrittenAlike 0 = .ok (.aload_n 0, 1) := by decide +kernel
theorem dX4_areWrittenAlike_1 : decode cX4_areWrittenAlike 1 = .ok (.getfield 15, 3) := by decide +kernel
theorem dX4_areWrittenAlike_4 : decode cX4_areWrittenAlike 4 = .ok (.iload_n 1, 1) := by decide +kernel
theorem dX4_areWrittenAlike_5 : decode cX4_areWrittenAlike 5 = .ok (.iaload, 1) := by decide +kernel
theorem dX4_areWrittenAlike_6 : decode cX4_areWrittenAlike 6 = .ok (.iload_n 1, 1) := by decide +kernel
theorem dX4_areWrittenAlike_7 : decode cX4_areWrittenAlike 7 = .ok (.isub, 1) := by decide +kernel
theorem dX4_areWrittenAlike_8 : decode cX4_areWrittenAlike 8 = .ok (.istore_n 3, 1) := by decide +kernel
theorem dX4_areWrittenAlike_9 : decode cX4_areWrittenAlike 9 = .ok (.aload_n 0, 1) := by decide +kernel
theorem dX4_areWrittenAlike_10 : decode cX4_areWrittenAlike 10 = .ok (.getfield 15, 3) := by decide +kernel
theorem dX4_areWrittenAlike_13 : decode cX4_areWrittenAlike 13 = .ok (.iload_n 2, 1) := by decide +kernel
theorem dX4_areWrittenAlike_14 : decode cX4_areWrittenAlike 14 = .ok (.iaload, 1) := by decide +kernel
theorem dX4_areWrittenAlike_15 : decode cX4_areWrittenAlike 15 = .ok (.iload_n 2, 1) := by decide +kernel
theorem dX4_areWrittenAlike_16 : decode cX4_areWrittenAlike 16 = .ok (.isub, 1) := by decide +kernel
theorem dX4_areWrittenAlike_17 : decode cX4_areWrittenAlike 17 = .ok (.iload_n 3, 1) := by decide +kernel
theorem dX4_areWrittenAlike_18 : decode cX4_areWrittenAlike 18 = .ok (.if_icmp .eq 5, 3) := by decide +kernel
theorem dX4_areWrittenAlike_21 : decode cX4_areWrittenAlike 21 = .ok (.iconst 0, 1) := by decide +kernel
theorem dX4_areWrittenAlike_22 : decode cX4_areWrittenAlike 22 = .ok (.ireturn, 1) := by decide +kernel
theorem dX4_areWrittenAlike_23 : decode cX4_areWrittenAlike 23 = .ok (.iconst 0, 1) := by decide +kernel
theorem dX4_areWrittenAlike_24 : decode cX4_areWrittenAlike 24 = .ok (.istore 4, 2) := by decide +kernel
theorem dX4_areWrittenAlike_26 : decode cX4_areWrittenAlike 26 = .ok (.iload 4, 2) := by decide +kernel
theorem dX4_areWrittenAlike_28 : decode cX4_areWrittenAlike 28 = .ok (.iload_n 3, 1) := by decide +kernel
theorem dX4_areWrittenAlike_29 : decode cX4_areWrittenAlike 29 = .ok (.if_icmp .ge 32, 3) := by decide +kernel
theorem dX4_areWrittenAlike_32 : decode cX4_areWrittenAlike 32 = .ok (.aload_n 0, 1) := by decide +kernel
theorem dX4_areWrittenAlike_33 : decode cX4_areWrittenAlike 33 = .ok (.getfield 9, 3) := by decide +kernel
theorem dX4_areWrittenAlike_36 : decode cX4_areWrittenAlike 36 = .ok (.iload_n 1, 1) := by decide +kernel
theorem dX4_areWrittenAlike_37 : decode cX4_areWrittenAlike 37 = .ok (.iload 4, 2) := by decide +kernel
theorem dX4_areWrittenAlike_39 : decode cX4_areWrittenAlike 39 = .ok (.iadd, 1) := by decide +kernel
theorem dX4_areWrittenAlike_40 : decode cX4_areWrittenAlike 40 = .ok (.iaload, 1) := by decide +kernel
theorem dX4_areWrittenAlike_41 : decode cX4_areWrittenAlike 41 = .ok (.aload_n 0, 1) := by decide +kernel
theorem dX4_areWrittenAlike_42 : decode cX4_areWrittenAlike 42 = .ok (.getfield 9, 3) := by decide +kernel
theorem dX4_areWrittenAlike_45 : decode cX4_areWrittenAlike 45 = .ok (.iload_n 2, 1) := by decide +kernel
theorem dX4_areWrittenAlike_46 : decode cX4_areWrittenAlike 46 = .ok (.iload 4, 2) := by decide +kernel
theorem dX4_areWrittenAlike_48 : decode cX4_areWrittenAlike 48 = .ok (.iadd, 1) := by decide +kernel
theorem dX4_areWrittenAlike_49 : decode cX4_areWrittenAlike 49 = .ok (.iaload, 1) := by decide +kernel
theorem dX4_areWrittenAlike_50 : decode cX4_areWrittenAlike 50 = .ok (.if_icmp .eq 5, 3) := by decide +kernel
theorem dX4_areWrittenAlike_53 : decode cX4_areWrittenAlike 53 = .ok (.iconst 0, 1) := by decide +kernel
theorem dX4_areWrittenAlike_54 : decode cX4_areWrittenAlike 54 = .ok (.ireturn, 1) := by decide +kernel
theorem dX4_areWrittenAlike_55 : decode cX4_areWrittenAlike 55 = .ok (.iinc 4 1, 3) := by decide +kernel
theorem dX4_areWrittenAlike_58 : decode cX4_areWrittenAlike 58 = .ok (.goto (-32), 3) := by decide +kernel
theorem dX4_areWrittenAlike_61 : decode cX4_areWrittenAlike 61 = .ok (.iconst 1, 1) := by decide +kernel
theorem dX4_areWrittenAlike_62 : decode cX4_areWrittenAlike 62 = .ok (.ireturn, 1) := by decide +kernel
theorem dX4_apply_0 : decode cX4_apply 0 = .ok (.aload_n 0, 1) := by decide +kernel
theorem dX4_apply_1 : decode cX4_apply 1 = .ok (.getfield 9, 3) := by decide +kernel
theorem dX4_apply_4 : decode cX4_apply 4 = .ok (.iload_n 1, 1) := by decide +kernel
theorem dX4_apply_5 : decode cX4_apply 5 = .ok (.iaload, 1) := by decide +kernel
theorem dX4_apply_6 : decode cX4_apply 6 = .ok (.istore_n 2, 1) := by decide +kernel
theorem dX4_apply_7 : decode cX4_apply 7 = .ok (.iload_n 2, 1) := by decide +kernel
theorem dX4_apply_8 : decode cX4_apply 8 = .ok (.bipush 116, 2) := by decide +kernel
theorem dX4_apply_10 : decode cX4_apply 10 = .ok (.if_icmp .ne 9, 3) := by decide +kernel
theorem dX4_apply_13 : decode cX4_apply 13 = .ok (.aload_n 0, 1) := by decide +kernel
theorem dX4_apply_14 : decode cX4_apply 14 = .ok (.iload_n 1, 1) := by decide +kernel
theorem dX4_apply_15 : decode cX4_apply 15 = .ok (.invokevirtual 75, 3) := by decide +kernel
theorem dX4_apply_18 : decode cX4_apply 18 = .ok (.ireturn, 1) := by decide +kernel
theorem dX4_apply_19 : decode cX4_apply 19 = .ok (.iload_n 2, 1) := by decide +kernel
theorem dX4_apply_20 : decode cX4_apply 20 = .ok (.bipush 122, 2) := by decide +kernel
theorem dX4_apply_22 : decode cX4_apply 22 = .ok (.if_icmp .ne 19, 3) := by decide +kernel
theorem dX4_apply_25 : decode cX4_apply 25 = .ok (.aload_n 0, 1) := by decide +kernel
theorem dX4_apply_26 : decode cX4_apply 26 = .ok (.iload_n 1, 1) := by decide +kernel
theorem dX4_apply_27 : decode cX4_apply 27 = .ok (.aload_n 0, 1) := by decide +kernel
theorem dX4_apply_28 : decode cX4_apply 28 = .ok (.getfield 15, 3) := by decide +kernel
theorem dX4_apply_31 : decode cX4_apply 31 = .ok (.iload_n 1, 1) := by decide +kernel
theorem dX4_apply_32 : decode cX4_apply 32 = .ok (.iconst 1, 1) := by decide +kernel
theorem dX4_apply_33 : decode cX4_apply 33 = .ok (.iadd, 1) := by decide +kernel
theorem dX4_apply_34 : decode cX4_apply 34 = .ok (.iaload, 1) := by decide +kernel
theorem dX4_apply_35 : decode cX4_apply 35 = .ok (.invokevirtual 78, 3) := by decide +kernel
theorem dX4_apply_38 : decode cX4_apply 38 = .ok (.goto 63, 3) := by decide +kernel
theorem dX4_apply_41 : decode cX4_apply 41 = .ok (.aload_n 0, 1) := by decide +kernel
theorem dX4_apply_42 : decode cX4_apply 42 = .ok (.getfield 9, 3) := by decide +kernel
theorem dX4_apply_45 : decode cX4_apply 45 = .ok (.iload_n 1, 1) := by decide +kernel
theorem dX4_apply_46 : decode cX4_apply 46 = .ok (.iconst 1, 1) := by decide +kernel
theorem dX4_apply_47 : decode cX4_apply 47 = .ok (.iadd, 1) := by decide +kernel
theorem dX4_apply_48 : decode cX4_apply 48 = .ok (.iaload, 1) := by decide +kernel
theorem dX4_apply_49 : decode cX4_apply 49 = .ok (.invokestatic 65, 3) := by decide +kernel
theorem dX4_apply_52 : decode cX4_apply 52 = .ok (.ifCond .eq 14, 3) := by decide +kernel
theorem dX4_apply_55 : decode cX4_apply 55 = .ok (.aload_n 0, 1) := by decide +kernel
theorem dX4_apply_56 : decode cX4_apply 56 = .ok (.iload_n 1, 1) := by decide +kernel
theorem dX4_apply_57 : decode cX4_apply 57 = .ok (.iload_n 1, 1) := by decide +kernel
theorem dX4_apply_58 : decode cX4_apply 58 = .ok (.iconst 1, 1) := by decide +kernel
theorem dX4_apply_59 : decode cX4_apply 59 = .ok (.iadd, 1) := by decide +kernel
theorem dX4_apply_60 : decode cX4_apply 60 = .ok (.invokevirtual 82, 3) := by decide +kernel
theorem dX4_apply_63 : decode cX4_apply 63 = .ok (.goto 38, 3) := by decide +kernel
theorem dX4_apply_66 : decode cX4_apply 66 = .ok (.iload_n 2, 1) := by decide +kernel
theorem dX4_apply_67 : decode cX4_apply 67 = .ok (.bipush 101, 2) := by decide +kernel
theorem dX4_apply_69 : decode cX4_apply 69 = .ok (.if_icmp .ne 19, 3) := by decide +kernel
theorem dX4_apply_72 : decode cX4_apply 72 = .ok (.aload_n 0, 1) := by decide +kernel
theorem dX4_apply_73 : decode cX4_apply 73 = .ok (.iload_n 1, 1) := by decide +kernel
theorem dX4_apply_74 : decode cX4_apply 74 = .ok (.aload_n 0, 1) := by decide +kernel
theorem dX4_apply_75 : decode cX4_apply 75 = .ok (.getfield 15, 3) := by decide +kernel
theorem dX4_apply_78 : decode cX4_apply 78 = .ok (.iload_n 1, 1) := by decide +kernel
theorem dX4_apply_79 : decode cX4_apply 79 = .ok (.iconst 2, 1) := by decide +kernel
theorem dX4_apply_80 : decode cX4_apply 80 = .ok (.iadd, 1) := by decide +kernel
theorem dX4_apply_81 : decode cX4_apply 81 = .ok (.iaload, 1) := by decide +kernel
theorem dX4_apply_82 : decode cX4_apply 82 = .ok (.invokevirtual 78, 3) := by decide +kernel
theorem dX4_apply_85 : decode cX4_apply 85 = .ok (.goto 16, 3) := by decide +kernel
theorem dX4_apply_88 : decode cX4_apply 88 = .ok (.aload_n 0, 1) := by decide +kernel
theorem dX4_apply_89 : decode cX4_apply 89 = .ok (.iload_n 1, 1) := by decide +kernel
theorem dX4_apply_90 : decode cX4_apply 90 = .ok (.aload_n 0, 1) := by decide +kernel
theorem dX4_apply_91 : decode cX4_apply 91 = .ok (.getfield 15, 3) := by decide +kernel
theorem dX4_apply_94 : decode cX4_apply 94 = .ok (.iload_n 1, 1) := by decide +kernel
theorem dX4_apply_95 : decode cX4_apply 95 = .ok (.iconst 2, 1) := by decide +kernel
theorem dX4_apply_96 : decode cX4_apply 96 = .ok (.iadd, 1) := by decide +kernel
theorem dX4_apply_97 : decode cX4_apply 97 = .ok (.iaload, 1) := by decide +kernel
theorem dX4_apply_98 : decode cX4_apply 98 = .ok (.invokevirtual 82, 3) := by decide +kernel
theorem dX4_apply_101 : decode cX4_apply 101 = .ok (.iconst 1, 1) := by decide +kernel
theorem dX4_apply_102 : decode cX4_apply 102 = .ok (.ireturn, 1) := by decide +kernel
theorem dX4_keepFirst_0 : decode cX4_keepFirst 0 = .ok (.aload_n 0, 1) := by decide +kernel
theorem dX4_keepFirst_1 : decode cX4_keepFirst 1 = .ok (.iload_n 2, 1) := by decide +kernel
theorem dX4_keepFirst_2 : decode cX4_keepFirst 2 = .ok (.aload_n 0, 1) := by decide +kernel
theorem dX4_keepFirst_3 : decode cX4_keepFirst 3 = .ok (.getfield 15, 3) := by decide +kernel
theorem dX4_keepFirst_6 : decode cX4_keepFirst 6 = .ok (.iload_n 2, 1) := by decide +kernel
theorem dX4_keepFirst_7 : decode cX4_keepFirst 7 = .ok (.iaload, 1) := by decide +kernel
theorem dX4_keepFirst_8 : decode cX4_keepFirst 8 = .ok (.invokevirtual 82, 3) := by decide +kernel
theorem dX4_keepFirst_11 : decode cX4_keepFirst 11 = .ok (.aload_n 0, 1) := by decide +kernel
theorem dX4_keepFirst_12 : decode cX4_keepFirst 12 = .ok (.iload_n 1, 1) := by decide +kernel
theorem dX4_keepFirst_13 : decode cX4_keepFirst 13 = .ok (.iload_n 1, 1) := by decide +kernel
theorem dX4_keepFirst_14 : decode cX4_keepFirst 14 = .ok (.iconst 2, 1) := by decide +kernel
theorem dX4_keepFirst_15 : decode cX4_keepFirst 15 = .ok (.iadd, 1) := by decide +kernel
theorem dX4_keepFirst_16 : decode cX4_keepFirst 16 = .ok (.invokevirtual 82, 3) := by decide +kernel
theorem dX4_keepFirst_19 : decode cX4_keepFirst 19 = .ok (.return_, 1) := by decide +kernel
theorem dX4_pushTail_0 : decode cX4_pushTail 0 = .ok (.aload_n 0, 1) := by decide +kernel
theorem dX4_pushTail_1 : decode cX4_pushTail 1 = .ok (.getfield 9, 3) := by decide +kernel
theorem dX4_pushTail_4 : decode cX4_pushTail 4 = .ok (.iload_n 1, 1) := by decide +kernel
theorem dX4_pushTail_5 : decode cX4_pushTail 5 = .ok (.iconst 1, 1) := by decide +kernel
theorem dX4_pushTail_6 : decode cX4_pushTail 6 = .ok (.iadd, 1) := by decide +kernel
theorem dX4_pushTail_7 : decode cX4_pushTail 7 = .ok (.iaload, 1) := by decide +kernel
theorem dX4_pushTail_8 : decode cX4_pushTail 8 = .ok (.istore_n 2, 1) := by decide +kernel
theorem dX4_pushTail_9 : decode cX4_pushTail 9 = .ok (.iload_n 2, 1) := by decide +kernel
theorem dX4_pushTail_10 : decode cX4_pushTail 10 = .ok (.invokestatic 65, 3) := by decide +kernel
theorem dX4_pushTail_13 : decode cX4_pushTail 13 = .ok (.ifCond .eq 13, 3) := by decide +kernel
theorem dX4_pushTail_16 : decode cX4_pushTail 16 = .ok (.aload_n 0, 1) := by decide +kernel
theorem dX4_pushTail_17 : decode cX4_pushTail 17 = .ok (.iload_n 1, 1) := by decide +kernel
theorem dX4_pushTail_18 : decode cX4_pushTail 18 = .ok (.iload_n 1, 1) := by decide +kernel
theorem dX4_pushTail_19 : decode cX4_pushTail 19 = .ok (.iconst 1, 1) := by decide +kernel
theorem dX4_pushTail_20 : decode cX4_pushTail 20 = .ok (.iadd, 1) := by decide +kernel
theorem dX4_pushTail_21 : decode cX4_pushTail 21 = .ok (.invokevirtual 82, 3) := by decide +kernel
theorem dX4_pushTail_24 : decode cX4_pushTail 24 = .ok (.iconst 1, 1) := by decide +kernel
theorem dX4_pushTail_25 : decode cX4_pushTail 25 = .ok (.ireturn, 1) := by decide +kernel
theorem dX4_pushTail_26 : decode cX4_pushTail 26 = .ok (.iload_n 2, 1) := by decide +kernel
theorem dX4_pushTail_27 : decode cX4_pushTail 27 = .ok (.invokestatic 85, 3) := by decide +kernel
theorem dX4_pushTail_30 : decode cX4_pushTail 30 = .ok (.ifCond .eq 13, 3) := by decide +kernel
theorem dX4_pushTail_33 : decode cX4_pushTail 33 = .ok (.aload_n 0, 1) := by decide +kernel
theorem dX4_pushTail_34 : decode cX4_pushTail 34 = .ok (.iload_n 1, 1) := by decide +kernel
theorem dX4_pushTail_35 : decode cX4_pushTail 35 = .ok (.iload_n 1, 1) := by decide +kernel
theorem dX4_pushTail_36 : decode cX4_pushTail 36 = .ok (.iconst 2, 1) := by decide +kernel
theorem dX4_pushTail_37 : decode cX4_pushTail 37 = .ok (.iadd, 1) := by decide +kernel
theorem dX4_pushTail_38 : decode cX4_pushTail 38 = .ok (.invokevirtual 82, 3) := by decide +kernel
theorem dX4_pushTail_41 : decode cX4_pushTail 41 = .ok (.iconst 1, 1) := by decide +kernel
theorem dX4_pushTail_42 : decode cX4_pushTail 42 = .ok (.ireturn, 1) := by decide +kernel
theorem dX4_pushTail_43 : decode cX4_pushTail 43 = .ok (.iload_n 2, 1) := by decide +kernel
theorem dX4_pushTail_44 : decode cX4_pushTail 44 = .ok (.bipush 122, 2) := by decide +kernel
theorem dX4_pushTail_46 : decode cX4_pushTail 46 = .ok (.if_icmp .ne 10, 3) := by decide +kernel
theorem dX4_pushTail_49 : decode cX4_pushTail 49 = .ok (.aload_n 0, 1) := by decide +kernel
theorem dX4_pushTail_50 : decode cX4_pushTail 50 = .ok (.iload_n 1, 1) := by decide +kernel
theorem dX4_pushTail_51 : decode cX4_pushTail 51 = .ok (.invokevirtual 88, 3) := by decide +kernel
theorem dX4_pushTail_54 : decode cX4_pushTail 54 = .ok (.iconst 1, 1) := by decide +kernel
theorem dX4_pushTail_55 : decode cX4_pushTail 55 = .ok (.ireturn, 1) := by decide +kernel
theorem dX4_pushTail_56 : decode cX4_pushTail 56 = .ok (.aload_n 0, 1) := by decide +kernel
theorem dX4_pushTail_57 : decode cX4_pushTail 57 = .ok (.getfield 33, 3) := by decide +kernel
theorem dX4_pushTail_60 : decode cX4_pushTail 60 = .ok (.bipush 120, 2) := by decide +kernel
theorem dX4_pushTail_62 : decode cX4_pushTail 62 = .ok (.if_icmp .lt 5, 3) := by decide +kernel
theorem dX4_pushTail_65 : decode cX4_pushTail 65 = .ok (.iconst 0, 1) := by decide +kernel
theorem dX4_pushTail_66 : decode cX4_pushTail 66 = .ok (.ireturn, 1) := by decide +kernel
theorem dX4_pushTail_67 : decode cX4_pushTail 67 = .ok (.aload_n 0, 1) := by decide +kernel
theorem dX4_pushTail_68 : decode cX4_pushTail 68 = .ok (.getfield 9, 3) := by decide +kernel
theorem dX4_pushTail_71 : decode cX4_pushTail 71 = .ok (.iload_n 1, 1) := by decide +kernel
theorem dX4_pushTail_72 : decode cX4_pushTail 72 = .ok (.iload_n 2, 1) := by decide +kernel
theorem dX4_pushTail_73 : decode cX4_pushTail 73 = .ok (.iastore, 1) := by decide +kernel
theorem dX4_pushTail_74 : decode cX4_pushTail 74 = .ok (.aload_n 0, 1) := by decide +kernel
theorem dX4_pushTail_75 : decode cX4_pushTail 75 = .ok (.getfield 9, 3) := by decide +kernel
theorem dX4_pushTail_78 : decode cX4_pushTail 78 = .ok (.iload_n 1, 1) := by decide +kernel
theorem dX4_pushTail_79 : decode cX4_pushTail 79 = .ok (.iconst 1, 1) := by decide +kernel
theorem dX4_pushTail_80 : decode cX4_pushTail 80 = .ok (.iadd, 1) := by decide +kernel
theorem dX4_pushTail_81 : decode cX4_pushTail 81 = .ok (.bipush 116, 2) := by decide +kernel
theorem dX4_pushTail_83 : decode cX4_pushTail 83 = .ok (.iastore, 1) := by decide +kernel
theorem dX4_pushTail_84 : decode cX4_pushTail 84 = .ok (.aload_n 0, 1) := by decide +kernel
theorem dX4_pushTail_85 : decode cX4_pushTail 85 = .ok (.iload_n 2, 1) := by decide +kernel
theorem dX4_pushTail_86 : decode cX4_pushTail 86 = .ok (.invokestatic 92, 3) := by decide +kernel
theorem dX4_pushTail_89 : decode cX4_pushTail 89 = .ok (.ifCond .eq 14, 3) := by decide +kernel
theorem dX4_pushTail_92 : decode cX4_pushTail 92 = .ok (.aload_n 0, 1) := by decide +kernel
theorem dX4_pushTail_93 : decode cX4_pushTail 93 = .ok (.getfield 15, 3) := by decide +kernel
theorem dX4_pushTail_96 : decode cX4_pushTail 96 = .ok (.iload_n 1, 1) := by decide +kernel
theorem dX4_pushTail_97 : decode cX4_pushTail 97 = .ok (.iconst 2, 1) := by decide +kernel
theorem dX4_pushTail_98 : decode cX4_pushTail 98 = .ok (.iadd, 1) := by decide +kernel
theorem dX4_pushTail_99 : decode cX4_pushTail 99 = .ok (.iaload, 1) := by decide +kernel
theorem dX4_pushTail_100 : decode cX4_pushTail 100 = .ok (.goto 6, 3) := by decide +kernel
theorem dX4_pushTail_103 : decode cX4_pushTail 103 = .ok (.iload_n 1, 1) := by decide +kernel
theorem dX4_pushTail_104 : decode cX4_pushTail 104 = .ok (.iconst 2, 1) := by decide +kernel
theorem dX4_pushTail_105 : decode cX4_pushTail 105 = .ok (.iadd, 1) := by decide +kernel
theorem dX4_pushTail_106 : decode cX4_pushTail 106 = .ok (.invokevirtual 95, 3) := by decide +kernel
theorem dX4_pushTail_109 : decode cX4_pushTail 109 = .ok (.iconst 1, 1) := by decide +kernel
theorem dX4_pushTail_110 : decode cX4_pushTail 110 = .ok (.ireturn, 1) := by decide +kernel
theorem dX4_turnZip_0 : decode cX4_turnZip 0 = .ok (.iload_n 1, 1) := by decide +kernel
theorem dX4_turnZip_1 : decode cX4_turnZip 1 = .ok (.iconst 2, 1) := by decide +kernel
theorem dX4_turnZip_2 : decode cX4_turnZip 2 = .ok (.iadd, 1) := by decide +kernel
theorem dX4_turnZip_3 : decode cX4_turnZip 3 = .ok (.istore_n 2, 1) := by decide +kernel
theorem dX4_turnZip_4 : decode cX4_turnZip 4 = .ok (.aload_n 0, 1) := by decide +kernel
theorem dX4_turnZip_5 : decode cX4_turnZip 5 = .ok (.getfield 15, 3) := by decide +kernel
theorem dX4_turnZip_8 : decode cX4_turnZip 8 = .ok (.iload_n 2, 1) := by decide +kernel
theorem dX4_turnZip_9 : decode cX4_turnZip 9 = .ok (.iaload, 1) := by decide +kernel
theorem dX4_turnZip_10 : decode cX4_turnZip 10 = .ok (.istore_n 3, 1) := by decide +kernel
theorem dX4_turnZip_11 : decode cX4_turnZip 11 = .ok (.iload_n 3, 1) := by decide +kernel
theorem dX4_turnZip_12 : decode cX4_turnZip 12 = .ok (.iload_n 2, 1) := by decide +kernel
theorem dX4_turnZip_13 : decode cX4_turnZip 13 = .ok (.isub, 1) := by decide +kernel
theorem dX4_turnZip_14 : decode cX4_turnZip 14 = .ok (.istore 4, 2) := by decide +kernel
theorem dX4_turnZip_16 : decode cX4_turnZip 16 = .ok (.aload_n 0, 1) := by decide +kernel
theorem dX4_turnZip_17 : decode cX4_turnZip 17 = .ok (.getfield 15, 3) := by decide +kernel
theorem dX4_turnZip_20 : decode cX4_turnZip 20 = .ok (.iload_n 3, 1) := by decide +kernel
theorem dX4_turnZip_21 : decode cX4_turnZip 21 = .ok (.iaload, 1) := by decide +kernel
theorem dX4_turnZip_22 : decode cX4_turnZip 22 = .ok (.iload_n 3, 1) := by decide +kernel
theorem dX4_turnZip_23 : decode cX4_turnZip 23 = .ok (.isub, 1) := by decide +kernel
theorem dX4_turnZip_24 : decode cX4_turnZip 24 = .ok (.istore 5, 2) := by decide +kernel
theorem dX4_turnZip_26 : decode cX4_turnZip 26 = .ok (.aload_n 0, 1) := by decide +kernel
theorem dX4_turnZip_27 : decode cX4_turnZip 27 = .ok (.getfield 9, 3) := by decide +kernel
theorem dX4_turnZip_30 : decode cX4_turnZip 30 = .ok (.iload_n 2, 1) := by decide +kernel
theorem dX4_turnZip_31 : decode cX4_turnZip 31 = .ok (.aload_n 0, 1) := by decide +kernel
theorem dX4_turnZip_32 : decode cX4_turnZip 32 = .ok (.getfield 18, 3) := by decide +kernel
theorem dX4_turnZip_35 : decode cX4_turnZip 35 = .ok (.iconst 0, 1) := by decide +kernel
theorem dX4_turnZip_36 : decode cX4_turnZip 36 = .ok (.iload 4, 2) := by decide +kernel
theorem dX4_turnZip_38 : decode cX4_turnZip 38 = .ok (.invokestatic 35, 3) := by decide +kernel
theorem dX4_turnZip_41 : decode cX4_turnZip 41 = .ok (.aload_n 0, 1) := by decide +kernel
theorem dX4_turnZip_42 : decode cX4_turnZip 42 = .ok (.getfield 9, 3) := by decide +kernel
theorem dX4_turnZip_45 : decode cX4_turnZip 45 = .ok (.iload_n 1, 1) := by decide +kernel
theorem dX4_turnZip_46 : decode cX4_turnZip 46 = .ok (.bipush 122, 2) := by decide +kernel
theorem dX4_turnZip_48 : decode cX4_turnZip 48 = .ok (.iastore, 1) := by decide +kernel
theorem dX4_turnZip_49 : decode cX4_turnZip 49 = .ok (.aload_n 0, 1) := by decide +kernel
theorem dX4_turnZip_50 : decode cX4_turnZip 50 = .ok (.getfield 9, 3) := by decide +kernel
theorem dX4_turnZip_53 : decode cX4_turnZip 53 = .ok (.iload_n 3, 1) := by decide +kernel
theorem dX4_turnZip_54 : decode cX4_turnZip 54 = .ok (.aload_n 0, 1) := by decide +kernel
theorem dX4_turnZip_55 : decode cX4_turnZip 55 = .ok (.getfield 9, 3) := by decide +kernel
theorem dX4_turnZip_58 : decode cX4_turnZip 58 = .ok (.iload_n 1, 1) := by decide +kernel
theorem dX4_turnZip_59 : decode cX4_turnZip 59 = .ok (.iconst 1, 1) := by decide +kernel
theorem dX4_turnZip_60 : decode cX4_turnZip 60 = .ok (.iadd, 1) := by decide +kernel
theorem dX4_turnZip_61 : decode cX4_turnZip 61 = .ok (.iload 5, 2) := by decide +kernel
theorem dX4_turnZip_63 : decode cX4_turnZip 63 = .ok (.invokestatic 35, 3) := by decide +kernel
theorem dX4_turnZip_66 : decode cX4_turnZip 66 = .ok (.aload_n 0, 1) := by decide +kernel
theorem dX4_turnZip_67 : decode cX4_turnZip 67 = .ok (.getfield 9, 3) := by decide +kernel
theorem dX4_turnZip_70 : decode cX4_turnZip 70 = .ok (.iload_n 1, 1) := by decide +kernel
theorem dX4_turnZip_71 : decode cX4_turnZip 71 = .ok (.iconst 1, 1) := by decide +kernel
theorem dX4_turnZip_72 : decode cX4_turnZip 72 = .ok (.iadd, 1) := by decide +kernel
theorem dX4_turnZip_73 : decode cX4_turnZip 73 = .ok (.iload 5, 2) := by decide +kernel
theorem dX4_turnZip_75 : decode cX4_turnZip 75 = .ok (.iadd, 1) := by decide +kernel
theorem dX4_turnZip_76 : decode cX4_turnZip 76 = .ok (.bipush 116, 2) := by decide +kernel
theorem dX4_turnZip_78 : decode cX4_turnZip 78 = .ok (.iastore, 1) := by decide +kernel
theorem dX4_turnZip_79 : decode cX4_turnZip 79 = .ok (.aload_n 0, 1) := by decide +kernel
theorem dX4_turnZip_80 : decode cX4_turnZip 80 = .ok (.getfield 18, 3) := by decide +kernel
theorem dX4_turnZip_83 : decode cX4_turnZip 83 = .ok (.iconst 0, 1) := by decide +kernel
theorem dX4_turnZip_84 : decode cX4_turnZip 84 = .ok (.aload_n 0, 1) := by decide +kernel
theorem dX4_turnZip_85 : decode cX4_turnZip 85 = .ok (.getfield 9, 3) := by decide +kernel
theorem dX4_turnZip_88 : decode cX4_turnZip 88 = .ok (.iload_n 1, 1) := by decide +kernel
theorem dX4_turnZip_89 : decode cX4_turnZip 89 = .ok (.iconst 2, 1) := by decide +kernel
theorem dX4_turnZip_90 : decode cX4_turnZip 90 = .ok (.iadd, 1) := by decide +kernel
theorem dX4_turnZip_91 : decode cX4_turnZip 91 = .ok (.iload 5, 2) := by decide +kernel
theorem dX4_turnZip_93 : decode cX4_turnZip 93 = .ok (.iadd, 1) := by decide +kernel
theorem dX4_turnZip_94 : decode cX4_turnZip 94 = .ok (.iload 4, 2) := by decide +kernel
theorem dX4_turnZip_96 : decode cX4_turnZip 96 = .ok (.invokestatic 35, 3) := by decide +kernel
theorem dX4_turnZip_99 : decode cX4_turnZip 99 = .ok (.return_, 1) := by decide +kernel
theorem dX4_cut_0 : decode cX4_cut 0 = .ok (.aload_n 0, 1) := by decide +kernel
theorem dX4_cut_1 : decode cX4_cut 1 = .ok (.getfield 9, 3) := by decide +kernel
theorem dX4_cut_4 : decode cX4_cut 4 = .ok (.iload_n 2, 1) := by decide +kernel
theorem dX4_cut_5 : decode cX4_cut 5 = .ok (.aload_n 0, 1) := by decide +kernel
theorem dX4_cut_6 : decode cX4_cut 6 = .ok (.getfield 9, 3) := by decide +kernel
theorem dX4_cut_9 : decode cX4_cut 9 = .ok (.iload_n 1, 1) := by decide +kernel
theorem dX4_cut_10 : decode cX4_cut 10 = .ok (.aload_n 0, 1) := by decide +kernel
theorem dX4_cut_11 : decode cX4_cut 11 = .ok (.getfield 33, 3) := by decide +kernel
theorem dX4_cut_14 : decode cX4_cut 14 = .ok (.iload_n 2, 1) := by decide +kernel
theorem dX4_cut_15 : decode cX4_cut 15 = .ok (.isub, 1) := by decide +kernel
theorem dX4_cut_16 : decode cX4_cut 16 = .ok (.invokestatic 35, 3) := by decide +kernel
theorem dX4_cut_19 : decode cX4_cut 19 = .ok (.aload_n 0, 1) := by decide +kernel
theorem dX4_cut_20 : decode cX4_cut 20 = .ok (.dup, 1) := by decide +kernel
theorem dX4_cut_21 : decode cX4_cut 21 = .ok (.getfield 33, 3) := by decide +kernel
theorem dX4_cut_24 : decode cX4_cut 24 = .ok (.iload_n 2, 1) := by decide +kernel
theorem dX4_cut_25 : decode cX4_cut 25 = .ok (.iload_n 1, 1) := by decide +kernel
theorem dX4_cut_26 : decode cX4_cut 26 = .ok (.isub, 1) := by decide +kernel
theorem dX4_cut_27 : decode cX4_cut 27 = .ok (.isub, 1) := by decide +kernel
theorem dX4_cut_28 : decode cX4_cut 28 = .ok (.putfield 33, 3) := by decide +kernel
theorem dX4_cut_31 : decode cX4_cut 31 = .ok (.return_, 1) := by decide +kernel
theorem dX4_putTail_0 : decode cX4_putTail 0 = .ok (.aload_n 0, 1) := by decide +kernel
theorem dX4_putTail_1 : decode cX4_putTail 1 = .ok (.getfield 9, 3) := by decide +kernel
theorem dX4_putTail_4 : decode cX4_putTail 4 = .ok (.iload_n 1, 1) := by decide +kernel
theorem dX4_putTail_5 : decode cX4_putTail 5 = .ok (.aload_n 0, 1) := by decide +kernel
theorem dX4_putTail_6 : decode cX4_putTail 6 = .ok (.getfield 9, 3) := by decide +kernel
theorem dX4_putTail_9 : decode cX4_putTail 9 = .ok (.iload_n 1, 1) := by decide +kernel
theorem dX4_putTail_10 : decode cX4_putTail 10 = .ok (.iconst 1, 1) := by decide +kernel
theorem dX4_putTail_11 : decode cX4_putTail 11 = .ok (.iadd, 1) := by decide +kernel
theorem dX4_putTail_12 : decode cX4_putTail 12 = .ok (.aload_n 0, 1) := by decide +kernel
theorem dX4_putTail_13 : decode cX4_putTail 13 = .ok (.getfield 33, 3) := by decide +kernel
