theorem dX0_init_0 : decode cX0_init 0 = .ok (.aload_n 0, 1) := by decide +kernel
theorem dX0_init_1 : decode cX0_init 1 = .ok (.invokespecial 3, 3) := by decide +kernel
theorem dX0_init_4 : decode cX0_init 4 = .ok (.aload_n 0, 1) := by decide +kernel
theorem dX0_init_5 : decode cX0_init 5 = .ok (.bipush 24, 2) := by decide +kernel
theorem dX0_init_7 : decode cX0_init 7 = .ok (.newarray .int, 2) := by decide +kernel
theorem dX0_init_9 : decode cX0_init 9 = .ok (.putfield 9, 3) := by decide +kernel
theorem dX0_init_12 : decode cX0_init 12 = .ok (.aload_n 0, 1) := by decide +kernel
theorem dX0_init_13 : decode cX0_init 13 = .ok (.bipush 24, 2) := by decide +kernel
theorem dX0_init_15 : decode cX0_init 15 = .ok (.newarray .boolean, 2) := by decide +kernel
theorem dX0_init_17 : decode cX0_init 17 = .ok (.putfield 15, 3) := by decide +kernel
theorem dX0_init_20 : decode cX0_init 20 = .ok (.aload_n 0, 1) := by decide +kernel
theorem dX0_init_21 : decode cX0_init 21 = .ok (.sipush 601, 3) := by decide +kernel
theorem dX0_init_24 : decode cX0_init 24 = .ok (.newarray .long, 2) := by decide +kernel
theorem dX0_init_26 : decode cX0_init 26 = .ok (.putfield 19, 3) := by decide +kernel
theorem dX0_init_29 : decode cX0_init 29 = .ok (.aload_n 0, 1) := by decide +kernel
theorem dX0_init_30 : decode cX0_init 30 = .ok (.iconst 0, 1) := by decide +kernel
theorem dX0_init_31 : decode cX0_init 31 = .ok (.putfield 23, 3) := by decide +kernel
theorem dX0_init_34 : decode cX0_init 34 = .ok (.aload_n 0, 1) := by decide +kernel
theorem dX0_init_35 : decode cX0_init 35 = .ok (.lconst 1, 1) := by decide +kernel
theorem dX0_init_36 : decode cX0_init 36 = .ok (.putfield 27, 3) := by decide +kernel
theorem dX0_init_39 : decode cX0_init 39 = .ok (.aload_n 0, 1) := by decide +kernel
theorem dX0_init_40 : decode cX0_init 40 = .ok (.lconst 1, 1) := by decide +kernel
theorem dX0_init_41 : decode cX0_init 41 = .ok (.putfield 31, 3) := by decide +kernel
theorem dX0_init_44 : decode cX0_init 44 = .ok (.return_, 1) := by decide +kernel
theorem dX0_clear_0 : decode cX0_clear 0 = .ok (.aload_n 0, 1) := by decide +kernel
theorem dX0_clear_1 : decode cX0_clear 1 = .ok (.iconst 0, 1) := by decide +kernel
theorem dX0_clear_2 : decode cX0_clear 2 = .ok (.putfield 23, 3) := by decide +kernel
theorem dX0_clear_5 : decode cX0_clear 5 = .ok (.return_, 1) := by decide +kernel
theorem dX0_addRound_0 : decode cX0_addRound 0 = .ok (.iload_n 1, 1) := by decide +kernel
theorem dX0_addRound_1 : decode cX0_addRound 1 = .ok (.iload_n 2, 1) := by decide +kernel
theorem dX0_addRound_2 : decode cX0_addRound 2 = .ok (.if_icmp .eq 56, 3) := by decide +kernel
theorem dX0_addRound_5 : decode cX0_addRound 5 = .ok (.aload_n 0, 1) := by decide +kernel
theorem dX0_addRound_6 : decode cX0_addRound 6 = .ok (.getfield 23, 3) := by decide +kernel
theorem dX0_addRound_9 : decode cX0_addRound 9 = .ok (.bipush 24, 2) := by decide +kernel
theorem dX0_addRound_11 : decode cX0_addRound 11 = .ok (.if_icmp .ge 47, 3) := by decide +kernel
theorem dX0_addRound_14 : decode cX0_addRound 14 = .ok (.aload_n 0, 1) := by decide +kernel
theorem dX0_addRound_15 : decode cX0_addRound 15 = .ok (.getfield 9, 3) := by decide +kernel
theorem dX0_addRound_18 : decode cX0_addRound 18 = .ok (.aload_n 0, 1) := by decide +kernel
theorem dX0_addRound_19 : decode cX0_addRound 19 = .ok (.getfield 23, 3) := by decide +kernel
theorem dX0_addRound_22 : decode cX0_addRound 22 = .ok (.iload_n 1, 1) := by decide +kernel
theorem dX0_addRound_23 : decode cX0_addRound 23 = .ok (.iload_n 2, 1) := by decide +kernel
theorem dX0_addRound_24 : decode cX0_addRound 24 = .ok (.isub, 1) := by decide +kernel
theorem dX0_addRound_25 : decode cX0_addRound 25 = .ok (.invokestatic 34, 3) := by decide +kernel
theorem dX0_addRound_28 : decode cX0_addRound 28 = .ok (.iastore, 1) := by decide +kernel
theorem dX0_addRound_29 : decode cX0_addRound 29 = .ok (.aload_n 0, 1) := by decide +kernel
theorem dX0_addRound_30 : decode cX0_addRound 30 = .ok (.getfield 15, 3) := by decide +kernel
theorem dX0_addRound_33 : decode cX0_addRound 33 = .ok (.aload_n 0, 1) := by decide +kernel
theorem dX0_addRound_34 : decode cX0_addRound 34 = .ok (.getfield 23, 3) := by decide +kernel
theorem dX0_addRound_37 : decode cX0_addRound 37 = .ok (.iload_n 1, 1) := by decide +kernel
theorem dX0_addRound_38 : decode cX0_addRound 38 = .ok (.iload_n 2, 1) := by decide +kernel
theorem dX0_addRound_39 : decode cX0_addRound 39 = .ok (.if_icmp .ge 7, 3) := by decide +kernel
theorem dX0_addRound_42 : decode cX0_addRound 42 = .ok (.iconst 1, 1) := by decide +kernel
theorem dX0_addRound_43 : decode cX0_addRound 43 = .ok (.goto 4, 3) := by decide +kernel
theorem dX0_addRound_46 : decode cX0_addRound 46 = .ok (.iconst 0, 1) := by decide +kernel
theorem dX0_addRound_47 : decode cX0_addRound 47 = .ok (.bastore, 1) := by decide +kernel
theorem dX0_addRound_48 : decode cX0_addRound 48 = .ok (.aload_n 0, 1) := by decide +kernel
theorem dX0_addRound_49 : decode cX0_addRound 49 = .ok (.dup, 1) := by decide +kernel
theorem dX0_addRound_50 : decode cX0_addRound 50 = .ok (.getfield 23, 3) := by decide +kernel
theorem dX0_addRound_53 : decode cX0_addRound 53 = .ok (.iconst 1, 1) := by decide +kernel
theorem dX0_addRound_54 : decode cX0_addRound 54 = .ok (.iadd, 1) := by decide +kernel
theorem dX0_addRound_55 : decode cX0_addRound 55 = .ok (.putfield 23, 3) := by decide +kernel
theorem dX0_addRound_58 : decode cX0_addRound 58 = .ok (.return_, 1) := by decide +kernel
theorem dX0_count_0 : decode cX0_count 0 = .ok (.aload_n 0, 1) := by decide +kernel
theorem dX0_count_1 : decode cX0_count 1 = .ok (.getfield 19, 3) := by decide +kernel
theorem dX0_count_4 : decode cX0_count 4 = .ok (.lconst 0, 1) := by decide +kernel
theorem dX0_count_5 : decode cX0_count 5 = .ok (.invokestatic 40, 3) := by decide +kernel
theorem dX0_count_8 : decode cX0_count 8 = .ok (.aload_n 0, 1) := by decide +kernel
theorem dX0_count_9 : decode cX0_count 9 = .ok (.getfield 19, 3) := by decide +kernel
theorem dX0_count_12 : decode cX0_count 12 = .ok (.iconst 0, 1) := by decide +kernel
theorem dX0_count_13 : decode cX0_count 13 = .ok (.lconst 1, 1) := by decide +kernel
theorem dX0_count_14 : decode cX0_count 14 = .ok (.lastore, 1) := by decide +kernel
theorem dX0_count_15 : decode cX0_count 15 = .ok (.iconst 0, 1) := by decide +kernel
theorem dX0_count_16 : decode cX0_count 16 = .ok (.istore_n 2, 1) := by decide +kernel
theorem dX0_count_17 : decode cX0_count 17 = .ok (.iconst 0, 1) := by decide +kernel
theorem dX0_count_18 : decode cX0_count 18 = .ok (.istore_n 3, 1) := by decide +kernel
theorem dX0_count_19 : decode cX0_count 19 = .ok (.aload_n 0, 1) := by decide +kernel
theorem dX0_count_20 : decode cX0_count 20 = .ok (.lconst 1, 1) := by decide +kernel
theorem dX0_count_21 : decode cX0_count 21 = .ok (.putfield 31, 3) := by decide +kernel
theorem dX0_count_24 : decode cX0_count 24 = .ok (.iconst 0, 1) := by decide +kernel
theorem dX0_count_25 : decode cX0_count 25 = .ok (.istore 4, 2) := by decide +kernel
theorem dX0_count_27 : decode cX0_count 27 = .ok (.iload 4, 2) := by decide +kernel
theorem dX0_count_29 : decode cX0_count 29 = .ok (.aload_n 0, 1) := by decide +kernel
theorem dX0_count_30 : decode cX0_count 30 = .ok (.getfield 23, 3) := by decide +kernel
theorem dX0_count_33 : decode cX0_count 33 = .ok (.if_icmp .ge 70, 3) := by decide +kernel
theorem dX0_count_36 : decode cX0_count 36 = .ok (.iload_n 1, 1) := by decide +kernel
theorem dX0_count_37 : decode cX0_count 37 = .ok (.ifCond .ne 7, 3) := by decide +kernel
theorem dX0_count_40 : decode cX0_count 40 = .ok (.iconst 1, 1) := by decide +kernel
theorem dX0_count_41 : decode cX0_count 41 = .ok (.goto 9, 3) := by decide +kernel
theorem dX0_count_44 : decode cX0_count 44 = .ok (.aload_n 0, 1) := by decide +kernel
theorem dX0_count_45 : decode cX0_count 45 = .ok (.iload 4, 2) := by decide +kernel
theorem dX0_count_47 : decode cX0_count 47 = .ok (.invokevirtual 46, 3) := by decide +kernel
theorem dX0_count_50 : decode cX0_count 50 = .ok (.istore 5, 2) := by decide +kernel
theorem dX0_count_52 : decode cX0_count 52 = .ok (.iload_n 2, 1) := by decide +kernel
theorem dX0_count_53 : decode cX0_count 53 = .ok (.iload 5, 2) := by decide +kernel
theorem dX0_count_55 : decode cX0_count 55 = .ok (.iadd, 1) := by decide +kernel
theorem dX0_count_56 : decode cX0_count 56 = .ok (.sipush 600, 3) := by decide +kernel
theorem dX0_count_59 : decode cX0_count 59 = .ok (.invokestatic 49, 3) := by decide +kernel
theorem dX0_count_62 : decode cX0_count 62 = .ok (.istore_n 2, 1) := by decide +kernel
theorem dX0_count_63 : decode cX0_count 63 = .ok (.aload_n 0, 1) := by decide +kernel
theorem dX0_count_64 : decode cX0_count 64 = .ok (.iload 5, 2) := by decide +kernel
theorem dX0_count_66 : decode cX0_count 66 = .ok (.iload_n 2, 1) := by decide +kernel
theorem dX0_count_67 : decode cX0_count 67 = .ok (.invokevirtual 53, 3) := by decide +kernel
theorem dX0_count_70 : decode cX0_count 70 = .ok (.aload_n 0, 1) := by decide +kernel
theorem dX0_count_71 : decode cX0_count 71 = .ok (.getfield 15, 3) := by decide +kernel
theorem dX0_count_74 : decode cX0_count 74 = .ok (.iload 4, 2) := by decide +kernel
theorem dX0_count_76 : decode cX0_count 76 = .ok (.baload, 1) := by decide +kernel
theorem dX0_count_77 : decode cX0_count 77 = .ok (.ifCond .eq 8, 3) := by decide +kernel
theorem dX0_count_80 : decode cX0_count 80 = .ok (.iload_n 3, 1) := by decide +kernel
theorem dX0_count_81 : decode cX0_count 81 = .ok (.iload 5, 2) := by decide +kernel
theorem dX0_count_83 : decode cX0_count 83 = .ok (.iadd, 1) := by decide +kernel
theorem dX0_count_84 : decode cX0_count 84 = .ok (.istore_n 3, 1) := by decide +kernel
theorem dX0_count_85 : decode cX0_count 85 = .ok (.aload_n 0, 1) := by decide +kernel
theorem dX0_count_86 : decode cX0_count 86 = .ok (.dup, 1) := by decide +kernel
theorem dX0_count_87 : decode cX0_count 87 = .ok (.getfield 31, 3) := by decide +kernel
theorem dX0_count_90 : decode cX0_count 90 = .ok (.ldc2_w 57, 3) := by decide +kernel
theorem dX0_count_93 : decode cX0_count 93 = .ok (.lmul, 1) := by decide +kernel
theorem dX0_count_94 : decode cX0_count 94 = .ok (.putfield 31, 3) := by decide +kernel
theorem dX0_count_97 : decode cX0_count 97 = .ok (.iinc 4 1, 3) := by decide +kernel
theorem dX0_count_100 : decode cX0_count 100 = .ok (.goto (-73), 3) := by decide +kernel
theorem dX0_count_103 : decode cX0_count 103 = .ok (.aload_n 0, 1) := by decide +kernel
theorem dX0_count_104 : decode cX0_count 104 = .ok (.lconst 0, 1) := by decide +kernel
theorem dX0_count_105 : decode cX0_count 105 = .ok (.putfield 27, 3) := by decide +kernel
theorem dX0_count_108 : decode cX0_count 108 = .ok (.iload_n 3, 1) := by decide +kernel
theorem dX0_count_109 : decode cX0_count 109 = .ok (.istore 4, 2) := by decide +kernel
theorem dX0_count_111 : decode cX0_count 111 = .ok (.iload 4, 2) := by decide +kernel
theorem dX0_count_113 : decode cX0_count 113 = .ok (.iload_n 2, 1) := by decide +kernel
theorem dX0_count_114 : decode cX0_count 114 = .ok (.if_icmp .gt 25, 3) := by decide +kernel
theorem dX0_count_117 : decode cX0_count 117 = .ok (.aload_n 0, 1) := by decide +kernel
theorem dX0_count_118 : decode cX0_count 118 = .ok (.dup, 1) := by decide +kernel
theorem dX0_count_119 : decode cX0_count 119 = .ok (.getfield 27, 3) := by decide +kernel
theorem dX0_count_122 : decode cX0_count 122 = .ok (.aload_n 0, 1) := by decide +kernel
theorem dX0_count_123 : decode cX0_count 123 = .ok (.getfield 19, 3) := by decide +kernel
theorem dX0_count_126 : decode cX0_count 126 = .ok (.iload 4, 2) := by decide +kernel
theorem dX0_count_128 : decode cX0_count 128 = .ok (.laload, 1) := by decide +kernel
theorem dX0_count_129 : decode cX0_count 129 = .ok (.ladd, 1) := by decide +kernel
theorem dX0_count_130 : decode cX0_count 130 = .ok (.putfield 27, 3) := by decide +kernel
theorem dX0_count_133 : decode cX0_count 133 = .ok (.iinc 4 1, 3) := by decide +kernel
theorem dX0_count_136 : decode cX0_count 136 = .ok (.goto (-25), 3) := by decide +kernel
theorem dX0_count_139 : decode cX0_count 139 = .ok (.return_, 1) := by decide +kernel
theorem dX0_addSign_0 : decode cX0_addSign 0 = .ok (.iload_n 2, 1) := by decide +kernel
theorem dX0_addSign_1 : decode cX0_addSign 1 = .ok (.istore_n 3, 1) := by decide +kernel
theorem dX0_addSign_2 : decode cX0_addSign 2 = .ok (.iload_n 3, 1) := by decide +kernel
theorem dX0_addSign_3 : decode cX0_addSign 3 = .ok (.iload_n 1, 1) := by decide +kernel
theorem dX0_addSign_4 : decode cX0_addSign 4 = .ok (.if_icmp .lt 26, 3) := by decide +kernel
theorem dX0_addSign_7 : decode cX0_addSign 7 = .ok (.aload_n 0, 1) := by decide +kernel
theorem dX0_addSign_8 : decode cX0_addSign 8 = .ok (.getfield 19, 3) := by decide +kernel
theorem dX0_addSign_11 : decode cX0_addSign 11 = .ok (.iload_n 3, 1) := by decide +kernel
theorem dX0_addSign_12 : decode cX0_addSign 12 = .ok (.dup2, 1) := by decide +kernel
theorem dX0_addSign_13 : decode cX0_addSign 13 = .ok (.laload, 1) := by decide +kernel
theorem dX0_addSign_14 : decode cX0_addSign 14 = .ok (.aload_n 0, 1) := by decide +kernel
theorem dX0_addSign_15 : decode cX0_addSign 15 = .ok (.getfield 19, 3) := by decide +kernel
theorem dX0_addSign_18 : decode cX0_addSign 18 = .ok (.iload_n 3, 1) := by decide +kernel
theorem dX0_addSign_19 : decode cX0_addSign 19 = .ok (.iload_n 1, 1) := by decide +kernel
theorem dX0_addSign_20 : decode cX0_addSign 20 = .ok (.isub, 1) := by decide +kernel
theorem dX0_addSign_21 : decode cX0_addSign 21 = .ok (.laload, 1) := by decide +kernel
theorem dX0_addSign_22 : decode cX0_addSign 22 = .ok (.ladd, 1) := by decide +kernel
theorem dX0_addSign_23 : decode cX0_addSign 23 = .ok (.lastore, 1) := by decide +kernel
theorem dX0_addSign_24 : decode cX0_addSign 24 = .ok (.iinc 3 (-1), 3) := by decide +kernel
theorem dX0_addSign_27 : decode cX0_addSign 27 = .ok (.goto (-25), 3) := by decide +kernel
theorem dX0_addSign_30 : decode cX0_addSign 30 = .ok (.return_, 1) := by decide +kernel
theorem dX0_weightOf_0 : decode cX0_weightOf 0 = .ok (.iconst 2, 1) := by decide +kernel
theorem dX0_weightOf_1 : decode cX0_weightOf 1 = .ok (.istore_n 2, 1) := by decide +kernel
theorem dX0_weightOf_2 : decode cX0_weightOf 2 = .ok (.iconst 0, 1) := by decide +kernel
theorem dX0_weightOf_3 : decode cX0_weightOf 3 = .ok (.istore_n 3, 1) := by decide +kernel
theorem dX0_weightOf_4 : decode cX0_weightOf 4 = .ok (.iload_n 3, 1) := by decide +kernel
theorem dX0_weightOf_5 : decode cX0_weightOf 5 = .ok (.aload_n 0, 1) := by decide +kernel
theorem dX0_weightOf_6 : decode cX0_weightOf 6 = .ok (.getfield 23, 3) := by decide +kernel
theorem dX0_weightOf_9 : decode cX0_weightOf 9 = .ok (.if_icmp .ge 53, 3) := by decide +kernel
theorem dX0_weightOf_12 : decode cX0_weightOf 12 = .ok (.aload_n 0, 1) := by decide +kernel
theorem dX0_weightOf_13 : decode cX0_weightOf 13 = .ok (.getfield 9, 3) := by decide +kernel
theorem dX0_weightOf_16 : decode cX0_weightOf 16 = .ok (.iload_n 3, 1) := by decide +kernel
theorem dX0_weightOf_17 : decode cX0_weightOf 17 = .ok (.iaload, 1) := by decide +kernel
theorem dX0_weightOf_18 : decode cX0_weightOf 18 = .ok (.aload_n 0, 1) := by decide +kernel
theorem dX0_weightOf_19 : decode cX0_weightOf 19 = .ok (.getfield 9, 3) := by decide +kernel
theorem dX0_weightOf_22 : decode cX0_weightOf 22 = .ok (.iload_n 1, 1) := by decide +kernel
theorem dX0_weightOf_23 : decode cX0_weightOf 23 = .ok (.iaload, 1) := by decide +kernel
theorem dX0_weightOf_24 : decode cX0_weightOf 24 = .ok (.if_icmp .ge 9, 3) := by decide +kernel
theorem dX0_weightOf_27 : decode cX0_weightOf 27 = .ok (.iinc 2 2, 3) := by decide +kernel
theorem dX0_weightOf_30 : decode cX0_weightOf 30 = .ok (.goto 26, 3) := by decide +kernel
theorem dX0_weightOf_33 : decode cX0_weightOf 33 = .ok (.iload_n 3, 1) := by decide +kernel
theorem dX0_weightOf_34 : decode cX0_weightOf 34 = .ok (.iload_n 1, 1) := by decide +kernel
theorem dX0_weightOf_35 : decode cX0_weightOf 35 = .ok (.if_icmp .eq 21, 3) := by decide +kernel
theorem dX0_weightOf_38 : decode cX0_weightOf 38 = .ok (.aload_n 0, 1) := by decide +kernel
theorem dX0_weightOf_39 : decode cX0_weightOf 39 = .ok (.getfield 9, 3) := by decide +kernel
theorem dX0_weightOf_42 : decode cX0_weightOf 42 = .ok (.iload_n 3, 1) := by decide +kernel
theorem dX0_weightOf_43 : decode cX0_weightOf 43 = .ok (.iaload, 1) := by decide +kernel
theorem dX0_weightOf_44 : decode cX0_weightOf 44 = .ok (.aload_n 0, 1) := by decide +kernel
theorem dX0_weightOf_45 : decode cX0_weightOf 45 = .ok (.getfield 9, 3) := by decide +kernel
theorem dX0_weightOf_48 : decode cX0_weightOf 48 = .ok (.iload_n 1, 1) := by decide +kernel
theorem dX0_weightOf_49 : decode cX0_weightOf 49 = .ok (.iaload, 1) := by decide +kernel
theorem dX0_weightOf_50 : decode cX0_weightOf 50 = .ok (.if_icmp .ne 6, 3) := by decide +kernel
theorem dX0_weightOf_53 : decode cX0_weightOf 53 = .ok (.iinc 2 1, 3) := by decide +kernel
theorem dX0_weightOf_56 : decode cX0_weightOf 56 = .ok (.iinc 3 1, 3) := by decide +kernel
theorem dX0_weightOf_59 : decode cX0_weightOf 59 = .ok (.goto (-55), 3) := by decide +kernel
theorem dX0_weightOf_62 : decode cX0_weightOf 62 = .ok (.iload_n 2, 1) := by decide +kernel
theorem dX0_weightOf_63 : decode cX0_weightOf 63 = .ok (.ireturn, 1) := by decide +kernel
theorem dX0_areAbove_0 : decode cX0_areAbove 0 = .ok (.aload_n 0, 1) := by decide +kernel
theorem dX0_areAbove_1 : decode cX0_areAbove 1 = .ok (.getfield 27, 3) := by decide +kernel
theorem dX0_areAbove_4 : decode cX0_areAbove 4 = .ok (.iload_n 2, 1) := by decide +kernel
theorem dX0_areAbove_5 : decode cX0_areAbove 5 = .ok (.i2l, 1) := by decide +kernel
theorem dX0_areAbove_6 : decode cX0_areAbove 6 = .ok (.lmul, 1) := by decide +kernel
theorem dX0_areAbove_7 : decode cX0_areAbove 7 = .ok (.iload_n 1, 1) := by decide +kernel
theorem dX0_areAbove_8 : decode cX0_areAbove 8 = .ok (.i2l, 1) := by decide +kernel
theorem dX0_areAbove_9 : decode cX0_areAbove 9 = .ok (.aload_n 0, 1) := by decide +kernel
theorem dX0_areAbove_10 : decode cX0_areAbove 10 = .ok (.getfield 31, 3) := by decide +kernel
theorem dX0_areAbove_13 : decode cX0_areAbove 13 = .ok (.lmul, 1) := by decide +kernel
theorem dX0_areAbove_14 : decode cX0_areAbove 14 = .ok (.lcmp, 1) := by decide +kernel
theorem dX0_areAbove_15 : decode cX0_areAbove 15 = .ok (.ifCond .le 7, 3) := by decide +kernel
theorem dX0_areAbove_18 : decode cX0_areAbove 18 = .ok (.iconst 1, 1) := by decide +kernel
theorem dX0_areAbove_19 : decode cX0_areAbove 19 = .ok (.goto 4, 3) := by decide +kernel
theorem dX0_areAbove_22 : decode cX0_areAbove 22 = .ok (.iconst 0, 1) := by decide +kernel
theorem dX0_areAbove_23 : decode cX0_areAbove 23 = .ok (.ireturn, 1) := by decide +kernel
theorem dX1_init_0 : decode cX1_init 0 = .ok (.aload_n 0, 1) := by decide +kernel
theorem dX1_init_1 : decode cX1_init 1 = .ok (.invokespecial 3, 3) := by decide +kernel
theorem dX1_init_4 : decode cX1_init 4 = .ok (.aload_n 0, 1) := by decide +kernel
theorem dX1_init_5 : decode cX1_init 5 = .ok (.bipush 12, 2) := by decide +kernel
theorem dX1_init_7 : decode cX1_init 7 = .ok (.newarray .int, 2) := by decide +kernel
theorem dX1_init_9 : decode cX1_init 9 = .ok (.putfield 9, 3) := by decide +kernel
theorem dX1_init_12 : decode cX1_init 12 = .ok (.aload_n 0, 1) := by decide +kernel
theorem dX1_init_13 : decode cX1_init 13 = .ok (.bipush 12, 2) := by decide +kernel
theorem dX1_init_15 : decode cX1_init 15 = .ok (.newarray .int, 2) := by decide +kernel
theorem dX1_init_17 : decode cX1_init 17 = .ok (.putfield 15, 3) := by decide +kernel
theorem dX1_init_20 : decode cX1_init 20 = .ok (.aload_n 0, 1) := by decide +kernel
theorem dX1_init_21 : decode cX1_init 21 = .ok (.bipush 12, 2) := by decide +kernel
theorem dX1_init_23 : decode cX1_init 23 = .ok (.newarray .int, 2) := by decide +kernel
theorem dX1_init_25 : decode cX1_init 25 = .ok (.putfield 18, 3) := by decide +kernel
theorem dX1_init_28 : decode cX1_init 28 = .ok (.aload_n 0, 1) := by decide +kernel
theorem dX1_init_29 : decode cX1_init 29 = .ok (.bipush 13, 2) := by decide +kernel
theorem dX1_init_31 : decode cX1_init 31 = .ok (.bipush 24, 2) := by decide +kernel
theorem dX1_init_33 : decode cX1_init 33 = .ok (.multianewarray 21 2, 4) := by decide +kernel
theorem dX1_init_37 : decode cX1_init 37 = .ok (.putfield 23, 3) := by decide +kernel
theorem dX1_init_40 : decode cX1_init 40 = .ok (.aload_n 0, 1) := by decide +kernel
theorem dX1_init_41 : decode cX1_init 41 = .ok (.iconst 0, 1) := by decide +kernel
theorem dX1_init_42 : decode cX1_init 42 = .ok (.putfield 26, 3) := by decide +kernel
theorem dX1_init_45 : decode cX1_init 45 = .ok (.aload_n 0, 1) := by decide +kernel
theorem dX1_init_46 : decode cX1_init 46 = .ok (.iconst 0, 1) := by decide +kernel
theorem dX1_init_47 : decode cX1_init 47 = .ok (.putfield 30, 3) := by decide +kernel
theorem dX1_init_50 : decode cX1_init 50 = .ok (.aload_n 0, 1) := by decide +kernel
theorem dX1_init_51 : decode cX1_init 51 = .ok (.iconst 0, 1) := by decide +kernel
theorem dX1_init_52 : decode cX1_init 52 = .ok (.putfield 33, 3) := by decide +kernel
theorem dX1_init_55 : decode cX1_init 55 = .ok (.return_, 1) := by decide +kernel
theorem dX1_find_0 : decode cX1_find 0 = .ok (.aload_n 0, 1) := by decide +kernel
theorem dX1_find_1 : decode cX1_find 1 = .ok (.aload_n 1, 1) := by decide +kernel
theorem dX1_find_2 : decode cX1_find 2 = .ok (.invokevirtual 36, 3) := by decide +kernel
theorem dX1_find_5 : decode cX1_find 5 = .ok (.aload_n 0, 1) := by decide +kernel
theorem dX1_find_6 : decode cX1_find 6 = .ok (.iconst 0, 1) := by decide +kernel
theorem dX1_find_7 : decode cX1_find 7 = .ok (.iload_n 2, 1) := by decide +kernel
theorem dX1_find_8 : decode cX1_find 8 = .ok (.aload_n 0, 1) := by decide +kernel
theorem dX1_find_9 : decode cX1_find 9 = .ok (.getfield 26, 3) := by decide +kernel
theorem dX1_find_12 : decode cX1_find 12 = .ok (.invokestatic 40, 3) := by decide +kernel
theorem dX1_find_15 : decode cX1_find 15 = .ok (.invokestatic 46, 3) := by decide +kernel
theorem dX1_find_18 : decode cX1_find 18 = .ok (.putfield 30, 3) := by decide +kernel
theorem dX1_find_21 : decode cX1_find 21 = .ok (.aload_n 0, 1) := by decide +kernel
theorem dX1_find_22 : decode cX1_find 22 = .ok (.ldc 51, 2) := by decide +kernel
theorem dX1_find_24 : decode cX1_find 24 = .ok (.putfield 33, 3) := by decide +kernel
theorem dX1_find_27 : decode cX1_find 27 = .ok (.aload_n 0, 1) := by decide +kernel
theorem dX1_find_28 : decode cX1_find 28 = .ok (.getfield 23, 3) := by decide +kernel
theorem dX1_find_31 : decode cX1_find 31 = .ok (.iconst 0, 1) := by decide +kernel
theorem dX1_find_32 : decode cX1_find 32 = .ok (.aaload, 1) := by decide +kernel
theorem dX1_find_33 : decode cX1_find 33 = .ok (.ldc 52, 2) := by decide +kernel
theorem dX1_find_35 : decode cX1_find 35 = .ok (.invokestatic 53, 3) := by decide +kernel
theorem dX1_find_38 : decode cX1_find 38 = .ok (.aload_n 0, 1) := by decide +kernel
theorem dX1_find_39 : decode cX1_find 39 = .ok (.aload_n 1, 1) := by decide +kernel
theorem dX1_find_40 : decode cX1_find 40 = .ok (.iconst 0, 1) := by decide +kernel
theorem dX1_find_41 : decode cX1_find 41 = .ok (.iconst 0, 1) := by decide +kernel
theorem dX1_find_42 : decode cX1_find 42 = .ok (.invokevirtual 59, 3) := by decide +kernel
theorem dX1_find_45 : decode cX1_find 45 = .ok (.iconst 0, 1) := by decide +kernel
theorem dX1_find_46 : decode cX1_find 46 = .ok (.istore_n 3, 1) := by decide +kernel
theorem dX1_find_47 : decode cX1_find 47 = .ok (.iconst 0, 1) := by decide +kernel
theorem dX1_find_48 : decode cX1_find 48 = .ok (.istore 4, 2) := by decide +kernel
theorem dX1_find_50 : decode cX1_find 50 = .ok (.iload 4, 2) := by decide +kernel
theorem dX1_find_52 : decode cX1_find 52 = .ok (.sipush 4096, 3) := by decide +kernel
theorem dX1_find_55 : decode cX1_find 55 = .ok (.if_icmp .ge 43, 3) := by decide +kernel
theorem dX1_find_58 : decode cX1_find 58 = .ok (.iload_n 3, 1) := by decide +kernel
theorem dX1_find_59 : decode cX1_find 59 = .ok (.iconst (-1), 1) := by decide +kernel
theorem dX1_find_60 : decode cX1_find 60 = .ok (.if_icmp .eq 38, 3) := by decide +kernel
theorem dX1_find_63 : decode cX1_find 63 = .ok (.aload_n 0, 1) := by decide +kernel
theorem dX1_find_64 : decode cX1_find 64 = .ok (.aload_n 1, 1) := by decide +kernel
theorem dX1_find_65 : decode cX1_find 65 = .ok (.invokevirtual 63, 3) := by decide +kernel
theorem dX1_find_68 : decode cX1_find 68 = .ok (.aload_n 0, 1) := by decide +kernel
theorem dX1_find_69 : decode cX1_find 69 = .ok (.invokevirtual 66, 3) := by decide +kernel
theorem dX1_find_72 : decode cX1_find 72 = .ok (.istore_n 3, 1) := by decide +kernel
theorem dX1_find_73 : decode cX1_find 73 = .ok (.iload_n 3, 1) := by decide +kernel
theorem dX1_find_74 : decode cX1_find 74 = .ok (.iconst (-1), 1) := by decide +kernel
theorem dX1_find_75 : decode cX1_find 75 = .ok (.if_icmp .eq 17, 3) := by decide +kernel
theorem dX1_find_78 : decode cX1_find 78 = .ok (.aload_n 0, 1) := by decide +kernel
theorem dX1_find_79 : decode cX1_find 79 = .ok (.aload_n 1, 1) := by decide +kernel
theorem dX1_find_80 : decode cX1_find 80 = .ok (.iload_n 3, 1) := by decide +kernel
theorem dX1_find_81 : decode cX1_find 81 = .ok (.aload_n 0, 1) := by decide +kernel
theorem dX1_find_82 : decode cX1_find 82 = .ok (.getfield 15, 3) := by decide +kernel
theorem dX1_find_85 : decode cX1_find 85 = .ok (.iload_n 3, 1) := by decide +kernel
theorem dX1_find_86 : decode cX1_find 86 = .ok (.iaload, 1) := by decide +kernel
theorem dX1_find_87 : decode cX1_find 87 = .ok (.iconst 1, 1) := by decide +kernel
theorem dX1_find_88 : decode cX1_find 88 = .ok (.iadd, 1) := by decide +kernel
theorem dX1_find_89 : decode cX1_find 89 = .ok (.invokevirtual 59, 3) := by decide +kernel
theorem dX1_find_92 : decode cX1_find 92 = .ok (.iinc 4 1, 3) := by decide +kernel
theorem dX1_find_95 : decode cX1_find 95 = .ok (.goto (-45), 3) := by decide +kernel
theorem dX1_find_98 : decode cX1_find 98 = .ok (.return_, 1) := by decide +kernel
theorem dX1_memberAt_0 : decode cX1_memberAt 0 = .ok (.iload_n 1, 1) := by decide +kernel
theorem dX1_memberAt_1 : decode cX1_memberAt 1 = .ok (.ifCond .lt 20, 3) := by decide +kernel
theorem dX1_memberAt_4 : decode cX1_memberAt 4 = .ok (.iload_n 1, 1) := by decide +kernel
theorem dX1_memberAt_5 : decode cX1_memberAt 5 = .ok (.aload_n 0, 1) := by decide +kernel
theorem dX1_memberAt_6 : decode cX1_memberAt 6 = .ok (.getfield 30, 3) := by decide +kernel
theorem dX1_memberAt_9 : decode cX1_memberAt 9 = .ok (.if_icmp .ge 12, 3) := by decide +kernel
theorem dX1_memberAt_12 : decode cX1_memberAt 12 = .ok (.aload_n 0, 1) := by decide +kernel
theorem dX1_memberAt_13 : decode cX1_memberAt 13 = .ok (.getfield 18, 3) := by decide +kernel
theorem dX1_memberAt_16 : decode cX1_memberAt 16 = .ok (.iload_n 1, 1) := by decide +kernel
theorem dX1_memberAt_17 : decode cX1_memberAt 17 = .ok (.iaload, 1) := by decide +kernel
theorem dX1_memberAt_18 : decode cX1_memberAt 18 = .ok (.goto 4, 3) := by decide +kernel
theorem dX1_memberAt_21 : decode cX1_memberAt 21 = .ok (.iconst (-1), 1) := by decide +kernel
theorem dX1_memberAt_22 : decode cX1_memberAt 22 = .ok (.ireturn, 1) := by decide +kernel
theorem dX1_gatherWhole_0 : decode cX1_gatherWhole 0 = .ok (.aload_n 0, 1) := by decide +kernel
theorem dX1_gatherWhole_1 : decode cX1_gatherWhole 1 = .ok (.iconst 0, 1) := by decide +kernel
theorem dX1_gatherWhole_2 : decode cX1_gatherWhole 2 = .ok (.putfield 26, 3) := by decide +kernel
theorem dX1_gatherWhole_5 : decode cX1_gatherWhole 5 = .ok (.iconst 0, 1) := by decide +kernel
theorem dX1_gatherWhole_6 : decode cX1_gatherWhole 6 = .ok (.istore_n 2, 1) := by decide +kernel
theorem dX1_gatherWhole_7 : decode cX1_gatherWhole 7 = .ok (.iload_n 2, 1) := by decide +kernel
theorem dX1_gatherWhole_8 : decode cX1_gatherWhole 8 = .ok (.aload_n 1, 1) := by decide +kernel
theorem dX1_gatherWhole_9 : decode cX1_gatherWhole 9 = .ok (.getfield 70, 3) := by decide +kernel
theorem dX1_gatherWhole_12 : decode cX1_gatherWhole 12 = .ok (.if_icmp .ge 37, 3) := by decide +kernel
theorem dX1_gatherWhole_15 : decode cX1_gatherWhole 15 = .ok (.aload_n 1, 1) := by decide +kernel
theorem dX1_gatherWhole_16 : decode cX1_gatherWhole 16 = .ok (.iload_n 2, 1) := by decide +kernel
theorem dX1_gatherWhole_17 : decode cX1_gatherWhole 17 = .ok (.invokevirtual 75, 3) := by decide +kernel
theorem dX1_gatherWhole_20 : decode cX1_gatherWhole 20 = .ok (.ifCond .eq 23, 3) := by decide +kernel
theorem dX1_gatherWhole_23 : decode cX1_gatherWhole 23 = .ok (.aload_n 0, 1) := by decide +kernel
theorem dX1_gatherWhole_24 : decode cX1_gatherWhole 24 = .ok (.getfield 9, 3) := by decide +kernel
theorem dX1_gatherWhole_27 : decode cX1_gatherWhole 27 = .ok (.aload_n 0, 1) := by decide +kernel
theorem dX1_gatherWhole_28 : decode cX1_gatherWhole 28 = .ok (.getfield 26, 3) := by decide +kernel
theorem dX1_gatherWhole_31 : decode cX1_gatherWhole 31 = .ok (.iload_n 2, 1) := by decide +kernel
theorem dX1_gatherWhole_32 : decode cX1_gatherWhole 32 = .ok (.iastore, 1) := by decide +kernel
theorem dX1_gatherWhole_33 : decode cX1_gatherWhole 33 = .ok (.aload_n 0, 1) := by decide +kernel
theorem dX1_gatherWhole_34 : decode cX1_gatherWhole 34 = .ok (.dup, 1) := by decide +kernel
theorem dX1_gatherWhole_35 : decode cX1_gatherWhole 35 = .ok (.getfield 26, 3) := by decide +kernel
theorem dX1_gatherWhole_38 : decode cX1_gatherWhole 38 = .ok (.iconst 1, 1) := by decide +kernel
theorem dX1_gatherWhole_39 : decode cX1_gatherWhole 39 = .ok (.iadd, 1) := by decide +kernel
theorem dX1_gatherWhole_40 : decode cX1_gatherWhole 40 = .ok (.putfield 26, 3) := by decide +kernel
theorem dX1_gatherWhole_43 : decode cX1_gatherWhole 43 = .ok (.iinc 2 1, 3) := by decide +kernel
theorem dX1_gatherWhole_46 : decode cX1_gatherWhole 46 = .ok (.goto (-39), 3) := by decide +kernel
theorem dX1_gatherWhole_49 : decode cX1_gatherWhole 49 = .ok (.return_, 1) := by decide +kernel
theorem dX1_placeFrom_0 : decode cX1_placeFrom 0 = .ok (.iload_n 2, 1) := by decide +kernel
theorem dX1_placeFrom_1 : decode cX1_placeFrom 1 = .ok (.istore 4, 2) := by decide +kernel
theorem dX1_placeFrom_3 : decode cX1_placeFrom 3 = .ok (.iload 4, 2) := by decide +kernel
theorem dX1_placeFrom_5 : decode cX1_placeFrom 5 = .ok (.aload_n 0, 1) := by decide +kernel
theorem dX1_placeFrom_6 : decode cX1_placeFrom 6 = .ok (.getfield 30, 3) := by decide +kernel
theorem dX1_placeFrom_9 : decode cX1_placeFrom 9 = .ok (.if_icmp .ge 54, 3) := by decide +kernel
theorem dX1_placeFrom_12 : decode cX1_placeFrom 12 = .ok (.iload_n 3, 1) := by decide +kernel
theorem dX1_placeFrom_13 : decode cX1_placeFrom 13 = .ok (.iload 4, 2) := by decide +kernel
theorem dX1_placeFrom_15 : decode cX1_placeFrom 15 = .ok (.iadd, 1) := by decide +kernel
theorem dX1_placeFrom_16 : decode cX1_placeFrom 16 = .ok (.iload_n 2, 1) := by decide +kernel
theorem dX1_placeFrom_17 : decode cX1_placeFrom 17 = .ok (.isub, 1) := by decide +kernel
theorem dX1_placeFrom_18 : decode cX1_placeFrom 18 = .ok (.aload_n 0, 1) := by decide +kernel
theorem dX1_placeFrom_19 : decode cX1_placeFrom 19 = .ok (.getfield 26, 3) := by decide +kernel
theorem dX1_placeFrom_22 : decode cX1_placeFrom 22 = .ok (.if_icmp .ge 41, 3) := by decide +kernel
theorem dX1_placeFrom_25 : decode cX1_placeFrom 25 = .ok (.aload_n 0, 1) := by decide +kernel
theorem dX1_placeFrom_26 : decode cX1_placeFrom 26 = .ok (.getfield 15, 3) := by decide +kernel
theorem dX1_placeFrom_29 : decode cX1_placeFrom 29 = .ok (.iload 4, 2) := by decide +kernel
theorem dX1_placeFrom_31 : decode cX1_placeFrom 31 = .ok (.iload_n 3, 1) := by decide +kernel
theorem dX1_placeFrom_32 : decode cX1_placeFrom 32 = .ok (.iload 4, 2) := by decide +kernel
theorem dX1_placeFrom_34 : decode cX1_placeFrom 34 = .ok (.iadd, 1) := by decide +kernel
theorem dX1_placeFrom_35 : decode cX1_placeFrom 35 = .ok (.iload_n 2, 1) := by decide +kernel
theorem dX1_placeFrom_36 : decode cX1_placeFrom 36 = .ok (.isub, 1) := by decide +kernel
theorem dX1_placeFrom_37 : decode cX1_placeFrom 37 = .ok (.iastore, 1) := by decide +kernel
theorem dX1_placeFrom_38 : decode cX1_placeFrom 38 = .ok (.aload_n 0, 1) := by decide +kernel
theorem dX1_placeFrom_39 : decode cX1_placeFrom 39 = .ok (.aload_n 1, 1) := by decide +kernel
theorem dX1_placeFrom_40 : decode cX1_placeFrom 40 = .ok (.iload 4, 2) := by decide +kernel
theorem dX1_placeFrom_42 : decode cX1_placeFrom 42 = .ok (.aload_n 0, 1) := by decide +kernel
theorem dX1_placeFrom_43 : decode cX1_placeFrom 43 = .ok (.getfield 9, 3) := by decide +kernel
theorem dX1_placeFrom_46 : decode cX1_placeFrom 46 = .ok (.aload_n 0, 1) := by decide +kernel
theorem dX1_placeFrom_47 : decode cX1_placeFrom 47 = .ok (.getfield 15, 3) := by decide +kernel
theorem dX1_placeFrom_50 : decode cX1_placeFrom 50 = .ok (.iload 4, 2) := by decide +kernel
theorem dX1_placeFrom_52 : decode cX1_placeFrom 52 = .ok (.iaload, 1) := by decide +kernel
theorem dX1_placeFrom_53 : decode cX1_placeFrom 53 = .ok (.iaload, 1) := by decide +kernel
theorem dX1_placeFrom_54 : decode cX1_placeFrom 54 = .ok (.invokevirtual 79, 3) := by decide +kernel
theorem dX1_placeFrom_57 : decode cX1_placeFrom 57 = .ok (.iinc 4 1, 3) := by decide +kernel
theorem dX1_placeFrom_60 : decode cX1_placeFrom 60 = .ok (.goto (-57), 3) := by decide +kernel
theorem dX1_placeFrom_63 : decode cX1_placeFrom 63 = .ok (.return_, 1) := by decide +kernel
theorem dX1_joinCosts_0 : decode cX1_joinCosts 0 = .ok (.iconst 0, 1) := by decide +kernel
theorem dX1_joinCosts_1 : decode cX1_joinCosts 1 = .ok (.istore 4, 2) := by decide +kernel
theorem dX1_joinCosts_3 : decode cX1_joinCosts 3 = .ok (.iload 4, 2) := by decide +kernel
theorem dX1_joinCosts_5 : decode cX1_joinCosts 5 = .ok (.aload_n 1, 1) := by decide +kernel
theorem dX1_joinCosts_6 : decode cX1_joinCosts 6 = .ok (.getfield 82, 3) := by decide +kernel
theorem dX1_joinCosts_9 : decode cX1_joinCosts 9 = .ok (.if_icmp .ge 39, 3) := by decide +kernel
theorem dX1_joinCosts_12 : decode cX1_joinCosts 12 = .ok (.aload_n 0, 1) := by decide +kernel
theorem dX1_joinCosts_13 : decode cX1_joinCosts 13 = .ok (.getfield 23, 3) := by decide +kernel
theorem dX1_joinCosts_16 : decode cX1_joinCosts 16 = .ok (.iload_n 2, 1) := by decide +kernel
theorem dX1_joinCosts_17 : decode cX1_joinCosts 17 = .ok (.iconst 1, 1) := by decide +kernel
theorem dX1_joinCosts_18 : decode cX1_joinCosts 18 = .ok (.iadd, 1) := by decide +kernel
theorem dX1_joinCosts_19 : decode cX1_joinCosts 19 = .ok (.aaload, 1) := by decide +kernel
theorem dX1_joinCosts_20 : decode cX1_joinCosts 20 = .ok (.iload 4, 2) := by decide +kernel
theorem dX1_joinCosts_22 : decode cX1_joinCosts 22 = .ok (.aload_n 0, 1) := by decide +kernel
theorem dX1_joinCosts_23 : decode cX1_joinCosts 23 = .ok (.getfield 23, 3) := by decide +kernel
theorem dX1_joinCosts_26 : decode cX1_joinCosts 26 = .ok (.iload_n 2, 1) := by decide +kernel
theorem dX1_joinCosts_27 : decode cX1_joinCosts 27 = .ok (.aaload, 1) := by decide +kernel
theorem dX1_joinCosts_28 : decode cX1_joinCosts 28 = .ok (.iload 4, 2) := by decide +kernel
theorem dX1_joinCosts_30 : decode cX1_joinCosts 30 = .ok (.iaload, 1) := by decide +kernel
theorem dX1_joinCosts_31 : decode cX1_joinCosts 31 = .ok (.aload_n 1, 1) := by decide +kernel
theorem dX1_joinCosts_32 : decode cX1_joinCosts 32 = .ok (.iload_n 3, 1) := by decide +kernel
theorem dX1_joinCosts_33 : decode cX1_joinCosts 33 = .ok (.iload 4, 2) := by decide +kernel
theorem dX1_joinCosts_35 : decode cX1_joinCosts 35 = .ok (.invokevirtual 85, 3) := by decide +kernel
theorem dX1_joinCosts_38 : decode cX1_joinCosts 38 = .ok (.invokestatic 40, 3) := by decide +kernel
theorem dX1_joinCosts_41 : decode cX1_joinCosts 41 = .ok (.iastore, 1) := by decide +kernel
theorem dX1_joinCosts_42 : decode cX1_joinCosts 42 = .ok (.iinc 4 1, 3) := by decide +kernel
theorem dX1_joinCosts_45 : decode cX1_joinCosts 45 = .ok (.goto (-42), 3) := by decide +kernel
theorem dX1_joinCosts_48 : decode cX1_joinCosts 48 = .ok (.return_, 1) := by decide +kernel
theorem dX1_lastThatCanRise_0 : decode cX1_lastThatCanRise 0 = .ok (.aload_n 0, 1) := by decide +kernel
theorem dX1_lastThatCanRise_1 : decode cX1_lastThatCanRise 1 = .ok (.getfield 30, 3) := by decide +kernel
theorem dX1_lastThatCanRise_4 : decode cX1_lastThatCanRise 4 = .ok (.iconst 1, 1) := by decide +kernel
theorem dX1_lastThatCanRise_5 : decode cX1_lastThatCanRise 5 = .ok (.isub, 1) := by decide +kernel
theorem dX1_lastThatCanRise_6 : decode cX1_lastThatCanRise 6 = .ok (.istore_n 1, 1) := by decide +kernel
theorem dX1_lastThatCanRise_7 : decode cX1_lastThatCanRise 7 = .ok (.iload_n 1, 1) := by decide +kernel
theorem dX1_lastThatCanRise_8 : decode cX1_lastThatCanRise 8 = .ok (.ifCond .lt 31, 3) := by decide +kernel
theorem dX1_lastThatCanRise_11 : decode cX1_lastThatCanRise 11 = .ok (.aload_n 0, 1) := by decide +kernel
theorem dX1_lastThatCanRise_12 : decode cX1_lastThatCanRise 12 = .ok (.getfield 15, 3) := by decide +kernel
theorem dX1_lastThatCanRise_15 : decode cX1_lastThatCanRise 15 = .ok (.iload_n 1, 1) := by decide +kernel
theorem dX1_lastThatCanRise_16 : decode cX1_lastThatCanRise 16 = .ok (.iaload, 1) := by decide +kernel
theorem dX1_lastThatCanRise_17 : decode cX1_lastThatCanRise 17 = .ok (.aload_n 0, 1) := by decide +kernel
theorem dX1_lastThatCanRise_18 : decode cX1_lastThatCanRise 18 = .ok (.getfield 26, 3) := by decide +kernel
theorem dX1_lastThatCanRise_21 : decode cX1_lastThatCanRise 21 = .ok (.aload_n 0, 1) := by decide +kernel
theorem dX1_lastThatCanRise_22 : decode cX1_lastThatCanRise 22 = .ok (.getfield 30, 3) := by decide +kernel
theorem dX1_lastThatCanRise_25 : decode cX1_lastThatCanRise 25 = .ok (.isub, 1) := by decide +kernel
theorem dX1_lastThatCanRise_26 : decode cX1_lastThatCanRise 26 = .ok (.iload_n 1, 1) := by decide +kernel
theorem dX1_lastThatCanRise_27 : decode cX1_lastThatCanRise 27 = .ok (.iadd, 1) := by decide +kernel
theorem dX1_lastThatCanRise_28 : decode cX1_lastThatCanRise 28 = .ok (.if_icmp .ge 5, 3) := by decide +kernel
theorem dX1_lastThatCanRise_31 : decode cX1_lastThatCanRise 31 = .ok (.iload_n 1, 1) := by decide +kernel
theorem dX1_lastThatCanRise_32 : decode cX1_lastThatCanRise 32 = .ok (.ireturn, 1) := by decide +kernel
theorem dX1_lastThatCanRise_33 : decode cX1_lastThatCanRise 33 = .ok (.iinc 1 (-1), 3) := by decide +kernel
theorem dX1_lastThatCanRise_36 : decode cX1_lastThatCanRise 36 = .ok (.goto (-29), 3) := by decide +kernel
theorem dX1_lastThatCanRise_39 : decode cX1_lastThatCanRise 39 = .ok (.iconst (-1), 1) := by decide +kernel
theorem dX1_lastThatCanRise_40 : decode cX1_lastThatCanRise 40 = .ok (.ireturn, 1) := by decide +kernel
theorem dX1_keepIfLess_0 : decode cX1_keepIfLess 0 = .ok (.iconst 0, 1) := by decide +kernel
theorem dX1_keepIfLess_1 : decode cX1_keepIfLess 1 = .ok (.istore_n 2, 1) := by decide +kernel
theorem dX1_keepIfLess_2 : decode cX1_keepIfLess 2 = .ok (.iconst 0, 1) := by decide +kernel
theorem dX1_keepIfLess_3 : decode cX1_keepIfLess 3 = .ok (.istore_n 3, 1) := by decide +kernel
theorem dX1_keepIfLess_4 : decode cX1_keepIfLess 4 = .ok (.iload_n 3, 1) := by decide +kernel
theorem dX1_keepIfLess_5 : decode cX1_keepIfLess 5 = .ok (.aload_n 1, 1) := by decide +kernel
theorem dX1_keepIfLess_6 : decode cX1_keepIfLess 6 = .ok (.getfield 82, 3) := by decide +kernel
theorem dX1_keepIfLess_9 : decode cX1_keepIfLess 9 = .ok (.if_icmp .ge 31, 3) := by decide +kernel
theorem dX1_keepIfLess_12 : decode cX1_keepIfLess 12 = .ok (.aload_n 1, 1) := by decide +kernel
theorem dX1_keepIfLess_13 : decode cX1_keepIfLess 13 = .ok (.iload_n 3, 1) := by decide +kernel
theorem dX1_keepIfLess_14 : decode cX1_keepIfLess 14 = .ok (.invokevirtual 88, 3) := by decide +kernel
theorem dX1_keepIfLess_17 : decode cX1_keepIfLess 17 = .ok (.ifCond .eq 17, 3) := by decide +kernel
theorem dX1_keepIfLess_20 : decode cX1_keepIfLess 20 = .ok (.iload_n 2, 1) := by decide +kernel
theorem dX1_keepIfLess_21 : decode cX1_keepIfLess 21 = .ok (.aload_n 0, 1) := by decide +kernel
theorem dX1_keepIfLess_22 : decode cX1_keepIfLess 22 = .ok (.getfield 23, 3) := by decide +kernel
theorem dX1_keepIfLess_25 : decode cX1_keepIfLess 25 = .ok (.aload_n 0, 1) := by decide +kernel
theorem dX1_keepIfLess_26 : decode cX1_keepIfLess 26 = .ok (.getfield 30, 3) := by decide +kernel
theorem dX1_keepIfLess_29 : decode cX1_keepIfLess 29 = .ok (.aaload, 1) := by decide +kernel
theorem dX1_keepIfLess_30 : decode cX1_keepIfLess 30 = .ok (.iload_n 3, 1) := by decide +kernel
theorem dX1_keepIfLess_31 : decode cX1_keepIfLess 31 = .ok (.iaload, 1) := by decide +kernel
theorem dX1_keepIfLess_32 : decode cX1_keepIfLess 32 = .ok (.iadd, 1) := by decide +kernel
theorem dX1_keepIfLess_33 : decode cX1_keepIfLess 33 = .ok (.istore_n 2, 1) := by decide +kernel
theorem dX1_keepIfLess_34 : decode cX1_keepIfLess 34 = .ok (.iinc 3 1, 3) := by decide +kernel
theorem dX1_keepIfLess_37 : decode cX1_keepIfLess 37 = .ok (.goto (-33), 3) := by decide +kernel
theorem dX1_keepIfLess_40 : decode cX1_keepIfLess 40 = .ok (.iload_n 2, 1) := by decide +kernel
theorem dX1_keepIfLess_41 : decode cX1_keepIfLess 41 = .ok (.aload_n 0, 1) := by decide +kernel
theorem dX1_keepIfLess_42 : decode cX1_keepIfLess 42 = .ok (.getfield 33, 3) := by decide +kernel
theorem dX1_keepIfLess_45 : decode cX1_keepIfLess 45 = .ok (.if_icmp .ge 41, 3) := by decide +kernel
theorem dX1_keepIfLess_48 : decode cX1_keepIfLess 48 = .ok (.aload_n 0, 1) := by decide +kernel
theorem dX1_keepIfLess_49 : decode cX1_keepIfLess 49 = .ok (.iload_n 2, 1) := by decide +kernel
theorem dX1_keepIfLess_50 : decode cX1_keepIfLess 50 = .ok (.putfield 33, 3) := by decide +kernel
theorem dX1_keepIfLess_53 : decode cX1_keepIfLess 53 = .ok (.iconst 0, 1) := by decide +kernel
theorem dX1_keepIfLess_54 : decode cX1_keepIfLess 54 = .ok (.istore_n 3, 1) := by decide +kernel
theorem dX1_keepIfLess_55 : decode cX1_keepIfLess 55 = .ok (.iload_n 3, 1) := by decide +kernel
theorem dX1_keepIfLess_56 : decode cX1_keepIfLess 56 = .ok (.aload_n 0, 1) := by decide +kernel
theorem dX1_keepIfLess_57 : decode cX1_keepIfLess 57 = .ok (.getfield 30, 3) := by decide +kernel
theorem dX1_keepIfLess_60 : decode cX1_keepIfLess 60 = .ok (.if_icmp .ge 26, 3) := by decide +kernel
theorem dX1_keepIfLess_63 : decode cX1_keepIfLess 63 = .ok (.aload_n 0, 1) := by decide +kernel
theorem dX1_keepIfLess_64 : decode cX1_keepIfLess 64 = .ok (.getfield 18, 3) := by decide +kernel
theorem dX1_keepIfLess_67 : decode cX1_keepIfLess 67 = .ok (.iload_n 3, 1) := by decide +kernel
theorem dX1_keepIfLess_68 : decode cX1_keepIfLess 68 = .ok (.aload_n 0, 1) := by decide +kernel
theorem dX1_keepIfLess_69 : decode cX1_keepIfLess 69 = .ok (.getfield 9, 3) := by decide +kernel
theorem dX1_keepIfLess_72 : decode cX1_keepIfLess 72 = .ok (.aload_n 0, 1) := by decide +kernel
theorem dX1_keepIfLess_73 : decode cX1_keepIfLess 73 = .ok (.getfield 15, 3) := by decide +kernel
theorem dX1_keepIfLess_76 : decode cX1_keepIfLess 76 = .ok (.iload_n 3, 1) := by decide +kernel
theorem dX1_keepIfLess_77 : decode cX1_keepIfLess 77 = .ok (.iaload, 1) := by decide +kernel
theorem dX1_keepIfLess_78 : decode cX1_keepIfLess 78 = .ok (.iaload, 1) := by decide +kernel
theorem dX1_keepIfLess_79 : decode cX1_keepIfLess 79 = .ok (.iastore, 1) := by decide +kernel
theorem dX1_keepIfLess_80 : decode cX1_keepIfLess 80 = .ok (.iinc 3 1, 3) := by decide +kernel
theorem dX1_keepIfLess_83 : decode cX1_keepIfLess 83 = .ok (.goto (-28), 3) := by decide +kernel
theorem dX1_keepIfLess_86 : decode cX1_keepIfLess 86 = .ok (.return_, 1) := by decide +kernel
theorem dX2_init_0 : decode cX2_init 0 = .ok (.aload_n 0, 1) := by decide +kernel
theorem dX2_init_1 : decode cX2_init 1 = .ok (.invokespecial 3, 3) := by decide +kernel
theorem dX2_init_4 : decode cX2_init 4 = .ok (.aload_n 0, 1) := by decide +kernel
theorem dX2_init_5 : decode cX2_init 5 = .ok (.bipush 12, 2) := by decide +kernel
theorem dX2_init_7 : decode cX2_init 7 = .ok (.bipush 24, 2) := by decide +kernel
theorem dX2_init_9 : decode cX2_init 9 = .ok (.multianewarray 9 2, 4) := by decide +kernel
theorem dX2_init_13 : decode cX2_init 13 = .ok (.putfield 11, 3) := by decide +kernel
theorem dX2_init_16 : decode cX2_init 16 = .ok (.aload_n 0, 1) := by decide +kernel
theorem dX2_init_17 : decode cX2_init 17 = .ok (.bipush 12, 2) := by decide +kernel
theorem dX2_init_19 : decode cX2_init 19 = .ok (.newarray .int, 2) := by decide +kernel
theorem dX2_init_21 : decode cX2_init 21 = .ok (.putfield 16, 3) := by decide +kernel
theorem dX2_init_24 : decode cX2_init 24 = .ok (.aload_n 0, 1) := by decide +kernel
theorem dX2_init_25 : decode cX2_init 25 = .ok (.bipush 12, 2) := by decide +kernel
theorem dX2_init_27 : decode cX2_init 27 = .ok (.newarray .int, 2) := by decide +kernel
theorem dX2_init_29 : decode cX2_init 29 = .ok (.putfield 20, 3) := by decide +kernel
theorem dX2_init_32 : decode cX2_init 32 = .ok (.aload_n 0, 1) := by decide +kernel
theorem dX2_init_33 : decode cX2_init 33 = .ok (.bipush 12, 2) := by decide +kernel
theorem dX2_init_35 : decode cX2_init 35 = .ok (.newarray .int, 2) := by decide +kernel
theorem dX2_init_37 : decode cX2_init 37 = .ok (.putfield 23, 3) := by decide +kernel
theorem dX2_init_40 : decode cX2_init 40 = .ok (.aload_n 0, 1) := by decide +kernel
theorem dX2_init_41 : decode cX2_init 41 = .ok (.bipush 12, 2) := by decide +kernel
theorem dX2_init_43 : decode cX2_init 43 = .ok (.newarray .int, 2) := by decide +kernel
theorem dX2_init_45 : decode cX2_init 45 = .ok (.putfield 26, 3) := by decide +kernel
theorem dX2_init_48 : decode cX2_init 48 = .ok (.aload_n 0, 1) := by decide +kernel
theorem dX2_init_49 : decode cX2_init 49 = .ok (.iconst 0, 1) := by decide +kernel
theorem dX2_init_50 : decode cX2_init 50 = .ok (.putfield 29, 3) := by decide +kernel
theorem dX2_init_53 : decode cX2_init 53 = .ok (.aload_n 0, 1) := by decide +kernel
theorem dX2_init_54 : decode cX2_init 54 = .ok (.iconst 0, 1) := by decide +kernel
theorem dX2_init_55 : decode cX2_init 55 = .ok (.putfield 33, 3) := by decide +kernel
theorem dX2_init_58 : decode cX2_init 58 = .ok (.aload_n 0, 1) := by decide +kernel
theorem dX2_init_59 : decode cX2_init 59 = .ok (.iconst 0, 1) := by decide +kernel
theorem dX2_init_60 : decode cX2_init 60 = .ok (.putfield 36, 3) := by decide +kernel
theorem dX2_init_63 : decode cX2_init 63 = .ok (.aload_n 0, 1) := by decide +kernel
theorem dX2_init_64 : decode cX2_init 64 = .ok (.iconst 0, 1) := by decide +kernel
theorem dX2_init_65 : decode cX2_init 65 = .ok (.putfield 39, 3) := by decide +kernel
theorem dX2_init_68 : decode cX2_init 68 = .ok (.aload_n 0, 1) := by decide +kernel
theorem dX2_init_69 : decode cX2_init 69 = .ok (.aload_n 1, 1) := by decide +kernel
theorem dX2_init_70 : decode cX2_init 70 = .ok (.putfield 42, 3) := by decide +kernel
theorem dX2_init_73 : decode cX2_init 73 = .ok (.aload_n 0, 1) := by decide +kernel
theorem dX2_init_74 : decode cX2_init 74 = .ok (.aload_n 2, 1) := by decide +kernel
theorem dX2_init_75 : decode cX2_init 75 = .ok (.putfield 46, 3) := by decide +kernel
theorem dX2_init_78 : decode cX2_init 78 = .ok (.aload_n 0, 1) := by decide +kernel
theorem dX2_init_79 : decode cX2_init 79 = .ok (.aload_n 3, 1) := by decide +kernel
theorem dX2_init_80 : decode cX2_init 80 = .ok (.putfield 50, 3) := by decide +kernel
theorem dX2_init_83 : decode cX2_init 83 = .ok (.aload_n 0, 1) := by decide +kernel
theorem dX2_init_84 : decode cX2_init 84 = .ok (.aload_n 1, 1) := by decide +kernel
theorem dX2_init_85 : decode cX2_init 85 = .ok (.invokevirtual 54, 3) := by decide +kernel
theorem dX2_init_88 : decode cX2_init 88 = .ok (.putfield 60, 3) := by decide +kernel
theorem dX2_init_91 : decode cX2_init 91 = .ok (.aload_n 0, 1) := by decide +kernel
theorem dX2_init_92 : decode cX2_init 92 = .ok (.aload_n 1, 1) := by decide +kernel
theorem dX2_init_93 : decode cX2_init 93 = .ok (.getfield 63, 3) := by decide +kernel
theorem dX2_init_96 : decode cX2_init 96 = .ok (.putfield 66, 3) := by decide +kernel
theorem dX2_init_99 : decode cX2_init 99 = .ok (.aload_n 0, 1) := by decide +kernel
theorem dX2_init_100 : decode cX2_init 100 = .ok (.aload_n 1, 1) := by decide +kernel
theorem dX2_init_101 : decode cX2_init 101 = .ok (.getfield 63, 3) := by decide +kernel
theorem dX2_init_104 : decode cX2_init 104 = .ok (.putfield 69, 3) := by decide +kernel
theorem dX2_init_107 : decode cX2_init 107 = .ok (.return_, 1) := by decide +kernel
theorem dX2_begin_0 : decode cX2_begin 0 = .ok (.iload_n 1, 1) := by decide +kernel
theorem dX2_begin_1 : decode cX2_begin 1 = .ok (.istore_n 2, 1) := by decide +kernel
theorem dX2_begin_2 : decode cX2_begin 2 = .ok (.aload_n 0, 1) := by decide +kernel
theorem dX2_begin_3 : decode cX2_begin 3 = .ok (.getfield 60, 3) := by decide +kernel
theorem dX2_begin_6 : decode cX2_begin 6 = .ok (.arraylength, 1) := by decide +kernel
theorem dX2_begin_7 : decode cX2_begin 7 = .ok (.iconst 1, 1) := by decide +kernel
theorem dX2_begin_8 : decode cX2_begin 8 = .ok (.isub, 1) := by decide +kernel
theorem dX2_begin_9 : decode cX2_begin 9 = .ok (.istore_n 3, 1) := by decide +kernel
theorem dX2_begin_10 : decode cX2_begin 10 = .ok (.iload_n 3, 1) := by decide +kernel
theorem dX2_begin_11 : decode cX2_begin 11 = .ok (.iconst 1, 1) := by decide +kernel
theorem dX2_begin_12 : decode cX2_begin 12 = .ok (.if_icmp .lt 58, 3) := by decide +kernel
theorem dX2_begin_15 : decode cX2_begin 15 = .ok (.iload_n 2, 1) := by decide +kernel
theorem dX2_begin_16 : decode cX2_begin 16 = .ok (.ldc 72, 2) := by decide +kernel
theorem dX2_begin_18 : decode cX2_begin 18 = .ok (.imul, 1) := by decide +kernel
theorem dX2_begin_19 : decode cX2_begin 19 = .ok (.sipush 12345, 3) := by decide +kernel
theorem dX2_begin_22 : decode cX2_begin 22 = .ok (.iadd, 1) := by decide +kernel
theorem dX2_begin_23 : decode cX2_begin 23 = .ok (.istore_n 2, 1) := by decide +kernel
theorem dX2_begin_24 : decode cX2_begin 24 = .ok (.iload_n 2, 1) := by decide +kernel
theorem dX2_begin_25 : decode cX2_begin 25 = .ok (.bipush 16, 2) := by decide +kernel
theorem dX2_begin_27 : decode cX2_begin 27 = .ok (.iushr, 1) := by decide +kernel
theorem dX2_begin_28 : decode cX2_begin 28 = .ok (.iload_n 3, 1) := by decide +kernel
theorem dX2_begin_29 : decode cX2_begin 29 = .ok (.iconst 1, 1) := by decide +kernel
theorem dX2_begin_30 : decode cX2_begin 30 = .ok (.iadd, 1) := by decide +kernel
theorem dX2_begin_31 : decode cX2_begin 31 = .ok (.irem, 1) := by decide +kernel
theorem dX2_begin_32 : decode cX2_begin 32 = .ok (.istore 4, 2) := by decide +kernel
theorem dX2_begin_34 : decode cX2_begin 34 = .ok (.aload_n 0, 1) := by decide +kernel
theorem dX2_begin_35 : decode cX2_begin 35 = .ok (.getfield 60, 3) := by decide +kernel
theorem dX2_begin_38 : decode cX2_begin 38 = .ok (.iload_n 3, 1) := by decide +kernel
theorem dX2_begin_39 : decode cX2_begin 39 = .ok (.iaload, 1) := by decide +kernel
theorem dX2_begin_40 : decode cX2_begin 40 = .ok (.istore 5, 2) := by decide +kernel
theorem dX2_begin_42 : decode cX2_begin 42 = .ok (.aload_n 0, 1) := by decide +kernel
theorem dX2_begin_43 : decode cX2_begin 43 = .ok (.getfield 60, 3) := by decide +kernel
theorem dX2_begin_46 : decode cX2_begin 46 = .ok (.iload_n 3, 1) := by decide +kernel
theorem dX2_begin_47 : decode cX2_begin 47 = .ok (.aload_n 0, 1) := by decide +kernel
theorem dX2_begin_48 : decode cX2_begin 48 = .ok (.getfield 60, 3) := by decide +kernel
theorem dX2_begin_51 : decode cX2_begin 51 = .ok (.iload 4, 2) := by decide +kernel
theorem dX2_begin_53 : decode cX2_begin 53 = .ok (.iaload, 1) := by decide +kernel
theorem dX2_begin_54 : decode cX2_begin 54 = .ok (.iastore, 1) := by decide +kernel
theorem dX2_begin_55 : decode cX2_begin 55 = .ok (.aload_n 0, 1) := by decide +kernel
theorem dX2_begin_56 : decode cX2_begin 56 = .ok (.getfield 60, 3) := by decide +kernel
theorem dX2_begin_59 : decode cX2_begin 59 = .ok (.iload 4, 2) := by decide +kernel
theorem dX2_begin_61 : decode cX2_begin 61 = .ok (.iload 5, 2) := by decide +kernel
theorem dX2_begin_63 : decode cX2_begin 63 = .ok (.iastore, 1) := by decide +kernel
theorem dX2_begin_64 : decode cX2_begin 64 = .ok (.iinc 3 (-1), 3) := by decide +kernel
theorem dX2_begin_67 : decode cX2_begin 67 = .ok (.goto (-57), 3) := by decide +kernel
theorem dX2_begin_70 : decode cX2_begin 70 = .ok (.aload_n 0, 1) := by decide +kernel
theorem dX2_begin_71 : decode cX2_begin 71 = .ok (.aload_n 0, 1) := by decide +kernel
theorem dX2_begin_72 : decode cX2_begin 72 = .ok (.invokevirtual 73, 3) := by decide +kernel
theorem dX2_begin_75 : decode cX2_begin 75 = .ok (.putfield 39, 3) := by decide +kernel
theorem dX2_begin_78 : decode cX2_begin 78 = .ok (.return_, 1) := by decide +kernel
theorem dX2_whyOver_0 : decode cX2_whyOver 0 = .ok (.aload_n 0, 1) := by decide +kernel
theorem dX2_whyOver_1 : decode cX2_whyOver 1 = .ok (.getfield 69, 3) := by decide +kernel
theorem dX2_whyOver_4 : decode cX2_whyOver 4 = .ok (.iconst 1, 1) := by decide +kernel
theorem dX2_whyOver_5 : decode cX2_whyOver 5 = .ok (.if_icmp .le 17, 3) := by decide +kernel
theorem dX2_whyOver_8 : decode cX2_whyOver 8 = .ok (.aload_n 0, 1) := by decide +kernel
theorem dX2_whyOver_9 : decode cX2_whyOver 9 = .ok (.getfield 69, 3) := by decide +kernel
theorem dX2_whyOver_12 : decode cX2_whyOver 12 = .ok (.aload_n 0, 1) := by decide +kernel
theorem dX2_whyOver_13 : decode cX2_whyOver 13 = .ok (.getfield 50, 3) := by decide +kernel
theorem dX2_whyOver_16 : decode cX2_whyOver 16 = .ok (.getfield 77, 3) := by decide +kernel
theorem dX2_whyOver_19 : decode cX2_whyOver 19 = .ok (.if_icmp .gt 5, 3) := by decide +kernel
theorem dX2_whyOver_22 : decode cX2_whyOver 22 = .ok (.iconst 1, 1) := by decide +kernel
theorem dX2_whyOver_23 : decode cX2_whyOver 23 = .ok (.ireturn, 1) := by decide +kernel
theorem dX2_whyOver_24 : decode cX2_whyOver 24 = .ok (.aload_n 0, 1) := by decide +kernel
theorem dX2_whyOver_25 : decode cX2_whyOver 25 = .ok (.getfield 33, 3) := by decide +kernel
theorem dX2_whyOver_28 : decode cX2_whyOver 28 = .ok (.aload_n 0, 1) := by decide +kernel
theorem dX2_whyOver_29 : decode cX2_whyOver 29 = .ok (.getfield 60, 3) := by decide +kernel
theorem dX2_whyOver_32 : decode cX2_whyOver 32 = .ok (.arraylength, 1) := by decide +kernel
theorem dX2_whyOver_33 : decode cX2_whyOver 33 = .ok (.if_icmp .lt 5, 3) := by decide +kernel
theorem dX2_whyOver_36 : decode cX2_whyOver 36 = .ok (.iconst 2, 1) := by decide +kernel
theorem dX2_whyOver_37 : decode cX2_whyOver 37 = .ok (.ireturn, 1) := by decide +kernel
theorem dX2_whyOver_38 : decode cX2_whyOver 38 = .ok (.aload_n 0, 1) := by decide +kernel
theorem dX2_whyOver_39 : decode cX2_whyOver 39 = .ok (.getfield 50, 3) := by decide +kernel
theorem dX2_whyOver_42 : decode cX2_whyOver 42 = .ok (.getfield 82, 3) := by decide +kernel
theorem dX2_whyOver_45 : decode cX2_whyOver 45 = .ok (.aload_n 0, 1) := by decide +kernel
theorem dX2_whyOver_46 : decode cX2_whyOver 46 = .ok (.getfield 36, 3) := by decide +kernel
theorem dX2_whyOver_49 : decode cX2_whyOver 49 = .ok (.isub, 1) := by decide +kernel
theorem dX2_whyOver_50 : decode cX2_whyOver 50 = .ok (.aload_n 0, 1) := by decide +kernel
theorem dX2_whyOver_51 : decode cX2_whyOver 51 = .ok (.getfield 69, 3) := by decide +kernel
theorem dX2_whyOver_54 : decode cX2_whyOver 54 = .ok (.if_icmp .ge 7, 3) := by decide +kernel
theorem dX2_whyOver_57 : decode cX2_whyOver 57 = .ok (.iconst 3, 1) := by decide +kernel
theorem dX2_whyOver_58 : decode cX2_whyOver 58 = .ok (.goto 4, 3) := by decide +kernel
theorem dX2_whyOver_61 : decode cX2_whyOver 61 = .ok (.iconst 0, 1) := by decide +kernel
theorem dX2_whyOver_62 : decode cX2_whyOver 62 = .ok (.ireturn, 1) := by decide +kernel
theorem dX2_isEntered_0 : decode cX2_isEntered 0 = .ok (.iload_n 1, 1) := by decide +kernel
theorem dX2_isEntered_1 : decode cX2_isEntered 1 = .ok (.ifCond .lt 15, 3) := by decide +kernel
theorem dX2_isEntered_4 : decode cX2_isEntered 4 = .ok (.iload_n 1, 1) := by decide +kernel
theorem dX2_isEntered_5 : decode cX2_isEntered 5 = .ok (.aload_n 0, 1) := by decide +kernel
theorem dX2_isEntered_6 : decode cX2_isEntered 6 = .ok (.getfield 66, 3) := by decide +kernel
theorem dX2_isEntered_9 : decode cX2_isEntered 9 = .ok (.if_icmp .ge 7, 3) := by decide +kernel
theorem dX2_isEntered_12 : decode cX2_isEntered 12 = .ok (.iconst 1, 1) := by decide +kernel
theorem dX2_isEntered_13 : decode cX2_isEntered 13 = .ok (.goto 4, 3) := by decide +kernel
theorem dX2_isEntered_16 : decode cX2_isEntered 16 = .ok (.iconst 0, 1) := by decide +kernel
theorem dX2_isEntered_17 : decode cX2_isEntered 17 = .ok (.ireturn, 1) := by decide +kernel
theorem dX2_isLeft_0 : decode cX2_isLeft 0 = .ok (.iload_n 1, 1) := by decide +kernel
theorem dX2_isLeft_1 : decode cX2_isLeft 1 = .ok (.ifCond .lt 24, 3) := by decide +kernel
theorem dX2_isLeft_4 : decode cX2_isLeft 4 = .ok (.iload_n 1, 1) := by decide +kernel
theorem dX2_isLeft_5 : decode cX2_isLeft 5 = .ok (.aload_n 0, 1) := by decide +kernel
theorem dX2_isLeft_6 : decode cX2_isLeft 6 = .ok (.getfield 66, 3) := by decide +kernel
theorem dX2_isLeft_9 : decode cX2_isLeft 9 = .ok (.if_icmp .ge 16, 3) := by decide +kernel
theorem dX2_isLeft_12 : decode cX2_isLeft 12 = .ok (.aload_n 0, 1) := by decide +kernel
theorem dX2_isLeft_13 : decode cX2_isLeft 13 = .ok (.getfield 16, 3) := by decide +kernel
theorem dX2_isLeft_16 : decode cX2_isLeft 16 = .ok (.iload_n 1, 1) := by decide +kernel
theorem dX2_isLeft_17 : decode cX2_isLeft 17 = .ok (.iaload, 1) := by decide +kernel
theorem dX2_isLeft_18 : decode cX2_isLeft 18 = .ok (.ifCond .ne 7, 3) := by decide +kernel
theorem dX2_isLeft_21 : decode cX2_isLeft 21 = .ok (.iconst 1, 1) := by decide +kernel
theorem dX2_isLeft_22 : decode cX2_isLeft 22 = .ok (.goto 4, 3) := by decide +kernel
theorem dX2_isLeft_25 : decode cX2_isLeft 25 = .ok (.iconst 0, 1) := by decide +kernel
theorem dX2_isLeft_26 : decode cX2_isLeft 26 = .ok (.ireturn, 1) := by decide +kernel
theorem dX2_instanceAt_0 : decode cX2_instanceAt 0 = .ok (.iload_n 1, 1) := by decide +kernel
theorem dX2_instanceAt_1 : decode cX2_instanceAt 1 = .ok (.ifCond .lt 21, 3) := by decide +kernel
theorem dX2_instanceAt_4 : decode cX2_instanceAt 4 = .ok (.iload_n 1, 1) := by decide +kernel
theorem dX2_instanceAt_5 : decode cX2_instanceAt 5 = .ok (.aload_n 0, 1) := by decide +kernel
theorem dX2_instanceAt_6 : decode cX2_instanceAt 6 = .ok (.getfield 60, 3) := by decide +kernel
theorem dX2_instanceAt_9 : decode cX2_instanceAt 9 = .ok (.arraylength, 1) := by decide +kernel
theorem dX2_instanceAt_10 : decode cX2_instanceAt 10 = .ok (.if_icmp .ge 12, 3) := by decide +kernel
theorem dX2_instanceAt_13 : decode cX2_instanceAt 13 = .ok (.aload_n 0, 1) := by decide +kernel
theorem dX2_instanceAt_14 : decode cX2_instanceAt 14 = .ok (.getfield 60, 3) := by decide +kernel
theorem dX2_instanceAt_17 : decode cX2_instanceAt 17 = .ok (.iload_n 1, 1) := by decide +kernel
theorem dX2_instanceAt_18 : decode cX2_instanceAt 18 = .ok (.iaload, 1) := by decide +kernel
theorem dX2_instanceAt_19 : decode cX2_instanceAt 19 = .ok (.goto 4, 3) := by decide +kernel
theorem dX2_instanceAt_22 : decode cX2_instanceAt 22 = .ok (.iconst (-1), 1) := by decide +kernel
theorem dX2_instanceAt_23 : decode cX2_instanceAt 23 = .ok (.ireturn, 1) := by decide +kernel
theorem dX2_remainingAt_0 : decode cX2_remainingAt 0 = .ok (.iconst 0, 1) := by decide +kernel
theorem dX2_remainingAt_1 : decode cX2_remainingAt 1 = .ok (.istore_n 2, 1) := by decide +kernel
theorem dX2_remainingAt_2 : decode cX2_remainingAt 2 = .ok (.iconst 0, 1) := by decide +kernel
theorem dX2_remainingAt_3 : decode cX2_remainingAt 3 = .ok (.istore_n 3, 1) := by decide +kernel
theorem dX2_remainingAt_4 : decode cX2_remainingAt 4 = .ok (.iload_n 3, 1) := by decide +kernel
theorem dX2_remainingAt_5 : decode cX2_remainingAt 5 = .ok (.aload_n 0, 1) := by decide +kernel
theorem dX2_remainingAt_6 : decode cX2_remainingAt 6 = .ok (.getfield 66, 3) := by decide +kernel
theorem dX2_remainingAt_9 : decode cX2_remainingAt 9 = .ok (.if_icmp .ge 27, 3) := by decide +kernel
theorem dX2_remainingAt_12 : decode cX2_remainingAt 12 = .ok (.aload_n 0, 1) := by decide +kernel
theorem dX2_remainingAt_13 : decode cX2_remainingAt 13 = .ok (.iload_n 3, 1) := by decide +kernel
theorem dX2_remainingAt_14 : decode cX2_remainingAt 14 = .ok (.invokevirtual 85, 3) := by decide +kernel
theorem dX2_remainingAt_17 : decode cX2_remainingAt 17 = .ok (.ifCond .eq 13, 3) := by decide +kernel
theorem dX2_remainingAt_20 : decode cX2_remainingAt 20 = .ok (.iload_n 2, 1) := by decide +kernel
theorem dX2_remainingAt_21 : decode cX2_remainingAt 21 = .ok (.iload_n 1, 1) := by decide +kernel
theorem dX2_remainingAt_22 : decode cX2_remainingAt 22 = .ok (.if_icmp .ne 5, 3) := by decide +kernel
theorem dX2_remainingAt_25 : decode cX2_remainingAt 25 = .ok (.iload_n 3, 1) := by decide +kernel
theorem dX2_remainingAt_26 : decode cX2_remainingAt 26 = .ok (.ireturn, 1) := by decide +kernel
theorem dX2_remainingAt_27 : decode cX2_remainingAt 27 = .ok (.iinc 2 1, 3) := by decide +kernel
theorem dX2_remainingAt_30 : decode cX2_remainingAt 30 = .ok (.iinc 3 1, 3) := by decide +kernel
theorem dX2_remainingAt_33 : decode cX2_remainingAt 33 = .ok (.goto (-29), 3) := by decide +kernel
theorem dX2_remainingAt_36 : decode cX2_remainingAt 36 = .ok (.iconst (-1), 1) := by decide +kernel
theorem dX2_remainingAt_37 : decode cX2_remainingAt 37 = .ok (.ireturn, 1) := by decide +kernel
theorem dX2_leftFrom_0 : decode cX2_leftFrom 0 = .ok (.iload_n 1, 1) := by decide +kernel
theorem dX2_leftFrom_1 : decode cX2_leftFrom 1 = .ok (.istore_n 2, 1) := by decide +kernel
theorem dX2_leftFrom_2 : decode cX2_leftFrom 2 = .ok (.iload_n 2, 1) := by decide +kernel
theorem dX2_leftFrom_3 : decode cX2_leftFrom 3 = .ok (.aload_n 0, 1) := by decide +kernel
theorem dX2_leftFrom_4 : decode cX2_leftFrom 4 = .ok (.getfield 66, 3) := by decide +kernel
theorem dX2_leftFrom_7 : decode cX2_leftFrom 7 = .ok (.if_icmp .ge 19, 3) := by decide +kernel
theorem dX2_leftFrom_10 : decode cX2_leftFrom 10 = .ok (.aload_n 0, 1) := by decide +kernel
theorem dX2_leftFrom_11 : decode cX2_leftFrom 11 = .ok (.iload_n 2, 1) := by decide +kernel
theorem dX2_leftFrom_12 : decode cX2_leftFrom 12 = .ok (.invokevirtual 85, 3) := by decide +kernel
theorem dX2_leftFrom_15 : decode cX2_leftFrom 15 = .ok (.ifCond .eq 5, 3) := by decide +kernel
theorem dX2_leftFrom_18 : decode cX2_leftFrom 18 = .ok (.iload_n 2, 1) := by decide +kernel
theorem dX2_leftFrom_19 : decode cX2_leftFrom 19 = .ok (.ireturn, 1) := by decide +kernel
theorem dX2_leftFrom_20 : decode cX2_leftFrom 20 = .ok (.iinc 2 1, 3) := by decide +kernel
theorem dX2_leftFrom_23 : decode cX2_leftFrom 23 = .ok (.goto (-21), 3) := by decide +kernel
theorem dX2_leftFrom_26 : decode cX2_leftFrom 26 = .ok (.iconst (-1), 1) := by decide +kernel
theorem dX2_leftFrom_27 : decode cX2_leftFrom 27 = .ok (.ireturn, 1) := by decide +kernel
theorem dX2_runNext_0 : decode cX2_runNext 0 = .ok (.aload_n 0, 1) := by decide +kernel
theorem dX2_runNext_1 : decode cX2_runNext 1 = .ok (.getfield 42, 3) := by decide +kernel
theorem dX2_runNext_4 : decode cX2_runNext 4 = .ok (.aload_n 0, 1) := by decide +kernel
theorem dX2_runNext_5 : decode cX2_runNext 5 = .ok (.getfield 29, 3) := by decide +kernel
theorem dX2_runNext_8 : decode cX2_runNext 8 = .ok (.aload_n 0, 1) := by decide +kernel
theorem dX2_runNext_9 : decode cX2_runNext 9 = .ok (.aload_n 0, 1) := by decide +kernel
theorem dX2_runNext_10 : decode cX2_runNext 10 = .ok (.getfield 33, 3) := by decide +kernel
theorem dX2_runNext_13 : decode cX2_runNext 13 = .ok (.invokevirtual 89, 3) := by decide +kernel
theorem dX2_runNext_16 : decode cX2_runNext 16 = .ok (.invokevirtual 93, 3) := by decide +kernel
theorem dX2_runNext_19 : decode cX2_runNext 19 = .ok (.istore_n 1, 1) := by decide +kernel
theorem dX2_runNext_20 : decode cX2_runNext 20 = .ok (.aload_n 0, 1) := by decide +kernel
theorem dX2_runNext_21 : decode cX2_runNext 21 = .ok (.getfield 39, 3) := by decide +kernel
theorem dX2_runNext_24 : decode cX2_runNext 24 = .ok (.ifCond .ne 19, 3) := by decide +kernel
theorem dX2_runNext_27 : decode cX2_runNext 27 = .ok (.iload_n 1, 1) := by decide +kernel
theorem dX2_runNext_28 : decode cX2_runNext 28 = .ok (.iconst (-1), 1) := by decide +kernel
theorem dX2_runNext_29 : decode cX2_runNext 29 = .ok (.if_icmp .eq 14, 3) := by decide +kernel
theorem dX2_runNext_32 : decode cX2_runNext 32 = .ok (.aload_n 0, 1) := by decide +kernel
theorem dX2_runNext_33 : decode cX2_runNext 33 = .ok (.aload_n 0, 1) := by decide +kernel
theorem dX2_runNext_34 : decode cX2_runNext 34 = .ok (.getfield 29, 3) := by decide +kernel
theorem dX2_runNext_37 : decode cX2_runNext 37 = .ok (.invokevirtual 85, 3) := by decide +kernel
theorem dX2_runNext_40 : decode cX2_runNext 40 = .ok (.ifCond .ne 6, 3) := by decide +kernel
theorem dX2_runNext_43 : decode cX2_runNext 43 = .ok (.bipush (-3), 2) := by decide +kernel
theorem dX2_runNext_45 : decode cX2_runNext 45 = .ok (.ireturn, 1) := by decide +kernel
theorem dX2_runNext_46 : decode cX2_runNext 46 = .ok (.aload_n 0, 1) := by decide +kernel
theorem dX2_runNext_47 : decode cX2_runNext 47 = .ok (.getfield 11, 3) := by decide +kernel
theorem dX2_runNext_50 : decode cX2_runNext 50 = .ok (.aload_n 0, 1) := by decide +kernel
theorem dX2_runNext_51 : decode cX2_runNext 51 = .ok (.getfield 29, 3) := by decide +kernel
theorem dX2_runNext_54 : decode cX2_runNext 54 = .ok (.aaload, 1) := by decide +kernel
theorem dX2_runNext_55 : decode cX2_runNext 55 = .ok (.aload_n 0, 1) := by decide +kernel
theorem dX2_runNext_56 : decode cX2_runNext 56 = .ok (.getfield 33, 3) := by decide +kernel
theorem dX2_runNext_59 : decode cX2_runNext 59 = .ok (.iload_n 1, 1) := by decide +kernel
theorem dX2_runNext_60 : decode cX2_runNext 60 = .ok (.iastore, 1) := by decide +kernel
theorem dX2_runNext_61 : decode cX2_runNext 61 = .ok (.aload_n 0, 1) := by decide +kernel
theorem dX2_runNext_62 : decode cX2_runNext 62 = .ok (.getfield 20, 3) := by decide +kernel
theorem dX2_runNext_65 : decode cX2_runNext 65 = .ok (.aload_n 0, 1) := by decide +kernel
theorem dX2_runNext_66 : decode cX2_runNext 66 = .ok (.getfield 29, 3) := by decide +kernel
theorem dX2_runNext_69 : decode cX2_runNext 69 = .ok (.dup2, 1) := by decide +kernel
theorem dX2_runNext_70 : decode cX2_runNext 70 = .ok (.iaload, 1) := by decide +kernel
theorem dX2_runNext_71 : decode cX2_runNext 71 = .ok (.iconst 1, 1) := by decide +kernel
theorem dX2_runNext_72 : decode cX2_runNext 72 = .ok (.iadd, 1) := by decide +kernel
theorem dX2_runNext_73 : decode cX2_runNext 73 = .ok (.iastore, 1) := by decide +kernel
theorem dX2_runNext_74 : decode cX2_runNext 74 = .ok (.aload_n 0, 1) := by decide +kernel
theorem dX2_runNext_75 : decode cX2_runNext 75 = .ok (.dup, 1) := by decide +kernel
theorem dX2_runNext_76 : decode cX2_runNext 76 = .ok (.getfield 36, 3) := by decide +kernel
theorem dX2_runNext_79 : decode cX2_runNext 79 = .ok (.iconst 1, 1) := by decide +kernel
theorem dX2_runNext_80 : decode cX2_runNext 80 = .ok (.iadd, 1) := by decide +kernel
theorem dX2_runNext_81 : decode cX2_runNext 81 = .ok (.putfield 36, 3) := by decide +kernel
theorem dX2_runNext_84 : decode cX2_runNext 84 = .ok (.aload_n 0, 1) := by decide +kernel
theorem dX2_runNext_85 : decode cX2_runNext 85 = .ok (.aload_n 0, 1) := by decide +kernel
theorem dX2_runNext_86 : decode cX2_runNext 86 = .ok (.aload_n 0, 1) := by decide +kernel
theorem dX2_runNext_87 : decode cX2_runNext 87 = .ok (.getfield 29, 3) := by decide +kernel
theorem dX2_runNext_90 : decode cX2_runNext 90 = .ok (.iconst 1, 1) := by decide +kernel
theorem dX2_runNext_91 : decode cX2_runNext 91 = .ok (.iadd, 1) := by decide +kernel
theorem dX2_runNext_92 : decode cX2_runNext 92 = .ok (.invokevirtual 97, 3) := by decide +kernel
theorem dX2_runNext_95 : decode cX2_runNext 95 = .ok (.putfield 29, 3) := by decide +kernel
theorem dX2_runNext_98 : decode cX2_runNext 98 = .ok (.aload_n 0, 1) := by decide +kernel
theorem dX2_runNext_99 : decode cX2_runNext 99 = .ok (.getfield 29, 3) := by decide +kernel
theorem dX2_runNext_102 : decode cX2_runNext 102 = .ok (.iconst (-1), 1) := by decide +kernel
theorem dX2_runNext_103 : decode cX2_runNext 103 = .ok (.if_icmp .ne 7, 3) := by decide +kernel
theorem dX2_runNext_106 : decode cX2_runNext 106 = .ok (.aload_n 0, 1) := by decide +kernel
theorem dX2_runNext_107 : decode cX2_runNext 107 = .ok (.invokevirtual 100, 3) := by decide +kernel
theorem dX2_runNext_110 : decode cX2_runNext 110 = .ok (.aload_n 0, 1) := by decide +kernel
theorem dX2_runNext_111 : decode cX2_runNext 111 = .ok (.getfield 36, 3) := by decide +kernel
theorem dX2_runNext_114 : decode cX2_runNext 114 = .ok (.ireturn, 1) := by decide +kernel
theorem dX2_endRound_0 : decode cX2_endRound 0 = .ok (.aload_n 0, 1) := by decide +kernel
theorem dX2_endRound_1 : decode cX2_endRound 1 = .ok (.dup, 1) := by decide +kernel
theorem dX2_endRound_2 : decode cX2_endRound 2 = .ok (.getfield 33, 3) := by decide +kernel
theorem dX2_endRound_5 : decode cX2_endRound 5 = .ok (.iconst 1, 1) := by decide +kernel
theorem dX2_endRound_6 : decode cX2_endRound 6 = .ok (.iadd, 1) := by decide +kernel
theorem dX2_endRound_7 : decode cX2_endRound 7 = .ok (.putfield 33, 3) := by decide +kernel
theorem dX2_endRound_10 : decode cX2_endRound 10 = .ok (.aload_n 0, 1) := by decide +kernel
theorem dX2_endRound_11 : decode cX2_endRound 11 = .ok (.getfield 33, 3) := by decide +kernel
theorem dX2_endRound_14 : decode cX2_endRound 14 = .ok (.aload_n 0, 1) := by decide +kernel
theorem dX2_endRound_15 : decode cX2_endRound 15 = .ok (.getfield 50, 3) := by decide +kernel
theorem dX2_endRound_18 : decode cX2_endRound 18 = .ok (.getfield 103, 3) := by decide +kernel
theorem dX2_endRound_21 : decode cX2_endRound 21 = .ok (.if_icmp .lt 7, 3) := by decide +kernel
theorem dX2_endRound_24 : decode cX2_endRound 24 = .ok (.aload_n 0, 1) := by decide +kernel
theorem dX2_endRound_25 : decode cX2_endRound 25 = .ok (.invokevirtual 106, 3) := by decide +kernel
theorem dX2_endRound_28 : decode cX2_endRound 28 = .ok (.aload_n 0, 1) := by decide +kernel
theorem dX2_endRound_29 : decode cX2_endRound 29 = .ok (.aload_n 0, 1) := by decide +kernel
theorem dX2_endRound_30 : decode cX2_endRound 30 = .ok (.iconst 0, 1) := by decide +kernel
theorem dX2_endRound_31 : decode cX2_endRound 31 = .ok (.invokevirtual 97, 3) := by decide +kernel
theorem dX2_endRound_34 : decode cX2_endRound 34 = .ok (.putfield 29, 3) := by decide +kernel
theorem dX2_endRound_37 : decode cX2_endRound 37 = .ok (.aload_n 0, 1) := by decide +kernel
theorem dX2_endRound_38 : decode cX2_endRound 38 = .ok (.aload_n 0, 1) := by decide +kernel
theorem dX2_endRound_39 : decode cX2_endRound 39 = .ok (.invokevirtual 73, 3) := by decide +kernel
theorem dX2_endRound_42 : decode cX2_endRound 42 = .ok (.putfield 39, 3) := by decide +kernel
theorem dX2_endRound_45 : decode cX2_endRound 45 = .ok (.return_, 1) := by decide +kernel
theorem dX2_dropWorse_0 : decode cX2_dropWorse 0 = .ok (.aload_n 0, 1) := by decide +kernel
theorem dX2_dropWorse_1 : decode cX2_dropWorse 1 = .ok (.invokevirtual 109, 3) := by decide +kernel
theorem dX2_dropWorse_4 : decode cX2_dropWorse 4 = .ok (.istore_n 1, 1) := by decide +kernel
theorem dX2_dropWorse_5 : decode cX2_dropWorse 5 = .ok (.aload_n 0, 1) := by decide +kernel
theorem dX2_dropWorse_6 : decode cX2_dropWorse 6 = .ok (.getfield 23, 3) := by decide +kernel
theorem dX2_dropWorse_9 : decode cX2_dropWorse 9 = .ok (.iconst 0, 1) := by decide +kernel
theorem dX2_dropWorse_10 : decode cX2_dropWorse 10 = .ok (.iaload, 1) := by decide +kernel
theorem dX2_dropWorse_11 : decode cX2_dropWorse 11 = .ok (.istore_n 2, 1) := by decide +kernel
theorem dX2_dropWorse_12 : decode cX2_dropWorse 12 = .ok (.iload_n 1, 1) := by decide +kernel
theorem dX2_dropWorse_13 : decode cX2_dropWorse 13 = .ok (.iconst 1, 1) := by decide +kernel
theorem dX2_dropWorse_14 : decode cX2_dropWorse 14 = .ok (.isub, 1) := by decide +kernel
theorem dX2_dropWorse_15 : decode cX2_dropWorse 15 = .ok (.istore_n 3, 1) := by decide +kernel
theorem dX2_dropWorse_16 : decode cX2_dropWorse 16 = .ok (.iload_n 3, 1) := by decide +kernel
theorem dX2_dropWorse_17 : decode cX2_dropWorse 17 = .ok (.iconst 1, 1) := by decide +kernel
theorem dX2_dropWorse_18 : decode cX2_dropWorse 18 = .ok (.if_icmp .lt 92, 3) := by decide +kernel
theorem dX2_dropWorse_21 : decode cX2_dropWorse 21 = .ok (.aload_n 0, 1) := by decide +kernel
theorem dX2_dropWorse_22 : decode cX2_dropWorse 22 = .ok (.getfield 69, 3) := by decide +kernel
theorem dX2_dropWorse_25 : decode cX2_dropWorse 25 = .ok (.aload_n 0, 1) := by decide +kernel
theorem dX2_dropWorse_26 : decode cX2_dropWorse 26 = .ok (.getfield 50, 3) := by decide +kernel
theorem dX2_dropWorse_29 : decode cX2_dropWorse 29 = .ok (.getfield 77, 3) := by decide +kernel
theorem dX2_dropWorse_32 : decode cX2_dropWorse 32 = .ok (.if_icmp .le 78, 3) := by decide +kernel
theorem dX2_dropWorse_35 : decode cX2_dropWorse 35 = .ok (.aload_n 0, 1) := by decide +kernel
theorem dX2_dropWorse_36 : decode cX2_dropWorse 36 = .ok (.getfield 23, 3) := by decide +kernel
theorem dX2_dropWorse_39 : decode cX2_dropWorse 39 = .ok (.iload_n 3, 1) := by decide +kernel
theorem dX2_dropWorse_40 : decode cX2_dropWorse 40 = .ok (.iaload, 1) := by decide +kernel
theorem dX2_dropWorse_41 : decode cX2_dropWorse 41 = .ok (.istore 4, 2) := by decide +kernel
theorem dX2_dropWorse_43 : decode cX2_dropWorse 43 = .ok (.aload_n 0, 1) := by decide +kernel
theorem dX2_dropWorse_44 : decode cX2_dropWorse 44 = .ok (.iload_n 2, 1) := by decide +kernel
theorem dX2_dropWorse_45 : decode cX2_dropWorse 45 = .ok (.iload 4, 2) := by decide +kernel
theorem dX2_dropWorse_47 : decode cX2_dropWorse 47 = .ok (.invokevirtual 112, 3) := by decide +kernel
theorem dX2_dropWorse_50 : decode cX2_dropWorse 50 = .ok (.aload_n 0, 1) := by decide +kernel
theorem dX2_dropWorse_51 : decode cX2_dropWorse 51 = .ok (.iload 4, 2) := by decide +kernel
theorem dX2_dropWorse_53 : decode cX2_dropWorse 53 = .ok (.invokevirtual 85, 3) := by decide +kernel
theorem dX2_dropWorse_56 : decode cX2_dropWorse 56 = .ok (.ifCond .eq 48, 3) := by decide +kernel
theorem dX2_dropWorse_59 : decode cX2_dropWorse 59 = .ok (.aload_n 0, 1) := by decide +kernel
theorem dX2_dropWorse_60 : decode cX2_dropWorse 60 = .ok (.getfield 46, 3) := by decide +kernel
theorem dX2_dropWorse_63 : decode cX2_dropWorse 63 = .ok (.aload_n 0, 1) := by decide +kernel
theorem dX2_dropWorse_64 : decode cX2_dropWorse 64 = .ok (.getfield 50, 3) := by decide +kernel
theorem dX2_dropWorse_67 : decode cX2_dropWorse 67 = .ok (.getfield 116, 3) := by decide +kernel
theorem dX2_dropWorse_70 : decode cX2_dropWorse 70 = .ok (.aload_n 0, 1) := by decide +kernel
theorem dX2_dropWorse_71 : decode cX2_dropWorse 71 = .ok (.getfield 50, 3) := by decide +kernel
theorem dX2_dropWorse_74 : decode cX2_dropWorse 74 = .ok (.getfield 119, 3) := by decide +kernel
theorem dX2_dropWorse_77 : decode cX2_dropWorse 77 = .ok (.invokevirtual 122, 3) := by decide +kernel
theorem dX2_dropWorse_80 : decode cX2_dropWorse 80 = .ok (.ifCond .ne 24, 3) := by decide +kernel
theorem dX2_dropWorse_83 : decode cX2_dropWorse 83 = .ok (.aload_n 0, 1) := by decide +kernel
theorem dX2_dropWorse_84 : decode cX2_dropWorse 84 = .ok (.getfield 16, 3) := by decide +kernel
theorem dX2_dropWorse_87 : decode cX2_dropWorse 87 = .ok (.iload 4, 2) := by decide +kernel
theorem dX2_dropWorse_89 : decode cX2_dropWorse 89 = .ok (.aload_n 0, 1) := by decide +kernel
theorem dX2_dropWorse_90 : decode cX2_dropWorse 90 = .ok (.getfield 33, 3) := by decide +kernel
theorem dX2_dropWorse_93 : decode cX2_dropWorse 93 = .ok (.iastore, 1) := by decide +kernel
theorem dX2_dropWorse_94 : decode cX2_dropWorse 94 = .ok (.aload_n 0, 1) := by decide +kernel
theorem dX2_dropWorse_95 : decode cX2_dropWorse 95 = .ok (.dup, 1) := by decide +kernel
theorem dX2_dropWorse_96 : decode cX2_dropWorse 96 = .ok (.getfield 69, 3) := by decide +kernel
theorem dX2_dropWorse_99 : decode cX2_dropWorse 99 = .ok (.iconst 1, 1) := by decide +kernel
theorem dX2_dropWorse_100 : decode cX2_dropWorse 100 = .ok (.isub, 1) := by decide +kernel
theorem dX2_dropWorse_101 : decode cX2_dropWorse 101 = .ok (.putfield 69, 3) := by decide +kernel
theorem dX2_dropWorse_104 : decode cX2_dropWorse 104 = .ok (.iinc 3 (-1), 3) := by decide +kernel
theorem dX2_dropWorse_107 : decode cX2_dropWorse 107 = .ok (.goto (-91), 3) := by decide +kernel
theorem dX2_dropWorse_110 : decode cX2_dropWorse 110 = .ok (.return_, 1) := by decide +kernel
theorem dX2_leader_0 : decode cX2_leader 0 = .ok (.aload_n 0, 1) := by decide +kernel
theorem dX2_leader_1 : decode cX2_leader 1 = .ok (.invokevirtual 109, 3) := by decide +kernel
theorem dX2_leader_4 : decode cX2_leader 4 = .ok (.ifCond .ne 7, 3) := by decide +kernel
theorem dX2_leader_7 : decode cX2_leader 7 = .ok (.iconst (-1), 1) := by decide +kernel
theorem dX2_leader_8 : decode cX2_leader 8 = .ok (.goto 9, 3) := by decide +kernel
theorem dX2_leader_11 : decode cX2_leader 11 = .ok (.aload_n 0, 1) := by decide +kernel
theorem dX2_leader_12 : decode cX2_leader 12 = .ok (.getfield 23, 3) := by decide +kernel
theorem dX2_leader_15 : decode cX2_leader 15 = .ok (.iconst 0, 1) := by decide +kernel
theorem dX2_leader_16 : decode cX2_leader 16 = .ok (.iaload, 1) := by decide +kernel
theorem dX2_leader_17 : decode cX2_leader 17 = .ok (.ireturn, 1) := by decide +kernel
theorem dX2_arrange_0 : decode cX2_arrange 0 = .ok (.iconst 0, 1) := by decide +kernel
theorem dX2_arrange_1 : decode cX2_arrange 1 = .ok (.istore_n 1, 1) := by decide +kernel
theorem dX2_arrange_2 : decode cX2_arrange 2 = .ok (.iconst 0, 1) := by decide +kernel
theorem dX2_arrange_3 : decode cX2_arrange 3 = .ok (.istore_n 2, 1) := by decide +kernel
theorem dX2_arrange_4 : decode cX2_arrange 4 = .ok (.iload_n 2, 1) := by decide +kernel
theorem dX2_arrange_5 : decode cX2_arrange 5 = .ok (.aload_n 0, 1) := by decide +kernel
theorem dX2_arrange_6 : decode cX2_arrange 6 = .ok (.getfield 66, 3) := by decide +kernel
theorem dX2_arrange_9 : decode cX2_arrange 9 = .ok (.if_icmp .ge 101, 3) := by decide +kernel
theorem dX2_arrange_12 : decode cX2_arrange 12 = .ok (.aload_n 0, 1) := by decide +kernel
theorem dX2_arrange_13 : decode cX2_arrange 13 = .ok (.iload_n 2, 1) := by decide +kernel
theorem dX2_arrange_14 : decode cX2_arrange 14 = .ok (.invokevirtual 85, 3) := by decide +kernel
theorem dX2_arrange_17 : decode cX2_arrange 17 = .ok (.ifCond .eq 87, 3) := by decide +kernel
theorem dX2_arrange_20 : decode cX2_arrange 20 = .ok (.aload_n 0, 1) := by decide +kernel
theorem dX2_arrange_21 : decode cX2_arrange 21 = .ok (.iload_n 2, 1) := by decide +kernel
theorem dX2_arrange_22 : decode cX2_arrange 22 = .ok (.invokevirtual 128, 3) := by decide +kernel
theorem dX2_arrange_25 : decode cX2_arrange 25 = .ok (.istore_n 3, 1) := by decide +kernel
theorem dX2_arrange_26 : decode cX2_arrange 26 = .ok (.iload_n 1, 1) := by decide +kernel
theorem dX2_arrange_27 : decode cX2_arrange 27 = .ok (.istore 4, 2) := by decide +kernel
theorem dX2_arrange_29 : decode cX2_arrange 29 = .ok (.iload 4, 2) := by decide +kernel
theorem dX2_arrange_31 : decode cX2_arrange 31 = .ok (.ifCond .le 54, 3) := by decide +kernel
theorem dX2_arrange_34 : decode cX2_arrange 34 = .ok (.aload_n 0, 1) := by decide +kernel
theorem dX2_arrange_35 : decode cX2_arrange 35 = .ok (.getfield 26, 3) := by decide +kernel
theorem dX2_arrange_38 : decode cX2_arrange 38 = .ok (.iload 4, 2) := by decide +kernel
theorem dX2_arrange_40 : decode cX2_arrange 40 = .ok (.iconst 1, 1) := by decide +kernel
theorem dX2_arrange_41 : decode cX2_arrange 41 = .ok (.isub, 1) := by decide +kernel
theorem dX2_arrange_42 : decode cX2_arrange 42 = .ok (.iaload, 1) := by decide +kernel
theorem dX2_arrange_43 : decode cX2_arrange 43 = .ok (.iload_n 3, 1) := by decide +kernel
theorem dX2_arrange_44 : decode cX2_arrange 44 = .ok (.if_icmp .le 41, 3) := by decide +kernel
theorem dX2_arrange_47 : decode cX2_arrange 47 = .ok (.aload_n 0, 1) := by decide +kernel
theorem dX2_arrange_48 : decode cX2_arrange 48 = .ok (.getfield 23, 3) := by decide +kernel
theorem dX2_arrange_51 : decode cX2_arrange 51 = .ok (.iload 4, 2) := by decide +kernel
theorem dX2_arrange_53 : decode cX2_arrange 53 = .ok (.aload_n 0, 1) := by decide +kernel
theorem dX2_arrange_54 : decode cX2_arrange 54 = .ok (.getfield 23, 3) := by decide +kernel
theorem dX2_arrange_57 : decode cX2_arrange 57 = .ok (.iload 4, 2) := by decide +kernel
theorem dX2_arrange_59 : decode cX2_arrange 59 = .ok (.iconst 1, 1) := by decide +kernel
theorem dX2_arrange_60 : decode cX2_arrange 60 = .ok (.isub, 1) := by decide +kernel
theorem dX2_arrange_61 : decode cX2_arrange 61 = .ok (.iaload, 1) := by decide +kernel
theorem dX2_arrange_62 : decode cX2_arrange 62 = .ok (.iastore, 1) := by decide +kernel
theorem dX2_arrange_63 : decode cX2_arrange 63 = .ok (.aload_n 0, 1) := by decide +kernel
theorem dX2_arrange_64 : decode cX2_arrange 64 = .ok (.getfield 26, 3) := by decide +kernel
theorem dX2_arrange_67 : decode cX2_arrange 67 = .ok (.iload 4, 2) := by decide +kernel
theorem dX2_arrange_69 : decode cX2_arrange 69 = .ok (.aload_n 0, 1) := by decide +kernel
theorem dX2_arrange_70 : decode cX2_arrange 70 = .ok (.getfield 26, 3) := by decide +kernel
theorem dX2_arrange_73 : decode cX2_arrange 73 = .ok (.iload 4, 2) := by decide +kernel
theorem dX2_arrange_75 : decode cX2_arrange 75 = .ok (.iconst 1, 1) := by decide +kernel
theorem dX2_arrange_76 : decode cX2_arrange 76 = .ok (.isub, 1) := by decide +kernel
theorem dX2_arrange_77 : decode cX2_arrange 77 = .ok (.iaload, 1) := by decide +kernel
theorem dX2_arrange_78 : decode cX2_arrange 78 = .ok (.iastore, 1) := by decide +kernel
theorem dX2_arrange_79 : decode cX2_arrange 79 = .ok (.iinc 4 (-1), 3) := by decide +kernel
theorem dX2_arrange_82 : decode cX2_arrange 82 = .ok (.goto (-53), 3) := by decide +kernel
theorem dX2_arrange_85 : decode cX2_arrange 85 = .ok (.aload_n 0, 1) := by decide +kernel
theorem dX2_arrange_86 : decode cX2_arrange 86 = .ok (.getfield 23, 3) := by decide +kernel
theorem dX2_arrange_89 : decode cX2_arrange 89 = .ok (.iload 4, 2) := by decide +kernel
theorem dX2_arrange_91 : decode cX2_arrange 91 = .ok (.iload_n 2, 1) := by decide +kernel
theorem dX2_arrange_92 : decode cX2_arrange 92 = .ok (.iastore, 1) := by decide +kernel
theorem dX2_arrange_93 : decode cX2_arrange 93 = .ok (.aload_n 0, 1) := by decide +kernel
theorem dX2_arrange_94 : decode cX2_arrange 94 = .ok (.getfield 26, 3) := by decide +kernel
theorem dX2_arrange_97 : decode cX2_arrange 97 = .ok (.iload 4, 2) := by decide +kernel
theorem dX2_arrange_99 : decode cX2_arrange 99 = .ok (.iload_n 3, 1) := by decide +kernel
theorem dX2_arrange_100 : decode cX2_arrange 100 = .ok (.iastore, 1) := by decide +kernel
theorem dX2_arrange_101 : decode cX2_arrange 101 = .ok (.iinc 1 1, 3) := by decide +kernel
theorem dX2_arrange_104 : decode cX2_arrange 104 = .ok (.iinc 2 1, 3) := by decide +kernel
theorem dX2_arrange_107 : decode cX2_arrange 107 = .ok (.goto (-103), 3) := by decide +kernel
theorem dX2_arrange_110 : decode cX2_arrange 110 = .ok (.iload_n 1, 1) := by decide +kernel
theorem dX2_arrange_111 : decode cX2_arrange 111 = .ok (.ireturn, 1) := by decide +kernel
theorem dX2_rankOf_0 : decode cX2_rankOf 0 = .ok (.iconst 0, 1) := by decide +kernel
theorem dX2_rankOf_1 : decode cX2_rankOf 1 = .ok (.istore_n 2, 1) := by decide +kernel
theorem dX2_rankOf_2 : decode cX2_rankOf 2 = .ok (.iconst 0, 1) := by decide +kernel
theorem dX2_rankOf_3 : decode cX2_rankOf 3 = .ok (.istore_n 3, 1) := by decide +kernel
theorem dX2_rankOf_4 : decode cX2_rankOf 4 = .ok (.iload_n 3, 1) := by decide +kernel
theorem dX2_rankOf_5 : decode cX2_rankOf 5 = .ok (.aload_n 0, 1) := by decide +kernel
theorem dX2_rankOf_6 : decode cX2_rankOf 6 = .ok (.getfield 66, 3) := by decide +kernel
theorem dX2_rankOf_9 : decode cX2_rankOf 9 = .ok (.if_icmp .ge 31, 3) := by decide +kernel
theorem dX2_rankOf_12 : decode cX2_rankOf 12 = .ok (.iload_n 3, 1) := by decide +kernel
theorem dX2_rankOf_13 : decode cX2_rankOf 13 = .ok (.iload_n 1, 1) := by decide +kernel
theorem dX2_rankOf_14 : decode cX2_rankOf 14 = .ok (.if_icmp .eq 20, 3) := by decide +kernel
theorem dX2_rankOf_17 : decode cX2_rankOf 17 = .ok (.aload_n 0, 1) := by decide +kernel
theorem dX2_rankOf_18 : decode cX2_rankOf 18 = .ok (.iload_n 3, 1) := by decide +kernel
theorem dX2_rankOf_19 : decode cX2_rankOf 19 = .ok (.invokevirtual 85, 3) := by decide +kernel
theorem dX2_rankOf_22 : decode cX2_rankOf 22 = .ok (.ifCond .eq 12, 3) := by decide +kernel
theorem dX2_rankOf_25 : decode cX2_rankOf 25 = .ok (.iload_n 2, 1) := by decide +kernel
theorem dX2_rankOf_26 : decode cX2_rankOf 26 = .ok (.aload_n 0, 1) := by decide +kernel
theorem dX2_rankOf_27 : decode cX2_rankOf 27 = .ok (.iload_n 1, 1) := by decide +kernel
theorem dX2_rankOf_28 : decode cX2_rankOf 28 = .ok (.iload_n 3, 1) := by decide +kernel
theorem dX2_rankOf_29 : decode cX2_rankOf 29 = .ok (.invokevirtual 131, 3) := by decide +kernel
theorem dX2_rankOf_32 : decode cX2_rankOf 32 = .ok (.iadd, 1) := by decide +kernel
theorem dX2_rankOf_33 : decode cX2_rankOf 33 = .ok (.istore_n 2, 1) := by decide +kernel
theorem dX2_rankOf_34 : decode cX2_rankOf 34 = .ok (.iinc 3 1, 3) := by decide +kernel
theorem dX2_rankOf_37 : decode cX2_rankOf 37 = .ok (.goto (-33), 3) := by decide +kernel
theorem dX2_rankOf_40 : decode cX2_rankOf 40 = .ok (.iload_n 2, 1) := by decide +kernel
theorem dX2_rankOf_41 : decode cX2_rankOf 41 = .ok (.ireturn, 1) := by decide +kernel
theorem dX2_rankAgainst_0 : decode cX2_rankAgainst 0 = .ok (.iconst 0, 1) := by decide +kernel
theorem dX2_rankAgainst_1 : decode cX2_rankAgainst 1 = .ok (.istore_n 3, 1) := by decide +kernel
theorem dX2_rankAgainst_2 : decode cX2_rankAgainst 2 = .ok (.iconst 0, 1) := by decide +kernel
theorem dX2_rankAgainst_3 : decode cX2_rankAgainst 3 = .ok (.istore 4, 2) := by decide +kernel
theorem dX2_rankAgainst_5 : decode cX2_rankAgainst 5 = .ok (.iload 4, 2) := by decide +kernel
theorem dX2_rankAgainst_7 : decode cX2_rankAgainst 7 = .ok (.aload_n 0, 1) := by decide +kernel
theorem dX2_rankAgainst_8 : decode cX2_rankAgainst 8 = .ok (.getfield 33, 3) := by decide +kernel
theorem dX2_rankAgainst_11 : decode cX2_rankAgainst 11 = .ok (.if_icmp .ge 60, 3) := by decide +kernel
theorem dX2_rankAgainst_14 : decode cX2_rankAgainst 14 = .ok (.aload_n 0, 1) := by decide +kernel
theorem dX2_rankAgainst_15 : decode cX2_rankAgainst 15 = .ok (.getfield 11, 3) := by decide +kernel
theorem dX2_rankAgainst_18 : decode cX2_rankAgainst 18 = .ok (.iload_n 2, 1) := by decide +kernel
theorem dX2_rankAgainst_19 : decode cX2_rankAgainst 19 = .ok (.aaload, 1) := by decide +kernel
theorem dX2_rankAgainst_20 : decode cX2_rankAgainst 20 = .ok (.iload 4, 2) := by decide +kernel
theorem dX2_rankAgainst_22 : decode cX2_rankAgainst 22 = .ok (.iaload, 1) := by decide +kernel
theorem dX2_rankAgainst_23 : decode cX2_rankAgainst 23 = .ok (.aload_n 0, 1) := by decide +kernel
theorem dX2_rankAgainst_24 : decode cX2_rankAgainst 24 = .ok (.getfield 11, 3) := by decide +kernel
theorem dX2_rankAgainst_27 : decode cX2_rankAgainst 27 = .ok (.iload_n 1, 1) := by decide +kernel
theorem dX2_rankAgainst_28 : decode cX2_rankAgainst 28 = .ok (.aaload, 1) := by decide +kernel
theorem dX2_rankAgainst_29 : decode cX2_rankAgainst 29 = .ok (.iload 4, 2) := by decide +kernel
theorem dX2_rankAgainst_31 : decode cX2_rankAgainst 31 = .ok (.iaload, 1) := by decide +kernel
theorem dX2_rankAgainst_32 : decode cX2_rankAgainst 32 = .ok (.if_icmp .ge 9, 3) := by decide +kernel
theorem dX2_rankAgainst_35 : decode cX2_rankAgainst 35 = .ok (.iinc 3 2, 3) := by decide +kernel
theorem dX2_rankAgainst_38 : decode cX2_rankAgainst 38 = .ok (.goto 27, 3) := by decide +kernel
theorem dX2_rankAgainst_41 : decode cX2_rankAgainst 41 = .ok (.aload_n 0, 1) := by decide +kernel
theorem dX2_rankAgainst_42 : decode cX2_rankAgainst 42 = .ok (.getfield 11, 3) := by decide +kernel
theorem dX2_rankAgainst_45 : decode cX2_rankAgainst 45 = .ok (.iload_n 2, 1) := by decide +kernel
theorem dX2_rankAgainst_46 : decode cX2_rankAgainst 46 = .ok (.aaload, 1) := by decide +kernel
theorem dX2_rankAgainst_47 : decode cX2_rankAgainst 47 = .ok (.iload 4, 2) := by decide +kernel
theorem dX2_rankAgainst_49 : decode cX2_rankAgainst 49 = .ok (.iaload, 1) := by decide +kernel
theorem dX2_rankAgainst_50 : decode cX2_rankAgainst 50 = .ok (.aload_n 0, 1) := by decide +kernel
theorem dX2_rankAgainst_51 : decode cX2_rankAgainst 51 = .ok (.getfield 11, 3) := by decide +kernel
theorem dX2_rankAgainst_54 : decode cX2_rankAgainst 54 = .ok (.iload_n 1, 1) := by decide +kernel
theorem dX2_rankAgainst_55 : decode cX2_rankAgainst 55 = .ok (.aaload, 1) := by decide +kernel
theorem dX2_rankAgainst_56 : decode cX2_rankAgainst 56 = .ok (.iload 4, 2) := by decide +kernel
theorem dX2_rankAgainst_58 : decode cX2_rankAgainst 58 = .ok (.iaload, 1) := by decide +kernel
theorem dX2_rankAgainst_59 : decode cX2_rankAgainst 59 = .ok (.if_icmp .ne 6, 3) := by decide +kernel
theorem dX2_rankAgainst_62 : decode cX2_rankAgainst 62 = .ok (.iinc 3 1, 3) := by decide +kernel
theorem dX2_rankAgainst_65 : decode cX2_rankAgainst 65 = .ok (.iinc 4 1, 3) := by decide +kernel
theorem dX2_rankAgainst_68 : decode cX2_rankAgainst 68 = .ok (.goto (-63), 3) := by decide +kernel
theorem dX2_rankAgainst_71 : decode cX2_rankAgainst 71 = .ok (.iload_n 3, 1) := by decide +kernel
theorem dX2_rankAgainst_72 : decode cX2_rankAgainst 72 = .ok (.ireturn, 1) := by decide +kernel
theorem dX2_countOdds_0 : decode cX2_countOdds 0 = .ok (.aload_n 0, 1) := by decide +kernel
theorem dX2_countOdds_1 : decode cX2_countOdds 1 = .ok (.getfield 46, 3) := by decide +kernel
theorem dX2_countOdds_4 : decode cX2_countOdds 4 = .ok (.invokevirtual 134, 3) := by decide +kernel
theorem dX2_countOdds_7 : decode cX2_countOdds 7 = .ok (.aload_n 0, 1) := by decide +kernel
theorem dX2_countOdds_8 : decode cX2_countOdds 8 = .ok (.iload_n 1, 1) := by decide +kernel
theorem dX2_countOdds_9 : decode cX2_countOdds 9 = .ok (.invokevirtual 137, 3) := by decide +kernel
theorem dX2_countOdds_12 : decode cX2_countOdds 12 = .ok (.ifCond .eq 74, 3) := by decide +kernel
theorem dX2_countOdds_15 : decode cX2_countOdds 15 = .ok (.aload_n 0, 1) := by decide +kernel
theorem dX2_countOdds_16 : decode cX2_countOdds 16 = .ok (.iload_n 2, 1) := by decide +kernel
theorem dX2_countOdds_17 : decode cX2_countOdds 17 = .ok (.invokevirtual 137, 3) := by decide +kernel
theorem dX2_countOdds_20 : decode cX2_countOdds 20 = .ok (.ifCond .eq 66, 3) := by decide +kernel
theorem dX2_countOdds_23 : decode cX2_countOdds 23 = .ok (.aload_n 0, 1) := by decide +kernel
theorem dX2_countOdds_24 : decode cX2_countOdds 24 = .ok (.getfield 33, 3) := by decide +kernel
theorem dX2_countOdds_27 : decode cX2_countOdds 27 = .ok (.aload_n 0, 1) := by decide +kernel
theorem dX2_countOdds_28 : decode cX2_countOdds 28 = .ok (.getfield 20, 3) := by decide +kernel
theorem dX2_countOdds_31 : decode cX2_countOdds 31 = .ok (.iload_n 1, 1) := by decide +kernel
theorem dX2_countOdds_32 : decode cX2_countOdds 32 = .ok (.iaload, 1) := by decide +kernel
theorem dX2_countOdds_33 : decode cX2_countOdds 33 = .ok (.aload_n 0, 1) := by decide +kernel
theorem dX2_countOdds_34 : decode cX2_countOdds 34 = .ok (.getfield 20, 3) := by decide +kernel
theorem dX2_countOdds_37 : decode cX2_countOdds 37 = .ok (.iload_n 2, 1) := by decide +kernel
theorem dX2_countOdds_38 : decode cX2_countOdds 38 = .ok (.iaload, 1) := by decide +kernel
theorem dX2_countOdds_39 : decode cX2_countOdds 39 = .ok (.invokestatic 140, 3) := by decide +kernel
theorem dX2_countOdds_42 : decode cX2_countOdds 42 = .ok (.invokestatic 140, 3) := by decide +kernel
theorem dX2_countOdds_45 : decode cX2_countOdds 45 = .ok (.istore_n 3, 1) := by decide +kernel
theorem dX2_countOdds_46 : decode cX2_countOdds 46 = .ok (.iconst 0, 1) := by decide +kernel
theorem dX2_countOdds_47 : decode cX2_countOdds 47 = .ok (.istore 4, 2) := by decide +kernel
theorem dX2_countOdds_49 : decode cX2_countOdds 49 = .ok (.iload 4, 2) := by decide +kernel
theorem dX2_countOdds_51 : decode cX2_countOdds 51 = .ok (.iload_n 3, 1) := by decide +kernel
theorem dX2_countOdds_52 : decode cX2_countOdds 52 = .ok (.if_icmp .ge 34, 3) := by decide +kernel
theorem dX2_countOdds_55 : decode cX2_countOdds 55 = .ok (.aload_n 0, 1) := by decide +kernel
theorem dX2_countOdds_56 : decode cX2_countOdds 56 = .ok (.getfield 46, 3) := by decide +kernel
theorem dX2_countOdds_59 : decode cX2_countOdds 59 = .ok (.aload_n 0, 1) := by decide +kernel
theorem dX2_countOdds_60 : decode cX2_countOdds 60 = .ok (.getfield 11, 3) := by decide +kernel
theorem dX2_countOdds_63 : decode cX2_countOdds 63 = .ok (.iload_n 1, 1) := by decide +kernel
theorem dX2_countOdds_64 : decode cX2_countOdds 64 = .ok (.aaload, 1) := by decide +kernel
theorem dX2_countOdds_65 : decode cX2_countOdds 65 = .ok (.iload 4, 2) := by decide +kernel
theorem dX2_countOdds_67 : decode cX2_countOdds 67 = .ok (.iaload, 1) := by decide +kernel
theorem dX2_countOdds_68 : decode cX2_countOdds 68 = .ok (.aload_n 0, 1) := by decide +kernel
theorem dX2_countOdds_69 : decode cX2_countOdds 69 = .ok (.getfield 11, 3) := by decide +kernel
theorem dX2_countOdds_72 : decode cX2_countOdds 72 = .ok (.iload_n 2, 1) := by decide +kernel
theorem dX2_countOdds_73 : decode cX2_countOdds 73 = .ok (.aaload, 1) := by decide +kernel
theorem dX2_countOdds_74 : decode cX2_countOdds 74 = .ok (.iload 4, 2) := by decide +kernel
theorem dX2_countOdds_76 : decode cX2_countOdds 76 = .ok (.iaload, 1) := by decide +kernel
theorem dX2_countOdds_77 : decode cX2_countOdds 77 = .ok (.invokevirtual 145, 3) := by decide +kernel
theorem dX2_countOdds_80 : decode cX2_countOdds 80 = .ok (.iinc 4 1, 3) := by decide +kernel
theorem dX2_countOdds_83 : decode cX2_countOdds 83 = .ok (.goto (-34), 3) := by decide +kernel
theorem dX2_countOdds_86 : decode cX2_countOdds 86 = .ok (.aload_n 0, 1) := by decide +kernel
theorem dX2_countOdds_87 : decode cX2_countOdds 87 = .ok (.getfield 46, 3) := by decide +kernel
theorem dX2_countOdds_90 : decode cX2_countOdds 90 = .ok (.aload_n 0, 1) := by decide +kernel
theorem dX2_countOdds_91 : decode cX2_countOdds 91 = .ok (.getfield 50, 3) := by decide +kernel
theorem dX2_countOdds_94 : decode cX2_countOdds 94 = .ok (.getfield 148, 3) := by decide +kernel
theorem dX2_countOdds_97 : decode cX2_countOdds 97 = .ok (.invokevirtual 151, 3) := by decide +kernel
theorem dX2_countOdds_100 : decode cX2_countOdds 100 = .ok (.return_, 1) := by decide +kernel
theorem dX2_sumOfFirst_0 : decode cX2_sumOfFirst 0 = .ok (.lconst 0, 1) := by decide +kernel
theorem dX2_sumOfFirst_1 : decode cX2_sumOfFirst 1 = .ok (.lstore_n 3, 1) := by decide +kernel
theorem dX2_sumOfFirst_2 : decode cX2_sumOfFirst 2 = .ok (.iconst 0, 1) := by decide +kernel
theorem dX2_sumOfFirst_3 : decode cX2_sumOfFirst 3 = .ok (.istore 5, 2) := by decide +kernel
theorem dX2_sumOfFirst_5 : decode cX2_sumOfFirst 5 = .ok (.iload 5, 2) := by decide +kernel
theorem dX2_sumOfFirst_7 : decode cX2_sumOfFirst 7 = .ok (.iload_n 2, 1) := by decide +kernel
theorem dX2_sumOfFirst_8 : decode cX2_sumOfFirst 8 = .ok (.if_icmp .ge 41, 3) := by decide +kernel
theorem dX2_sumOfFirst_11 : decode cX2_sumOfFirst 11 = .ok (.aload_n 0, 1) := by decide +kernel
theorem dX2_sumOfFirst_12 : decode cX2_sumOfFirst 12 = .ok (.iload_n 1, 1) := by decide +kernel
theorem dX2_sumOfFirst_13 : decode cX2_sumOfFirst 13 = .ok (.invokevirtual 137, 3) := by decide +kernel
theorem dX2_sumOfFirst_16 : decode cX2_sumOfFirst 16 = .ok (.ifCond .eq 33, 3) := by decide +kernel
theorem dX2_sumOfFirst_19 : decode cX2_sumOfFirst 19 = .ok (.iload 5, 2) := by decide +kernel
theorem dX2_sumOfFirst_21 : decode cX2_sumOfFirst 21 = .ok (.aload_n 0, 1) := by decide +kernel
theorem dX2_sumOfFirst_22 : decode cX2_sumOfFirst 22 = .ok (.getfield 20, 3) := by decide +kernel
theorem dX2_sumOfFirst_25 : decode cX2_sumOfFirst 25 = .ok (.iload_n 1, 1) := by decide +kernel
theorem dX2_sumOfFirst_26 : decode cX2_sumOfFirst 26 = .ok (.iaload, 1) := by decide +kernel
theorem dX2_sumOfFirst_27 : decode cX2_sumOfFirst 27 = .ok (.if_icmp .ge 22, 3) := by decide +kernel
theorem dX2_sumOfFirst_30 : decode cX2_sumOfFirst 30 = .ok (.lload_n 3, 1) := by decide +kernel
theorem dX2_sumOfFirst_31 : decode cX2_sumOfFirst 31 = .ok (.aload_n 0, 1) := by decide +kernel
theorem dX2_sumOfFirst_32 : decode cX2_sumOfFirst 32 = .ok (.getfield 11, 3) := by decide +kernel
theorem dX2_sumOfFirst_35 : decode cX2_sumOfFirst 35 = .ok (.iload_n 1, 1) := by decide +kernel
theorem dX2_sumOfFirst_36 : decode cX2_sumOfFirst 36 = .ok (.aaload, 1) := by decide +kernel
theorem dX2_sumOfFirst_37 : decode cX2_sumOfFirst 37 = .ok (.iload 5, 2) := by decide +kernel
theorem dX2_sumOfFirst_39 : decode cX2_sumOfFirst 39 = .ok (.iaload, 1) := by decide +kernel
theorem dX2_sumOfFirst_40 : decode cX2_sumOfFirst 40 = .ok (.i2l, 1) := by decide +kernel
theorem dX2_sumOfFirst_41 : decode cX2_sumOfFirst 41 = .ok (.ladd, 1) := by decide +kernel
theorem dX2_sumOfFirst_42 : decode cX2_sumOfFirst 42 = .ok (.lstore_n 3, 1) := by decide +kernel
theorem dX2_sumOfFirst_43 : decode cX2_sumOfFirst 43 = .ok (.iinc 5 1, 3) := by decide +kernel
theorem dX2_sumOfFirst_46 : decode cX2_sumOfFirst 46 = .ok (.goto (-41), 3) := by decide +kernel
theorem dX2_sumOfFirst_49 : decode cX2_sumOfFirst 49 = .ok (.lload_n 3, 1) := by decide +kernel
theorem dX2_sumOfFirst_50 : decode cX2_sumOfFirst 50 = .ok (.lreturn, 1) := by decide +kernel
theorem dX3_init_0 : decode cX3_init 0 = .ok (.aload_n 0, 1) := by decide +kernel
theorem dX3_init_1 : decode cX3_init 1 = .ok (.invokespecial 3, 3) := by decide +kernel
theorem dX3_init_4 : decode cX3_init 4 = .ok (.aload_n 0, 1) := by decide +kernel
theorem dX3_init_5 : decode cX3_init 5 = .ok (.iload_n 1, 1) := by decide +kernel
theorem dX3_init_6 : decode cX3_init 6 = .ok (.putfield 9, 3) := by decide +kernel
theorem dX3_init_9 : decode cX3_init 9 = .ok (.aload_n 0, 1) := by decide +kernel
theorem dX3_init_10 : decode cX3_init 10 = .ok (.iload_n 2, 1) := by decide +kernel
theorem dX3_init_11 : decode cX3_init 11 = .ok (.putfield 15, 3) := by decide +kernel
theorem dX3_init_14 : decode cX3_init 14 = .ok (.aload_n 0, 1) := by decide +kernel
theorem dX3_init_15 : decode cX3_init 15 = .ok (.iload_n 3, 1) := by decide +kernel
theorem dX3_init_16 : decode cX3_init 16 = .ok (.putfield 18, 3) := by decide +kernel
theorem dX3_init_19 : decode cX3_init 19 = .ok (.aload_n 0, 1) := by decide +kernel
theorem dX3_init_20 : decode cX3_init 20 = .ok (.iload 4, 2) := by decide +kernel
theorem dX3_init_22 : decode cX3_init 22 = .ok (.putfield 21, 3) := by decide +kernel
theorem dX3_init_25 : decode cX3_init 25 = .ok (.aload_n 0, 1) := by decide +kernel
theorem dX3_init_26 : decode cX3_init 26 = .ok (.iload 5, 2) := by decide +kernel
theorem dX3_init_28 : decode cX3_init 28 = .ok (.putfield 24, 3) := by decide +kernel
theorem dX3_init_31 : decode cX3_init 31 = .ok (.aload_n 0, 1) := by decide +kernel
theorem dX3_init_32 : decode cX3_init 32 = .ok (.iload 6, 2) := by decide +kernel
theorem dX3_init_34 : decode cX3_init 34 = .ok (.putfield 27, 3) := by decide +kernel
theorem dX3_init_37 : decode cX3_init 37 = .ok (.return_, 1) := by decide +kernel
theorem dX3_areWithinBounds_0 : decode cX3_areWithinBounds 0 = .ok (.aload_n 0, 1) := by decide +kernel
theorem dX3_areWithinBounds_1 : decode cX3_areWithinBounds 1 = .ok (.getfield 9, 3) := by decide +kernel
theorem dX3_areWithinBounds_4 : decode cX3_areWithinBounds 4 = .ok (.iconst 0, 1) := by decide +kernel
theorem dX3_areWithinBounds_5 : decode cX3_areWithinBounds 5 = .ok (.iconst 1, 1) := by decide +kernel
theorem dX3_areWithinBounds_6 : decode cX3_areWithinBounds 6 = .ok (.invokestatic 30, 3) := by decide +kernel
theorem dX3_areWithinBounds_9 : decode cX3_areWithinBounds 9 = .ok (.ifCond .eq 86, 3) := by decide +kernel
theorem dX3_areWithinBounds_12 : decode cX3_areWithinBounds 12 = .ok (.aload_n 0, 1) := by decide +kernel
theorem dX3_areWithinBounds_13 : decode cX3_areWithinBounds 13 = .ok (.getfield 15, 3) := by decide +kernel
theorem dX3_areWithinBounds_16 : decode cX3_areWithinBounds 16 = .ok (.iconst 1, 1) := by decide +kernel
theorem dX3_areWithinBounds_17 : decode cX3_areWithinBounds 17 = .ok (.bipush 24, 2) := by decide +kernel
theorem dX3_areWithinBounds_19 : decode cX3_areWithinBounds 19 = .ok (.invokestatic 30, 3) := by decide +kernel
theorem dX3_areWithinBounds_22 : decode cX3_areWithinBounds 22 = .ok (.ifCond .eq 73, 3) := by decide +kernel
theorem dX3_areWithinBounds_25 : decode cX3_areWithinBounds 25 = .ok (.aload_n 0, 1) := by decide +kernel
theorem dX3_areWithinBounds_26 : decode cX3_areWithinBounds 26 = .ok (.getfield 18, 3) := by decide +kernel
theorem dX3_areWithinBounds_29 : decode cX3_areWithinBounds 29 = .ok (.iconst 1, 1) := by decide +kernel
theorem dX3_areWithinBounds_30 : decode cX3_areWithinBounds 30 = .ok (.sipush 1000, 3) := by decide +kernel
theorem dX3_areWithinBounds_33 : decode cX3_areWithinBounds 33 = .ok (.invokestatic 30, 3) := by decide +kernel
theorem dX3_areWithinBounds_36 : decode cX3_areWithinBounds 36 = .ok (.ifCond .eq 59, 3) := by decide +kernel
theorem dX3_areWithinBounds_39 : decode cX3_areWithinBounds 39 = .ok (.aload_n 0, 1) := by decide +kernel
theorem dX3_areWithinBounds_40 : decode cX3_areWithinBounds 40 = .ok (.getfield 21, 3) := by decide +kernel
theorem dX3_areWithinBounds_43 : decode cX3_areWithinBounds 43 = .ok (.iconst 1, 1) := by decide +kernel
theorem dX3_areWithinBounds_44 : decode cX3_areWithinBounds 44 = .ok (.sipush 1000, 3) := by decide +kernel
theorem dX3_areWithinBounds_47 : decode cX3_areWithinBounds 47 = .ok (.invokestatic 30, 3) := by decide +kernel
theorem dX3_areWithinBounds_50 : decode cX3_areWithinBounds 50 = .ok (.ifCond .eq 45, 3) := by decide +kernel
theorem dX3_areWithinBounds_53 : decode cX3_areWithinBounds 53 = .ok (.aload_n 0, 1) := by decide +kernel
theorem dX3_areWithinBounds_54 : decode cX3_areWithinBounds 54 = .ok (.getfield 18, 3) := by decide +kernel
theorem dX3_areWithinBounds_57 : decode cX3_areWithinBounds 57 = .ok (.aload_n 0, 1) := by decide +kernel
theorem dX3_areWithinBounds_58 : decode cX3_areWithinBounds 58 = .ok (.getfield 21, 3) := by decide +kernel
theorem dX3_areWithinBounds_61 : decode cX3_areWithinBounds 61 = .ok (.if_icmp .gt 34, 3) := by decide +kernel
theorem dX3_areWithinBounds_64 : decode cX3_areWithinBounds 64 = .ok (.aload_n 0, 1) := by decide +kernel
theorem dX3_areWithinBounds_65 : decode cX3_areWithinBounds 65 = .ok (.getfield 24, 3) := by decide +kernel
theorem dX3_areWithinBounds_68 : decode cX3_areWithinBounds 68 = .ok (.iconst 1, 1) := by decide +kernel
theorem dX3_areWithinBounds_69 : decode cX3_areWithinBounds 69 = .ok (.bipush 12, 2) := by decide +kernel
theorem dX3_areWithinBounds_71 : decode cX3_areWithinBounds 71 = .ok (.invokestatic 30, 3) := by decide +kernel
theorem dX3_areWithinBounds_74 : decode cX3_areWithinBounds 74 = .ok (.ifCond .eq 21, 3) := by decide +kernel
theorem dX3_areWithinBounds_77 : decode cX3_areWithinBounds 77 = .ok (.aload_n 0, 1) := by decide +kernel
theorem dX3_areWithinBounds_78 : decode cX3_areWithinBounds 78 = .ok (.getfield 27, 3) := by decide +kernel
theorem dX3_areWithinBounds_81 : decode cX3_areWithinBounds 81 = .ok (.iconst 0, 1) := by decide +kernel
theorem dX3_areWithinBounds_82 : decode cX3_areWithinBounds 82 = .ok (.sipush 1000, 3) := by decide +kernel
theorem dX3_areWithinBounds_85 : decode cX3_areWithinBounds 85 = .ok (.invokestatic 30, 3) := by decide +kernel
theorem dX3_areWithinBounds_88 : decode cX3_areWithinBounds 88 = .ok (.ifCond .eq 7, 3) := by decide +kernel
theorem dX3_areWithinBounds_91 : decode cX3_areWithinBounds 91 = .ok (.iconst 1, 1) := by decide +kernel
theorem dX3_areWithinBounds_92 : decode cX3_areWithinBounds 92 = .ok (.goto 4, 3) := by decide +kernel
theorem dX3_areWithinBounds_95 : decode cX3_areWithinBounds 95 = .ok (.iconst 0, 1) := by decide +kernel
theorem dX3_areWithinBounds_96 : decode cX3_areWithinBounds 96 = .ok (.ireturn, 1) := by decide +kernel
theorem dX4_init_0 : decode cX4_init 0 = .ok (.aload_n 0, 1) := by decide +kernel
theorem dX4_init_1 : decode cX4_init 1 = .ok (.invokespecial 3, 3) := by decide +kernel
theorem dX4_init_4 : decode cX4_init 4 = .ok (.aload_n 0, 1) := by decide +kernel
theorem dX4_init_5 : decode cX4_init 5 = .ok (.bipush 12, 2) := by decide +kernel
theorem dX4_init_7 : decode cX4_init 7 = .ok (.newarray .int, 2) := by decide +kernel
theorem dX4_init_9 : decode cX4_init 9 = .ok (.putfield 9, 3) := by decide +kernel
theorem dX4_init_12 : decode cX4_init 12 = .ok (.aload_n 0, 1) := by decide +kernel
theorem dX4_init_13 : decode cX4_init 13 = .ok (.bipush 12, 2) := by decide +kernel
theorem dX4_init_15 : decode cX4_init 15 = .ok (.newarray .int, 2) := by decide +kernel
theorem dX4_init_17 : decode cX4_init 17 = .ok (.putfield 15, 3) := by decide +kernel
theorem dX4_init_20 : decode cX4_init 20 = .ok (.aload_n 0, 1) := by decide +kernel
theorem dX4_init_21 : decode cX4_init 21 = .ok (.iconst 0, 1) := by decide +kernel
theorem dX4_init_22 : decode cX4_init 22 = .ok (.putfield 18, 3) := by decide +kernel
theorem dX4_init_25 : decode cX4_init 25 = .ok (.aload_n 0, 1) := by decide +kernel
theorem dX4_init_26 : decode cX4_init 26 = .ok (.iconst 1, 1) := by decide +kernel
theorem dX4_init_27 : decode cX4_init 27 = .ok (.putfield 22, 3) := by decide +kernel
theorem dX4_init_30 : decode cX4_init 30 = .ok (.aload_n 0, 1) := by decide +kernel
theorem dX4_init_31 : decode cX4_init 31 = .ok (.iconst (-1), 1) := by decide +kernel
theorem dX4_init_32 : decode cX4_init 32 = .ok (.putfield 25, 3) := by decide +kernel
theorem dX4_init_35 : decode cX4_init 35 = .ok (.aload_n 0, 1) := by decide +kernel
theorem dX4_init_36 : decode cX4_init 36 = .ok (.iconst (-1), 1) := by decide +kernel
theorem dX4_init_37 : decode cX4_init 37 = .ok (.putfield 28, 3) := by decide +kernel
theorem dX4_init_40 : decode cX4_init 40 = .ok (.aload_n 0, 1) := by decide +kernel
theorem dX4_init_41 : decode cX4_init 41 = .ok (.iconst 0, 1) := by decide +kernel
theorem dX4_init_42 : decode cX4_init 42 = .ok (.putfield 31, 3) := by decide +kernel
theorem dX4_init_45 : decode cX4_init 45 = .ok (.return_, 1) := by decide +kernel
theorem dX4_find_0 : decode cX4_find 0 = .ok (.aload_n 0, 1) := by decide +kernel
theorem dX4_find_1 : decode cX4_find 1 = .ok (.iconst (-1), 1) := by decide +kernel
theorem dX4_find_2 : decode cX4_find 2 = .ok (.putfield 25, 3) := by decide +kernel
theorem dX4_find_5 : decode cX4_find 5 = .ok (.aload_n 0, 1) := by decide +kernel
theorem dX4_find_6 : decode cX4_find 6 = .ok (.iconst (-1), 1) := by decide +kernel
theorem dX4_find_7 : decode cX4_find 7 = .ok (.putfield 28, 3) := by decide +kernel
theorem dX4_find_10 : decode cX4_find 10 = .ok (.aload_n 0, 1) := by decide +kernel
theorem dX4_find_11 : decode cX4_find 11 = .ok (.ldc 36, 2) := by decide +kernel
theorem dX4_find_13 : decode cX4_find 13 = .ok (.putfield 31, 3) := by decide +kernel
theorem dX4_find_16 : decode cX4_find 16 = .ok (.iconst 0, 1) := by decide +kernel
theorem dX4_find_17 : decode cX4_find 17 = .ok (.istore_n 2, 1) := by decide +kernel
theorem dX4_find_18 : decode cX4_find 18 = .ok (.iload_n 2, 1) := by decide +kernel
theorem dX4_find_19 : decode cX4_find 19 = .ok (.iconst 2, 1) := by decide +kernel
theorem dX4_find_20 : decode cX4_find 20 = .ok (.if_icmp .ge 44, 3) := by decide +kernel
theorem dX4_find_23 : decode cX4_find 23 = .ok (.aload_n 0, 1) := by decide +kernel
theorem dX4_find_24 : decode cX4_find 24 = .ok (.aload_n 1, 1) := by decide +kernel
theorem dX4_find_25 : decode cX4_find 25 = .ok (.invokevirtual 37, 3) := by decide +kernel
theorem dX4_find_28 : decode cX4_find 28 = .ok (.iconst 1, 1) := by decide +kernel
theorem dX4_find_29 : decode cX4_find 29 = .ok (.istore_n 3, 1) := by decide +kernel
theorem dX4_find_30 : decode cX4_find 30 = .ok (.iload_n 3, 1) := by decide +kernel
theorem dX4_find_31 : decode cX4_find 31 = .ok (.bipush 100, 2) := by decide +kernel
theorem dX4_find_33 : decode cX4_find 33 = .ok (.if_icmp .gt 25, 3) := by decide +kernel
theorem dX4_find_36 : decode cX4_find 36 = .ok (.aload_n 0, 1) := by decide +kernel
theorem dX4_find_37 : decode cX4_find 37 = .ok (.aload_n 1, 1) := by decide +kernel
theorem dX4_find_38 : decode cX4_find 38 = .ok (.iload_n 2, 1) := by decide +kernel
theorem dX4_find_39 : decode cX4_find 39 = .ok (.iload_n 3, 1) := by decide +kernel
theorem dX4_find_40 : decode cX4_find 40 = .ok (.iconst 1, 1) := by decide +kernel
theorem dX4_find_41 : decode cX4_find 41 = .ok (.isub, 1) := by decide +kernel
theorem dX4_find_42 : decode cX4_find 42 = .ok (.invokevirtual 41, 3) := by decide +kernel
theorem dX4_find_45 : decode cX4_find 45 = .ok (.aload_n 0, 1) := by decide +kernel
theorem dX4_find_46 : decode cX4_find 46 = .ok (.aload_n 1, 1) := by decide +kernel
theorem dX4_find_47 : decode cX4_find 47 = .ok (.iload_n 2, 1) := by decide +kernel
theorem dX4_find_48 : decode cX4_find 48 = .ok (.iload_n 3, 1) := by decide +kernel
theorem dX4_find_49 : decode cX4_find 49 = .ok (.invokevirtual 45, 3) := by decide +kernel
theorem dX4_find_52 : decode cX4_find 52 = .ok (.iinc 3 1, 3) := by decide +kernel
theorem dX4_find_55 : decode cX4_find 55 = .ok (.goto (-25), 3) := by decide +kernel
theorem dX4_find_58 : decode cX4_find 58 = .ok (.iinc 2 1, 3) := by decide +kernel
theorem dX4_find_61 : decode cX4_find 61 = .ok (.goto (-43), 3) := by decide +kernel
theorem dX4_find_64 : decode cX4_find 64 = .ok (.return_, 1) := by decide +kernel
theorem dX4_settingFor_0 : decode cX4_settingFor 0 = .ok (.aload_n 1, 1) := by decide +kernel
theorem dX4_settingFor_1 : decode cX4_settingFor 1 = .ok (.aload_n 0, 1) := by decide +kernel
theorem dX4_settingFor_2 : decode cX4_settingFor 2 = .ok (.getfield 18, 3) := by decide +kernel
theorem dX4_settingFor_5 : decode cX4_settingFor 5 = .ok (.iload_n 2, 1) := by decide +kernel
theorem dX4_settingFor_6 : decode cX4_settingFor 6 = .ok (.invokevirtual 48, 3) := by decide +kernel
theorem dX4_settingFor_9 : decode cX4_settingFor 9 = .ok (.aload_n 0, 1) := by decide +kernel
theorem dX4_settingFor_10 : decode cX4_settingFor 10 = .ok (.getfield 22, 3) := by decide +kernel
theorem dX4_settingFor_13 : decode cX4_settingFor 13 = .ok (.if_icmp .ge 10, 3) := by decide +kernel
theorem dX4_settingFor_16 : decode cX4_settingFor 16 = .ok (.aload_n 0, 1) := by decide +kernel
theorem dX4_settingFor_17 : decode cX4_settingFor 17 = .ok (.getfield 25, 3) := by decide +kernel
theorem dX4_settingFor_20 : decode cX4_settingFor 20 = .ok (.goto 7, 3) := by decide +kernel
theorem dX4_settingFor_23 : decode cX4_settingFor 23 = .ok (.aload_n 0, 1) := by decide +kernel
theorem dX4_settingFor_24 : decode cX4_settingFor 24 = .ok (.getfield 28, 3) := by decide +kernel
theorem dX4_settingFor_27 : decode cX4_settingFor 27 = .ok (.ireturn, 1) := by decide +kernel
theorem dX4_putAllFromCut_0 : decode cX4_putAllFromCut 0 = .ok (.aload_n 0, 1) := by decide +kernel
theorem dX4_putAllFromCut_1 : decode cX4_putAllFromCut 1 = .ok (.getfield 9, 3) := by decide +kernel
theorem dX4_putAllFromCut_4 : decode cX4_putAllFromCut 4 = .ok (.iconst 0, 1) := by decide +kernel
theorem dX4_putAllFromCut_5 : decode cX4_putAllFromCut 5 = .ok (.invokestatic 54, 3) := by decide +kernel
theorem dX4_putAllFromCut_8 : decode cX4_putAllFromCut 8 = .ok (.aload_n 0, 1) := by decide +kernel
theorem dX4_putAllFromCut_9 : decode cX4_putAllFromCut 9 = .ok (.getfield 15, 3) := by decide +kernel
theorem dX4_putAllFromCut_12 : decode cX4_putAllFromCut 12 = .ok (.iconst 0, 1) := by decide +kernel
theorem dX4_putAllFromCut_13 : decode cX4_putAllFromCut 13 = .ok (.invokestatic 54, 3) := by decide +kernel
theorem dX4_putAllFromCut_16 : decode cX4_putAllFromCut 16 = .ok (.iconst 0, 1) := by decide +kernel
theorem dX4_putAllFromCut_17 : decode cX4_putAllFromCut 17 = .ok (.istore_n 2, 1) := by decide +kernel
theorem dX4_putAllFromCut_18 : decode cX4_putAllFromCut 18 = .ok (.iload_n 2, 1) := by decide +kernel
theorem dX4_putAllFromCut_19 : decode cX4_putAllFromCut 19 = .ok (.aload_n 1, 1) := by decide +kernel
theorem dX4_putAllFromCut_20 : decode cX4_putAllFromCut 20 = .ok (.getfield 60, 3) := by decide +kernel
theorem dX4_putAllFromCut_23 : decode cX4_putAllFromCut 23 = .ok (.if_icmp .ge 48, 3) := by decide +kernel
theorem dX4_putAllFromCut_26 : decode cX4_putAllFromCut 26 = .ok (.iconst 0, 1) := by decide +kernel
theorem dX4_putAllFromCut_27 : decode cX4_putAllFromCut 27 = .ok (.istore_n 3, 1) := by decide +kernel
theorem dX4_putAllFromCut_28 : decode cX4_putAllFromCut 28 = .ok (.iload_n 3, 1) := by decide +kernel
theorem dX4_putAllFromCut_29 : decode cX4_putAllFromCut 29 = .ok (.aload_n 1, 1) := by decide +kernel
theorem dX4_putAllFromCut_30 : decode cX4_putAllFromCut 30 = .ok (.getfield 63, 3) := by decide +kernel
theorem dX4_putAllFromCut_33 : decode cX4_putAllFromCut 33 = .ok (.if_icmp .ge 32, 3) := by decide +kernel
theorem dX4_putAllFromCut_36 : decode cX4_putAllFromCut 36 = .ok (.aload_n 1, 1) := by decide +kernel
theorem dX4_putAllFromCut_37 : decode cX4_putAllFromCut 37 = .ok (.iload_n 3, 1) := by decide +kernel
theorem dX4_putAllFromCut_38 : decode cX4_putAllFromCut 38 = .ok (.invokevirtual 66, 3) := by decide +kernel
theorem dX4_putAllFromCut_41 : decode cX4_putAllFromCut 41 = .ok (.ifCond .eq 18, 3) := by decide +kernel
theorem dX4_putAllFromCut_44 : decode cX4_putAllFromCut 44 = .ok (.aload_n 0, 1) := by decide +kernel
theorem dX4_putAllFromCut_45 : decode cX4_putAllFromCut 45 = .ok (.getfield 15, 3) := by decide +kernel
theorem dX4_putAllFromCut_48 : decode cX4_putAllFromCut 48 = .ok (.iload_n 2, 1) := by decide +kernel
theorem dX4_putAllFromCut_49 : decode cX4_putAllFromCut 49 = .ok (.dup2, 1) := by decide +kernel
theorem dX4_putAllFromCut_50 : decode cX4_putAllFromCut 50 = .ok (.iaload, 1) := by decide +kernel
theorem dX4_putAllFromCut_51 : decode cX4_putAllFromCut 51 = .ok (.aload_n 1, 1) := by decide +kernel
theorem dX4_putAllFromCut_52 : decode cX4_putAllFromCut 52 = .ok (.iload_n 2, 1) := by decide +kernel
theorem dX4_putAllFromCut_53 : decode cX4_putAllFromCut 53 = .ok (.iload_n 3, 1) := by decide +kernel
theorem dX4_putAllFromCut_54 : decode cX4_putAllFromCut 54 = .ok (.invokevirtual 70, 3) := by decide +kernel
theorem dX4_putAllFromCut_57 : decode cX4_putAllFromCut 57 = .ok (.iadd, 1) := by decide +kernel
theorem dX4_putAllFromCut_58 : decode cX4_putAllFromCut 58 = .ok (.iastore, 1) := by decide +kernel
theorem dX4_putAllFromCut_59 : decode cX4_putAllFromCut 59 = .ok (.iinc 3 1, 3) := by decide +kernel
theorem dX4_putAllFromCut_62 : decode cX4_putAllFromCut 62 = .ok (.goto (-34), 3) := by decide +kernel
theorem dX4_putAllFromCut_65 : decode cX4_putAllFromCut 65 = .ok (.iinc 2 1, 3) := by decide +kernel
theorem dX4_putAllFromCut_68 : decode cX4_putAllFromCut 68 = .ok (.goto (-50), 3) := by decide +kernel
theorem dX4_putAllFromCut_71 : decode cX4_putAllFromCut 71 = .ok (.return_, 1) := by decide +kernel
theorem dX4_moveBelow_0 : decode cX4_moveBelow 0 = .ok (.iconst 0, 1) := by decide +kernel
theorem dX4_moveBelow_1 : decode cX4_moveBelow 1 = .ok (.istore 4, 2) := by decide +kernel
theorem dX4_moveBelow_3 : decode cX4_moveBelow 3 = .ok (.iload 4, 2) := by decide +kernel
theorem dX4_moveBelow_5 : decode cX4_moveBelow 5 = .ok (.aload_n 1, 1) := by decide +kernel
theorem dX4_moveBelow_6 : decode cX4_moveBelow 6 = .ok (.getfield 63, 3) := by decide +kernel
theorem dX4_moveBelow_9 : decode cX4_moveBelow 9 = .ok (.if_icmp .ge 83, 3) := by decide +kernel
theorem dX4_moveBelow_12 : decode cX4_moveBelow 12 = .ok (.aload_n 1, 1) := by decide +kernel
theorem dX4_moveBelow_13 : decode cX4_moveBelow 13 = .ok (.iload 4, 2) := by decide +kernel
theorem dX4_moveBelow_15 : decode cX4_moveBelow 15 = .ok (.invokevirtual 66, 3) := by decide +kernel
theorem dX4_moveBelow_18 : decode cX4_moveBelow 18 = .ok (.ifCond .eq 68, 3) := by decide +kernel
theorem dX4_moveBelow_21 : decode cX4_moveBelow 21 = .ok (.aload_n 1, 1) := by decide +kernel
theorem dX4_moveBelow_22 : decode cX4_moveBelow 22 = .ok (.iload_n 2, 1) := by decide +kernel
theorem dX4_moveBelow_23 : decode cX4_moveBelow 23 = .ok (.iload 4, 2) := by decide +kernel
theorem dX4_moveBelow_25 : decode cX4_moveBelow 25 = .ok (.invokevirtual 48, 3) := by decide +kernel
theorem dX4_moveBelow_28 : decode cX4_moveBelow 28 = .ok (.iload_n 3, 1) := by decide +kernel
theorem dX4_moveBelow_29 : decode cX4_moveBelow 29 = .ok (.if_icmp .ne 57, 3) := by decide +kernel
theorem dX4_moveBelow_32 : decode cX4_moveBelow 32 = .ok (.iconst 0, 1) := by decide +kernel
theorem dX4_moveBelow_33 : decode cX4_moveBelow 33 = .ok (.istore 5, 2) := by decide +kernel
theorem dX4_moveBelow_35 : decode cX4_moveBelow 35 = .ok (.iload 5, 2) := by decide +kernel
theorem dX4_moveBelow_37 : decode cX4_moveBelow 37 = .ok (.aload_n 1, 1) := by decide +kernel
theorem dX4_moveBelow_38 : decode cX4_moveBelow 38 = .ok (.getfield 60, 3) := by decide +kernel
theorem dX4_moveBelow_41 : decode cX4_moveBelow 41 = .ok (.if_icmp .ge 45, 3) := by decide +kernel
theorem dX4_moveBelow_44 : decode cX4_moveBelow 44 = .ok (.aload_n 0, 1) := by decide +kernel
theorem dX4_moveBelow_45 : decode cX4_moveBelow 45 = .ok (.getfield 15, 3) := by decide +kernel
theorem dX4_moveBelow_48 : decode cX4_moveBelow 48 = .ok (.iload 5, 2) := by decide +kernel
theorem dX4_moveBelow_50 : decode cX4_moveBelow 50 = .ok (.dup2, 1) := by decide +kernel
theorem dX4_moveBelow_51 : decode cX4_moveBelow 51 = .ok (.iaload, 1) := by decide +kernel
theorem dX4_moveBelow_52 : decode cX4_moveBelow 52 = .ok (.aload_n 1, 1) := by decide +kernel
theorem dX4_moveBelow_53 : decode cX4_moveBelow 53 = .ok (.iload 5, 2) := by decide +kernel
theorem dX4_moveBelow_55 : decode cX4_moveBelow 55 = .ok (.iload 4, 2) := by decide +kernel
theorem dX4_moveBelow_57 : decode cX4_moveBelow 57 = .ok (.invokevirtual 70, 3) := by decide +kernel
theorem dX4_moveBelow_60 : decode cX4_moveBelow 60 = .ok (.isub, 1) := by decide +kernel
theorem dX4_moveBelow_61 : decode cX4_moveBelow 61 = .ok (.iastore, 1) := by decide +kernel
theorem dX4_moveBelow_62 : decode cX4_moveBelow 62 = .ok (.aload_n 0, 1) := by decide +kernel
theorem dX4_moveBelow_63 : decode cX4_moveBelow 63 = .ok (.getfield 9, 3) := by decide +kernel
theorem dX4_moveBelow_66 : decode cX4_moveBelow 66 = .ok (.iload 5, 2) := by decide +kernel
theorem dX4_moveBelow_68 : decode cX4_moveBelow 68 = .ok (.dup2, 1) := by decide +kernel
theorem dX4_moveBelow_69 : decode cX4_moveBelow 69 = .ok (.iaload, 1) := by decide +kernel
theorem dX4_moveBelow_70 : decode cX4_moveBelow 70 = .ok (.aload_n 1, 1) := by decide +kernel
theorem dX4_moveBelow_71 : decode cX4_moveBelow 71 = .ok (.iload 5, 2) := by decide +kernel
theorem dX4_moveBelow_73 : decode cX4_moveBelow 73 = .ok (.iload 4, 2) := by decide +kernel
theorem dX4_moveBelow_75 : decode cX4_moveBelow 75 = .ok (.invokevirtual 70, 3) := by decide +kernel
theorem dX4_moveBelow_78 : decode cX4_moveBelow 78 = .ok (.iadd, 1) := by decide +kernel
theorem dX4_moveBelow_79 : decode cX4_moveBelow 79 = .ok (.iastore, 1) := by decide +kernel
theorem dX4_moveBelow_80 : decode cX4_moveBelow 80 = .ok (.iinc 5 1, 3) := by decide +kernel
theorem dX4_moveBelow_83 : decode cX4_moveBelow 83 = .ok (.goto (-48), 3) := by decide +kernel
theorem dX4_moveBelow_86 : decode cX4_moveBelow 86 = .ok (.iinc 4 1, 3) := by decide +kernel
theorem dX4_moveBelow_89 : decode cX4_moveBelow 89 = .ok (.goto (-86), 3) := by decide +kernel
theorem dX4_moveBelow_92 : decode cX4_moveBelow 92 = .ok (.return_, 1) := by decide +kernel
theorem dX4_keepIfLess_0 : decode cX4_keepIfLess 0 = .ok (.aload_n 1, 1) := by decide +kernel
theorem dX4_keepIfLess_1 : decode cX4_keepIfLess 1 = .ok (.aload_n 0, 1) := by decide +kernel
theorem dX4_keepIfLess_2 : decode cX4_keepIfLess 2 = .ok (.getfield 9, 3) := by decide +kernel
theorem dX4_keepIfLess_5 : decode cX4_keepIfLess 5 = .ok (.invokestatic 73, 3) := by decide +kernel
theorem dX4_keepIfLess_8 : decode cX4_keepIfLess 8 = .ok (.istore 4, 2) := by decide +kernel
theorem dX4_keepIfLess_10 : decode cX4_keepIfLess 10 = .ok (.aload_n 1, 1) := by decide +kernel
theorem dX4_keepIfLess_11 : decode cX4_keepIfLess 11 = .ok (.aload_n 0, 1) := by decide +kernel
theorem dX4_keepIfLess_12 : decode cX4_keepIfLess 12 = .ok (.getfield 15, 3) := by decide +kernel
theorem dX4_keepIfLess_15 : decode cX4_keepIfLess 15 = .ok (.invokestatic 73, 3) := by decide +kernel
theorem dX4_keepIfLess_18 : decode cX4_keepIfLess 18 = .ok (.istore 5, 2) := by decide +kernel
theorem dX4_keepIfLess_20 : decode cX4_keepIfLess 20 = .ok (.iload 4, 2) := by decide +kernel
theorem dX4_keepIfLess_22 : decode cX4_keepIfLess 22 = .ok (.iconst (-1), 1) := by decide +kernel
theorem dX4_keepIfLess_23 : decode cX4_keepIfLess 23 = .ok (.if_icmp .eq 9, 3) := by decide +kernel
theorem dX4_keepIfLess_26 : decode cX4_keepIfLess 26 = .ok (.iload 5, 2) := by decide +kernel
theorem dX4_keepIfLess_28 : decode cX4_keepIfLess 28 = .ok (.iconst (-1), 1) := by decide +kernel
theorem dX4_keepIfLess_29 : decode cX4_keepIfLess 29 = .ok (.if_icmp .ne 4, 3) := by decide +kernel
theorem dX4_keepIfLess_32 : decode cX4_keepIfLess 32 = .ok (.return_, 1) := by decide +kernel
theorem dX4_keepIfLess_33 : decode cX4_keepIfLess 33 = .ok (.aload_n 0, 1) := by decide +kernel
theorem dX4_keepIfLess_34 : decode cX4_keepIfLess 34 = .ok (.getfield 9, 3) := by decide +kernel
theorem dX4_keepIfLess_37 : decode cX4_keepIfLess 37 = .ok (.iload 4, 2) := by decide +kernel
theorem dX4_keepIfLess_39 : decode cX4_keepIfLess 39 = .ok (.iaload, 1) := by decide +kernel
theorem dX4_keepIfLess_40 : decode cX4_keepIfLess 40 = .ok (.aload_n 0, 1) := by decide +kernel
theorem dX4_keepIfLess_41 : decode cX4_keepIfLess 41 = .ok (.getfield 15, 3) := by decide +kernel
theorem dX4_keepIfLess_44 : decode cX4_keepIfLess 44 = .ok (.iload 5, 2) := by decide +kernel
theorem dX4_keepIfLess_46 : decode cX4_keepIfLess 46 = .ok (.iaload, 1) := by decide +kernel
theorem dX4_keepIfLess_47 : decode cX4_keepIfLess 47 = .ok (.iadd, 1) := by decide +kernel
theorem dX4_keepIfLess_48 : decode cX4_keepIfLess 48 = .ok (.istore 6, 2) := by decide +kernel
theorem dX4_keepIfLess_50 : decode cX4_keepIfLess 50 = .ok (.iload 6, 2) := by decide +kernel
theorem dX4_keepIfLess_52 : decode cX4_keepIfLess 52 = .ok (.aload_n 0, 1) := by decide +kernel
theorem dX4_keepIfLess_53 : decode cX4_keepIfLess 53 = .ok (.getfield 31, 3) := by decide +kernel
theorem dX4_keepIfLess_56 : decode cX4_keepIfLess 56 = .ok (.if_icmp .ge 31, 3) := by decide +kernel
theorem dX4_keepIfLess_59 : decode cX4_keepIfLess 59 = .ok (.aload_n 0, 1) := by decide +kernel
theorem dX4_keepIfLess_60 : decode cX4_keepIfLess 60 = .ok (.iload 6, 2) := by decide +kernel
theorem dX4_keepIfLess_62 : decode cX4_keepIfLess 62 = .ok (.putfield 31, 3) := by decide +kernel
theorem dX4_keepIfLess_65 : decode cX4_keepIfLess 65 = .ok (.aload_n 0, 1) := by decide +kernel
theorem dX4_keepIfLess_66 : decode cX4_keepIfLess 66 = .ok (.iload_n 2, 1) := by decide +kernel
theorem dX4_keepIfLess_67 : decode cX4_keepIfLess 67 = .ok (.putfield 18, 3) := by decide +kernel
theorem dX4_keepIfLess_70 : decode cX4_keepIfLess 70 = .ok (.aload_n 0, 1) := by decide +kernel
theorem dX4_keepIfLess_71 : decode cX4_keepIfLess 71 = .ok (.iload_n 3, 1) := by decide +kernel
theorem dX4_keepIfLess_72 : decode cX4_keepIfLess 72 = .ok (.putfield 22, 3) := by decide +kernel
theorem dX4_keepIfLess_75 : decode cX4_keepIfLess 75 = .ok (.aload_n 0, 1) := by decide +kernel
theorem dX4_keepIfLess_76 : decode cX4_keepIfLess 76 = .ok (.iload 4, 2) := by decide +kernel
theorem dX4_keepIfLess_78 : decode cX4_keepIfLess 78 = .ok (.putfield 25, 3) := by decide +kernel
theorem dX4_keepIfLess_81 : decode cX4_keepIfLess 81 = .ok (.aload_n 0, 1) := by decide +kernel
theorem dX4_keepIfLess_82 : decode cX4_keepIfLess 82 = .ok (.iload 5, 2) := by decide +kernel
theorem dX4_keepIfLess_84 : decode cX4_keepIfLess 84 = .ok (.putfield 28, 3) := by decide +kernel
theorem dX4_keepIfLess_87 : decode cX4_keepIfLess 87 = .ok (.return_, 1) := by decide +kernel
theorem dX4_leastOf_0 : decode cX4_leastOf 0 = .ok (.iconst (-1), 1) := by decide +kernel
theorem dX4_leastOf_1 : decode cX4_leastOf 1 = .ok (.istore_n 2, 1) := by decide +kernel
theorem dX4_leastOf_2 : decode cX4_leastOf 2 = .ok (.iconst 0, 1) := by decide +kernel
theorem dX4_leastOf_3 : decode cX4_leastOf 3 = .ok (.istore_n 3, 1) := by decide +kernel
theorem dX4_leastOf_4 : decode cX4_leastOf 4 = .ok (.iload_n 3, 1) := by decide +kernel
theorem dX4_leastOf_5 : decode cX4_leastOf 5 = .ok (.aload_n 0, 1) := by decide +kernel
theorem dX4_leastOf_6 : decode cX4_leastOf 6 = .ok (.getfield 60, 3) := by decide +kernel
theorem dX4_leastOf_9 : decode cX4_leastOf 9 = .ok (.if_icmp .ge 39, 3) := by decide +kernel
theorem dX4_leastOf_12 : decode cX4_leastOf 12 = .ok (.iload_n 3, 1) := by decide +kernel
theorem dX4_leastOf_13 : decode cX4_leastOf 13 = .ok (.aload_n 1, 1) := by decide +kernel
theorem dX4_leastOf_14 : decode cX4_leastOf 14 = .ok (.arraylength, 1) := by decide +kernel
theorem dX4_leastOf_15 : decode cX4_leastOf 15 = .ok (.if_icmp .ge 33, 3) := by decide +kernel
theorem dX4_leastOf_18 : decode cX4_leastOf 18 = .ok (.aload_n 0, 1) := by decide +kernel
theorem dX4_leastOf_19 : decode cX4_leastOf 19 = .ok (.iload_n 3, 1) := by decide +kernel
theorem dX4_leastOf_20 : decode cX4_leastOf 20 = .ok (.invokevirtual 77, 3) := by decide +kernel
theorem dX4_leastOf_23 : decode cX4_leastOf 23 = .ok (.ifCond .eq 19, 3) := by decide +kernel
theorem dX4_leastOf_26 : decode cX4_leastOf 26 = .ok (.iload_n 2, 1) := by decide +kernel
theorem dX4_leastOf_27 : decode cX4_leastOf 27 = .ok (.iconst (-1), 1) := by decide +kernel
theorem dX4_leastOf_28 : decode cX4_leastOf 28 = .ok (.if_icmp .eq 12, 3) := by decide +kernel
theorem dX4_leastOf_31 : decode cX4_leastOf 31 = .ok (.aload_n 1, 1) := by decide +kernel
theorem dX4_leastOf_32 : decode cX4_leastOf 32 = .ok (.iload_n 3, 1) := by decide +kernel
theorem dX4_leastOf_33 : decode cX4_leastOf 33 = .ok (.iaload, 1) := by decide +kernel
theorem dX4_leastOf_34 : decode cX4_leastOf 34 = .ok (.aload_n 1, 1) := by decide +kernel
theorem dX4_leastOf_35 : decode cX4_leastOf 35 = .ok (.iload_n 2, 1) := by decide +kernel
theorem dX4_leastOf_36 : decode cX4_leastOf 36 = .ok (.iaload, 1) := by decide +kernel
theorem dX4_leastOf_37 : decode cX4_leastOf 37 = .ok (.if_icmp .ge 5, 3) := by decide +kernel
theorem dX4_leastOf_40 : decode cX4_leastOf 40 = .ok (.iload_n 3, 1) := by decide +kernel
theorem dX4_leastOf_41 : decode cX4_leastOf 41 = .ok (.istore_n 2, 1) := by decide +kernel
theorem dX4_leastOf_42 : decode cX4_leastOf 42 = .ok (.iinc 3 1, 3) := by decide +kernel
theorem dX4_leastOf_45 : decode cX4_leastOf 45 = .ok (.goto (-41), 3) := by decide +kernel
theorem dX4_leastOf_48 : decode cX4_leastOf 48 = .ok (.iload_n 2, 1) := by decide +kernel
theorem dX4_leastOf_49 : decode cX4_leastOf 49 = .ok (.ireturn, 1) := by decide +kernel
theorem dX5_init_0 : decode cX5_init 0 = .ok (.aload_n 0, 1) := by decide +kernel
theorem dX5_init_1 : decode cX5_init 1 = .ok (.invokespecial 3, 3) := by decide +kernel
theorem dX5_init_4 : decode cX5_init 4 = .ok (.aload_n 0, 1) := by decide +kernel
theorem dX5_init_5 : decode cX5_init 5 = .ok (.bipush 12, 2) := by decide +kernel
theorem dX5_init_7 : decode cX5_init 7 = .ok (.bipush 24, 2) := by decide +kernel
theorem dX5_init_9 : decode cX5_init 9 = .ok (.multianewarray 9 2, 4) := by decide +kernel
theorem dX5_init_13 : decode cX5_init 13 = .ok (.putfield 11, 3) := by decide +kernel
theorem dX5_init_16 : decode cX5_init 16 = .ok (.aload_n 0, 1) := by decide +kernel
theorem dX5_init_17 : decode cX5_init 17 = .ok (.bipush 12, 2) := by decide +kernel
theorem dX5_init_19 : decode cX5_init 19 = .ok (.newarray .int, 2) := by decide +kernel
theorem dX5_init_21 : decode cX5_init 21 = .ok (.putfield 16, 3) := by decide +kernel
theorem dX5_init_24 : decode cX5_init 24 = .ok (.aload_n 0, 1) := by decide +kernel
theorem dX5_init_25 : decode cX5_init 25 = .ok (.iconst 2, 1) := by decide +kernel
theorem dX5_init_26 : decode cX5_init 26 = .ok (.bipush 24, 2) := by decide +kernel
theorem dX5_init_28 : decode cX5_init 28 = .ok (.multianewarray 9 2, 4) := by decide +kernel
theorem dX5_init_32 : decode cX5_init 32 = .ok (.putfield 20, 3) := by decide +kernel
theorem dX5_init_35 : decode cX5_init 35 = .ok (.aload_n 0, 1) := by decide +kernel
theorem dX5_init_36 : decode cX5_init 36 = .ok (.bipush 24, 2) := by decide +kernel
theorem dX5_init_38 : decode cX5_init 38 = .ok (.newarray .boolean, 2) := by decide +kernel
theorem dX5_init_40 : decode cX5_init 40 = .ok (.putfield 23, 3) := by decide +kernel
theorem dX5_init_43 : decode cX5_init 43 = .ok (.aload_n 0, 1) := by decide +kernel
theorem dX5_init_44 : decode cX5_init 44 = .ok (.iconst 0, 1) := by decide +kernel
theorem dX5_init_45 : decode cX5_init 45 = .ok (.putfield 27, 3) := by decide +kernel
theorem dX5_init_48 : decode cX5_init 48 = .ok (.aload_n 0, 1) := by decide +kernel
theorem dX5_init_49 : decode cX5_init 49 = .ok (.iconst 0, 1) := by decide +kernel
theorem dX5_init_50 : decode cX5_init 50 = .ok (.putfield 31, 3) := by decide +kernel
theorem dX5_init_53 : decode cX5_init 53 = .ok (.iconst 0, 1) := by decide +kernel
theorem dX5_init_54 : decode cX5_init 54 = .ok (.istore_n 1, 1) := by decide +kernel
theorem dX5_init_55 : decode cX5_init 55 = .ok (.iload_n 1, 1) := by decide +kernel
theorem dX5_init_56 : decode cX5_init 56 = .ok (.bipush 12, 2) := by decide +kernel
theorem dX5_init_58 : decode cX5_init 58 = .ok (.if_icmp .ge 19, 3) := by decide +kernel
theorem dX5_init_61 : decode cX5_init 61 = .ok (.aload_n 0, 1) := by decide +kernel
theorem dX5_init_62 : decode cX5_init 62 = .ok (.getfield 11, 3) := by decide +kernel
theorem dX5_init_65 : decode cX5_init 65 = .ok (.iload_n 1, 1) := by decide +kernel
theorem dX5_init_66 : decode cX5_init 66 = .ok (.aaload, 1) := by decide +kernel
theorem dX5_init_67 : decode cX5_init 67 = .ok (.iconst (-1), 1) := by decide +kernel
theorem dX5_init_68 : decode cX5_init 68 = .ok (.invokestatic 34, 3) := by decide +kernel
theorem dX5_init_71 : decode cX5_init 71 = .ok (.iinc 1 1, 3) := by decide +kernel
theorem dX5_init_74 : decode cX5_init 74 = .ok (.goto (-19), 3) := by decide +kernel
theorem dX5_init_77 : decode cX5_init 77 = .ok (.return_, 1) := by decide +kernel
theorem dX5_addSetting_0 : decode cX5_addSetting 0 = .ok (.aload_n 0, 1) := by decide +kernel
theorem dX5_addSetting_1 : decode cX5_addSetting 1 = .ok (.getfield 27, 3) := by decide +kernel
theorem dX5_addSetting_4 : decode cX5_addSetting 4 = .ok (.bipush 12, 2) := by decide +kernel
theorem dX5_addSetting_6 : decode cX5_addSetting 6 = .ok (.if_icmp .lt 6, 3) := by decide +kernel
theorem dX5_addSetting_9 : decode cX5_addSetting 9 = .ok (.bipush (-4), 2) := by decide +kernel
theorem dX5_addSetting_11 : decode cX5_addSetting 11 = .ok (.ireturn, 1) := by decide +kernel
theorem dX5_addSetting_12 : decode cX5_addSetting 12 = .ok (.aload_n 0, 1) := by decide +kernel
theorem dX5_addSetting_13 : decode cX5_addSetting 13 = .ok (.dup, 1) := by decide +kernel
theorem dX5_addSetting_14 : decode cX5_addSetting 14 = .ok (.getfield 27, 3) := by decide +kernel
theorem dX5_addSetting_17 : decode cX5_addSetting 17 = .ok (.iconst 1, 1) := by decide +kernel
theorem dX5_addSetting_18 : decode cX5_addSetting 18 = .ok (.iadd, 1) := by decide +kernel
theorem dX5_addSetting_19 : decode cX5_addSetting 19 = .ok (.putfield 27, 3) := by decide +kernel
theorem dX5_addSetting_22 : decode cX5_addSetting 22 = .ok (.aload_n 0, 1) := by decide +kernel
theorem dX5_addSetting_23 : decode cX5_addSetting 23 = .ok (.getfield 27, 3) := by decide +kernel
theorem dX5_addSetting_26 : decode cX5_addSetting 26 = .ok (.iconst 1, 1) := by decide +kernel
theorem dX5_addSetting_27 : decode cX5_addSetting 27 = .ok (.isub, 1) := by decide +kernel
theorem dX5_addSetting_28 : decode cX5_addSetting 28 = .ok (.ireturn, 1) := by decide +kernel
theorem dX5_addInstance_0 : decode cX5_addInstance 0 = .ok (.aload_n 0, 1) := by decide +kernel
theorem dX5_addInstance_1 : decode cX5_addInstance 1 = .ok (.getfield 31, 3) := by decide +kernel
theorem dX5_addInstance_4 : decode cX5_addInstance 4 = .ok (.bipush 24, 2) := by decide +kernel
theorem dX5_addInstance_6 : decode cX5_addInstance 6 = .ok (.if_icmp .lt 6, 3) := by decide +kernel
theorem dX5_addInstance_9 : decode cX5_addInstance 9 = .ok (.bipush (-4), 2) := by decide +kernel
theorem dX5_addInstance_11 : decode cX5_addInstance 11 = .ok (.ireturn, 1) := by decide +kernel
theorem dX5_addInstance_12 : decode cX5_addInstance 12 = .ok (.aload_n 0, 1) := by decide +kernel
theorem dX5_addInstance_13 : decode cX5_addInstance 13 = .ok (.getfield 20, 3) := by decide +kernel
theorem dX5_addInstance_16 : decode cX5_addInstance 16 = .ok (.iconst 0, 1) := by decide +kernel
theorem dX5_addInstance_17 : decode cX5_addInstance 17 = .ok (.aaload, 1) := by decide +kernel
theorem dX5_addInstance_18 : decode cX5_addInstance 18 = .ok (.aload_n 0, 1) := by decide +kernel
theorem dX5_addInstance_19 : decode cX5_addInstance 19 = .ok (.getfield 31, 3) := by decide +kernel
theorem dX5_addInstance_22 : decode cX5_addInstance 22 = .ok (.iload_n 1, 1) := by decide +kernel
theorem dX5_addInstance_23 : decode cX5_addInstance 23 = .ok (.iastore, 1) := by decide +kernel
theorem dX5_addInstance_24 : decode cX5_addInstance 24 = .ok (.aload_n 0, 1) := by decide +kernel
theorem dX5_addInstance_25 : decode cX5_addInstance 25 = .ok (.getfield 20, 3) := by decide +kernel
theorem dX5_addInstance_28 : decode cX5_addInstance 28 = .ok (.iconst 1, 1) := by decide +kernel
theorem dX5_addInstance_29 : decode cX5_addInstance 29 = .ok (.aaload, 1) := by decide +kernel
theorem dX5_addInstance_30 : decode cX5_addInstance 30 = .ok (.aload_n 0, 1) := by decide +kernel
theorem dX5_addInstance_31 : decode cX5_addInstance 31 = .ok (.getfield 31, 3) := by decide +kernel
theorem dX5_addInstance_34 : decode cX5_addInstance 34 = .ok (.iload_n 2, 1) := by decide +kernel
theorem dX5_addInstance_35 : decode cX5_addInstance 35 = .ok (.iastore, 1) := by decide +kernel
theorem dX5_addInstance_36 : decode cX5_addInstance 36 = .ok (.aload_n 0, 1) := by decide +kernel
theorem dX5_addInstance_37 : decode cX5_addInstance 37 = .ok (.getfield 23, 3) := by decide +kernel
theorem dX5_addInstance_40 : decode cX5_addInstance 40 = .ok (.aload_n 0, 1) := by decide +kernel
theorem dX5_addInstance_41 : decode cX5_addInstance 41 = .ok (.getfield 31, 3) := by decide +kernel
theorem dX5_addInstance_44 : decode cX5_addInstance 44 = .ok (.iload_n 3, 1) := by decide +kernel
theorem dX5_addInstance_45 : decode cX5_addInstance 45 = .ok (.bastore, 1) := by decide +kernel
theorem dX5_addInstance_46 : decode cX5_addInstance 46 = .ok (.aload_n 0, 1) := by decide +kernel
theorem dX5_addInstance_47 : decode cX5_addInstance 47 = .ok (.dup, 1) := by decide +kernel
theorem dX5_addInstance_48 : decode cX5_addInstance 48 = .ok (.getfield 31, 3) := by decide +kernel
theorem dX5_addInstance_51 : decode cX5_addInstance 51 = .ok (.iconst 1, 1) := by decide +kernel
theorem dX5_addInstance_52 : decode cX5_addInstance 52 = .ok (.iadd, 1) := by decide +kernel
theorem dX5_addInstance_53 : decode cX5_addInstance 53 = .ok (.putfield 31, 3) := by decide +kernel
theorem dX5_addInstance_56 : decode cX5_addInstance 56 = .ok (.aload_n 0, 1) := by decide +kernel
theorem dX5_addInstance_57 : decode cX5_addInstance 57 = .ok (.getfield 31, 3) := by decide +kernel
theorem dX5_addInstance_60 : decode cX5_addInstance 60 = .ok (.iconst 1, 1) := by decide +kernel
theorem dX5_addInstance_61 : decode cX5_addInstance 61 = .ok (.isub, 1) := by decide +kernel
theorem dX5_addInstance_62 : decode cX5_addInstance 62 = .ok (.ireturn, 1) := by decide +kernel
theorem dX5_hasSetting_0 : decode cX5_hasSetting 0 = .ok (.iload_n 1, 1) := by decide +kernel
theorem dX5_hasSetting_1 : decode cX5_hasSetting 1 = .ok (.ifCond .lt 15, 3) := by decide +kernel
theorem dX5_hasSetting_4 : decode cX5_hasSetting 4 = .ok (.iload_n 1, 1) := by decide +kernel
theorem dX5_hasSetting_5 : decode cX5_hasSetting 5 = .ok (.aload_n 0, 1) := by decide +kernel
theorem dX5_hasSetting_6 : decode cX5_hasSetting 6 = .ok (.getfield 27, 3) := by decide +kernel
theorem dX5_hasSetting_9 : decode cX5_hasSetting 9 = .ok (.if_icmp .ge 7, 3) := by decide +kernel
theorem dX5_hasSetting_12 : decode cX5_hasSetting 12 = .ok (.iconst 1, 1) := by decide +kernel
theorem dX5_hasSetting_13 : decode cX5_hasSetting 13 = .ok (.goto 4, 3) := by decide +kernel
theorem dX5_hasSetting_16 : decode cX5_hasSetting 16 = .ok (.iconst 0, 1) := by decide +kernel
theorem dX5_hasSetting_17 : decode cX5_hasSetting 17 = .ok (.ireturn, 1) := by decide +kernel
theorem dX5_hasInstance_0 : decode cX5_hasInstance 0 = .ok (.iload_n 1, 1) := by decide +kernel
theorem dX5_hasInstance_1 : decode cX5_hasInstance 1 = .ok (.ifCond .lt 15, 3) := by decide +kernel
theorem dX5_hasInstance_4 : decode cX5_hasInstance 4 = .ok (.iload_n 1, 1) := by decide +kernel
theorem dX5_hasInstance_5 : decode cX5_hasInstance 5 = .ok (.aload_n 0, 1) := by decide +kernel
theorem dX5_hasInstance_6 : decode cX5_hasInstance 6 = .ok (.getfield 31, 3) := by decide +kernel
theorem dX5_hasInstance_9 : decode cX5_hasInstance 9 = .ok (.if_icmp .ge 7, 3) := by decide +kernel
theorem dX5_hasInstance_12 : decode cX5_hasInstance 12 = .ok (.iconst 1, 1) := by decide +kernel
theorem dX5_hasInstance_13 : decode cX5_hasInstance 13 = .ok (.goto 4, 3) := by decide +kernel
theorem dX5_hasInstance_16 : decode cX5_hasInstance 16 = .ok (.iconst 0, 1) := by decide +kernel
theorem dX5_hasInstance_17 : decode cX5_hasInstance 17 = .ok (.ireturn, 1) := by decide +kernel
theorem dX5_isLearning_0 : decode cX5_isLearning 0 = .ok (.aload_n 0, 1) := by decide +kernel
theorem dX5_isLearning_1 : decode cX5_isLearning 1 = .ok (.iload_n 1, 1) := by decide +kernel
theorem dX5_isLearning_2 : decode cX5_isLearning 2 = .ok (.invokevirtual 40, 3) := by decide +kernel
theorem dX5_isLearning_5 : decode cX5_isLearning 5 = .ok (.ifCond .eq 16, 3) := by decide +kernel
theorem dX5_isLearning_8 : decode cX5_isLearning 8 = .ok (.aload_n 0, 1) := by decide +kernel
theorem dX5_isLearning_9 : decode cX5_isLearning 9 = .ok (.getfield 23, 3) := by decide +kernel
theorem dX5_isLearning_12 : decode cX5_isLearning 12 = .ok (.iload_n 1, 1) := by decide +kernel
theorem dX5_isLearning_13 : decode cX5_isLearning 13 = .ok (.baload, 1) := by decide +kernel
theorem dX5_isLearning_14 : decode cX5_isLearning 14 = .ok (.ifCond .eq 7, 3) := by decide +kernel
theorem dX5_isLearning_17 : decode cX5_isLearning 17 = .ok (.iconst 1, 1) := by decide +kernel
theorem dX5_isLearning_18 : decode cX5_isLearning 18 = .ok (.goto 4, 3) := by decide +kernel
theorem dX5_isLearning_21 : decode cX5_isLearning 21 = .ok (.iconst 0, 1) := by decide +kernel
theorem dX5_isLearning_22 : decode cX5_isLearning 22 = .ok (.ireturn, 1) := by decide +kernel
theorem dX5_costAt_0 : decode cX5_costAt 0 = .ok (.aload_n 0, 1) := by decide +kernel
theorem dX5_costAt_1 : decode cX5_costAt 1 = .ok (.iload_n 1, 1) := by decide +kernel
theorem dX5_costAt_2 : decode cX5_costAt 2 = .ok (.invokevirtual 44, 3) := by decide +kernel
theorem dX5_costAt_5 : decode cX5_costAt 5 = .ok (.ifCond .eq 22, 3) := by decide +kernel
theorem dX5_costAt_8 : decode cX5_costAt 8 = .ok (.aload_n 0, 1) := by decide +kernel
theorem dX5_costAt_9 : decode cX5_costAt 9 = .ok (.iload_n 2, 1) := by decide +kernel
theorem dX5_costAt_10 : decode cX5_costAt 10 = .ok (.invokevirtual 40, 3) := by decide +kernel
theorem dX5_costAt_13 : decode cX5_costAt 13 = .ok (.ifCond .eq 14, 3) := by decide +kernel
theorem dX5_costAt_16 : decode cX5_costAt 16 = .ok (.aload_n 0, 1) := by decide +kernel
theorem dX5_costAt_17 : decode cX5_costAt 17 = .ok (.getfield 11, 3) := by decide +kernel
theorem dX5_costAt_20 : decode cX5_costAt 20 = .ok (.iload_n 1, 1) := by decide +kernel
theorem dX5_costAt_21 : decode cX5_costAt 21 = .ok (.aaload, 1) := by decide +kernel
theorem dX5_costAt_22 : decode cX5_costAt 22 = .ok (.iload_n 2, 1) := by decide +kernel
theorem dX5_costAt_23 : decode cX5_costAt 23 = .ok (.iaload, 1) := by decide +kernel
theorem dX5_costAt_24 : decode cX5_costAt 24 = .ok (.goto 4, 3) := by decide +kernel
theorem dX5_costAt_27 : decode cX5_costAt 27 = .ok (.iconst (-1), 1) := by decide +kernel
theorem dX5_costAt_28 : decode cX5_costAt 28 = .ok (.ireturn, 1) := by decide +kernel
theorem dX5_tell_0 : decode cX5_tell 0 = .ok (.aload_n 0, 1) := by decide +kernel
theorem dX5_tell_1 : decode cX5_tell 1 = .ok (.iload_n 1, 1) := by decide +kernel
theorem dX5_tell_2 : decode cX5_tell 2 = .ok (.invokevirtual 44, 3) := by decide +kernel
theorem dX5_tell_5 : decode cX5_tell 5 = .ok (.ifCond .eq 11, 3) := by decide +kernel
theorem dX5_tell_8 : decode cX5_tell 8 = .ok (.aload_n 0, 1) := by decide +kernel
theorem dX5_tell_9 : decode cX5_tell 9 = .ok (.iload_n 2, 1) := by decide +kernel
theorem dX5_tell_10 : decode cX5_tell 10 = .ok (.invokevirtual 40, 3) := by decide +kernel
theorem dX5_tell_13 : decode cX5_tell 13 = .ok (.ifCond .ne 5, 3) := by decide +kernel
theorem dX5_tell_16 : decode cX5_tell 16 = .ok (.iconst (-1), 1) := by decide +kernel
theorem dX5_tell_17 : decode cX5_tell 17 = .ok (.ireturn, 1) := by decide +kernel
theorem dX5_tell_18 : decode cX5_tell 18 = .ok (.aload_n 0, 1) := by decide +kernel
theorem dX5_tell_19 : decode cX5_tell 19 = .ok (.getfield 11, 3) := by decide +kernel
theorem dX5_tell_22 : decode cX5_tell 22 = .ok (.iload_n 1, 1) := by decide +kernel
theorem dX5_tell_23 : decode cX5_tell 23 = .ok (.aaload, 1) := by decide +kernel
theorem dX5_tell_24 : decode cX5_tell 24 = .ok (.iload_n 2, 1) := by decide +kernel
theorem dX5_tell_25 : decode cX5_tell 25 = .ok (.iload_n 3, 1) := by decide +kernel
theorem dX5_tell_26 : decode cX5_tell 26 = .ok (.iastore, 1) := by decide +kernel
theorem dX5_tell_27 : decode cX5_tell 27 = .ok (.aload_n 0, 1) := by decide +kernel
theorem dX5_tell_28 : decode cX5_tell 28 = .ok (.getfield 16, 3) := by decide +kernel
theorem dX5_tell_31 : decode cX5_tell 31 = .ok (.iload_n 1, 1) := by decide +kernel
theorem dX5_tell_32 : decode cX5_tell 32 = .ok (.dup2, 1) := by decide +kernel
theorem dX5_tell_33 : decode cX5_tell 33 = .ok (.iaload, 1) := by decide +kernel
theorem dX5_tell_34 : decode cX5_tell 34 = .ok (.iconst 1, 1) := by decide +kernel
theorem dX5_tell_35 : decode cX5_tell 35 = .ok (.iadd, 1) := by decide +kernel
theorem dX5_tell_36 : decode cX5_tell 36 = .ok (.iastore, 1) := by decide +kernel
theorem dX5_tell_37 : decode cX5_tell 37 = .ok (.aload_n 0, 1) := by decide +kernel
theorem dX5_tell_38 : decode cX5_tell 38 = .ok (.getfield 16, 3) := by decide +kernel
theorem dX5_tell_41 : decode cX5_tell 41 = .ok (.iload_n 1, 1) := by decide +kernel
theorem dX5_tell_42 : decode cX5_tell 42 = .ok (.iaload, 1) := by decide +kernel
theorem dX5_tell_43 : decode cX5_tell 43 = .ok (.ireturn, 1) := by decide +kernel
theorem dX5_isWhole_0 : decode cX5_isWhole 0 = .ok (.aload_n 0, 1) := by decide +kernel
theorem dX5_isWhole_1 : decode cX5_isWhole 1 = .ok (.iload_n 1, 1) := by decide +kernel
theorem dX5_isWhole_2 : decode cX5_isWhole 2 = .ok (.invokevirtual 44, 3) := by decide +kernel
theorem dX5_isWhole_5 : decode cX5_isWhole 5 = .ok (.ifCond .eq 20, 3) := by decide +kernel
theorem dX5_isWhole_8 : decode cX5_isWhole 8 = .ok (.aload_n 0, 1) := by decide +kernel
theorem dX5_isWhole_9 : decode cX5_isWhole 9 = .ok (.getfield 16, 3) := by decide +kernel
theorem dX5_isWhole_12 : decode cX5_isWhole 12 = .ok (.iload_n 1, 1) := by decide +kernel
theorem dX5_isWhole_13 : decode cX5_isWhole 13 = .ok (.iaload, 1) := by decide +kernel
theorem dX5_isWhole_14 : decode cX5_isWhole 14 = .ok (.aload_n 0, 1) := by decide +kernel
theorem dX5_isWhole_15 : decode cX5_isWhole 15 = .ok (.getfield 31, 3) := by decide +kernel
theorem dX5_isWhole_18 : decode cX5_isWhole 18 = .ok (.if_icmp .ne 7, 3) := by decide +kernel
theorem dX5_isWhole_21 : decode cX5_isWhole 21 = .ok (.iconst 1, 1) := by decide +kernel
theorem dX5_isWhole_22 : decode cX5_isWhole 22 = .ok (.goto 4, 3) := by decide +kernel
theorem dX5_isWhole_25 : decode cX5_isWhole 25 = .ok (.iconst 0, 1) := by decide +kernel
theorem dX5_isWhole_26 : decode cX5_isWhole 26 = .ok (.ireturn, 1) := by decide +kernel
theorem dX5_countWhole_0 : decode cX5_countWhole 0 = .ok (.iconst 0, 1) := by decide +kernel
theorem dX5_countWhole_1 : decode cX5_countWhole 1 = .ok (.istore_n 1, 1) := by decide +kernel
theorem dX5_countWhole_2 : decode cX5_countWhole 2 = .ok (.iconst 0, 1) := by decide +kernel
theorem dX5_countWhole_3 : decode cX5_countWhole 3 = .ok (.istore_n 2, 1) := by decide +kernel
theorem dX5_countWhole_4 : decode cX5_countWhole 4 = .ok (.iload_n 2, 1) := by decide +kernel
theorem dX5_countWhole_5 : decode cX5_countWhole 5 = .ok (.aload_n 0, 1) := by decide +kernel
theorem dX5_countWhole_6 : decode cX5_countWhole 6 = .ok (.getfield 27, 3) := by decide +kernel
theorem dX5_countWhole_9 : decode cX5_countWhole 9 = .ok (.if_icmp .ge 20, 3) := by decide +kernel
theorem dX5_countWhole_12 : decode cX5_countWhole 12 = .ok (.aload_n 0, 1) := by decide +kernel
theorem dX5_countWhole_13 : decode cX5_countWhole 13 = .ok (.iload_n 2, 1) := by decide +kernel
theorem dX5_countWhole_14 : decode cX5_countWhole 14 = .ok (.invokevirtual 47, 3) := by decide +kernel
theorem dX5_countWhole_17 : decode cX5_countWhole 17 = .ok (.ifCond .eq 6, 3) := by decide +kernel
theorem dX5_countWhole_20 : decode cX5_countWhole 20 = .ok (.iinc 1 1, 3) := by decide +kernel
theorem dX5_countWhole_23 : decode cX5_countWhole 23 = .ok (.iinc 2 1, 3) := by decide +kernel
theorem dX5_countWhole_26 : decode cX5_countWhole 26 = .ok (.goto (-22), 3) := by decide +kernel
theorem dX5_countWhole_29 : decode cX5_countWhole 29 = .ok (.iload_n 1, 1) := by decide +kernel
theorem dX5_countWhole_30 : decode cX5_countWhole 30 = .ok (.ireturn, 1) := by decide +kernel
theorem dX5_featureAt_0 : decode cX5_featureAt 0 = .ok (.iload_n 1, 1) := by decide +kernel
theorem dX5_featureAt_1 : decode cX5_featureAt 1 = .ok (.iconst 0, 1) := by decide +kernel
theorem dX5_featureAt_2 : decode cX5_featureAt 2 = .ok (.iconst 1, 1) := by decide +kernel
theorem dX5_featureAt_3 : decode cX5_featureAt 3 = .ok (.invokestatic 50, 3) := by decide +kernel
theorem dX5_featureAt_6 : decode cX5_featureAt 6 = .ok (.ifCond .eq 22, 3) := by decide +kernel
theorem dX5_featureAt_9 : decode cX5_featureAt 9 = .ok (.aload_n 0, 1) := by decide +kernel
theorem dX5_featureAt_10 : decode cX5_featureAt 10 = .ok (.iload_n 2, 1) := by decide +kernel
theorem dX5_featureAt_11 : decode cX5_featureAt 11 = .ok (.invokevirtual 40, 3) := by decide +kernel
theorem dX5_featureAt_14 : decode cX5_featureAt 14 = .ok (.ifCond .eq 14, 3) := by decide +kernel
theorem dX5_featureAt_17 : decode cX5_featureAt 17 = .ok (.aload_n 0, 1) := by decide +kernel
theorem dX5_featureAt_18 : decode cX5_featureAt 18 = .ok (.getfield 20, 3) := by decide +kernel
theorem dX5_featureAt_21 : decode cX5_featureAt 21 = .ok (.iload_n 1, 1) := by decide +kernel
theorem dX5_featureAt_22 : decode cX5_featureAt 22 = .ok (.aaload, 1) := by decide +kernel
theorem dX5_featureAt_23 : decode cX5_featureAt 23 = .ok (.iload_n 2, 1) := by decide +kernel
theorem dX5_featureAt_24 : decode cX5_featureAt 24 = .ok (.iaload, 1) := by decide +kernel
theorem dX5_featureAt_25 : decode cX5_featureAt 25 = .ok (.goto 4, 3) := by decide +kernel
theorem dX5_featureAt_28 : decode cX5_featureAt 28 = .ok (.iconst 0, 1) := by decide +kernel
theorem dX5_featureAt_29 : decode cX5_featureAt 29 = .ok (.ireturn, 1) := by decide +kernel
theorem dX5_learningOnes_0 : decode cX5_learningOnes 0 = .ok (.iconst 0, 1) := by decide +kernel
theorem dX5_learningOnes_1 : decode cX5_learningOnes 1 = .ok (.istore_n 1, 1) := by decide +kernel
theorem dX5_learningOnes_2 : decode cX5_learningOnes 2 = .ok (.iconst 0, 1) := by decide +kernel
theorem dX5_learningOnes_3 : decode cX5_learningOnes 3 = .ok (.istore_n 2, 1) := by decide +kernel
theorem dX5_learningOnes_4 : decode cX5_learningOnes 4 = .ok (.iload_n 2, 1) := by decide +kernel
theorem dX5_learningOnes_5 : decode cX5_learningOnes 5 = .ok (.aload_n 0, 1) := by decide +kernel
theorem dX5_learningOnes_6 : decode cX5_learningOnes 6 = .ok (.getfield 31, 3) := by decide +kernel
theorem dX5_learningOnes_9 : decode cX5_learningOnes 9 = .ok (.if_icmp .ge 21, 3) := by decide +kernel
theorem dX5_learningOnes_12 : decode cX5_learningOnes 12 = .ok (.aload_n 0, 1) := by decide +kernel
theorem dX5_learningOnes_13 : decode cX5_learningOnes 13 = .ok (.getfield 23, 3) := by decide +kernel
theorem dX5_learningOnes_16 : decode cX5_learningOnes 16 = .ok (.iload_n 2, 1) := by decide +kernel
theorem dX5_learningOnes_17 : decode cX5_learningOnes 17 = .ok (.baload, 1) := by decide +kernel
theorem dX5_learningOnes_18 : decode cX5_learningOnes 18 = .ok (.ifCond .eq 6, 3) := by decide +kernel
theorem dX5_learningOnes_21 : decode cX5_learningOnes 21 = .ok (.iinc 1 1, 3) := by decide +kernel
theorem dX5_learningOnes_24 : decode cX5_learningOnes 24 = .ok (.iinc 2 1, 3) := by decide +kernel
theorem dX5_learningOnes_27 : decode cX5_learningOnes 27 = .ok (.goto (-23), 3) := by decide +kernel
theorem dX5_learningOnes_30 : decode cX5_learningOnes 30 = .ok (.iload_n 1, 1) := by decide +kernel
theorem dX5_learningOnes_31 : decode cX5_learningOnes 31 = .ok (.newarray .int, 2) := by decide +kernel
theorem dX5_learningOnes_33 : decode cX5_learningOnes 33 = .ok (.astore_n 2, 1) := by decide +kernel
theorem dX5_learningOnes_34 : decode cX5_learningOnes 34 = .ok (.iconst 0, 1) := by decide +kernel
theorem dX5_learningOnes_35 : decode cX5_learningOnes 35 = .ok (.istore_n 3, 1) := by decide +kernel
theorem dX5_learningOnes_36 : decode cX5_learningOnes 36 = .ok (.iconst 0, 1) := by decide +kernel
theorem dX5_learningOnes_37 : decode cX5_learningOnes 37 = .ok (.istore 4, 2) := by decide +kernel
theorem dX5_learningOnes_39 : decode cX5_learningOnes 39 = .ok (.iload 4, 2) := by decide +kernel
theorem dX5_learningOnes_41 : decode cX5_learningOnes 41 = .ok (.aload_n 0, 1) := by decide +kernel
theorem dX5_learningOnes_42 : decode cX5_learningOnes 42 = .ok (.getfield 31, 3) := by decide +kernel
theorem dX5_learningOnes_45 : decode cX5_learningOnes 45 = .ok (.if_icmp .ge 32, 3) := by decide +kernel
theorem dX5_learningOnes_48 : decode cX5_learningOnes 48 = .ok (.iload_n 3, 1) := by decide +kernel
theorem dX5_learningOnes_49 : decode cX5_learningOnes 49 = .ok (.iload_n 1, 1) := by decide +kernel
theorem dX5_learningOnes_50 : decode cX5_learningOnes 50 = .ok (.if_icmp .ge 27, 3) := by decide +kernel
theorem dX5_learningOnes_53 : decode cX5_learningOnes 53 = .ok (.aload_n 0, 1) := by decide +kernel
theorem dX5_learningOnes_54 : decode cX5_learningOnes 54 = .ok (.getfield 23, 3) := by decide +kernel
theorem dX5_learningOnes_57 : decode cX5_learningOnes 57 = .ok (.iload 4, 2) := by decide +kernel
theorem dX5_learningOnes_59 : decode cX5_learningOnes 59 = .ok (.baload, 1) := by decide +kernel
theorem dX5_learningOnes_60 : decode cX5_learningOnes 60 = .ok (.ifCond .eq 11, 3) := by decide +kernel
theorem dX5_learningOnes_63 : decode cX5_learningOnes 63 = .ok (.aload_n 2, 1) := by decide +kernel
theorem dX5_learningOnes_64 : decode cX5_learningOnes 64 = .ok (.iload_n 3, 1) := by decide +kernel
theorem dX5_learningOnes_65 : decode cX5_learningOnes 65 = .ok (.iload 4, 2) := by decide +kernel
theorem dX5_learningOnes_67 : decode cX5_learningOnes 67 = .ok (.iastore, 1) := by decide +kernel
theorem dX5_learningOnes_68 : decode cX5_learningOnes 68 = .ok (.iinc 3 1, 3) := by decide +kernel
theorem dX5_learningOnes_71 : decode cX5_learningOnes 71 = .ok (.iinc 4 1, 3) := by decide +kernel
theorem dX5_learningOnes_74 : decode cX5_learningOnes 74 = .ok (.goto (-35), 3) := by decide +kernel
theorem dX5_learningOnes_77 : decode cX5_learningOnes 77 = .ok (.aload_n 2, 1) := by decide +kernel
theorem dX5_learningOnes_78 : decode cX5_learningOnes 78 = .ok (.areturn, 1) := by decide +kernel
theorem dX5_nearestLearning_0 : decode cX5_nearestLearning 0 = .ok (.iconst (-1), 1) := by decide +kernel
theorem dX5_nearestLearning_1 : decode cX5_nearestLearning 1 = .ok (.istore_n 2, 1) := by decide +kernel
theorem dX5_nearestLearning_2 : decode cX5_nearestLearning 2 = .ok (.ldc 56, 2) := by decide +kernel
theorem dX5_nearestLearning_4 : decode cX5_nearestLearning 4 = .ok (.istore_n 3, 1) := by decide +kernel
theorem dX5_nearestLearning_5 : decode cX5_nearestLearning 5 = .ok (.iconst 0, 1) := by decide +kernel
theorem dX5_nearestLearning_6 : decode cX5_nearestLearning 6 = .ok (.istore 4, 2) := by decide +kernel
theorem dX5_nearestLearning_8 : decode cX5_nearestLearning 8 = .ok (.iload 4, 2) := by decide +kernel
theorem dX5_nearestLearning_10 : decode cX5_nearestLearning 10 = .ok (.aload_n 0, 1) := by decide +kernel
theorem dX5_nearestLearning_11 : decode cX5_nearestLearning 11 = .ok (.getfield 31, 3) := by decide +kernel
theorem dX5_nearestLearning_14 : decode cX5_nearestLearning 14 = .ok (.if_icmp .ge 47, 3) := by decide +kernel
theorem dX5_nearestLearning_17 : decode cX5_nearestLearning 17 = .ok (.iload 4, 2) := by decide +kernel
theorem dX5_nearestLearning_19 : decode cX5_nearestLearning 19 = .ok (.iload_n 1, 1) := by decide +kernel
theorem dX5_nearestLearning_20 : decode cX5_nearestLearning 20 = .ok (.if_icmp .eq 35, 3) := by decide +kernel
theorem dX5_nearestLearning_23 : decode cX5_nearestLearning 23 = .ok (.aload_n 0, 1) := by decide +kernel
theorem dX5_nearestLearning_24 : decode cX5_nearestLearning 24 = .ok (.getfield 23, 3) := by decide +kernel
theorem dX5_nearestLearning_27 : decode cX5_nearestLearning 27 = .ok (.iload 4, 2) := by decide +kernel
theorem dX5_nearestLearning_29 : decode cX5_nearestLearning 29 = .ok (.baload, 1) := by decide +kernel
theorem dX5_nearestLearning_30 : decode cX5_nearestLearning 30 = .ok (.ifCond .eq 25, 3) := by decide +kernel
theorem dX5_nearestLearning_33 : decode cX5_nearestLearning 33 = .ok (.aload_n 0, 1) := by decide +kernel
theorem dX5_nearestLearning_34 : decode cX5_nearestLearning 34 = .ok (.iload 4, 2) := by decide +kernel
theorem dX5_nearestLearning_36 : decode cX5_nearestLearning 36 = .ok (.iload_n 1, 1) := by decide +kernel
theorem dX5_nearestLearning_37 : decode cX5_nearestLearning 37 = .ok (.invokevirtual 57, 3) := by decide +kernel
theorem dX5_nearestLearning_40 : decode cX5_nearestLearning 40 = .ok (.iload_n 3, 1) := by decide +kernel
theorem dX5_nearestLearning_41 : decode cX5_nearestLearning 41 = .ok (.if_icmp .ge 14, 3) := by decide +kernel
theorem dX5_nearestLearning_44 : decode cX5_nearestLearning 44 = .ok (.iload 4, 2) := by decide +kernel
theorem dX5_nearestLearning_46 : decode cX5_nearestLearning 46 = .ok (.istore_n 2, 1) := by decide +kernel
theorem dX5_nearestLearning_47 : decode cX5_nearestLearning 47 = .ok (.aload_n 0, 1) := by decide +kernel
theorem dX5_nearestLearning_48 : decode cX5_nearestLearning 48 = .ok (.iload 4, 2) := by decide +kernel
theorem dX5_nearestLearning_50 : decode cX5_nearestLearning 50 = .ok (.iload_n 1, 1) := by decide +kernel
theorem dX5_nearestLearning_51 : decode cX5_nearestLearning 51 = .ok (.invokevirtual 57, 3) := by decide +kernel
theorem dX5_nearestLearning_54 : decode cX5_nearestLearning 54 = .ok (.istore_n 3, 1) := by decide +kernel
theorem dX5_nearestLearning_55 : decode cX5_nearestLearning 55 = .ok (.iinc 4 1, 3) := by decide +kernel
theorem dX5_nearestLearning_58 : decode cX5_nearestLearning 58 = .ok (.goto (-50), 3) := by decide +kernel
theorem dX5_nearestLearning_61 : decode cX5_nearestLearning 61 = .ok (.iload_n 2, 1) := by decide +kernel
theorem dX5_nearestLearning_62 : decode cX5_nearestLearning 62 = .ok (.ireturn, 1) := by decide +kernel
theorem dX5_distance_0 : decode cX5_distance 0 = .ok (.aload_n 0, 1) := by decide +kernel
theorem dX5_distance_1 : decode cX5_distance 1 = .ok (.iconst 0, 1) := by decide +kernel
theorem dX5_distance_2 : decode cX5_distance 2 = .ok (.iload_n 1, 1) := by decide +kernel
theorem dX5_distance_3 : decode cX5_distance 3 = .ok (.invokevirtual 61, 3) := by decide +kernel
theorem dX5_distance_6 : decode cX5_distance 6 = .ok (.aload_n 0, 1) := by decide +kernel
theorem dX5_distance_7 : decode cX5_distance 7 = .ok (.iconst 0, 1) := by decide +kernel
theorem dX5_distance_8 : decode cX5_distance 8 = .ok (.iload_n 2, 1) := by decide +kernel
theorem dX5_distance_9 : decode cX5_distance 9 = .ok (.invokevirtual 61, 3) := by decide +kernel
theorem dX5_distance_12 : decode cX5_distance 12 = .ok (.isub, 1) := by decide +kernel
theorem dX5_distance_13 : decode cX5_distance 13 = .ok (.invokestatic 64, 3) := by decide +kernel
theorem dX5_distance_16 : decode cX5_distance 16 = .ok (.aload_n 0, 1) := by decide +kernel
theorem dX5_distance_17 : decode cX5_distance 17 = .ok (.iconst 1, 1) := by decide +kernel
theorem dX5_distance_18 : decode cX5_distance 18 = .ok (.iload_n 1, 1) := by decide +kernel
theorem dX5_distance_19 : decode cX5_distance 19 = .ok (.invokevirtual 61, 3) := by decide +kernel
theorem dX5_distance_22 : decode cX5_distance 22 = .ok (.aload_n 0, 1) := by decide +kernel
theorem dX5_distance_23 : decode cX5_distance 23 = .ok (.iconst 1, 1) := by decide +kernel
theorem dX5_distance_24 : decode cX5_distance 24 = .ok (.iload_n 2, 1) := by decide +kernel
theorem dX5_distance_25 : decode cX5_distance 25 = .ok (.invokevirtual 61, 3) := by decide +kernel
theorem dX5_distance_28 : decode cX5_distance 28 = .ok (.isub, 1) := by decide +kernel
theorem dX5_distance_29 : decode cX5_distance 29 = .ok (.invokestatic 64, 3) := by decide +kernel
theorem dX5_distance_32 : decode cX5_distance 32 = .ok (.iadd, 1) := by decide +kernel
theorem dX5_distance_33 : decode cX5_distance 33 = .ok (.ireturn, 1) := by decide +kernel
theorem dX5_bestOn_0 : decode cX5_bestOn 0 = .ok (.iconst (-1), 1) := by decide +kernel
theorem dX5_bestOn_1 : decode cX5_bestOn 1 = .ok (.istore_n 2, 1) := by decide +kernel
theorem dX5_bestOn_2 : decode cX5_bestOn 2 = .ok (.ldc 56, 2) := by decide +kernel
theorem dX5_bestOn_4 : decode cX5_bestOn 4 = .ok (.istore_n 3, 1) := by decide +kernel
theorem dX5_bestOn_5 : decode cX5_bestOn 5 = .ok (.iconst 0, 1) := by decide +kernel
theorem dX5_bestOn_6 : decode cX5_bestOn 6 = .ok (.istore 4, 2) := by decide +kernel
theorem dX5_bestOn_8 : decode cX5_bestOn 8 = .ok (.iload 4, 2) := by decide +kernel
theorem dX5_bestOn_10 : decode cX5_bestOn 10 = .ok (.aload_n 0, 1) := by decide +kernel
theorem dX5_bestOn_11 : decode cX5_bestOn 11 = .ok (.getfield 27, 3) := by decide +kernel
theorem dX5_bestOn_14 : decode cX5_bestOn 14 = .ok (.if_icmp .ge 52, 3) := by decide +kernel
theorem dX5_bestOn_17 : decode cX5_bestOn 17 = .ok (.aload_n 0, 1) := by decide +kernel
theorem dX5_bestOn_18 : decode cX5_bestOn 18 = .ok (.iload_n 1, 1) := by decide +kernel
theorem dX5_bestOn_19 : decode cX5_bestOn 19 = .ok (.invokevirtual 40, 3) := by decide +kernel
theorem dX5_bestOn_22 : decode cX5_bestOn 22 = .ok (.ifCond .eq 44, 3) := by decide +kernel
theorem dX5_bestOn_25 : decode cX5_bestOn 25 = .ok (.aload_n 0, 1) := by decide +kernel
theorem dX5_bestOn_26 : decode cX5_bestOn 26 = .ok (.iload 4, 2) := by decide +kernel
theorem dX5_bestOn_28 : decode cX5_bestOn 28 = .ok (.invokevirtual 47, 3) := by decide +kernel
theorem dX5_bestOn_31 : decode cX5_bestOn 31 = .ok (.ifCond .eq 29, 3) := by decide +kernel
theorem dX5_bestOn_34 : decode cX5_bestOn 34 = .ok (.aload_n 0, 1) := by decide +kernel
theorem dX5_bestOn_35 : decode cX5_bestOn 35 = .ok (.getfield 11, 3) := by decide +kernel
theorem dX5_bestOn_38 : decode cX5_bestOn 38 = .ok (.iload 4, 2) := by decide +kernel
theorem dX5_bestOn_40 : decode cX5_bestOn 40 = .ok (.aaload, 1) := by decide +kernel
theorem dX5_bestOn_41 : decode cX5_bestOn 41 = .ok (.iload_n 1, 1) := by decide +kernel
theorem dX5_bestOn_42 : decode cX5_bestOn 42 = .ok (.iaload, 1) := by decide +kernel
theorem dX5_bestOn_43 : decode cX5_bestOn 43 = .ok (.iload_n 3, 1) := by decide +kernel
theorem dX5_bestOn_44 : decode cX5_bestOn 44 = .ok (.if_icmp .ge 16, 3) := by decide +kernel
theorem dX5_bestOn_47 : decode cX5_bestOn 47 = .ok (.iload 4, 2) := by decide +kernel
theorem dX5_bestOn_49 : decode cX5_bestOn 49 = .ok (.istore_n 2, 1) := by decide +kernel
theorem dX5_bestOn_50 : decode cX5_bestOn 50 = .ok (.aload_n 0, 1) := by decide +kernel
theorem dX5_bestOn_51 : decode cX5_bestOn 51 = .ok (.getfield 11, 3) := by decide +kernel
theorem dX5_bestOn_54 : decode cX5_bestOn 54 = .ok (.iload 4, 2) := by decide +kernel
theorem dX5_bestOn_56 : decode cX5_bestOn 56 = .ok (.aaload, 1) := by decide +kernel
theorem dX5_bestOn_57 : decode cX5_bestOn 57 = .ok (.iload_n 1, 1) := by decide +kernel
theorem dX5_bestOn_58 : decode cX5_bestOn 58 = .ok (.iaload, 1) := by decide +kernel
theorem dX5_bestOn_59 : decode cX5_bestOn 59 = .ok (.istore_n 3, 1) := by decide +kernel
theorem dX5_bestOn_60 : decode cX5_bestOn 60 = .ok (.iinc 4 1, 3) := by decide +kernel
theorem dX5_bestOn_63 : decode cX5_bestOn 63 = .ok (.goto (-55), 3) := by decide +kernel
theorem dX5_bestOn_66 : decode cX5_bestOn 66 = .ok (.iload_n 2, 1) := by decide +kernel
theorem dX5_bestOn_67 : decode cX5_bestOn 67 = .ok (.ireturn, 1) := by decide +kernel
