theorem dX9_thrown_0 : decode cX9_thrown 0 = .ok (.aload_n 0, 1) := by decide +kernel
theorem dX9_thrown_1 : decode cX9_thrown 1 = .ok (.getfield 72, 3) := by decide +kernel
theorem dX9_thrown_4 : decode cX9_thrown 4 = .ok (.ireturn, 1) := by decide +kernel
theorem dX9_good_0 : decode cX9_good 0 = .ok (.aload_n 0, 1) := by decide +kernel
theorem dX9_good_1 : decode cX9_good 1 = .ok (.iconst 0, 1) := by decide +kernel
theorem dX9_good_2 : decode cX9_good 2 = .ok (.putfield 72, 3) := by decide +kernel
theorem dX9_good_5 : decode cX9_good 5 = .ok (.aload_n 0, 1) := by decide +kernel
theorem dX9_good_6 : decode cX9_good 6 = .ok (.iconst 0, 1) := by decide +kernel
theorem dX9_good_7 : decode cX9_good 7 = .ok (.putfield 75, 3) := by decide +kernel
theorem dX9_good_10 : decode cX9_good 10 = .ok (.return_, 1) := by decide +kernel
theorem dX9_no_0 : decode cX9_no 0 = .ok (.aload_n 0, 1) := by decide +kernel
theorem dX9_no_1 : decode cX9_no 1 = .ok (.iload_n 1, 1) := by decide +kernel
theorem dX9_no_2 : decode cX9_no 2 = .ok (.putfield 75, 3) := by decide +kernel
theorem dX9_no_5 : decode cX9_no 5 = .ok (.iconst (-1), 1) := by decide +kernel
theorem dX9_no_6 : decode cX9_no 6 = .ok (.ireturn, 1) := by decide +kernel
theorem dX9_isNot_0 : decode cX9_isNot 0 = .ok (.aload_n 0, 1) := by decide +kernel
theorem dX9_isNot_1 : decode cX9_isNot 1 = .ok (.iload_n 1, 1) := by decide +kernel
theorem dX9_isNot_2 : decode cX9_isNot 2 = .ok (.putfield 75, 3) := by decide +kernel
theorem dX9_isNot_5 : decode cX9_isNot 5 = .ok (.iconst 0, 1) := by decide +kernel
theorem dX9_isNot_6 : decode cX9_isNot 6 = .ok (.ireturn, 1) := by decide +kernel
theorem dX9_within_0 : decode cX9_within 0 = .ok (.iload_n 0, 1) := by decide +kernel
theorem dX9_within_1 : decode cX9_within 1 = .ok (.iload_n 1, 1) := by decide +kernel
theorem dX9_within_2 : decode cX9_within 2 = .ok (.if_icmp .lt 12, 3) := by decide +kernel
theorem dX9_within_5 : decode cX9_within 5 = .ok (.iload_n 0, 1) := by decide +kernel
theorem dX9_within_6 : decode cX9_within 6 = .ok (.iload_n 2, 1) := by decide +kernel
theorem dX9_within_7 : decode cX9_within 7 = .ok (.if_icmp .gt 7, 3) := by decide +kernel
theorem dX9_within_10 : decode cX9_within 10 = .ok (.iconst 1, 1) := by decide +kernel
theorem dX9_within_11 : decode cX9_within 11 = .ok (.goto 4, 3) := by decide +kernel
theorem dX9_within_14 : decode cX9_within 14 = .ok (.iconst 0, 1) := by decide +kernel
theorem dX9_within_15 : decode cX9_within 15 = .ok (.ireturn, 1) := by decide +kernel
theorem dX9_hasBit_0 : decode cX9_hasBit 0 = .ok (.iload_n 0, 1) := by decide +kernel
theorem dX9_hasBit_1 : decode cX9_hasBit 1 = .ok (.iload_n 1, 1) := by decide +kernel
theorem dX9_hasBit_2 : decode cX9_hasBit 2 = .ok (.ishr, 1) := by decide +kernel
theorem dX9_hasBit_3 : decode cX9_hasBit 3 = .ok (.iconst 1, 1) := by decide +kernel
theorem dX9_hasBit_4 : decode cX9_hasBit 4 = .ok (.iand, 1) := by decide +kernel
theorem dX9_hasBit_5 : decode cX9_hasBit 5 = .ok (.iconst 1, 1) := by decide +kernel
theorem dX9_hasBit_6 : decode cX9_hasBit 6 = .ok (.if_icmp .ne 7, 3) := by decide +kernel
theorem dX9_hasBit_9 : decode cX9_hasBit 9 = .ok (.iconst 1, 1) := by decide +kernel
theorem dX9_hasBit_10 : decode cX9_hasBit 10 = .ok (.goto 4, 3) := by decide +kernel
theorem dX9_hasBit_13 : decode cX9_hasBit 13 = .ok (.iconst 0, 1) := by decide +kernel
theorem dX9_hasBit_14 : decode cX9_hasBit 14 = .ok (.ireturn, 1) := by decide +kernel
theorem dX9_ones_0 : decode cX9_ones 0 = .ok (.iconst 0, 1) := by decide +kernel
theorem dX9_ones_1 : decode cX9_ones 1 = .ok (.istore_n 1, 1) := by decide +kernel
theorem dX9_ones_2 : decode cX9_ones 2 = .ok (.iconst 0, 1) := by decide +kernel
theorem dX9_ones_3 : decode cX9_ones 3 = .ok (.istore_n 2, 1) := by decide +kernel
theorem dX9_ones_4 : decode cX9_ones 4 = .ok (.iload_n 2, 1) := by decide +kernel
theorem dX9_ones_5 : decode cX9_ones 5 = .ok (.iconst 5, 1) := by decide +kernel
theorem dX9_ones_6 : decode cX9_ones 6 = .ok (.if_icmp .ge 17, 3) := by decide +kernel
theorem dX9_ones_9 : decode cX9_ones 9 = .ok (.iload_n 1, 1) := by decide +kernel
theorem dX9_ones_10 : decode cX9_ones 10 = .ok (.iload_n 0, 1) := by decide +kernel
theorem dX9_ones_11 : decode cX9_ones 11 = .ok (.iload_n 2, 1) := by decide +kernel
theorem dX9_ones_12 : decode cX9_ones 12 = .ok (.ishr, 1) := by decide +kernel
theorem dX9_ones_13 : decode cX9_ones 13 = .ok (.iconst 1, 1) := by decide +kernel
theorem dX9_ones_14 : decode cX9_ones 14 = .ok (.iand, 1) := by decide +kernel
theorem dX9_ones_15 : decode cX9_ones 15 = .ok (.iadd, 1) := by decide +kernel
theorem dX9_ones_16 : decode cX9_ones 16 = .ok (.istore_n 1, 1) := by decide +kernel
theorem dX9_ones_17 : decode cX9_ones 17 = .ok (.iinc 2 1, 3) := by decide +kernel
theorem dX9_ones_20 : decode cX9_ones 20 = .ok (.goto (-16), 3) := by decide +kernel
theorem dX9_ones_23 : decode cX9_ones 23 = .ok (.iload_n 1, 1) := by decide +kernel
theorem dX9_ones_24 : decode cX9_ones 24 = .ok (.ireturn, 1) := by decide +kernel
theorem dX9_copy_0 : decode cX9_copy 0 = .ok (.iconst 0, 1) := by decide +kernel
theorem dX9_copy_1 : decode cX9_copy 1 = .ok (.istore 5, 2) := by decide +kernel
theorem dX9_copy_3 : decode cX9_copy 3 = .ok (.iload 5, 2) := by decide +kernel
theorem dX9_copy_5 : decode cX9_copy 5 = .ok (.iload 4, 2) := by decide +kernel
theorem dX9_copy_7 : decode cX9_copy 7 = .ok (.if_icmp .ge 21, 3) := by decide +kernel
theorem dX9_copy_10 : decode cX9_copy 10 = .ok (.aload_n 2, 1) := by decide +kernel
theorem dX9_copy_11 : decode cX9_copy 11 = .ok (.iload_n 3, 1) := by decide +kernel
theorem dX9_copy_12 : decode cX9_copy 12 = .ok (.iload 5, 2) := by decide +kernel
theorem dX9_copy_14 : decode cX9_copy 14 = .ok (.iadd, 1) := by decide +kernel
theorem dX9_copy_15 : decode cX9_copy 15 = .ok (.aload_n 0, 1) := by decide +kernel
theorem dX9_copy_16 : decode cX9_copy 16 = .ok (.iload_n 1, 1) := by decide +kernel
theorem dX9_copy_17 : decode cX9_copy 17 = .ok (.iload 5, 2) := by decide +kernel
theorem dX9_copy_19 : decode cX9_copy 19 = .ok (.iadd, 1) := by decide +kernel
theorem dX9_copy_20 : decode cX9_copy 20 = .ok (.iaload, 1) := by decide +kernel
theorem dX9_copy_21 : decode cX9_copy 21 = .ok (.iastore, 1) := by decide +kernel
theorem dX9_copy_22 : decode cX9_copy 22 = .ok (.iinc 5 1, 3) := by decide +kernel
theorem dX9_copy_25 : decode cX9_copy 25 = .ok (.goto (-22), 3) := by decide +kernel
theorem dX9_copy_28 : decode cX9_copy 28 = .ok (.return_, 1) := by decide +kernel
theorem dX9_copyLongs_0 : decode cX9_copyLongs 0 = .ok (.iconst 0, 1) := by decide +kernel
theorem dX9_copyLongs_1 : decode cX9_copyLongs 1 = .ok (.istore 4, 2) := by decide +kernel
theorem dX9_copyLongs_3 : decode cX9_copyLongs 3 = .ok (.iload 4, 2) := by decide +kernel
theorem dX9_copyLongs_5 : decode cX9_copyLongs 5 = .ok (.bipush 31, 2) := by decide +kernel
theorem dX9_copyLongs_7 : decode cX9_copyLongs 7 = .ok (.if_icmp .ge 21, 3) := by decide +kernel
theorem dX9_copyLongs_10 : decode cX9_copyLongs 10 = .ok (.aload_n 2, 1) := by decide +kernel
theorem dX9_copyLongs_11 : decode cX9_copyLongs 11 = .ok (.iload_n 3, 1) := by decide +kernel
theorem dX9_copyLongs_12 : decode cX9_copyLongs 12 = .ok (.iload 4, 2) := by decide +kernel
theorem dX9_copyLongs_14 : decode cX9_copyLongs 14 = .ok (.iadd, 1) := by decide +kernel
theorem dX9_copyLongs_15 : decode cX9_copyLongs 15 = .ok (.aload_n 0, 1) := by decide +kernel
theorem dX9_copyLongs_16 : decode cX9_copyLongs 16 = .ok (.iload_n 1, 1) := by decide +kernel
theorem dX9_copyLongs_17 : decode cX9_copyLongs 17 = .ok (.iload 4, 2) := by decide +kernel
theorem dX9_copyLongs_19 : decode cX9_copyLongs 19 = .ok (.iadd, 1) := by decide +kernel
theorem dX9_copyLongs_20 : decode cX9_copyLongs 20 = .ok (.laload, 1) := by decide +kernel
theorem dX9_copyLongs_21 : decode cX9_copyLongs 21 = .ok (.lastore, 1) := by decide +kernel
theorem dX9_copyLongs_22 : decode cX9_copyLongs 22 = .ok (.iinc 4 1, 3) := by decide +kernel
theorem dX9_copyLongs_25 : decode cX9_copyLongs 25 = .ok (.goto (-22), 3) := by decide +kernel
theorem dX9_copyLongs_28 : decode cX9_copyLongs 28 = .ok (.return_, 1) := by decide +kernel
theorem dX9_lowest_0 : decode cX9_lowest 0 = .ok (.lload_n 0, 1) := by decide +kernel
theorem dX9_lowest_1 : decode cX9_lowest 1 = .ok (.lstore 5, 2) := by decide +kernel
theorem dX9_lowest_3 : decode cX9_lowest 3 = .ok (.lload_n 2, 1) := by decide +kernel
theorem dX9_lowest_4 : decode cX9_lowest 4 = .ok (.lstore 7, 2) := by decide +kernel
theorem dX9_lowest_6 : decode cX9_lowest 6 = .ok (.lload 7, 2) := by decide +kernel
theorem dX9_lowest_8 : decode cX9_lowest 8 = .ok (.lconst 0, 1) := by decide +kernel
theorem dX9_lowest_9 : decode cX9_lowest 9 = .ok (.lcmp, 1) := by decide +kernel
theorem dX9_lowest_10 : decode cX9_lowest 10 = .ok (.ifCond .eq 21, 3) := by decide +kernel
theorem dX9_lowest_13 : decode cX9_lowest 13 = .ok (.lload 5, 2) := by decide +kernel
theorem dX9_lowest_15 : decode cX9_lowest 15 = .ok (.lload 7, 2) := by decide +kernel
theorem dX9_lowest_17 : decode cX9_lowest 17 = .ok (.lrem, 1) := by decide +kernel
theorem dX9_lowest_18 : decode cX9_lowest 18 = .ok (.lstore 9, 2) := by decide +kernel
theorem dX9_lowest_20 : decode cX9_lowest 20 = .ok (.lload 7, 2) := by decide +kernel
theorem dX9_lowest_22 : decode cX9_lowest 22 = .ok (.lstore 5, 2) := by decide +kernel
theorem dX9_lowest_24 : decode cX9_lowest 24 = .ok (.lload 9, 2) := by decide +kernel
theorem dX9_lowest_26 : decode cX9_lowest 26 = .ok (.lstore 7, 2) := by decide +kernel
theorem dX9_lowest_28 : decode cX9_lowest 28 = .ok (.goto (-22), 3) := by decide +kernel
theorem dX9_lowest_31 : decode cX9_lowest 31 = .ok (.iload 4, 2) := by decide +kernel
theorem dX9_lowest_33 : decode cX9_lowest 33 = .ok (.ifCond .eq 7, 3) := by decide +kernel
theorem dX9_lowest_36 : decode cX9_lowest 36 = .ok (.lload_n 2, 1) := by decide +kernel
theorem dX9_lowest_37 : decode cX9_lowest 37 = .ok (.goto 4, 3) := by decide +kernel
theorem dX9_lowest_40 : decode cX9_lowest 40 = .ok (.lload_n 0, 1) := by decide +kernel
theorem dX9_lowest_41 : decode cX9_lowest 41 = .ok (.lload 5, 2) := by decide +kernel
theorem dX9_lowest_43 : decode cX9_lowest 43 = .ok (.ldiv, 1) := by decide +kernel
theorem dX9_lowest_44 : decode cX9_lowest 44 = .ok (.lreturn, 1) := by decide +kernel
theorem dX9_feed_0 : decode cX9_feed 0 = .ok (.aload_n 0, 1) := by decide +kernel
theorem dX9_feed_1 : decode cX9_feed 1 = .ok (.iconst 0, 1) := by decide +kernel
theorem dX9_feed_2 : decode cX9_feed 2 = .ok (.putfield 72, 3) := by decide +kernel
theorem dX9_feed_5 : decode cX9_feed 5 = .ok (.aload_n 0, 1) := by decide +kernel
theorem dX9_feed_6 : decode cX9_feed 6 = .ok (.getfield 78, 3) := by decide +kernel
theorem dX9_feed_9 : decode cX9_feed 9 = .ok (.bipush 20, 2) := by decide +kernel
theorem dX9_feed_11 : decode cX9_feed 11 = .ok (.iadd, 1) := by decide +kernel
theorem dX9_feed_12 : decode cX9_feed 12 = .ok (.sipush 1000, 3) := by decide +kernel
theorem dX9_feed_15 : decode cX9_feed 15 = .ok (.if_icmp .le 5, 3) := by decide +kernel
theorem dX9_feed_18 : decode cX9_feed 18 = .ok (.iconst (-1), 1) := by decide +kernel
theorem dX9_feed_19 : decode cX9_feed 19 = .ok (.ireturn, 1) := by decide +kernel
theorem dX9_feed_20 : decode cX9_feed 20 = .ok (.iconst 0, 1) := by decide +kernel
theorem dX9_feed_21 : decode cX9_feed 21 = .ok (.istore 6, 2) := by decide +kernel
theorem dX9_feed_23 : decode cX9_feed 23 = .ok (.iload 6, 2) := by decide +kernel
theorem dX9_feed_25 : decode cX9_feed 25 = .ok (.bipush 20, 2) := by decide +kernel
theorem dX9_feed_27 : decode cX9_feed 27 = .ok (.if_icmp .ge 93, 3) := by decide +kernel
theorem dX9_feed_30 : decode cX9_feed 30 = .ok (.iload 6, 2) := by decide +kernel
theorem dX9_feed_32 : decode cX9_feed 32 = .ok (.iconst 4, 1) := by decide +kernel
theorem dX9_feed_33 : decode cX9_feed 33 = .ok (.if_icmp .ge 7, 3) := by decide +kernel
theorem dX9_feed_36 : decode cX9_feed 36 = .ok (.iload_n 1, 1) := by decide +kernel
theorem dX9_feed_37 : decode cX9_feed 37 = .ok (.goto 39, 3) := by decide +kernel
theorem dX9_feed_40 : decode cX9_feed 40 = .ok (.iload 6, 2) := by decide +kernel
theorem dX9_feed_42 : decode cX9_feed 42 = .ok (.bipush 8, 2) := by decide +kernel
theorem dX9_feed_44 : decode cX9_feed 44 = .ok (.if_icmp .ge 7, 3) := by decide +kernel
theorem dX9_feed_47 : decode cX9_feed 47 = .ok (.iload_n 2, 1) := by decide +kernel
theorem dX9_feed_48 : decode cX9_feed 48 = .ok (.goto 28, 3) := by decide +kernel
theorem dX9_feed_51 : decode cX9_feed 51 = .ok (.iload 6, 2) := by decide +kernel
theorem dX9_feed_53 : decode cX9_feed 53 = .ok (.bipush 12, 2) := by decide +kernel
theorem dX9_feed_55 : decode cX9_feed 55 = .ok (.if_icmp .ge 7, 3) := by decide +kernel
theorem dX9_feed_58 : decode cX9_feed 58 = .ok (.iload_n 3, 1) := by decide +kernel
theorem dX9_feed_59 : decode cX9_feed 59 = .ok (.goto 17, 3) := by decide +kernel
theorem dX9_feed_62 : decode cX9_feed 62 = .ok (.iload 6, 2) := by decide +kernel
theorem dX9_feed_64 : decode cX9_feed 64 = .ok (.bipush 16, 2) := by decide +kernel
theorem dX9_feed_66 : decode cX9_feed 66 = .ok (.if_icmp .ge 8, 3) := by decide +kernel
theorem dX9_feed_69 : decode cX9_feed 69 = .ok (.iload 4, 2) := by decide +kernel
theorem dX9_feed_71 : decode cX9_feed 71 = .ok (.goto 5, 3) := by decide +kernel
theorem dX9_feed_74 : decode cX9_feed 74 = .ok (.iload 5, 2) := by decide +kernel
theorem dX9_feed_76 : decode cX9_feed 76 = .ok (.istore 7, 2) := by decide +kernel
theorem dX9_feed_78 : decode cX9_feed 78 = .ok (.aload_n 0, 1) := by decide +kernel
theorem dX9_feed_79 : decode cX9_feed 79 = .ok (.getfield 7, 3) := by decide +kernel
theorem dX9_feed_82 : decode cX9_feed 82 = .ok (.aload_n 0, 1) := by decide +kernel
theorem dX9_feed_83 : decode cX9_feed 83 = .ok (.getfield 78, 3) := by decide +kernel
theorem dX9_feed_86 : decode cX9_feed 86 = .ok (.iload 7, 2) := by decide +kernel
theorem dX9_feed_88 : decode cX9_feed 88 = .ok (.bipush 24, 2) := by decide +kernel
theorem dX9_feed_90 : decode cX9_feed 90 = .ok (.bipush 8, 2) := by decide +kernel
theorem dX9_feed_92 : decode cX9_feed 92 = .ok (.iload 6, 2) := by decide +kernel
theorem dX9_feed_94 : decode cX9_feed 94 = .ok (.iconst 4, 1) := by decide +kernel
theorem dX9_feed_95 : decode cX9_feed 95 = .ok (.irem, 1) := by decide +kernel
theorem dX9_feed_96 : decode cX9_feed 96 = .ok (.imul, 1) := by decide +kernel
theorem dX9_feed_97 : decode cX9_feed 97 = .ok (.isub, 1) := by decide +kernel
theorem dX9_feed_98 : decode cX9_feed 98 = .ok (.ishr, 1) := by decide +kernel
theorem dX9_feed_99 : decode cX9_feed 99 = .ok (.sipush 255, 3) := by decide +kernel
theorem dX9_feed_102 : decode cX9_feed 102 = .ok (.iand, 1) := by decide +kernel
theorem dX9_feed_103 : decode cX9_feed 103 = .ok (.iastore, 1) := by decide +kernel
theorem dX9_feed_104 : decode cX9_feed 104 = .ok (.aload_n 0, 1) := by decide +kernel
theorem dX9_feed_105 : decode cX9_feed 105 = .ok (.dup, 1) := by decide +kernel
theorem dX9_feed_106 : decode cX9_feed 106 = .ok (.getfield 78, 3) := by decide +kernel
theorem dX9_feed_109 : decode cX9_feed 109 = .ok (.iconst 1, 1) := by decide +kernel
theorem dX9_feed_110 : decode cX9_feed 110 = .ok (.iadd, 1) := by decide +kernel
theorem dX9_feed_111 : decode cX9_feed 111 = .ok (.putfield 78, 3) := by decide +kernel
theorem dX9_feed_114 : decode cX9_feed 114 = .ok (.iinc 6 1, 3) := by decide +kernel
theorem dX9_feed_117 : decode cX9_feed 117 = .ok (.goto (-94), 3) := by decide +kernel
theorem dX9_feed_120 : decode cX9_feed 120 = .ok (.aload_n 0, 1) := by decide +kernel
theorem dX9_feed_121 : decode cX9_feed 121 = .ok (.getfield 78, 3) := by decide +kernel
theorem dX9_feed_124 : decode cX9_feed 124 = .ok (.ireturn, 1) := by decide +kernel
theorem dX9_look_0 : decode cX9_look 0 = .ok (.iload_n 1, 1) := by decide +kernel
theorem dX9_look_1 : decode cX9_look 1 = .ok (.aload_n 0, 1) := by decide +kernel
theorem dX9_look_2 : decode cX9_look 2 = .ok (.getfield 81, 3) := by decide +kernel
theorem dX9_look_5 : decode cX9_look 5 = .ok (.if_icmp .ge 12, 3) := by decide +kernel
theorem dX9_look_8 : decode cX9_look 8 = .ok (.aload_n 0, 1) := by decide +kernel
theorem dX9_look_9 : decode cX9_look 9 = .ok (.getfield 7, 3) := by decide +kernel
theorem dX9_look_12 : decode cX9_look 12 = .ok (.iload_n 1, 1) := by decide +kernel
theorem dX9_look_13 : decode cX9_look 13 = .ok (.iaload, 1) := by decide +kernel
theorem dX9_look_14 : decode cX9_look 14 = .ok (.goto 4, 3) := by decide +kernel
theorem dX9_look_17 : decode cX9_look 17 = .ok (.iconst (-1), 1) := by decide +kernel
theorem dX9_look_18 : decode cX9_look 18 = .ok (.ireturn, 1) := by decide +kernel
theorem dX9_isSmall_0 : decode cX9_isSmall 0 = .ok (.iload_n 0, 1) := by decide +kernel
theorem dX9_isSmall_1 : decode cX9_isSmall 1 = .ok (.bipush 97, 2) := by decide +kernel
theorem dX9_isSmall_3 : decode cX9_isSmall 3 = .ok (.if_icmp .lt 13, 3) := by decide +kernel
theorem dX9_isSmall_6 : decode cX9_isSmall 6 = .ok (.iload_n 0, 1) := by decide +kernel
theorem dX9_isSmall_7 : decode cX9_isSmall 7 = .ok (.bipush 122, 2) := by decide +kernel
theorem dX9_isSmall_9 : decode cX9_isSmall 9 = .ok (.if_icmp .gt 7, 3) := by decide +kernel
theorem dX9_isSmall_12 : decode cX9_isSmall 12 = .ok (.iconst 1, 1) := by decide +kernel
theorem dX9_isSmall_13 : decode cX9_isSmall 13 = .ok (.goto 4, 3) := by decide +kernel
theorem dX9_isSmall_16 : decode cX9_isSmall 16 = .ok (.iconst 0, 1) := by decide +kernel
theorem dX9_isSmall_17 : decode cX9_isSmall 17 = .ok (.ireturn, 1) := by decide +kernel
theorem dX9_isDigit_0 : decode cX9_isDigit 0 = .ok (.iload_n 0, 1) := by decide +kernel
theorem dX9_isDigit_1 : decode cX9_isDigit 1 = .ok (.bipush 48, 2) := by decide +kernel
theorem dX9_isDigit_3 : decode cX9_isDigit 3 = .ok (.if_icmp .lt 13, 3) := by decide +kernel
theorem dX9_isDigit_6 : decode cX9_isDigit 6 = .ok (.iload_n 0, 1) := by decide +kernel
theorem dX9_isDigit_7 : decode cX9_isDigit 7 = .ok (.bipush 57, 2) := by decide +kernel
theorem dX9_isDigit_9 : decode cX9_isDigit 9 = .ok (.if_icmp .gt 7, 3) := by decide +kernel
theorem dX9_isDigit_12 : decode cX9_isDigit 12 = .ok (.iconst 1, 1) := by decide +kernel
theorem dX9_isDigit_13 : decode cX9_isDigit 13 = .ok (.goto 4, 3) := by decide +kernel
theorem dX9_isDigit_16 : decode cX9_isDigit 16 = .ok (.iconst 0, 1) := by decide +kernel
theorem dX9_isDigit_17 : decode cX9_isDigit 17 = .ok (.ireturn, 1) := by decide +kernel
theorem dX9_next_0 : decode cX9_next 0 = .ok (.aload_n 0, 1) := by decide +kernel
theorem dX9_next_1 : decode cX9_next 1 = .ok (.getfield 84, 3) := by decide +kernel
theorem dX9_next_4 : decode cX9_next 4 = .ok (.istore_n 1, 1) := by decide +kernel
theorem dX9_next_5 : decode cX9_next 5 = .ok (.aload_n 0, 1) := by decide +kernel
theorem dX9_next_6 : decode cX9_next 6 = .ok (.iload_n 1, 1) := by decide +kernel
theorem dX9_next_7 : decode cX9_next 7 = .ok (.invokevirtual 87, 3) := by decide +kernel
theorem dX9_next_10 : decode cX9_next 10 = .ok (.bipush 32, 2) := by decide +kernel
theorem dX9_next_12 : decode cX9_next 12 = .ok (.if_icmp .ne 9, 3) := by decide +kernel
theorem dX9_next_15 : decode cX9_next 15 = .ok (.iinc 1 1, 3) := by decide +kernel
theorem dX9_next_18 : decode cX9_next 18 = .ok (.goto (-13), 3) := by decide +kernel
theorem dX9_next_21 : decode cX9_next 21 = .ok (.aload_n 0, 1) := by decide +kernel
theorem dX9_next_22 : decode cX9_next 22 = .ok (.iload_n 1, 1) := by decide +kernel
theorem dX9_next_23 : decode cX9_next 23 = .ok (.putfield 91, 3) := by decide +kernel
theorem dX9_next_26 : decode cX9_next 26 = .ok (.aload_n 0, 1) := by decide +kernel
theorem dX9_next_27 : decode cX9_next 27 = .ok (.iload_n 1, 1) := by decide +kernel
theorem dX9_next_28 : decode cX9_next 28 = .ok (.invokevirtual 87, 3) := by decide +kernel
theorem dX9_next_31 : decode cX9_next 31 = .ok (.istore_n 2, 1) := by decide +kernel
theorem dX9_next_32 : decode cX9_next 32 = .ok (.aload_n 0, 1) := by decide +kernel
theorem dX9_next_33 : decode cX9_next 33 = .ok (.iconst 0, 1) := by decide +kernel
theorem dX9_next_34 : decode cX9_next 34 = .ok (.putfield 94, 3) := by decide +kernel
theorem dX9_next_37 : decode cX9_next 37 = .ok (.aload_n 0, 1) := by decide +kernel
theorem dX9_next_38 : decode cX9_next 38 = .ok (.iconst 0, 1) := by decide +kernel
theorem dX9_next_39 : decode cX9_next 39 = .ok (.putfield 97, 3) := by decide +kernel
theorem dX9_next_42 : decode cX9_next 42 = .ok (.iload_n 2, 1) := by decide +kernel
theorem dX9_next_43 : decode cX9_next 43 = .ok (.iconst (-1), 1) := by decide +kernel
theorem dX9_next_44 : decode cX9_next 44 = .ok (.if_icmp .ne 16, 3) := by decide +kernel
theorem dX9_next_47 : decode cX9_next 47 = .ok (.aload_n 0, 1) := by decide +kernel
theorem dX9_next_48 : decode cX9_next 48 = .ok (.iconst 0, 1) := by decide +kernel
theorem dX9_next_49 : decode cX9_next 49 = .ok (.putfield 100, 3) := by decide +kernel
theorem dX9_next_52 : decode cX9_next 52 = .ok (.aload_n 0, 1) := by decide +kernel
theorem dX9_next_53 : decode cX9_next 53 = .ok (.iload_n 1, 1) := by decide +kernel
theorem dX9_next_54 : decode cX9_next 54 = .ok (.putfield 84, 3) := by decide +kernel
theorem dX9_next_57 : decode cX9_next 57 = .ok (.goto 190, 3) := by decide +kernel
theorem dX9_next_60 : decode cX9_next 60 = .ok (.iload_n 2, 1) := by decide +kernel
theorem dX9_next_61 : decode cX9_next 61 = .ok (.invokestatic 103, 3) := by decide +kernel
theorem dX9_next_64 : decode cX9_next 64 = .ok (.ifCond .eq 79, 3) := by decide +kernel
theorem dX9_next_67 : decode cX9_next 67 = .ok (.aload_n 0, 1) := by decide +kernel
theorem dX9_next_68 : decode cX9_next 68 = .ok (.iload_n 1, 1) := by decide +kernel
theorem dX9_next_69 : decode cX9_next 69 = .ok (.invokevirtual 87, 3) := by decide +kernel
theorem dX9_next_72 : decode cX9_next 72 = .ok (.invokestatic 103, 3) := by decide +kernel
theorem dX9_next_75 : decode cX9_next 75 = .ok (.ifCond .eq 42, 3) := by decide +kernel
theorem dX9_next_78 : decode cX9_next 78 = .ok (.aload_n 0, 1) := by decide +kernel
theorem dX9_next_79 : decode cX9_next 79 = .ok (.getfield 94, 3) := by decide +kernel
theorem dX9_next_82 : decode cX9_next 82 = .ok (.bipush 8, 2) := by decide +kernel
theorem dX9_next_84 : decode cX9_next 84 = .ok (.if_icmp .ge 17, 3) := by decide +kernel
theorem dX9_next_87 : decode cX9_next 87 = .ok (.aload_n 0, 1) := by decide +kernel
theorem dX9_next_88 : decode cX9_next 88 = .ok (.getfield 17, 3) := by decide +kernel
theorem dX9_next_91 : decode cX9_next 91 = .ok (.aload_n 0, 1) := by decide +kernel
theorem dX9_next_92 : decode cX9_next 92 = .ok (.getfield 94, 3) := by decide +kernel
theorem dX9_next_95 : decode cX9_next 95 = .ok (.aload_n 0, 1) := by decide +kernel
theorem dX9_next_96 : decode cX9_next 96 = .ok (.iload_n 1, 1) := by decide +kernel
theorem dX9_next_97 : decode cX9_next 97 = .ok (.invokevirtual 87, 3) := by decide +kernel
theorem dX9_next_100 : decode cX9_next 100 = .ok (.iastore, 1) := by decide +kernel
theorem dX9_next_101 : decode cX9_next 101 = .ok (.aload_n 0, 1) := by decide +kernel
theorem dX9_next_102 : decode cX9_next 102 = .ok (.dup, 1) := by decide +kernel
theorem dX9_next_103 : decode cX9_next 103 = .ok (.getfield 94, 3) := by decide +kernel
theorem dX9_next_106 : decode cX9_next 106 = .ok (.iconst 1, 1) := by decide +kernel
theorem dX9_next_107 : decode cX9_next 107 = .ok (.iadd, 1) := by decide +kernel
theorem dX9_next_108 : decode cX9_next 108 = .ok (.putfield 94, 3) := by decide +kernel
theorem dX9_next_111 : decode cX9_next 111 = .ok (.iinc 1 1, 3) := by decide +kernel
theorem dX9_next_114 : decode cX9_next 114 = .ok (.goto (-47), 3) := by decide +kernel
theorem dX9_next_117 : decode cX9_next 117 = .ok (.aload_n 0, 1) := by decide +kernel
theorem dX9_next_118 : decode cX9_next 118 = .ok (.iload_n 1, 1) := by decide +kernel
theorem dX9_next_119 : decode cX9_next 119 = .ok (.putfield 84, 3) := by decide +kernel
theorem dX9_next_122 : decode cX9_next 122 = .ok (.aload_n 0, 1) := by decide +kernel
theorem dX9_next_123 : decode cX9_next 123 = .ok (.aload_n 0, 1) := by decide +kernel
theorem dX9_next_124 : decode cX9_next 124 = .ok (.getfield 94, 3) := by decide +kernel
theorem dX9_next_127 : decode cX9_next 127 = .ok (.bipush 8, 2) := by decide +kernel
theorem dX9_next_129 : decode cX9_next 129 = .ok (.if_icmp .le 7, 3) := by decide +kernel
theorem dX9_next_132 : decode cX9_next 132 = .ok (.iconst 1, 1) := by decide +kernel
theorem dX9_next_133 : decode cX9_next 133 = .ok (.goto 4, 3) := by decide +kernel
theorem dX9_next_136 : decode cX9_next 136 = .ok (.iconst 2, 1) := by decide +kernel
theorem dX9_next_137 : decode cX9_next 137 = .ok (.putfield 100, 3) := by decide +kernel
theorem dX9_next_140 : decode cX9_next 140 = .ok (.goto 107, 3) := by decide +kernel
theorem dX9_next_143 : decode cX9_next 143 = .ok (.iload_n 2, 1) := by decide +kernel
theorem dX9_next_144 : decode cX9_next 144 = .ok (.invokestatic 107, 3) := by decide +kernel
theorem dX9_next_147 : decode cX9_next 147 = .ok (.ifCond .eq 72, 3) := by decide +kernel
theorem dX9_next_150 : decode cX9_next 150 = .ok (.iconst 0, 1) := by decide +kernel
theorem dX9_next_151 : decode cX9_next 151 = .ok (.istore_n 3, 1) := by decide +kernel
theorem dX9_next_152 : decode cX9_next 152 = .ok (.aload_n 0, 1) := by decide +kernel
theorem dX9_next_153 : decode cX9_next 153 = .ok (.iload_n 1, 1) := by decide +kernel
theorem dX9_next_154 : decode cX9_next 154 = .ok (.invokevirtual 87, 3) := by decide +kernel
theorem dX9_next_157 : decode cX9_next 157 = .ok (.invokestatic 107, 3) := by decide +kernel
theorem dX9_next_160 : decode cX9_next 160 = .ok (.ifCond .eq 37, 3) := by decide +kernel
theorem dX9_next_163 : decode cX9_next 163 = .ok (.iload_n 3, 1) := by decide +kernel
theorem dX9_next_164 : decode cX9_next 164 = .ok (.iconst 4, 1) := by decide +kernel
theorem dX9_next_165 : decode cX9_next 165 = .ok (.if_icmp .ge 23, 3) := by decide +kernel
theorem dX9_next_168 : decode cX9_next 168 = .ok (.aload_n 0, 1) := by decide +kernel
theorem dX9_next_169 : decode cX9_next 169 = .ok (.bipush 10, 2) := by decide +kernel
theorem dX9_next_171 : decode cX9_next 171 = .ok (.aload_n 0, 1) := by decide +kernel
theorem dX9_next_172 : decode cX9_next 172 = .ok (.getfield 97, 3) := by decide +kernel
theorem dX9_next_175 : decode cX9_next 175 = .ok (.imul, 1) := by decide +kernel
theorem dX9_next_176 : decode cX9_next 176 = .ok (.aload_n 0, 1) := by decide +kernel
theorem dX9_next_177 : decode cX9_next 177 = .ok (.iload_n 1, 1) := by decide +kernel
theorem dX9_next_178 : decode cX9_next 178 = .ok (.invokevirtual 87, 3) := by decide +kernel
theorem dX9_next_181 : decode cX9_next 181 = .ok (.iadd, 1) := by decide +kernel
theorem dX9_next_182 : decode cX9_next 182 = .ok (.bipush 48, 2) := by decide +kernel
theorem dX9_next_184 : decode cX9_next 184 = .ok (.isub, 1) := by decide +kernel
theorem dX9_next_185 : decode cX9_next 185 = .ok (.putfield 97, 3) := by decide +kernel
theorem dX9_next_188 : decode cX9_next 188 = .ok (.iinc 3 1, 3) := by decide +kernel
theorem dX9_next_191 : decode cX9_next 191 = .ok (.iinc 1 1, 3) := by decide +kernel
theorem dX9_next_194 : decode cX9_next 194 = .ok (.goto (-42), 3) := by decide +kernel
theorem dX9_next_197 : decode cX9_next 197 = .ok (.aload_n 0, 1) := by decide +kernel
theorem dX9_next_198 : decode cX9_next 198 = .ok (.iload_n 1, 1) := by decide +kernel
theorem dX9_next_199 : decode cX9_next 199 = .ok (.putfield 84, 3) := by decide +kernel
theorem dX9_next_202 : decode cX9_next 202 = .ok (.aload_n 0, 1) := by decide +kernel
theorem dX9_next_203 : decode cX9_next 203 = .ok (.iload_n 3, 1) := by decide +kernel
theorem dX9_next_204 : decode cX9_next 204 = .ok (.iconst 4, 1) := by decide +kernel
theorem dX9_next_205 : decode cX9_next 205 = .ok (.if_icmp .le 7, 3) := by decide +kernel
theorem dX9_next_208 : decode cX9_next 208 = .ok (.iconst 1, 1) := by decide +kernel
theorem dX9_next_209 : decode cX9_next 209 = .ok (.goto 4, 3) := by decide +kernel
theorem dX9_next_212 : decode cX9_next 212 = .ok (.iconst 3, 1) := by decide +kernel
theorem dX9_next_213 : decode cX9_next 213 = .ok (.putfield 100, 3) := by decide +kernel
theorem dX9_next_216 : decode cX9_next 216 = .ok (.goto 31, 3) := by decide +kernel
theorem dX9_next_219 : decode cX9_next 219 = .ok (.aload_n 0, 1) := by decide +kernel
theorem dX9_next_220 : decode cX9_next 220 = .ok (.iload_n 1, 1) := by decide +kernel
theorem dX9_next_221 : decode cX9_next 221 = .ok (.iconst 1, 1) := by decide +kernel
theorem dX9_next_222 : decode cX9_next 222 = .ok (.iadd, 1) := by decide +kernel
theorem dX9_next_223 : decode cX9_next 223 = .ok (.putfield 84, 3) := by decide +kernel
theorem dX9_next_226 : decode cX9_next 226 = .ok (.aload_n 0, 1) := by decide +kernel
theorem dX9_next_227 : decode cX9_next 227 = .ok (.iload_n 2, 1) := by decide +kernel
theorem dX9_next_228 : decode cX9_next 228 = .ok (.bipush 59, 2) := by decide +kernel
theorem dX9_next_230 : decode cX9_next 230 = .ok (.if_icmp .eq 9, 3) := by decide +kernel
theorem dX9_next_233 : decode cX9_next 233 = .ok (.iload_n 2, 1) := by decide +kernel
theorem dX9_next_234 : decode cX9_next 234 = .ok (.bipush 44, 2) := by decide +kernel
theorem dX9_next_236 : decode cX9_next 236 = .ok (.if_icmp .ne 7, 3) := by decide +kernel
theorem dX9_next_239 : decode cX9_next 239 = .ok (.iload_n 2, 1) := by decide +kernel
theorem dX9_next_240 : decode cX9_next 240 = .ok (.goto 4, 3) := by decide +kernel
theorem dX9_next_243 : decode cX9_next 243 = .ok (.iconst 1, 1) := by decide +kernel
theorem dX9_next_244 : decode cX9_next 244 = .ok (.putfield 100, 3) := by decide +kernel
theorem dX9_next_247 : decode cX9_next 247 = .ok (.return_, 1) := by decide +kernel
theorem dX9_wrong_0 : decode cX9_wrong 0 = .ok (.aload_n 0, 1) := by decide +kernel
theorem dX9_wrong_1 : decode cX9_wrong 1 = .ok (.getfield 110, 3) := by decide +kernel
theorem dX9_wrong_4 : decode cX9_wrong 4 = .ok (.ifCond .eq 4, 3) := by decide +kernel
theorem dX9_wrong_7 : decode cX9_wrong 7 = .ok (.return_, 1) := by decide +kernel
theorem dX9_wrong_8 : decode cX9_wrong 8 = .ok (.aload_n 0, 1) := by decide +kernel
theorem dX9_wrong_9 : decode cX9_wrong 9 = .ok (.iconst 1, 1) := by decide +kernel
theorem dX9_wrong_10 : decode cX9_wrong 10 = .ok (.putfield 110, 3) := by decide +kernel
theorem dX9_wrong_13 : decode cX9_wrong 13 = .ok (.aload_n 0, 1) := by decide +kernel
theorem dX9_wrong_14 : decode cX9_wrong 14 = .ok (.iload_n 1, 1) := by decide +kernel
theorem dX9_wrong_15 : decode cX9_wrong 15 = .ok (.putfield 114, 3) := by decide +kernel
theorem dX9_wrong_18 : decode cX9_wrong 18 = .ok (.aload_n 0, 1) := by decide +kernel
theorem dX9_wrong_19 : decode cX9_wrong 19 = .ok (.iload_n 2, 1) := by decide +kernel
theorem dX9_wrong_20 : decode cX9_wrong 20 = .ok (.putfield 13, 3) := by decide +kernel
theorem dX9_wrong_23 : decode cX9_wrong 23 = .ok (.return_, 1) := by decide +kernel
theorem dX9_isWord_0 : decode cX9_isWord 0 = .ok (.aload_n 0, 1) := by decide +kernel
theorem dX9_isWord_1 : decode cX9_isWord 1 = .ok (.getfield 110, 3) := by decide +kernel
theorem dX9_isWord_4 : decode cX9_isWord 4 = .ok (.ifCond .ne 22, 3) := by decide +kernel
theorem dX9_isWord_7 : decode cX9_isWord 7 = .ok (.aload_n 0, 1) := by decide +kernel
theorem dX9_isWord_8 : decode cX9_isWord 8 = .ok (.getfield 100, 3) := by decide +kernel
theorem dX9_isWord_11 : decode cX9_isWord 11 = .ok (.iconst 2, 1) := by decide +kernel
theorem dX9_isWord_12 : decode cX9_isWord 12 = .ok (.if_icmp .ne 14, 3) := by decide +kernel
theorem dX9_isWord_15 : decode cX9_isWord 15 = .ok (.aload_n 0, 1) := by decide +kernel
theorem dX9_isWord_16 : decode cX9_isWord 16 = .ok (.getfield 94, 3) := by decide +kernel
theorem dX9_isWord_19 : decode cX9_isWord 19 = .ok (.aload_n 1, 1) := by decide +kernel
theorem dX9_isWord_20 : decode cX9_isWord 20 = .ok (.invokevirtual 117, 3) := by decide +kernel
theorem dX9_isWord_23 : decode cX9_isWord 23 = .ok (.if_icmp .eq 5, 3) := by decide +kernel
theorem dX9_isWord_26 : decode cX9_isWord 26 = .ok (.iconst 0, 1) := by decide +kernel
theorem dX9_isWord_27 : decode cX9_isWord 27 = .ok (.ireturn, 1) := by decide +kernel
theorem dX9_isWord_28 : decode cX9_isWord 28 = .ok (.iconst 1, 1) := by decide +kernel
theorem dX9_isWord_29 : decode cX9_isWord 29 = .ok (.istore_n 2, 1) := by decide +kernel
theorem dX9_isWord_30 : decode cX9_isWord 30 = .ok (.iconst 0, 1) := by decide +kernel
theorem dX9_isWord_31 : decode cX9_isWord 31 = .ok (.istore_n 3, 1) := by decide +kernel
theorem dX9_isWord_32 : decode cX9_isWord 32 = .ok (.iload_n 3, 1) := by decide +kernel
theorem dX9_isWord_33 : decode cX9_isWord 33 = .ok (.aload_n 0, 1) := by decide +kernel
theorem dX9_isWord_34 : decode cX9_isWord 34 = .ok (.getfield 94, 3) := by decide +kernel
theorem dX9_isWord_37 : decode cX9_isWord 37 = .ok (.if_icmp .ge 33, 3) := by decide +kernel
theorem dX9_isWord_40 : decode cX9_isWord 40 = .ok (.iload_n 2, 1) := by decide +kernel
theorem dX9_isWord_41 : decode cX9_isWord 41 = .ok (.ifCond .eq 21, 3) := by decide +kernel
theorem dX9_isWord_44 : decode cX9_isWord 44 = .ok (.aload_n 0, 1) := by decide +kernel
theorem dX9_isWord_45 : decode cX9_isWord 45 = .ok (.getfield 17, 3) := by decide +kernel
theorem dX9_isWord_48 : decode cX9_isWord 48 = .ok (.iload_n 3, 1) := by decide +kernel
theorem dX9_isWord_49 : decode cX9_isWord 49 = .ok (.iaload, 1) := by decide +kernel
theorem dX9_isWord_50 : decode cX9_isWord 50 = .ok (.aload_n 1, 1) := by decide +kernel
theorem dX9_isWord_51 : decode cX9_isWord 51 = .ok (.iload_n 3, 1) := by decide +kernel
theorem dX9_isWord_52 : decode cX9_isWord 52 = .ok (.invokevirtual 123, 3) := by decide +kernel
theorem dX9_isWord_55 : decode cX9_isWord 55 = .ok (.if_icmp .ne 7, 3) := by decide +kernel
theorem dX9_isWord_58 : decode cX9_isWord 58 = .ok (.iconst 1, 1) := by decide +kernel
theorem dX9_isWord_59 : decode cX9_isWord 59 = .ok (.goto 4, 3) := by decide +kernel
theorem dX9_isWord_62 : decode cX9_isWord 62 = .ok (.iconst 0, 1) := by decide +kernel
theorem dX9_isWord_63 : decode cX9_isWord 63 = .ok (.istore_n 2, 1) := by decide +kernel
theorem dX9_isWord_64 : decode cX9_isWord 64 = .ok (.iinc 3 1, 3) := by decide +kernel
theorem dX9_isWord_67 : decode cX9_isWord 67 = .ok (.goto (-35), 3) := by decide +kernel
theorem dX9_isWord_70 : decode cX9_isWord 70 = .ok (.iload_n 2, 1) := by decide +kernel
theorem dX9_isWord_71 : decode cX9_isWord 71 = .ok (.ireturn, 1) := by decide +kernel
theorem dX9_takesWord_0 : decode cX9_takesWord 0 = .ok (.aload_n 0, 1) := by decide +kernel
theorem dX9_takesWord_1 : decode cX9_takesWord 1 = .ok (.aload_n 1, 1) := by decide +kernel
theorem dX9_takesWord_2 : decode cX9_takesWord 2 = .ok (.invokevirtual 127, 3) := by decide +kernel
theorem dX9_takesWord_5 : decode cX9_takesWord 5 = .ok (.ifCond .ne 5, 3) := by decide +kernel
theorem dX9_takesWord_8 : decode cX9_takesWord 8 = .ok (.iconst 0, 1) := by decide +kernel
theorem dX9_takesWord_9 : decode cX9_takesWord 9 = .ok (.ireturn, 1) := by decide +kernel
theorem dX9_takesWord_10 : decode cX9_takesWord 10 = .ok (.aload_n 0, 1) := by decide +kernel
theorem dX9_takesWord_11 : decode cX9_takesWord 11 = .ok (.invokevirtual 131, 3) := by decide +kernel
theorem dX9_takesWord_14 : decode cX9_takesWord 14 = .ok (.iconst 1, 1) := by decide +kernel
theorem dX9_takesWord_15 : decode cX9_takesWord 15 = .ok (.ireturn, 1) := by decide +kernel
theorem dX9_must_0 : decode cX9_must 0 = .ok (.aload_n 0, 1) := by decide +kernel
theorem dX9_must_1 : decode cX9_must 1 = .ok (.getfield 110, 3) := by decide +kernel
theorem dX9_must_4 : decode cX9_must 4 = .ok (.ifCond .ne 20, 3) := by decide +kernel
theorem dX9_must_7 : decode cX9_must 7 = .ok (.aload_n 0, 1) := by decide +kernel
theorem dX9_must_8 : decode cX9_must 8 = .ok (.aload_n 1, 1) := by decide +kernel
theorem dX9_must_9 : decode cX9_must 9 = .ok (.invokevirtual 134, 3) := by decide +kernel
theorem dX9_must_12 : decode cX9_must 12 = .ok (.ifCond .ne 12, 3) := by decide +kernel
theorem dX9_must_15 : decode cX9_must 15 = .ok (.aload_n 0, 1) := by decide +kernel
theorem dX9_must_16 : decode cX9_must 16 = .ok (.iconst 1, 1) := by decide +kernel
theorem dX9_must_17 : decode cX9_must 17 = .ok (.aload_n 0, 1) := by decide +kernel
theorem dX9_must_18 : decode cX9_must 18 = .ok (.getfield 91, 3) := by decide +kernel
theorem dX9_must_21 : decode cX9_must 21 = .ok (.invokevirtual 137, 3) := by decide +kernel
theorem dX9_must_24 : decode cX9_must 24 = .ok (.return_, 1) := by decide +kernel
theorem dX9_mustName_0 : decode cX9_mustName 0 = .ok (.aload_n 0, 1) := by decide +kernel
theorem dX9_mustName_1 : decode cX9_mustName 1 = .ok (.ldc 141, 2) := by decide +kernel
theorem dX9_mustName_3 : decode cX9_mustName 3 = .ok (.invokevirtual 127, 3) := by decide +kernel
theorem dX9_mustName_6 : decode cX9_mustName 6 = .ok (.ifCond .ne 102, 3) := by decide +kernel
theorem dX9_mustName_9 : decode cX9_mustName 9 = .ok (.aload_n 0, 1) := by decide +kernel
theorem dX9_mustName_10 : decode cX9_mustName 10 = .ok (.ldc 143, 2) := by decide +kernel
theorem dX9_mustName_12 : decode cX9_mustName 12 = .ok (.invokevirtual 127, 3) := by decide +kernel
theorem dX9_mustName_15 : decode cX9_mustName 15 = .ok (.ifCond .ne 93, 3) := by decide +kernel
theorem dX9_mustName_18 : decode cX9_mustName 18 = .ok (.aload_n 0, 1) := by decide +kernel
theorem dX9_mustName_19 : decode cX9_mustName 19 = .ok (.ldc 145, 2) := by decide +kernel
theorem dX9_mustName_21 : decode cX9_mustName 21 = .ok (.invokevirtual 127, 3) := by decide +kernel
theorem dX9_mustName_24 : decode cX9_mustName 24 = .ok (.ifCond .ne 84, 3) := by decide +kernel
theorem dX9_mustName_27 : decode cX9_mustName 27 = .ok (.aload_n 0, 1) := by decide +kernel
theorem dX9_mustName_28 : decode cX9_mustName 28 = .ok (.ldc 147, 2) := by decide +kernel
theorem dX9_mustName_30 : decode cX9_mustName 30 = .ok (.invokevirtual 127, 3) := by decide +kernel
theorem dX9_mustName_33 : decode cX9_mustName 33 = .ok (.ifCond .ne 75, 3) := by decide +kernel
theorem dX9_mustName_36 : decode cX9_mustName 36 = .ok (.aload_n 0, 1) := by decide +kernel
theorem dX9_mustName_37 : decode cX9_mustName 37 = .ok (.ldc 149, 2) := by decide +kernel
theorem dX9_mustName_39 : decode cX9_mustName 39 = .ok (.invokevirtual 127, 3) := by decide +kernel
theorem dX9_mustName_42 : decode cX9_mustName 42 = .ok (.ifCond .ne 66, 3) := by decide +kernel
theorem dX9_mustName_45 : decode cX9_mustName 45 = .ok (.aload_n 0, 1) := by decide +kernel
theorem dX9_mustName_46 : decode cX9_mustName 46 = .ok (.ldc 151, 2) := by decide +kernel
theorem dX9_mustName_48 : decode cX9_mustName 48 = .ok (.invokevirtual 127, 3) := by decide +kernel
theorem dX9_mustName_51 : decode cX9_mustName 51 = .ok (.ifCond .ne 57, 3) := by decide +kernel
theorem dX9_mustName_54 : decode cX9_mustName 54 = .ok (.aload_n 0, 1) := by decide +kernel
theorem dX9_mustName_55 : decode cX9_mustName 55 = .ok (.ldc 153, 2) := by decide +kernel
theorem dX9_mustName_57 : decode cX9_mustName 57 = .ok (.invokevirtual 127, 3) := by decide +kernel
theorem dX9_mustName_60 : decode cX9_mustName 60 = .ok (.ifCond .ne 48, 3) := by decide +kernel
theorem dX9_mustName_63 : decode cX9_mustName 63 = .ok (.aload_n 0, 1) := by decide +kernel
theorem dX9_mustName_64 : decode cX9_mustName 64 = .ok (.ldc 155, 2) := by decide +kernel
theorem dX9_mustName_66 : decode cX9_mustName 66 = .ok (.invokevirtual 127, 3) := by decide +kernel
theorem dX9_mustName_69 : decode cX9_mustName 69 = .ok (.ifCond .ne 39, 3) := by decide +kernel
theorem dX9_mustName_72 : decode cX9_mustName 72 = .ok (.aload_n 0, 1) := by decide +kernel
theorem dX9_mustName_73 : decode cX9_mustName 73 = .ok (.ldc 157, 2) := by decide +kernel
theorem dX9_mustName_75 : decode cX9_mustName 75 = .ok (.invokevirtual 127, 3) := by decide +kernel
theorem dX9_mustName_78 : decode cX9_mustName 78 = .ok (.ifCond .ne 30, 3) := by decide +kernel
theorem dX9_mustName_81 : decode cX9_mustName 81 = .ok (.aload_n 0, 1) := by decide +kernel
theorem dX9_mustName_82 : decode cX9_mustName 82 = .ok (.ldc 159, 2) := by decide +kernel
theorem dX9_mustName_84 : decode cX9_mustName 84 = .ok (.invokevirtual 127, 3) := by decide +kernel
theorem dX9_mustName_87 : decode cX9_mustName 87 = .ok (.ifCond .ne 21, 3) := by decide +kernel
theorem dX9_mustName_90 : decode cX9_mustName 90 = .ok (.aload_n 0, 1) := by decide +kernel
theorem dX9_mustName_91 : decode cX9_mustName 91 = .ok (.ldc 161, 2) := by decide +kernel
theorem dX9_mustName_93 : decode cX9_mustName 93 = .ok (.invokevirtual 127, 3) := by decide +kernel
theorem dX9_mustName_96 : decode cX9_mustName 96 = .ok (.ifCond .ne 12, 3) := by decide +kernel
theorem dX9_mustName_99 : decode cX9_mustName 99 = .ok (.aload_n 0, 1) := by decide +kernel
theorem dX9_mustName_100 : decode cX9_mustName 100 = .ok (.ldc 162, 2) := by decide +kernel
theorem dX9_mustName_102 : decode cX9_mustName 102 = .ok (.invokevirtual 127, 3) := by decide +kernel
theorem dX9_mustName_105 : decode cX9_mustName 105 = .ok (.ifCond .eq 7, 3) := by decide +kernel
theorem dX9_mustName_108 : decode cX9_mustName 108 = .ok (.iconst 1, 1) := by decide +kernel
theorem dX9_mustName_109 : decode cX9_mustName 109 = .ok (.goto 4, 3) := by decide +kernel
theorem dX9_mustName_112 : decode cX9_mustName 112 = .ok (.iconst 0, 1) := by decide +kernel
theorem dX9_mustName_113 : decode cX9_mustName 113 = .ok (.istore_n 1, 1) := by decide +kernel
theorem dX9_mustName_114 : decode cX9_mustName 114 = .ok (.aload_n 0, 1) := by decide +kernel
theorem dX9_mustName_115 : decode cX9_mustName 115 = .ok (.getfield 100, 3) := by decide +kernel
theorem dX9_mustName_118 : decode cX9_mustName 118 = .ok (.iconst 2, 1) := by decide +kernel
theorem dX9_mustName_119 : decode cX9_mustName 119 = .ok (.if_icmp .ne 7, 3) := by decide +kernel
theorem dX9_mustName_122 : decode cX9_mustName 122 = .ok (.iload_n 1, 1) := by decide +kernel
theorem dX9_mustName_123 : decode cX9_mustName 123 = .ok (.ifCond .eq 12, 3) := by decide +kernel
theorem dX9_mustName_126 : decode cX9_mustName 126 = .ok (.aload_n 0, 1) := by decide +kernel
theorem dX9_mustName_127 : decode cX9_mustName 127 = .ok (.iconst 1, 1) := by decide +kernel
theorem dX9_mustName_128 : decode cX9_mustName 128 = .ok (.aload_n 0, 1) := by decide +kernel
theorem dX9_mustName_129 : decode cX9_mustName 129 = .ok (.getfield 91, 3) := by decide +kernel
theorem dX9_mustName_132 : decode cX9_mustName 132 = .ok (.invokevirtual 137, 3) := by decide +kernel
theorem dX9_mustName_135 : decode cX9_mustName 135 = .ok (.return_, 1) := by decide +kernel
theorem dX9_find_0 : decode cX9_find 0 = .ok (.iconst 0, 1) := by decide +kernel
theorem dX9_find_1 : decode cX9_find 1 = .ok (.istore_n 1, 1) := by decide +kernel
theorem dX9_find_2 : decode cX9_find 2 = .ok (.iload_n 1, 1) := by decide +kernel
theorem dX9_find_3 : decode cX9_find 3 = .ok (.bipush 14, 2) := by decide +kernel
theorem dX9_find_5 : decode cX9_find 5 = .ok (.if_icmp .ge 101, 3) := by decide +kernel
theorem dX9_find_8 : decode cX9_find 8 = .ok (.aload_n 0, 1) := by decide +kernel
theorem dX9_find_9 : decode cX9_find 9 = .ok (.getfield 23, 3) := by decide +kernel
theorem dX9_find_12 : decode cX9_find 12 = .ok (.sipush 190, 3) := by decide +kernel
theorem dX9_find_15 : decode cX9_find 15 = .ok (.iload_n 1, 1) := by decide +kernel
theorem dX9_find_16 : decode cX9_find 16 = .ok (.iadd, 1) := by decide +kernel
theorem dX9_find_17 : decode cX9_find 17 = .ok (.iaload, 1) := by decide +kernel
theorem dX9_find_18 : decode cX9_find 18 = .ok (.ifCond .le 24, 3) := by decide +kernel
theorem dX9_find_21 : decode cX9_find 21 = .ok (.aload_n 0, 1) := by decide +kernel
theorem dX9_find_22 : decode cX9_find 22 = .ok (.getfield 23, 3) := by decide +kernel
theorem dX9_find_25 : decode cX9_find 25 = .ok (.sipush 190, 3) := by decide +kernel
theorem dX9_find_28 : decode cX9_find 28 = .ok (.iload_n 1, 1) := by decide +kernel
theorem dX9_find_29 : decode cX9_find 29 = .ok (.iadd, 1) := by decide +kernel
theorem dX9_find_30 : decode cX9_find 30 = .ok (.iaload, 1) := by decide +kernel
theorem dX9_find_31 : decode cX9_find 31 = .ok (.aload_n 0, 1) := by decide +kernel
theorem dX9_find_32 : decode cX9_find 32 = .ok (.getfield 94, 3) := by decide +kernel
theorem dX9_find_35 : decode cX9_find 35 = .ok (.if_icmp .ne 7, 3) := by decide +kernel
theorem dX9_find_38 : decode cX9_find 38 = .ok (.iconst 1, 1) := by decide +kernel
theorem dX9_find_39 : decode cX9_find 39 = .ok (.goto 4, 3) := by decide +kernel
theorem dX9_find_42 : decode cX9_find 42 = .ok (.iconst 0, 1) := by decide +kernel
theorem dX9_find_43 : decode cX9_find 43 = .ok (.istore_n 2, 1) := by decide +kernel
theorem dX9_find_44 : decode cX9_find 44 = .ok (.iconst 0, 1) := by decide +kernel
theorem dX9_find_45 : decode cX9_find 45 = .ok (.istore_n 3, 1) := by decide +kernel
theorem dX9_find_46 : decode cX9_find 46 = .ok (.iload_n 3, 1) := by decide +kernel
theorem dX9_find_47 : decode cX9_find 47 = .ok (.aload_n 0, 1) := by decide +kernel
theorem dX9_find_48 : decode cX9_find 48 = .ok (.getfield 94, 3) := by decide +kernel
theorem dX9_find_51 : decode cX9_find 51 = .ok (.if_icmp .ge 43, 3) := by decide +kernel
theorem dX9_find_54 : decode cX9_find 54 = .ok (.iload_n 2, 1) := by decide +kernel
theorem dX9_find_55 : decode cX9_find 55 = .ok (.ifCond .eq 39, 3) := by decide +kernel
theorem dX9_find_58 : decode cX9_find 58 = .ok (.aload_n 0, 1) := by decide +kernel
theorem dX9_find_59 : decode cX9_find 59 = .ok (.getfield 23, 3) := by decide +kernel
theorem dX9_find_62 : decode cX9_find 62 = .ok (.sipush 204, 3) := by decide +kernel
theorem dX9_find_65 : decode cX9_find 65 = .ok (.bipush 8, 2) := by decide +kernel
theorem dX9_find_67 : decode cX9_find 67 = .ok (.iload_n 1, 1) := by decide +kernel
theorem dX9_find_68 : decode cX9_find 68 = .ok (.imul, 1) := by decide +kernel
theorem dX9_find_69 : decode cX9_find 69 = .ok (.iadd, 1) := by decide +kernel
theorem dX9_find_70 : decode cX9_find 70 = .ok (.iload_n 3, 1) := by decide +kernel
theorem dX9_find_71 : decode cX9_find 71 = .ok (.iadd, 1) := by decide +kernel
theorem dX9_find_72 : decode cX9_find 72 = .ok (.iaload, 1) := by decide +kernel
theorem dX9_find_73 : decode cX9_find 73 = .ok (.aload_n 0, 1) := by decide +kernel
theorem dX9_find_74 : decode cX9_find 74 = .ok (.getfield 17, 3) := by decide +kernel
theorem dX9_find_77 : decode cX9_find 77 = .ok (.iload_n 3, 1) := by decide +kernel
theorem dX9_find_78 : decode cX9_find 78 = .ok (.iaload, 1) := by decide +kernel
theorem dX9_find_79 : decode cX9_find 79 = .ok (.if_icmp .ne 7, 3) := by decide +kernel
theorem dX9_find_82 : decode cX9_find 82 = .ok (.iconst 1, 1) := by decide +kernel
theorem dX9_find_83 : decode cX9_find 83 = .ok (.goto 4, 3) := by decide +kernel
theorem dX9_find_86 : decode cX9_find 86 = .ok (.iconst 0, 1) := by decide +kernel
theorem dX9_find_87 : decode cX9_find 87 = .ok (.istore_n 2, 1) := by decide +kernel
theorem dX9_find_88 : decode cX9_find 88 = .ok (.iinc 3 1, 3) := by decide +kernel
theorem dX9_find_91 : decode cX9_find 91 = .ok (.goto (-45), 3) := by decide +kernel
theorem dX9_find_94 : decode cX9_find 94 = .ok (.iload_n 2, 1) := by decide +kernel
theorem dX9_find_95 : decode cX9_find 95 = .ok (.ifCond .eq 5, 3) := by decide +kernel
theorem dX9_find_98 : decode cX9_find 98 = .ok (.iload_n 1, 1) := by decide +kernel
theorem dX9_find_99 : decode cX9_find 99 = .ok (.ireturn, 1) := by decide +kernel
theorem dX9_find_100 : decode cX9_find 100 = .ok (.iinc 1 1, 3) := by decide +kernel
theorem dX9_find_103 : decode cX9_find 103 = .ok (.goto (-101), 3) := by decide +kernel
theorem dX9_find_106 : decode cX9_find 106 = .ok (.iconst (-1), 1) := by decide +kernel
theorem dX9_find_107 : decode cX9_find 107 = .ok (.ireturn, 1) := by decide +kernel
theorem dX9_newName_0 : decode cX9_newName 0 = .ok (.aload_n 0, 1) := by decide +kernel
theorem dX9_newName_1 : decode cX9_newName 1 = .ok (.getfield 110, 3) := by decide +kernel
theorem dX9_newName_4 : decode cX9_newName 4 = .ok (.ifCond .eq 4, 3) := by decide +kernel
theorem dX9_newName_7 : decode cX9_newName 7 = .ok (.return_, 1) := by decide +kernel
theorem dX9_newName_8 : decode cX9_newName 8 = .ok (.aload_n 0, 1) := by decide +kernel
theorem dX9_newName_9 : decode cX9_newName 9 = .ok (.invokevirtual 164, 3) := by decide +kernel
theorem dX9_newName_12 : decode cX9_newName 12 = .ok (.aload_n 0, 1) := by decide +kernel
theorem dX9_newName_13 : decode cX9_newName 13 = .ok (.getfield 110, 3) := by decide +kernel
theorem dX9_newName_16 : decode cX9_newName 16 = .ok (.ifCond .ne 19, 3) := by decide +kernel
theorem dX9_newName_19 : decode cX9_newName 19 = .ok (.aload_n 0, 1) := by decide +kernel
theorem dX9_newName_20 : decode cX9_newName 20 = .ok (.invokevirtual 167, 3) := by decide +kernel
theorem dX9_newName_23 : decode cX9_newName 23 = .ok (.ifCond .lt 12, 3) := by decide +kernel
theorem dX9_newName_26 : decode cX9_newName 26 = .ok (.aload_n 0, 1) := by decide +kernel
theorem dX9_newName_27 : decode cX9_newName 27 = .ok (.iconst 3, 1) := by decide +kernel
theorem dX9_newName_28 : decode cX9_newName 28 = .ok (.aload_n 0, 1) := by decide +kernel
theorem dX9_newName_29 : decode cX9_newName 29 = .ok (.getfield 91, 3) := by decide +kernel
theorem dX9_newName_32 : decode cX9_newName 32 = .ok (.invokevirtual 137, 3) := by decide +kernel
theorem dX9_newName_35 : decode cX9_newName 35 = .ok (.aload_n 0, 1) := by decide +kernel
theorem dX9_newName_36 : decode cX9_newName 36 = .ok (.getfield 110, 3) := by decide +kernel
theorem dX9_newName_39 : decode cX9_newName 39 = .ok (.ifCond .eq 4, 3) := by decide +kernel
theorem dX9_newName_42 : decode cX9_newName 42 = .ok (.return_, 1) := by decide +kernel
theorem dX9_newName_43 : decode cX9_newName 43 = .ok (.iconst 0, 1) := by decide +kernel
theorem dX9_newName_44 : decode cX9_newName 44 = .ok (.istore_n 2, 1) := by decide +kernel
theorem dX9_newName_45 : decode cX9_newName 45 = .ok (.iload_n 2, 1) := by decide +kernel
theorem dX9_newName_46 : decode cX9_newName 46 = .ok (.aload_n 0, 1) := by decide +kernel
theorem dX9_newName_47 : decode cX9_newName 47 = .ok (.getfield 94, 3) := by decide +kernel
theorem dX9_newName_50 : decode cX9_newName 50 = .ok (.if_icmp .ge 30, 3) := by decide +kernel
theorem dX9_newName_53 : decode cX9_newName 53 = .ok (.aload_n 0, 1) := by decide +kernel
theorem dX9_newName_54 : decode cX9_newName 54 = .ok (.getfield 23, 3) := by decide +kernel
theorem dX9_newName_57 : decode cX9_newName 57 = .ok (.sipush 204, 3) := by decide +kernel
theorem dX9_newName_60 : decode cX9_newName 60 = .ok (.bipush 8, 2) := by decide +kernel
theorem dX9_newName_62 : decode cX9_newName 62 = .ok (.iload_n 1, 1) := by decide +kernel
theorem dX9_newName_63 : decode cX9_newName 63 = .ok (.imul, 1) := by decide +kernel
theorem dX9_newName_64 : decode cX9_newName 64 = .ok (.iadd, 1) := by decide +kernel
theorem dX9_newName_65 : decode cX9_newName 65 = .ok (.iload_n 2, 1) := by decide +kernel
theorem dX9_newName_66 : decode cX9_newName 66 = .ok (.iadd, 1) := by decide +kernel
theorem dX9_newName_67 : decode cX9_newName 67 = .ok (.aload_n 0, 1) := by decide +kernel
theorem dX9_newName_68 : decode cX9_newName 68 = .ok (.getfield 17, 3) := by decide +kernel
theorem dX9_newName_71 : decode cX9_newName 71 = .ok (.iload_n 2, 1) := by decide +kernel
theorem dX9_newName_72 : decode cX9_newName 72 = .ok (.iaload, 1) := by decide +kernel
theorem dX9_newName_73 : decode cX9_newName 73 = .ok (.iastore, 1) := by decide +kernel
theorem dX9_newName_74 : decode cX9_newName 74 = .ok (.iinc 2 1, 3) := by decide +kernel
theorem dX9_newName_77 : decode cX9_newName 77 = .ok (.goto (-32), 3) := by decide +kernel
theorem dX9_newName_80 : decode cX9_newName 80 = .ok (.aload_n 0, 1) := by decide +kernel
theorem dX9_newName_81 : decode cX9_newName 81 = .ok (.getfield 23, 3) := by decide +kernel
theorem dX9_newName_84 : decode cX9_newName 84 = .ok (.sipush 190, 3) := by decide +kernel
theorem dX9_newName_87 : decode cX9_newName 87 = .ok (.iload_n 1, 1) := by decide +kernel
theorem dX9_newName_88 : decode cX9_newName 88 = .ok (.iadd, 1) := by decide +kernel
theorem dX9_newName_89 : decode cX9_newName 89 = .ok (.aload_n 0, 1) := by decide +kernel
theorem dX9_newName_90 : decode cX9_newName 90 = .ok (.getfield 94, 3) := by decide +kernel
theorem dX9_newName_93 : decode cX9_newName 93 = .ok (.iastore, 1) := by decide +kernel
theorem dX9_newName_94 : decode cX9_newName 94 = .ok (.aload_n 0, 1) := by decide +kernel
theorem dX9_newName_95 : decode cX9_newName 95 = .ok (.invokevirtual 131, 3) := by decide +kernel
theorem dX9_newName_98 : decode cX9_newName 98 = .ok (.return_, 1) := by decide +kernel
theorem dX9_named_0 : decode cX9_named 0 = .ok (.aload_n 0, 1) := by decide +kernel
theorem dX9_named_1 : decode cX9_named 1 = .ok (.getfield 110, 3) := by decide +kernel
theorem dX9_named_4 : decode cX9_named 4 = .ok (.ifCond .eq 5, 3) := by decide +kernel
theorem dX9_named_7 : decode cX9_named 7 = .ok (.iload_n 1, 1) := by decide +kernel
theorem dX9_named_8 : decode cX9_named 8 = .ok (.ireturn, 1) := by decide +kernel
theorem dX9_named_9 : decode cX9_named 9 = .ok (.aload_n 0, 1) := by decide +kernel
theorem dX9_named_10 : decode cX9_named 10 = .ok (.invokevirtual 164, 3) := by decide +kernel
theorem dX9_named_13 : decode cX9_named 13 = .ok (.aload_n 0, 1) := by decide +kernel
theorem dX9_named_14 : decode cX9_named 14 = .ok (.getfield 110, 3) := by decide +kernel
theorem dX9_named_17 : decode cX9_named 17 = .ok (.ifCond .eq 5, 3) := by decide +kernel
theorem dX9_named_20 : decode cX9_named 20 = .ok (.iload_n 1, 1) := by decide +kernel
theorem dX9_named_21 : decode cX9_named 21 = .ok (.ireturn, 1) := by decide +kernel
theorem dX9_named_22 : decode cX9_named 22 = .ok (.aload_n 0, 1) := by decide +kernel
theorem dX9_named_23 : decode cX9_named 23 = .ok (.invokevirtual 167, 3) := by decide +kernel
theorem dX9_named_26 : decode cX9_named 26 = .ok (.istore_n 3, 1) := by decide +kernel
theorem dX9_named_27 : decode cX9_named 27 = .ok (.iload_n 3, 1) := by decide +kernel
theorem dX9_named_28 : decode cX9_named 28 = .ok (.iload_n 1, 1) := by decide +kernel
theorem dX9_named_29 : decode cX9_named 29 = .ok (.iload_n 2, 1) := by decide +kernel
theorem dX9_named_30 : decode cX9_named 30 = .ok (.invokestatic 170, 3) := by decide +kernel
theorem dX9_named_33 : decode cX9_named 33 = .ok (.ifCond .ne 12, 3) := by decide +kernel
theorem dX9_named_36 : decode cX9_named 36 = .ok (.aload_n 0, 1) := by decide +kernel
theorem dX9_named_37 : decode cX9_named 37 = .ok (.iconst 2, 1) := by decide +kernel
theorem dX9_named_38 : decode cX9_named 38 = .ok (.aload_n 0, 1) := by decide +kernel
theorem dX9_named_39 : decode cX9_named 39 = .ok (.getfield 91, 3) := by decide +kernel
theorem dX9_named_42 : decode cX9_named 42 = .ok (.invokevirtual 137, 3) := by decide +kernel
theorem dX9_named_45 : decode cX9_named 45 = .ok (.aload_n 0, 1) := by decide +kernel
theorem dX9_named_46 : decode cX9_named 46 = .ok (.getfield 110, 3) := by decide +kernel
theorem dX9_named_49 : decode cX9_named 49 = .ok (.ifCond .eq 7, 3) := by decide +kernel
theorem dX9_named_52 : decode cX9_named 52 = .ok (.iload_n 1, 1) := by decide +kernel
theorem dX9_named_53 : decode cX9_named 53 = .ok (.goto 4, 3) := by decide +kernel
theorem dX9_named_56 : decode cX9_named 56 = .ok (.iload_n 3, 1) := by decide +kernel
theorem dX9_named_57 : decode cX9_named 57 = .ok (.ireturn, 1) := by decide +kernel
theorem dX9_headPassed_0 : decode cX9_headPassed 0 = .ok (.aload_n 0, 1) := by decide +kernel
theorem dX9_headPassed_1 : decode cX9_headPassed 1 = .ok (.iconst 0, 1) := by decide +kernel
theorem dX9_headPassed_2 : decode cX9_headPassed 2 = .ok (.iconst 2, 1) := by decide +kernel
theorem dX9_headPassed_3 : decode cX9_headPassed 3 = .ok (.invokevirtual 174, 3) := by decide +kernel
theorem dX9_headPassed_6 : decode cX9_headPassed 6 = .ok (.istore_n 1, 1) := by decide +kernel
theorem dX9_headPassed_7 : decode cX9_headPassed 7 = .ok (.aload_n 0, 1) := by decide +kernel
theorem dX9_headPassed_8 : decode cX9_headPassed 8 = .ok (.getfield 110, 3) := by decide +kernel
theorem dX9_headPassed_11 : decode cX9_headPassed 11 = .ok (.ifCond .ne 7, 3) := by decide +kernel
theorem dX9_headPassed_14 : decode cX9_headPassed 14 = .ok (.aload_n 0, 1) := by decide +kernel
theorem dX9_headPassed_15 : decode cX9_headPassed 15 = .ok (.invokevirtual 131, 3) := by decide +kernel
theorem dX9_headPassed_18 : decode cX9_headPassed 18 = .ok (.iload_n 1, 1) := by decide +kernel
theorem dX9_headPassed_19 : decode cX9_headPassed 19 = .ok (.ireturn, 1) := by decide +kernel
theorem dX9_sleeperHere_0 : decode cX9_sleeperHere 0 = .ok (.aload_n 0, 1) := by decide +kernel
theorem dX9_sleeperHere_1 : decode cX9_sleeperHere 1 = .ok (.iconst 3, 1) := by decide +kernel
theorem dX9_sleeperHere_2 : decode cX9_sleeperHere 2 = .ok (.bipush 7, 2) := by decide +kernel
theorem dX9_sleeperHere_4 : decode cX9_sleeperHere 4 = .ok (.invokevirtual 174, 3) := by decide +kernel
theorem dX9_sleeperHere_7 : decode cX9_sleeperHere 7 = .ok (.iconst 3, 1) := by decide +kernel
theorem dX9_sleeperHere_8 : decode cX9_sleeperHere 8 = .ok (.isub, 1) := by decide +kernel
theorem dX9_sleeperHere_9 : decode cX9_sleeperHere 9 = .ok (.ireturn, 1) := by decide +kernel
theorem dX9_sleeperPassed_0 : decode cX9_sleeperPassed 0 = .ok (.aload_n 0, 1) := by decide +kernel
theorem dX9_sleeperPassed_1 : decode cX9_sleeperPassed 1 = .ok (.invokevirtual 178, 3) := by decide +kernel
theorem dX9_sleeperPassed_4 : decode cX9_sleeperPassed 4 = .ok (.istore_n 1, 1) := by decide +kernel
theorem dX9_sleeperPassed_5 : decode cX9_sleeperPassed 5 = .ok (.aload_n 0, 1) := by decide +kernel
theorem dX9_sleeperPassed_6 : decode cX9_sleeperPassed 6 = .ok (.getfield 110, 3) := by decide +kernel
theorem dX9_sleeperPassed_9 : decode cX9_sleeperPassed 9 = .ok (.ifCond .ne 7, 3) := by decide +kernel
theorem dX9_sleeperPassed_12 : decode cX9_sleeperPassed 12 = .ok (.aload_n 0, 1) := by decide +kernel
theorem dX9_sleeperPassed_13 : decode cX9_sleeperPassed 13 = .ok (.invokevirtual 131, 3) := by decide +kernel
theorem dX9_sleeperPassed_16 : decode cX9_sleeperPassed 16 = .ok (.iload_n 1, 1) := by decide +kernel
theorem dX9_sleeperPassed_17 : decode cX9_sleeperPassed 17 = .ok (.ireturn, 1) := by decide +kernel
theorem dX9_numberHere_0 : decode cX9_numberHere 0 = .ok (.aload_n 0, 1) := by decide +kernel
theorem dX9_numberHere_1 : decode cX9_numberHere 1 = .ok (.getfield 110, 3) := by decide +kernel
theorem dX9_numberHere_4 : decode cX9_numberHere 4 = .ok (.ifCond .eq 5, 3) := by decide +kernel
theorem dX9_numberHere_7 : decode cX9_numberHere 7 = .ok (.iload_n 1, 1) := by decide +kernel
theorem dX9_numberHere_8 : decode cX9_numberHere 8 = .ok (.ireturn, 1) := by decide +kernel
theorem dX9_numberHere_9 : decode cX9_numberHere 9 = .ok (.aload_n 0, 1) := by decide +kernel
theorem dX9_numberHere_10 : decode cX9_numberHere 10 = .ok (.getfield 100, 3) := by decide +kernel
theorem dX9_numberHere_13 : decode cX9_numberHere 13 = .ok (.iconst 3, 1) := by decide +kernel
theorem dX9_numberHere_14 : decode cX9_numberHere 14 = .ok (.if_icmp .eq 15, 3) := by decide +kernel
theorem dX9_numberHere_17 : decode cX9_numberHere 17 = .ok (.aload_n 0, 1) := by decide +kernel
theorem dX9_numberHere_18 : decode cX9_numberHere 18 = .ok (.iconst 1, 1) := by decide +kernel
theorem dX9_numberHere_19 : decode cX9_numberHere 19 = .ok (.aload_n 0, 1) := by decide +kernel
theorem dX9_numberHere_20 : decode cX9_numberHere 20 = .ok (.getfield 91, 3) := by decide +kernel
theorem dX9_numberHere_23 : decode cX9_numberHere 23 = .ok (.invokevirtual 137, 3) := by decide +kernel
theorem dX9_numberHere_26 : decode cX9_numberHere 26 = .ok (.goto 24, 3) := by decide +kernel
theorem dX9_numberHere_29 : decode cX9_numberHere 29 = .ok (.aload_n 0, 1) := by decide +kernel
theorem dX9_numberHere_30 : decode cX9_numberHere 30 = .ok (.getfield 97, 3) := by decide +kernel
theorem dX9_numberHere_33 : decode cX9_numberHere 33 = .ok (.iload_n 1, 1) := by decide +kernel
theorem dX9_numberHere_34 : decode cX9_numberHere 34 = .ok (.iload_n 2, 1) := by decide +kernel
theorem dX9_numberHere_35 : decode cX9_numberHere 35 = .ok (.invokestatic 170, 3) := by decide +kernel
theorem dX9_numberHere_38 : decode cX9_numberHere 38 = .ok (.ifCond .ne 12, 3) := by decide +kernel
theorem dX9_numberHere_41 : decode cX9_numberHere 41 = .ok (.aload_n 0, 1) := by decide +kernel
theorem dX9_numberHere_42 : decode cX9_numberHere 42 = .ok (.iconst 4, 1) := by decide +kernel
theorem dX9_numberHere_43 : decode cX9_numberHere 43 = .ok (.aload_n 0, 1) := by decide +kernel
theorem dX9_numberHere_44 : decode cX9_numberHere 44 = .ok (.getfield 91, 3) := by decide +kernel
theorem dX9_numberHere_47 : decode cX9_numberHere 47 = .ok (.invokevirtual 137, 3) := by decide +kernel
theorem dX9_numberHere_50 : decode cX9_numberHere 50 = .ok (.aload_n 0, 1) := by decide +kernel
theorem dX9_numberHere_51 : decode cX9_numberHere 51 = .ok (.getfield 110, 3) := by decide +kernel
theorem dX9_numberHere_54 : decode cX9_numberHere 54 = .ok (.ifCond .eq 7, 3) := by decide +kernel
theorem dX9_numberHere_57 : decode cX9_numberHere 57 = .ok (.iload_n 1, 1) := by decide +kernel
theorem dX9_numberHere_58 : decode cX9_numberHere 58 = .ok (.goto 7, 3) := by decide +kernel
theorem dX9_numberHere_61 : decode cX9_numberHere 61 = .ok (.aload_n 0, 1) := by decide +kernel
theorem dX9_numberHere_62 : decode cX9_numberHere 62 = .ok (.getfield 97, 3) := by decide +kernel
theorem dX9_numberHere_65 : decode cX9_numberHere 65 = .ok (.ireturn, 1) := by decide +kernel
theorem dX9_number_0 : decode cX9_number 0 = .ok (.aload_n 0, 1) := by decide +kernel
theorem dX9_number_1 : decode cX9_number 1 = .ok (.iload_n 1, 1) := by decide +kernel
theorem dX9_number_2 : decode cX9_number 2 = .ok (.iload_n 2, 1) := by decide +kernel
theorem dX9_number_3 : decode cX9_number 3 = .ok (.invokevirtual 181, 3) := by decide +kernel
theorem dX9_number_6 : decode cX9_number 6 = .ok (.istore_n 3, 1) := by decide +kernel
theorem dX9_number_7 : decode cX9_number 7 = .ok (.aload_n 0, 1) := by decide +kernel
theorem dX9_number_8 : decode cX9_number 8 = .ok (.getfield 110, 3) := by decide +kernel
theorem dX9_number_11 : decode cX9_number 11 = .ok (.ifCond .ne 7, 3) := by decide +kernel
theorem dX9_number_14 : decode cX9_number 14 = .ok (.aload_n 0, 1) := by decide +kernel
theorem dX9_number_15 : decode cX9_number 15 = .ok (.invokevirtual 131, 3) := by decide +kernel
theorem dX9_number_18 : decode cX9_number 18 = .ok (.iload_n 3, 1) := by decide +kernel
theorem dX9_number_19 : decode cX9_number 19 = .ok (.ireturn, 1) := by decide +kernel
theorem dX9_after_0 : decode cX9_after 0 = .ok (.aload_n 0, 1) := by decide +kernel
theorem dX9_after_1 : decode cX9_after 1 = .ok (.aload_n 1, 1) := by decide +kernel
theorem dX9_after_2 : decode cX9_after 2 = .ok (.invokevirtual 184, 3) := by decide +kernel
theorem dX9_after_5 : decode cX9_after 5 = .ok (.aload_n 0, 1) := by decide +kernel
theorem dX9_after_6 : decode cX9_after 6 = .ok (.iload_n 2, 1) := by decide +kernel
theorem dX9_after_7 : decode cX9_after 7 = .ok (.iload_n 3, 1) := by decide +kernel
theorem dX9_after_8 : decode cX9_after 8 = .ok (.invokevirtual 188, 3) := by decide +kernel
theorem dX9_after_11 : decode cX9_after 11 = .ok (.ireturn, 1) := by decide +kernel
theorem dX9_comma_0 : decode cX9_comma 0 = .ok (.aload_n 0, 1) := by decide +kernel
theorem dX9_comma_1 : decode cX9_comma 1 = .ok (.getfield 110, 3) := by decide +kernel
theorem dX9_comma_4 : decode cX9_comma 4 = .ok (.ifCond .ne 12, 3) := by decide +kernel
theorem dX9_comma_7 : decode cX9_comma 7 = .ok (.aload_n 0, 1) := by decide +kernel
theorem dX9_comma_8 : decode cX9_comma 8 = .ok (.getfield 100, 3) := by decide +kernel
theorem dX9_comma_11 : decode cX9_comma 11 = .ok (.bipush 44, 2) := by decide +kernel
theorem dX9_comma_13 : decode cX9_comma 13 = .ok (.if_icmp .eq 5, 3) := by decide +kernel
theorem dX9_comma_16 : decode cX9_comma 16 = .ok (.iconst 0, 1) := by decide +kernel
theorem dX9_comma_17 : decode cX9_comma 17 = .ok (.ireturn, 1) := by decide +kernel
theorem dX9_comma_18 : decode cX9_comma 18 = .ok (.aload_n 0, 1) := by decide +kernel
theorem dX9_comma_19 : decode cX9_comma 19 = .ok (.invokevirtual 131, 3) := by decide +kernel
theorem dX9_comma_22 : decode cX9_comma 22 = .ok (.iconst 1, 1) := by decide +kernel
theorem dX9_comma_23 : decode cX9_comma 23 = .ok (.ireturn, 1) := by decide +kernel
theorem dX9_dreamLine_0 : decode cX9_dreamLine 0 = .ok (.aload_n 0, 1) := by decide +kernel
theorem dX9_dreamLine_1 : decode cX9_dreamLine 1 = .ok (.getfield 23, 3) := by decide +kernel
theorem dX9_dreamLine_4 : decode cX9_dreamLine 4 = .ok (.iconst 2, 1) := by decide +kernel
theorem dX9_dreamLine_5 : decode cX9_dreamLine 5 = .ok (.iaload, 1) := by decide +kernel
theorem dX9_dreamLine_6 : decode cX9_dreamLine 6 = .ok (.ifCond .le 12, 3) := by decide +kernel
theorem dX9_dreamLine_9 : decode cX9_dreamLine 9 = .ok (.aload_n 0, 1) := by decide +kernel
theorem dX9_dreamLine_10 : decode cX9_dreamLine 10 = .ok (.iconst 3, 1) := by decide +kernel
theorem dX9_dreamLine_11 : decode cX9_dreamLine 11 = .ok (.aload_n 0, 1) := by decide +kernel
theorem dX9_dreamLine_12 : decode cX9_dreamLine 12 = .ok (.getfield 91, 3) := by decide +kernel
theorem dX9_dreamLine_15 : decode cX9_dreamLine 15 = .ok (.invokevirtual 137, 3) := by decide +kernel
theorem dX9_dreamLine_18 : decode cX9_dreamLine 18 = .ok (.aload_n 0, 1) := by decide +kernel
theorem dX9_dreamLine_19 : decode cX9_dreamLine 19 = .ok (.getfield 110, 3) := by decide +kernel
theorem dX9_dreamLine_22 : decode cX9_dreamLine 22 = .ok (.ifCond .eq 4, 3) := by decide +kernel
theorem dX9_dreamLine_25 : decode cX9_dreamLine 25 = .ok (.return_, 1) := by decide +kernel
theorem dX9_dreamLine_26 : decode cX9_dreamLine 26 = .ok (.aload_n 0, 1) := by decide +kernel
theorem dX9_dreamLine_27 : decode cX9_dreamLine 27 = .ok (.invokevirtual 131, 3) := by decide +kernel
theorem dX9_dreamLine_30 : decode cX9_dreamLine 30 = .ok (.aload_n 0, 1) := by decide +kernel
theorem dX9_dreamLine_31 : decode cX9_dreamLine 31 = .ok (.ldc 254, 2) := by decide +kernel
theorem dX9_dreamLine_33 : decode cX9_dreamLine 33 = .ok (.invokevirtual 184, 3) := by decide +kernel
theorem dX9_dreamLine_36 : decode cX9_dreamLine 36 = .ok (.aload_n 0, 1) := by decide +kernel
theorem dX9_dreamLine_37 : decode cX9_dreamLine 37 = .ok (.getfield 110, 3) := by decide +kernel
theorem dX9_dreamLine_40 : decode cX9_dreamLine 40 = .ok (.ifCond .ne 7, 3) := by decide +kernel
theorem dX9_dreamLine_43 : decode cX9_dreamLine 43 = .ok (.iconst 1, 1) := by decide +kernel
theorem dX9_dreamLine_44 : decode cX9_dreamLine 44 = .ok (.goto 4, 3) := by decide +kernel
theorem dX9_dreamLine_47 : decode cX9_dreamLine 47 = .ok (.iconst 0, 1) := by decide +kernel
theorem dX9_dreamLine_48 : decode cX9_dreamLine 48 = .ok (.istore_n 1, 1) := by decide +kernel
theorem dX9_dreamLine_49 : decode cX9_dreamLine 49 = .ok (.iload_n 1, 1) := by decide +kernel
theorem dX9_dreamLine_50 : decode cX9_dreamLine 50 = .ok (.ifCond .eq 82, 3) := by decide +kernel
theorem dX9_dreamLine_53 : decode cX9_dreamLine 53 = .ok (.aload_n 0, 1) := by decide +kernel
theorem dX9_dreamLine_54 : decode cX9_dreamLine 54 = .ok (.iconst 2, 1) := by decide +kernel
theorem dX9_dreamLine_55 : decode cX9_dreamLine 55 = .ok (.bipush 12, 2) := by decide +kernel
theorem dX9_dreamLine_57 : decode cX9_dreamLine 57 = .ok (.invokevirtual 181, 3) := by decide +kernel
theorem dX9_dreamLine_60 : decode cX9_dreamLine 60 = .ok (.istore_n 2, 1) := by decide +kernel
theorem dX9_dreamLine_61 : decode cX9_dreamLine 61 = .ok (.aload_n 0, 1) := by decide +kernel
theorem dX9_dreamLine_62 : decode cX9_dreamLine 62 = .ok (.getfield 110, 3) := by decide +kernel
theorem dX9_dreamLine_65 : decode cX9_dreamLine 65 = .ok (.ifCond .ne 22, 3) := by decide +kernel
theorem dX9_dreamLine_68 : decode cX9_dreamLine 68 = .ok (.aload_n 0, 1) := by decide +kernel
theorem dX9_dreamLine_69 : decode cX9_dreamLine 69 = .ok (.getfield 23, 3) := by decide +kernel
theorem dX9_dreamLine_72 : decode cX9_dreamLine 72 = .ok (.iconst 0, 1) := by decide +kernel
theorem dX9_dreamLine_73 : decode cX9_dreamLine 73 = .ok (.iaload, 1) := by decide +kernel
theorem dX9_dreamLine_74 : decode cX9_dreamLine 74 = .ok (.iconst 4, 1) := by decide +kernel
theorem dX9_dreamLine_75 : decode cX9_dreamLine 75 = .ok (.if_icmp .ne 12, 3) := by decide +kernel
theorem dX9_dreamLine_78 : decode cX9_dreamLine 78 = .ok (.aload_n 0, 1) := by decide +kernel
theorem dX9_dreamLine_79 : decode cX9_dreamLine 79 = .ok (.iconst 5, 1) := by decide +kernel
theorem dX9_dreamLine_80 : decode cX9_dreamLine 80 = .ok (.aload_n 0, 1) := by decide +kernel
theorem dX9_dreamLine_81 : decode cX9_dreamLine 81 = .ok (.getfield 91, 3) := by decide +kernel
theorem dX9_dreamLine_84 : decode cX9_dreamLine 84 = .ok (.invokevirtual 137, 3) := by decide +kernel
theorem dX9_dreamLine_87 : decode cX9_dreamLine 87 = .ok (.aload_n 0, 1) := by decide +kernel
theorem dX9_dreamLine_88 : decode cX9_dreamLine 88 = .ok (.getfield 110, 3) := by decide +kernel
theorem dX9_dreamLine_91 : decode cX9_dreamLine 91 = .ok (.ifCond .eq 4, 3) := by decide +kernel
theorem dX9_dreamLine_94 : decode cX9_dreamLine 94 = .ok (.return_, 1) := by decide +kernel
theorem dX9_dreamLine_95 : decode cX9_dreamLine 95 = .ok (.aload_n 0, 1) := by decide +kernel
theorem dX9_dreamLine_96 : decode cX9_dreamLine 96 = .ok (.getfield 23, 3) := by decide +kernel
theorem dX9_dreamLine_99 : decode cX9_dreamLine 99 = .ok (.bipush 11, 2) := by decide +kernel
theorem dX9_dreamLine_101 : decode cX9_dreamLine 101 = .ok (.aload_n 0, 1) := by decide +kernel
theorem dX9_dreamLine_102 : decode cX9_dreamLine 102 = .ok (.getfield 23, 3) := by decide +kernel
theorem dX9_dreamLine_105 : decode cX9_dreamLine 105 = .ok (.iconst 0, 1) := by decide +kernel
theorem dX9_dreamLine_106 : decode cX9_dreamLine 106 = .ok (.iaload, 1) := by decide +kernel
theorem dX9_dreamLine_107 : decode cX9_dreamLine 107 = .ok (.iadd, 1) := by decide +kernel
theorem dX9_dreamLine_108 : decode cX9_dreamLine 108 = .ok (.iload_n 2, 1) := by decide +kernel
theorem dX9_dreamLine_109 : decode cX9_dreamLine 109 = .ok (.iastore, 1) := by decide +kernel
theorem dX9_dreamLine_110 : decode cX9_dreamLine 110 = .ok (.aload_n 0, 1) := by decide +kernel
theorem dX9_dreamLine_111 : decode cX9_dreamLine 111 = .ok (.getfield 23, 3) := by decide +kernel
theorem dX9_dreamLine_114 : decode cX9_dreamLine 114 = .ok (.iconst 0, 1) := by decide +kernel
theorem dX9_dreamLine_115 : decode cX9_dreamLine 115 = .ok (.dup2, 1) := by decide +kernel
theorem dX9_dreamLine_116 : decode cX9_dreamLine 116 = .ok (.iaload, 1) := by decide +kernel
theorem dX9_dreamLine_117 : decode cX9_dreamLine 117 = .ok (.iconst 1, 1) := by decide +kernel
theorem dX9_dreamLine_118 : decode cX9_dreamLine 118 = .ok (.iadd, 1) := by decide +kernel
theorem dX9_dreamLine_119 : decode cX9_dreamLine 119 = .ok (.iastore, 1) := by decide +kernel
theorem dX9_dreamLine_120 : decode cX9_dreamLine 120 = .ok (.aload_n 0, 1) := by decide +kernel
theorem dX9_dreamLine_121 : decode cX9_dreamLine 121 = .ok (.invokevirtual 131, 3) := by decide +kernel
theorem dX9_dreamLine_124 : decode cX9_dreamLine 124 = .ok (.aload_n 0, 1) := by decide +kernel
theorem dX9_dreamLine_125 : decode cX9_dreamLine 125 = .ok (.invokevirtual 256, 3) := by decide +kernel
theorem dX9_dreamLine_128 : decode cX9_dreamLine 128 = .ok (.istore_n 1, 1) := by decide +kernel
theorem dX9_dreamLine_129 : decode cX9_dreamLine 129 = .ok (.goto (-80), 3) := by decide +kernel
theorem dX9_dreamLine_132 : decode cX9_dreamLine 132 = .ok (.aload_n 0, 1) := by decide +kernel
theorem dX9_dreamLine_133 : decode cX9_dreamLine 133 = .ok (.getfield 23, 3) := by decide +kernel
theorem dX9_dreamLine_136 : decode cX9_dreamLine 136 = .ok (.iconst 1, 1) := by decide +kernel
theorem dX9_dreamLine_137 : decode cX9_dreamLine 137 = .ok (.aload_n 0, 1) := by decide +kernel
theorem dX9_dreamLine_138 : decode cX9_dreamLine 138 = .ok (.ldc_w 260, 3) := by decide +kernel
theorem dX9_dreamLine_141 : decode cX9_dreamLine 141 = .ok (.iconst 0, 1) := by decide +kernel
theorem dX9_dreamLine_142 : decode cX9_dreamLine 142 = .ok (.bipush 60, 2) := by decide +kernel
theorem dX9_dreamLine_144 : decode cX9_dreamLine 144 = .ok (.invokevirtual 262, 3) := by decide +kernel
theorem dX9_dreamLine_147 : decode cX9_dreamLine 147 = .ok (.iastore, 1) := by decide +kernel
theorem dX9_dreamLine_148 : decode cX9_dreamLine 148 = .ok (.aload_n 0, 1) := by decide +kernel
theorem dX9_dreamLine_149 : decode cX9_dreamLine 149 = .ok (.ldc_w 266, 3) := by decide +kernel
theorem dX9_dreamLine_152 : decode cX9_dreamLine 152 = .ok (.iconst 1, 1) := by decide +kernel
theorem dX9_dreamLine_153 : decode cX9_dreamLine 153 = .ok (.sipush 600, 3) := by decide +kernel
theorem dX9_dreamLine_156 : decode cX9_dreamLine 156 = .ok (.invokevirtual 262, 3) := by decide +kernel
theorem dX9_dreamLine_159 : decode cX9_dreamLine 159 = .ok (.istore_n 2, 1) := by decide +kernel
theorem dX9_dreamLine_160 : decode cX9_dreamLine 160 = .ok (.aload_n 0, 1) := by decide +kernel
theorem dX9_dreamLine_161 : decode cX9_dreamLine 161 = .ok (.getfield 110, 3) := by decide +kernel
theorem dX9_dreamLine_164 : decode cX9_dreamLine 164 = .ok (.ifCond .ne 10, 3) := by decide +kernel
theorem dX9_dreamLine_167 : decode cX9_dreamLine 167 = .ok (.aload_n 0, 1) := by decide +kernel
theorem dX9_dreamLine_168 : decode cX9_dreamLine 168 = .ok (.getfield 23, 3) := by decide +kernel
theorem dX9_dreamLine_171 : decode cX9_dreamLine 171 = .ok (.iconst 2, 1) := by decide +kernel
theorem dX9_dreamLine_172 : decode cX9_dreamLine 172 = .ok (.iload_n 2, 1) := by decide +kernel
theorem dX9_dreamLine_173 : decode cX9_dreamLine 173 = .ok (.iastore, 1) := by decide +kernel
theorem dX9_dreamLine_174 : decode cX9_dreamLine 174 = .ok (.return_, 1) := by decide +kernel
theorem dX9_begins_0 : decode cX9_begins 0 = .ok (.aload_n 0, 1) := by decide +kernel
theorem dX9_begins_1 : decode cX9_begins 1 = .ok (.aload_n 1, 1) := by decide +kernel
theorem dX9_begins_2 : decode cX9_begins 2 = .ok (.invokevirtual 127, 3) := by decide +kernel
theorem dX9_begins_5 : decode cX9_begins 5 = .ok (.ifCond .ne 5, 3) := by decide +kernel
theorem dX9_begins_8 : decode cX9_begins 8 = .ok (.iconst 0, 1) := by decide +kernel
theorem dX9_begins_9 : decode cX9_begins 9 = .ok (.ireturn, 1) := by decide +kernel
theorem dX9_begins_10 : decode cX9_begins 10 = .ok (.iload_n 2, 1) := by decide +kernel
theorem dX9_begins_11 : decode cX9_begins 11 = .ok (.ifCond .ne 12, 3) := by decide +kernel
theorem dX9_begins_14 : decode cX9_begins 14 = .ok (.aload_n 0, 1) := by decide +kernel
theorem dX9_begins_15 : decode cX9_begins 15 = .ok (.iconst 5, 1) := by decide +kernel
theorem dX9_begins_16 : decode cX9_begins 16 = .ok (.aload_n 0, 1) := by decide +kernel
theorem dX9_begins_17 : decode cX9_begins 17 = .ok (.getfield 91, 3) := by decide +kernel
theorem dX9_begins_20 : decode cX9_begins 20 = .ok (.invokevirtual 137, 3) := by decide +kernel
theorem dX9_begins_23 : decode cX9_begins 23 = .ok (.aload_n 0, 1) := by decide +kernel
theorem dX9_begins_24 : decode cX9_begins 24 = .ok (.getfield 23, 3) := by decide +kernel
theorem dX9_begins_27 : decode cX9_begins 27 = .ok (.iconst 2, 1) := by decide +kernel
theorem dX9_begins_28 : decode cX9_begins 28 = .ok (.iaload, 1) := by decide +kernel
theorem dX9_begins_29 : decode cX9_begins 29 = .ok (.ifCond .ne 13, 3) := by decide +kernel
theorem dX9_begins_32 : decode cX9_begins 32 = .ok (.aload_n 0, 1) := by decide +kernel
theorem dX9_begins_33 : decode cX9_begins 33 = .ok (.bipush 6, 2) := by decide +kernel
theorem dX9_begins_35 : decode cX9_begins 35 = .ok (.aload_n 0, 1) := by decide +kernel
theorem dX9_begins_36 : decode cX9_begins 36 = .ok (.getfield 91, 3) := by decide +kernel
theorem dX9_begins_39 : decode cX9_begins 39 = .ok (.invokevirtual 137, 3) := by decide +kernel
theorem dX9_begins_42 : decode cX9_begins 42 = .ok (.aload_n 0, 1) := by decide +kernel
theorem dX9_begins_43 : decode cX9_begins 43 = .ok (.getfield 110, 3) := by decide +kernel
theorem dX9_begins_46 : decode cX9_begins 46 = .ok (.ifCond .ne 7, 3) := by decide +kernel
theorem dX9_begins_49 : decode cX9_begins 49 = .ok (.aload_n 0, 1) := by decide +kernel
theorem dX9_begins_50 : decode cX9_begins 50 = .ok (.invokevirtual 131, 3) := by decide +kernel
theorem dX9_begins_53 : decode cX9_begins 53 = .ok (.iconst 1, 1) := by decide +kernel
theorem dX9_begins_54 : decode cX9_begins 54 = .ok (.ireturn, 1) := by decide +kernel
theorem dX9_headLine_0 : decode cX9_headLine 0 = .ok (.aload_n 0, 1) := by decide +kernel
theorem dX9_headLine_1 : decode cX9_headLine 1 = .ok (.getfield 110, 3) := by decide +kernel
theorem dX9_headLine_4 : decode cX9_headLine 4 = .ok (.ifCond .eq 4, 3) := by decide +kernel
theorem dX9_headLine_7 : decode cX9_headLine 7 = .ok (.return_, 1) := by decide +kernel
theorem dX9_headLine_8 : decode cX9_headLine 8 = .ok (.aload_n 0, 1) := by decide +kernel
theorem dX9_headLine_9 : decode cX9_headLine 9 = .ok (.aload_n 0, 1) := by decide +kernel
theorem dX9_headLine_10 : decode cX9_headLine 10 = .ok (.getfield 23, 3) := by decide +kernel
theorem dX9_headLine_13 : decode cX9_headLine 13 = .ok (.iconst 3, 1) := by decide +kernel
theorem dX9_headLine_14 : decode cX9_headLine 14 = .ok (.iaload, 1) := by decide +kernel
theorem dX9_headLine_15 : decode cX9_headLine 15 = .ok (.invokevirtual 268, 3) := by decide +kernel
theorem dX9_headLine_18 : decode cX9_headLine 18 = .ok (.aload_n 0, 1) := by decide +kernel
theorem dX9_headLine_19 : decode cX9_headLine 19 = .ok (.getfield 110, 3) := by decide +kernel
theorem dX9_headLine_22 : decode cX9_headLine 22 = .ok (.ifCond .ne 13, 3) := by decide +kernel
theorem dX9_headLine_25 : decode cX9_headLine 25 = .ok (.aload_n 0, 1) := by decide +kernel
theorem dX9_headLine_26 : decode cX9_headLine 26 = .ok (.getfield 23, 3) := by decide +kernel
theorem dX9_headLine_29 : decode cX9_headLine 29 = .ok (.iconst 3, 1) := by decide +kernel
theorem dX9_headLine_30 : decode cX9_headLine 30 = .ok (.dup2, 1) := by decide +kernel
theorem dX9_headLine_31 : decode cX9_headLine 31 = .ok (.iaload, 1) := by decide +kernel
theorem dX9_headLine_32 : decode cX9_headLine 32 = .ok (.iconst 1, 1) := by decide +kernel
theorem dX9_headLine_33 : decode cX9_headLine 33 = .ok (.iadd, 1) := by decide +kernel
theorem dX9_headLine_34 : decode cX9_headLine 34 = .ok (.iastore, 1) := by decide +kernel
theorem dX9_headLine_35 : decode cX9_headLine 35 = .ok (.return_, 1) := by decide +kernel
theorem dX9_sleeperLine_0 : decode cX9_sleeperLine 0 = .ok (.aload_n 0, 1) := by decide +kernel
theorem dX9_sleeperLine_1 : decode cX9_sleeperLine 1 = .ok (.getfield 110, 3) := by decide +kernel
theorem dX9_sleeperLine_4 : decode cX9_sleeperLine 4 = .ok (.ifCond .eq 4, 3) := by decide +kernel
theorem dX9_sleeperLine_7 : decode cX9_sleeperLine 7 = .ok (.return_, 1) := by decide +kernel
theorem dX9_sleeperLine_8 : decode cX9_sleeperLine 8 = .ok (.aload_n 0, 1) := by decide +kernel
theorem dX9_sleeperLine_9 : decode cX9_sleeperLine 9 = .ok (.getfield 23, 3) := by decide +kernel
theorem dX9_sleeperLine_12 : decode cX9_sleeperLine 12 = .ok (.iconst 4, 1) := by decide +kernel
theorem dX9_sleeperLine_13 : decode cX9_sleeperLine 13 = .ok (.iaload, 1) := by decide +kernel
theorem dX9_sleeperLine_14 : decode cX9_sleeperLine 14 = .ok (.istore_n 1, 1) := by decide +kernel
theorem dX9_sleeperLine_15 : decode cX9_sleeperLine 15 = .ok (.bipush 15, 2) := by decide +kernel
theorem dX9_sleeperLine_17 : decode cX9_sleeperLine 17 = .ok (.iconst 5, 1) := by decide +kernel
theorem dX9_sleeperLine_18 : decode cX9_sleeperLine 18 = .ok (.iload_n 1, 1) := by decide +kernel
theorem dX9_sleeperLine_19 : decode cX9_sleeperLine 19 = .ok (.imul, 1) := by decide +kernel
theorem dX9_sleeperLine_20 : decode cX9_sleeperLine 20 = .ok (.iadd, 1) := by decide +kernel
theorem dX9_sleeperLine_21 : decode cX9_sleeperLine 21 = .ok (.istore_n 2, 1) := by decide +kernel
theorem dX9_sleeperLine_22 : decode cX9_sleeperLine 22 = .ok (.aload_n 0, 1) := by decide +kernel
theorem dX9_sleeperLine_23 : decode cX9_sleeperLine 23 = .ok (.iconst 3, 1) := by decide +kernel
theorem dX9_sleeperLine_24 : decode cX9_sleeperLine 24 = .ok (.iload_n 1, 1) := by decide +kernel
theorem dX9_sleeperLine_25 : decode cX9_sleeperLine 25 = .ok (.iadd, 1) := by decide +kernel
theorem dX9_sleeperLine_26 : decode cX9_sleeperLine 26 = .ok (.invokevirtual 268, 3) := by decide +kernel
theorem dX9_sleeperLine_29 : decode cX9_sleeperLine 29 = .ok (.aload_n 0, 1) := by decide +kernel
theorem dX9_sleeperLine_30 : decode cX9_sleeperLine 30 = .ok (.ldc_w 272, 3) := by decide +kernel
theorem dX9_sleeperLine_33 : decode cX9_sleeperLine 33 = .ok (.invokevirtual 127, 3) := by decide +kernel
theorem dX9_sleeperLine_36 : decode cX9_sleeperLine 36 = .ok (.ifCond .eq 7, 3) := by decide +kernel
theorem dX9_sleeperLine_39 : decode cX9_sleeperLine 39 = .ok (.iconst 0, 1) := by decide +kernel
theorem dX9_sleeperLine_40 : decode cX9_sleeperLine 40 = .ok (.goto 46, 3) := by decide +kernel
theorem dX9_sleeperLine_43 : decode cX9_sleeperLine 43 = .ok (.aload_n 0, 1) := by decide +kernel
theorem dX9_sleeperLine_44 : decode cX9_sleeperLine 44 = .ok (.ldc_w 274, 3) := by decide +kernel
theorem dX9_sleeperLine_47 : decode cX9_sleeperLine 47 = .ok (.invokevirtual 127, 3) := by decide +kernel
theorem dX9_sleeperLine_50 : decode cX9_sleeperLine 50 = .ok (.ifCond .eq 7, 3) := by decide +kernel
theorem dX9_sleeperLine_53 : decode cX9_sleeperLine 53 = .ok (.iconst 1, 1) := by decide +kernel
theorem dX9_sleeperLine_54 : decode cX9_sleeperLine 54 = .ok (.goto 32, 3) := by decide +kernel
theorem dX9_sleeperLine_57 : decode cX9_sleeperLine 57 = .ok (.aload_n 0, 1) := by decide +kernel
theorem dX9_sleeperLine_58 : decode cX9_sleeperLine 58 = .ok (.ldc_w 276, 3) := by decide +kernel
theorem dX9_sleeperLine_61 : decode cX9_sleeperLine 61 = .ok (.invokevirtual 127, 3) := by decide +kernel
theorem dX9_sleeperLine_64 : decode cX9_sleeperLine 64 = .ok (.ifCond .eq 7, 3) := by decide +kernel
theorem dX9_sleeperLine_67 : decode cX9_sleeperLine 67 = .ok (.iconst 2, 1) := by decide +kernel
theorem dX9_sleeperLine_68 : decode cX9_sleeperLine 68 = .ok (.goto 18, 3) := by decide +kernel
theorem dX9_sleeperLine_71 : decode cX9_sleeperLine 71 = .ok (.aload_n 0, 1) := by decide +kernel
theorem dX9_sleeperLine_72 : decode cX9_sleeperLine 72 = .ok (.ldc_w 278, 3) := by decide +kernel
theorem dX9_sleeperLine_75 : decode cX9_sleeperLine 75 = .ok (.invokevirtual 127, 3) := by decide +kernel
theorem dX9_sleeperLine_78 : decode cX9_sleeperLine 78 = .ok (.ifCond .eq 7, 3) := by decide +kernel
theorem dX9_sleeperLine_81 : decode cX9_sleeperLine 81 = .ok (.iconst 3, 1) := by decide +kernel
theorem dX9_sleeperLine_82 : decode cX9_sleeperLine 82 = .ok (.goto 4, 3) := by decide +kernel
theorem dX9_sleeperLine_85 : decode cX9_sleeperLine 85 = .ok (.iconst (-1), 1) := by decide +kernel
theorem dX9_sleeperLine_86 : decode cX9_sleeperLine 86 = .ok (.istore_n 3, 1) := by decide +kernel
theorem dX9_sleeperLine_87 : decode cX9_sleeperLine 87 = .ok (.iload_n 3, 1) := by decide +kernel
theorem dX9_sleeperLine_88 : decode cX9_sleeperLine 88 = .ok (.ifCond .ge 12, 3) := by decide +kernel
theorem dX9_sleeperLine_91 : decode cX9_sleeperLine 91 = .ok (.aload_n 0, 1) := by decide +kernel
theorem dX9_sleeperLine_92 : decode cX9_sleeperLine 92 = .ok (.iconst 1, 1) := by decide +kernel
theorem dX9_sleeperLine_93 : decode cX9_sleeperLine 93 = .ok (.aload_n 0, 1) := by decide +kernel
theorem dX9_sleeperLine_94 : decode cX9_sleeperLine 94 = .ok (.getfield 91, 3) := by decide +kernel
theorem dX9_sleeperLine_97 : decode cX9_sleeperLine 97 = .ok (.invokevirtual 137, 3) := by decide +kernel
theorem dX9_sleeperLine_100 : decode cX9_sleeperLine 100 = .ok (.aload_n 0, 1) := by decide +kernel
theorem dX9_sleeperLine_101 : decode cX9_sleeperLine 101 = .ok (.getfield 110, 3) := by decide +kernel
theorem dX9_sleeperLine_104 : decode cX9_sleeperLine 104 = .ok (.ifCond .eq 4, 3) := by decide +kernel
theorem dX9_sleeperLine_107 : decode cX9_sleeperLine 107 = .ok (.return_, 1) := by decide +kernel
theorem dX9_sleeperLine_108 : decode cX9_sleeperLine 108 = .ok (.aload_n 0, 1) := by decide +kernel
theorem dX9_sleeperLine_109 : decode cX9_sleeperLine 109 = .ok (.invokevirtual 131, 3) := by decide +kernel
theorem dX9_sleeperLine_112 : decode cX9_sleeperLine 112 = .ok (.aload_n 0, 1) := by decide +kernel
theorem dX9_sleeperLine_113 : decode cX9_sleeperLine 113 = .ok (.getfield 23, 3) := by decide +kernel
theorem dX9_sleeperLine_116 : decode cX9_sleeperLine 116 = .ok (.iload_n 2, 1) := by decide +kernel
theorem dX9_sleeperLine_117 : decode cX9_sleeperLine 117 = .ok (.iconst 0, 1) := by decide +kernel
theorem dX9_sleeperLine_118 : decode cX9_sleeperLine 118 = .ok (.iadd, 1) := by decide +kernel
theorem dX9_sleeperLine_119 : decode cX9_sleeperLine 119 = .ok (.iload_n 3, 1) := by decide +kernel
theorem dX9_sleeperLine_120 : decode cX9_sleeperLine 120 = .ok (.iastore, 1) := by decide +kernel
theorem dX9_sleeperLine_121 : decode cX9_sleeperLine 121 = .ok (.aload_n 0, 1) := by decide +kernel
theorem dX9_sleeperLine_122 : decode cX9_sleeperLine 122 = .ok (.getfield 23, 3) := by decide +kernel
theorem dX9_sleeperLine_125 : decode cX9_sleeperLine 125 = .ok (.iload_n 2, 1) := by decide +kernel
theorem dX9_sleeperLine_126 : decode cX9_sleeperLine 126 = .ok (.iconst 1, 1) := by decide +kernel
theorem dX9_sleeperLine_127 : decode cX9_sleeperLine 127 = .ok (.iadd, 1) := by decide +kernel
theorem dX9_sleeperLine_128 : decode cX9_sleeperLine 128 = .ok (.aload_n 0, 1) := by decide +kernel
theorem dX9_sleeperLine_129 : decode cX9_sleeperLine 129 = .ok (.ldc_w 280, 3) := by decide +kernel
theorem dX9_sleeperLine_132 : decode cX9_sleeperLine 132 = .ok (.iconst 1, 1) := by decide +kernel
theorem dX9_sleeperLine_133 : decode cX9_sleeperLine 133 = .ok (.sipush 9999, 3) := by decide +kernel
theorem dX9_sleeperLine_136 : decode cX9_sleeperLine 136 = .ok (.invokevirtual 262, 3) := by decide +kernel
theorem dX9_sleeperLine_139 : decode cX9_sleeperLine 139 = .ok (.iastore, 1) := by decide +kernel
theorem dX9_sleeperLine_140 : decode cX9_sleeperLine 140 = .ok (.aload_n 0, 1) := by decide +kernel
theorem dX9_sleeperLine_141 : decode cX9_sleeperLine 141 = .ok (.getfield 23, 3) := by decide +kernel
theorem dX9_sleeperLine_144 : decode cX9_sleeperLine 144 = .ok (.iload_n 2, 1) := by decide +kernel
theorem dX9_sleeperLine_145 : decode cX9_sleeperLine 145 = .ok (.iconst 2, 1) := by decide +kernel
theorem dX9_sleeperLine_146 : decode cX9_sleeperLine 146 = .ok (.iadd, 1) := by decide +kernel
theorem dX9_sleeperLine_147 : decode cX9_sleeperLine 147 = .ok (.aload_n 0, 1) := by decide +kernel
theorem dX9_sleeperLine_148 : decode cX9_sleeperLine 148 = .ok (.ldc_w 282, 3) := by decide +kernel
theorem dX9_sleeperLine_151 : decode cX9_sleeperLine 151 = .ok (.iconst 0, 1) := by decide +kernel
theorem dX9_sleeperLine_152 : decode cX9_sleeperLine 152 = .ok (.sipush 999, 3) := by decide +kernel
theorem dX9_sleeperLine_155 : decode cX9_sleeperLine 155 = .ok (.invokevirtual 262, 3) := by decide +kernel
theorem dX9_sleeperLine_158 : decode cX9_sleeperLine 158 = .ok (.iastore, 1) := by decide +kernel
theorem dX9_sleeperLine_159 : decode cX9_sleeperLine 159 = .ok (.aload_n 0, 1) := by decide +kernel
theorem dX9_sleeperLine_160 : decode cX9_sleeperLine 160 = .ok (.getfield 23, 3) := by decide +kernel
theorem dX9_sleeperLine_163 : decode cX9_sleeperLine 163 = .ok (.iload_n 2, 1) := by decide +kernel
theorem dX9_sleeperLine_164 : decode cX9_sleeperLine 164 = .ok (.iconst 3, 1) := by decide +kernel
theorem dX9_sleeperLine_165 : decode cX9_sleeperLine 165 = .ok (.iadd, 1) := by decide +kernel
theorem dX9_sleeperLine_166 : decode cX9_sleeperLine 166 = .ok (.aload_n 0, 1) := by decide +kernel
theorem dX9_sleeperLine_167 : decode cX9_sleeperLine 167 = .ok (.ldc_w 284, 3) := by decide +kernel
theorem dX9_sleeperLine_170 : decode cX9_sleeperLine 170 = .ok (.iconst 0, 1) := by decide +kernel
theorem dX9_sleeperLine_171 : decode cX9_sleeperLine 171 = .ok (.bipush 100, 2) := by decide +kernel
theorem dX9_sleeperLine_173 : decode cX9_sleeperLine 173 = .ok (.invokevirtual 262, 3) := by decide +kernel
theorem dX9_sleeperLine_176 : decode cX9_sleeperLine 176 = .ok (.iastore, 1) := by decide +kernel
theorem dX9_sleeperLine_177 : decode cX9_sleeperLine 177 = .ok (.aload_n 0, 1) := by decide +kernel
theorem dX9_sleeperLine_178 : decode cX9_sleeperLine 178 = .ok (.getfield 23, 3) := by decide +kernel
theorem dX9_sleeperLine_181 : decode cX9_sleeperLine 181 = .ok (.iload_n 2, 1) := by decide +kernel
theorem dX9_sleeperLine_182 : decode cX9_sleeperLine 182 = .ok (.iconst 4, 1) := by decide +kernel
theorem dX9_sleeperLine_183 : decode cX9_sleeperLine 183 = .ok (.iadd, 1) := by decide +kernel
theorem dX9_sleeperLine_184 : decode cX9_sleeperLine 184 = .ok (.iconst 0, 1) := by decide +kernel
theorem dX9_sleeperLine_185 : decode cX9_sleeperLine 185 = .ok (.iastore, 1) := by decide +kernel
theorem dX9_sleeperLine_186 : decode cX9_sleeperLine 186 = .ok (.aload_n 0, 1) := by decide +kernel
theorem dX9_sleeperLine_187 : decode cX9_sleeperLine 187 = .ok (.getfield 110, 3) := by decide +kernel
theorem dX9_sleeperLine_190 : decode cX9_sleeperLine 190 = .ok (.ifCond .ne 13, 3) := by decide +kernel
theorem dX9_sleeperLine_193 : decode cX9_sleeperLine 193 = .ok (.aload_n 0, 1) := by decide +kernel
theorem dX9_sleeperLine_194 : decode cX9_sleeperLine 194 = .ok (.getfield 23, 3) := by decide +kernel
theorem dX9_sleeperLine_197 : decode cX9_sleeperLine 197 = .ok (.iconst 4, 1) := by decide +kernel
theorem dX9_sleeperLine_198 : decode cX9_sleeperLine 198 = .ok (.dup2, 1) := by decide +kernel
theorem dX9_sleeperLine_199 : decode cX9_sleeperLine 199 = .ok (.iaload, 1) := by decide +kernel
theorem dX9_sleeperLine_200 : decode cX9_sleeperLine 200 = .ok (.iconst 1, 1) := by decide +kernel
theorem dX9_sleeperLine_201 : decode cX9_sleeperLine 201 = .ok (.iadd, 1) := by decide +kernel
theorem dX9_sleeperLine_202 : decode cX9_sleeperLine 202 = .ok (.iastore, 1) := by decide +kernel
theorem dX9_sleeperLine_203 : decode cX9_sleeperLine 203 = .ok (.return_, 1) := by decide +kernel
theorem dX9_stepLine_0 : decode cX9_stepLine 0 = .ok (.aload_n 0, 1) := by decide +kernel
theorem dX9_stepLine_1 : decode cX9_stepLine 1 = .ok (.getfield 110, 3) := by decide +kernel
theorem dX9_stepLine_4 : decode cX9_stepLine 4 = .ok (.ifCond .eq 4, 3) := by decide +kernel
theorem dX9_stepLine_7 : decode cX9_stepLine 7 = .ok (.return_, 1) := by decide +kernel
theorem dX9_stepLine_8 : decode cX9_stepLine 8 = .ok (.bipush 40, 2) := by decide +kernel
theorem dX9_stepLine_10 : decode cX9_stepLine 10 = .ok (.iconst 3, 1) := by decide +kernel
theorem dX9_stepLine_11 : decode cX9_stepLine 11 = .ok (.aload_n 0, 1) := by decide +kernel
theorem dX9_stepLine_12 : decode cX9_stepLine 12 = .ok (.getfield 23, 3) := by decide +kernel
theorem dX9_stepLine_15 : decode cX9_stepLine 15 = .ok (.iconst 5, 1) := by decide +kernel
theorem dX9_stepLine_16 : decode cX9_stepLine 16 = .ok (.iaload, 1) := by decide +kernel
theorem dX9_stepLine_17 : decode cX9_stepLine 17 = .ok (.imul, 1) := by decide +kernel
theorem dX9_stepLine_18 : decode cX9_stepLine 18 = .ok (.iadd, 1) := by decide +kernel
theorem dX9_stepLine_19 : decode cX9_stepLine 19 = .ok (.istore_n 2, 1) := by decide +kernel
theorem dX9_stepLine_20 : decode cX9_stepLine 20 = .ok (.aload_n 0, 1) := by decide +kernel
theorem dX9_stepLine_21 : decode cX9_stepLine 21 = .ok (.getfield 23, 3) := by decide +kernel
theorem dX9_stepLine_24 : decode cX9_stepLine 24 = .ok (.iload_n 2, 1) := by decide +kernel
theorem dX9_stepLine_25 : decode cX9_stepLine 25 = .ok (.aload_n 0, 1) := by decide +kernel
theorem dX9_stepLine_26 : decode cX9_stepLine 26 = .ok (.invokevirtual 286, 3) := by decide +kernel
theorem dX9_stepLine_29 : decode cX9_stepLine 29 = .ok (.iastore, 1) := by decide +kernel
theorem dX9_stepLine_30 : decode cX9_stepLine 30 = .ok (.aload_n 0, 1) := by decide +kernel
theorem dX9_stepLine_31 : decode cX9_stepLine 31 = .ok (.getfield 23, 3) := by decide +kernel
theorem dX9_stepLine_34 : decode cX9_stepLine 34 = .ok (.iload_n 2, 1) := by decide +kernel
theorem dX9_stepLine_35 : decode cX9_stepLine 35 = .ok (.iconst 1, 1) := by decide +kernel
theorem dX9_stepLine_36 : decode cX9_stepLine 36 = .ok (.iadd, 1) := by decide +kernel
theorem dX9_stepLine_37 : decode cX9_stepLine 37 = .ok (.iload_n 1, 1) := by decide +kernel
theorem dX9_stepLine_38 : decode cX9_stepLine 38 = .ok (.ifCond .eq 12, 3) := by decide +kernel
theorem dX9_stepLine_41 : decode cX9_stepLine 41 = .ok (.aload_n 0, 1) := by decide +kernel
theorem dX9_stepLine_42 : decode cX9_stepLine 42 = .ok (.invokevirtual 289, 3) := by decide +kernel
theorem dX9_stepLine_45 : decode cX9_stepLine 45 = .ok (.iconst 1, 1) := by decide +kernel
theorem dX9_stepLine_46 : decode cX9_stepLine 46 = .ok (.iadd, 1) := by decide +kernel
theorem dX9_stepLine_47 : decode cX9_stepLine 47 = .ok (.goto 4, 3) := by decide +kernel
theorem dX9_stepLine_50 : decode cX9_stepLine 50 = .ok (.iconst 0, 1) := by decide +kernel
theorem dX9_stepLine_51 : decode cX9_stepLine 51 = .ok (.iastore, 1) := by decide +kernel
theorem dX9_stepLine_52 : decode cX9_stepLine 52 = .ok (.aload_n 0, 1) := by decide +kernel
theorem dX9_stepLine_53 : decode cX9_stepLine 53 = .ok (.getfield 23, 3) := by decide +kernel
theorem dX9_stepLine_56 : decode cX9_stepLine 56 = .ok (.iload_n 2, 1) := by decide +kernel
theorem dX9_stepLine_57 : decode cX9_stepLine 57 = .ok (.iconst 2, 1) := by decide +kernel
theorem dX9_stepLine_58 : decode cX9_stepLine 58 = .ok (.iadd, 1) := by decide +kernel
theorem dX9_stepLine_59 : decode cX9_stepLine 59 = .ok (.aload_n 0, 1) := by decide +kernel
theorem dX9_stepLine_60 : decode cX9_stepLine 60 = .ok (.ldc_w 292, 3) := by decide +kernel
theorem dX9_stepLine_63 : decode cX9_stepLine 63 = .ok (.iconst 0, 1) := by decide +kernel
theorem dX9_stepLine_64 : decode cX9_stepLine 64 = .ok (.sipush 999, 3) := by decide +kernel
theorem dX9_stepLine_67 : decode cX9_stepLine 67 = .ok (.invokevirtual 262, 3) := by decide +kernel
theorem dX9_stepLine_70 : decode cX9_stepLine 70 = .ok (.iastore, 1) := by decide +kernel
theorem dX9_stepLine_71 : decode cX9_stepLine 71 = .ok (.aload_n 0, 1) := by decide +kernel
theorem dX9_stepLine_72 : decode cX9_stepLine 72 = .ok (.getfield 110, 3) := by decide +kernel
theorem dX9_stepLine_75 : decode cX9_stepLine 75 = .ok (.ifCond .ne 13, 3) := by decide +kernel
theorem dX9_stepLine_78 : decode cX9_stepLine 78 = .ok (.aload_n 0, 1) := by decide +kernel
theorem dX9_stepLine_79 : decode cX9_stepLine 79 = .ok (.getfield 23, 3) := by decide +kernel
theorem dX9_stepLine_82 : decode cX9_stepLine 82 = .ok (.iconst 5, 1) := by decide +kernel
theorem dX9_stepLine_83 : decode cX9_stepLine 83 = .ok (.dup2, 1) := by decide +kernel
theorem dX9_stepLine_84 : decode cX9_stepLine 84 = .ok (.iaload, 1) := by decide +kernel
theorem dX9_stepLine_85 : decode cX9_stepLine 85 = .ok (.iconst 1, 1) := by decide +kernel
theorem dX9_stepLine_86 : decode cX9_stepLine 86 = .ok (.iadd, 1) := by decide +kernel
theorem dX9_stepLine_87 : decode cX9_stepLine 87 = .ok (.iastore, 1) := by decide +kernel
theorem dX9_stepLine_88 : decode cX9_stepLine 88 = .ok (.return_, 1) := by decide +kernel
theorem dX9_knockLine_0 : decode cX9_knockLine 0 = .ok (.aload_n 0, 1) := by decide +kernel
theorem dX9_knockLine_1 : decode cX9_knockLine 1 = .ok (.getfield 110, 3) := by decide +kernel
theorem dX9_knockLine_4 : decode cX9_knockLine 4 = .ok (.ifCond .eq 4, 3) := by decide +kernel
theorem dX9_knockLine_7 : decode cX9_knockLine 7 = .ok (.return_, 1) := by decide +kernel
theorem dX9_knockLine_8 : decode cX9_knockLine 8 = .ok (.bipush 100, 2) := by decide +kernel
theorem dX9_knockLine_10 : decode cX9_knockLine 10 = .ok (.iconst 4, 1) := by decide +kernel
theorem dX9_knockLine_11 : decode cX9_knockLine 11 = .ok (.aload_n 0, 1) := by decide +kernel
theorem dX9_knockLine_12 : decode cX9_knockLine 12 = .ok (.getfield 23, 3) := by decide +kernel
theorem dX9_knockLine_15 : decode cX9_knockLine 15 = .ok (.bipush 6, 2) := by decide +kernel
theorem dX9_knockLine_17 : decode cX9_knockLine 17 = .ok (.iaload, 1) := by decide +kernel
theorem dX9_knockLine_18 : decode cX9_knockLine 18 = .ok (.imul, 1) := by decide +kernel
theorem dX9_knockLine_19 : decode cX9_knockLine 19 = .ok (.iadd, 1) := by decide +kernel
theorem dX9_knockLine_20 : decode cX9_knockLine 20 = .ok (.istore_n 1, 1) := by decide +kernel
theorem dX9_knockLine_21 : decode cX9_knockLine 21 = .ok (.aload_n 0, 1) := by decide +kernel
theorem dX9_knockLine_22 : decode cX9_knockLine 22 = .ok (.getfield 23, 3) := by decide +kernel
theorem dX9_knockLine_25 : decode cX9_knockLine 25 = .ok (.iload_n 1, 1) := by decide +kernel
theorem dX9_knockLine_26 : decode cX9_knockLine 26 = .ok (.aload_n 0, 1) := by decide +kernel
theorem dX9_knockLine_27 : decode cX9_knockLine 27 = .ok (.invokevirtual 289, 3) := by decide +kernel
theorem dX9_knockLine_30 : decode cX9_knockLine 30 = .ok (.iastore, 1) := by decide +kernel
theorem dX9_knockLine_31 : decode cX9_knockLine 31 = .ok (.aload_n 0, 1) := by decide +kernel
theorem dX9_knockLine_32 : decode cX9_knockLine 32 = .ok (.getfield 23, 3) := by decide +kernel
theorem dX9_knockLine_35 : decode cX9_knockLine 35 = .ok (.iload_n 1, 1) := by decide +kernel
theorem dX9_knockLine_36 : decode cX9_knockLine 36 = .ok (.iconst 1, 1) := by decide +kernel
theorem dX9_knockLine_37 : decode cX9_knockLine 37 = .ok (.iadd, 1) := by decide +kernel
theorem dX9_knockLine_38 : decode cX9_knockLine 38 = .ok (.aload_n 0, 1) := by decide +kernel
theorem dX9_knockLine_39 : decode cX9_knockLine 39 = .ok (.ldc_w 293, 3) := by decide +kernel
theorem dX9_knockLine_42 : decode cX9_knockLine 42 = .ok (.iconst 0, 1) := by decide +kernel
theorem dX9_knockLine_43 : decode cX9_knockLine 43 = .ok (.aload_n 0, 1) := by decide +kernel
theorem dX9_knockLine_44 : decode cX9_knockLine 44 = .ok (.getfield 23, 3) := by decide +kernel
theorem dX9_knockLine_47 : decode cX9_knockLine 47 = .ok (.iconst 0, 1) := by decide +kernel
theorem dX9_knockLine_48 : decode cX9_knockLine 48 = .ok (.iaload, 1) := by decide +kernel
theorem dX9_knockLine_49 : decode cX9_knockLine 49 = .ok (.iconst 1, 1) := by decide +kernel
theorem dX9_knockLine_50 : decode cX9_knockLine 50 = .ok (.isub, 1) := by decide +kernel
theorem dX9_knockLine_51 : decode cX9_knockLine 51 = .ok (.invokevirtual 262, 3) := by decide +kernel
theorem dX9_knockLine_54 : decode cX9_knockLine 54 = .ok (.iastore, 1) := by decide +kernel
theorem dX9_knockLine_55 : decode cX9_knockLine 55 = .ok (.aload_n 0, 1) := by decide +kernel
theorem dX9_knockLine_56 : decode cX9_knockLine 56 = .ok (.getfield 23, 3) := by decide +kernel
theorem dX9_knockLine_59 : decode cX9_knockLine 59 = .ok (.iload_n 1, 1) := by decide +kernel
theorem dX9_knockLine_60 : decode cX9_knockLine 60 = .ok (.iconst 2, 1) := by decide +kernel
theorem dX9_knockLine_61 : decode cX9_knockLine 61 = .ok (.iadd, 1) := by decide +kernel
theorem dX9_knockLine_62 : decode cX9_knockLine 62 = .ok (.aload_n 0, 1) := by decide +kernel
theorem dX9_knockLine_63 : decode cX9_knockLine 63 = .ok (.ldc_w 295, 3) := by decide +kernel
theorem dX9_knockLine_66 : decode cX9_knockLine 66 = .ok (.iconst 0, 1) := by decide +kernel
theorem dX9_knockLine_67 : decode cX9_knockLine 67 = .ok (.aload_n 0, 1) := by decide +kernel
theorem dX9_knockLine_68 : decode cX9_knockLine 68 = .ok (.getfield 23, 3) := by decide +kernel
theorem dX9_knockLine_71 : decode cX9_knockLine 71 = .ok (.iconst 2, 1) := by decide +kernel
theorem dX9_knockLine_72 : decode cX9_knockLine 72 = .ok (.iaload, 1) := by decide +kernel
theorem dX9_knockLine_73 : decode cX9_knockLine 73 = .ok (.invokevirtual 262, 3) := by decide +kernel
theorem dX9_knockLine_76 : decode cX9_knockLine 76 = .ok (.iastore, 1) := by decide +kernel
theorem dX9_knockLine_77 : decode cX9_knockLine 77 = .ok (.aload_n 0, 1) := by decide +kernel
theorem dX9_knockLine_78 : decode cX9_knockLine 78 = .ok (.getfield 23, 3) := by decide +kernel
theorem dX9_knockLine_81 : decode cX9_knockLine 81 = .ok (.iload_n 1, 1) := by decide +kernel
theorem dX9_knockLine_82 : decode cX9_knockLine 82 = .ok (.iconst 3, 1) := by decide +kernel
theorem dX9_knockLine_83 : decode cX9_knockLine 83 = .ok (.iadd, 1) := by decide +kernel
theorem dX9_knockLine_84 : decode cX9_knockLine 84 = .ok (.aload_n 0, 1) := by decide +kernel
theorem dX9_knockLine_85 : decode cX9_knockLine 85 = .ok (.ldc_w 296, 3) := by decide +kernel
theorem dX9_knockLine_88 : decode cX9_knockLine 88 = .ok (.iconst 1, 1) := by decide +kernel
theorem dX9_knockLine_89 : decode cX9_knockLine 89 = .ok (.bipush 99, 2) := by decide +kernel
theorem dX9_knockLine_91 : decode cX9_knockLine 91 = .ok (.invokevirtual 262, 3) := by decide +kernel
theorem dX9_knockLine_94 : decode cX9_knockLine 94 = .ok (.iastore, 1) := by decide +kernel
theorem dX9_knockLine_95 : decode cX9_knockLine 95 = .ok (.aload_n 0, 1) := by decide +kernel
theorem dX9_knockLine_96 : decode cX9_knockLine 96 = .ok (.getfield 110, 3) := by decide +kernel
theorem dX9_knockLine_99 : decode cX9_knockLine 99 = .ok (.ifCond .ne 14, 3) := by decide +kernel
theorem dX9_knockLine_102 : decode cX9_knockLine 102 = .ok (.aload_n 0, 1) := by decide +kernel
theorem dX9_knockLine_103 : decode cX9_knockLine 103 = .ok (.getfield 23, 3) := by decide +kernel
theorem dX9_knockLine_106 : decode cX9_knockLine 106 = .ok (.bipush 6, 2) := by decide +kernel
theorem dX9_knockLine_108 : decode cX9_knockLine 108 = .ok (.dup2, 1) := by decide +kernel
theorem dX9_knockLine_109 : decode cX9_knockLine 109 = .ok (.iaload, 1) := by decide +kernel
theorem dX9_knockLine_110 : decode cX9_knockLine 110 = .ok (.iconst 1, 1) := by decide +kernel
theorem dX9_knockLine_111 : decode cX9_knockLine 111 = .ok (.iadd, 1) := by decide +kernel
theorem dX9_knockLine_112 : decode cX9_knockLine 112 = .ok (.iastore, 1) := by decide +kernel
theorem dX9_knockLine_113 : decode cX9_knockLine 113 = .ok (.return_, 1) := by decide +kernel
theorem dX9_taskLine_0 : decode cX9_taskLine 0 = .ok (.aload_n 0, 1) := by decide +kernel
theorem dX9_taskLine_1 : decode cX9_taskLine 1 = .ok (.getfield 110, 3) := by decide +kernel
theorem dX9_taskLine_4 : decode cX9_taskLine 4 = .ok (.ifCond .eq 4, 3) := by decide +kernel
theorem dX9_taskLine_7 : decode cX9_taskLine 7 = .ok (.return_, 1) := by decide +kernel
theorem dX9_taskLine_8 : decode cX9_taskLine 8 = .ok (.sipush 132, 3) := by decide +kernel
theorem dX9_taskLine_11 : decode cX9_taskLine 11 = .ok (.iconst 3, 1) := by decide +kernel
theorem dX9_taskLine_12 : decode cX9_taskLine 12 = .ok (.aload_n 0, 1) := by decide +kernel
theorem dX9_taskLine_13 : decode cX9_taskLine 13 = .ok (.getfield 23, 3) := by decide +kernel
theorem dX9_taskLine_16 : decode cX9_taskLine 16 = .ok (.bipush 7, 2) := by decide +kernel
theorem dX9_taskLine_18 : decode cX9_taskLine 18 = .ok (.iaload, 1) := by decide +kernel
theorem dX9_taskLine_19 : decode cX9_taskLine 19 = .ok (.imul, 1) := by decide +kernel
theorem dX9_taskLine_20 : decode cX9_taskLine 20 = .ok (.iadd, 1) := by decide +kernel
theorem dX9_taskLine_21 : decode cX9_taskLine 21 = .ok (.istore_n 1, 1) := by decide +kernel
theorem dX9_taskLine_22 : decode cX9_taskLine 22 = .ok (.aload_n 0, 1) := by decide +kernel
theorem dX9_taskLine_23 : decode cX9_taskLine 23 = .ok (.bipush 8, 2) := by decide +kernel
theorem dX9_taskLine_25 : decode cX9_taskLine 25 = .ok (.aload_n 0, 1) := by decide +kernel
theorem dX9_taskLine_26 : decode cX9_taskLine 26 = .ok (.getfield 23, 3) := by decide +kernel
theorem dX9_taskLine_29 : decode cX9_taskLine 29 = .ok (.bipush 7, 2) := by decide +kernel
theorem dX9_taskLine_31 : decode cX9_taskLine 31 = .ok (.iaload, 1) := by decide +kernel
theorem dX9_taskLine_32 : decode cX9_taskLine 32 = .ok (.iadd, 1) := by decide +kernel
theorem dX9_taskLine_33 : decode cX9_taskLine 33 = .ok (.invokevirtual 268, 3) := by decide +kernel
theorem dX9_taskLine_36 : decode cX9_taskLine 36 = .ok (.aload_n 0, 1) := by decide +kernel
theorem dX9_taskLine_37 : decode cX9_taskLine 37 = .ok (.getfield 23, 3) := by decide +kernel
theorem dX9_taskLine_40 : decode cX9_taskLine 40 = .ok (.iload_n 1, 1) := by decide +kernel
theorem dX9_taskLine_41 : decode cX9_taskLine 41 = .ok (.aload_n 0, 1) := by decide +kernel
theorem dX9_taskLine_42 : decode cX9_taskLine 42 = .ok (.ldc_w 293, 3) := by decide +kernel
theorem dX9_taskLine_45 : decode cX9_taskLine 45 = .ok (.iconst 0, 1) := by decide +kernel
theorem dX9_taskLine_46 : decode cX9_taskLine 46 = .ok (.aload_n 0, 1) := by decide +kernel
theorem dX9_taskLine_47 : decode cX9_taskLine 47 = .ok (.getfield 23, 3) := by decide +kernel
theorem dX9_taskLine_50 : decode cX9_taskLine 50 = .ok (.iconst 0, 1) := by decide +kernel
theorem dX9_taskLine_51 : decode cX9_taskLine 51 = .ok (.iaload, 1) := by decide +kernel
theorem dX9_taskLine_52 : decode cX9_taskLine 52 = .ok (.invokevirtual 262, 3) := by decide +kernel
theorem dX9_taskLine_55 : decode cX9_taskLine 55 = .ok (.iastore, 1) := by decide +kernel
theorem dX9_taskLine_56 : decode cX9_taskLine 56 = .ok (.aload_n 0, 1) := by decide +kernel
theorem dX9_taskLine_57 : decode cX9_taskLine 57 = .ok (.getfield 23, 3) := by decide +kernel
theorem dX9_taskLine_60 : decode cX9_taskLine 60 = .ok (.iload_n 1, 1) := by decide +kernel
theorem dX9_taskLine_61 : decode cX9_taskLine 61 = .ok (.iconst 1, 1) := by decide +kernel
theorem dX9_taskLine_62 : decode cX9_taskLine 62 = .ok (.iadd, 1) := by decide +kernel
theorem dX9_taskLine_63 : decode cX9_taskLine 63 = .ok (.aload_n 0, 1) := by decide +kernel
theorem dX9_taskLine_64 : decode cX9_taskLine 64 = .ok (.ldc_w 298, 3) := by decide +kernel
theorem dX9_taskLine_67 : decode cX9_taskLine 67 = .ok (.iconst 1, 1) := by decide +kernel
theorem dX9_taskLine_68 : decode cX9_taskLine 68 = .ok (.sipush 999, 3) := by decide +kernel
theorem dX9_taskLine_71 : decode cX9_taskLine 71 = .ok (.invokevirtual 262, 3) := by decide +kernel
theorem dX9_taskLine_74 : decode cX9_taskLine 74 = .ok (.iastore, 1) := by decide +kernel
theorem dX9_taskLine_75 : decode cX9_taskLine 75 = .ok (.aload_n 0, 1) := by decide +kernel
theorem dX9_taskLine_76 : decode cX9_taskLine 76 = .ok (.getfield 23, 3) := by decide +kernel
theorem dX9_taskLine_79 : decode cX9_taskLine 79 = .ok (.iload_n 1, 1) := by decide +kernel
theorem dX9_taskLine_80 : decode cX9_taskLine 80 = .ok (.iconst 2, 1) := by decide +kernel
theorem dX9_taskLine_81 : decode cX9_taskLine 81 = .ok (.iadd, 1) := by decide +kernel
theorem dX9_taskLine_82 : decode cX9_taskLine 82 = .ok (.aload_n 0, 1) := by decide +kernel
theorem dX9_taskLine_83 : decode cX9_taskLine 83 = .ok (.ldc_w 300, 3) := by decide +kernel
theorem dX9_taskLine_86 : decode cX9_taskLine 86 = .ok (.iconst 0, 1) := by decide +kernel
theorem dX9_taskLine_87 : decode cX9_taskLine 87 = .ok (.bipush 99, 2) := by decide +kernel
theorem dX9_taskLine_89 : decode cX9_taskLine 89 = .ok (.invokevirtual 262, 3) := by decide +kernel
theorem dX9_taskLine_92 : decode cX9_taskLine 92 = .ok (.iastore, 1) := by decide +kernel
theorem dX9_taskLine_93 : decode cX9_taskLine 93 = .ok (.aload_n 0, 1) := by decide +kernel
theorem dX9_taskLine_94 : decode cX9_taskLine 94 = .ok (.getfield 110, 3) := by decide +kernel
theorem dX9_taskLine_97 : decode cX9_taskLine 97 = .ok (.ifCond .ne 14, 3) := by decide +kernel
theorem dX9_taskLine_100 : decode cX9_taskLine 100 = .ok (.aload_n 0, 1) := by decide +kernel
theorem dX9_taskLine_101 : decode cX9_taskLine 101 = .ok (.getfield 23, 3) := by decide +kernel
theorem dX9_taskLine_104 : decode cX9_taskLine 104 = .ok (.bipush 7, 2) := by decide +kernel
theorem dX9_taskLine_106 : decode cX9_taskLine 106 = .ok (.dup2, 1) := by decide +kernel
theorem dX9_taskLine_107 : decode cX9_taskLine 107 = .ok (.iaload, 1) := by decide +kernel
theorem dX9_taskLine_108 : decode cX9_taskLine 108 = .ok (.iconst 1, 1) := by decide +kernel
theorem dX9_taskLine_109 : decode cX9_taskLine 109 = .ok (.iadd, 1) := by decide +kernel
theorem dX9_taskLine_110 : decode cX9_taskLine 110 = .ok (.iastore, 1) := by decide +kernel
theorem dX9_taskLine_111 : decode cX9_taskLine 111 = .ok (.return_, 1) := by decide +kernel
theorem dX9_paysLine_0 : decode cX9_paysLine 0 = .ok (.aload_n 0, 1) := by decide +kernel
theorem dX9_paysLine_1 : decode cX9_paysLine 1 = .ok (.getfield 23, 3) := by decide +kernel
theorem dX9_paysLine_4 : decode cX9_paysLine 4 = .ok (.bipush 10, 2) := by decide +kernel
theorem dX9_paysLine_6 : decode cX9_paysLine 6 = .ok (.iaload, 1) := by decide +kernel
theorem dX9_paysLine_7 : decode cX9_paysLine 7 = .ok (.iconst 1, 1) := by decide +kernel
theorem dX9_paysLine_8 : decode cX9_paysLine 8 = .ok (.if_icmp .ne 12, 3) := by decide +kernel
theorem dX9_paysLine_11 : decode cX9_paysLine 11 = .ok (.aload_n 0, 1) := by decide +kernel
theorem dX9_paysLine_12 : decode cX9_paysLine 12 = .ok (.iconst 3, 1) := by decide +kernel
theorem dX9_paysLine_13 : decode cX9_paysLine 13 = .ok (.aload_n 0, 1) := by decide +kernel
theorem dX9_paysLine_14 : decode cX9_paysLine 14 = .ok (.getfield 91, 3) := by decide +kernel
theorem dX9_paysLine_17 : decode cX9_paysLine 17 = .ok (.invokevirtual 137, 3) := by decide +kernel
theorem dX9_paysLine_20 : decode cX9_paysLine 20 = .ok (.aload_n 0, 1) := by decide +kernel
theorem dX9_paysLine_21 : decode cX9_paysLine 21 = .ok (.getfield 23, 3) := by decide +kernel
theorem dX9_paysLine_24 : decode cX9_paysLine 24 = .ok (.iconst 2, 1) := by decide +kernel
theorem dX9_paysLine_25 : decode cX9_paysLine 25 = .ok (.iaload, 1) := by decide +kernel
theorem dX9_paysLine_26 : decode cX9_paysLine 26 = .ok (.ifCond .ne 13, 3) := by decide +kernel
theorem dX9_paysLine_29 : decode cX9_paysLine 29 = .ok (.aload_n 0, 1) := by decide +kernel
theorem dX9_paysLine_30 : decode cX9_paysLine 30 = .ok (.bipush 6, 2) := by decide +kernel
theorem dX9_paysLine_32 : decode cX9_paysLine 32 = .ok (.aload_n 0, 1) := by decide +kernel
theorem dX9_paysLine_33 : decode cX9_paysLine 33 = .ok (.getfield 91, 3) := by decide +kernel
theorem dX9_paysLine_36 : decode cX9_paysLine 36 = .ok (.invokevirtual 137, 3) := by decide +kernel
theorem dX9_paysLine_39 : decode cX9_paysLine 39 = .ok (.aload_n 0, 1) := by decide +kernel
theorem dX9_paysLine_40 : decode cX9_paysLine 40 = .ok (.getfield 110, 3) := by decide +kernel
theorem dX9_paysLine_43 : decode cX9_paysLine 43 = .ok (.ifCond .eq 4, 3) := by decide +kernel
theorem dX9_paysLine_46 : decode cX9_paysLine 46 = .ok (.return_, 1) := by decide +kernel
theorem dX9_paysLine_47 : decode cX9_paysLine 47 = .ok (.aload_n 0, 1) := by decide +kernel
theorem dX9_paysLine_48 : decode cX9_paysLine 48 = .ok (.invokevirtual 131, 3) := by decide +kernel
theorem dX9_paysLine_51 : decode cX9_paysLine 51 = .ok (.iconst 0, 1) := by decide +kernel
theorem dX9_paysLine_52 : decode cX9_paysLine 52 = .ok (.istore_n 1, 1) := by decide +kernel
theorem dX9_paysLine_53 : decode cX9_paysLine 53 = .ok (.iconst 1, 1) := by decide +kernel
theorem dX9_paysLine_54 : decode cX9_paysLine 54 = .ok (.istore_n 2, 1) := by decide +kernel
theorem dX9_paysLine_55 : decode cX9_paysLine 55 = .ok (.iload_n 2, 1) := by decide +kernel
theorem dX9_paysLine_56 : decode cX9_paysLine 56 = .ok (.ifCond .eq 72, 3) := by decide +kernel
theorem dX9_paysLine_59 : decode cX9_paysLine 59 = .ok (.aload_n 0, 1) := by decide +kernel
theorem dX9_paysLine_60 : decode cX9_paysLine 60 = .ok (.iconst 0, 1) := by decide +kernel
theorem dX9_paysLine_61 : decode cX9_paysLine 61 = .ok (.sipush 999, 3) := by decide +kernel
theorem dX9_paysLine_64 : decode cX9_paysLine 64 = .ok (.invokevirtual 181, 3) := by decide +kernel
theorem dX9_paysLine_67 : decode cX9_paysLine 67 = .ok (.istore_n 3, 1) := by decide +kernel
theorem dX9_paysLine_68 : decode cX9_paysLine 68 = .ok (.aload_n 0, 1) := by decide +kernel
theorem dX9_paysLine_69 : decode cX9_paysLine 69 = .ok (.getfield 110, 3) := by decide +kernel
theorem dX9_paysLine_72 : decode cX9_paysLine 72 = .ok (.ifCond .ne 22, 3) := by decide +kernel
theorem dX9_paysLine_75 : decode cX9_paysLine 75 = .ok (.iload_n 1, 1) := by decide +kernel
theorem dX9_paysLine_76 : decode cX9_paysLine 76 = .ok (.aload_n 0, 1) := by decide +kernel
theorem dX9_paysLine_77 : decode cX9_paysLine 77 = .ok (.getfield 23, 3) := by decide +kernel
theorem dX9_paysLine_80 : decode cX9_paysLine 80 = .ok (.iconst 0, 1) := by decide +kernel
theorem dX9_paysLine_81 : decode cX9_paysLine 81 = .ok (.iaload, 1) := by decide +kernel
theorem dX9_paysLine_82 : decode cX9_paysLine 82 = .ok (.if_icmp .ne 12, 3) := by decide +kernel
theorem dX9_paysLine_85 : decode cX9_paysLine 85 = .ok (.aload_n 0, 1) := by decide +kernel
theorem dX9_paysLine_86 : decode cX9_paysLine 86 = .ok (.iconst 5, 1) := by decide +kernel
theorem dX9_paysLine_87 : decode cX9_paysLine 87 = .ok (.aload_n 0, 1) := by decide +kernel
theorem dX9_paysLine_88 : decode cX9_paysLine 88 = .ok (.getfield 91, 3) := by decide +kernel
theorem dX9_paysLine_91 : decode cX9_paysLine 91 = .ok (.invokevirtual 137, 3) := by decide +kernel
theorem dX9_paysLine_94 : decode cX9_paysLine 94 = .ok (.aload_n 0, 1) := by decide +kernel
theorem dX9_paysLine_95 : decode cX9_paysLine 95 = .ok (.getfield 110, 3) := by decide +kernel
theorem dX9_paysLine_98 : decode cX9_paysLine 98 = .ok (.ifCond .eq 4, 3) := by decide +kernel
theorem dX9_paysLine_101 : decode cX9_paysLine 101 = .ok (.return_, 1) := by decide +kernel
theorem dX9_paysLine_102 : decode cX9_paysLine 102 = .ok (.aload_n 0, 1) := by decide +kernel
theorem dX9_paysLine_103 : decode cX9_paysLine 103 = .ok (.getfield 23, 3) := by decide +kernel
theorem dX9_paysLine_106 : decode cX9_paysLine 106 = .ok (.sipush 150, 3) := by decide +kernel
theorem dX9_paysLine_109 : decode cX9_paysLine 109 = .ok (.iload_n 1, 1) := by decide +kernel
theorem dX9_paysLine_110 : decode cX9_paysLine 110 = .ok (.iadd, 1) := by decide +kernel
theorem dX9_paysLine_111 : decode cX9_paysLine 111 = .ok (.iload_n 3, 1) := by decide +kernel
theorem dX9_paysLine_112 : decode cX9_paysLine 112 = .ok (.iastore, 1) := by decide +kernel
theorem dX9_paysLine_113 : decode cX9_paysLine 113 = .ok (.iinc 1 1, 3) := by decide +kernel
theorem dX9_paysLine_116 : decode cX9_paysLine 116 = .ok (.aload_n 0, 1) := by decide +kernel
theorem dX9_paysLine_117 : decode cX9_paysLine 117 = .ok (.invokevirtual 131, 3) := by decide +kernel
theorem dX9_paysLine_120 : decode cX9_paysLine 120 = .ok (.aload_n 0, 1) := by decide +kernel
theorem dX9_paysLine_121 : decode cX9_paysLine 121 = .ok (.invokevirtual 256, 3) := by decide +kernel
theorem dX9_paysLine_124 : decode cX9_paysLine 124 = .ok (.istore_n 2, 1) := by decide +kernel
theorem dX9_paysLine_125 : decode cX9_paysLine 125 = .ok (.goto (-70), 3) := by decide +kernel
theorem dX9_paysLine_128 : decode cX9_paysLine 128 = .ok (.aload_n 0, 1) := by decide +kernel
theorem dX9_paysLine_129 : decode cX9_paysLine 129 = .ok (.getfield 110, 3) := by decide +kernel
theorem dX9_paysLine_132 : decode cX9_paysLine 132 = .ok (.ifCond .ne 43, 3) := by decide +kernel
theorem dX9_paysLine_135 : decode cX9_paysLine 135 = .ok (.iload_n 1, 1) := by decide +kernel
theorem dX9_paysLine_136 : decode cX9_paysLine 136 = .ok (.aload_n 0, 1) := by decide +kernel
theorem dX9_paysLine_137 : decode cX9_paysLine 137 = .ok (.getfield 23, 3) := by decide +kernel
theorem dX9_paysLine_140 : decode cX9_paysLine 140 = .ok (.iconst 0, 1) := by decide +kernel
theorem dX9_paysLine_141 : decode cX9_paysLine 141 = .ok (.iaload, 1) := by decide +kernel
theorem dX9_paysLine_142 : decode cX9_paysLine 142 = .ok (.if_icmp .ge 33, 3) := by decide +kernel
theorem dX9_paysLine_145 : decode cX9_paysLine 145 = .ok (.aload_n 0, 1) := by decide +kernel
theorem dX9_paysLine_146 : decode cX9_paysLine 146 = .ok (.aload_n 0, 1) := by decide +kernel
theorem dX9_paysLine_147 : decode cX9_paysLine 147 = .ok (.getfield 100, 3) := by decide +kernel
theorem dX9_paysLine_150 : decode cX9_paysLine 150 = .ok (.bipush 59, 2) := by decide +kernel
theorem dX9_paysLine_152 : decode cX9_paysLine 152 = .ok (.if_icmp .eq 10, 3) := by decide +kernel
theorem dX9_paysLine_155 : decode cX9_paysLine 155 = .ok (.aload_n 0, 1) := by decide +kernel
theorem dX9_paysLine_156 : decode cX9_paysLine 156 = .ok (.getfield 100, 3) := by decide +kernel
theorem dX9_paysLine_159 : decode cX9_paysLine 159 = .ok (.ifCond .ne 8, 3) := by decide +kernel
theorem dX9_paysLine_162 : decode cX9_paysLine 162 = .ok (.bipush 6, 2) := by decide +kernel
theorem dX9_paysLine_164 : decode cX9_paysLine 164 = .ok (.goto 4, 3) := by decide +kernel
theorem dX9_paysLine_167 : decode cX9_paysLine 167 = .ok (.iconst 1, 1) := by decide +kernel
theorem dX9_paysLine_168 : decode cX9_paysLine 168 = .ok (.aload_n 0, 1) := by decide +kernel
theorem dX9_paysLine_169 : decode cX9_paysLine 169 = .ok (.getfield 91, 3) := by decide +kernel
theorem dX9_paysLine_172 : decode cX9_paysLine 172 = .ok (.invokevirtual 137, 3) := by decide +kernel
theorem dX9_paysLine_175 : decode cX9_paysLine 175 = .ok (.aload_n 0, 1) := by decide +kernel
theorem dX9_paysLine_176 : decode cX9_paysLine 176 = .ok (.getfield 110, 3) := by decide +kernel
theorem dX9_paysLine_179 : decode cX9_paysLine 179 = .ok (.ifCond .ne 11, 3) := by decide +kernel
theorem dX9_paysLine_182 : decode cX9_paysLine 182 = .ok (.aload_n 0, 1) := by decide +kernel
theorem dX9_paysLine_183 : decode cX9_paysLine 183 = .ok (.getfield 23, 3) := by decide +kernel
theorem dX9_paysLine_186 : decode cX9_paysLine 186 = .ok (.bipush 10, 2) := by decide +kernel
theorem dX9_paysLine_188 : decode cX9_paysLine 188 = .ok (.iconst 1, 1) := by decide +kernel
theorem dX9_paysLine_189 : decode cX9_paysLine 189 = .ok (.iastore, 1) := by decide +kernel
theorem dX9_paysLine_190 : decode cX9_paysLine 190 = .ok (.return_, 1) := by decide +kernel
theorem dX9_thinksLine_0 : decode cX9_thinksLine 0 = .ok (.aload_n 0, 1) := by decide +kernel
theorem dX9_thinksLine_1 : decode cX9_thinksLine 1 = .ok (.getfield 110, 3) := by decide +kernel
theorem dX9_thinksLine_4 : decode cX9_thinksLine 4 = .ok (.ifCond .eq 4, 3) := by decide +kernel
theorem dX9_thinksLine_7 : decode cX9_thinksLine 7 = .ok (.return_, 1) := by decide +kernel
theorem dX9_thinksLine_8 : decode cX9_thinksLine 8 = .ok (.aload_n 0, 1) := by decide +kernel
theorem dX9_thinksLine_9 : decode cX9_thinksLine 9 = .ok (.invokevirtual 178, 3) := by decide +kernel
theorem dX9_thinksLine_12 : decode cX9_thinksLine 12 = .ok (.istore_n 1, 1) := by decide +kernel
theorem dX9_thinksLine_13 : decode cX9_thinksLine 13 = .ok (.bipush 15, 2) := by decide +kernel
theorem dX9_thinksLine_15 : decode cX9_thinksLine 15 = .ok (.iconst 5, 1) := by decide +kernel
theorem dX9_thinksLine_16 : decode cX9_thinksLine 16 = .ok (.iload_n 1, 1) := by decide +kernel
theorem dX9_thinksLine_17 : decode cX9_thinksLine 17 = .ok (.imul, 1) := by decide +kernel
theorem dX9_thinksLine_18 : decode cX9_thinksLine 18 = .ok (.iadd, 1) := by decide +kernel
theorem dX9_thinksLine_19 : decode cX9_thinksLine 19 = .ok (.iconst 4, 1) := by decide +kernel
theorem dX9_thinksLine_20 : decode cX9_thinksLine 20 = .ok (.iadd, 1) := by decide +kernel
theorem dX9_thinksLine_21 : decode cX9_thinksLine 21 = .ok (.istore_n 2, 1) := by decide +kernel
theorem dX9_thinksLine_22 : decode cX9_thinksLine 22 = .ok (.aload_n 0, 1) := by decide +kernel
theorem dX9_thinksLine_23 : decode cX9_thinksLine 23 = .ok (.getfield 110, 3) := by decide +kernel
theorem dX9_thinksLine_26 : decode cX9_thinksLine 26 = .ok (.ifCond .ne 21, 3) := by decide +kernel
theorem dX9_thinksLine_29 : decode cX9_thinksLine 29 = .ok (.aload_n 0, 1) := by decide +kernel
theorem dX9_thinksLine_30 : decode cX9_thinksLine 30 = .ok (.getfield 23, 3) := by decide +kernel
theorem dX9_thinksLine_33 : decode cX9_thinksLine 33 = .ok (.iload_n 2, 1) := by decide +kernel
theorem dX9_thinksLine_34 : decode cX9_thinksLine 34 = .ok (.iaload, 1) := by decide +kernel
theorem dX9_thinksLine_35 : decode cX9_thinksLine 35 = .ok (.ifCond .le 12, 3) := by decide +kernel
theorem dX9_thinksLine_38 : decode cX9_thinksLine 38 = .ok (.aload_n 0, 1) := by decide +kernel
theorem dX9_thinksLine_39 : decode cX9_thinksLine 39 = .ok (.iconst 3, 1) := by decide +kernel
theorem dX9_thinksLine_40 : decode cX9_thinksLine 40 = .ok (.aload_n 0, 1) := by decide +kernel
theorem dX9_thinksLine_41 : decode cX9_thinksLine 41 = .ok (.getfield 91, 3) := by decide +kernel
theorem dX9_thinksLine_44 : decode cX9_thinksLine 44 = .ok (.invokevirtual 137, 3) := by decide +kernel
theorem dX9_thinksLine_47 : decode cX9_thinksLine 47 = .ok (.aload_n 0, 1) := by decide +kernel
theorem dX9_thinksLine_48 : decode cX9_thinksLine 48 = .ok (.getfield 110, 3) := by decide +kernel
theorem dX9_thinksLine_51 : decode cX9_thinksLine 51 = .ok (.ifCond .eq 4, 3) := by decide +kernel
theorem dX9_thinksLine_54 : decode cX9_thinksLine 54 = .ok (.return_, 1) := by decide +kernel
theorem dX9_thinksLine_55 : decode cX9_thinksLine 55 = .ok (.aload_n 0, 1) := by decide +kernel
theorem dX9_thinksLine_56 : decode cX9_thinksLine 56 = .ok (.invokevirtual 131, 3) := by decide +kernel
theorem dX9_thinksLine_59 : decode cX9_thinksLine 59 = .ok (.aload_n 0, 1) := by decide +kernel
theorem dX9_thinksLine_60 : decode cX9_thinksLine 60 = .ok (.iconst 0, 1) := by decide +kernel
theorem dX9_thinksLine_61 : decode cX9_thinksLine 61 = .ok (.iconst 4, 1) := by decide +kernel
theorem dX9_thinksLine_62 : decode cX9_thinksLine 62 = .ok (.invokevirtual 188, 3) := by decide +kernel
theorem dX9_thinksLine_65 : decode cX9_thinksLine 65 = .ok (.istore_n 3, 1) := by decide +kernel
theorem dX9_thinksLine_66 : decode cX9_thinksLine 66 = .ok (.aload_n 0, 1) := by decide +kernel
theorem dX9_thinksLine_67 : decode cX9_thinksLine 67 = .ok (.getfield 110, 3) := by decide +kernel
theorem dX9_thinksLine_70 : decode cX9_thinksLine 70 = .ok (.ifCond .ne 12, 3) := by decide +kernel
theorem dX9_thinksLine_73 : decode cX9_thinksLine 73 = .ok (.aload_n 0, 1) := by decide +kernel
theorem dX9_thinksLine_74 : decode cX9_thinksLine 74 = .ok (.getfield 23, 3) := by decide +kernel
theorem dX9_thinksLine_77 : decode cX9_thinksLine 77 = .ok (.iload_n 2, 1) := by decide +kernel
theorem dX9_thinksLine_78 : decode cX9_thinksLine 78 = .ok (.iload_n 3, 1) := by decide +kernel
theorem dX9_thinksLine_79 : decode cX9_thinksLine 79 = .ok (.iconst 1, 1) := by decide +kernel
theorem dX9_thinksLine_80 : decode cX9_thinksLine 80 = .ok (.iadd, 1) := by decide +kernel
theorem dX9_thinksLine_81 : decode cX9_thinksLine 81 = .ok (.iastore, 1) := by decide +kernel
theorem dX9_thinksLine_82 : decode cX9_thinksLine 82 = .ok (.return_, 1) := by decide +kernel
theorem dX9_signLine_0 : decode cX9_signLine 0 = .ok (.aload_n 0, 1) := by decide +kernel
theorem dX9_signLine_1 : decode cX9_signLine 1 = .ok (.getfield 110, 3) := by decide +kernel
theorem dX9_signLine_4 : decode cX9_signLine 4 = .ok (.ifCond .eq 4, 3) := by decide +kernel
theorem dX9_signLine_7 : decode cX9_signLine 7 = .ok (.return_, 1) := by decide +kernel
theorem dX9_signLine_8 : decode cX9_signLine 8 = .ok (.sipush 154, 3) := by decide +kernel
theorem dX9_signLine_11 : decode cX9_signLine 11 = .ok (.iconst 3, 1) := by decide +kernel
theorem dX9_signLine_12 : decode cX9_signLine 12 = .ok (.aload_n 0, 1) := by decide +kernel
theorem dX9_signLine_13 : decode cX9_signLine 13 = .ok (.getfield 23, 3) := by decide +kernel
theorem dX9_signLine_16 : decode cX9_signLine 16 = .ok (.bipush 8, 2) := by decide +kernel
theorem dX9_signLine_18 : decode cX9_signLine 18 = .ok (.iaload, 1) := by decide +kernel
theorem dX9_signLine_19 : decode cX9_signLine 19 = .ok (.imul, 1) := by decide +kernel
theorem dX9_signLine_20 : decode cX9_signLine 20 = .ok (.iadd, 1) := by decide +kernel
theorem dX9_signLine_21 : decode cX9_signLine 21 = .ok (.istore_n 2, 1) := by decide +kernel
theorem dX9_signLine_22 : decode cX9_signLine 22 = .ok (.aload_n 0, 1) := by decide +kernel
theorem dX9_signLine_23 : decode cX9_signLine 23 = .ok (.getfield 23, 3) := by decide +kernel
theorem dX9_signLine_26 : decode cX9_signLine 26 = .ok (.iload_n 2, 1) := by decide +kernel
theorem dX9_signLine_27 : decode cX9_signLine 27 = .ok (.iload_n 1, 1) := by decide +kernel
theorem dX9_signLine_28 : decode cX9_signLine 28 = .ok (.ifCond .eq 7, 3) := by decide +kernel
theorem dX9_signLine_31 : decode cX9_signLine 31 = .ok (.iconst 1, 1) := by decide +kernel
theorem dX9_signLine_32 : decode cX9_signLine 32 = .ok (.goto 4, 3) := by decide +kernel
theorem dX9_signLine_35 : decode cX9_signLine 35 = .ok (.iconst 0, 1) := by decide +kernel
theorem dX9_signLine_36 : decode cX9_signLine 36 = .ok (.iastore, 1) := by decide +kernel
theorem dX9_signLine_37 : decode cX9_signLine 37 = .ok (.aload_n 0, 1) := by decide +kernel
theorem dX9_signLine_38 : decode cX9_signLine 38 = .ok (.getfield 23, 3) := by decide +kernel
theorem dX9_signLine_41 : decode cX9_signLine 41 = .ok (.iload_n 2, 1) := by decide +kernel
theorem dX9_signLine_42 : decode cX9_signLine 42 = .ok (.iconst 1, 1) := by decide +kernel
theorem dX9_signLine_43 : decode cX9_signLine 43 = .ok (.iadd, 1) := by decide +kernel
theorem dX9_signLine_44 : decode cX9_signLine 44 = .ok (.aload_n 0, 1) := by decide +kernel
theorem dX9_signLine_45 : decode cX9_signLine 45 = .ok (.iconst 1, 1) := by decide +kernel
theorem dX9_signLine_46 : decode cX9_signLine 46 = .ok (.iload_n 1, 1) := by decide +kernel
theorem dX9_signLine_47 : decode cX9_signLine 47 = .ok (.ifCond .eq 9, 3) := by decide +kernel
theorem dX9_signLine_50 : decode cX9_signLine 50 = .ok (.sipush 9999, 3) := by decide +kernel
theorem dX9_signLine_53 : decode cX9_signLine 53 = .ok (.goto 5, 3) := by decide +kernel
theorem dX9_signLine_56 : decode cX9_signLine 56 = .ok (.bipush 99, 2) := by decide +kernel
theorem dX9_signLine_58 : decode cX9_signLine 58 = .ok (.invokevirtual 188, 3) := by decide +kernel
theorem dX9_signLine_61 : decode cX9_signLine 61 = .ok (.iastore, 1) := by decide +kernel
theorem dX9_signLine_62 : decode cX9_signLine 62 = .ok (.aload_n 0, 1) := by decide +kernel
theorem dX9_signLine_63 : decode cX9_signLine 63 = .ok (.getfield 23, 3) := by decide +kernel
theorem dX9_signLine_66 : decode cX9_signLine 66 = .ok (.iload_n 2, 1) := by decide +kernel
theorem dX9_signLine_67 : decode cX9_signLine 67 = .ok (.iconst 2, 1) := by decide +kernel
theorem dX9_signLine_68 : decode cX9_signLine 68 = .ok (.iadd, 1) := by decide +kernel
theorem dX9_signLine_69 : decode cX9_signLine 69 = .ok (.aload_n 0, 1) := by decide +kernel
theorem dX9_signLine_70 : decode cX9_signLine 70 = .ok (.iload_n 1, 1) := by decide +kernel
theorem dX9_signLine_71 : decode cX9_signLine 71 = .ok (.ifCond .eq 7, 3) := by decide +kernel
theorem dX9_signLine_74 : decode cX9_signLine 74 = .ok (.iconst 0, 1) := by decide +kernel
theorem dX9_signLine_75 : decode cX9_signLine 75 = .ok (.goto 4, 3) := by decide +kernel
theorem dX9_signLine_78 : decode cX9_signLine 78 = .ok (.iconst 1, 1) := by decide +kernel
theorem dX9_signLine_79 : decode cX9_signLine 79 = .ok (.sipush 9999, 3) := by decide +kernel
theorem dX9_signLine_82 : decode cX9_signLine 82 = .ok (.invokevirtual 188, 3) := by decide +kernel
theorem dX9_signLine_85 : decode cX9_signLine 85 = .ok (.iastore, 1) := by decide +kernel
theorem dX9_signLine_86 : decode cX9_signLine 86 = .ok (.aload_n 0, 1) := by decide +kernel
theorem dX9_signLine_87 : decode cX9_signLine 87 = .ok (.getfield 110, 3) := by decide +kernel
theorem dX9_signLine_90 : decode cX9_signLine 90 = .ok (.ifCond .ne 14, 3) := by decide +kernel
theorem dX9_signLine_93 : decode cX9_signLine 93 = .ok (.aload_n 0, 1) := by decide +kernel
theorem dX9_signLine_94 : decode cX9_signLine 94 = .ok (.getfield 23, 3) := by decide +kernel
theorem dX9_signLine_97 : decode cX9_signLine 97 = .ok (.bipush 8, 2) := by decide +kernel
theorem dX9_signLine_99 : decode cX9_signLine 99 = .ok (.dup2, 1) := by decide +kernel
theorem dX9_signLine_100 : decode cX9_signLine 100 = .ok (.iaload, 1) := by decide +kernel
theorem dX9_signLine_101 : decode cX9_signLine 101 = .ok (.iconst 1, 1) := by decide +kernel
theorem dX9_signLine_102 : decode cX9_signLine 102 = .ok (.iadd, 1) := by decide +kernel
theorem dX9_signLine_103 : decode cX9_signLine 103 = .ok (.iastore, 1) := by decide +kernel
theorem dX9_signLine_104 : decode cX9_signLine 104 = .ok (.return_, 1) := by decide +kernel
theorem dX9_didLine_0 : decode cX9_didLine 0 = .ok (.aload_n 0, 1) := by decide +kernel
theorem dX9_didLine_1 : decode cX9_didLine 1 = .ok (.getfield 110, 3) := by decide +kernel
theorem dX9_didLine_4 : decode cX9_didLine 4 = .ok (.ifCond .eq 4, 3) := by decide +kernel
theorem dX9_didLine_7 : decode cX9_didLine 7 = .ok (.return_, 1) := by decide +kernel
theorem dX9_didLine_8 : decode cX9_didLine 8 = .ok (.sipush 172, 3) := by decide +kernel
theorem dX9_didLine_11 : decode cX9_didLine 11 = .ok (.iconst 3, 1) := by decide +kernel
theorem dX9_didLine_12 : decode cX9_didLine 12 = .ok (.aload_n 0, 1) := by decide +kernel
theorem dX9_didLine_13 : decode cX9_didLine 13 = .ok (.getfield 23, 3) := by decide +kernel
theorem dX9_didLine_16 : decode cX9_didLine 16 = .ok (.bipush 9, 2) := by decide +kernel
theorem dX9_didLine_18 : decode cX9_didLine 18 = .ok (.iaload, 1) := by decide +kernel
theorem dX9_didLine_19 : decode cX9_didLine 19 = .ok (.imul, 1) := by decide +kernel
theorem dX9_didLine_20 : decode cX9_didLine 20 = .ok (.iadd, 1) := by decide +kernel
theorem dX9_didLine_21 : decode cX9_didLine 21 = .ok (.istore_n 1, 1) := by decide +kernel
theorem dX9_didLine_22 : decode cX9_didLine 22 = .ok (.aload_n 0, 1) := by decide +kernel
theorem dX9_didLine_23 : decode cX9_didLine 23 = .ok (.getfield 23, 3) := by decide +kernel
theorem dX9_didLine_26 : decode cX9_didLine 26 = .ok (.iload_n 1, 1) := by decide +kernel
theorem dX9_didLine_27 : decode cX9_didLine 27 = .ok (.aload_n 0, 1) := by decide +kernel
theorem dX9_didLine_28 : decode cX9_didLine 28 = .ok (.iconst 1, 1) := by decide +kernel
theorem dX9_didLine_29 : decode cX9_didLine 29 = .ok (.sipush 9999, 3) := by decide +kernel
theorem dX9_didLine_32 : decode cX9_didLine 32 = .ok (.invokevirtual 188, 3) := by decide +kernel
theorem dX9_didLine_35 : decode cX9_didLine 35 = .ok (.iastore, 1) := by decide +kernel
theorem dX9_didLine_36 : decode cX9_didLine 36 = .ok (.aload_n 0, 1) := by decide +kernel
theorem dX9_didLine_37 : decode cX9_didLine 37 = .ok (.getfield 23, 3) := by decide +kernel
theorem dX9_didLine_40 : decode cX9_didLine 40 = .ok (.iload_n 1, 1) := by decide +kernel
theorem dX9_didLine_41 : decode cX9_didLine 41 = .ok (.iconst 1, 1) := by decide +kernel
theorem dX9_didLine_42 : decode cX9_didLine 42 = .ok (.iadd, 1) := by decide +kernel
theorem dX9_didLine_43 : decode cX9_didLine 43 = .ok (.aload_n 0, 1) := by decide +kernel
theorem dX9_didLine_44 : decode cX9_didLine 44 = .ok (.ldc_w 293, 3) := by decide +kernel
theorem dX9_didLine_47 : decode cX9_didLine 47 = .ok (.iconst 1, 1) := by decide +kernel
theorem dX9_didLine_48 : decode cX9_didLine 48 = .ok (.aload_n 0, 1) := by decide +kernel
theorem dX9_didLine_49 : decode cX9_didLine 49 = .ok (.getfield 23, 3) := by decide +kernel
theorem dX9_didLine_52 : decode cX9_didLine 52 = .ok (.iconst 0, 1) := by decide +kernel
theorem dX9_didLine_53 : decode cX9_didLine 53 = .ok (.iaload, 1) := by decide +kernel
theorem dX9_didLine_54 : decode cX9_didLine 54 = .ok (.invokevirtual 262, 3) := by decide +kernel
theorem dX9_didLine_57 : decode cX9_didLine 57 = .ok (.iastore, 1) := by decide +kernel
theorem dX9_didLine_58 : decode cX9_didLine 58 = .ok (.aload_n 0, 1) := by decide +kernel
theorem dX9_didLine_59 : decode cX9_didLine 59 = .ok (.getfield 23, 3) := by decide +kernel
theorem dX9_didLine_62 : decode cX9_didLine 62 = .ok (.iload_n 1, 1) := by decide +kernel
theorem dX9_didLine_63 : decode cX9_didLine 63 = .ok (.iconst 2, 1) := by decide +kernel
theorem dX9_didLine_64 : decode cX9_didLine 64 = .ok (.iadd, 1) := by decide +kernel
theorem dX9_didLine_65 : decode cX9_didLine 65 = .ok (.aload_n 0, 1) := by decide +kernel
theorem dX9_didLine_66 : decode cX9_didLine 66 = .ok (.ldc_w 302, 3) := by decide +kernel
theorem dX9_didLine_69 : decode cX9_didLine 69 = .ok (.iconst 1, 1) := by decide +kernel
theorem dX9_didLine_70 : decode cX9_didLine 70 = .ok (.sipush 999, 3) := by decide +kernel
theorem dX9_didLine_73 : decode cX9_didLine 73 = .ok (.invokevirtual 262, 3) := by decide +kernel
theorem dX9_didLine_76 : decode cX9_didLine 76 = .ok (.iastore, 1) := by decide +kernel
theorem dX9_didLine_77 : decode cX9_didLine 77 = .ok (.aload_n 0, 1) := by decide +kernel
theorem dX9_didLine_78 : decode cX9_didLine 78 = .ok (.getfield 110, 3) := by decide +kernel
theorem dX9_didLine_81 : decode cX9_didLine 81 = .ok (.ifCond .ne 14, 3) := by decide +kernel
theorem dX9_didLine_84 : decode cX9_didLine 84 = .ok (.aload_n 0, 1) := by decide +kernel
theorem dX9_didLine_85 : decode cX9_didLine 85 = .ok (.getfield 23, 3) := by decide +kernel
theorem dX9_didLine_88 : decode cX9_didLine 88 = .ok (.bipush 9, 2) := by decide +kernel
theorem dX9_didLine_90 : decode cX9_didLine 90 = .ok (.dup2, 1) := by decide +kernel
theorem dX9_didLine_91 : decode cX9_didLine 91 = .ok (.iaload, 1) := by decide +kernel
theorem dX9_didLine_92 : decode cX9_didLine 92 = .ok (.iconst 1, 1) := by decide +kernel
theorem dX9_didLine_93 : decode cX9_didLine 93 = .ok (.iadd, 1) := by decide +kernel
theorem dX9_didLine_94 : decode cX9_didLine 94 = .ok (.iastore, 1) := by decide +kernel
theorem dX9_didLine_95 : decode cX9_didLine 95 = .ok (.return_, 1) := by decide +kernel
theorem dX9_readLine_0 : decode cX9_readLine 0 = .ok (.aload_n 0, 1) := by decide +kernel
theorem dX9_readLine_1 : decode cX9_readLine 1 = .ok (.ldc 141, 2) := by decide +kernel
theorem dX9_readLine_3 : decode cX9_readLine 3 = .ok (.invokevirtual 127, 3) := by decide +kernel
theorem dX9_readLine_6 : decode cX9_readLine 6 = .ok (.ifCond .eq 10, 3) := by decide +kernel
theorem dX9_readLine_9 : decode cX9_readLine 9 = .ok (.aload_n 0, 1) := by decide +kernel
theorem dX9_readLine_10 : decode cX9_readLine 10 = .ok (.invokevirtual 219, 3) := by decide +kernel
theorem dX9_readLine_13 : decode cX9_readLine 13 = .ok (.goto 340, 3) := by decide +kernel
theorem dX9_readLine_16 : decode cX9_readLine 16 = .ok (.aload_n 0, 1) := by decide +kernel
theorem dX9_readLine_17 : decode cX9_readLine 17 = .ok (.ldc 143, 2) := by decide +kernel
theorem dX9_readLine_19 : decode cX9_readLine 19 = .ok (.aload_n 0, 1) := by decide +kernel
theorem dX9_readLine_20 : decode cX9_readLine 20 = .ok (.getfield 23, 3) := by decide +kernel
theorem dX9_readLine_23 : decode cX9_readLine 23 = .ok (.iconst 3, 1) := by decide +kernel
theorem dX9_readLine_24 : decode cX9_readLine 24 = .ok (.iaload, 1) := by decide +kernel
theorem dX9_readLine_25 : decode cX9_readLine 25 = .ok (.iconst 3, 1) := by decide +kernel
theorem dX9_readLine_26 : decode cX9_readLine 26 = .ok (.if_icmp .ge 7, 3) := by decide +kernel
theorem dX9_readLine_29 : decode cX9_readLine 29 = .ok (.iconst 1, 1) := by decide +kernel
theorem dX9_readLine_30 : decode cX9_readLine 30 = .ok (.goto 4, 3) := by decide +kernel
theorem dX9_readLine_33 : decode cX9_readLine 33 = .ok (.iconst 0, 1) := by decide +kernel
theorem dX9_readLine_34 : decode cX9_readLine 34 = .ok (.invokevirtual 222, 3) := by decide +kernel
theorem dX9_readLine_37 : decode cX9_readLine 37 = .ok (.ifCond .eq 10, 3) := by decide +kernel
theorem dX9_readLine_40 : decode cX9_readLine 40 = .ok (.aload_n 0, 1) := by decide +kernel
theorem dX9_readLine_41 : decode cX9_readLine 41 = .ok (.invokevirtual 226, 3) := by decide +kernel
theorem dX9_readLine_44 : decode cX9_readLine 44 = .ok (.goto 309, 3) := by decide +kernel
theorem dX9_readLine_47 : decode cX9_readLine 47 = .ok (.aload_n 0, 1) := by decide +kernel
theorem dX9_readLine_48 : decode cX9_readLine 48 = .ok (.ldc 145, 2) := by decide +kernel
theorem dX9_readLine_50 : decode cX9_readLine 50 = .ok (.aload_n 0, 1) := by decide +kernel
theorem dX9_readLine_51 : decode cX9_readLine 51 = .ok (.getfield 23, 3) := by decide +kernel
theorem dX9_readLine_54 : decode cX9_readLine 54 = .ok (.iconst 4, 1) := by decide +kernel
theorem dX9_readLine_55 : decode cX9_readLine 55 = .ok (.iaload, 1) := by decide +kernel
theorem dX9_readLine_56 : decode cX9_readLine 56 = .ok (.iconst 5, 1) := by decide +kernel
theorem dX9_readLine_57 : decode cX9_readLine 57 = .ok (.if_icmp .ge 7, 3) := by decide +kernel
theorem dX9_readLine_60 : decode cX9_readLine 60 = .ok (.iconst 1, 1) := by decide +kernel
theorem dX9_readLine_61 : decode cX9_readLine 61 = .ok (.goto 4, 3) := by decide +kernel
theorem dX9_readLine_64 : decode cX9_readLine 64 = .ok (.iconst 0, 1) := by decide +kernel
theorem dX9_readLine_65 : decode cX9_readLine 65 = .ok (.invokevirtual 222, 3) := by decide +kernel
theorem dX9_readLine_68 : decode cX9_readLine 68 = .ok (.ifCond .eq 10, 3) := by decide +kernel
theorem dX9_readLine_71 : decode cX9_readLine 71 = .ok (.aload_n 0, 1) := by decide +kernel
theorem dX9_readLine_72 : decode cX9_readLine 72 = .ok (.invokevirtual 229, 3) := by decide +kernel
theorem dX9_readLine_75 : decode cX9_readLine 75 = .ok (.goto 278, 3) := by decide +kernel
theorem dX9_readLine_78 : decode cX9_readLine 78 = .ok (.aload_n 0, 1) := by decide +kernel
theorem dX9_readLine_79 : decode cX9_readLine 79 = .ok (.ldc 147, 2) := by decide +kernel
theorem dX9_readLine_81 : decode cX9_readLine 81 = .ok (.aload_n 0, 1) := by decide +kernel
theorem dX9_readLine_82 : decode cX9_readLine 82 = .ok (.getfield 23, 3) := by decide +kernel
theorem dX9_readLine_85 : decode cX9_readLine 85 = .ok (.iconst 5, 1) := by decide +kernel
theorem dX9_readLine_86 : decode cX9_readLine 86 = .ok (.iaload, 1) := by decide +kernel
theorem dX9_readLine_87 : decode cX9_readLine 87 = .ok (.bipush 20, 2) := by decide +kernel
theorem dX9_readLine_89 : decode cX9_readLine 89 = .ok (.if_icmp .ge 7, 3) := by decide +kernel
theorem dX9_readLine_92 : decode cX9_readLine 92 = .ok (.iconst 1, 1) := by decide +kernel
theorem dX9_readLine_93 : decode cX9_readLine 93 = .ok (.goto 4, 3) := by decide +kernel
theorem dX9_readLine_96 : decode cX9_readLine 96 = .ok (.iconst 0, 1) := by decide +kernel
theorem dX9_readLine_97 : decode cX9_readLine 97 = .ok (.invokevirtual 222, 3) := by decide +kernel
theorem dX9_readLine_100 : decode cX9_readLine 100 = .ok (.ifCond .eq 11, 3) := by decide +kernel
theorem dX9_readLine_103 : decode cX9_readLine 103 = .ok (.aload_n 0, 1) := by decide +kernel
theorem dX9_readLine_104 : decode cX9_readLine 104 = .ok (.iconst 1, 1) := by decide +kernel
theorem dX9_readLine_105 : decode cX9_readLine 105 = .ok (.invokevirtual 232, 3) := by decide +kernel
theorem dX9_readLine_108 : decode cX9_readLine 108 = .ok (.goto 245, 3) := by decide +kernel
theorem dX9_readLine_111 : decode cX9_readLine 111 = .ok (.aload_n 0, 1) := by decide +kernel
theorem dX9_readLine_112 : decode cX9_readLine 112 = .ok (.ldc 149, 2) := by decide +kernel
theorem dX9_readLine_114 : decode cX9_readLine 114 = .ok (.aload_n 0, 1) := by decide +kernel
theorem dX9_readLine_115 : decode cX9_readLine 115 = .ok (.getfield 23, 3) := by decide +kernel
theorem dX9_readLine_118 : decode cX9_readLine 118 = .ok (.iconst 5, 1) := by decide +kernel
theorem dX9_readLine_119 : decode cX9_readLine 119 = .ok (.iaload, 1) := by decide +kernel
theorem dX9_readLine_120 : decode cX9_readLine 120 = .ok (.bipush 20, 2) := by decide +kernel
theorem dX9_readLine_122 : decode cX9_readLine 122 = .ok (.if_icmp .ge 7, 3) := by decide +kernel
theorem dX9_readLine_125 : decode cX9_readLine 125 = .ok (.iconst 1, 1) := by decide +kernel
theorem dX9_readLine_126 : decode cX9_readLine 126 = .ok (.goto 4, 3) := by decide +kernel
theorem dX9_readLine_129 : decode cX9_readLine 129 = .ok (.iconst 0, 1) := by decide +kernel
theorem dX9_readLine_130 : decode cX9_readLine 130 = .ok (.invokevirtual 222, 3) := by decide +kernel
theorem dX9_readLine_133 : decode cX9_readLine 133 = .ok (.ifCond .eq 11, 3) := by decide +kernel
theorem dX9_readLine_136 : decode cX9_readLine 136 = .ok (.aload_n 0, 1) := by decide +kernel
theorem dX9_readLine_137 : decode cX9_readLine 137 = .ok (.iconst 0, 1) := by decide +kernel
theorem dX9_readLine_138 : decode cX9_readLine 138 = .ok (.invokevirtual 232, 3) := by decide +kernel
theorem dX9_readLine_141 : decode cX9_readLine 141 = .ok (.goto 212, 3) := by decide +kernel
theorem dX9_readLine_144 : decode cX9_readLine 144 = .ok (.aload_n 0, 1) := by decide +kernel
theorem dX9_readLine_145 : decode cX9_readLine 145 = .ok (.ldc 151, 2) := by decide +kernel
theorem dX9_readLine_147 : decode cX9_readLine 147 = .ok (.aload_n 0, 1) := by decide +kernel
theorem dX9_readLine_148 : decode cX9_readLine 148 = .ok (.getfield 23, 3) := by decide +kernel
theorem dX9_readLine_151 : decode cX9_readLine 151 = .ok (.bipush 6, 2) := by decide +kernel
theorem dX9_readLine_153 : decode cX9_readLine 153 = .ok (.iaload, 1) := by decide +kernel
theorem dX9_readLine_154 : decode cX9_readLine 154 = .ok (.bipush 8, 2) := by decide +kernel
theorem dX9_readLine_156 : decode cX9_readLine 156 = .ok (.if_icmp .ge 7, 3) := by decide +kernel
theorem dX9_readLine_159 : decode cX9_readLine 159 = .ok (.iconst 1, 1) := by decide +kernel
theorem dX9_readLine_160 : decode cX9_readLine 160 = .ok (.goto 4, 3) := by decide +kernel
theorem dX9_readLine_163 : decode cX9_readLine 163 = .ok (.iconst 0, 1) := by decide +kernel
theorem dX9_readLine_164 : decode cX9_readLine 164 = .ok (.invokevirtual 222, 3) := by decide +kernel
theorem dX9_readLine_167 : decode cX9_readLine 167 = .ok (.ifCond .eq 10, 3) := by decide +kernel
theorem dX9_readLine_170 : decode cX9_readLine 170 = .ok (.aload_n 0, 1) := by decide +kernel
theorem dX9_readLine_171 : decode cX9_readLine 171 = .ok (.invokevirtual 236, 3) := by decide +kernel
theorem dX9_readLine_174 : decode cX9_readLine 174 = .ok (.goto 179, 3) := by decide +kernel
theorem dX9_readLine_177 : decode cX9_readLine 177 = .ok (.aload_n 0, 1) := by decide +kernel
theorem dX9_readLine_178 : decode cX9_readLine 178 = .ok (.ldc 153, 2) := by decide +kernel
theorem dX9_readLine_180 : decode cX9_readLine 180 = .ok (.aload_n 0, 1) := by decide +kernel
theorem dX9_readLine_181 : decode cX9_readLine 181 = .ok (.getfield 23, 3) := by decide +kernel
theorem dX9_readLine_184 : decode cX9_readLine 184 = .ok (.bipush 7, 2) := by decide +kernel
theorem dX9_readLine_186 : decode cX9_readLine 186 = .ok (.iaload, 1) := by decide +kernel
theorem dX9_readLine_187 : decode cX9_readLine 187 = .ok (.bipush 6, 2) := by decide +kernel
theorem dX9_readLine_189 : decode cX9_readLine 189 = .ok (.if_icmp .ge 7, 3) := by decide +kernel
theorem dX9_readLine_192 : decode cX9_readLine 192 = .ok (.iconst 1, 1) := by decide +kernel
theorem dX9_readLine_193 : decode cX9_readLine 193 = .ok (.goto 4, 3) := by decide +kernel
theorem dX9_readLine_196 : decode cX9_readLine 196 = .ok (.iconst 0, 1) := by decide +kernel
theorem dX9_readLine_197 : decode cX9_readLine 197 = .ok (.invokevirtual 222, 3) := by decide +kernel
theorem dX9_readLine_200 : decode cX9_readLine 200 = .ok (.ifCond .eq 10, 3) := by decide +kernel
theorem dX9_readLine_203 : decode cX9_readLine 203 = .ok (.aload_n 0, 1) := by decide +kernel
theorem dX9_readLine_204 : decode cX9_readLine 204 = .ok (.invokevirtual 239, 3) := by decide +kernel
theorem dX9_readLine_207 : decode cX9_readLine 207 = .ok (.goto 146, 3) := by decide +kernel
theorem dX9_readLine_210 : decode cX9_readLine 210 = .ok (.aload_n 0, 1) := by decide +kernel
theorem dX9_readLine_211 : decode cX9_readLine 211 = .ok (.ldc 155, 2) := by decide +kernel
theorem dX9_readLine_213 : decode cX9_readLine 213 = .ok (.invokevirtual 127, 3) := by decide +kernel
theorem dX9_readLine_216 : decode cX9_readLine 216 = .ok (.ifCond .eq 10, 3) := by decide +kernel
theorem dX9_readLine_219 : decode cX9_readLine 219 = .ok (.aload_n 0, 1) := by decide +kernel
theorem dX9_readLine_220 : decode cX9_readLine 220 = .ok (.invokevirtual 242, 3) := by decide +kernel
theorem dX9_readLine_223 : decode cX9_readLine 223 = .ok (.goto 130, 3) := by decide +kernel
theorem dX9_readLine_226 : decode cX9_readLine 226 = .ok (.aload_n 0, 1) := by decide +kernel
theorem dX9_readLine_227 : decode cX9_readLine 227 = .ok (.ldc 157, 2) := by decide +kernel
theorem dX9_readLine_229 : decode cX9_readLine 229 = .ok (.iconst 1, 1) := by decide +kernel
theorem dX9_readLine_230 : decode cX9_readLine 230 = .ok (.invokevirtual 222, 3) := by decide +kernel
theorem dX9_readLine_233 : decode cX9_readLine 233 = .ok (.ifCond .eq 10, 3) := by decide +kernel
theorem dX9_readLine_236 : decode cX9_readLine 236 = .ok (.aload_n 0, 1) := by decide +kernel
theorem dX9_readLine_237 : decode cX9_readLine 237 = .ok (.invokevirtual 245, 3) := by decide +kernel
theorem dX9_readLine_240 : decode cX9_readLine 240 = .ok (.goto 113, 3) := by decide +kernel
theorem dX9_readLine_243 : decode cX9_readLine 243 = .ok (.aload_n 0, 1) := by decide +kernel
theorem dX9_readLine_244 : decode cX9_readLine 244 = .ok (.ldc 159, 2) := by decide +kernel
theorem dX9_readLine_246 : decode cX9_readLine 246 = .ok (.aload_n 0, 1) := by decide +kernel
theorem dX9_readLine_247 : decode cX9_readLine 247 = .ok (.getfield 23, 3) := by decide +kernel
theorem dX9_readLine_250 : decode cX9_readLine 250 = .ok (.bipush 8, 2) := by decide +kernel
theorem dX9_readLine_252 : decode cX9_readLine 252 = .ok (.iaload, 1) := by decide +kernel
theorem dX9_readLine_253 : decode cX9_readLine 253 = .ok (.bipush 6, 2) := by decide +kernel
theorem dX9_readLine_255 : decode cX9_readLine 255 = .ok (.if_icmp .ge 7, 3) := by decide +kernel
theorem dX9_readLine_258 : decode cX9_readLine 258 = .ok (.iconst 1, 1) := by decide +kernel
theorem dX9_readLine_259 : decode cX9_readLine 259 = .ok (.goto 4, 3) := by decide +kernel
theorem dX9_readLine_262 : decode cX9_readLine 262 = .ok (.iconst 0, 1) := by decide +kernel
theorem dX9_readLine_263 : decode cX9_readLine 263 = .ok (.invokevirtual 222, 3) := by decide +kernel
theorem dX9_readLine_266 : decode cX9_readLine 266 = .ok (.ifCond .eq 11, 3) := by decide +kernel
theorem dX9_readLine_269 : decode cX9_readLine 269 = .ok (.aload_n 0, 1) := by decide +kernel
theorem dX9_readLine_270 : decode cX9_readLine 270 = .ok (.iconst 0, 1) := by decide +kernel
theorem dX9_readLine_271 : decode cX9_readLine 271 = .ok (.invokevirtual 248, 3) := by decide +kernel
theorem dX9_readLine_274 : decode cX9_readLine 274 = .ok (.goto 79, 3) := by decide +kernel
theorem dX9_readLine_277 : decode cX9_readLine 277 = .ok (.aload_n 0, 1) := by decide +kernel
theorem dX9_readLine_278 : decode cX9_readLine 278 = .ok (.ldc 161, 2) := by decide +kernel
theorem dX9_readLine_280 : decode cX9_readLine 280 = .ok (.aload_n 0, 1) := by decide +kernel
theorem dX9_readLine_281 : decode cX9_readLine 281 = .ok (.getfield 23, 3) := by decide +kernel
theorem dX9_readLine_284 : decode cX9_readLine 284 = .ok (.bipush 8, 2) := by decide +kernel
theorem dX9_readLine_286 : decode cX9_readLine 286 = .ok (.iaload, 1) := by decide +kernel
theorem dX9_readLine_287 : decode cX9_readLine 287 = .ok (.bipush 6, 2) := by decide +kernel
theorem dX9_readLine_289 : decode cX9_readLine 289 = .ok (.if_icmp .ge 7, 3) := by decide +kernel
theorem dX9_readLine_292 : decode cX9_readLine 292 = .ok (.iconst 1, 1) := by decide +kernel
theorem dX9_readLine_293 : decode cX9_readLine 293 = .ok (.goto 4, 3) := by decide +kernel
theorem dX9_readLine_296 : decode cX9_readLine 296 = .ok (.iconst 0, 1) := by decide +kernel
theorem dX9_readLine_297 : decode cX9_readLine 297 = .ok (.invokevirtual 222, 3) := by decide +kernel
theorem dX9_readLine_300 : decode cX9_readLine 300 = .ok (.ifCond .eq 11, 3) := by decide +kernel
theorem dX9_readLine_303 : decode cX9_readLine 303 = .ok (.aload_n 0, 1) := by decide +kernel
theorem dX9_readLine_304 : decode cX9_readLine 304 = .ok (.iconst 1, 1) := by decide +kernel
theorem dX9_readLine_305 : decode cX9_readLine 305 = .ok (.invokevirtual 248, 3) := by decide +kernel
theorem dX9_readLine_308 : decode cX9_readLine 308 = .ok (.goto 45, 3) := by decide +kernel
theorem dX9_readLine_311 : decode cX9_readLine 311 = .ok (.aload_n 0, 1) := by decide +kernel
theorem dX9_readLine_312 : decode cX9_readLine 312 = .ok (.ldc 162, 2) := by decide +kernel
theorem dX9_readLine_314 : decode cX9_readLine 314 = .ok (.aload_n 0, 1) := by decide +kernel
theorem dX9_readLine_315 : decode cX9_readLine 315 = .ok (.getfield 23, 3) := by decide +kernel
theorem dX9_readLine_318 : decode cX9_readLine 318 = .ok (.bipush 9, 2) := by decide +kernel
theorem dX9_readLine_320 : decode cX9_readLine 320 = .ok (.iaload, 1) := by decide +kernel
theorem dX9_readLine_321 : decode cX9_readLine 321 = .ok (.bipush 6, 2) := by decide +kernel
theorem dX9_readLine_323 : decode cX9_readLine 323 = .ok (.if_icmp .ge 7, 3) := by decide +kernel
theorem dX9_readLine_326 : decode cX9_readLine 326 = .ok (.iconst 1, 1) := by decide +kernel
theorem dX9_readLine_327 : decode cX9_readLine 327 = .ok (.goto 4, 3) := by decide +kernel
theorem dX9_readLine_330 : decode cX9_readLine 330 = .ok (.iconst 0, 1) := by decide +kernel
theorem dX9_readLine_331 : decode cX9_readLine 331 = .ok (.invokevirtual 222, 3) := by decide +kernel
theorem dX9_readLine_334 : decode cX9_readLine 334 = .ok (.ifCond .eq 10, 3) := by decide +kernel
theorem dX9_readLine_337 : decode cX9_readLine 337 = .ok (.aload_n 0, 1) := by decide +kernel
theorem dX9_readLine_338 : decode cX9_readLine 338 = .ok (.invokevirtual 251, 3) := by decide +kernel
theorem dX9_readLine_341 : decode cX9_readLine 341 = .ok (.goto 12, 3) := by decide +kernel
theorem dX9_readLine_344 : decode cX9_readLine 344 = .ok (.aload_n 0, 1) := by decide +kernel
theorem dX9_readLine_345 : decode cX9_readLine 345 = .ok (.iconst 1, 1) := by decide +kernel
theorem dX9_readLine_346 : decode cX9_readLine 346 = .ok (.aload_n 0, 1) := by decide +kernel
theorem dX9_readLine_347 : decode cX9_readLine 347 = .ok (.getfield 91, 3) := by decide +kernel
theorem dX9_readLine_350 : decode cX9_readLine 350 = .ok (.invokevirtual 137, 3) := by decide +kernel
theorem dX9_readLine_353 : decode cX9_readLine 353 = .ok (.return_, 1) := by decide +kernel
theorem dX9_quickOf_0 : decode cX9_quickOf 0 = .ok (.iconst 1, 1) := by decide +kernel
theorem dX9_quickOf_1 : decode cX9_quickOf 1 = .ok (.istore_n 2, 1) := by decide +kernel
theorem dX9_quickOf_2 : decode cX9_quickOf 2 = .ok (.iconst 0, 1) := by decide +kernel
theorem dX9_quickOf_3 : decode cX9_quickOf 3 = .ok (.istore_n 3, 1) := by decide +kernel
theorem dX9_quickOf_4 : decode cX9_quickOf 4 = .ok (.iload_n 3, 1) := by decide +kernel
theorem dX9_quickOf_5 : decode cX9_quickOf 5 = .ok (.iload_n 1, 1) := by decide +kernel
theorem dX9_quickOf_6 : decode cX9_quickOf 6 = .ok (.if_icmp .ge 21, 3) := by decide +kernel
theorem dX9_quickOf_9 : decode cX9_quickOf 9 = .ok (.iload_n 2, 1) := by decide +kernel
theorem dX9_quickOf_10 : decode cX9_quickOf 10 = .ok (.aload_n 0, 1) := by decide +kernel
theorem dX9_quickOf_11 : decode cX9_quickOf 11 = .ok (.getfield 20, 3) := by decide +kernel
theorem dX9_quickOf_14 : decode cX9_quickOf 14 = .ok (.bipush 11, 2) := by decide +kernel
theorem dX9_quickOf_16 : decode cX9_quickOf 16 = .ok (.iload_n 3, 1) := by decide +kernel
theorem dX9_quickOf_17 : decode cX9_quickOf 17 = .ok (.iadd, 1) := by decide +kernel
theorem dX9_quickOf_18 : decode cX9_quickOf 18 = .ok (.iaload, 1) := by decide +kernel
theorem dX9_quickOf_19 : decode cX9_quickOf 19 = .ok (.imul, 1) := by decide +kernel
theorem dX9_quickOf_20 : decode cX9_quickOf 20 = .ok (.istore_n 2, 1) := by decide +kernel
theorem dX9_quickOf_21 : decode cX9_quickOf 21 = .ok (.iinc 3 1, 3) := by decide +kernel
theorem dX9_quickOf_24 : decode cX9_quickOf 24 = .ok (.goto (-20), 3) := by decide +kernel
theorem dX9_quickOf_27 : decode cX9_quickOf 27 = .ok (.iload_n 2, 1) := by decide +kernel
theorem dX9_quickOf_28 : decode cX9_quickOf 28 = .ok (.ireturn, 1) := by decide +kernel
theorem dX9_bottom_0 : decode cX9_bottom 0 = .ok (.aload_n 0, 1) := by decide +kernel
theorem dX9_bottom_1 : decode cX9_bottom 1 = .ok (.aload_n 0, 1) := by decide +kernel
theorem dX9_bottom_2 : decode cX9_bottom 2 = .ok (.getfield 20, 3) := by decide +kernel
theorem dX9_bottom_5 : decode cX9_bottom 5 = .ok (.iconst 0, 1) := by decide +kernel
theorem dX9_bottom_6 : decode cX9_bottom 6 = .ok (.iaload, 1) := by decide +kernel
theorem dX9_bottom_7 : decode cX9_bottom 7 = .ok (.invokevirtual 304, 3) := by decide +kernel
theorem dX9_bottom_10 : decode cX9_bottom 10 = .ok (.ireturn, 1) := by decide +kernel
theorem dX9_its_0 : decode cX9_its 0 = .ok (.aload_n 0, 1) := by decide +kernel
theorem dX9_its_1 : decode cX9_its 1 = .ok (.getfield 26, 3) := by decide +kernel
theorem dX9_its_4 : decode cX9_its 4 = .ok (.iconst 4, 1) := by decide +kernel
theorem dX9_its_5 : decode cX9_its 5 = .ok (.iload_n 1, 1) := by decide +kernel
theorem dX9_its_6 : decode cX9_its 6 = .ok (.imul, 1) := by decide +kernel
theorem dX9_its_7 : decode cX9_its 7 = .ok (.iload_n 2, 1) := by decide +kernel
theorem dX9_its_8 : decode cX9_its 8 = .ok (.iadd, 1) := by decide +kernel
theorem dX9_its_9 : decode cX9_its 9 = .ok (.iaload, 1) := by decide +kernel
theorem dX9_its_10 : decode cX9_its 10 = .ok (.ireturn, 1) := by decide +kernel
theorem dX9_feelOf_0 : decode cX9_feelOf 0 = .ok (.iload_n 1, 1) := by decide +kernel
theorem dX9_feelOf_1 : decode cX9_feelOf 1 = .ok (.i2l, 1) := by decide +kernel
theorem dX9_feelOf_2 : decode cX9_feelOf 2 = .ok (.aload_n 0, 1) := by decide +kernel
theorem dX9_feelOf_3 : decode cX9_feelOf 3 = .ok (.iload_n 3, 1) := by decide +kernel
theorem dX9_feelOf_4 : decode cX9_feelOf 4 = .ok (.invokevirtual 304, 3) := by decide +kernel
theorem dX9_feelOf_7 : decode cX9_feelOf 7 = .ok (.aload_n 0, 1) := by decide +kernel
theorem dX9_feelOf_8 : decode cX9_feelOf 8 = .ok (.iload_n 2, 1) := by decide +kernel
theorem dX9_feelOf_9 : decode cX9_feelOf 9 = .ok (.invokevirtual 304, 3) := by decide +kernel
theorem dX9_feelOf_12 : decode cX9_feelOf 12 = .ok (.idiv, 1) := by decide +kernel
theorem dX9_feelOf_13 : decode cX9_feelOf 13 = .ok (.i2l, 1) := by decide +kernel
theorem dX9_feelOf_14 : decode cX9_feelOf 14 = .ok (.lmul, 1) := by decide +kernel
theorem dX9_feelOf_15 : decode cX9_feelOf 15 = .ok (.lreturn, 1) := by decide +kernel
theorem dX9_of_0 : decode cX9_of 0 = .ok (.aload_n 0, 1) := by decide +kernel
theorem dX9_of_1 : decode cX9_of 1 = .ok (.getfield 20, 3) := by decide +kernel
theorem dX9_of_4 : decode cX9_of 4 = .ok (.bipush 15, 2) := by decide +kernel
theorem dX9_of_6 : decode cX9_of 6 = .ok (.iconst 5, 1) := by decide +kernel
theorem dX9_of_7 : decode cX9_of 7 = .ok (.iload_n 1, 1) := by decide +kernel
theorem dX9_of_8 : decode cX9_of 8 = .ok (.imul, 1) := by decide +kernel
theorem dX9_of_9 : decode cX9_of 9 = .ok (.iadd, 1) := by decide +kernel
theorem dX9_of_10 : decode cX9_of 10 = .ok (.iload_n 2, 1) := by decide +kernel
theorem dX9_of_11 : decode cX9_of 11 = .ok (.iadd, 1) := by decide +kernel
theorem dX9_of_12 : decode cX9_of 12 = .ok (.iaload, 1) := by decide +kernel
theorem dX9_of_13 : decode cX9_of 13 = .ok (.ireturn, 1) := by decide +kernel
theorem dX9_broughtTo_0 : decode cX9_broughtTo 0 = .ok (.aload_n 0, 1) := by decide +kernel
theorem dX9_broughtTo_1 : decode cX9_broughtTo 1 = .ok (.iload 4, 2) := by decide +kernel
theorem dX9_broughtTo_3 : decode cX9_broughtTo 3 = .ok (.iload_n 3, 1) := by decide +kernel
theorem dX9_broughtTo_4 : decode cX9_broughtTo 4 = .ok (.iload_n 2, 1) := by decide +kernel
theorem dX9_broughtTo_5 : decode cX9_broughtTo 5 = .ok (.invokevirtual 331, 3) := by decide +kernel
theorem dX9_broughtTo_8 : decode cX9_broughtTo 8 = .ok (.lstore 5, 2) := by decide +kernel
theorem dX9_broughtTo_10 : decode cX9_broughtTo 10 = .ok (.aload_n 0, 1) := by decide +kernel
theorem dX9_broughtTo_11 : decode cX9_broughtTo 11 = .ok (.iload_n 1, 1) := by decide +kernel
theorem dX9_broughtTo_12 : decode cX9_broughtTo 12 = .ok (.iconst 0, 1) := by decide +kernel
theorem dX9_broughtTo_13 : decode cX9_broughtTo 13 = .ok (.invokevirtual 335, 3) := by decide +kernel
theorem dX9_broughtTo_16 : decode cX9_broughtTo 16 = .ok (.istore 7, 2) := by decide +kernel
theorem dX9_broughtTo_18 : decode cX9_broughtTo 18 = .ok (.lload 5, 2) := by decide +kernel
theorem dX9_broughtTo_20 : decode cX9_broughtTo 20 = .ok (.aload_n 0, 1) := by decide +kernel
theorem dX9_broughtTo_21 : decode cX9_broughtTo 21 = .ok (.iload_n 1, 1) := by decide +kernel
theorem dX9_broughtTo_22 : decode cX9_broughtTo 22 = .ok (.iconst 1, 1) := by decide +kernel
theorem dX9_broughtTo_23 : decode cX9_broughtTo 23 = .ok (.invokevirtual 335, 3) := by decide +kernel
theorem dX9_broughtTo_26 : decode cX9_broughtTo 26 = .ok (.i2l, 1) := by decide +kernel
theorem dX9_broughtTo_27 : decode cX9_broughtTo 27 = .ok (.iload 7, 2) := by decide +kernel
theorem dX9_broughtTo_29 : decode cX9_broughtTo 29 = .ok (.iconst 2, 1) := by decide +kernel
theorem dX9_broughtTo_30 : decode cX9_broughtTo 30 = .ok (.if_icmp .ne 7, 3) := by decide +kernel
theorem dX9_broughtTo_33 : decode cX9_broughtTo 33 = .ok (.iconst 2, 1) := by decide +kernel
theorem dX9_broughtTo_34 : decode cX9_broughtTo 34 = .ok (.goto 4, 3) := by decide +kernel
theorem dX9_broughtTo_37 : decode cX9_broughtTo 37 = .ok (.iconst 1, 1) := by decide +kernel
theorem dX9_broughtTo_38 : decode cX9_broughtTo 38 = .ok (.i2l, 1) := by decide +kernel
theorem dX9_broughtTo_39 : decode cX9_broughtTo 39 = .ok (.lmul, 1) := by decide +kernel
theorem dX9_broughtTo_40 : decode cX9_broughtTo 40 = .ok (.lcmp, 1) := by decide +kernel
theorem dX9_broughtTo_41 : decode cX9_broughtTo 41 = .ok (.ifCond .lt 19, 3) := by decide +kernel
theorem dX9_broughtTo_44 : decode cX9_broughtTo 44 = .ok (.iload 7, 2) := by decide +kernel
theorem dX9_broughtTo_46 : decode cX9_broughtTo 46 = .ok (.iconst 3, 1) := by decide +kernel
theorem dX9_broughtTo_47 : decode cX9_broughtTo 47 = .ok (.if_icmp .ne 15, 3) := by decide +kernel
theorem dX9_broughtTo_50 : decode cX9_broughtTo 50 = .ok (.iload_n 2, 1) := by decide +kernel
theorem dX9_broughtTo_51 : decode cX9_broughtTo 51 = .ok (.aload_n 0, 1) := by decide +kernel
theorem dX9_broughtTo_52 : decode cX9_broughtTo 52 = .ok (.getfield 20, 3) := by decide +kernel
theorem dX9_broughtTo_55 : decode cX9_broughtTo 55 = .ok (.iconst 0, 1) := by decide +kernel
theorem dX9_broughtTo_56 : decode cX9_broughtTo 56 = .ok (.iaload, 1) := by decide +kernel
theorem dX9_broughtTo_57 : decode cX9_broughtTo 57 = .ok (.if_icmp .ne 5, 3) := by decide +kernel
theorem dX9_broughtTo_60 : decode cX9_broughtTo 60 = .ok (.iload_n 2, 1) := by decide +kernel
theorem dX9_broughtTo_61 : decode cX9_broughtTo 61 = .ok (.ireturn, 1) := by decide +kernel
theorem dX9_broughtTo_62 : decode cX9_broughtTo 62 = .ok (.iload_n 2, 1) := by decide +kernel
theorem dX9_broughtTo_63 : decode cX9_broughtTo 63 = .ok (.iload 7, 2) := by decide +kernel
theorem dX9_broughtTo_65 : decode cX9_broughtTo 65 = .ok (.iconst 1, 1) := by decide +kernel
theorem dX9_broughtTo_66 : decode cX9_broughtTo 66 = .ok (.if_icmp .ne 7, 3) := by decide +kernel
theorem dX9_broughtTo_69 : decode cX9_broughtTo 69 = .ok (.iconst 2, 1) := by decide +kernel
theorem dX9_broughtTo_70 : decode cX9_broughtTo 70 = .ok (.goto 4, 3) := by decide +kernel
theorem dX9_broughtTo_73 : decode cX9_broughtTo 73 = .ok (.iconst 1, 1) := by decide +kernel
theorem dX9_broughtTo_74 : decode cX9_broughtTo 74 = .ok (.isub, 1) := by decide +kernel
theorem dX9_broughtTo_75 : decode cX9_broughtTo 75 = .ok (.istore 8, 2) := by decide +kernel
theorem dX9_broughtTo_77 : decode cX9_broughtTo 77 = .ok (.iload 8, 2) := by decide +kernel
theorem dX9_broughtTo_79 : decode cX9_broughtTo 79 = .ok (.iload_n 3, 1) := by decide +kernel
theorem dX9_broughtTo_80 : decode cX9_broughtTo 80 = .ok (.if_icmp .ge 7, 3) := by decide +kernel
theorem dX9_broughtTo_83 : decode cX9_broughtTo 83 = .ok (.iload_n 3, 1) := by decide +kernel
theorem dX9_broughtTo_84 : decode cX9_broughtTo 84 = .ok (.goto 5, 3) := by decide +kernel
theorem dX9_broughtTo_87 : decode cX9_broughtTo 87 = .ok (.iload 8, 2) := by decide +kernel
theorem dX9_broughtTo_89 : decode cX9_broughtTo 89 = .ok (.ireturn, 1) := by decide +kernel
theorem dX9_comes_0 : decode cX9_comes 0 = .ok (.aload_n 0, 1) := by decide +kernel
theorem dX9_comes_1 : decode cX9_comes 1 = .ok (.getfield 26, 3) := by decide +kernel
theorem dX9_comes_4 : decode cX9_comes 4 = .ok (.iconst 4, 1) := by decide +kernel
theorem dX9_comes_5 : decode cX9_comes 5 = .ok (.iload_n 1, 1) := by decide +kernel
theorem dX9_comes_6 : decode cX9_comes 6 = .ok (.imul, 1) := by decide +kernel
theorem dX9_comes_7 : decode cX9_comes 7 = .ok (.iconst 0, 1) := by decide +kernel
theorem dX9_comes_8 : decode cX9_comes 8 = .ok (.iadd, 1) := by decide +kernel
theorem dX9_comes_9 : decode cX9_comes 9 = .ok (.iload_n 2, 1) := by decide +kernel
theorem dX9_comes_10 : decode cX9_comes 10 = .ok (.iastore, 1) := by decide +kernel
theorem dX9_comes_11 : decode cX9_comes 11 = .ok (.iload_n 2, 1) := by decide +kernel
theorem dX9_comes_12 : decode cX9_comes 12 = .ok (.ifCond .ne 14, 3) := by decide +kernel
theorem dX9_comes_15 : decode cX9_comes 15 = .ok (.aload_n 0, 1) := by decide +kernel
theorem dX9_comes_16 : decode cX9_comes 16 = .ok (.getfield 26, 3) := by decide +kernel
theorem dX9_comes_19 : decode cX9_comes 19 = .ok (.iconst 4, 1) := by decide +kernel
theorem dX9_comes_20 : decode cX9_comes 20 = .ok (.iload_n 1, 1) := by decide +kernel
theorem dX9_comes_21 : decode cX9_comes 21 = .ok (.imul, 1) := by decide +kernel
theorem dX9_comes_22 : decode cX9_comes 22 = .ok (.iconst 1, 1) := by decide +kernel
theorem dX9_comes_23 : decode cX9_comes 23 = .ok (.iadd, 1) := by decide +kernel
theorem dX9_comes_24 : decode cX9_comes 24 = .ok (.iconst 0, 1) := by decide +kernel
theorem dX9_comes_25 : decode cX9_comes 25 = .ok (.iastore, 1) := by decide +kernel
theorem dX9_comes_26 : decode cX9_comes 26 = .ok (.aload_n 0, 1) := by decide +kernel
theorem dX9_comes_27 : decode cX9_comes 27 = .ok (.getfield 38, 3) := by decide +kernel
theorem dX9_comes_30 : decode cX9_comes 30 = .ok (.iconst 1, 1) := by decide +kernel
theorem dX9_comes_31 : decode cX9_comes 31 = .ok (.iload_n 1, 1) := by decide +kernel
theorem dX9_comes_32 : decode cX9_comes 32 = .ok (.iadd, 1) := by decide +kernel
theorem dX9_comes_33 : decode cX9_comes 33 = .ok (.aload_n 0, 1) := by decide +kernel
theorem dX9_comes_34 : decode cX9_comes 34 = .ok (.getfield 38, 3) := by decide +kernel
theorem dX9_comes_37 : decode cX9_comes 37 = .ok (.iconst 0, 1) := by decide +kernel
theorem dX9_comes_38 : decode cX9_comes 38 = .ok (.laload, 1) := by decide +kernel
theorem dX9_comes_39 : decode cX9_comes 39 = .ok (.lastore, 1) := by decide +kernel
theorem dX9_comes_40 : decode cX9_comes 40 = .ok (.return_, 1) := by decide +kernel
theorem dX9_knocks_0 : decode cX9_knocks 0 = .ok (.iconst 0, 1) := by decide +kernel
theorem dX9_knocks_1 : decode cX9_knocks 1 = .ok (.istore 4, 2) := by decide +kernel
theorem dX9_knocks_3 : decode cX9_knocks 3 = .ok (.iconst 0, 1) := by decide +kernel
theorem dX9_knocks_4 : decode cX9_knocks 4 = .ok (.istore 5, 2) := by decide +kernel
theorem dX9_knocks_6 : decode cX9_knocks 6 = .ok (.iload 5, 2) := by decide +kernel
theorem dX9_knocks_8 : decode cX9_knocks 8 = .ok (.aload_n 0, 1) := by decide +kernel
theorem dX9_knocks_9 : decode cX9_knocks 9 = .ok (.getfield 20, 3) := by decide +kernel
theorem dX9_knocks_12 : decode cX9_knocks 12 = .ok (.iconst 4, 1) := by decide +kernel
theorem dX9_knocks_13 : decode cX9_knocks 13 = .ok (.iaload, 1) := by decide +kernel
theorem dX9_knocks_14 : decode cX9_knocks 14 = .ok (.if_icmp .ge 100, 3) := by decide +kernel
theorem dX9_knocks_17 : decode cX9_knocks 17 = .ok (.aload_n 0, 1) := by decide +kernel
theorem dX9_knocks_18 : decode cX9_knocks 18 = .ok (.iload 5, 2) := by decide +kernel
theorem dX9_knocks_20 : decode cX9_knocks 20 = .ok (.iconst 1, 1) := by decide +kernel
theorem dX9_knocks_21 : decode cX9_knocks 21 = .ok (.invokevirtual 310, 3) := by decide +kernel
theorem dX9_knocks_24 : decode cX9_knocks 24 = .ok (.iload_n 1, 1) := by decide +kernel
theorem dX9_knocks_25 : decode cX9_knocks 25 = .ok (.iconst 1, 1) := by decide +kernel
theorem dX9_knocks_26 : decode cX9_knocks 26 = .ok (.iadd, 1) := by decide +kernel
theorem dX9_knocks_27 : decode cX9_knocks 27 = .ok (.if_icmp .ne 81, 3) := by decide +kernel
theorem dX9_knocks_30 : decode cX9_knocks 30 = .ok (.aload_n 0, 1) := by decide +kernel
theorem dX9_knocks_31 : decode cX9_knocks 31 = .ok (.iload 5, 2) := by decide +kernel
theorem dX9_knocks_33 : decode cX9_knocks 33 = .ok (.iconst 0, 1) := by decide +kernel
theorem dX9_knocks_34 : decode cX9_knocks 34 = .ok (.invokevirtual 310, 3) := by decide +kernel
theorem dX9_knocks_37 : decode cX9_knocks 37 = .ok (.iload_n 2, 1) := by decide +kernel
theorem dX9_knocks_38 : decode cX9_knocks 38 = .ok (.if_icmp .gt 6, 3) := by decide +kernel
theorem dX9_knocks_41 : decode cX9_knocks 41 = .ok (.goto 67, 3) := by decide +kernel
theorem dX9_knocks_44 : decode cX9_knocks 44 = .ok (.aload_n 0, 1) := by decide +kernel
theorem dX9_knocks_45 : decode cX9_knocks 45 = .ok (.iload 5, 2) := by decide +kernel
theorem dX9_knocks_47 : decode cX9_knocks 47 = .ok (.aload_n 0, 1) := by decide +kernel
theorem dX9_knocks_48 : decode cX9_knocks 48 = .ok (.iload 5, 2) := by decide +kernel
theorem dX9_knocks_50 : decode cX9_knocks 50 = .ok (.iconst 0, 1) := by decide +kernel
theorem dX9_knocks_51 : decode cX9_knocks 51 = .ok (.invokevirtual 310, 3) := by decide +kernel
theorem dX9_knocks_54 : decode cX9_knocks 54 = .ok (.iload_n 2, 1) := by decide +kernel
theorem dX9_knocks_55 : decode cX9_knocks 55 = .ok (.iload_n 3, 1) := by decide +kernel
theorem dX9_knocks_56 : decode cX9_knocks 56 = .ok (.invokevirtual 338, 3) := by decide +kernel
theorem dX9_knocks_59 : decode cX9_knocks 59 = .ok (.istore 6, 2) := by decide +kernel
theorem dX9_knocks_61 : decode cX9_knocks 61 = .ok (.iload 6, 2) := by decide +kernel
theorem dX9_knocks_63 : decode cX9_knocks 63 = .ok (.aload_n 0, 1) := by decide +kernel
theorem dX9_knocks_64 : decode cX9_knocks 64 = .ok (.iload 5, 2) := by decide +kernel
theorem dX9_knocks_66 : decode cX9_knocks 66 = .ok (.iconst 0, 1) := by decide +kernel
theorem dX9_knocks_67 : decode cX9_knocks 67 = .ok (.invokevirtual 310, 3) := by decide +kernel
theorem dX9_knocks_70 : decode cX9_knocks 70 = .ok (.if_icmp .ne 6, 3) := by decide +kernel
theorem dX9_knocks_73 : decode cX9_knocks 73 = .ok (.goto 35, 3) := by decide +kernel
theorem dX9_knocks_76 : decode cX9_knocks 76 = .ok (.aload_n 0, 1) := by decide +kernel
theorem dX9_knocks_77 : decode cX9_knocks 77 = .ok (.iload 5, 2) := by decide +kernel
theorem dX9_knocks_79 : decode cX9_knocks 79 = .ok (.iload 6, 2) := by decide +kernel
theorem dX9_knocks_81 : decode cX9_knocks 81 = .ok (.invokevirtual 322, 3) := by decide +kernel
theorem dX9_knocks_84 : decode cX9_knocks 84 = .ok (.aload_n 0, 1) := by decide +kernel
theorem dX9_knocks_85 : decode cX9_knocks 85 = .ok (.getfield 26, 3) := by decide +kernel
theorem dX9_knocks_88 : decode cX9_knocks 88 = .ok (.iconst 4, 1) := by decide +kernel
theorem dX9_knocks_89 : decode cX9_knocks 89 = .ok (.iload 5, 2) := by decide +kernel
theorem dX9_knocks_91 : decode cX9_knocks 91 = .ok (.imul, 1) := by decide +kernel
theorem dX9_knocks_92 : decode cX9_knocks 92 = .ok (.iconst 3, 1) := by decide +kernel
theorem dX9_knocks_93 : decode cX9_knocks 93 = .ok (.iadd, 1) := by decide +kernel
theorem dX9_knocks_94 : decode cX9_knocks 94 = .ok (.dup2, 1) := by decide +kernel
theorem dX9_knocks_95 : decode cX9_knocks 95 = .ok (.iaload, 1) := by decide +kernel
theorem dX9_knocks_96 : decode cX9_knocks 96 = .ok (.iconst 1, 1) := by decide +kernel
theorem dX9_knocks_97 : decode cX9_knocks 97 = .ok (.iadd, 1) := by decide +kernel
theorem dX9_knocks_98 : decode cX9_knocks 98 = .ok (.iastore, 1) := by decide +kernel
theorem dX9_knocks_99 : decode cX9_knocks 99 = .ok (.iload 4, 2) := by decide +kernel
theorem dX9_knocks_101 : decode cX9_knocks 101 = .ok (.iconst 1, 1) := by decide +kernel
theorem dX9_knocks_102 : decode cX9_knocks 102 = .ok (.iload 5, 2) := by decide +kernel
theorem dX9_knocks_104 : decode cX9_knocks 104 = .ok (.ishl, 1) := by decide +kernel
theorem dX9_knocks_105 : decode cX9_knocks 105 = .ok (.ior, 1) := by decide +kernel
theorem dX9_knocks_106 : decode cX9_knocks 106 = .ok (.istore 4, 2) := by decide +kernel
theorem dX9_knocks_108 : decode cX9_knocks 108 = .ok (.iinc 5 1, 3) := by decide +kernel
theorem dX9_knocks_111 : decode cX9_knocks 111 = .ok (.goto (-105), 3) := by decide +kernel
theorem dX9_knocks_114 : decode cX9_knocks 114 = .ok (.iload 4, 2) := by decide +kernel
theorem dX9_knocks_116 : decode cX9_knocks 116 = .ok (.ireturn, 1) := by decide +kernel
theorem dX9_knocksNow_0 : decode cX9_knocksNow 0 = .ok (.iconst 0, 1) := by decide +kernel
theorem dX9_knocksNow_1 : decode cX9_knocksNow 1 = .ok (.istore_n 1, 1) := by decide +kernel
theorem dX9_knocksNow_2 : decode cX9_knocksNow 2 = .ok (.iload_n 1, 1) := by decide +kernel
theorem dX9_knocksNow_3 : decode cX9_knocksNow 3 = .ok (.aload_n 0, 1) := by decide +kernel
theorem dX9_knocksNow_4 : decode cX9_knocksNow 4 = .ok (.getfield 20, 3) := by decide +kernel
theorem dX9_knocksNow_7 : decode cX9_knocksNow 7 = .ok (.bipush 6, 2) := by decide +kernel
theorem dX9_knocksNow_9 : decode cX9_knocksNow 9 = .ok (.iaload, 1) := by decide +kernel
theorem dX9_knocksNow_10 : decode cX9_knocksNow 10 = .ok (.if_icmp .ge 68, 3) := by decide +kernel
theorem dX9_knocksNow_13 : decode cX9_knocksNow 13 = .ok (.bipush 100, 2) := by decide +kernel
theorem dX9_knocksNow_15 : decode cX9_knocksNow 15 = .ok (.iconst 4, 1) := by decide +kernel
theorem dX9_knocksNow_16 : decode cX9_knocksNow 16 = .ok (.iload_n 1, 1) := by decide +kernel
theorem dX9_knocksNow_17 : decode cX9_knocksNow 17 = .ok (.imul, 1) := by decide +kernel
theorem dX9_knocksNow_18 : decode cX9_knocksNow 18 = .ok (.iadd, 1) := by decide +kernel
theorem dX9_knocksNow_19 : decode cX9_knocksNow 19 = .ok (.istore_n 2, 1) := by decide +kernel
theorem dX9_knocksNow_20 : decode cX9_knocksNow 20 = .ok (.aload_n 0, 1) := by decide +kernel
theorem dX9_knocksNow_21 : decode cX9_knocksNow 21 = .ok (.getfield 20, 3) := by decide +kernel
theorem dX9_knocksNow_24 : decode cX9_knocksNow 24 = .ok (.iload_n 2, 1) := by decide +kernel
theorem dX9_knocksNow_25 : decode cX9_knocksNow 25 = .ok (.iconst 2, 1) := by decide +kernel
theorem dX9_knocksNow_26 : decode cX9_knocksNow 26 = .ok (.iadd, 1) := by decide +kernel
theorem dX9_knocksNow_27 : decode cX9_knocksNow 27 = .ok (.iaload, 1) := by decide +kernel
theorem dX9_knocksNow_28 : decode cX9_knocksNow 28 = .ok (.i2l, 1) := by decide +kernel
theorem dX9_knocksNow_29 : decode cX9_knocksNow 29 = .ok (.aload_n 0, 1) := by decide +kernel
theorem dX9_knocksNow_30 : decode cX9_knocksNow 30 = .ok (.invokevirtual 307, 3) := by decide +kernel
theorem dX9_knocksNow_33 : decode cX9_knocksNow 33 = .ok (.i2l, 1) := by decide +kernel
theorem dX9_knocksNow_34 : decode cX9_knocksNow 34 = .ok (.lmul, 1) := by decide +kernel
theorem dX9_knocksNow_35 : decode cX9_knocksNow 35 = .ok (.aload_n 0, 1) := by decide +kernel
theorem dX9_knocksNow_36 : decode cX9_knocksNow 36 = .ok (.getfield 38, 3) := by decide +kernel
theorem dX9_knocksNow_39 : decode cX9_knocksNow 39 = .ok (.iconst 0, 1) := by decide +kernel
theorem dX9_knocksNow_40 : decode cX9_knocksNow 40 = .ok (.laload, 1) := by decide +kernel
theorem dX9_knocksNow_41 : decode cX9_knocksNow 41 = .ok (.lcmp, 1) := by decide +kernel
theorem dX9_knocksNow_42 : decode cX9_knocksNow 42 = .ok (.ifCond .ne 30, 3) := by decide +kernel
theorem dX9_knocksNow_45 : decode cX9_knocksNow 45 = .ok (.aload_n 0, 1) := by decide +kernel
theorem dX9_knocksNow_46 : decode cX9_knocksNow 46 = .ok (.aload_n 0, 1) := by decide +kernel
theorem dX9_knocksNow_47 : decode cX9_knocksNow 47 = .ok (.getfield 20, 3) := by decide +kernel
theorem dX9_knocksNow_50 : decode cX9_knocksNow 50 = .ok (.iload_n 2, 1) := by decide +kernel
theorem dX9_knocksNow_51 : decode cX9_knocksNow 51 = .ok (.iaload, 1) := by decide +kernel
theorem dX9_knocksNow_52 : decode cX9_knocksNow 52 = .ok (.aload_n 0, 1) := by decide +kernel
theorem dX9_knocksNow_53 : decode cX9_knocksNow 53 = .ok (.getfield 20, 3) := by decide +kernel
theorem dX9_knocksNow_56 : decode cX9_knocksNow 56 = .ok (.iload_n 2, 1) := by decide +kernel
theorem dX9_knocksNow_57 : decode cX9_knocksNow 57 = .ok (.iconst 1, 1) := by decide +kernel
theorem dX9_knocksNow_58 : decode cX9_knocksNow 58 = .ok (.iadd, 1) := by decide +kernel
theorem dX9_knocksNow_59 : decode cX9_knocksNow 59 = .ok (.iaload, 1) := by decide +kernel
theorem dX9_knocksNow_60 : decode cX9_knocksNow 60 = .ok (.aload_n 0, 1) := by decide +kernel
theorem dX9_knocksNow_61 : decode cX9_knocksNow 61 = .ok (.getfield 20, 3) := by decide +kernel
theorem dX9_knocksNow_64 : decode cX9_knocksNow 64 = .ok (.iload_n 2, 1) := by decide +kernel
theorem dX9_knocksNow_65 : decode cX9_knocksNow 65 = .ok (.iconst 3, 1) := by decide +kernel
theorem dX9_knocksNow_66 : decode cX9_knocksNow 66 = .ok (.iadd, 1) := by decide +kernel
theorem dX9_knocksNow_67 : decode cX9_knocksNow 67 = .ok (.iaload, 1) := by decide +kernel
theorem dX9_knocksNow_68 : decode cX9_knocksNow 68 = .ok (.invokevirtual 342, 3) := by decide +kernel
theorem dX9_knocksNow_71 : decode cX9_knocksNow 71 = .ok (.pop, 1) := by decide +kernel
theorem dX9_knocksNow_72 : decode cX9_knocksNow 72 = .ok (.iinc 1 1, 3) := by decide +kernel
theorem dX9_knocksNow_75 : decode cX9_knocksNow 75 = .ok (.goto (-73), 3) := by decide +kernel
theorem dX9_knocksNow_78 : decode cX9_knocksNow 78 = .ok (.return_, 1) := by decide +kernel
theorem dX9_nextStep_0 : decode cX9_nextStep 0 = .ok (.iconst 0, 1) := by decide +kernel
theorem dX9_nextStep_1 : decode cX9_nextStep 1 = .ok (.istore_n 2, 1) := by decide +kernel
theorem dX9_nextStep_2 : decode cX9_nextStep 2 = .ok (.iconst 0, 1) := by decide +kernel
theorem dX9_nextStep_3 : decode cX9_nextStep 3 = .ok (.istore_n 3, 1) := by decide +kernel
theorem dX9_nextStep_4 : decode cX9_nextStep 4 = .ok (.iload_n 3, 1) := by decide +kernel
theorem dX9_nextStep_5 : decode cX9_nextStep 5 = .ok (.aload_n 0, 1) := by decide +kernel
theorem dX9_nextStep_6 : decode cX9_nextStep 6 = .ok (.getfield 20, 3) := by decide +kernel
theorem dX9_nextStep_9 : decode cX9_nextStep 9 = .ok (.iconst 5, 1) := by decide +kernel
theorem dX9_nextStep_10 : decode cX9_nextStep 10 = .ok (.iaload, 1) := by decide +kernel
theorem dX9_nextStep_11 : decode cX9_nextStep 11 = .ok (.if_icmp .ge 42, 3) := by decide +kernel
theorem dX9_nextStep_14 : decode cX9_nextStep 14 = .ok (.aload_n 0, 1) := by decide +kernel
theorem dX9_nextStep_15 : decode cX9_nextStep 15 = .ok (.getfield 20, 3) := by decide +kernel
theorem dX9_nextStep_18 : decode cX9_nextStep 18 = .ok (.bipush 40, 2) := by decide +kernel
theorem dX9_nextStep_20 : decode cX9_nextStep 20 = .ok (.iconst 3, 1) := by decide +kernel
theorem dX9_nextStep_21 : decode cX9_nextStep 21 = .ok (.iload_n 3, 1) := by decide +kernel
theorem dX9_nextStep_22 : decode cX9_nextStep 22 = .ok (.imul, 1) := by decide +kernel
theorem dX9_nextStep_23 : decode cX9_nextStep 23 = .ok (.iadd, 1) := by decide +kernel
theorem dX9_nextStep_24 : decode cX9_nextStep 24 = .ok (.iaload, 1) := by decide +kernel
theorem dX9_nextStep_25 : decode cX9_nextStep 25 = .ok (.iload_n 1, 1) := by decide +kernel
theorem dX9_nextStep_26 : decode cX9_nextStep 26 = .ok (.if_icmp .eq 6, 3) := by decide +kernel
theorem dX9_nextStep_29 : decode cX9_nextStep 29 = .ok (.goto 18, 3) := by decide +kernel
theorem dX9_nextStep_32 : decode cX9_nextStep 32 = .ok (.iload_n 2, 1) := by decide +kernel
theorem dX9_nextStep_33 : decode cX9_nextStep 33 = .ok (.aload_n 0, 1) := by decide +kernel
theorem dX9_nextStep_34 : decode cX9_nextStep 34 = .ok (.iload_n 1, 1) := by decide +kernel
theorem dX9_nextStep_35 : decode cX9_nextStep 35 = .ok (.iconst 2, 1) := by decide +kernel
theorem dX9_nextStep_36 : decode cX9_nextStep 36 = .ok (.invokevirtual 310, 3) := by decide +kernel
theorem dX9_nextStep_39 : decode cX9_nextStep 39 = .ok (.if_icmp .ne 5, 3) := by decide +kernel
theorem dX9_nextStep_42 : decode cX9_nextStep 42 = .ok (.iload_n 3, 1) := by decide +kernel
theorem dX9_nextStep_43 : decode cX9_nextStep 43 = .ok (.ireturn, 1) := by decide +kernel
theorem dX9_nextStep_44 : decode cX9_nextStep 44 = .ok (.iinc 2 1, 3) := by decide +kernel
theorem dX9_nextStep_47 : decode cX9_nextStep 47 = .ok (.iinc 3 1, 3) := by decide +kernel
theorem dX9_nextStep_50 : decode cX9_nextStep 50 = .ok (.goto (-46), 3) := by decide +kernel
theorem dX9_nextStep_53 : decode cX9_nextStep 53 = .ok (.iconst (-1), 1) := by decide +kernel
theorem dX9_nextStep_54 : decode cX9_nextStep 54 = .ok (.ireturn, 1) := by decide +kernel
theorem dX9_minute_0 : decode cX9_minute 0 = .ok (.aload_n 0, 1) := by decide +kernel
theorem dX9_minute_1 : decode cX9_minute 1 = .ok (.invokevirtual 307, 3) := by decide +kernel
theorem dX9_minute_4 : decode cX9_minute 4 = .ok (.aload_n 0, 1) := by decide +kernel
theorem dX9_minute_5 : decode cX9_minute 5 = .ok (.iload_n 1, 1) := by decide +kernel
theorem dX9_minute_6 : decode cX9_minute 6 = .ok (.invokevirtual 304, 3) := by decide +kernel
theorem dX9_minute_9 : decode cX9_minute 9 = .ok (.idiv, 1) := by decide +kernel
theorem dX9_minute_10 : decode cX9_minute 10 = .ok (.i2l, 1) := by decide +kernel
theorem dX9_minute_11 : decode cX9_minute 11 = .ok (.lreturn, 1) := by decide +kernel
theorem dX9_dueOf_0 : decode cX9_dueOf 0 = .ok (.aload_n 0, 1) := by decide +kernel
theorem dX9_dueOf_1 : decode cX9_dueOf 1 = .ok (.iload_n 1, 1) := by decide +kernel
theorem dX9_dueOf_2 : decode cX9_dueOf 2 = .ok (.invokevirtual 313, 3) := by decide +kernel
theorem dX9_dueOf_5 : decode cX9_dueOf 5 = .ok (.istore_n 2, 1) := by decide +kernel
theorem dX9_dueOf_6 : decode cX9_dueOf 6 = .ok (.iload_n 2, 1) := by decide +kernel
theorem dX9_dueOf_7 : decode cX9_dueOf 7 = .ok (.ifCond .ge 9, 3) := by decide +kernel
theorem dX9_dueOf_10 : decode cX9_dueOf 10 = .ok (.ldc2_w 316, 3) := by decide +kernel
theorem dX9_dueOf_13 : decode cX9_dueOf 13 = .ok (.goto 37, 3) := by decide +kernel
theorem dX9_dueOf_16 : decode cX9_dueOf 16 = .ok (.aload_n 0, 1) := by decide +kernel
theorem dX9_dueOf_17 : decode cX9_dueOf 17 = .ok (.getfield 38, 3) := by decide +kernel
theorem dX9_dueOf_20 : decode cX9_dueOf 20 = .ok (.iconst 1, 1) := by decide +kernel
theorem dX9_dueOf_21 : decode cX9_dueOf 21 = .ok (.iload_n 1, 1) := by decide +kernel
theorem dX9_dueOf_22 : decode cX9_dueOf 22 = .ok (.iadd, 1) := by decide +kernel
theorem dX9_dueOf_23 : decode cX9_dueOf 23 = .ok (.laload, 1) := by decide +kernel
theorem dX9_dueOf_24 : decode cX9_dueOf 24 = .ok (.aload_n 0, 1) := by decide +kernel
theorem dX9_dueOf_25 : decode cX9_dueOf 25 = .ok (.getfield 20, 3) := by decide +kernel
theorem dX9_dueOf_28 : decode cX9_dueOf 28 = .ok (.bipush 40, 2) := by decide +kernel
theorem dX9_dueOf_30 : decode cX9_dueOf 30 = .ok (.iconst 3, 1) := by decide +kernel
theorem dX9_dueOf_31 : decode cX9_dueOf 31 = .ok (.iload_n 2, 1) := by decide +kernel
theorem dX9_dueOf_32 : decode cX9_dueOf 32 = .ok (.imul, 1) := by decide +kernel
theorem dX9_dueOf_33 : decode cX9_dueOf 33 = .ok (.iadd, 1) := by decide +kernel
theorem dX9_dueOf_34 : decode cX9_dueOf 34 = .ok (.iconst 2, 1) := by decide +kernel
theorem dX9_dueOf_35 : decode cX9_dueOf 35 = .ok (.iadd, 1) := by decide +kernel
theorem dX9_dueOf_36 : decode cX9_dueOf 36 = .ok (.iaload, 1) := by decide +kernel
theorem dX9_dueOf_37 : decode cX9_dueOf 37 = .ok (.i2l, 1) := by decide +kernel
theorem dX9_dueOf_38 : decode cX9_dueOf 38 = .ok (.aload_n 0, 1) := by decide +kernel
theorem dX9_dueOf_39 : decode cX9_dueOf 39 = .ok (.aload_n 0, 1) := by decide +kernel
theorem dX9_dueOf_40 : decode cX9_dueOf 40 = .ok (.iload_n 1, 1) := by decide +kernel
theorem dX9_dueOf_41 : decode cX9_dueOf 41 = .ok (.iconst 0, 1) := by decide +kernel
theorem dX9_dueOf_42 : decode cX9_dueOf 42 = .ok (.invokevirtual 310, 3) := by decide +kernel
theorem dX9_dueOf_45 : decode cX9_dueOf 45 = .ok (.invokevirtual 318, 3) := by decide +kernel
theorem dX9_dueOf_48 : decode cX9_dueOf 48 = .ok (.lmul, 1) := by decide +kernel
theorem dX9_dueOf_49 : decode cX9_dueOf 49 = .ok (.ladd, 1) := by decide +kernel
theorem dX9_dueOf_50 : decode cX9_dueOf 50 = .ok (.lreturn, 1) := by decide +kernel
theorem dX9_steps_0 : decode cX9_steps 0 = .ok (.aload_n 0, 1) := by decide +kernel
theorem dX9_steps_1 : decode cX9_steps 1 = .ok (.iload_n 1, 1) := by decide +kernel
theorem dX9_steps_2 : decode cX9_steps 2 = .ok (.invokevirtual 313, 3) := by decide +kernel
theorem dX9_steps_5 : decode cX9_steps 5 = .ok (.istore_n 2, 1) := by decide +kernel
theorem dX9_steps_6 : decode cX9_steps 6 = .ok (.aload_n 0, 1) := by decide +kernel
theorem dX9_steps_7 : decode cX9_steps 7 = .ok (.iload_n 1, 1) := by decide +kernel
theorem dX9_steps_8 : decode cX9_steps 8 = .ok (.iconst 0, 1) := by decide +kernel
theorem dX9_steps_9 : decode cX9_steps 9 = .ok (.invokevirtual 310, 3) := by decide +kernel
theorem dX9_steps_12 : decode cX9_steps 12 = .ok (.istore_n 3, 1) := by decide +kernel
theorem dX9_steps_13 : decode cX9_steps 13 = .ok (.aload_n 0, 1) := by decide +kernel
theorem dX9_steps_14 : decode cX9_steps 14 = .ok (.getfield 20, 3) := by decide +kernel
theorem dX9_steps_17 : decode cX9_steps 17 = .ok (.bipush 40, 2) := by decide +kernel
theorem dX9_steps_19 : decode cX9_steps 19 = .ok (.iconst 3, 1) := by decide +kernel
theorem dX9_steps_20 : decode cX9_steps 20 = .ok (.iload_n 2, 1) := by decide +kernel
theorem dX9_steps_21 : decode cX9_steps 21 = .ok (.imul, 1) := by decide +kernel
theorem dX9_steps_22 : decode cX9_steps 22 = .ok (.iadd, 1) := by decide +kernel
theorem dX9_steps_23 : decode cX9_steps 23 = .ok (.iconst 1, 1) := by decide +kernel
theorem dX9_steps_24 : decode cX9_steps 24 = .ok (.iadd, 1) := by decide +kernel
theorem dX9_steps_25 : decode cX9_steps 25 = .ok (.iaload, 1) := by decide +kernel
theorem dX9_steps_26 : decode cX9_steps 26 = .ok (.istore 4, 2) := by decide +kernel
theorem dX9_steps_28 : decode cX9_steps 28 = .ok (.aload_n 0, 1) := by decide +kernel
theorem dX9_steps_29 : decode cX9_steps 29 = .ok (.getfield 26, 3) := by decide +kernel
theorem dX9_steps_32 : decode cX9_steps 32 = .ok (.iconst 4, 1) := by decide +kernel
theorem dX9_steps_33 : decode cX9_steps 33 = .ok (.iload_n 1, 1) := by decide +kernel
theorem dX9_steps_34 : decode cX9_steps 34 = .ok (.imul, 1) := by decide +kernel
theorem dX9_steps_35 : decode cX9_steps 35 = .ok (.iconst 2, 1) := by decide +kernel
theorem dX9_steps_36 : decode cX9_steps 36 = .ok (.iadd, 1) := by decide +kernel
theorem dX9_steps_37 : decode cX9_steps 37 = .ok (.dup2, 1) := by decide +kernel
theorem dX9_steps_38 : decode cX9_steps 38 = .ok (.iaload, 1) := by decide +kernel
theorem dX9_steps_39 : decode cX9_steps 39 = .ok (.iconst 1, 1) := by decide +kernel
theorem dX9_steps_40 : decode cX9_steps 40 = .ok (.iadd, 1) := by decide +kernel
theorem dX9_steps_41 : decode cX9_steps 41 = .ok (.iastore, 1) := by decide +kernel
theorem dX9_steps_42 : decode cX9_steps 42 = .ok (.iload 4, 2) := by decide +kernel
theorem dX9_steps_44 : decode cX9_steps 44 = .ok (.ifCond .ne 20, 3) := by decide +kernel
theorem dX9_steps_47 : decode cX9_steps 47 = .ok (.aload_n 0, 1) := by decide +kernel
theorem dX9_steps_48 : decode cX9_steps 48 = .ok (.iload_n 1, 1) := by decide +kernel
theorem dX9_steps_49 : decode cX9_steps 49 = .ok (.iload_n 3, 1) := by decide +kernel
theorem dX9_steps_50 : decode cX9_steps 50 = .ok (.ifCond .ne 7, 3) := by decide +kernel
theorem dX9_steps_53 : decode cX9_steps 53 = .ok (.iconst 0, 1) := by decide +kernel
theorem dX9_steps_54 : decode cX9_steps 54 = .ok (.goto 6, 3) := by decide +kernel
theorem dX9_steps_57 : decode cX9_steps 57 = .ok (.iload_n 3, 1) := by decide +kernel
theorem dX9_steps_58 : decode cX9_steps 58 = .ok (.iconst 1, 1) := by decide +kernel
theorem dX9_steps_59 : decode cX9_steps 59 = .ok (.isub, 1) := by decide +kernel
theorem dX9_steps_60 : decode cX9_steps 60 = .ok (.invokevirtual 322, 3) := by decide +kernel
theorem dX9_steps_63 : decode cX9_steps 63 = .ok (.return_, 1) := by decide +kernel
theorem dX9_steps_64 : decode cX9_steps 64 = .ok (.iload_n 3, 1) := by decide +kernel
theorem dX9_steps_65 : decode cX9_steps 65 = .ok (.ifCond .ne 15, 3) := by decide +kernel
theorem dX9_steps_68 : decode cX9_steps 68 = .ok (.aload_n 0, 1) := by decide +kernel
theorem dX9_steps_69 : decode cX9_steps 69 = .ok (.getfield 26, 3) := by decide +kernel
theorem dX9_steps_72 : decode cX9_steps 72 = .ok (.iconst 4, 1) := by decide +kernel
theorem dX9_steps_73 : decode cX9_steps 73 = .ok (.iload_n 1, 1) := by decide +kernel
theorem dX9_steps_74 : decode cX9_steps 74 = .ok (.imul, 1) := by decide +kernel
theorem dX9_steps_75 : decode cX9_steps 75 = .ok (.iconst 1, 1) := by decide +kernel
theorem dX9_steps_76 : decode cX9_steps 76 = .ok (.iadd, 1) := by decide +kernel
theorem dX9_steps_77 : decode cX9_steps 77 = .ok (.iload 4, 2) := by decide +kernel
theorem dX9_steps_79 : decode cX9_steps 79 = .ok (.iastore, 1) := by decide +kernel
theorem dX9_steps_80 : decode cX9_steps 80 = .ok (.aload_n 0, 1) := by decide +kernel
theorem dX9_steps_81 : decode cX9_steps 81 = .ok (.iload_n 1, 1) := by decide +kernel
theorem dX9_steps_82 : decode cX9_steps 82 = .ok (.iload_n 3, 1) := by decide +kernel
theorem dX9_steps_83 : decode cX9_steps 83 = .ok (.aload_n 0, 1) := by decide +kernel
theorem dX9_steps_84 : decode cX9_steps 84 = .ok (.getfield 20, 3) := by decide +kernel
theorem dX9_steps_87 : decode cX9_steps 87 = .ok (.iconst 0, 1) := by decide +kernel
theorem dX9_steps_88 : decode cX9_steps 88 = .ok (.iaload, 1) := by decide +kernel
theorem dX9_steps_89 : decode cX9_steps 89 = .ok (.if_icmp .ge 9, 3) := by decide +kernel
theorem dX9_steps_92 : decode cX9_steps 92 = .ok (.iload_n 3, 1) := by decide +kernel
theorem dX9_steps_93 : decode cX9_steps 93 = .ok (.iconst 1, 1) := by decide +kernel
theorem dX9_steps_94 : decode cX9_steps 94 = .ok (.iadd, 1) := by decide +kernel
theorem dX9_steps_95 : decode cX9_steps 95 = .ok (.goto 4, 3) := by decide +kernel
theorem dX9_steps_98 : decode cX9_steps 98 = .ok (.iload_n 3, 1) := by decide +kernel
theorem dX9_steps_99 : decode cX9_steps 99 = .ok (.invokevirtual 322, 3) := by decide +kernel
theorem dX9_steps_102 : decode cX9_steps 102 = .ok (.return_, 1) := by decide +kernel
theorem dX9_stepsNow_0 : decode cX9_stepsNow 0 = .ok (.iconst 0, 1) := by decide +kernel
theorem dX9_stepsNow_1 : decode cX9_stepsNow 1 = .ok (.istore_n 1, 1) := by decide +kernel
theorem dX9_stepsNow_2 : decode cX9_stepsNow 2 = .ok (.iload_n 1, 1) := by decide +kernel
theorem dX9_stepsNow_3 : decode cX9_stepsNow 3 = .ok (.aload_n 0, 1) := by decide +kernel
theorem dX9_stepsNow_4 : decode cX9_stepsNow 4 = .ok (.getfield 20, 3) := by decide +kernel
theorem dX9_stepsNow_7 : decode cX9_stepsNow 7 = .ok (.iconst 4, 1) := by decide +kernel
theorem dX9_stepsNow_8 : decode cX9_stepsNow 8 = .ok (.iaload, 1) := by decide +kernel
theorem dX9_stepsNow_9 : decode cX9_stepsNow 9 = .ok (.if_icmp .ge 42, 3) := by decide +kernel
theorem dX9_stepsNow_12 : decode cX9_stepsNow 12 = .ok (.aload_n 0, 1) := by decide +kernel
theorem dX9_stepsNow_13 : decode cX9_stepsNow 13 = .ok (.iload_n 1, 1) := by decide +kernel
theorem dX9_stepsNow_14 : decode cX9_stepsNow 14 = .ok (.invokevirtual 325, 3) := by decide +kernel
theorem dX9_stepsNow_17 : decode cX9_stepsNow 17 = .ok (.lconst 0, 1) := by decide +kernel
theorem dX9_stepsNow_18 : decode cX9_stepsNow 18 = .ok (.lcmp, 1) := by decide +kernel
theorem dX9_stepsNow_19 : decode cX9_stepsNow 19 = .ok (.ifCond .lt 26, 3) := by decide +kernel
theorem dX9_stepsNow_22 : decode cX9_stepsNow 22 = .ok (.aload_n 0, 1) := by decide +kernel
theorem dX9_stepsNow_23 : decode cX9_stepsNow 23 = .ok (.iload_n 1, 1) := by decide +kernel
theorem dX9_stepsNow_24 : decode cX9_stepsNow 24 = .ok (.invokevirtual 325, 3) := by decide +kernel
theorem dX9_stepsNow_27 : decode cX9_stepsNow 27 = .ok (.aload_n 0, 1) := by decide +kernel
theorem dX9_stepsNow_28 : decode cX9_stepsNow 28 = .ok (.getfield 38, 3) := by decide +kernel
theorem dX9_stepsNow_31 : decode cX9_stepsNow 31 = .ok (.iconst 0, 1) := by decide +kernel
theorem dX9_stepsNow_32 : decode cX9_stepsNow 32 = .ok (.laload, 1) := by decide +kernel
theorem dX9_stepsNow_33 : decode cX9_stepsNow 33 = .ok (.lcmp, 1) := by decide +kernel
theorem dX9_stepsNow_34 : decode cX9_stepsNow 34 = .ok (.ifCond .gt 11, 3) := by decide +kernel
theorem dX9_stepsNow_37 : decode cX9_stepsNow 37 = .ok (.aload_n 0, 1) := by decide +kernel
theorem dX9_stepsNow_38 : decode cX9_stepsNow 38 = .ok (.iload_n 1, 1) := by decide +kernel
theorem dX9_stepsNow_39 : decode cX9_stepsNow 39 = .ok (.invokevirtual 328, 3) := by decide +kernel
theorem dX9_stepsNow_42 : decode cX9_stepsNow 42 = .ok (.goto (-30), 3) := by decide +kernel
theorem dX9_stepsNow_45 : decode cX9_stepsNow 45 = .ok (.iinc 1 1, 3) := by decide +kernel
theorem dX9_stepsNow_48 : decode cX9_stepsNow 48 = .ok (.goto (-46), 3) := by decide +kernel
theorem dX9_stepsNow_51 : decode cX9_stepsNow 51 = .ok (.return_, 1) := by decide +kernel
theorem dX9_dream_0 : decode cX9_dream 0 = .ok (.aload_n 0, 1) := by decide +kernel
theorem dX9_dream_1 : decode cX9_dream 1 = .ok (.invokevirtual 191, 3) := by decide +kernel
theorem dX9_dream_4 : decode cX9_dream 4 = .ok (.iload_n 1, 1) := by decide +kernel
theorem dX9_dream_5 : decode cX9_dream 5 = .ok (.iconst 0, 1) := by decide +kernel
theorem dX9_dream_6 : decode cX9_dream 6 = .ok (.aload_n 0, 1) := by decide +kernel
theorem dX9_dream_7 : decode cX9_dream 7 = .ok (.getfield 78, 3) := by decide +kernel
theorem dX9_dream_10 : decode cX9_dream 10 = .ok (.invokestatic 170, 3) := by decide +kernel
theorem dX9_dream_13 : decode cX9_dream 13 = .ok (.ifCond .ne 9, 3) := by decide +kernel
theorem dX9_dream_16 : decode cX9_dream 16 = .ok (.aload_n 0, 1) := by decide +kernel
theorem dX9_dream_17 : decode cX9_dream 17 = .ok (.iconst 2, 1) := by decide +kernel
theorem dX9_dream_18 : decode cX9_dream 18 = .ok (.invokevirtual 194, 3) := by decide +kernel
theorem dX9_dream_21 : decode cX9_dream 21 = .ok (.ireturn, 1) := by decide +kernel
theorem dX9_dream_22 : decode cX9_dream 22 = .ok (.aload_n 0, 1) := by decide +kernel
theorem dX9_dream_23 : decode cX9_dream 23 = .ok (.iconst 0, 1) := by decide +kernel
theorem dX9_dream_24 : decode cX9_dream 24 = .ok (.putfield 78, 3) := by decide +kernel
theorem dX9_dream_27 : decode cX9_dream 27 = .ok (.aload_n 0, 1) := by decide +kernel
theorem dX9_dream_28 : decode cX9_dream 28 = .ok (.iconst 0, 1) := by decide +kernel
theorem dX9_dream_29 : decode cX9_dream 29 = .ok (.putfield 114, 3) := by decide +kernel
theorem dX9_dream_32 : decode cX9_dream 32 = .ok (.aload_n 0, 1) := by decide +kernel
theorem dX9_dream_33 : decode cX9_dream 33 = .ok (.iconst 0, 1) := by decide +kernel
theorem dX9_dream_34 : decode cX9_dream 34 = .ok (.putfield 110, 3) := by decide +kernel
theorem dX9_dream_37 : decode cX9_dream 37 = .ok (.iconst 0, 1) := by decide +kernel
theorem dX9_dream_38 : decode cX9_dream 38 = .ok (.istore_n 2, 1) := by decide +kernel
theorem dX9_dream_39 : decode cX9_dream 39 = .ok (.iload_n 2, 1) := by decide +kernel
theorem dX9_dream_40 : decode cX9_dream 40 = .ok (.sipush 316, 3) := by decide +kernel
theorem dX9_dream_43 : decode cX9_dream 43 = .ok (.if_icmp .ge 16, 3) := by decide +kernel
theorem dX9_dream_46 : decode cX9_dream 46 = .ok (.aload_n 0, 1) := by decide +kernel
theorem dX9_dream_47 : decode cX9_dream 47 = .ok (.getfield 23, 3) := by decide +kernel
theorem dX9_dream_50 : decode cX9_dream 50 = .ok (.iload_n 2, 1) := by decide +kernel
theorem dX9_dream_51 : decode cX9_dream 51 = .ok (.iconst 0, 1) := by decide +kernel
theorem dX9_dream_52 : decode cX9_dream 52 = .ok (.iastore, 1) := by decide +kernel
theorem dX9_dream_53 : decode cX9_dream 53 = .ok (.iinc 2 1, 3) := by decide +kernel
theorem dX9_dream_56 : decode cX9_dream 56 = .ok (.goto (-17), 3) := by decide +kernel
theorem dX9_dream_59 : decode cX9_dream 59 = .ok (.aload_n 0, 1) := by decide +kernel
theorem dX9_dream_60 : decode cX9_dream 60 = .ok (.iload_n 1, 1) := by decide +kernel
theorem dX9_dream_61 : decode cX9_dream 61 = .ok (.putfield 81, 3) := by decide +kernel
theorem dX9_dream_64 : decode cX9_dream 64 = .ok (.aload_n 0, 1) := by decide +kernel
theorem dX9_dream_65 : decode cX9_dream 65 = .ok (.iconst 0, 1) := by decide +kernel
theorem dX9_dream_66 : decode cX9_dream 66 = .ok (.putfield 84, 3) := by decide +kernel
theorem dX9_dream_69 : decode cX9_dream 69 = .ok (.aload_n 0, 1) := by decide +kernel
theorem dX9_dream_70 : decode cX9_dream 70 = .ok (.invokevirtual 131, 3) := by decide +kernel
theorem dX9_dream_73 : decode cX9_dream 73 = .ok (.aload_n 0, 1) := by decide +kernel
theorem dX9_dream_74 : decode cX9_dream 74 = .ok (.invokevirtual 197, 3) := by decide +kernel
theorem dX9_dream_77 : decode cX9_dream 77 = .ok (.aload_n 0, 1) := by decide +kernel
theorem dX9_dream_78 : decode cX9_dream 78 = .ok (.getfield 110, 3) := by decide +kernel
theorem dX9_dream_81 : decode cX9_dream 81 = .ok (.ifCond .ne 23, 3) := by decide +kernel
theorem dX9_dream_84 : decode cX9_dream 84 = .ok (.aload_n 0, 1) := by decide +kernel
theorem dX9_dream_85 : decode cX9_dream 85 = .ok (.getfield 100, 3) := by decide +kernel
theorem dX9_dream_88 : decode cX9_dream 88 = .ok (.bipush 59, 2) := by decide +kernel
theorem dX9_dream_90 : decode cX9_dream 90 = .ok (.if_icmp .ne 14, 3) := by decide +kernel
theorem dX9_dream_93 : decode cX9_dream 93 = .ok (.aload_n 0, 1) := by decide +kernel
theorem dX9_dream_94 : decode cX9_dream 94 = .ok (.invokevirtual 131, 3) := by decide +kernel
theorem dX9_dream_97 : decode cX9_dream 97 = .ok (.aload_n 0, 1) := by decide +kernel
theorem dX9_dream_98 : decode cX9_dream 98 = .ok (.invokevirtual 197, 3) := by decide +kernel
theorem dX9_dream_101 : decode cX9_dream 101 = .ok (.goto (-24), 3) := by decide +kernel
theorem dX9_dream_104 : decode cX9_dream 104 = .ok (.aload_n 0, 1) := by decide +kernel
theorem dX9_dream_105 : decode cX9_dream 105 = .ok (.getfield 110, 3) := by decide +kernel
theorem dX9_dream_108 : decode cX9_dream 108 = .ok (.ifCond .ne 19, 3) := by decide +kernel
theorem dX9_dream_111 : decode cX9_dream 111 = .ok (.aload_n 0, 1) := by decide +kernel
theorem dX9_dream_112 : decode cX9_dream 112 = .ok (.getfield 100, 3) := by decide +kernel
theorem dX9_dream_115 : decode cX9_dream 115 = .ok (.ifCond .eq 12, 3) := by decide +kernel
theorem dX9_dream_118 : decode cX9_dream 118 = .ok (.aload_n 0, 1) := by decide +kernel
theorem dX9_dream_119 : decode cX9_dream 119 = .ok (.iconst 1, 1) := by decide +kernel
theorem dX9_dream_120 : decode cX9_dream 120 = .ok (.aload_n 0, 1) := by decide +kernel
theorem dX9_dream_121 : decode cX9_dream 121 = .ok (.getfield 91, 3) := by decide +kernel
theorem dX9_dream_124 : decode cX9_dream 124 = .ok (.invokevirtual 137, 3) := by decide +kernel
theorem dX9_dream_127 : decode cX9_dream 127 = .ok (.aload_n 0, 1) := by decide +kernel
theorem dX9_dream_128 : decode cX9_dream 128 = .ok (.getfield 110, 3) := by decide +kernel
theorem dX9_dream_131 : decode cX9_dream 131 = .ok (.ifCond .ne 40, 3) := by decide +kernel
theorem dX9_dream_134 : decode cX9_dream 134 = .ok (.aload_n 0, 1) := by decide +kernel
theorem dX9_dream_135 : decode cX9_dream 135 = .ok (.getfield 23, 3) := by decide +kernel
theorem dX9_dream_138 : decode cX9_dream 138 = .ok (.iconst 2, 1) := by decide +kernel
theorem dX9_dream_139 : decode cX9_dream 139 = .ok (.iaload, 1) := by decide +kernel
theorem dX9_dream_140 : decode cX9_dream 140 = .ok (.ifCond .eq 21, 3) := by decide +kernel
theorem dX9_dream_143 : decode cX9_dream 143 = .ok (.aload_n 0, 1) := by decide +kernel
theorem dX9_dream_144 : decode cX9_dream 144 = .ok (.getfield 23, 3) := by decide +kernel
theorem dX9_dream_147 : decode cX9_dream 147 = .ok (.iconst 3, 1) := by decide +kernel
theorem dX9_dream_148 : decode cX9_dream 148 = .ok (.iaload, 1) := by decide +kernel
theorem dX9_dream_149 : decode cX9_dream 149 = .ok (.ifCond .eq 12, 3) := by decide +kernel
theorem dX9_dream_152 : decode cX9_dream 152 = .ok (.aload_n 0, 1) := by decide +kernel
theorem dX9_dream_153 : decode cX9_dream 153 = .ok (.getfield 23, 3) := by decide +kernel
theorem dX9_dream_156 : decode cX9_dream 156 = .ok (.iconst 4, 1) := by decide +kernel
theorem dX9_dream_157 : decode cX9_dream 157 = .ok (.iaload, 1) := by decide +kernel
theorem dX9_dream_158 : decode cX9_dream 158 = .ok (.ifCond .ne 13, 3) := by decide +kernel
theorem dX9_dream_161 : decode cX9_dream 161 = .ok (.aload_n 0, 1) := by decide +kernel
theorem dX9_dream_162 : decode cX9_dream 162 = .ok (.bipush 6, 2) := by decide +kernel
theorem dX9_dream_164 : decode cX9_dream 164 = .ok (.aload_n 0, 1) := by decide +kernel
theorem dX9_dream_165 : decode cX9_dream 165 = .ok (.getfield 91, 3) := by decide +kernel
theorem dX9_dream_168 : decode cX9_dream 168 = .ok (.invokevirtual 137, 3) := by decide +kernel
theorem dX9_dream_171 : decode cX9_dream 171 = .ok (.aload_n 0, 1) := by decide +kernel
theorem dX9_dream_172 : decode cX9_dream 172 = .ok (.getfield 110, 3) := by decide +kernel
theorem dX9_dream_175 : decode cX9_dream 175 = .ok (.ifCond .eq 9, 3) := by decide +kernel
theorem dX9_dream_178 : decode cX9_dream 178 = .ok (.aload_n 0, 1) := by decide +kernel
theorem dX9_dream_179 : decode cX9_dream 179 = .ok (.iconst 4, 1) := by decide +kernel
theorem dX9_dream_180 : decode cX9_dream 180 = .ok (.invokevirtual 194, 3) := by decide +kernel
theorem dX9_dream_183 : decode cX9_dream 183 = .ok (.ireturn, 1) := by decide +kernel
theorem dX9_dream_184 : decode cX9_dream 184 = .ok (.aload_n 0, 1) := by decide +kernel
theorem dX9_dream_185 : decode cX9_dream 185 = .ok (.getfield 23, 3) := by decide +kernel
theorem dX9_dream_188 : decode cX9_dream 188 = .ok (.iconst 0, 1) := by decide +kernel
theorem dX9_dream_189 : decode cX9_dream 189 = .ok (.aload_n 0, 1) := by decide +kernel
theorem dX9_dream_190 : decode cX9_dream 190 = .ok (.getfield 20, 3) := by decide +kernel
theorem dX9_dream_193 : decode cX9_dream 193 = .ok (.iconst 0, 1) := by decide +kernel
theorem dX9_dream_194 : decode cX9_dream 194 = .ok (.sipush 316, 3) := by decide +kernel
theorem dX9_dream_197 : decode cX9_dream 197 = .ok (.invokestatic 200, 3) := by decide +kernel
theorem dX9_dream_200 : decode cX9_dream 200 = .ok (.iconst 0, 1) := by decide +kernel
theorem dX9_dream_201 : decode cX9_dream 201 = .ok (.istore_n 2, 1) := by decide +kernel
theorem dX9_dream_202 : decode cX9_dream 202 = .ok (.iload_n 2, 1) := by decide +kernel
theorem dX9_dream_203 : decode cX9_dream 203 = .ok (.bipush 20, 2) := by decide +kernel
theorem dX9_dream_205 : decode cX9_dream 205 = .ok (.if_icmp .ge 16, 3) := by decide +kernel
theorem dX9_dream_208 : decode cX9_dream 208 = .ok (.aload_n 0, 1) := by decide +kernel
theorem dX9_dream_209 : decode cX9_dream 209 = .ok (.getfield 26, 3) := by decide +kernel
theorem dX9_dream_212 : decode cX9_dream 212 = .ok (.iload_n 2, 1) := by decide +kernel
theorem dX9_dream_213 : decode cX9_dream 213 = .ok (.iconst 0, 1) := by decide +kernel
theorem dX9_dream_214 : decode cX9_dream 214 = .ok (.iastore, 1) := by decide +kernel
theorem dX9_dream_215 : decode cX9_dream 215 = .ok (.iinc 2 1, 3) := by decide +kernel
theorem dX9_dream_218 : decode cX9_dream 218 = .ok (.goto (-16), 3) := by decide +kernel
theorem dX9_dream_221 : decode cX9_dream 221 = .ok (.iconst 0, 1) := by decide +kernel
theorem dX9_dream_222 : decode cX9_dream 222 = .ok (.istore_n 2, 1) := by decide +kernel
theorem dX9_dream_223 : decode cX9_dream 223 = .ok (.iload_n 2, 1) := by decide +kernel
theorem dX9_dream_224 : decode cX9_dream 224 = .ok (.bipush 31, 2) := by decide +kernel
theorem dX9_dream_226 : decode cX9_dream 226 = .ok (.if_icmp .ge 16, 3) := by decide +kernel
theorem dX9_dream_229 : decode cX9_dream 229 = .ok (.aload_n 0, 1) := by decide +kernel
theorem dX9_dream_230 : decode cX9_dream 230 = .ok (.getfield 38, 3) := by decide +kernel
theorem dX9_dream_233 : decode cX9_dream 233 = .ok (.iload_n 2, 1) := by decide +kernel
theorem dX9_dream_234 : decode cX9_dream 234 = .ok (.lconst 0, 1) := by decide +kernel
theorem dX9_dream_235 : decode cX9_dream 235 = .ok (.lastore, 1) := by decide +kernel
theorem dX9_dream_236 : decode cX9_dream 236 = .ok (.iinc 2 1, 3) := by decide +kernel
theorem dX9_dream_239 : decode cX9_dream 239 = .ok (.goto (-16), 3) := by decide +kernel
theorem dX9_dream_242 : decode cX9_dream 242 = .ok (.aload_n 0, 1) := by decide +kernel
theorem dX9_dream_243 : decode cX9_dream 243 = .ok (.iconst 1, 1) := by decide +kernel
theorem dX9_dream_244 : decode cX9_dream 244 = .ok (.putfield 204, 3) := by decide +kernel
theorem dX9_dream_247 : decode cX9_dream 247 = .ok (.aload_n 0, 1) := by decide +kernel
theorem dX9_dream_248 : decode cX9_dream 248 = .ok (.iconst 0, 1) := by decide +kernel
theorem dX9_dream_249 : decode cX9_dream 249 = .ok (.putfield 207, 3) := by decide +kernel
theorem dX9_dream_252 : decode cX9_dream 252 = .ok (.aload_n 0, 1) := by decide +kernel
theorem dX9_dream_253 : decode cX9_dream 253 = .ok (.iconst 0, 1) := by decide +kernel
theorem dX9_dream_254 : decode cX9_dream 254 = .ok (.putfield 210, 3) := by decide +kernel
theorem dX9_dream_257 : decode cX9_dream 257 = .ok (.aload_n 0, 1) := by decide +kernel
theorem dX9_dream_258 : decode cX9_dream 258 = .ok (.invokevirtual 213, 3) := by decide +kernel
theorem dX9_dream_261 : decode cX9_dream 261 = .ok (.aload_n 0, 1) := by decide +kernel
theorem dX9_dream_262 : decode cX9_dream 262 = .ok (.invokevirtual 216, 3) := by decide +kernel
theorem dX9_dream_265 : decode cX9_dream 265 = .ok (.aload_n 0, 1) := by decide +kernel
theorem dX9_dream_266 : decode cX9_dream 266 = .ok (.getfield 20, 3) := by decide +kernel
theorem dX9_dream_269 : decode cX9_dream 269 = .ok (.iconst 4, 1) := by decide +kernel
theorem dX9_dream_270 : decode cX9_dream 270 = .ok (.iaload, 1) := by decide +kernel
theorem dX9_dream_271 : decode cX9_dream 271 = .ok (.ireturn, 1) := by decide +kernel
theorem dX9_fault_0 : decode cX9_fault 0 = .ok (.aload_n 0, 1) := by decide +kernel
theorem dX9_fault_1 : decode cX9_fault 1 = .ok (.iconst 0, 1) := by decide +kernel
theorem dX9_fault_2 : decode cX9_fault 2 = .ok (.putfield 72, 3) := by decide +kernel
theorem dX9_fault_5 : decode cX9_fault 5 = .ok (.aload_n 0, 1) := by decide +kernel
theorem dX9_fault_6 : decode cX9_fault 6 = .ok (.getfield 114, 3) := by decide +kernel
theorem dX9_fault_9 : decode cX9_fault 9 = .ok (.ireturn, 1) := by decide +kernel
theorem dX9_where_0 : decode cX9_where 0 = .ok (.aload_n 0, 1) := by decide +kernel
theorem dX9_where_1 : decode cX9_where 1 = .ok (.iconst 0, 1) := by decide +kernel
theorem dX9_where_2 : decode cX9_where 2 = .ok (.putfield 72, 3) := by decide +kernel
theorem dX9_where_5 : decode cX9_where 5 = .ok (.aload_n 0, 1) := by decide +kernel
theorem dX9_where_6 : decode cX9_where 6 = .ok (.getfield 75, 3) := by decide +kernel
theorem dX9_where_9 : decode cX9_where 9 = .ok (.iconst 4, 1) := by decide +kernel
theorem dX9_where_10 : decode cX9_where 10 = .ok (.if_icmp .ne 10, 3) := by decide +kernel
theorem dX9_where_13 : decode cX9_where 13 = .ok (.aload_n 0, 1) := by decide +kernel
theorem dX9_where_14 : decode cX9_where 14 = .ok (.getfield 13, 3) := by decide +kernel
theorem dX9_where_17 : decode cX9_where 17 = .ok (.goto 4, 3) := by decide +kernel
theorem dX9_where_20 : decode cX9_where 20 = .ok (.iconst (-1), 1) := by decide +kernel
theorem dX9_where_21 : decode cX9_where 21 = .ok (.ireturn, 1) := by decide +kernel
theorem dX9_isFloor_0 : decode cX9_isFloor 0 = .ok (.aload_n 0, 1) := by decide +kernel
theorem dX9_isFloor_1 : decode cX9_isFloor 1 = .ok (.getfield 204, 3) := by decide +kernel
theorem dX9_isFloor_4 : decode cX9_isFloor 4 = .ok (.ifCond .eq 21, 3) := by decide +kernel
theorem dX9_isFloor_7 : decode cX9_isFloor 7 = .ok (.iload_n 1, 1) := by decide +kernel
theorem dX9_isFloor_8 : decode cX9_isFloor 8 = .ok (.iconst 0, 1) := by decide +kernel
theorem dX9_isFloor_9 : decode cX9_isFloor 9 = .ok (.aload_n 0, 1) := by decide +kernel
theorem dX9_isFloor_10 : decode cX9_isFloor 10 = .ok (.getfield 20, 3) := by decide +kernel
theorem dX9_isFloor_13 : decode cX9_isFloor 13 = .ok (.iconst 0, 1) := by decide +kernel
theorem dX9_isFloor_14 : decode cX9_isFloor 14 = .ok (.iaload, 1) := by decide +kernel
theorem dX9_isFloor_15 : decode cX9_isFloor 15 = .ok (.invokestatic 170, 3) := by decide +kernel
theorem dX9_isFloor_18 : decode cX9_isFloor 18 = .ok (.ifCond .eq 7, 3) := by decide +kernel
theorem dX9_isFloor_21 : decode cX9_isFloor 21 = .ok (.iconst 1, 1) := by decide +kernel
theorem dX9_isFloor_22 : decode cX9_isFloor 22 = .ok (.goto 4, 3) := by decide +kernel
theorem dX9_isFloor_25 : decode cX9_isFloor 25 = .ok (.iconst 0, 1) := by decide +kernel
theorem dX9_isFloor_26 : decode cX9_isFloor 26 = .ok (.ireturn, 1) := by decide +kernel
theorem dX9_isSleeper_0 : decode cX9_isSleeper 0 = .ok (.aload_n 0, 1) := by decide +kernel
theorem dX9_isSleeper_1 : decode cX9_isSleeper 1 = .ok (.getfield 204, 3) := by decide +kernel
theorem dX9_isSleeper_4 : decode cX9_isSleeper 4 = .ok (.ifCond .eq 23, 3) := by decide +kernel
theorem dX9_isSleeper_7 : decode cX9_isSleeper 7 = .ok (.iload_n 1, 1) := by decide +kernel
theorem dX9_isSleeper_8 : decode cX9_isSleeper 8 = .ok (.iconst 0, 1) := by decide +kernel
theorem dX9_isSleeper_9 : decode cX9_isSleeper 9 = .ok (.aload_n 0, 1) := by decide +kernel
theorem dX9_isSleeper_10 : decode cX9_isSleeper 10 = .ok (.getfield 20, 3) := by decide +kernel
theorem dX9_isSleeper_13 : decode cX9_isSleeper 13 = .ok (.iconst 4, 1) := by decide +kernel
theorem dX9_isSleeper_14 : decode cX9_isSleeper 14 = .ok (.iaload, 1) := by decide +kernel
theorem dX9_isSleeper_15 : decode cX9_isSleeper 15 = .ok (.iconst 1, 1) := by decide +kernel
theorem dX9_isSleeper_16 : decode cX9_isSleeper 16 = .ok (.isub, 1) := by decide +kernel
theorem dX9_isSleeper_17 : decode cX9_isSleeper 17 = .ok (.invokestatic 170, 3) := by decide +kernel
theorem dX9_isSleeper_20 : decode cX9_isSleeper 20 = .ok (.ifCond .eq 7, 3) := by decide +kernel
theorem dX9_isSleeper_23 : decode cX9_isSleeper 23 = .ok (.iconst 1, 1) := by decide +kernel
theorem dX9_isSleeper_24 : decode cX9_isSleeper 24 = .ok (.goto 4, 3) := by decide +kernel
theorem dX9_isSleeper_27 : decode cX9_isSleeper 27 = .ok (.iconst 0, 1) := by decide +kernel
theorem dX9_isSleeper_28 : decode cX9_isSleeper 28 = .ok (.ireturn, 1) := by decide +kernel
theorem dX9_isHead_0 : decode cX9_isHead 0 = .ok (.aload_n 0, 1) := by decide +kernel
theorem dX9_isHead_1 : decode cX9_isHead 1 = .ok (.getfield 204, 3) := by decide +kernel
theorem dX9_isHead_4 : decode cX9_isHead 4 = .ok (.ifCond .eq 23, 3) := by decide +kernel
theorem dX9_isHead_7 : decode cX9_isHead 7 = .ok (.iload_n 1, 1) := by decide +kernel
theorem dX9_isHead_8 : decode cX9_isHead 8 = .ok (.iconst 0, 1) := by decide +kernel
theorem dX9_isHead_9 : decode cX9_isHead 9 = .ok (.aload_n 0, 1) := by decide +kernel
theorem dX9_isHead_10 : decode cX9_isHead 10 = .ok (.getfield 20, 3) := by decide +kernel
theorem dX9_isHead_13 : decode cX9_isHead 13 = .ok (.iconst 3, 1) := by decide +kernel
theorem dX9_isHead_14 : decode cX9_isHead 14 = .ok (.iaload, 1) := by decide +kernel
theorem dX9_isHead_15 : decode cX9_isHead 15 = .ok (.iconst 1, 1) := by decide +kernel
theorem dX9_isHead_16 : decode cX9_isHead 16 = .ok (.isub, 1) := by decide +kernel
theorem dX9_isHead_17 : decode cX9_isHead 17 = .ok (.invokestatic 170, 3) := by decide +kernel
theorem dX9_isHead_20 : decode cX9_isHead 20 = .ok (.ifCond .eq 7, 3) := by decide +kernel
theorem dX9_isHead_23 : decode cX9_isHead 23 = .ok (.iconst 1, 1) := by decide +kernel
theorem dX9_isHead_24 : decode cX9_isHead 24 = .ok (.goto 4, 3) := by decide +kernel
theorem dX9_isHead_27 : decode cX9_isHead 27 = .ok (.iconst 0, 1) := by decide +kernel
theorem dX9_isHead_28 : decode cX9_isHead 28 = .ok (.ireturn, 1) := by decide +kernel
theorem dX9_goOn_0 : decode cX9_goOn 0 = .ok (.aload_n 0, 1) := by decide +kernel
theorem dX9_goOn_1 : decode cX9_goOn 1 = .ok (.getfield 38, 3) := by decide +kernel
theorem dX9_goOn_4 : decode cX9_goOn 4 = .ok (.iconst 0, 1) := by decide +kernel
theorem dX9_goOn_5 : decode cX9_goOn 5 = .ok (.laload, 1) := by decide +kernel
theorem dX9_goOn_6 : decode cX9_goOn 6 = .ok (.lload_n 1, 1) := by decide +kernel
theorem dX9_goOn_7 : decode cX9_goOn 7 = .ok (.lcmp, 1) := by decide +kernel
theorem dX9_goOn_8 : decode cX9_goOn 8 = .ok (.ifCond .ge 190, 3) := by decide +kernel
theorem dX9_goOn_11 : decode cX9_goOn 11 = .ok (.lload_n 1, 1) := by decide +kernel
theorem dX9_goOn_12 : decode cX9_goOn 12 = .ok (.lstore_n 3, 1) := by decide +kernel
theorem dX9_goOn_13 : decode cX9_goOn 13 = .ok (.iconst 0, 1) := by decide +kernel
theorem dX9_goOn_14 : decode cX9_goOn 14 = .ok (.istore 5, 2) := by decide +kernel
theorem dX9_goOn_16 : decode cX9_goOn 16 = .ok (.iload 5, 2) := by decide +kernel
theorem dX9_goOn_18 : decode cX9_goOn 18 = .ok (.aload_n 0, 1) := by decide +kernel
theorem dX9_goOn_19 : decode cX9_goOn 19 = .ok (.getfield 20, 3) := by decide +kernel
theorem dX9_goOn_22 : decode cX9_goOn 22 = .ok (.bipush 6, 2) := by decide +kernel
theorem dX9_goOn_24 : decode cX9_goOn 24 = .ok (.iaload, 1) := by decide +kernel
theorem dX9_goOn_25 : decode cX9_goOn 25 = .ok (.if_icmp .ge 54, 3) := by decide +kernel
theorem dX9_goOn_28 : decode cX9_goOn 28 = .ok (.aload_n 0, 1) := by decide +kernel
theorem dX9_goOn_29 : decode cX9_goOn 29 = .ok (.getfield 20, 3) := by decide +kernel
theorem dX9_goOn_32 : decode cX9_goOn 32 = .ok (.bipush 100, 2) := by decide +kernel
theorem dX9_goOn_34 : decode cX9_goOn 34 = .ok (.iconst 4, 1) := by decide +kernel
theorem dX9_goOn_35 : decode cX9_goOn 35 = .ok (.iload 5, 2) := by decide +kernel
theorem dX9_goOn_37 : decode cX9_goOn 37 = .ok (.imul, 1) := by decide +kernel
theorem dX9_goOn_38 : decode cX9_goOn 38 = .ok (.iadd, 1) := by decide +kernel
theorem dX9_goOn_39 : decode cX9_goOn 39 = .ok (.iconst 2, 1) := by decide +kernel
theorem dX9_goOn_40 : decode cX9_goOn 40 = .ok (.iadd, 1) := by decide +kernel
theorem dX9_goOn_41 : decode cX9_goOn 41 = .ok (.iaload, 1) := by decide +kernel
theorem dX9_goOn_42 : decode cX9_goOn 42 = .ok (.i2l, 1) := by decide +kernel
theorem dX9_goOn_43 : decode cX9_goOn 43 = .ok (.aload_n 0, 1) := by decide +kernel
theorem dX9_goOn_44 : decode cX9_goOn 44 = .ok (.invokevirtual 307, 3) := by decide +kernel
theorem dX9_goOn_47 : decode cX9_goOn 47 = .ok (.i2l, 1) := by decide +kernel
theorem dX9_goOn_48 : decode cX9_goOn 48 = .ok (.lmul, 1) := by decide +kernel
theorem dX9_goOn_49 : decode cX9_goOn 49 = .ok (.lstore 6, 2) := by decide +kernel
theorem dX9_goOn_51 : decode cX9_goOn 51 = .ok (.lload 6, 2) := by decide +kernel
theorem dX9_goOn_53 : decode cX9_goOn 53 = .ok (.aload_n 0, 1) := by decide +kernel
theorem dX9_goOn_54 : decode cX9_goOn 54 = .ok (.getfield 38, 3) := by decide +kernel
theorem dX9_goOn_57 : decode cX9_goOn 57 = .ok (.iconst 0, 1) := by decide +kernel
theorem dX9_goOn_58 : decode cX9_goOn 58 = .ok (.laload, 1) := by decide +kernel
theorem dX9_goOn_59 : decode cX9_goOn 59 = .ok (.lcmp, 1) := by decide +kernel
theorem dX9_goOn_60 : decode cX9_goOn 60 = .ok (.ifCond .le 13, 3) := by decide +kernel
theorem dX9_goOn_63 : decode cX9_goOn 63 = .ok (.lload 6, 2) := by decide +kernel
theorem dX9_goOn_65 : decode cX9_goOn 65 = .ok (.lload_n 3, 1) := by decide +kernel
theorem dX9_goOn_66 : decode cX9_goOn 66 = .ok (.lcmp, 1) := by decide +kernel
theorem dX9_goOn_67 : decode cX9_goOn 67 = .ok (.ifCond .ge 6, 3) := by decide +kernel
theorem dX9_goOn_70 : decode cX9_goOn 70 = .ok (.lload 6, 2) := by decide +kernel
theorem dX9_goOn_72 : decode cX9_goOn 72 = .ok (.lstore_n 3, 1) := by decide +kernel
theorem dX9_goOn_73 : decode cX9_goOn 73 = .ok (.iinc 5 1, 3) := by decide +kernel
theorem dX9_goOn_76 : decode cX9_goOn 76 = .ok (.goto (-60), 3) := by decide +kernel
theorem dX9_goOn_79 : decode cX9_goOn 79 = .ok (.iconst 0, 1) := by decide +kernel
theorem dX9_goOn_80 : decode cX9_goOn 80 = .ok (.istore 5, 2) := by decide +kernel
theorem dX9_goOn_82 : decode cX9_goOn 82 = .ok (.iload 5, 2) := by decide +kernel
theorem dX9_goOn_84 : decode cX9_goOn 84 = .ok (.aload_n 0, 1) := by decide +kernel
theorem dX9_goOn_85 : decode cX9_goOn 85 = .ok (.getfield 20, 3) := by decide +kernel
theorem dX9_goOn_88 : decode cX9_goOn 88 = .ok (.iconst 4, 1) := by decide +kernel
theorem dX9_goOn_89 : decode cX9_goOn 89 = .ok (.iaload, 1) := by decide +kernel
theorem dX9_goOn_90 : decode cX9_goOn 90 = .ok (.if_icmp .ge 39, 3) := by decide +kernel
theorem dX9_goOn_93 : decode cX9_goOn 93 = .ok (.aload_n 0, 1) := by decide +kernel
theorem dX9_goOn_94 : decode cX9_goOn 94 = .ok (.iload 5, 2) := by decide +kernel
theorem dX9_goOn_96 : decode cX9_goOn 96 = .ok (.invokevirtual 325, 3) := by decide +kernel
theorem dX9_goOn_99 : decode cX9_goOn 99 = .ok (.lstore 6, 2) := by decide +kernel
theorem dX9_goOn_101 : decode cX9_goOn 101 = .ok (.lload 6, 2) := by decide +kernel
theorem dX9_goOn_103 : decode cX9_goOn 103 = .ok (.aload_n 0, 1) := by decide +kernel
theorem dX9_goOn_104 : decode cX9_goOn 104 = .ok (.getfield 38, 3) := by decide +kernel
theorem dX9_goOn_107 : decode cX9_goOn 107 = .ok (.iconst 0, 1) := by decide +kernel
theorem dX9_goOn_108 : decode cX9_goOn 108 = .ok (.laload, 1) := by decide +kernel
theorem dX9_goOn_109 : decode cX9_goOn 109 = .ok (.lcmp, 1) := by decide +kernel
theorem dX9_goOn_110 : decode cX9_goOn 110 = .ok (.ifCond .le 13, 3) := by decide +kernel
theorem dX9_goOn_113 : decode cX9_goOn 113 = .ok (.lload 6, 2) := by decide +kernel
theorem dX9_goOn_115 : decode cX9_goOn 115 = .ok (.lload_n 3, 1) := by decide +kernel
theorem dX9_goOn_116 : decode cX9_goOn 116 = .ok (.lcmp, 1) := by decide +kernel
theorem dX9_goOn_117 : decode cX9_goOn 117 = .ok (.ifCond .ge 6, 3) := by decide +kernel
theorem dX9_goOn_120 : decode cX9_goOn 120 = .ok (.lload 6, 2) := by decide +kernel
theorem dX9_goOn_122 : decode cX9_goOn 122 = .ok (.lstore_n 3, 1) := by decide +kernel
theorem dX9_goOn_123 : decode cX9_goOn 123 = .ok (.iinc 5 1, 3) := by decide +kernel
theorem dX9_goOn_126 : decode cX9_goOn 126 = .ok (.goto (-44), 3) := by decide +kernel
theorem dX9_goOn_129 : decode cX9_goOn 129 = .ok (.iconst 0, 1) := by decide +kernel
theorem dX9_goOn_130 : decode cX9_goOn 130 = .ok (.istore 5, 2) := by decide +kernel
theorem dX9_goOn_132 : decode cX9_goOn 132 = .ok (.iload 5, 2) := by decide +kernel
theorem dX9_goOn_134 : decode cX9_goOn 134 = .ok (.aload_n 0, 1) := by decide +kernel
theorem dX9_goOn_135 : decode cX9_goOn 135 = .ok (.getfield 20, 3) := by decide +kernel
theorem dX9_goOn_138 : decode cX9_goOn 138 = .ok (.iconst 4, 1) := by decide +kernel
theorem dX9_goOn_139 : decode cX9_goOn 139 = .ok (.iaload, 1) := by decide +kernel
theorem dX9_goOn_140 : decode cX9_goOn 140 = .ok (.if_icmp .ge 40, 3) := by decide +kernel
theorem dX9_goOn_143 : decode cX9_goOn 143 = .ok (.aload_n 0, 1) := by decide +kernel
theorem dX9_goOn_144 : decode cX9_goOn 144 = .ok (.getfield 38, 3) := by decide +kernel
theorem dX9_goOn_147 : decode cX9_goOn 147 = .ok (.bipush 6, 2) := by decide +kernel
theorem dX9_goOn_149 : decode cX9_goOn 149 = .ok (.iconst 5, 1) := by decide +kernel
theorem dX9_goOn_150 : decode cX9_goOn 150 = .ok (.iload 5, 2) := by decide +kernel
theorem dX9_goOn_152 : decode cX9_goOn 152 = .ok (.imul, 1) := by decide +kernel
theorem dX9_goOn_153 : decode cX9_goOn 153 = .ok (.iadd, 1) := by decide +kernel
theorem dX9_goOn_154 : decode cX9_goOn 154 = .ok (.aload_n 0, 1) := by decide +kernel
theorem dX9_goOn_155 : decode cX9_goOn 155 = .ok (.iload 5, 2) := by decide +kernel
theorem dX9_goOn_157 : decode cX9_goOn 157 = .ok (.iconst 0, 1) := by decide +kernel
theorem dX9_goOn_158 : decode cX9_goOn 158 = .ok (.invokevirtual 310, 3) := by decide +kernel
theorem dX9_goOn_161 : decode cX9_goOn 161 = .ok (.iadd, 1) := by decide +kernel
theorem dX9_goOn_162 : decode cX9_goOn 162 = .ok (.dup2, 1) := by decide +kernel
theorem dX9_goOn_163 : decode cX9_goOn 163 = .ok (.laload, 1) := by decide +kernel
theorem dX9_goOn_164 : decode cX9_goOn 164 = .ok (.lload_n 3, 1) := by decide +kernel
theorem dX9_goOn_165 : decode cX9_goOn 165 = .ok (.aload_n 0, 1) := by decide +kernel
theorem dX9_goOn_166 : decode cX9_goOn 166 = .ok (.getfield 38, 3) := by decide +kernel
theorem dX9_goOn_169 : decode cX9_goOn 169 = .ok (.iconst 0, 1) := by decide +kernel
theorem dX9_goOn_170 : decode cX9_goOn 170 = .ok (.laload, 1) := by decide +kernel
theorem dX9_goOn_171 : decode cX9_goOn 171 = .ok (.lsub, 1) := by decide +kernel
theorem dX9_goOn_172 : decode cX9_goOn 172 = .ok (.ladd, 1) := by decide +kernel
theorem dX9_goOn_173 : decode cX9_goOn 173 = .ok (.lastore, 1) := by decide +kernel
theorem dX9_goOn_174 : decode cX9_goOn 174 = .ok (.iinc 5 1, 3) := by decide +kernel
theorem dX9_goOn_177 : decode cX9_goOn 177 = .ok (.goto (-45), 3) := by decide +kernel
theorem dX9_goOn_180 : decode cX9_goOn 180 = .ok (.aload_n 0, 1) := by decide +kernel
theorem dX9_goOn_181 : decode cX9_goOn 181 = .ok (.getfield 38, 3) := by decide +kernel
theorem dX9_goOn_184 : decode cX9_goOn 184 = .ok (.iconst 0, 1) := by decide +kernel
theorem dX9_goOn_185 : decode cX9_goOn 185 = .ok (.lload_n 3, 1) := by decide +kernel
theorem dX9_goOn_186 : decode cX9_goOn 186 = .ok (.lastore, 1) := by decide +kernel
theorem dX9_goOn_187 : decode cX9_goOn 187 = .ok (.aload_n 0, 1) := by decide +kernel
theorem dX9_goOn_188 : decode cX9_goOn 188 = .ok (.invokevirtual 213, 3) := by decide +kernel
theorem dX9_goOn_191 : decode cX9_goOn 191 = .ok (.aload_n 0, 1) := by decide +kernel
theorem dX9_goOn_192 : decode cX9_goOn 192 = .ok (.invokevirtual 216, 3) := by decide +kernel
theorem dX9_goOn_195 : decode cX9_goOn 195 = .ok (.goto (-195), 3) := by decide +kernel
theorem dX9_goOn_198 : decode cX9_goOn 198 = .ok (.return_, 1) := by decide +kernel
theorem dX9_save_0 : decode cX9_save 0 = .ok (.aload_n 0, 1) := by decide +kernel
theorem dX9_save_1 : decode cX9_save 1 = .ok (.getfield 26, 3) := by decide +kernel
theorem dX9_save_4 : decode cX9_save 4 = .ok (.iconst 0, 1) := by decide +kernel
theorem dX9_save_5 : decode cX9_save 5 = .ok (.aload_n 0, 1) := by decide +kernel
theorem dX9_save_6 : decode cX9_save 6 = .ok (.getfield 35, 3) := by decide +kernel
theorem dX9_save_9 : decode cX9_save 9 = .ok (.iconst 0, 1) := by decide +kernel
theorem dX9_save_10 : decode cX9_save 10 = .ok (.bipush 20, 2) := by decide +kernel
theorem dX9_save_12 : decode cX9_save 12 = .ok (.invokestatic 200, 3) := by decide +kernel
theorem dX9_save_15 : decode cX9_save 15 = .ok (.aload_n 0, 1) := by decide +kernel
theorem dX9_save_16 : decode cX9_save 16 = .ok (.getfield 38, 3) := by decide +kernel
theorem dX9_save_19 : decode cX9_save 19 = .ok (.iconst 0, 1) := by decide +kernel
theorem dX9_save_20 : decode cX9_save 20 = .ok (.aload_n 0, 1) := by decide +kernel
theorem dX9_save_21 : decode cX9_save 21 = .ok (.getfield 48, 3) := by decide +kernel
theorem dX9_save_24 : decode cX9_save 24 = .ok (.iconst 0, 1) := by decide +kernel
theorem dX9_save_25 : decode cX9_save 25 = .ok (.invokestatic 346, 3) := by decide +kernel
theorem dX9_save_28 : decode cX9_save 28 = .ok (.return_, 1) := by decide +kernel
theorem dX9_bringBack_0 : decode cX9_bringBack 0 = .ok (.aload_n 0, 1) := by decide +kernel
theorem dX9_bringBack_1 : decode cX9_bringBack 1 = .ok (.getfield 35, 3) := by decide +kernel
theorem dX9_bringBack_4 : decode cX9_bringBack 4 = .ok (.iconst 0, 1) := by decide +kernel
theorem dX9_bringBack_5 : decode cX9_bringBack 5 = .ok (.aload_n 0, 1) := by decide +kernel
theorem dX9_bringBack_6 : decode cX9_bringBack 6 = .ok (.getfield 26, 3) := by decide +kernel
theorem dX9_bringBack_9 : decode cX9_bringBack 9 = .ok (.iconst 0, 1) := by decide +kernel
theorem dX9_bringBack_10 : decode cX9_bringBack 10 = .ok (.bipush 20, 2) := by decide +kernel
theorem dX9_bringBack_12 : decode cX9_bringBack 12 = .ok (.invokestatic 200, 3) := by decide +kernel
theorem dX9_bringBack_15 : decode cX9_bringBack 15 = .ok (.aload_n 0, 1) := by decide +kernel
theorem dX9_bringBack_16 : decode cX9_bringBack 16 = .ok (.getfield 48, 3) := by decide +kernel
theorem dX9_bringBack_19 : decode cX9_bringBack 19 = .ok (.iconst 0, 1) := by decide +kernel
theorem dX9_bringBack_20 : decode cX9_bringBack 20 = .ok (.aload_n 0, 1) := by decide +kernel
theorem dX9_bringBack_21 : decode cX9_bringBack 21 = .ok (.getfield 38, 3) := by decide +kernel
theorem dX9_bringBack_24 : decode cX9_bringBack 24 = .ok (.iconst 0, 1) := by decide +kernel
theorem dX9_bringBack_25 : decode cX9_bringBack 25 = .ok (.invokestatic 346, 3) := by decide +kernel
theorem dX9_bringBack_28 : decode cX9_bringBack 28 = .ok (.return_, 1) := by decide +kernel
theorem dX9_quick_0 : decode cX9_quick 0 = .ok (.aload_n 0, 1) := by decide +kernel
theorem dX9_quick_1 : decode cX9_quick 1 = .ok (.invokevirtual 191, 3) := by decide +kernel
theorem dX9_quick_4 : decode cX9_quick 4 = .ok (.aload_n 0, 1) := by decide +kernel
theorem dX9_quick_5 : decode cX9_quick 5 = .ok (.iload_n 1, 1) := by decide +kernel
theorem dX9_quick_6 : decode cX9_quick 6 = .ok (.invokevirtual 350, 3) := by decide +kernel
theorem dX9_quick_9 : decode cX9_quick 9 = .ok (.ifCond .eq 11, 3) := by decide +kernel
theorem dX9_quick_12 : decode cX9_quick 12 = .ok (.aload_n 0, 1) := by decide +kernel
theorem dX9_quick_13 : decode cX9_quick 13 = .ok (.iload_n 1, 1) := by decide +kernel
theorem dX9_quick_14 : decode cX9_quick 14 = .ok (.invokevirtual 304, 3) := by decide +kernel
theorem dX9_quick_17 : decode cX9_quick 17 = .ok (.goto 8, 3) := by decide +kernel
theorem dX9_quick_20 : decode cX9_quick 20 = .ok (.aload_n 0, 1) := by decide +kernel
theorem dX9_quick_21 : decode cX9_quick 21 = .ok (.iconst 1, 1) := by decide +kernel
theorem dX9_quick_22 : decode cX9_quick 22 = .ok (.invokevirtual 194, 3) := by decide +kernel
theorem dX9_quick_25 : decode cX9_quick 25 = .ok (.ireturn, 1) := by decide +kernel
theorem dX9_clock_0 : decode cX9_clock 0 = .ok (.aload_n 0, 1) := by decide +kernel
theorem dX9_clock_1 : decode cX9_clock 1 = .ok (.invokevirtual 191, 3) := by decide +kernel
theorem dX9_clock_4 : decode cX9_clock 4 = .ok (.aload_n 0, 1) := by decide +kernel
theorem dX9_clock_5 : decode cX9_clock 5 = .ok (.iload_n 1, 1) := by decide +kernel
theorem dX9_clock_6 : decode cX9_clock 6 = .ok (.invokevirtual 350, 3) := by decide +kernel
theorem dX9_clock_9 : decode cX9_clock 9 = .ok (.ifCond .eq 18, 3) := by decide +kernel
theorem dX9_clock_12 : decode cX9_clock 12 = .ok (.aload_n 0, 1) := by decide +kernel
theorem dX9_clock_13 : decode cX9_clock 13 = .ok (.getfield 38, 3) := by decide +kernel
theorem dX9_clock_16 : decode cX9_clock 16 = .ok (.iconst 0, 1) := by decide +kernel
theorem dX9_clock_17 : decode cX9_clock 17 = .ok (.laload, 1) := by decide +kernel
theorem dX9_clock_18 : decode cX9_clock 18 = .ok (.aload_n 0, 1) := by decide +kernel
theorem dX9_clock_19 : decode cX9_clock 19 = .ok (.iload_n 1, 1) := by decide +kernel
theorem dX9_clock_20 : decode cX9_clock 20 = .ok (.invokevirtual 318, 3) := by decide +kernel
theorem dX9_clock_23 : decode cX9_clock 23 = .ok (.ldiv, 1) := by decide +kernel
theorem dX9_clock_24 : decode cX9_clock 24 = .ok (.goto 9, 3) := by decide +kernel
theorem dX9_clock_27 : decode cX9_clock 27 = .ok (.aload_n 0, 1) := by decide +kernel
theorem dX9_clock_28 : decode cX9_clock 28 = .ok (.iconst 1, 1) := by decide +kernel
theorem dX9_clock_29 : decode cX9_clock 29 = .ok (.invokevirtual 194, 3) := by decide +kernel
theorem dX9_clock_32 : decode cX9_clock 32 = .ok (.i2l, 1) := by decide +kernel
theorem dX9_clock_33 : decode cX9_clock 33 = .ok (.lreturn, 1) := by decide +kernel
theorem dX9_ticks_0 : decode cX9_ticks 0 = .ok (.aload_n 0, 1) := by decide +kernel
theorem dX9_ticks_1 : decode cX9_ticks 1 = .ok (.invokevirtual 191, 3) := by decide +kernel
theorem dX9_ticks_4 : decode cX9_ticks 4 = .ok (.aload_n 0, 1) := by decide +kernel
theorem dX9_ticks_5 : decode cX9_ticks 5 = .ok (.getfield 204, 3) := by decide +kernel
theorem dX9_ticks_8 : decode cX9_ticks 8 = .ok (.ifCond .eq 12, 3) := by decide +kernel
theorem dX9_ticks_11 : decode cX9_ticks 11 = .ok (.aload_n 0, 1) := by decide +kernel
theorem dX9_ticks_12 : decode cX9_ticks 12 = .ok (.getfield 38, 3) := by decide +kernel
theorem dX9_ticks_15 : decode cX9_ticks 15 = .ok (.iconst 0, 1) := by decide +kernel
theorem dX9_ticks_16 : decode cX9_ticks 16 = .ok (.laload, 1) := by decide +kernel
theorem dX9_ticks_17 : decode cX9_ticks 17 = .ok (.goto 9, 3) := by decide +kernel
theorem dX9_ticks_20 : decode cX9_ticks 20 = .ok (.aload_n 0, 1) := by decide +kernel
theorem dX9_ticks_21 : decode cX9_ticks 21 = .ok (.iconst 1, 1) := by decide +kernel
theorem dX9_ticks_22 : decode cX9_ticks 22 = .ok (.invokevirtual 194, 3) := by decide +kernel
theorem dX9_ticks_25 : decode cX9_ticks 25 = .ok (.i2l, 1) := by decide +kernel
theorem dX9_ticks_26 : decode cX9_ticks 26 = .ok (.lreturn, 1) := by decide +kernel
theorem dX9_sleeper_0 : decode cX9_sleeper 0 = .ok (.aload_n 0, 1) := by decide +kernel
theorem dX9_sleeper_1 : decode cX9_sleeper 1 = .ok (.invokevirtual 191, 3) := by decide +kernel
theorem dX9_sleeper_4 : decode cX9_sleeper 4 = .ok (.aload_n 0, 1) := by decide +kernel
theorem dX9_sleeper_5 : decode cX9_sleeper 5 = .ok (.iload_n 1, 1) := by decide +kernel
theorem dX9_sleeper_6 : decode cX9_sleeper 6 = .ok (.invokevirtual 353, 3) := by decide +kernel
theorem dX9_sleeper_9 : decode cX9_sleeper 9 = .ok (.ifCond .ne 9, 3) := by decide +kernel
theorem dX9_sleeper_12 : decode cX9_sleeper 12 = .ok (.aload_n 0, 1) := by decide +kernel
theorem dX9_sleeper_13 : decode cX9_sleeper 13 = .ok (.iconst 1, 1) := by decide +kernel
theorem dX9_sleeper_14 : decode cX9_sleeper 14 = .ok (.invokevirtual 194, 3) := by decide +kernel
theorem dX9_sleeper_17 : decode cX9_sleeper 17 = .ok (.ireturn, 1) := by decide +kernel
theorem dX9_sleeper_18 : decode cX9_sleeper 18 = .ok (.iload_n 2, 1) := by decide +kernel
theorem dX9_sleeper_19 : decode cX9_sleeper 19 = .ok (.tableswitch 143 0 6 #[41, 48, 71, 78, 106, 113, 120], 41) := by decide +kernel
theorem dX9_sleeper_60 : decode cX9_sleeper 60 = .ok (.aload_n 0, 1) := by decide +kernel
theorem dX9_sleeper_61 : decode cX9_sleeper 61 = .ok (.iload_n 1, 1) := by decide +kernel
theorem dX9_sleeper_62 : decode cX9_sleeper 62 = .ok (.iconst 0, 1) := by decide +kernel
theorem dX9_sleeper_63 : decode cX9_sleeper 63 = .ok (.invokevirtual 310, 3) := by decide +kernel
theorem dX9_sleeper_66 : decode cX9_sleeper 66 = .ok (.ireturn, 1) := by decide +kernel
theorem dX9_sleeper_67 : decode cX9_sleeper 67 = .ok (.aload_n 0, 1) := by decide +kernel
theorem dX9_sleeper_68 : decode cX9_sleeper 68 = .ok (.iload_n 1, 1) := by decide +kernel
theorem dX9_sleeper_69 : decode cX9_sleeper 69 = .ok (.iconst 1, 1) := by decide +kernel
theorem dX9_sleeper_70 : decode cX9_sleeper 70 = .ok (.invokevirtual 310, 3) := by decide +kernel
theorem dX9_sleeper_73 : decode cX9_sleeper 73 = .ok (.ifCond .ne 8, 3) := by decide +kernel
theorem dX9_sleeper_76 : decode cX9_sleeper 76 = .ok (.bipush (-2), 2) := by decide +kernel
theorem dX9_sleeper_78 : decode cX9_sleeper 78 = .ok (.goto 11, 3) := by decide +kernel
theorem dX9_sleeper_81 : decode cX9_sleeper 81 = .ok (.aload_n 0, 1) := by decide +kernel
theorem dX9_sleeper_82 : decode cX9_sleeper 82 = .ok (.iload_n 1, 1) := by decide +kernel
theorem dX9_sleeper_83 : decode cX9_sleeper 83 = .ok (.iconst 1, 1) := by decide +kernel
theorem dX9_sleeper_84 : decode cX9_sleeper 84 = .ok (.invokevirtual 310, 3) := by decide +kernel
theorem dX9_sleeper_87 : decode cX9_sleeper 87 = .ok (.iconst 1, 1) := by decide +kernel
theorem dX9_sleeper_88 : decode cX9_sleeper 88 = .ok (.isub, 1) := by decide +kernel
theorem dX9_sleeper_89 : decode cX9_sleeper 89 = .ok (.ireturn, 1) := by decide +kernel
theorem dX9_sleeper_90 : decode cX9_sleeper 90 = .ok (.aload_n 0, 1) := by decide +kernel
theorem dX9_sleeper_91 : decode cX9_sleeper 91 = .ok (.iload_n 1, 1) := by decide +kernel
theorem dX9_sleeper_92 : decode cX9_sleeper 92 = .ok (.iconst 2, 1) := by decide +kernel
theorem dX9_sleeper_93 : decode cX9_sleeper 93 = .ok (.invokevirtual 310, 3) := by decide +kernel
theorem dX9_sleeper_96 : decode cX9_sleeper 96 = .ok (.ireturn, 1) := by decide +kernel
theorem dX9_sleeper_97 : decode cX9_sleeper 97 = .ok (.aload_n 0, 1) := by decide +kernel
theorem dX9_sleeper_98 : decode cX9_sleeper 98 = .ok (.getfield 38, 3) := by decide +kernel
theorem dX9_sleeper_101 : decode cX9_sleeper 101 = .ok (.iconst 0, 1) := by decide +kernel
theorem dX9_sleeper_102 : decode cX9_sleeper 102 = .ok (.laload, 1) := by decide +kernel
theorem dX9_sleeper_103 : decode cX9_sleeper 103 = .ok (.aload_n 0, 1) := by decide +kernel
theorem dX9_sleeper_104 : decode cX9_sleeper 104 = .ok (.getfield 38, 3) := by decide +kernel
theorem dX9_sleeper_107 : decode cX9_sleeper 107 = .ok (.iconst 1, 1) := by decide +kernel
theorem dX9_sleeper_108 : decode cX9_sleeper 108 = .ok (.iload_n 1, 1) := by decide +kernel
theorem dX9_sleeper_109 : decode cX9_sleeper 109 = .ok (.iadd, 1) := by decide +kernel
theorem dX9_sleeper_110 : decode cX9_sleeper 110 = .ok (.laload, 1) := by decide +kernel
theorem dX9_sleeper_111 : decode cX9_sleeper 111 = .ok (.lsub, 1) := by decide +kernel
theorem dX9_sleeper_112 : decode cX9_sleeper 112 = .ok (.aload_n 0, 1) := by decide +kernel
theorem dX9_sleeper_113 : decode cX9_sleeper 113 = .ok (.aload_n 0, 1) := by decide +kernel
theorem dX9_sleeper_114 : decode cX9_sleeper 114 = .ok (.iload_n 1, 1) := by decide +kernel
theorem dX9_sleeper_115 : decode cX9_sleeper 115 = .ok (.iconst 0, 1) := by decide +kernel
theorem dX9_sleeper_116 : decode cX9_sleeper 116 = .ok (.invokevirtual 310, 3) := by decide +kernel
theorem dX9_sleeper_119 : decode cX9_sleeper 119 = .ok (.invokevirtual 318, 3) := by decide +kernel
theorem dX9_sleeper_122 : decode cX9_sleeper 122 = .ok (.ldiv, 1) := by decide +kernel
theorem dX9_sleeper_123 : decode cX9_sleeper 123 = .ok (.l2i, 1) := by decide +kernel
theorem dX9_sleeper_124 : decode cX9_sleeper 124 = .ok (.ireturn, 1) := by decide +kernel
theorem dX9_sleeper_125 : decode cX9_sleeper 125 = .ok (.aload_n 0, 1) := by decide +kernel
theorem dX9_sleeper_126 : decode cX9_sleeper 126 = .ok (.iload_n 1, 1) := by decide +kernel
theorem dX9_sleeper_127 : decode cX9_sleeper 127 = .ok (.iconst 0, 1) := by decide +kernel
theorem dX9_sleeper_128 : decode cX9_sleeper 128 = .ok (.invokevirtual 335, 3) := by decide +kernel
theorem dX9_sleeper_131 : decode cX9_sleeper 131 = .ok (.ireturn, 1) := by decide +kernel
theorem dX9_sleeper_132 : decode cX9_sleeper 132 = .ok (.aload_n 0, 1) := by decide +kernel
theorem dX9_sleeper_133 : decode cX9_sleeper 133 = .ok (.iload_n 1, 1) := by decide +kernel
theorem dX9_sleeper_134 : decode cX9_sleeper 134 = .ok (.iconst 1, 1) := by decide +kernel
theorem dX9_sleeper_135 : decode cX9_sleeper 135 = .ok (.invokevirtual 335, 3) := by decide +kernel
theorem dX9_sleeper_138 : decode cX9_sleeper 138 = .ok (.ireturn, 1) := by decide +kernel
theorem dX9_sleeper_139 : decode cX9_sleeper 139 = .ok (.aload_n 0, 1) := by decide +kernel
theorem dX9_sleeper_140 : decode cX9_sleeper 140 = .ok (.iload_n 1, 1) := by decide +kernel
theorem dX9_sleeper_141 : decode cX9_sleeper 141 = .ok (.iconst 4, 1) := by decide +kernel
theorem dX9_sleeper_142 : decode cX9_sleeper 142 = .ok (.invokevirtual 335, 3) := by decide +kernel
theorem dX9_sleeper_145 : decode cX9_sleeper 145 = .ok (.ifCond .ne 8, 3) := by decide +kernel
theorem dX9_sleeper_148 : decode cX9_sleeper 148 = .ok (.bipush (-2), 2) := by decide +kernel
theorem dX9_sleeper_150 : decode cX9_sleeper 150 = .ok (.goto 11, 3) := by decide +kernel
theorem dX9_sleeper_153 : decode cX9_sleeper 153 = .ok (.aload_n 0, 1) := by decide +kernel
theorem dX9_sleeper_154 : decode cX9_sleeper 154 = .ok (.iload_n 1, 1) := by decide +kernel
theorem dX9_sleeper_155 : decode cX9_sleeper 155 = .ok (.iconst 4, 1) := by decide +kernel
theorem dX9_sleeper_156 : decode cX9_sleeper 156 = .ok (.invokevirtual 335, 3) := by decide +kernel
theorem dX9_sleeper_159 : decode cX9_sleeper 159 = .ok (.iconst 1, 1) := by decide +kernel
theorem dX9_sleeper_160 : decode cX9_sleeper 160 = .ok (.isub, 1) := by decide +kernel
theorem dX9_sleeper_161 : decode cX9_sleeper 161 = .ok (.ireturn, 1) := by decide +kernel
theorem dX9_sleeper_162 : decode cX9_sleeper 162 = .ok (.aload_n 0, 1) := by decide +kernel
theorem dX9_sleeper_163 : decode cX9_sleeper 163 = .ok (.iconst 1, 1) := by decide +kernel
theorem dX9_sleeper_164 : decode cX9_sleeper 164 = .ok (.invokevirtual 194, 3) := by decide +kernel
theorem dX9_sleeper_167 : decode cX9_sleeper 167 = .ok (.ireturn, 1) := by decide +kernel
theorem dX9_lived_0 : decode cX9_lived 0 = .ok (.aload_n 0, 1) := by decide +kernel
theorem dX9_lived_1 : decode cX9_lived 1 = .ok (.invokevirtual 191, 3) := by decide +kernel
theorem dX9_lived_4 : decode cX9_lived 4 = .ok (.aload_n 0, 1) := by decide +kernel
theorem dX9_lived_5 : decode cX9_lived 5 = .ok (.iload_n 1, 1) := by decide +kernel
theorem dX9_lived_6 : decode cX9_lived 6 = .ok (.invokevirtual 353, 3) := by decide +kernel
theorem dX9_lived_9 : decode cX9_lived 9 = .ok (.ifCond .ne 10, 3) := by decide +kernel
theorem dX9_lived_12 : decode cX9_lived 12 = .ok (.aload_n 0, 1) := by decide +kernel
theorem dX9_lived_13 : decode cX9_lived 13 = .ok (.iconst 1, 1) := by decide +kernel
theorem dX9_lived_14 : decode cX9_lived 14 = .ok (.invokevirtual 194, 3) := by decide +kernel
theorem dX9_lived_17 : decode cX9_lived 17 = .ok (.i2l, 1) := by decide +kernel
theorem dX9_lived_18 : decode cX9_lived 18 = .ok (.lreturn, 1) := by decide +kernel
theorem dX9_lived_19 : decode cX9_lived 19 = .ok (.lconst 0, 1) := by decide +kernel
theorem dX9_lived_20 : decode cX9_lived 20 = .ok (.lstore_n 3, 1) := by decide +kernel
theorem dX9_lived_21 : decode cX9_lived 21 = .ok (.iconst 0, 1) := by decide +kernel
theorem dX9_lived_22 : decode cX9_lived 22 = .ok (.istore 5, 2) := by decide +kernel
theorem dX9_lived_24 : decode cX9_lived 24 = .ok (.iload 5, 2) := by decide +kernel
theorem dX9_lived_26 : decode cX9_lived 26 = .ok (.aload_n 0, 1) := by decide +kernel
theorem dX9_lived_27 : decode cX9_lived 27 = .ok (.getfield 20, 3) := by decide +kernel
theorem dX9_lived_30 : decode cX9_lived 30 = .ok (.iconst 0, 1) := by decide +kernel
theorem dX9_lived_31 : decode cX9_lived 31 = .ok (.iaload, 1) := by decide +kernel
theorem dX9_lived_32 : decode cX9_lived 32 = .ok (.if_icmp .gt 34, 3) := by decide +kernel
theorem dX9_lived_35 : decode cX9_lived 35 = .ok (.lload_n 3, 1) := by decide +kernel
theorem dX9_lived_36 : decode cX9_lived 36 = .ok (.aload_n 0, 1) := by decide +kernel
theorem dX9_lived_37 : decode cX9_lived 37 = .ok (.getfield 38, 3) := by decide +kernel
theorem dX9_lived_40 : decode cX9_lived 40 = .ok (.bipush 6, 2) := by decide +kernel
theorem dX9_lived_42 : decode cX9_lived 42 = .ok (.iconst 5, 1) := by decide +kernel
theorem dX9_lived_43 : decode cX9_lived 43 = .ok (.iload_n 1, 1) := by decide +kernel
theorem dX9_lived_44 : decode cX9_lived 44 = .ok (.imul, 1) := by decide +kernel
theorem dX9_lived_45 : decode cX9_lived 45 = .ok (.iadd, 1) := by decide +kernel
theorem dX9_lived_46 : decode cX9_lived 46 = .ok (.iload 5, 2) := by decide +kernel
theorem dX9_lived_48 : decode cX9_lived 48 = .ok (.iadd, 1) := by decide +kernel
theorem dX9_lived_49 : decode cX9_lived 49 = .ok (.laload, 1) := by decide +kernel
theorem dX9_lived_50 : decode cX9_lived 50 = .ok (.aload_n 0, 1) := by decide +kernel
theorem dX9_lived_51 : decode cX9_lived 51 = .ok (.iload 5, 2) := by decide +kernel
theorem dX9_lived_53 : decode cX9_lived 53 = .ok (.invokevirtual 304, 3) := by decide +kernel
theorem dX9_lived_56 : decode cX9_lived 56 = .ok (.i2l, 1) := by decide +kernel
theorem dX9_lived_57 : decode cX9_lived 57 = .ok (.lmul, 1) := by decide +kernel
theorem dX9_lived_58 : decode cX9_lived 58 = .ok (.ladd, 1) := by decide +kernel
theorem dX9_lived_59 : decode cX9_lived 59 = .ok (.lstore_n 3, 1) := by decide +kernel
theorem dX9_lived_60 : decode cX9_lived 60 = .ok (.iinc 5 1, 3) := by decide +kernel
theorem dX9_lived_63 : decode cX9_lived 63 = .ok (.goto (-39), 3) := by decide +kernel
theorem dX9_lived_66 : decode cX9_lived 66 = .ok (.lload_n 3, 1) := by decide +kernel
theorem dX9_lived_67 : decode cX9_lived 67 = .ok (.aload_n 0, 1) := by decide +kernel
theorem dX9_lived_68 : decode cX9_lived 68 = .ok (.invokevirtual 307, 3) := by decide +kernel
theorem dX9_lived_71 : decode cX9_lived 71 = .ok (.i2l, 1) := by decide +kernel
theorem dX9_lived_72 : decode cX9_lived 72 = .ok (.iload_n 2, 1) := by decide +kernel
theorem dX9_lived_73 : decode cX9_lived 73 = .ok (.invokestatic 356, 3) := by decide +kernel
theorem dX9_lived_76 : decode cX9_lived 76 = .ok (.lreturn, 1) := by decide +kernel
theorem dX9_doMeet_0 : decode cX9_doMeet 0 = .ok (.aload_n 0, 1) := by decide +kernel
theorem dX9_doMeet_1 : decode cX9_doMeet 1 = .ok (.iload_n 1, 1) := by decide +kernel
theorem dX9_doMeet_2 : decode cX9_doMeet 2 = .ok (.iconst 0, 1) := by decide +kernel
theorem dX9_doMeet_3 : decode cX9_doMeet 3 = .ok (.invokevirtual 310, 3) := by decide +kernel
theorem dX9_doMeet_6 : decode cX9_doMeet 6 = .ok (.ifCond .le 37, 3) := by decide +kernel
theorem dX9_doMeet_9 : decode cX9_doMeet 9 = .ok (.aload_n 0, 1) := by decide +kernel
theorem dX9_doMeet_10 : decode cX9_doMeet 10 = .ok (.iload_n 1, 1) := by decide +kernel
theorem dX9_doMeet_11 : decode cX9_doMeet 11 = .ok (.iconst 0, 1) := by decide +kernel
theorem dX9_doMeet_12 : decode cX9_doMeet 12 = .ok (.invokevirtual 310, 3) := by decide +kernel
theorem dX9_doMeet_15 : decode cX9_doMeet 15 = .ok (.aload_n 0, 1) := by decide +kernel
theorem dX9_doMeet_16 : decode cX9_doMeet 16 = .ok (.iload_n 2, 1) := by decide +kernel
theorem dX9_doMeet_17 : decode cX9_doMeet 17 = .ok (.iconst 0, 1) := by decide +kernel
theorem dX9_doMeet_18 : decode cX9_doMeet 18 = .ok (.invokevirtual 310, 3) := by decide +kernel
theorem dX9_doMeet_21 : decode cX9_doMeet 21 = .ok (.if_icmp .ne 22, 3) := by decide +kernel
theorem dX9_doMeet_24 : decode cX9_doMeet 24 = .ok (.aload_n 0, 1) := by decide +kernel
theorem dX9_doMeet_25 : decode cX9_doMeet 25 = .ok (.iload_n 1, 1) := by decide +kernel
theorem dX9_doMeet_26 : decode cX9_doMeet 26 = .ok (.iconst 1, 1) := by decide +kernel
theorem dX9_doMeet_27 : decode cX9_doMeet 27 = .ok (.invokevirtual 310, 3) := by decide +kernel
theorem dX9_doMeet_30 : decode cX9_doMeet 30 = .ok (.aload_n 0, 1) := by decide +kernel
theorem dX9_doMeet_31 : decode cX9_doMeet 31 = .ok (.iload_n 2, 1) := by decide +kernel
theorem dX9_doMeet_32 : decode cX9_doMeet 32 = .ok (.iconst 1, 1) := by decide +kernel
theorem dX9_doMeet_33 : decode cX9_doMeet 33 = .ok (.invokevirtual 310, 3) := by decide +kernel
theorem dX9_doMeet_36 : decode cX9_doMeet 36 = .ok (.if_icmp .ne 7, 3) := by decide +kernel
theorem dX9_doMeet_39 : decode cX9_doMeet 39 = .ok (.iconst 1, 1) := by decide +kernel
theorem dX9_doMeet_40 : decode cX9_doMeet 40 = .ok (.goto 4, 3) := by decide +kernel
theorem dX9_doMeet_43 : decode cX9_doMeet 43 = .ok (.iconst 0, 1) := by decide +kernel
theorem dX9_doMeet_44 : decode cX9_doMeet 44 = .ok (.ireturn, 1) := by decide +kernel
theorem dX9_meet_0 : decode cX9_meet 0 = .ok (.aload_n 0, 1) := by decide +kernel
theorem dX9_meet_1 : decode cX9_meet 1 = .ok (.invokevirtual 191, 3) := by decide +kernel
theorem dX9_meet_4 : decode cX9_meet 4 = .ok (.aload_n 0, 1) := by decide +kernel
theorem dX9_meet_5 : decode cX9_meet 5 = .ok (.iload_n 1, 1) := by decide +kernel
theorem dX9_meet_6 : decode cX9_meet 6 = .ok (.invokevirtual 353, 3) := by decide +kernel
theorem dX9_meet_9 : decode cX9_meet 9 = .ok (.ifCond .eq 33, 3) := by decide +kernel
theorem dX9_meet_12 : decode cX9_meet 12 = .ok (.aload_n 0, 1) := by decide +kernel
theorem dX9_meet_13 : decode cX9_meet 13 = .ok (.iload_n 2, 1) := by decide +kernel
theorem dX9_meet_14 : decode cX9_meet 14 = .ok (.invokevirtual 353, 3) := by decide +kernel
theorem dX9_meet_17 : decode cX9_meet 17 = .ok (.ifCond .eq 25, 3) := by decide +kernel
theorem dX9_meet_20 : decode cX9_meet 20 = .ok (.iload_n 1, 1) := by decide +kernel
theorem dX9_meet_21 : decode cX9_meet 21 = .ok (.iload_n 2, 1) := by decide +kernel
theorem dX9_meet_22 : decode cX9_meet 22 = .ok (.if_icmp .eq 20, 3) := by decide +kernel
theorem dX9_meet_25 : decode cX9_meet 25 = .ok (.aload_n 0, 1) := by decide +kernel
theorem dX9_meet_26 : decode cX9_meet 26 = .ok (.iload_n 1, 1) := by decide +kernel
theorem dX9_meet_27 : decode cX9_meet 27 = .ok (.iload_n 2, 1) := by decide +kernel
theorem dX9_meet_28 : decode cX9_meet 28 = .ok (.invokevirtual 360, 3) := by decide +kernel
theorem dX9_meet_31 : decode cX9_meet 31 = .ok (.ifCond .eq 7, 3) := by decide +kernel
theorem dX9_meet_34 : decode cX9_meet 34 = .ok (.iconst 1, 1) := by decide +kernel
theorem dX9_meet_35 : decode cX9_meet 35 = .ok (.goto 12, 3) := by decide +kernel
theorem dX9_meet_38 : decode cX9_meet 38 = .ok (.iconst 0, 1) := by decide +kernel
theorem dX9_meet_39 : decode cX9_meet 39 = .ok (.goto 8, 3) := by decide +kernel
theorem dX9_meet_42 : decode cX9_meet 42 = .ok (.aload_n 0, 1) := by decide +kernel
theorem dX9_meet_43 : decode cX9_meet 43 = .ok (.iconst 1, 1) := by decide +kernel
theorem dX9_meet_44 : decode cX9_meet 44 = .ok (.invokevirtual 194, 3) := by decide +kernel
theorem dX9_meet_47 : decode cX9_meet 47 = .ok (.ireturn, 1) := by decide +kernel
theorem dX9_off_0 : decode cX9_off 0 = .ok (.aload_n 0, 1) := by decide +kernel
theorem dX9_off_1 : decode cX9_off 1 = .ok (.invokevirtual 191, 3) := by decide +kernel
theorem dX9_off_4 : decode cX9_off 4 = .ok (.aload_n 0, 1) := by decide +kernel
theorem dX9_off_5 : decode cX9_off 5 = .ok (.getfield 204, 3) := by decide +kernel
theorem dX9_off_8 : decode cX9_off 8 = .ok (.ifCond .ne 9, 3) := by decide +kernel
theorem dX9_off_11 : decode cX9_off 11 = .ok (.aload_n 0, 1) := by decide +kernel
theorem dX9_off_12 : decode cX9_off 12 = .ok (.iconst 1, 1) := by decide +kernel
theorem dX9_off_13 : decode cX9_off 13 = .ok (.invokevirtual 194, 3) := by decide +kernel
theorem dX9_off_16 : decode cX9_off 16 = .ok (.ireturn, 1) := by decide +kernel
theorem dX9_off_17 : decode cX9_off 17 = .ok (.iconst 0, 1) := by decide +kernel
theorem dX9_off_18 : decode cX9_off 18 = .ok (.istore_n 1, 1) := by decide +kernel
theorem dX9_off_19 : decode cX9_off 19 = .ok (.iload_n 1, 1) := by decide +kernel
theorem dX9_off_20 : decode cX9_off 20 = .ok (.aload_n 0, 1) := by decide +kernel
theorem dX9_off_21 : decode cX9_off 21 = .ok (.getfield 20, 3) := by decide +kernel
theorem dX9_off_24 : decode cX9_off 24 = .ok (.iconst 4, 1) := by decide +kernel
theorem dX9_off_25 : decode cX9_off 25 = .ok (.iaload, 1) := by decide +kernel
theorem dX9_off_26 : decode cX9_off 26 = .ok (.if_icmp .ge 37, 3) := by decide +kernel
theorem dX9_off_29 : decode cX9_off 29 = .ok (.aload_n 0, 1) := by decide +kernel
theorem dX9_off_30 : decode cX9_off 30 = .ok (.iload_n 1, 1) := by decide +kernel
theorem dX9_off_31 : decode cX9_off 31 = .ok (.iconst 4, 1) := by decide +kernel
theorem dX9_off_32 : decode cX9_off 32 = .ok (.invokevirtual 335, 3) := by decide +kernel
theorem dX9_off_35 : decode cX9_off 35 = .ok (.ifCond .le 22, 3) := by decide +kernel
theorem dX9_off_38 : decode cX9_off 38 = .ok (.aload_n 0, 1) := by decide +kernel
theorem dX9_off_39 : decode cX9_off 39 = .ok (.iload_n 1, 1) := by decide +kernel
theorem dX9_off_40 : decode cX9_off 40 = .ok (.iconst 4, 1) := by decide +kernel
theorem dX9_off_41 : decode cX9_off 41 = .ok (.invokevirtual 335, 3) := by decide +kernel
theorem dX9_off_44 : decode cX9_off 44 = .ok (.iconst 1, 1) := by decide +kernel
theorem dX9_off_45 : decode cX9_off 45 = .ok (.isub, 1) := by decide +kernel
theorem dX9_off_46 : decode cX9_off 46 = .ok (.aload_n 0, 1) := by decide +kernel
theorem dX9_off_47 : decode cX9_off 47 = .ok (.iload_n 1, 1) := by decide +kernel
theorem dX9_off_48 : decode cX9_off 48 = .ok (.iconst 0, 1) := by decide +kernel
theorem dX9_off_49 : decode cX9_off 49 = .ok (.invokevirtual 310, 3) := by decide +kernel
theorem dX9_off_52 : decode cX9_off 52 = .ok (.if_icmp .eq 5, 3) := by decide +kernel
theorem dX9_off_55 : decode cX9_off 55 = .ok (.iload_n 1, 1) := by decide +kernel
theorem dX9_off_56 : decode cX9_off 56 = .ok (.ireturn, 1) := by decide +kernel
theorem dX9_off_57 : decode cX9_off 57 = .ok (.iinc 1 1, 3) := by decide +kernel
theorem dX9_off_60 : decode cX9_off 60 = .ok (.goto (-41), 3) := by decide +kernel
theorem dX9_off_63 : decode cX9_off 63 = .ok (.bipush (-2), 2) := by decide +kernel
theorem dX9_off_65 : decode cX9_off 65 = .ok (.ireturn, 1) := by decide +kernel
theorem dX9_inWhy_0 : decode cX9_inWhy 0 = .ok (.aload_n 0, 1) := by decide +kernel
theorem dX9_inWhy_1 : decode cX9_inWhy 1 = .ok (.iload_n 1, 1) := by decide +kernel
theorem dX9_inWhy_2 : decode cX9_inWhy 2 = .ok (.invokevirtual 353, 3) := by decide +kernel
theorem dX9_inWhy_5 : decode cX9_inWhy 5 = .ok (.ifCond .ne 7, 3) := by decide +kernel
theorem dX9_inWhy_8 : decode cX9_inWhy 8 = .ok (.iconst 1, 1) := by decide +kernel
theorem dX9_inWhy_9 : decode cX9_inWhy 9 = .ok (.goto 19, 3) := by decide +kernel
theorem dX9_inWhy_12 : decode cX9_inWhy 12 = .ok (.iload_n 2, 1) := by decide +kernel
theorem dX9_inWhy_13 : decode cX9_inWhy 13 = .ok (.iconst 0, 1) := by decide +kernel
theorem dX9_inWhy_14 : decode cX9_inWhy 14 = .ok (.sipush 600, 3) := by decide +kernel
theorem dX9_inWhy_17 : decode cX9_inWhy 17 = .ok (.invokestatic 170, 3) := by decide +kernel
theorem dX9_inWhy_20 : decode cX9_inWhy 20 = .ok (.ifCond .eq 7, 3) := by decide +kernel
theorem dX9_inWhy_23 : decode cX9_inWhy 23 = .ok (.iconst 0, 1) := by decide +kernel
theorem dX9_inWhy_24 : decode cX9_inWhy 24 = .ok (.goto 4, 3) := by decide +kernel
theorem dX9_inWhy_27 : decode cX9_inWhy 27 = .ok (.iconst 2, 1) := by decide +kernel
theorem dX9_inWhy_28 : decode cX9_inWhy 28 = .ok (.ireturn, 1) := by decide +kernel
theorem dX9_itsIn_0 : decode cX9_itsIn 0 = .ok (.aload_n 0, 1) := by decide +kernel
theorem dX9_itsIn_1 : decode cX9_itsIn 1 = .ok (.invokevirtual 364, 3) := by decide +kernel
theorem dX9_itsIn_4 : decode cX9_itsIn 4 = .ok (.aload_n 0, 1) := by decide +kernel
theorem dX9_itsIn_5 : decode cX9_itsIn 5 = .ok (.aload_n 0, 1) := by decide +kernel
theorem dX9_itsIn_6 : decode cX9_itsIn 6 = .ok (.getfield 38, 3) := by decide +kernel
theorem dX9_itsIn_9 : decode cX9_itsIn 9 = .ok (.iconst 0, 1) := by decide +kernel
theorem dX9_itsIn_10 : decode cX9_itsIn 10 = .ok (.laload, 1) := by decide +kernel
theorem dX9_itsIn_11 : decode cX9_itsIn 11 = .ok (.iload_n 2, 1) := by decide +kernel
theorem dX9_itsIn_12 : decode cX9_itsIn 12 = .ok (.i2l, 1) := by decide +kernel
theorem dX9_itsIn_13 : decode cX9_itsIn 13 = .ok (.aload_n 0, 1) := by decide +kernel
theorem dX9_itsIn_14 : decode cX9_itsIn 14 = .ok (.invokevirtual 307, 3) := by decide +kernel
theorem dX9_itsIn_17 : decode cX9_itsIn 17 = .ok (.i2l, 1) := by decide +kernel
theorem dX9_itsIn_18 : decode cX9_itsIn 18 = .ok (.lmul, 1) := by decide +kernel
theorem dX9_itsIn_19 : decode cX9_itsIn 19 = .ok (.ladd, 1) := by decide +kernel
theorem dX9_itsIn_20 : decode cX9_itsIn 20 = .ok (.invokevirtual 367, 3) := by decide +kernel
theorem dX9_itsIn_23 : decode cX9_itsIn 23 = .ok (.aload_n 0, 1) := by decide +kernel
theorem dX9_itsIn_24 : decode cX9_itsIn 24 = .ok (.iload_n 1, 1) := by decide +kernel
theorem dX9_itsIn_25 : decode cX9_itsIn 25 = .ok (.iload_n 3, 1) := by decide +kernel
theorem dX9_itsIn_26 : decode cX9_itsIn 26 = .ok (.invokevirtual 310, 3) := by decide +kernel
theorem dX9_itsIn_29 : decode cX9_itsIn 29 = .ok (.istore 4, 2) := by decide +kernel
theorem dX9_itsIn_31 : decode cX9_itsIn 31 = .ok (.aload_n 0, 1) := by decide +kernel
theorem dX9_itsIn_32 : decode cX9_itsIn 32 = .ok (.invokevirtual 371, 3) := by decide +kernel
theorem dX9_itsIn_35 : decode cX9_itsIn 35 = .ok (.iload 4, 2) := by decide +kernel
theorem dX9_itsIn_37 : decode cX9_itsIn 37 = .ok (.ireturn, 1) := by decide +kernel
theorem dX9_floorIn_0 : decode cX9_floorIn 0 = .ok (.aload_n 0, 1) := by decide +kernel
theorem dX9_floorIn_1 : decode cX9_floorIn 1 = .ok (.invokevirtual 191, 3) := by decide +kernel
theorem dX9_floorIn_4 : decode cX9_floorIn 4 = .ok (.aload_n 0, 1) := by decide +kernel
theorem dX9_floorIn_5 : decode cX9_floorIn 5 = .ok (.iload_n 1, 1) := by decide +kernel
theorem dX9_floorIn_6 : decode cX9_floorIn 6 = .ok (.iload_n 2, 1) := by decide +kernel
theorem dX9_floorIn_7 : decode cX9_floorIn 7 = .ok (.invokevirtual 374, 3) := by decide +kernel
theorem dX9_floorIn_10 : decode cX9_floorIn 10 = .ok (.istore_n 3, 1) := by decide +kernel
theorem dX9_floorIn_11 : decode cX9_floorIn 11 = .ok (.iload_n 3, 1) := by decide +kernel
theorem dX9_floorIn_12 : decode cX9_floorIn 12 = .ok (.ifCond .eq 11, 3) := by decide +kernel
theorem dX9_floorIn_15 : decode cX9_floorIn 15 = .ok (.aload_n 0, 1) := by decide +kernel
theorem dX9_floorIn_16 : decode cX9_floorIn 16 = .ok (.iload_n 3, 1) := by decide +kernel
theorem dX9_floorIn_17 : decode cX9_floorIn 17 = .ok (.invokevirtual 194, 3) := by decide +kernel
theorem dX9_floorIn_20 : decode cX9_floorIn 20 = .ok (.goto 10, 3) := by decide +kernel
theorem dX9_floorIn_23 : decode cX9_floorIn 23 = .ok (.aload_n 0, 1) := by decide +kernel
theorem dX9_floorIn_24 : decode cX9_floorIn 24 = .ok (.iload_n 1, 1) := by decide +kernel
theorem dX9_floorIn_25 : decode cX9_floorIn 25 = .ok (.iload_n 2, 1) := by decide +kernel
theorem dX9_floorIn_26 : decode cX9_floorIn 26 = .ok (.iconst 0, 1) := by decide +kernel
theorem dX9_floorIn_27 : decode cX9_floorIn 27 = .ok (.invokevirtual 377, 3) := by decide +kernel
theorem dX9_floorIn_30 : decode cX9_floorIn 30 = .ok (.ireturn, 1) := by decide +kernel
theorem dX9_headIn_0 : decode cX9_headIn 0 = .ok (.aload_n 0, 1) := by decide +kernel
theorem dX9_headIn_1 : decode cX9_headIn 1 = .ok (.invokevirtual 191, 3) := by decide +kernel
theorem dX9_headIn_4 : decode cX9_headIn 4 = .ok (.aload_n 0, 1) := by decide +kernel
theorem dX9_headIn_5 : decode cX9_headIn 5 = .ok (.iload_n 1, 1) := by decide +kernel
theorem dX9_headIn_6 : decode cX9_headIn 6 = .ok (.iload_n 2, 1) := by decide +kernel
theorem dX9_headIn_7 : decode cX9_headIn 7 = .ok (.invokevirtual 374, 3) := by decide +kernel
theorem dX9_headIn_10 : decode cX9_headIn 10 = .ok (.istore_n 3, 1) := by decide +kernel
theorem dX9_headIn_11 : decode cX9_headIn 11 = .ok (.iload_n 3, 1) := by decide +kernel
theorem dX9_headIn_12 : decode cX9_headIn 12 = .ok (.ifCond .eq 9, 3) := by decide +kernel
theorem dX9_headIn_15 : decode cX9_headIn 15 = .ok (.aload_n 0, 1) := by decide +kernel
theorem dX9_headIn_16 : decode cX9_headIn 16 = .ok (.iload_n 3, 1) := by decide +kernel
theorem dX9_headIn_17 : decode cX9_headIn 17 = .ok (.invokevirtual 194, 3) := by decide +kernel
theorem dX9_headIn_20 : decode cX9_headIn 20 = .ok (.ireturn, 1) := by decide +kernel
theorem dX9_headIn_21 : decode cX9_headIn 21 = .ok (.aload_n 0, 1) := by decide +kernel
theorem dX9_headIn_22 : decode cX9_headIn 22 = .ok (.iload_n 1, 1) := by decide +kernel
theorem dX9_headIn_23 : decode cX9_headIn 23 = .ok (.iload_n 2, 1) := by decide +kernel
theorem dX9_headIn_24 : decode cX9_headIn 24 = .ok (.iconst 1, 1) := by decide +kernel
theorem dX9_headIn_25 : decode cX9_headIn 25 = .ok (.invokevirtual 377, 3) := by decide +kernel
theorem dX9_headIn_28 : decode cX9_headIn 28 = .ok (.istore 4, 2) := by decide +kernel
theorem dX9_headIn_30 : decode cX9_headIn 30 = .ok (.iload 4, 2) := by decide +kernel
theorem dX9_headIn_32 : decode cX9_headIn 32 = .ok (.ifCond .ne 8, 3) := by decide +kernel
theorem dX9_headIn_35 : decode cX9_headIn 35 = .ok (.bipush (-2), 2) := by decide +kernel
theorem dX9_headIn_37 : decode cX9_headIn 37 = .ok (.goto 7, 3) := by decide +kernel
theorem dX9_headIn_40 : decode cX9_headIn 40 = .ok (.iload 4, 2) := by decide +kernel
theorem dX9_headIn_42 : decode cX9_headIn 42 = .ok (.iconst 1, 1) := by decide +kernel
theorem dX9_headIn_43 : decode cX9_headIn 43 = .ok (.isub, 1) := by decide +kernel
theorem dX9_headIn_44 : decode cX9_headIn 44 = .ok (.ireturn, 1) := by decide +kernel
theorem dX9_meetsIn_0 : decode cX9_meetsIn 0 = .ok (.aload_n 0, 1) := by decide +kernel
theorem dX9_meetsIn_1 : decode cX9_meetsIn 1 = .ok (.invokevirtual 191, 3) := by decide +kernel
theorem dX9_meetsIn_4 : decode cX9_meetsIn 4 = .ok (.aload_n 0, 1) := by decide +kernel
theorem dX9_meetsIn_5 : decode cX9_meetsIn 5 = .ok (.iload_n 1, 1) := by decide +kernel
theorem dX9_meetsIn_6 : decode cX9_meetsIn 6 = .ok (.invokevirtual 353, 3) := by decide +kernel
theorem dX9_meetsIn_9 : decode cX9_meetsIn 9 = .ok (.ifCond .eq 16, 3) := by decide +kernel
theorem dX9_meetsIn_12 : decode cX9_meetsIn 12 = .ok (.aload_n 0, 1) := by decide +kernel
theorem dX9_meetsIn_13 : decode cX9_meetsIn 13 = .ok (.iload_n 2, 1) := by decide +kernel
theorem dX9_meetsIn_14 : decode cX9_meetsIn 14 = .ok (.invokevirtual 353, 3) := by decide +kernel
theorem dX9_meetsIn_17 : decode cX9_meetsIn 17 = .ok (.ifCond .eq 8, 3) := by decide +kernel
theorem dX9_meetsIn_20 : decode cX9_meetsIn 20 = .ok (.iload_n 1, 1) := by decide +kernel
theorem dX9_meetsIn_21 : decode cX9_meetsIn 21 = .ok (.iload_n 2, 1) := by decide +kernel
theorem dX9_meetsIn_22 : decode cX9_meetsIn 22 = .ok (.if_icmp .ne 9, 3) := by decide +kernel
theorem dX9_meetsIn_25 : decode cX9_meetsIn 25 = .ok (.aload_n 0, 1) := by decide +kernel
theorem dX9_meetsIn_26 : decode cX9_meetsIn 26 = .ok (.iconst 1, 1) := by decide +kernel
theorem dX9_meetsIn_27 : decode cX9_meetsIn 27 = .ok (.invokevirtual 194, 3) := by decide +kernel
theorem dX9_meetsIn_30 : decode cX9_meetsIn 30 = .ok (.ireturn, 1) := by decide +kernel
theorem dX9_meetsIn_31 : decode cX9_meetsIn 31 = .ok (.iload_n 3, 1) := by decide +kernel
theorem dX9_meetsIn_32 : decode cX9_meetsIn 32 = .ok (.iconst 0, 1) := by decide +kernel
theorem dX9_meetsIn_33 : decode cX9_meetsIn 33 = .ok (.sipush 600, 3) := by decide +kernel
theorem dX9_meetsIn_36 : decode cX9_meetsIn 36 = .ok (.invokestatic 170, 3) := by decide +kernel
theorem dX9_meetsIn_39 : decode cX9_meetsIn 39 = .ok (.ifCond .ne 9, 3) := by decide +kernel
theorem dX9_meetsIn_42 : decode cX9_meetsIn 42 = .ok (.aload_n 0, 1) := by decide +kernel
theorem dX9_meetsIn_43 : decode cX9_meetsIn 43 = .ok (.iconst 2, 1) := by decide +kernel
theorem dX9_meetsIn_44 : decode cX9_meetsIn 44 = .ok (.invokevirtual 194, 3) := by decide +kernel
theorem dX9_meetsIn_47 : decode cX9_meetsIn 47 = .ok (.ireturn, 1) := by decide +kernel
theorem dX9_meetsIn_48 : decode cX9_meetsIn 48 = .ok (.aload_n 0, 1) := by decide +kernel
theorem dX9_meetsIn_49 : decode cX9_meetsIn 49 = .ok (.invokevirtual 364, 3) := by decide +kernel
theorem dX9_meetsIn_52 : decode cX9_meetsIn 52 = .ok (.iconst 0, 1) := by decide +kernel
theorem dX9_meetsIn_53 : decode cX9_meetsIn 53 = .ok (.istore 4, 2) := by decide +kernel
theorem dX9_meetsIn_55 : decode cX9_meetsIn 55 = .ok (.iload 4, 2) := by decide +kernel
theorem dX9_meetsIn_57 : decode cX9_meetsIn 57 = .ok (.iload_n 3, 1) := by decide +kernel
theorem dX9_meetsIn_58 : decode cX9_meetsIn 58 = .ok (.if_icmp .ge 34, 3) := by decide +kernel
theorem dX9_meetsIn_61 : decode cX9_meetsIn 61 = .ok (.aload_n 0, 1) := by decide +kernel
theorem dX9_meetsIn_62 : decode cX9_meetsIn 62 = .ok (.iload_n 1, 1) := by decide +kernel
theorem dX9_meetsIn_63 : decode cX9_meetsIn 63 = .ok (.iload_n 2, 1) := by decide +kernel
theorem dX9_meetsIn_64 : decode cX9_meetsIn 64 = .ok (.invokevirtual 360, 3) := by decide +kernel
theorem dX9_meetsIn_67 : decode cX9_meetsIn 67 = .ok (.ifCond .ne 25, 3) := by decide +kernel
theorem dX9_meetsIn_70 : decode cX9_meetsIn 70 = .ok (.aload_n 0, 1) := by decide +kernel
theorem dX9_meetsIn_71 : decode cX9_meetsIn 71 = .ok (.aload_n 0, 1) := by decide +kernel
theorem dX9_meetsIn_72 : decode cX9_meetsIn 72 = .ok (.getfield 38, 3) := by decide +kernel
theorem dX9_meetsIn_75 : decode cX9_meetsIn 75 = .ok (.iconst 0, 1) := by decide +kernel
theorem dX9_meetsIn_76 : decode cX9_meetsIn 76 = .ok (.laload, 1) := by decide +kernel
theorem dX9_meetsIn_77 : decode cX9_meetsIn 77 = .ok (.aload_n 0, 1) := by decide +kernel
theorem dX9_meetsIn_78 : decode cX9_meetsIn 78 = .ok (.invokevirtual 307, 3) := by decide +kernel
theorem dX9_meetsIn_81 : decode cX9_meetsIn 81 = .ok (.i2l, 1) := by decide +kernel
theorem dX9_meetsIn_82 : decode cX9_meetsIn 82 = .ok (.ladd, 1) := by decide +kernel
theorem dX9_meetsIn_83 : decode cX9_meetsIn 83 = .ok (.invokevirtual 367, 3) := by decide +kernel
theorem dX9_meetsIn_86 : decode cX9_meetsIn 86 = .ok (.iinc 4 1, 3) := by decide +kernel
theorem dX9_meetsIn_89 : decode cX9_meetsIn 89 = .ok (.goto (-34), 3) := by decide +kernel
theorem dX9_meetsIn_92 : decode cX9_meetsIn 92 = .ok (.aload_n 0, 1) := by decide +kernel
theorem dX9_meetsIn_93 : decode cX9_meetsIn 93 = .ok (.iload_n 1, 1) := by decide +kernel
theorem dX9_meetsIn_94 : decode cX9_meetsIn 94 = .ok (.iload_n 2, 1) := by decide +kernel
theorem dX9_meetsIn_95 : decode cX9_meetsIn 95 = .ok (.invokevirtual 360, 3) := by decide +kernel
theorem dX9_meetsIn_98 : decode cX9_meetsIn 98 = .ok (.istore 5, 2) := by decide +kernel
theorem dX9_meetsIn_100 : decode cX9_meetsIn 100 = .ok (.aload_n 0, 1) := by decide +kernel
theorem dX9_meetsIn_101 : decode cX9_meetsIn 101 = .ok (.invokevirtual 371, 3) := by decide +kernel
theorem dX9_meetsIn_104 : decode cX9_meetsIn 104 = .ok (.iload 5, 2) := by decide +kernel
theorem dX9_meetsIn_106 : decode cX9_meetsIn 106 = .ok (.ifCond .eq 8, 3) := by decide +kernel
theorem dX9_meetsIn_109 : decode cX9_meetsIn 109 = .ok (.iload 4, 2) := by decide +kernel
theorem dX9_meetsIn_111 : decode cX9_meetsIn 111 = .ok (.goto 5, 3) := by decide +kernel
theorem dX9_meetsIn_114 : decode cX9_meetsIn 114 = .ok (.bipush (-2), 2) := by decide +kernel
theorem dX9_meetsIn_116 : decode cX9_meetsIn 116 = .ok (.ireturn, 1) := by decide +kernel
theorem dX9_left_0 : decode cX9_left 0 = .ok (.aload_n 0, 1) := by decide +kernel
theorem dX9_left_1 : decode cX9_left 1 = .ok (.invokevirtual 191, 3) := by decide +kernel
theorem dX9_left_4 : decode cX9_left 4 = .ok (.aload_n 0, 1) := by decide +kernel
theorem dX9_left_5 : decode cX9_left 5 = .ok (.getfield 204, 3) := by decide +kernel
theorem dX9_left_8 : decode cX9_left 8 = .ok (.ifCond .ne 9, 3) := by decide +kernel
theorem dX9_left_11 : decode cX9_left 11 = .ok (.aload_n 0, 1) := by decide +kernel
theorem dX9_left_12 : decode cX9_left 12 = .ok (.iconst 1, 1) := by decide +kernel
theorem dX9_left_13 : decode cX9_left 13 = .ok (.invokevirtual 194, 3) := by decide +kernel
theorem dX9_left_16 : decode cX9_left 16 = .ok (.ireturn, 1) := by decide +kernel
theorem dX9_left_17 : decode cX9_left 17 = .ok (.aload_n 0, 1) := by decide +kernel
theorem dX9_left_18 : decode cX9_left 18 = .ok (.invokevirtual 364, 3) := by decide +kernel
theorem dX9_left_21 : decode cX9_left 21 = .ok (.aload_n 0, 1) := by decide +kernel
theorem dX9_left_22 : decode cX9_left 22 = .ok (.aload_n 0, 1) := by decide +kernel
theorem dX9_left_23 : decode cX9_left 23 = .ok (.getfield 20, 3) := by decide +kernel
theorem dX9_left_26 : decode cX9_left 26 = .ok (.iconst 2, 1) := by decide +kernel
theorem dX9_left_27 : decode cX9_left 27 = .ok (.iaload, 1) := by decide +kernel
theorem dX9_left_28 : decode cX9_left 28 = .ok (.i2l, 1) := by decide +kernel
theorem dX9_left_29 : decode cX9_left 29 = .ok (.aload_n 0, 1) := by decide +kernel
theorem dX9_left_30 : decode cX9_left 30 = .ok (.invokevirtual 307, 3) := by decide +kernel
theorem dX9_left_33 : decode cX9_left 33 = .ok (.i2l, 1) := by decide +kernel
theorem dX9_left_34 : decode cX9_left 34 = .ok (.lmul, 1) := by decide +kernel
theorem dX9_left_35 : decode cX9_left 35 = .ok (.invokevirtual 367, 3) := by decide +kernel
theorem dX9_left_38 : decode cX9_left 38 = .ok (.iconst 0, 1) := by decide +kernel
theorem dX9_left_39 : decode cX9_left 39 = .ok (.istore_n 1, 1) := by decide +kernel
theorem dX9_left_40 : decode cX9_left 40 = .ok (.iconst 0, 1) := by decide +kernel
theorem dX9_left_41 : decode cX9_left 41 = .ok (.istore_n 2, 1) := by decide +kernel
theorem dX9_left_42 : decode cX9_left 42 = .ok (.iload_n 2, 1) := by decide +kernel
theorem dX9_left_43 : decode cX9_left 43 = .ok (.aload_n 0, 1) := by decide +kernel
theorem dX9_left_44 : decode cX9_left 44 = .ok (.getfield 20, 3) := by decide +kernel
theorem dX9_left_47 : decode cX9_left 47 = .ok (.iconst 4, 1) := by decide +kernel
theorem dX9_left_48 : decode cX9_left 48 = .ok (.iaload, 1) := by decide +kernel
theorem dX9_left_49 : decode cX9_left 49 = .ok (.if_icmp .ge 28, 3) := by decide +kernel
theorem dX9_left_52 : decode cX9_left 52 = .ok (.iload_n 1, 1) := by decide +kernel
theorem dX9_left_53 : decode cX9_left 53 = .ok (.aload_n 0, 1) := by decide +kernel
theorem dX9_left_54 : decode cX9_left 54 = .ok (.iload_n 2, 1) := by decide +kernel
theorem dX9_left_55 : decode cX9_left 55 = .ok (.iconst 0, 1) := by decide +kernel
theorem dX9_left_56 : decode cX9_left 56 = .ok (.invokevirtual 310, 3) := by decide +kernel
theorem dX9_left_59 : decode cX9_left 59 = .ok (.ifCond .le 9, 3) := by decide +kernel
theorem dX9_left_62 : decode cX9_left 62 = .ok (.iconst 1, 1) := by decide +kernel
theorem dX9_left_63 : decode cX9_left 63 = .ok (.iload_n 2, 1) := by decide +kernel
theorem dX9_left_64 : decode cX9_left 64 = .ok (.ishl, 1) := by decide +kernel
theorem dX9_left_65 : decode cX9_left 65 = .ok (.goto 4, 3) := by decide +kernel
theorem dX9_left_68 : decode cX9_left 68 = .ok (.iconst 0, 1) := by decide +kernel
theorem dX9_left_69 : decode cX9_left 69 = .ok (.ior, 1) := by decide +kernel
theorem dX9_left_70 : decode cX9_left 70 = .ok (.istore_n 1, 1) := by decide +kernel
theorem dX9_left_71 : decode cX9_left 71 = .ok (.iinc 2 1, 3) := by decide +kernel
theorem dX9_left_74 : decode cX9_left 74 = .ok (.goto (-32), 3) := by decide +kernel
theorem dX9_left_77 : decode cX9_left 77 = .ok (.aload_n 0, 1) := by decide +kernel
theorem dX9_left_78 : decode cX9_left 78 = .ok (.invokevirtual 371, 3) := by decide +kernel
theorem dX9_left_81 : decode cX9_left 81 = .ok (.iload_n 1, 1) := by decide +kernel
theorem dX9_left_82 : decode cX9_left 82 = .ok (.ireturn, 1) := by decide +kernel
theorem dX9_woken_0 : decode cX9_woken 0 = .ok (.aload_n 0, 1) := by decide +kernel
theorem dX9_woken_1 : decode cX9_woken 1 = .ok (.invokevirtual 191, 3) := by decide +kernel
theorem dX9_woken_4 : decode cX9_woken 4 = .ok (.aload_n 0, 1) := by decide +kernel
theorem dX9_woken_5 : decode cX9_woken 5 = .ok (.iload_n 1, 1) := by decide +kernel
theorem dX9_woken_6 : decode cX9_woken 6 = .ok (.iload_n 2, 1) := by decide +kernel
theorem dX9_woken_7 : decode cX9_woken 7 = .ok (.invokevirtual 374, 3) := by decide +kernel
theorem dX9_woken_10 : decode cX9_woken 10 = .ok (.istore_n 3, 1) := by decide +kernel
theorem dX9_woken_11 : decode cX9_woken 11 = .ok (.iload_n 3, 1) := by decide +kernel
theorem dX9_woken_12 : decode cX9_woken 12 = .ok (.ifCond .eq 11, 3) := by decide +kernel
theorem dX9_woken_15 : decode cX9_woken 15 = .ok (.aload_n 0, 1) := by decide +kernel
theorem dX9_woken_16 : decode cX9_woken 16 = .ok (.iload_n 3, 1) := by decide +kernel
theorem dX9_woken_17 : decode cX9_woken 17 = .ok (.invokevirtual 194, 3) := by decide +kernel
theorem dX9_woken_20 : decode cX9_woken 20 = .ok (.goto 17, 3) := by decide +kernel
theorem dX9_woken_23 : decode cX9_woken 23 = .ok (.aload_n 0, 1) := by decide +kernel
theorem dX9_woken_24 : decode cX9_woken 24 = .ok (.iload_n 1, 1) := by decide +kernel
theorem dX9_woken_25 : decode cX9_woken 25 = .ok (.iload_n 2, 1) := by decide +kernel
theorem dX9_woken_26 : decode cX9_woken 26 = .ok (.iconst 3, 1) := by decide +kernel
theorem dX9_woken_27 : decode cX9_woken 27 = .ok (.invokevirtual 377, 3) := by decide +kernel
theorem dX9_woken_30 : decode cX9_woken 30 = .ok (.aload_n 0, 1) := by decide +kernel
theorem dX9_woken_31 : decode cX9_woken 31 = .ok (.iload_n 1, 1) := by decide +kernel
theorem dX9_woken_32 : decode cX9_woken 32 = .ok (.iconst 3, 1) := by decide +kernel
theorem dX9_woken_33 : decode cX9_woken 33 = .ok (.invokevirtual 310, 3) := by decide +kernel
theorem dX9_woken_36 : decode cX9_woken 36 = .ok (.isub, 1) := by decide +kernel
theorem dX9_woken_37 : decode cX9_woken 37 = .ok (.ireturn, 1) := by decide +kernel
theorem dX9_minutes_0 : decode cX9_minutes 0 = .ok (.aload_n 0, 1) := by decide +kernel
theorem dX9_minutes_1 : decode cX9_minutes 1 = .ok (.invokevirtual 191, 3) := by decide +kernel
theorem dX9_minutes_4 : decode cX9_minutes 4 = .ok (.aload_n 0, 1) := by decide +kernel
theorem dX9_minutes_5 : decode cX9_minutes 5 = .ok (.iload_n 1, 1) := by decide +kernel
theorem dX9_minutes_6 : decode cX9_minutes 6 = .ok (.invokevirtual 350, 3) := by decide +kernel
theorem dX9_minutes_9 : decode cX9_minutes 9 = .ok (.ifCond .eq 11, 3) := by decide +kernel
theorem dX9_minutes_12 : decode cX9_minutes 12 = .ok (.aload_n 0, 1) := by decide +kernel
theorem dX9_minutes_13 : decode cX9_minutes 13 = .ok (.iload_n 2, 1) := by decide +kernel
theorem dX9_minutes_14 : decode cX9_minutes 14 = .ok (.invokevirtual 350, 3) := by decide +kernel
theorem dX9_minutes_17 : decode cX9_minutes 17 = .ok (.ifCond .ne 10, 3) := by decide +kernel
theorem dX9_minutes_20 : decode cX9_minutes 20 = .ok (.aload_n 0, 1) := by decide +kernel
theorem dX9_minutes_21 : decode cX9_minutes 21 = .ok (.iconst 1, 1) := by decide +kernel
theorem dX9_minutes_22 : decode cX9_minutes 22 = .ok (.invokevirtual 194, 3) := by decide +kernel
theorem dX9_minutes_25 : decode cX9_minutes 25 = .ok (.i2l, 1) := by decide +kernel
theorem dX9_minutes_26 : decode cX9_minutes 26 = .ok (.lreturn, 1) := by decide +kernel
theorem dX9_minutes_27 : decode cX9_minutes 27 = .ok (.iload_n 3, 1) := by decide +kernel
theorem dX9_minutes_28 : decode cX9_minutes 28 = .ok (.iconst 0, 1) := by decide +kernel
theorem dX9_minutes_29 : decode cX9_minutes 29 = .ok (.sipush 9999, 3) := by decide +kernel
theorem dX9_minutes_32 : decode cX9_minutes 32 = .ok (.invokestatic 170, 3) := by decide +kernel
theorem dX9_minutes_35 : decode cX9_minutes 35 = .ok (.ifCond .eq 26, 3) := by decide +kernel
theorem dX9_minutes_38 : decode cX9_minutes 38 = .ok (.iload_n 3, 1) := by decide +kernel
theorem dX9_minutes_39 : decode cX9_minutes 39 = .ok (.i2l, 1) := by decide +kernel
theorem dX9_minutes_40 : decode cX9_minutes 40 = .ok (.aload_n 0, 1) := by decide +kernel
theorem dX9_minutes_41 : decode cX9_minutes 41 = .ok (.iload_n 2, 1) := by decide +kernel
theorem dX9_minutes_42 : decode cX9_minutes 42 = .ok (.invokevirtual 304, 3) := by decide +kernel
theorem dX9_minutes_45 : decode cX9_minutes 45 = .ok (.i2l, 1) := by decide +kernel
theorem dX9_minutes_46 : decode cX9_minutes 46 = .ok (.lmul, 1) := by decide +kernel
theorem dX9_minutes_47 : decode cX9_minutes 47 = .ok (.aload_n 0, 1) := by decide +kernel
theorem dX9_minutes_48 : decode cX9_minutes 48 = .ok (.iload_n 1, 1) := by decide +kernel
theorem dX9_minutes_49 : decode cX9_minutes 49 = .ok (.invokevirtual 304, 3) := by decide +kernel
theorem dX9_minutes_52 : decode cX9_minutes 52 = .ok (.i2l, 1) := by decide +kernel
theorem dX9_minutes_53 : decode cX9_minutes 53 = .ok (.iload 4, 2) := by decide +kernel
theorem dX9_minutes_55 : decode cX9_minutes 55 = .ok (.invokestatic 356, 3) := by decide +kernel
theorem dX9_minutes_58 : decode cX9_minutes 58 = .ok (.goto 9, 3) := by decide +kernel
theorem dX9_minutes_61 : decode cX9_minutes 61 = .ok (.aload_n 0, 1) := by decide +kernel
theorem dX9_minutes_62 : decode cX9_minutes 62 = .ok (.iconst 2, 1) := by decide +kernel
theorem dX9_minutes_63 : decode cX9_minutes 63 = .ok (.invokevirtual 194, 3) := by decide +kernel
theorem dX9_minutes_66 : decode cX9_minutes 66 = .ok (.i2l, 1) := by decide +kernel
theorem dX9_minutes_67 : decode cX9_minutes 67 = .ok (.lreturn, 1) := by decide +kernel
theorem dX9_awakeIn_0 : decode cX9_awakeIn 0 = .ok (.aload_n 0, 1) := by decide +kernel
theorem dX9_awakeIn_1 : decode cX9_awakeIn 1 = .ok (.invokevirtual 191, 3) := by decide +kernel
theorem dX9_awakeIn_4 : decode cX9_awakeIn 4 = .ok (.aload_n 0, 1) := by decide +kernel
theorem dX9_awakeIn_5 : decode cX9_awakeIn 5 = .ok (.iload_n 1, 1) := by decide +kernel
theorem dX9_awakeIn_6 : decode cX9_awakeIn 6 = .ok (.iload_n 2, 1) := by decide +kernel
theorem dX9_awakeIn_7 : decode cX9_awakeIn 7 = .ok (.invokevirtual 374, 3) := by decide +kernel
theorem dX9_awakeIn_10 : decode cX9_awakeIn 10 = .ok (.istore_n 3, 1) := by decide +kernel
theorem dX9_awakeIn_11 : decode cX9_awakeIn 11 = .ok (.iload_n 3, 1) := by decide +kernel
theorem dX9_awakeIn_12 : decode cX9_awakeIn 12 = .ok (.ifCond .eq 9, 3) := by decide +kernel
theorem dX9_awakeIn_15 : decode cX9_awakeIn 15 = .ok (.aload_n 0, 1) := by decide +kernel
theorem dX9_awakeIn_16 : decode cX9_awakeIn 16 = .ok (.iload_n 3, 1) := by decide +kernel
theorem dX9_awakeIn_17 : decode cX9_awakeIn 17 = .ok (.invokevirtual 194, 3) := by decide +kernel
theorem dX9_awakeIn_20 : decode cX9_awakeIn 20 = .ok (.ireturn, 1) := by decide +kernel
theorem dX9_awakeIn_21 : decode cX9_awakeIn 21 = .ok (.aload_n 0, 1) := by decide +kernel
theorem dX9_awakeIn_22 : decode cX9_awakeIn 22 = .ok (.invokevirtual 364, 3) := by decide +kernel
theorem dX9_awakeIn_25 : decode cX9_awakeIn 25 = .ok (.iconst 0, 1) := by decide +kernel
theorem dX9_awakeIn_26 : decode cX9_awakeIn 26 = .ok (.istore 4, 2) := by decide +kernel
theorem dX9_awakeIn_28 : decode cX9_awakeIn 28 = .ok (.iload 4, 2) := by decide +kernel
theorem dX9_awakeIn_30 : decode cX9_awakeIn 30 = .ok (.iload_n 2, 1) := by decide +kernel
theorem dX9_awakeIn_31 : decode cX9_awakeIn 31 = .ok (.if_icmp .ge 34, 3) := by decide +kernel
theorem dX9_awakeIn_34 : decode cX9_awakeIn 34 = .ok (.aload_n 0, 1) := by decide +kernel
theorem dX9_awakeIn_35 : decode cX9_awakeIn 35 = .ok (.iload_n 1, 1) := by decide +kernel
theorem dX9_awakeIn_36 : decode cX9_awakeIn 36 = .ok (.iconst 0, 1) := by decide +kernel
theorem dX9_awakeIn_37 : decode cX9_awakeIn 37 = .ok (.invokevirtual 310, 3) := by decide +kernel
theorem dX9_awakeIn_40 : decode cX9_awakeIn 40 = .ok (.ifCond .le 25, 3) := by decide +kernel
theorem dX9_awakeIn_43 : decode cX9_awakeIn 43 = .ok (.aload_n 0, 1) := by decide +kernel
theorem dX9_awakeIn_44 : decode cX9_awakeIn 44 = .ok (.aload_n 0, 1) := by decide +kernel
theorem dX9_awakeIn_45 : decode cX9_awakeIn 45 = .ok (.getfield 38, 3) := by decide +kernel
theorem dX9_awakeIn_48 : decode cX9_awakeIn 48 = .ok (.iconst 0, 1) := by decide +kernel
theorem dX9_awakeIn_49 : decode cX9_awakeIn 49 = .ok (.laload, 1) := by decide +kernel
theorem dX9_awakeIn_50 : decode cX9_awakeIn 50 = .ok (.aload_n 0, 1) := by decide +kernel
theorem dX9_awakeIn_51 : decode cX9_awakeIn 51 = .ok (.invokevirtual 307, 3) := by decide +kernel
theorem dX9_awakeIn_54 : decode cX9_awakeIn 54 = .ok (.i2l, 1) := by decide +kernel
theorem dX9_awakeIn_55 : decode cX9_awakeIn 55 = .ok (.ladd, 1) := by decide +kernel
theorem dX9_awakeIn_56 : decode cX9_awakeIn 56 = .ok (.invokevirtual 367, 3) := by decide +kernel
theorem dX9_awakeIn_59 : decode cX9_awakeIn 59 = .ok (.iinc 4 1, 3) := by decide +kernel
theorem dX9_awakeIn_62 : decode cX9_awakeIn 62 = .ok (.goto (-34), 3) := by decide +kernel
theorem dX9_awakeIn_65 : decode cX9_awakeIn 65 = .ok (.aload_n 0, 1) := by decide +kernel
theorem dX9_awakeIn_66 : decode cX9_awakeIn 66 = .ok (.iload_n 1, 1) := by decide +kernel
theorem dX9_awakeIn_67 : decode cX9_awakeIn 67 = .ok (.iconst 0, 1) := by decide +kernel
theorem dX9_awakeIn_68 : decode cX9_awakeIn 68 = .ok (.invokevirtual 310, 3) := by decide +kernel
theorem dX9_awakeIn_71 : decode cX9_awakeIn 71 = .ok (.ifCond .ne 7, 3) := by decide +kernel
theorem dX9_awakeIn_74 : decode cX9_awakeIn 74 = .ok (.iconst 1, 1) := by decide +kernel
theorem dX9_awakeIn_75 : decode cX9_awakeIn 75 = .ok (.goto 4, 3) := by decide +kernel
theorem dX9_awakeIn_78 : decode cX9_awakeIn 78 = .ok (.iconst 0, 1) := by decide +kernel
theorem dX9_awakeIn_79 : decode cX9_awakeIn 79 = .ok (.istore 5, 2) := by decide +kernel
theorem dX9_awakeIn_81 : decode cX9_awakeIn 81 = .ok (.aload_n 0, 1) := by decide +kernel
theorem dX9_awakeIn_82 : decode cX9_awakeIn 82 = .ok (.invokevirtual 371, 3) := by decide +kernel
theorem dX9_awakeIn_85 : decode cX9_awakeIn 85 = .ok (.iload 5, 2) := by decide +kernel
theorem dX9_awakeIn_87 : decode cX9_awakeIn 87 = .ok (.ifCond .eq 8, 3) := by decide +kernel
theorem dX9_awakeIn_90 : decode cX9_awakeIn 90 = .ok (.iload 4, 2) := by decide +kernel
theorem dX9_awakeIn_92 : decode cX9_awakeIn 92 = .ok (.goto 5, 3) := by decide +kernel
theorem dX9_awakeIn_95 : decode cX9_awakeIn 95 = .ok (.bipush (-2), 2) := by decide +kernel
theorem dX9_awakeIn_97 : decode cX9_awakeIn 97 = .ok (.ireturn, 1) := by decide +kernel
theorem dX9_lonely_0 : decode cX9_lonely 0 = .ok (.aload_n 0, 1) := by decide +kernel
theorem dX9_lonely_1 : decode cX9_lonely 1 = .ok (.invokevirtual 191, 3) := by decide +kernel
theorem dX9_lonely_4 : decode cX9_lonely 4 = .ok (.aload_n 0, 1) := by decide +kernel
theorem dX9_lonely_5 : decode cX9_lonely 5 = .ok (.iload_n 1, 1) := by decide +kernel
theorem dX9_lonely_6 : decode cX9_lonely 6 = .ok (.iload_n 2, 1) := by decide +kernel
theorem dX9_lonely_7 : decode cX9_lonely 7 = .ok (.invokevirtual 374, 3) := by decide +kernel
theorem dX9_lonely_10 : decode cX9_lonely 10 = .ok (.istore_n 3, 1) := by decide +kernel
theorem dX9_lonely_11 : decode cX9_lonely 11 = .ok (.iload_n 3, 1) := by decide +kernel
theorem dX9_lonely_12 : decode cX9_lonely 12 = .ok (.ifCond .eq 9, 3) := by decide +kernel
theorem dX9_lonely_15 : decode cX9_lonely 15 = .ok (.aload_n 0, 1) := by decide +kernel
theorem dX9_lonely_16 : decode cX9_lonely 16 = .ok (.iload_n 3, 1) := by decide +kernel
theorem dX9_lonely_17 : decode cX9_lonely 17 = .ok (.invokevirtual 194, 3) := by decide +kernel
theorem dX9_lonely_20 : decode cX9_lonely 20 = .ok (.ireturn, 1) := by decide +kernel
theorem dX9_lonely_21 : decode cX9_lonely 21 = .ok (.aload_n 0, 1) := by decide +kernel
theorem dX9_lonely_22 : decode cX9_lonely 22 = .ok (.invokevirtual 364, 3) := by decide +kernel
theorem dX9_lonely_25 : decode cX9_lonely 25 = .ok (.iconst 0, 1) := by decide +kernel
theorem dX9_lonely_26 : decode cX9_lonely 26 = .ok (.istore 4, 2) := by decide +kernel
theorem dX9_lonely_28 : decode cX9_lonely 28 = .ok (.iconst 0, 1) := by decide +kernel
theorem dX9_lonely_29 : decode cX9_lonely 29 = .ok (.istore 5, 2) := by decide +kernel
theorem dX9_lonely_31 : decode cX9_lonely 31 = .ok (.iload 5, 2) := by decide +kernel
theorem dX9_lonely_33 : decode cX9_lonely 33 = .ok (.iload_n 2, 1) := by decide +kernel
theorem dX9_lonely_34 : decode cX9_lonely 34 = .ok (.if_icmp .ge 104, 3) := by decide +kernel
theorem dX9_lonely_37 : decode cX9_lonely 37 = .ok (.aload_n 0, 1) := by decide +kernel
theorem dX9_lonely_38 : decode cX9_lonely 38 = .ok (.aload_n 0, 1) := by decide +kernel
theorem dX9_lonely_39 : decode cX9_lonely 39 = .ok (.getfield 38, 3) := by decide +kernel
theorem dX9_lonely_42 : decode cX9_lonely 42 = .ok (.iconst 0, 1) := by decide +kernel
theorem dX9_lonely_43 : decode cX9_lonely 43 = .ok (.laload, 1) := by decide +kernel
theorem dX9_lonely_44 : decode cX9_lonely 44 = .ok (.aload_n 0, 1) := by decide +kernel
theorem dX9_lonely_45 : decode cX9_lonely 45 = .ok (.invokevirtual 307, 3) := by decide +kernel
theorem dX9_lonely_48 : decode cX9_lonely 48 = .ok (.i2l, 1) := by decide +kernel
theorem dX9_lonely_49 : decode cX9_lonely 49 = .ok (.ladd, 1) := by decide +kernel
theorem dX9_lonely_50 : decode cX9_lonely 50 = .ok (.invokevirtual 367, 3) := by decide +kernel
theorem dX9_lonely_53 : decode cX9_lonely 53 = .ok (.aload_n 0, 1) := by decide +kernel
theorem dX9_lonely_54 : decode cX9_lonely 54 = .ok (.iload_n 1, 1) := by decide +kernel
theorem dX9_lonely_55 : decode cX9_lonely 55 = .ok (.iconst 0, 1) := by decide +kernel
theorem dX9_lonely_56 : decode cX9_lonely 56 = .ok (.invokevirtual 310, 3) := by decide +kernel
theorem dX9_lonely_59 : decode cX9_lonely 59 = .ok (.ifCond .le 7, 3) := by decide +kernel
theorem dX9_lonely_62 : decode cX9_lonely 62 = .ok (.iconst 1, 1) := by decide +kernel
theorem dX9_lonely_63 : decode cX9_lonely 63 = .ok (.goto 4, 3) := by decide +kernel
theorem dX9_lonely_66 : decode cX9_lonely 66 = .ok (.iconst 0, 1) := by decide +kernel
theorem dX9_lonely_67 : decode cX9_lonely 67 = .ok (.istore 6, 2) := by decide +kernel
theorem dX9_lonely_69 : decode cX9_lonely 69 = .ok (.iconst 0, 1) := by decide +kernel
theorem dX9_lonely_70 : decode cX9_lonely 70 = .ok (.istore 7, 2) := by decide +kernel
theorem dX9_lonely_72 : decode cX9_lonely 72 = .ok (.iload 7, 2) := by decide +kernel
theorem dX9_lonely_74 : decode cX9_lonely 74 = .ok (.aload_n 0, 1) := by decide +kernel
theorem dX9_lonely_75 : decode cX9_lonely 75 = .ok (.getfield 20, 3) := by decide +kernel
theorem dX9_lonely_78 : decode cX9_lonely 78 = .ok (.iconst 4, 1) := by decide +kernel
theorem dX9_lonely_79 : decode cX9_lonely 79 = .ok (.iaload, 1) := by decide +kernel
theorem dX9_lonely_80 : decode cX9_lonely 80 = .ok (.if_icmp .ge 37, 3) := by decide +kernel
theorem dX9_lonely_83 : decode cX9_lonely 83 = .ok (.iload 6, 2) := by decide +kernel
theorem dX9_lonely_85 : decode cX9_lonely 85 = .ok (.ifCond .eq 23, 3) := by decide +kernel
theorem dX9_lonely_88 : decode cX9_lonely 88 = .ok (.iload 7, 2) := by decide +kernel
theorem dX9_lonely_90 : decode cX9_lonely 90 = .ok (.iload_n 1, 1) := by decide +kernel
theorem dX9_lonely_91 : decode cX9_lonely 91 = .ok (.if_icmp .eq 13, 3) := by decide +kernel
theorem dX9_lonely_94 : decode cX9_lonely 94 = .ok (.aload_n 0, 1) := by decide +kernel
theorem dX9_lonely_95 : decode cX9_lonely 95 = .ok (.iload_n 1, 1) := by decide +kernel
theorem dX9_lonely_96 : decode cX9_lonely 96 = .ok (.iload 7, 2) := by decide +kernel
theorem dX9_lonely_98 : decode cX9_lonely 98 = .ok (.invokevirtual 360, 3) := by decide +kernel
theorem dX9_lonely_101 : decode cX9_lonely 101 = .ok (.ifCond .ne 7, 3) := by decide +kernel
theorem dX9_lonely_104 : decode cX9_lonely 104 = .ok (.iconst 1, 1) := by decide +kernel
theorem dX9_lonely_105 : decode cX9_lonely 105 = .ok (.goto 4, 3) := by decide +kernel
theorem dX9_lonely_108 : decode cX9_lonely 108 = .ok (.iconst 0, 1) := by decide +kernel
theorem dX9_lonely_109 : decode cX9_lonely 109 = .ok (.istore 6, 2) := by decide +kernel
theorem dX9_lonely_111 : decode cX9_lonely 111 = .ok (.iinc 7 1, 3) := by decide +kernel
theorem dX9_lonely_114 : decode cX9_lonely 114 = .ok (.goto (-42), 3) := by decide +kernel
theorem dX9_lonely_117 : decode cX9_lonely 117 = .ok (.iload 4, 2) := by decide +kernel
theorem dX9_lonely_119 : decode cX9_lonely 119 = .ok (.iload 6, 2) := by decide +kernel
theorem dX9_lonely_121 : decode cX9_lonely 121 = .ok (.ifCond .eq 7, 3) := by decide +kernel
theorem dX9_lonely_124 : decode cX9_lonely 124 = .ok (.iconst 1, 1) := by decide +kernel
theorem dX9_lonely_125 : decode cX9_lonely 125 = .ok (.goto 4, 3) := by decide +kernel
theorem dX9_lonely_128 : decode cX9_lonely 128 = .ok (.iconst 0, 1) := by decide +kernel
theorem dX9_lonely_129 : decode cX9_lonely 129 = .ok (.iadd, 1) := by decide +kernel
theorem dX9_lonely_130 : decode cX9_lonely 130 = .ok (.istore 4, 2) := by decide +kernel
theorem dX9_lonely_132 : decode cX9_lonely 132 = .ok (.iinc 5 1, 3) := by decide +kernel
theorem dX9_lonely_135 : decode cX9_lonely 135 = .ok (.goto (-104), 3) := by decide +kernel
theorem dX9_lonely_138 : decode cX9_lonely 138 = .ok (.aload_n 0, 1) := by decide +kernel
theorem dX9_lonely_139 : decode cX9_lonely 139 = .ok (.invokevirtual 371, 3) := by decide +kernel
theorem dX9_lonely_142 : decode cX9_lonely 142 = .ok (.iload 4, 2) := by decide +kernel
theorem dX9_lonely_144 : decode cX9_lonely 144 = .ok (.ireturn, 1) := by decide +kernel
theorem dX9_crowdNow_0 : decode cX9_crowdNow 0 = .ok (.iconst 0, 1) := by decide +kernel
theorem dX9_crowdNow_1 : decode cX9_crowdNow 1 = .ok (.istore_n 1, 1) := by decide +kernel
theorem dX9_crowdNow_2 : decode cX9_crowdNow 2 = .ok (.iconst 0, 1) := by decide +kernel
theorem dX9_crowdNow_3 : decode cX9_crowdNow 3 = .ok (.istore_n 2, 1) := by decide +kernel
theorem dX9_crowdNow_4 : decode cX9_crowdNow 4 = .ok (.iload_n 2, 1) := by decide +kernel
theorem dX9_crowdNow_5 : decode cX9_crowdNow 5 = .ok (.aload_n 0, 1) := by decide +kernel
theorem dX9_crowdNow_6 : decode cX9_crowdNow 6 = .ok (.getfield 20, 3) := by decide +kernel
theorem dX9_crowdNow_9 : decode cX9_crowdNow 9 = .ok (.iconst 4, 1) := by decide +kernel
theorem dX9_crowdNow_10 : decode cX9_crowdNow 10 = .ok (.iaload, 1) := by decide +kernel
theorem dX9_crowdNow_11 : decode cX9_crowdNow 11 = .ok (.if_icmp .ge 79, 3) := by decide +kernel
theorem dX9_crowdNow_14 : decode cX9_crowdNow 14 = .ok (.aload_n 0, 1) := by decide +kernel
theorem dX9_crowdNow_15 : decode cX9_crowdNow 15 = .ok (.iload_n 2, 1) := by decide +kernel
theorem dX9_crowdNow_16 : decode cX9_crowdNow 16 = .ok (.iconst 0, 1) := by decide +kernel
theorem dX9_crowdNow_17 : decode cX9_crowdNow 17 = .ok (.invokevirtual 310, 3) := by decide +kernel
theorem dX9_crowdNow_20 : decode cX9_crowdNow 20 = .ok (.ifCond .le 7, 3) := by decide +kernel
theorem dX9_crowdNow_23 : decode cX9_crowdNow 23 = .ok (.iconst 1, 1) := by decide +kernel
theorem dX9_crowdNow_24 : decode cX9_crowdNow 24 = .ok (.goto 4, 3) := by decide +kernel
theorem dX9_crowdNow_27 : decode cX9_crowdNow 27 = .ok (.iconst 0, 1) := by decide +kernel
theorem dX9_crowdNow_28 : decode cX9_crowdNow 28 = .ok (.istore_n 3, 1) := by decide +kernel
theorem dX9_crowdNow_29 : decode cX9_crowdNow 29 = .ok (.iconst 0, 1) := by decide +kernel
theorem dX9_crowdNow_30 : decode cX9_crowdNow 30 = .ok (.istore 4, 2) := by decide +kernel
theorem dX9_crowdNow_32 : decode cX9_crowdNow 32 = .ok (.iload 4, 2) := by decide +kernel
theorem dX9_crowdNow_34 : decode cX9_crowdNow 34 = .ok (.aload_n 0, 1) := by decide +kernel
theorem dX9_crowdNow_35 : decode cX9_crowdNow 35 = .ok (.getfield 20, 3) := by decide +kernel
theorem dX9_crowdNow_38 : decode cX9_crowdNow 38 = .ok (.iconst 4, 1) := by decide +kernel
theorem dX9_crowdNow_39 : decode cX9_crowdNow 39 = .ok (.iaload, 1) := by decide +kernel
theorem dX9_crowdNow_40 : decode cX9_crowdNow 40 = .ok (.if_icmp .ge 33, 3) := by decide +kernel
theorem dX9_crowdNow_43 : decode cX9_crowdNow 43 = .ok (.iload_n 3, 1) := by decide +kernel
theorem dX9_crowdNow_44 : decode cX9_crowdNow 44 = .ok (.iload 4, 2) := by decide +kernel
theorem dX9_crowdNow_46 : decode cX9_crowdNow 46 = .ok (.iload_n 2, 1) := by decide +kernel
theorem dX9_crowdNow_47 : decode cX9_crowdNow 47 = .ok (.if_icmp .eq 17, 3) := by decide +kernel
theorem dX9_crowdNow_50 : decode cX9_crowdNow 50 = .ok (.aload_n 0, 1) := by decide +kernel
theorem dX9_crowdNow_51 : decode cX9_crowdNow 51 = .ok (.iload_n 2, 1) := by decide +kernel
theorem dX9_crowdNow_52 : decode cX9_crowdNow 52 = .ok (.iload 4, 2) := by decide +kernel
theorem dX9_crowdNow_54 : decode cX9_crowdNow 54 = .ok (.invokevirtual 360, 3) := by decide +kernel
theorem dX9_crowdNow_57 : decode cX9_crowdNow 57 = .ok (.ifCond .eq 7, 3) := by decide +kernel
theorem dX9_crowdNow_60 : decode cX9_crowdNow 60 = .ok (.iconst 1, 1) := by decide +kernel
theorem dX9_crowdNow_61 : decode cX9_crowdNow 61 = .ok (.goto 4, 3) := by decide +kernel
theorem dX9_crowdNow_64 : decode cX9_crowdNow 64 = .ok (.iconst 0, 1) := by decide +kernel
theorem dX9_crowdNow_65 : decode cX9_crowdNow 65 = .ok (.iadd, 1) := by decide +kernel
theorem dX9_crowdNow_66 : decode cX9_crowdNow 66 = .ok (.istore_n 3, 1) := by decide +kernel
theorem dX9_crowdNow_67 : decode cX9_crowdNow 67 = .ok (.iinc 4 1, 3) := by decide +kernel
theorem dX9_crowdNow_70 : decode cX9_crowdNow 70 = .ok (.goto (-38), 3) := by decide +kernel
theorem dX9_crowdNow_73 : decode cX9_crowdNow 73 = .ok (.iload_n 3, 1) := by decide +kernel
theorem dX9_crowdNow_74 : decode cX9_crowdNow 74 = .ok (.iload_n 1, 1) := by decide +kernel
theorem dX9_crowdNow_75 : decode cX9_crowdNow 75 = .ok (.if_icmp .le 7, 3) := by decide +kernel
theorem dX9_crowdNow_78 : decode cX9_crowdNow 78 = .ok (.iload_n 3, 1) := by decide +kernel
theorem dX9_crowdNow_79 : decode cX9_crowdNow 79 = .ok (.goto 4, 3) := by decide +kernel
theorem dX9_crowdNow_82 : decode cX9_crowdNow 82 = .ok (.iload_n 1, 1) := by decide +kernel
theorem dX9_crowdNow_83 : decode cX9_crowdNow 83 = .ok (.istore_n 1, 1) := by decide +kernel
theorem dX9_crowdNow_84 : decode cX9_crowdNow 84 = .ok (.iinc 2 1, 3) := by decide +kernel
theorem dX9_crowdNow_87 : decode cX9_crowdNow 87 = .ok (.goto (-83), 3) := by decide +kernel
theorem dX9_crowdNow_90 : decode cX9_crowdNow 90 = .ok (.iload_n 1, 1) := by decide +kernel
theorem dX9_crowdNow_91 : decode cX9_crowdNow 91 = .ok (.ireturn, 1) := by decide +kernel
theorem dX9_crowd_0 : decode cX9_crowd 0 = .ok (.aload_n 0, 1) := by decide +kernel
theorem dX9_crowd_1 : decode cX9_crowd 1 = .ok (.invokevirtual 191, 3) := by decide +kernel
theorem dX9_crowd_4 : decode cX9_crowd 4 = .ok (.aload_n 0, 1) := by decide +kernel
theorem dX9_crowd_5 : decode cX9_crowd 5 = .ok (.getfield 204, 3) := by decide +kernel
theorem dX9_crowd_8 : decode cX9_crowd 8 = .ok (.ifCond .ne 9, 3) := by decide +kernel
theorem dX9_crowd_11 : decode cX9_crowd 11 = .ok (.aload_n 0, 1) := by decide +kernel
theorem dX9_crowd_12 : decode cX9_crowd 12 = .ok (.iconst 1, 1) := by decide +kernel
theorem dX9_crowd_13 : decode cX9_crowd 13 = .ok (.invokevirtual 194, 3) := by decide +kernel
theorem dX9_crowd_16 : decode cX9_crowd 16 = .ok (.ireturn, 1) := by decide +kernel
theorem dX9_crowd_17 : decode cX9_crowd 17 = .ok (.iload_n 1, 1) := by decide +kernel
theorem dX9_crowd_18 : decode cX9_crowd 18 = .ok (.iconst 0, 1) := by decide +kernel
theorem dX9_crowd_19 : decode cX9_crowd 19 = .ok (.sipush 600, 3) := by decide +kernel
theorem dX9_crowd_22 : decode cX9_crowd 22 = .ok (.invokestatic 170, 3) := by decide +kernel
theorem dX9_crowd_25 : decode cX9_crowd 25 = .ok (.ifCond .ne 9, 3) := by decide +kernel
theorem dX9_crowd_28 : decode cX9_crowd 28 = .ok (.aload_n 0, 1) := by decide +kernel
theorem dX9_crowd_29 : decode cX9_crowd 29 = .ok (.iconst 2, 1) := by decide +kernel
theorem dX9_crowd_30 : decode cX9_crowd 30 = .ok (.invokevirtual 194, 3) := by decide +kernel
theorem dX9_crowd_33 : decode cX9_crowd 33 = .ok (.ireturn, 1) := by decide +kernel
theorem dX9_crowd_34 : decode cX9_crowd 34 = .ok (.aload_n 0, 1) := by decide +kernel
theorem dX9_crowd_35 : decode cX9_crowd 35 = .ok (.invokevirtual 364, 3) := by decide +kernel
theorem dX9_crowd_38 : decode cX9_crowd 38 = .ok (.aload_n 0, 1) := by decide +kernel
theorem dX9_crowd_39 : decode cX9_crowd 39 = .ok (.invokevirtual 380, 3) := by decide +kernel
theorem dX9_crowd_42 : decode cX9_crowd 42 = .ok (.istore_n 2, 1) := by decide +kernel
theorem dX9_crowd_43 : decode cX9_crowd 43 = .ok (.iconst 0, 1) := by decide +kernel
theorem dX9_crowd_44 : decode cX9_crowd 44 = .ok (.istore_n 3, 1) := by decide +kernel
theorem dX9_crowd_45 : decode cX9_crowd 45 = .ok (.iload_n 3, 1) := by decide +kernel
theorem dX9_crowd_46 : decode cX9_crowd 46 = .ok (.iload_n 1, 1) := by decide +kernel
theorem dX9_crowd_47 : decode cX9_crowd 47 = .ok (.if_icmp .ge 42, 3) := by decide +kernel
theorem dX9_crowd_50 : decode cX9_crowd 50 = .ok (.aload_n 0, 1) := by decide +kernel
theorem dX9_crowd_51 : decode cX9_crowd 51 = .ok (.aload_n 0, 1) := by decide +kernel
theorem dX9_crowd_52 : decode cX9_crowd 52 = .ok (.getfield 38, 3) := by decide +kernel
theorem dX9_crowd_55 : decode cX9_crowd 55 = .ok (.iconst 0, 1) := by decide +kernel
theorem dX9_crowd_56 : decode cX9_crowd 56 = .ok (.laload, 1) := by decide +kernel
theorem dX9_crowd_57 : decode cX9_crowd 57 = .ok (.aload_n 0, 1) := by decide +kernel
theorem dX9_crowd_58 : decode cX9_crowd 58 = .ok (.invokevirtual 307, 3) := by decide +kernel
theorem dX9_crowd_61 : decode cX9_crowd 61 = .ok (.i2l, 1) := by decide +kernel
theorem dX9_crowd_62 : decode cX9_crowd 62 = .ok (.ladd, 1) := by decide +kernel
theorem dX9_crowd_63 : decode cX9_crowd 63 = .ok (.invokevirtual 367, 3) := by decide +kernel
theorem dX9_crowd_66 : decode cX9_crowd 66 = .ok (.aload_n 0, 1) := by decide +kernel
theorem dX9_crowd_67 : decode cX9_crowd 67 = .ok (.invokevirtual 380, 3) := by decide +kernel
theorem dX9_crowd_70 : decode cX9_crowd 70 = .ok (.iload_n 2, 1) := by decide +kernel
theorem dX9_crowd_71 : decode cX9_crowd 71 = .ok (.if_icmp .le 10, 3) := by decide +kernel
theorem dX9_crowd_74 : decode cX9_crowd 74 = .ok (.aload_n 0, 1) := by decide +kernel
theorem dX9_crowd_75 : decode cX9_crowd 75 = .ok (.invokevirtual 380, 3) := by decide +kernel
theorem dX9_crowd_78 : decode cX9_crowd 78 = .ok (.goto 4, 3) := by decide +kernel
theorem dX9_crowd_81 : decode cX9_crowd 81 = .ok (.iload_n 2, 1) := by decide +kernel
theorem dX9_crowd_82 : decode cX9_crowd 82 = .ok (.istore_n 2, 1) := by decide +kernel
theorem dX9_crowd_83 : decode cX9_crowd 83 = .ok (.iinc 3 1, 3) := by decide +kernel
theorem dX9_crowd_86 : decode cX9_crowd 86 = .ok (.goto (-41), 3) := by decide +kernel
theorem dX9_crowd_89 : decode cX9_crowd 89 = .ok (.aload_n 0, 1) := by decide +kernel
theorem dX9_crowd_90 : decode cX9_crowd 90 = .ok (.invokevirtual 371, 3) := by decide +kernel
theorem dX9_crowd_93 : decode cX9_crowd 93 = .ok (.iload_n 2, 1) := by decide +kernel
theorem dX9_crowd_94 : decode cX9_crowd 94 = .ok (.ireturn, 1) := by decide +kernel
theorem dX9_felt_0 : decode cX9_felt 0 = .ok (.aload_n 0, 1) := by decide +kernel
theorem dX9_felt_1 : decode cX9_felt 1 = .ok (.invokevirtual 191, 3) := by decide +kernel
theorem dX9_felt_4 : decode cX9_felt 4 = .ok (.aload_n 0, 1) := by decide +kernel
theorem dX9_felt_5 : decode cX9_felt 5 = .ok (.iload_n 2, 1) := by decide +kernel
theorem dX9_felt_6 : decode cX9_felt 6 = .ok (.invokevirtual 350, 3) := by decide +kernel
theorem dX9_felt_9 : decode cX9_felt 9 = .ok (.ifCond .eq 16, 3) := by decide +kernel
theorem dX9_felt_12 : decode cX9_felt 12 = .ok (.aload_n 0, 1) := by decide +kernel
theorem dX9_felt_13 : decode cX9_felt 13 = .ok (.iload_n 3, 1) := by decide +kernel
theorem dX9_felt_14 : decode cX9_felt 14 = .ok (.invokevirtual 350, 3) := by decide +kernel
theorem dX9_felt_17 : decode cX9_felt 17 = .ok (.ifCond .eq 8, 3) := by decide +kernel
theorem dX9_felt_20 : decode cX9_felt 20 = .ok (.iload_n 2, 1) := by decide +kernel
theorem dX9_felt_21 : decode cX9_felt 21 = .ok (.iload_n 3, 1) := by decide +kernel
theorem dX9_felt_22 : decode cX9_felt 22 = .ok (.if_icmp .lt 10, 3) := by decide +kernel
theorem dX9_felt_25 : decode cX9_felt 25 = .ok (.aload_n 0, 1) := by decide +kernel
theorem dX9_felt_26 : decode cX9_felt 26 = .ok (.iconst 1, 1) := by decide +kernel
theorem dX9_felt_27 : decode cX9_felt 27 = .ok (.invokevirtual 194, 3) := by decide +kernel
theorem dX9_felt_30 : decode cX9_felt 30 = .ok (.i2l, 1) := by decide +kernel
theorem dX9_felt_31 : decode cX9_felt 31 = .ok (.lreturn, 1) := by decide +kernel
theorem dX9_felt_32 : decode cX9_felt 32 = .ok (.iload_n 1, 1) := by decide +kernel
theorem dX9_felt_33 : decode cX9_felt 33 = .ok (.iconst 1, 1) := by decide +kernel
theorem dX9_felt_34 : decode cX9_felt 34 = .ok (.bipush 99, 2) := by decide +kernel
theorem dX9_felt_36 : decode cX9_felt 36 = .ok (.invokestatic 170, 3) := by decide +kernel
theorem dX9_felt_39 : decode cX9_felt 39 = .ok (.ifCond .eq 13, 3) := by decide +kernel
theorem dX9_felt_42 : decode cX9_felt 42 = .ok (.aload_n 0, 1) := by decide +kernel
theorem dX9_felt_43 : decode cX9_felt 43 = .ok (.iload_n 1, 1) := by decide +kernel
theorem dX9_felt_44 : decode cX9_felt 44 = .ok (.iload_n 2, 1) := by decide +kernel
theorem dX9_felt_45 : decode cX9_felt 45 = .ok (.iload_n 3, 1) := by decide +kernel
theorem dX9_felt_46 : decode cX9_felt 46 = .ok (.invokevirtual 331, 3) := by decide +kernel
theorem dX9_felt_49 : decode cX9_felt 49 = .ok (.goto 9, 3) := by decide +kernel
theorem dX9_felt_52 : decode cX9_felt 52 = .ok (.aload_n 0, 1) := by decide +kernel
theorem dX9_felt_53 : decode cX9_felt 53 = .ok (.iconst 2, 1) := by decide +kernel
theorem dX9_felt_54 : decode cX9_felt 54 = .ok (.invokevirtual 194, 3) := by decide +kernel
theorem dX9_felt_57 : decode cX9_felt 57 = .ok (.i2l, 1) := by decide +kernel
theorem dX9_felt_58 : decode cX9_felt 58 = .ok (.lreturn, 1) := by decide +kernel
theorem dX9_down_0 : decode cX9_down 0 = .ok (.lconst 0, 1) := by decide +kernel
theorem dX9_down_1 : decode cX9_down 1 = .ok (.lstore_n 3, 1) := by decide +kernel
theorem dX9_down_2 : decode cX9_down 2 = .ok (.iload_n 1, 1) := by decide +kernel
theorem dX9_down_3 : decode cX9_down 3 = .ok (.istore 5, 2) := by decide +kernel
theorem dX9_down_5 : decode cX9_down 5 = .ok (.iload 5, 2) := by decide +kernel
theorem dX9_down_7 : decode cX9_down 7 = .ok (.iload_n 2, 1) := by decide +kernel
theorem dX9_down_8 : decode cX9_down 8 = .ok (.if_icmp .ge 26, 3) := by decide +kernel
theorem dX9_down_11 : decode cX9_down 11 = .ok (.lload_n 3, 1) := by decide +kernel
theorem dX9_down_12 : decode cX9_down 12 = .ok (.aload_n 0, 1) := by decide +kernel
theorem dX9_down_13 : decode cX9_down 13 = .ok (.getfield 20, 3) := by decide +kernel
theorem dX9_down_16 : decode cX9_down 16 = .ok (.iconst 1, 1) := by decide +kernel
theorem dX9_down_17 : decode cX9_down 17 = .ok (.iaload, 1) := by decide +kernel
theorem dX9_down_18 : decode cX9_down 18 = .ok (.i2l, 1) := by decide +kernel
theorem dX9_down_19 : decode cX9_down 19 = .ok (.aload_n 0, 1) := by decide +kernel
theorem dX9_down_20 : decode cX9_down 20 = .ok (.iload 5, 2) := by decide +kernel
theorem dX9_down_22 : decode cX9_down 22 = .ok (.invokevirtual 318, 3) := by decide +kernel
theorem dX9_down_25 : decode cX9_down 25 = .ok (.lmul, 1) := by decide +kernel
theorem dX9_down_26 : decode cX9_down 26 = .ok (.ladd, 1) := by decide +kernel
theorem dX9_down_27 : decode cX9_down 27 = .ok (.lstore_n 3, 1) := by decide +kernel
theorem dX9_down_28 : decode cX9_down 28 = .ok (.iinc 5 1, 3) := by decide +kernel
theorem dX9_down_31 : decode cX9_down 31 = .ok (.goto (-26), 3) := by decide +kernel
theorem dX9_down_34 : decode cX9_down 34 = .ok (.lload_n 3, 1) := by decide +kernel
theorem dX9_down_35 : decode cX9_down 35 = .ok (.lreturn, 1) := by decide +kernel
theorem dX9_endTasks_0 : decode cX9_endTasks 0 = .ok (.aload_n 0, 1) := by decide +kernel
theorem dX9_endTasks_1 : decode cX9_endTasks 1 = .ok (.aload_n 0, 1) := by decide +kernel
theorem dX9_endTasks_2 : decode cX9_endTasks 2 = .ok (.getfield 387, 3) := by decide +kernel
theorem dX9_endTasks_5 : decode cX9_endTasks 5 = .ok (.lconst 0, 1) := by decide +kernel
theorem dX9_endTasks_6 : decode cX9_endTasks 6 = .ok (.lcmp, 1) := by decide +kernel
theorem dX9_endTasks_7 : decode cX9_endTasks 7 = .ok (.ifCond .lt 12, 3) := by decide +kernel
theorem dX9_endTasks_10 : decode cX9_endTasks 10 = .ok (.lload_n 3, 1) := by decide +kernel
theorem dX9_endTasks_11 : decode cX9_endTasks 11 = .ok (.aload_n 0, 1) := by decide +kernel
theorem dX9_endTasks_12 : decode cX9_endTasks 12 = .ok (.getfield 387, 3) := by decide +kernel
theorem dX9_endTasks_15 : decode cX9_endTasks 15 = .ok (.lcmp, 1) := by decide +kernel
theorem dX9_endTasks_16 : decode cX9_endTasks 16 = .ok (.ifCond .ge 7, 3) := by decide +kernel
theorem dX9_endTasks_19 : decode cX9_endTasks 19 = .ok (.lload_n 3, 1) := by decide +kernel
theorem dX9_endTasks_20 : decode cX9_endTasks 20 = .ok (.goto 7, 3) := by decide +kernel
theorem dX9_endTasks_23 : decode cX9_endTasks 23 = .ok (.aload_n 0, 1) := by decide +kernel
theorem dX9_endTasks_24 : decode cX9_endTasks 24 = .ok (.getfield 387, 3) := by decide +kernel
theorem dX9_endTasks_27 : decode cX9_endTasks 27 = .ok (.putfield 387, 3) := by decide +kernel
theorem dX9_endTasks_30 : decode cX9_endTasks 30 = .ok (.lload_n 3, 1) := by decide +kernel
theorem dX9_endTasks_31 : decode cX9_endTasks 31 = .ok (.aload_n 0, 1) := by decide +kernel
theorem dX9_endTasks_32 : decode cX9_endTasks 32 = .ok (.getfield 20, 3) := by decide +kernel
theorem dX9_endTasks_35 : decode cX9_endTasks 35 = .ok (.iconst 2, 1) := by decide +kernel
theorem dX9_endTasks_36 : decode cX9_endTasks 36 = .ok (.iaload, 1) := by decide +kernel
theorem dX9_endTasks_37 : decode cX9_endTasks 37 = .ok (.i2l, 1) := by decide +kernel
theorem dX9_endTasks_38 : decode cX9_endTasks 38 = .ok (.aload_n 0, 1) := by decide +kernel
theorem dX9_endTasks_39 : decode cX9_endTasks 39 = .ok (.invokevirtual 307, 3) := by decide +kernel
theorem dX9_endTasks_42 : decode cX9_endTasks 42 = .ok (.i2l, 1) := by decide +kernel
theorem dX9_endTasks_43 : decode cX9_endTasks 43 = .ok (.lmul, 1) := by decide +kernel
theorem dX9_endTasks_44 : decode cX9_endTasks 44 = .ok (.lcmp, 1) := by decide +kernel
theorem dX9_endTasks_45 : decode cX9_endTasks 45 = .ok (.ifCond .le 4, 3) := by decide +kernel
theorem dX9_endTasks_48 : decode cX9_endTasks 48 = .ok (.return_, 1) := by decide +kernel
theorem dX9_endTasks_49 : decode cX9_endTasks 49 = .ok (.aload_n 0, 1) := by decide +kernel
theorem dX9_endTasks_50 : decode cX9_endTasks 50 = .ok (.getfield 383, 3) := by decide +kernel
theorem dX9_endTasks_53 : decode cX9_endTasks 53 = .ok (.lconst 0, 1) := by decide +kernel
theorem dX9_endTasks_54 : decode cX9_endTasks 54 = .ok (.lcmp, 1) := by decide +kernel
theorem dX9_endTasks_55 : decode cX9_endTasks 55 = .ok (.ifCond .lt 32, 3) := by decide +kernel
theorem dX9_endTasks_58 : decode cX9_endTasks 58 = .ok (.lload_n 1, 1) := by decide +kernel
theorem dX9_endTasks_59 : decode cX9_endTasks 59 = .ok (.aload_n 0, 1) := by decide +kernel
theorem dX9_endTasks_60 : decode cX9_endTasks 60 = .ok (.getfield 383, 3) := by decide +kernel
theorem dX9_endTasks_63 : decode cX9_endTasks 63 = .ok (.lcmp, 1) := by decide +kernel
theorem dX9_endTasks_64 : decode cX9_endTasks 64 = .ok (.ifCond .gt 22, 3) := by decide +kernel
theorem dX9_endTasks_67 : decode cX9_endTasks 67 = .ok (.lload_n 1, 1) := by decide +kernel
theorem dX9_endTasks_68 : decode cX9_endTasks 68 = .ok (.aload_n 0, 1) := by decide +kernel
theorem dX9_endTasks_69 : decode cX9_endTasks 69 = .ok (.getfield 383, 3) := by decide +kernel
theorem dX9_endTasks_72 : decode cX9_endTasks 72 = .ok (.lcmp, 1) := by decide +kernel
theorem dX9_endTasks_73 : decode cX9_endTasks 73 = .ok (.ifCond .ne 14, 3) := by decide +kernel
theorem dX9_endTasks_76 : decode cX9_endTasks 76 = .ok (.lload 5, 2) := by decide +kernel
theorem dX9_endTasks_78 : decode cX9_endTasks 78 = .ok (.aload_n 0, 1) := by decide +kernel
theorem dX9_endTasks_79 : decode cX9_endTasks 79 = .ok (.getfield 401, 3) := by decide +kernel
theorem dX9_endTasks_82 : decode cX9_endTasks 82 = .ok (.lcmp, 1) := by decide +kernel
theorem dX9_endTasks_83 : decode cX9_endTasks 83 = .ok (.ifCond .lt 4, 3) := by decide +kernel
theorem dX9_endTasks_86 : decode cX9_endTasks 86 = .ok (.return_, 1) := by decide +kernel
theorem dX9_endTasks_87 : decode cX9_endTasks 87 = .ok (.aload_n 0, 1) := by decide +kernel
theorem dX9_endTasks_88 : decode cX9_endTasks 88 = .ok (.lload_n 1, 1) := by decide +kernel
theorem dX9_endTasks_89 : decode cX9_endTasks 89 = .ok (.putfield 383, 3) := by decide +kernel
theorem dX9_endTasks_92 : decode cX9_endTasks 92 = .ok (.aload_n 0, 1) := by decide +kernel
theorem dX9_endTasks_93 : decode cX9_endTasks 93 = .ok (.lload_n 3, 1) := by decide +kernel
theorem dX9_endTasks_94 : decode cX9_endTasks 94 = .ok (.putfield 404, 3) := by decide +kernel
theorem dX9_endTasks_97 : decode cX9_endTasks 97 = .ok (.aload_n 0, 1) := by decide +kernel
theorem dX9_endTasks_98 : decode cX9_endTasks 98 = .ok (.lload 5, 2) := by decide +kernel
theorem dX9_endTasks_100 : decode cX9_endTasks 100 = .ok (.putfield 401, 3) := by decide +kernel
theorem dX9_endTasks_103 : decode cX9_endTasks 103 = .ok (.aload_n 0, 1) := by decide +kernel
theorem dX9_endTasks_104 : decode cX9_endTasks 104 = .ok (.getfield 51, 3) := by decide +kernel
theorem dX9_endTasks_107 : decode cX9_endTasks 107 = .ok (.iconst 0, 1) := by decide +kernel
theorem dX9_endTasks_108 : decode cX9_endTasks 108 = .ok (.aload_n 0, 1) := by decide +kernel
theorem dX9_endTasks_109 : decode cX9_endTasks 109 = .ok (.getfield 54, 3) := by decide +kernel
theorem dX9_endTasks_112 : decode cX9_endTasks 112 = .ok (.iconst 0, 1) := by decide +kernel
theorem dX9_endTasks_113 : decode cX9_endTasks 113 = .ok (.aload_n 0, 1) := by decide +kernel
theorem dX9_endTasks_114 : decode cX9_endTasks 114 = .ok (.getfield 20, 3) := by decide +kernel
theorem dX9_endTasks_117 : decode cX9_endTasks 117 = .ok (.bipush 7, 2) := by decide +kernel
theorem dX9_endTasks_119 : decode cX9_endTasks 119 = .ok (.iaload, 1) := by decide +kernel
theorem dX9_endTasks_120 : decode cX9_endTasks 120 = .ok (.invokestatic 200, 3) := by decide +kernel
theorem dX9_endTasks_123 : decode cX9_endTasks 123 = .ok (.return_, 1) := by decide +kernel
theorem dX9_seekFrom_0 : decode cX9_seekFrom 0 = .ok (.iload_n 1, 1) := by decide +kernel
theorem dX9_seekFrom_1 : decode cX9_seekFrom 1 = .ok (.aload_n 0, 1) := by decide +kernel
theorem dX9_seekFrom_2 : decode cX9_seekFrom 2 = .ok (.getfield 20, 3) := by decide +kernel
theorem dX9_seekFrom_5 : decode cX9_seekFrom 5 = .ok (.bipush 7, 2) := by decide +kernel
theorem dX9_seekFrom_7 : decode cX9_seekFrom 7 = .ok (.iaload, 1) := by decide +kernel
theorem dX9_seekFrom_8 : decode cX9_seekFrom 8 = .ok (.if_icmp .ne 31, 3) := by decide +kernel
theorem dX9_seekFrom_11 : decode cX9_seekFrom 11 = .ok (.aload_n 0, 1) := by decide +kernel
theorem dX9_seekFrom_12 : decode cX9_seekFrom 12 = .ok (.lload_n 3, 1) := by decide +kernel
theorem dX9_seekFrom_13 : decode cX9_seekFrom 13 = .ok (.lload 5, 2) := by decide +kernel
theorem dX9_seekFrom_15 : decode cX9_seekFrom 15 = .ok (.aload_n 0, 1) := by decide +kernel
theorem dX9_seekFrom_16 : decode cX9_seekFrom 16 = .ok (.iconst 0, 1) := by decide +kernel
theorem dX9_seekFrom_17 : decode cX9_seekFrom 17 = .ok (.iload_n 2, 1) := by decide +kernel
theorem dX9_seekFrom_18 : decode cX9_seekFrom 18 = .ok (.invokevirtual 394, 3) := by decide +kernel
theorem dX9_seekFrom_21 : decode cX9_seekFrom 21 = .ok (.ladd, 1) := by decide +kernel
theorem dX9_seekFrom_22 : decode cX9_seekFrom 22 = .ok (.lload 7, 2) := by decide +kernel
theorem dX9_seekFrom_24 : decode cX9_seekFrom 24 = .ok (.aload_n 0, 1) := by decide +kernel
theorem dX9_seekFrom_25 : decode cX9_seekFrom 25 = .ok (.getfield 20, 3) := by decide +kernel
theorem dX9_seekFrom_28 : decode cX9_seekFrom 28 = .ok (.iconst 1, 1) := by decide +kernel
theorem dX9_seekFrom_29 : decode cX9_seekFrom 29 = .ok (.iaload, 1) := by decide +kernel
theorem dX9_seekFrom_30 : decode cX9_seekFrom 30 = .ok (.i2l, 1) := by decide +kernel
theorem dX9_seekFrom_31 : decode cX9_seekFrom 31 = .ok (.iload_n 2, 1) := by decide +kernel
theorem dX9_seekFrom_32 : decode cX9_seekFrom 32 = .ok (.i2l, 1) := by decide +kernel
theorem dX9_seekFrom_33 : decode cX9_seekFrom 33 = .ok (.lmul, 1) := by decide +kernel
theorem dX9_seekFrom_34 : decode cX9_seekFrom 34 = .ok (.ladd, 1) := by decide +kernel
theorem dX9_seekFrom_35 : decode cX9_seekFrom 35 = .ok (.invokevirtual 397, 3) := by decide +kernel
theorem dX9_seekFrom_38 : decode cX9_seekFrom 38 = .ok (.return_, 1) := by decide +kernel
theorem dX9_seekFrom_39 : decode cX9_seekFrom 39 = .ok (.sipush 132, 3) := by decide +kernel
theorem dX9_seekFrom_42 : decode cX9_seekFrom 42 = .ok (.iconst 3, 1) := by decide +kernel
theorem dX9_seekFrom_43 : decode cX9_seekFrom 43 = .ok (.iload_n 1, 1) := by decide +kernel
theorem dX9_seekFrom_44 : decode cX9_seekFrom 44 = .ok (.imul, 1) := by decide +kernel
theorem dX9_seekFrom_45 : decode cX9_seekFrom 45 = .ok (.iadd, 1) := by decide +kernel
theorem dX9_seekFrom_46 : decode cX9_seekFrom 46 = .ok (.istore 9, 2) := by decide +kernel
theorem dX9_seekFrom_48 : decode cX9_seekFrom 48 = .ok (.aload_n 0, 1) := by decide +kernel
theorem dX9_seekFrom_49 : decode cX9_seekFrom 49 = .ok (.getfield 20, 3) := by decide +kernel
theorem dX9_seekFrom_52 : decode cX9_seekFrom 52 = .ok (.iload 9, 2) := by decide +kernel
theorem dX9_seekFrom_54 : decode cX9_seekFrom 54 = .ok (.iaload, 1) := by decide +kernel
theorem dX9_seekFrom_55 : decode cX9_seekFrom 55 = .ok (.istore 10, 2) := by decide +kernel
theorem dX9_seekFrom_57 : decode cX9_seekFrom 57 = .ok (.iload 10, 2) := by decide +kernel
theorem dX9_seekFrom_59 : decode cX9_seekFrom 59 = .ok (.aload_n 0, 1) := by decide +kernel
theorem dX9_seekFrom_60 : decode cX9_seekFrom 60 = .ok (.getfield 20, 3) := by decide +kernel
theorem dX9_seekFrom_63 : decode cX9_seekFrom 63 = .ok (.iconst 0, 1) := by decide +kernel
theorem dX9_seekFrom_64 : decode cX9_seekFrom 64 = .ok (.iaload, 1) := by decide +kernel
theorem dX9_seekFrom_65 : decode cX9_seekFrom 65 = .ok (.if_icmp .gt 85, 3) := by decide +kernel
theorem dX9_seekFrom_68 : decode cX9_seekFrom 68 = .ok (.aload_n 0, 1) := by decide +kernel
theorem dX9_seekFrom_69 : decode cX9_seekFrom 69 = .ok (.getfield 51, 3) := by decide +kernel
theorem dX9_seekFrom_72 : decode cX9_seekFrom 72 = .ok (.iload_n 1, 1) := by decide +kernel
theorem dX9_seekFrom_73 : decode cX9_seekFrom 73 = .ok (.iload 10, 2) := by decide +kernel
theorem dX9_seekFrom_75 : decode cX9_seekFrom 75 = .ok (.iastore, 1) := by decide +kernel
theorem dX9_seekFrom_76 : decode cX9_seekFrom 76 = .ok (.aload_n 0, 1) := by decide +kernel
theorem dX9_seekFrom_77 : decode cX9_seekFrom 77 = .ok (.iload_n 1, 1) := by decide +kernel
theorem dX9_seekFrom_78 : decode cX9_seekFrom 78 = .ok (.iconst 1, 1) := by decide +kernel
theorem dX9_seekFrom_79 : decode cX9_seekFrom 79 = .ok (.iadd, 1) := by decide +kernel
theorem dX9_seekFrom_80 : decode cX9_seekFrom 80 = .ok (.iload 10, 2) := by decide +kernel
theorem dX9_seekFrom_82 : decode cX9_seekFrom 82 = .ok (.iload_n 2, 1) := by decide +kernel
theorem dX9_seekFrom_83 : decode cX9_seekFrom 83 = .ok (.if_icmp .le 8, 3) := by decide +kernel
theorem dX9_seekFrom_86 : decode cX9_seekFrom 86 = .ok (.iload 10, 2) := by decide +kernel
theorem dX9_seekFrom_88 : decode cX9_seekFrom 88 = .ok (.goto 4, 3) := by decide +kernel
theorem dX9_seekFrom_91 : decode cX9_seekFrom 91 = .ok (.iload_n 2, 1) := by decide +kernel
theorem dX9_seekFrom_92 : decode cX9_seekFrom 92 = .ok (.lload_n 3, 1) := by decide +kernel
theorem dX9_seekFrom_93 : decode cX9_seekFrom 93 = .ok (.aload_n 0, 1) := by decide +kernel
theorem dX9_seekFrom_94 : decode cX9_seekFrom 94 = .ok (.getfield 20, 3) := by decide +kernel
theorem dX9_seekFrom_97 : decode cX9_seekFrom 97 = .ok (.iload 9, 2) := by decide +kernel
theorem dX9_seekFrom_99 : decode cX9_seekFrom 99 = .ok (.iconst 2, 1) := by decide +kernel
theorem dX9_seekFrom_100 : decode cX9_seekFrom 100 = .ok (.iadd, 1) := by decide +kernel
theorem dX9_seekFrom_101 : decode cX9_seekFrom 101 = .ok (.iaload, 1) := by decide +kernel
theorem dX9_seekFrom_102 : decode cX9_seekFrom 102 = .ok (.i2l, 1) := by decide +kernel
theorem dX9_seekFrom_103 : decode cX9_seekFrom 103 = .ok (.iload 10, 2) := by decide +kernel
theorem dX9_seekFrom_105 : decode cX9_seekFrom 105 = .ok (.i2l, 1) := by decide +kernel
theorem dX9_seekFrom_106 : decode cX9_seekFrom 106 = .ok (.lmul, 1) := by decide +kernel
theorem dX9_seekFrom_107 : decode cX9_seekFrom 107 = .ok (.ladd, 1) := by decide +kernel
theorem dX9_seekFrom_108 : decode cX9_seekFrom 108 = .ok (.lload 5, 2) := by decide +kernel
theorem dX9_seekFrom_110 : decode cX9_seekFrom 110 = .ok (.aload_n 0, 1) := by decide +kernel
theorem dX9_seekFrom_111 : decode cX9_seekFrom 111 = .ok (.getfield 20, 3) := by decide +kernel
theorem dX9_seekFrom_114 : decode cX9_seekFrom 114 = .ok (.iload 9, 2) := by decide +kernel
theorem dX9_seekFrom_116 : decode cX9_seekFrom 116 = .ok (.iconst 1, 1) := by decide +kernel
theorem dX9_seekFrom_117 : decode cX9_seekFrom 117 = .ok (.iadd, 1) := by decide +kernel
theorem dX9_seekFrom_118 : decode cX9_seekFrom 118 = .ok (.iaload, 1) := by decide +kernel
theorem dX9_seekFrom_119 : decode cX9_seekFrom 119 = .ok (.i2l, 1) := by decide +kernel
theorem dX9_seekFrom_120 : decode cX9_seekFrom 120 = .ok (.aload_n 0, 1) := by decide +kernel
theorem dX9_seekFrom_121 : decode cX9_seekFrom 121 = .ok (.iload 10, 2) := by decide +kernel
theorem dX9_seekFrom_123 : decode cX9_seekFrom 123 = .ok (.invokevirtual 318, 3) := by decide +kernel
theorem dX9_seekFrom_126 : decode cX9_seekFrom 126 = .ok (.lmul, 1) := by decide +kernel
theorem dX9_seekFrom_127 : decode cX9_seekFrom 127 = .ok (.ladd, 1) := by decide +kernel
theorem dX9_seekFrom_128 : decode cX9_seekFrom 128 = .ok (.lload 7, 2) := by decide +kernel
theorem dX9_seekFrom_130 : decode cX9_seekFrom 130 = .ok (.aload_n 0, 1) := by decide +kernel
theorem dX9_seekFrom_131 : decode cX9_seekFrom 131 = .ok (.getfield 20, 3) := by decide +kernel
theorem dX9_seekFrom_134 : decode cX9_seekFrom 134 = .ok (.iload 9, 2) := by decide +kernel
theorem dX9_seekFrom_136 : decode cX9_seekFrom 136 = .ok (.iconst 1, 1) := by decide +kernel
theorem dX9_seekFrom_137 : decode cX9_seekFrom 137 = .ok (.iadd, 1) := by decide +kernel
theorem dX9_seekFrom_138 : decode cX9_seekFrom 138 = .ok (.iaload, 1) := by decide +kernel
theorem dX9_seekFrom_139 : decode cX9_seekFrom 139 = .ok (.i2l, 1) := by decide +kernel
theorem dX9_seekFrom_140 : decode cX9_seekFrom 140 = .ok (.ladd, 1) := by decide +kernel
theorem dX9_seekFrom_141 : decode cX9_seekFrom 141 = .ok (.invokevirtual 390, 3) := by decide +kernel
theorem dX9_seekFrom_144 : decode cX9_seekFrom 144 = .ok (.iinc 10 1, 3) := by decide +kernel
theorem dX9_seekFrom_147 : decode cX9_seekFrom 147 = .ok (.goto (-90), 3) := by decide +kernel
theorem dX9_seekFrom_150 : decode cX9_seekFrom 150 = .ok (.return_, 1) := by decide +kernel
theorem dX9_seekTasks_0 : decode cX9_seekTasks 0 = .ok (.aload_n 0, 1) := by decide +kernel
theorem dX9_seekTasks_1 : decode cX9_seekTasks 1 = .ok (.ldc2_w 316, 3) := by decide +kernel
theorem dX9_seekTasks_4 : decode cX9_seekTasks 4 = .ok (.putfield 383, 3) := by decide +kernel
theorem dX9_seekTasks_7 : decode cX9_seekTasks 7 = .ok (.aload_n 0, 1) := by decide +kernel
theorem dX9_seekTasks_8 : decode cX9_seekTasks 8 = .ok (.ldc2_w 316, 3) := by decide +kernel
theorem dX9_seekTasks_11 : decode cX9_seekTasks 11 = .ok (.putfield 387, 3) := by decide +kernel
theorem dX9_seekTasks_14 : decode cX9_seekTasks 14 = .ok (.aload_n 0, 1) := by decide +kernel
theorem dX9_seekTasks_15 : decode cX9_seekTasks 15 = .ok (.iconst 0, 1) := by decide +kernel
theorem dX9_seekTasks_16 : decode cX9_seekTasks 16 = .ok (.iconst 0, 1) := by decide +kernel
theorem dX9_seekTasks_17 : decode cX9_seekTasks 17 = .ok (.lconst 0, 1) := by decide +kernel
theorem dX9_seekTasks_18 : decode cX9_seekTasks 18 = .ok (.lconst 0, 1) := by decide +kernel
theorem dX9_seekTasks_19 : decode cX9_seekTasks 19 = .ok (.lconst 0, 1) := by decide +kernel
theorem dX9_seekTasks_20 : decode cX9_seekTasks 20 = .ok (.invokevirtual 390, 3) := by decide +kernel
theorem dX9_seekTasks_23 : decode cX9_seekTasks 23 = .ok (.return_, 1) := by decide +kernel
theorem dX9_task_0 : decode cX9_task 0 = .ok (.aload_n 0, 1) := by decide +kernel
theorem dX9_task_1 : decode cX9_task 1 = .ok (.invokevirtual 191, 3) := by decide +kernel
theorem dX9_task_4 : decode cX9_task 4 = .ok (.aload_n 0, 1) := by decide +kernel
theorem dX9_task_5 : decode cX9_task 5 = .ok (.getfield 204, 3) := by decide +kernel
theorem dX9_task_8 : decode cX9_task 8 = .ok (.ifCond .eq 20, 3) := by decide +kernel
theorem dX9_task_11 : decode cX9_task 11 = .ok (.iload_n 1, 1) := by decide +kernel
theorem dX9_task_12 : decode cX9_task 12 = .ok (.iconst 0, 1) := by decide +kernel
theorem dX9_task_13 : decode cX9_task 13 = .ok (.aload_n 0, 1) := by decide +kernel
theorem dX9_task_14 : decode cX9_task 14 = .ok (.getfield 20, 3) := by decide +kernel
theorem dX9_task_17 : decode cX9_task 17 = .ok (.bipush 7, 2) := by decide +kernel
theorem dX9_task_19 : decode cX9_task 19 = .ok (.iaload, 1) := by decide +kernel
theorem dX9_task_20 : decode cX9_task 20 = .ok (.iconst 1, 1) := by decide +kernel
theorem dX9_task_21 : decode cX9_task 21 = .ok (.isub, 1) := by decide +kernel
theorem dX9_task_22 : decode cX9_task 22 = .ok (.invokestatic 170, 3) := by decide +kernel
theorem dX9_task_25 : decode cX9_task 25 = .ok (.ifCond .ne 9, 3) := by decide +kernel
theorem dX9_task_28 : decode cX9_task 28 = .ok (.aload_n 0, 1) := by decide +kernel
theorem dX9_task_29 : decode cX9_task 29 = .ok (.iconst 1, 1) := by decide +kernel
theorem dX9_task_30 : decode cX9_task 30 = .ok (.invokevirtual 194, 3) := by decide +kernel
theorem dX9_task_33 : decode cX9_task 33 = .ok (.ireturn, 1) := by decide +kernel
theorem dX9_task_34 : decode cX9_task 34 = .ok (.aload_n 0, 1) := by decide +kernel
theorem dX9_task_35 : decode cX9_task 35 = .ok (.invokevirtual 407, 3) := by decide +kernel
theorem dX9_task_38 : decode cX9_task 38 = .ok (.aload_n 0, 1) := by decide +kernel
theorem dX9_task_39 : decode cX9_task 39 = .ok (.getfield 383, 3) := by decide +kernel
theorem dX9_task_42 : decode cX9_task 42 = .ok (.lconst 0, 1) := by decide +kernel
theorem dX9_task_43 : decode cX9_task 43 = .ok (.lcmp, 1) := by decide +kernel
theorem dX9_task_44 : decode cX9_task 44 = .ok (.ifCond .ge 8, 3) := by decide +kernel
theorem dX9_task_47 : decode cX9_task 47 = .ok (.bipush (-2), 2) := by decide +kernel
theorem dX9_task_49 : decode cX9_task 49 = .ok (.goto 9, 3) := by decide +kernel
theorem dX9_task_52 : decode cX9_task 52 = .ok (.aload_n 0, 1) := by decide +kernel
theorem dX9_task_53 : decode cX9_task 53 = .ok (.getfield 54, 3) := by decide +kernel
theorem dX9_task_56 : decode cX9_task 56 = .ok (.iload_n 1, 1) := by decide +kernel
theorem dX9_task_57 : decode cX9_task 57 = .ok (.iaload, 1) := by decide +kernel
theorem dX9_task_58 : decode cX9_task 58 = .ok (.ireturn, 1) := by decide +kernel
theorem dX9_best_0 : decode cX9_best 0 = .ok (.aload_n 0, 1) := by decide +kernel
theorem dX9_best_1 : decode cX9_best 1 = .ok (.invokevirtual 191, 3) := by decide +kernel
theorem dX9_best_4 : decode cX9_best 4 = .ok (.aload_n 0, 1) := by decide +kernel
theorem dX9_best_5 : decode cX9_best 5 = .ok (.getfield 204, 3) := by decide +kernel
theorem dX9_best_8 : decode cX9_best 8 = .ok (.ifCond .eq 12, 3) := by decide +kernel
theorem dX9_best_11 : decode cX9_best 11 = .ok (.iload_n 1, 1) := by decide +kernel
theorem dX9_best_12 : decode cX9_best 12 = .ok (.iconst 0, 1) := by decide +kernel
theorem dX9_best_13 : decode cX9_best 13 = .ok (.iconst 2, 1) := by decide +kernel
theorem dX9_best_14 : decode cX9_best 14 = .ok (.invokestatic 170, 3) := by decide +kernel
theorem dX9_best_17 : decode cX9_best 17 = .ok (.ifCond .ne 10, 3) := by decide +kernel
theorem dX9_best_20 : decode cX9_best 20 = .ok (.aload_n 0, 1) := by decide +kernel
theorem dX9_best_21 : decode cX9_best 21 = .ok (.iconst 1, 1) := by decide +kernel
theorem dX9_best_22 : decode cX9_best 22 = .ok (.invokevirtual 194, 3) := by decide +kernel
theorem dX9_best_25 : decode cX9_best 25 = .ok (.i2l, 1) := by decide +kernel
theorem dX9_best_26 : decode cX9_best 26 = .ok (.lreturn, 1) := by decide +kernel
theorem dX9_best_27 : decode cX9_best 27 = .ok (.aload_n 0, 1) := by decide +kernel
theorem dX9_best_28 : decode cX9_best 28 = .ok (.invokevirtual 407, 3) := by decide +kernel
theorem dX9_best_31 : decode cX9_best 31 = .ok (.aload_n 0, 1) := by decide +kernel
theorem dX9_best_32 : decode cX9_best 32 = .ok (.getfield 383, 3) := by decide +kernel
theorem dX9_best_35 : decode cX9_best 35 = .ok (.lconst 0, 1) := by decide +kernel
theorem dX9_best_36 : decode cX9_best 36 = .ok (.lcmp, 1) := by decide +kernel
theorem dX9_best_37 : decode cX9_best 37 = .ok (.ifCond .ge 9, 3) := by decide +kernel
theorem dX9_best_40 : decode cX9_best 40 = .ok (.ldc2_w 410, 3) := by decide +kernel
theorem dX9_best_43 : decode cX9_best 43 = .ok (.goto 30, 3) := by decide +kernel
theorem dX9_best_46 : decode cX9_best 46 = .ok (.iload_n 1, 1) := by decide +kernel
theorem dX9_best_47 : decode cX9_best 47 = .ok (.ifCond .ne 10, 3) := by decide +kernel
theorem dX9_best_50 : decode cX9_best 50 = .ok (.aload_n 0, 1) := by decide +kernel
theorem dX9_best_51 : decode cX9_best 51 = .ok (.getfield 383, 3) := by decide +kernel
theorem dX9_best_54 : decode cX9_best 54 = .ok (.goto 19, 3) := by decide +kernel
theorem dX9_best_57 : decode cX9_best 57 = .ok (.iload_n 1, 1) := by decide +kernel
theorem dX9_best_58 : decode cX9_best 58 = .ok (.iconst 1, 1) := by decide +kernel
theorem dX9_best_59 : decode cX9_best 59 = .ok (.if_icmp .ne 10, 3) := by decide +kernel
theorem dX9_best_62 : decode cX9_best 62 = .ok (.aload_n 0, 1) := by decide +kernel
theorem dX9_best_63 : decode cX9_best 63 = .ok (.getfield 404, 3) := by decide +kernel
theorem dX9_best_66 : decode cX9_best 66 = .ok (.goto 7, 3) := by decide +kernel
theorem dX9_best_69 : decode cX9_best 69 = .ok (.aload_n 0, 1) := by decide +kernel
theorem dX9_best_70 : decode cX9_best 70 = .ok (.getfield 401, 3) := by decide +kernel
theorem dX9_best_73 : decode cX9_best 73 = .ok (.lreturn, 1) := by decide +kernel
theorem dX9_soonest_0 : decode cX9_soonest 0 = .ok (.aload_n 0, 1) := by decide +kernel
theorem dX9_soonest_1 : decode cX9_soonest 1 = .ok (.invokevirtual 191, 3) := by decide +kernel
theorem dX9_soonest_4 : decode cX9_soonest 4 = .ok (.aload_n 0, 1) := by decide +kernel
theorem dX9_soonest_5 : decode cX9_soonest 5 = .ok (.getfield 204, 3) := by decide +kernel
theorem dX9_soonest_8 : decode cX9_soonest 8 = .ok (.ifCond .ne 10, 3) := by decide +kernel
theorem dX9_soonest_11 : decode cX9_soonest 11 = .ok (.aload_n 0, 1) := by decide +kernel
theorem dX9_soonest_12 : decode cX9_soonest 12 = .ok (.iconst 1, 1) := by decide +kernel
theorem dX9_soonest_13 : decode cX9_soonest 13 = .ok (.invokevirtual 194, 3) := by decide +kernel
theorem dX9_soonest_16 : decode cX9_soonest 16 = .ok (.i2l, 1) := by decide +kernel
theorem dX9_soonest_17 : decode cX9_soonest 17 = .ok (.lreturn, 1) := by decide +kernel
theorem dX9_soonest_18 : decode cX9_soonest 18 = .ok (.aload_n 0, 1) := by decide +kernel
theorem dX9_soonest_19 : decode cX9_soonest 19 = .ok (.invokevirtual 407, 3) := by decide +kernel
theorem dX9_soonest_22 : decode cX9_soonest 22 = .ok (.aload_n 0, 1) := by decide +kernel
theorem dX9_soonest_23 : decode cX9_soonest 23 = .ok (.getfield 387, 3) := by decide +kernel
theorem dX9_soonest_26 : decode cX9_soonest 26 = .ok (.lreturn, 1) := by decide +kernel
theorem dX9_behind_0 : decode cX9_behind 0 = .ok (.iload_n 2, 1) := by decide +kernel
theorem dX9_behind_1 : decode cX9_behind 1 = .ok (.istore 4, 2) := by decide +kernel
theorem dX9_behind_3 : decode cX9_behind 3 = .ok (.iconst 0, 1) := by decide +kernel
theorem dX9_behind_4 : decode cX9_behind 4 = .ok (.istore 5, 2) := by decide +kernel
theorem dX9_behind_6 : decode cX9_behind 6 = .ok (.iconst 1, 1) := by decide +kernel
theorem dX9_behind_7 : decode cX9_behind 7 = .ok (.istore 6, 2) := by decide +kernel
theorem dX9_behind_9 : decode cX9_behind 9 = .ok (.iconst 0, 1) := by decide +kernel
theorem dX9_behind_10 : decode cX9_behind 10 = .ok (.istore 7, 2) := by decide +kernel
theorem dX9_behind_12 : decode cX9_behind 12 = .ok (.iload 7, 2) := by decide +kernel
theorem dX9_behind_14 : decode cX9_behind 14 = .ok (.aload_n 0, 1) := by decide +kernel
theorem dX9_behind_15 : decode cX9_behind 15 = .ok (.getfield 20, 3) := by decide +kernel
theorem dX9_behind_18 : decode cX9_behind 18 = .ok (.iconst 4, 1) := by decide +kernel
theorem dX9_behind_19 : decode cX9_behind 19 = .ok (.iaload, 1) := by decide +kernel
theorem dX9_behind_20 : decode cX9_behind 20 = .ok (.if_icmp .ge 64, 3) := by decide +kernel
theorem dX9_behind_23 : decode cX9_behind 23 = .ok (.iload 4, 2) := by decide +kernel
theorem dX9_behind_25 : decode cX9_behind 25 = .ok (.iconst 5, 1) := by decide +kernel
theorem dX9_behind_26 : decode cX9_behind 26 = .ok (.irem, 1) := by decide +kernel
theorem dX9_behind_27 : decode cX9_behind 27 = .ok (.istore 8, 2) := by decide +kernel
theorem dX9_behind_29 : decode cX9_behind 29 = .ok (.iload 4, 2) := by decide +kernel
theorem dX9_behind_31 : decode cX9_behind 31 = .ok (.iconst 5, 1) := by decide +kernel
theorem dX9_behind_32 : decode cX9_behind 32 = .ok (.idiv, 1) := by decide +kernel
theorem dX9_behind_33 : decode cX9_behind 33 = .ok (.istore 4, 2) := by decide +kernel
theorem dX9_behind_35 : decode cX9_behind 35 = .ok (.iload 5, 2) := by decide +kernel
theorem dX9_behind_37 : decode cX9_behind 37 = .ok (.iload 6, 2) := by decide +kernel
theorem dX9_behind_39 : decode cX9_behind 39 = .ok (.iload_n 1, 1) := by decide +kernel
theorem dX9_behind_40 : decode cX9_behind 40 = .ok (.iload 7, 2) := by decide +kernel
theorem dX9_behind_42 : decode cX9_behind 42 = .ok (.invokestatic 412, 3) := by decide +kernel
theorem dX9_behind_45 : decode cX9_behind 45 = .ok (.ifCond .eq 21, 3) := by decide +kernel
theorem dX9_behind_48 : decode cX9_behind 48 = .ok (.iload 8, 2) := by decide +kernel
theorem dX9_behind_50 : decode cX9_behind 50 = .ok (.ifCond .le 16, 3) := by decide +kernel
theorem dX9_behind_53 : decode cX9_behind 53 = .ok (.aload_n 0, 1) := by decide +kernel
theorem dX9_behind_54 : decode cX9_behind 54 = .ok (.iload 7, 2) := by decide +kernel
theorem dX9_behind_56 : decode cX9_behind 56 = .ok (.iload 8, 2) := by decide +kernel
theorem dX9_behind_58 : decode cX9_behind 58 = .ok (.iconst 0, 1) := by decide +kernel
theorem dX9_behind_59 : decode cX9_behind 59 = .ok (.iload_n 3, 1) := by decide +kernel
theorem dX9_behind_60 : decode cX9_behind 60 = .ok (.invokevirtual 338, 3) := by decide +kernel
theorem dX9_behind_63 : decode cX9_behind 63 = .ok (.goto 5, 3) := by decide +kernel
theorem dX9_behind_66 : decode cX9_behind 66 = .ok (.iload 8, 2) := by decide +kernel
theorem dX9_behind_68 : decode cX9_behind 68 = .ok (.imul, 1) := by decide +kernel
theorem dX9_behind_69 : decode cX9_behind 69 = .ok (.iadd, 1) := by decide +kernel
theorem dX9_behind_70 : decode cX9_behind 70 = .ok (.istore 5, 2) := by decide +kernel
theorem dX9_behind_72 : decode cX9_behind 72 = .ok (.iload 6, 2) := by decide +kernel
theorem dX9_behind_74 : decode cX9_behind 74 = .ok (.iconst 5, 1) := by decide +kernel
theorem dX9_behind_75 : decode cX9_behind 75 = .ok (.imul, 1) := by decide +kernel
theorem dX9_behind_76 : decode cX9_behind 76 = .ok (.istore 6, 2) := by decide +kernel
theorem dX9_behind_78 : decode cX9_behind 78 = .ok (.iinc 7 1, 3) := by decide +kernel
theorem dX9_behind_81 : decode cX9_behind 81 = .ok (.goto (-69), 3) := by decide +kernel
theorem dX9_behind_84 : decode cX9_behind 84 = .ok (.iload 5, 2) := by decide +kernel
theorem dX9_behind_86 : decode cX9_behind 86 = .ok (.ireturn, 1) := by decide +kernel
theorem dX9_doSleep_0 : decode cX9_doSleep 0 = .ok (.iconst 1, 1) := by decide +kernel
theorem dX9_doSleep_1 : decode cX9_doSleep 1 = .ok (.istore_n 3, 1) := by decide +kernel
theorem dX9_doSleep_2 : decode cX9_doSleep 2 = .ok (.iload_n 2, 1) := by decide +kernel
theorem dX9_doSleep_3 : decode cX9_doSleep 3 = .ok (.istore 4, 2) := by decide +kernel
theorem dX9_doSleep_5 : decode cX9_doSleep 5 = .ok (.iconst 0, 1) := by decide +kernel
theorem dX9_doSleep_6 : decode cX9_doSleep 6 = .ok (.istore 5, 2) := by decide +kernel
theorem dX9_doSleep_8 : decode cX9_doSleep 8 = .ok (.iload 5, 2) := by decide +kernel
theorem dX9_doSleep_10 : decode cX9_doSleep 10 = .ok (.aload_n 0, 1) := by decide +kernel
theorem dX9_doSleep_11 : decode cX9_doSleep 11 = .ok (.getfield 20, 3) := by decide +kernel
theorem dX9_doSleep_14 : decode cX9_doSleep 14 = .ok (.iconst 4, 1) := by decide +kernel
theorem dX9_doSleep_15 : decode cX9_doSleep 15 = .ok (.iaload, 1) := by decide +kernel
theorem dX9_doSleep_16 : decode cX9_doSleep 16 = .ok (.if_icmp .ge 41, 3) := by decide +kernel
theorem dX9_doSleep_19 : decode cX9_doSleep 19 = .ok (.iload_n 3, 1) := by decide +kernel
theorem dX9_doSleep_20 : decode cX9_doSleep 20 = .ok (.ifCond .eq 23, 3) := by decide +kernel
theorem dX9_doSleep_23 : decode cX9_doSleep 23 = .ok (.iload_n 1, 1) := by decide +kernel
theorem dX9_doSleep_24 : decode cX9_doSleep 24 = .ok (.iload 5, 2) := by decide +kernel
theorem dX9_doSleep_26 : decode cX9_doSleep 26 = .ok (.invokestatic 412, 3) := by decide +kernel
theorem dX9_doSleep_29 : decode cX9_doSleep 29 = .ok (.ifCond .eq 10, 3) := by decide +kernel
theorem dX9_doSleep_32 : decode cX9_doSleep 32 = .ok (.iload 4, 2) := by decide +kernel
theorem dX9_doSleep_34 : decode cX9_doSleep 34 = .ok (.iconst 5, 1) := by decide +kernel
theorem dX9_doSleep_35 : decode cX9_doSleep 35 = .ok (.irem, 1) := by decide +kernel
theorem dX9_doSleep_36 : decode cX9_doSleep 36 = .ok (.ifCond .le 7, 3) := by decide +kernel
theorem dX9_doSleep_39 : decode cX9_doSleep 39 = .ok (.iconst 1, 1) := by decide +kernel
theorem dX9_doSleep_40 : decode cX9_doSleep 40 = .ok (.goto 4, 3) := by decide +kernel
theorem dX9_doSleep_43 : decode cX9_doSleep 43 = .ok (.iconst 0, 1) := by decide +kernel
theorem dX9_doSleep_44 : decode cX9_doSleep 44 = .ok (.istore_n 3, 1) := by decide +kernel
theorem dX9_doSleep_45 : decode cX9_doSleep 45 = .ok (.iload 4, 2) := by decide +kernel
theorem dX9_doSleep_47 : decode cX9_doSleep 47 = .ok (.iconst 5, 1) := by decide +kernel
theorem dX9_doSleep_48 : decode cX9_doSleep 48 = .ok (.idiv, 1) := by decide +kernel
theorem dX9_doSleep_49 : decode cX9_doSleep 49 = .ok (.istore 4, 2) := by decide +kernel
theorem dX9_doSleep_51 : decode cX9_doSleep 51 = .ok (.iinc 5 1, 3) := by decide +kernel
theorem dX9_doSleep_54 : decode cX9_doSleep 54 = .ok (.goto (-46), 3) := by decide +kernel
theorem dX9_doSleep_57 : decode cX9_doSleep 57 = .ok (.iload_n 3, 1) := by decide +kernel
theorem dX9_doSleep_58 : decode cX9_doSleep 58 = .ok (.ireturn, 1) := by decide +kernel
theorem dX9_codeNow_0 : decode cX9_codeNow 0 = .ok (.iconst 0, 1) := by decide +kernel
theorem dX9_codeNow_1 : decode cX9_codeNow 1 = .ok (.istore_n 2, 1) := by decide +kernel
theorem dX9_codeNow_2 : decode cX9_codeNow 2 = .ok (.iconst 1, 1) := by decide +kernel
theorem dX9_codeNow_3 : decode cX9_codeNow 3 = .ok (.istore_n 3, 1) := by decide +kernel
theorem dX9_codeNow_4 : decode cX9_codeNow 4 = .ok (.iconst 0, 1) := by decide +kernel
theorem dX9_codeNow_5 : decode cX9_codeNow 5 = .ok (.istore 4, 2) := by decide +kernel
theorem dX9_codeNow_7 : decode cX9_codeNow 7 = .ok (.iload 4, 2) := by decide +kernel
theorem dX9_codeNow_9 : decode cX9_codeNow 9 = .ok (.aload_n 0, 1) := by decide +kernel
theorem dX9_codeNow_10 : decode cX9_codeNow 10 = .ok (.getfield 20, 3) := by decide +kernel
theorem dX9_codeNow_13 : decode cX9_codeNow 13 = .ok (.iconst 4, 1) := by decide +kernel
theorem dX9_codeNow_14 : decode cX9_codeNow 14 = .ok (.iaload, 1) := by decide +kernel
theorem dX9_codeNow_15 : decode cX9_codeNow 15 = .ok (.if_icmp .ge 38, 3) := by decide +kernel
theorem dX9_codeNow_18 : decode cX9_codeNow 18 = .ok (.iload_n 2, 1) := by decide +kernel
theorem dX9_codeNow_19 : decode cX9_codeNow 19 = .ok (.iload_n 3, 1) := by decide +kernel
theorem dX9_codeNow_20 : decode cX9_codeNow 20 = .ok (.iload_n 1, 1) := by decide +kernel
theorem dX9_codeNow_21 : decode cX9_codeNow 21 = .ok (.iload 4, 2) := by decide +kernel
theorem dX9_codeNow_23 : decode cX9_codeNow 23 = .ok (.invokestatic 412, 3) := by decide +kernel
theorem dX9_codeNow_26 : decode cX9_codeNow 26 = .ok (.ifCond .eq 13, 3) := by decide +kernel
theorem dX9_codeNow_29 : decode cX9_codeNow 29 = .ok (.aload_n 0, 1) := by decide +kernel
theorem dX9_codeNow_30 : decode cX9_codeNow 30 = .ok (.iload 4, 2) := by decide +kernel
theorem dX9_codeNow_32 : decode cX9_codeNow 32 = .ok (.iconst 0, 1) := by decide +kernel
theorem dX9_codeNow_33 : decode cX9_codeNow 33 = .ok (.invokevirtual 310, 3) := by decide +kernel
theorem dX9_codeNow_36 : decode cX9_codeNow 36 = .ok (.goto 4, 3) := by decide +kernel
theorem dX9_codeNow_39 : decode cX9_codeNow 39 = .ok (.iconst 0, 1) := by decide +kernel
theorem dX9_codeNow_40 : decode cX9_codeNow 40 = .ok (.imul, 1) := by decide +kernel
theorem dX9_codeNow_41 : decode cX9_codeNow 41 = .ok (.iadd, 1) := by decide +kernel
theorem dX9_codeNow_42 : decode cX9_codeNow 42 = .ok (.istore_n 2, 1) := by decide +kernel
theorem dX9_codeNow_43 : decode cX9_codeNow 43 = .ok (.iload_n 3, 1) := by decide +kernel
theorem dX9_codeNow_44 : decode cX9_codeNow 44 = .ok (.iconst 5, 1) := by decide +kernel
theorem dX9_codeNow_45 : decode cX9_codeNow 45 = .ok (.imul, 1) := by decide +kernel
theorem dX9_codeNow_46 : decode cX9_codeNow 46 = .ok (.istore_n 3, 1) := by decide +kernel
theorem dX9_codeNow_47 : decode cX9_codeNow 47 = .ok (.iinc 4 1, 3) := by decide +kernel
theorem dX9_codeNow_50 : decode cX9_codeNow 50 = .ok (.goto (-43), 3) := by decide +kernel
theorem dX9_codeNow_53 : decode cX9_codeNow 53 = .ok (.iload_n 2, 1) := by decide +kernel
theorem dX9_codeNow_54 : decode cX9_codeNow 54 = .ok (.ireturn, 1) := by decide +kernel
theorem dX9_togetherOf_0 : decode cX9_togetherOf 0 = .ok (.iconst 0, 1) := by decide +kernel
theorem dX9_togetherOf_1 : decode cX9_togetherOf 1 = .ok (.istore_n 2, 1) := by decide +kernel
theorem dX9_togetherOf_2 : decode cX9_togetherOf 2 = .ok (.iload_n 2, 1) := by decide +kernel
theorem dX9_togetherOf_3 : decode cX9_togetherOf 3 = .ok (.sipush 3125, 3) := by decide +kernel
theorem dX9_togetherOf_6 : decode cX9_togetherOf 6 = .ok (.if_icmp .ge 16, 3) := by decide +kernel
theorem dX9_togetherOf_9 : decode cX9_togetherOf 9 = .ok (.aload_n 0, 1) := by decide +kernel
theorem dX9_togetherOf_10 : decode cX9_togetherOf 10 = .ok (.getfield 63, 3) := by decide +kernel
theorem dX9_togetherOf_13 : decode cX9_togetherOf 13 = .ok (.iload_n 2, 1) := by decide +kernel
theorem dX9_togetherOf_14 : decode cX9_togetherOf 14 = .ok (.iconst (-1), 1) := by decide +kernel
theorem dX9_togetherOf_15 : decode cX9_togetherOf 15 = .ok (.iastore, 1) := by decide +kernel
theorem dX9_togetherOf_16 : decode cX9_togetherOf 16 = .ok (.iinc 2 1, 3) := by decide +kernel
theorem dX9_togetherOf_19 : decode cX9_togetherOf 19 = .ok (.goto (-17), 3) := by decide +kernel
theorem dX9_togetherOf_22 : decode cX9_togetherOf 22 = .ok (.aload_n 0, 1) := by decide +kernel
theorem dX9_togetherOf_23 : decode cX9_togetherOf 23 = .ok (.iload_n 1, 1) := by decide +kernel
theorem dX9_togetherOf_24 : decode cX9_togetherOf 24 = .ok (.invokevirtual 415, 3) := by decide +kernel
theorem dX9_togetherOf_27 : decode cX9_togetherOf 27 = .ok (.istore_n 2, 1) := by decide +kernel
theorem dX9_togetherOf_28 : decode cX9_togetherOf 28 = .ok (.aload_n 0, 1) := by decide +kernel
theorem dX9_togetherOf_29 : decode cX9_togetherOf 29 = .ok (.getfield 60, 3) := by decide +kernel
theorem dX9_togetherOf_32 : decode cX9_togetherOf 32 = .ok (.iconst 0, 1) := by decide +kernel
theorem dX9_togetherOf_33 : decode cX9_togetherOf 33 = .ok (.iload_n 2, 1) := by decide +kernel
theorem dX9_togetherOf_34 : decode cX9_togetherOf 34 = .ok (.iastore, 1) := by decide +kernel
theorem dX9_togetherOf_35 : decode cX9_togetherOf 35 = .ok (.aload_n 0, 1) := by decide +kernel
theorem dX9_togetherOf_36 : decode cX9_togetherOf 36 = .ok (.getfield 63, 3) := by decide +kernel
theorem dX9_togetherOf_39 : decode cX9_togetherOf 39 = .ok (.iload_n 2, 1) := by decide +kernel
theorem dX9_togetherOf_40 : decode cX9_togetherOf 40 = .ok (.iconst 0, 1) := by decide +kernel
theorem dX9_togetherOf_41 : decode cX9_togetherOf 41 = .ok (.iastore, 1) := by decide +kernel
theorem dX9_togetherOf_42 : decode cX9_togetherOf 42 = .ok (.aload_n 0, 1) := by decide +kernel
theorem dX9_togetherOf_43 : decode cX9_togetherOf 43 = .ok (.iconst 1, 1) := by decide +kernel
theorem dX9_togetherOf_44 : decode cX9_togetherOf 44 = .ok (.putfield 418, 3) := by decide +kernel
theorem dX9_togetherOf_47 : decode cX9_togetherOf 47 = .ok (.iconst 0, 1) := by decide +kernel
theorem dX9_togetherOf_48 : decode cX9_togetherOf 48 = .ok (.istore_n 3, 1) := by decide +kernel
theorem dX9_togetherOf_49 : decode cX9_togetherOf 49 = .ok (.iload_n 3, 1) := by decide +kernel
theorem dX9_togetherOf_50 : decode cX9_togetherOf 50 = .ok (.aload_n 0, 1) := by decide +kernel
theorem dX9_togetherOf_51 : decode cX9_togetherOf 51 = .ok (.getfield 418, 3) := by decide +kernel
theorem dX9_togetherOf_54 : decode cX9_togetherOf 54 = .ok (.if_icmp .ge 146, 3) := by decide +kernel
theorem dX9_togetherOf_57 : decode cX9_togetherOf 57 = .ok (.aload_n 0, 1) := by decide +kernel
theorem dX9_togetherOf_58 : decode cX9_togetherOf 58 = .ok (.getfield 60, 3) := by decide +kernel
theorem dX9_togetherOf_61 : decode cX9_togetherOf 61 = .ok (.iload_n 3, 1) := by decide +kernel
theorem dX9_togetherOf_62 : decode cX9_togetherOf 62 = .ok (.iaload, 1) := by decide +kernel
theorem dX9_togetherOf_63 : decode cX9_togetherOf 63 = .ok (.istore 4, 2) := by decide +kernel
theorem dX9_togetherOf_65 : decode cX9_togetherOf 65 = .ok (.iconst 1, 1) := by decide +kernel
theorem dX9_togetherOf_66 : decode cX9_togetherOf 66 = .ok (.istore 5, 2) := by decide +kernel
theorem dX9_togetherOf_68 : decode cX9_togetherOf 68 = .ok (.iload 5, 2) := by decide +kernel
theorem dX9_togetherOf_70 : decode cX9_togetherOf 70 = .ok (.bipush 10, 2) := by decide +kernel
theorem dX9_togetherOf_72 : decode cX9_togetherOf 72 = .ok (.if_icmp .ge 122, 3) := by decide +kernel
theorem dX9_togetherOf_75 : decode cX9_togetherOf 75 = .ok (.aload_n 0, 1) := by decide +kernel
theorem dX9_togetherOf_76 : decode cX9_togetherOf 76 = .ok (.iload_n 1, 1) := by decide +kernel
theorem dX9_togetherOf_77 : decode cX9_togetherOf 77 = .ok (.iload 4, 2) := by decide +kernel
theorem dX9_togetherOf_79 : decode cX9_togetherOf 79 = .ok (.iload 5, 2) := by decide +kernel
theorem dX9_togetherOf_81 : decode cX9_togetherOf 81 = .ok (.invokevirtual 421, 3) := by decide +kernel
theorem dX9_togetherOf_84 : decode cX9_togetherOf 84 = .ok (.istore 6, 2) := by decide +kernel
theorem dX9_togetherOf_86 : decode cX9_togetherOf 86 = .ok (.iload 6, 2) := by decide +kernel
theorem dX9_togetherOf_88 : decode cX9_togetherOf 88 = .ok (.ifCond .ne 25, 3) := by decide +kernel
theorem dX9_togetherOf_91 : decode cX9_togetherOf 91 = .ok (.aload_n 0, 1) := by decide +kernel
theorem dX9_togetherOf_92 : decode cX9_togetherOf 92 = .ok (.iload 4, 2) := by decide +kernel
theorem dX9_togetherOf_94 : decode cX9_togetherOf 94 = .ok (.putfield 424, 3) := by decide +kernel
theorem dX9_togetherOf_97 : decode cX9_togetherOf 97 = .ok (.aload_n 0, 1) := by decide +kernel
theorem dX9_togetherOf_98 : decode cX9_togetherOf 98 = .ok (.iload 5, 2) := by decide +kernel
theorem dX9_togetherOf_100 : decode cX9_togetherOf 100 = .ok (.putfield 427, 3) := by decide +kernel
theorem dX9_togetherOf_103 : decode cX9_togetherOf 103 = .ok (.aload_n 0, 1) := by decide +kernel
theorem dX9_togetherOf_104 : decode cX9_togetherOf 104 = .ok (.getfield 63, 3) := by decide +kernel
theorem dX9_togetherOf_107 : decode cX9_togetherOf 107 = .ok (.iload 4, 2) := by decide +kernel
theorem dX9_togetherOf_109 : decode cX9_togetherOf 109 = .ok (.iaload, 1) := by decide +kernel
theorem dX9_togetherOf_110 : decode cX9_togetherOf 110 = .ok (.iconst 1, 1) := by decide +kernel
theorem dX9_togetherOf_111 : decode cX9_togetherOf 111 = .ok (.iadd, 1) := by decide +kernel
theorem dX9_togetherOf_112 : decode cX9_togetherOf 112 = .ok (.ireturn, 1) := by decide +kernel
theorem dX9_togetherOf_113 : decode cX9_togetherOf 113 = .ok (.aload_n 0, 1) := by decide +kernel
theorem dX9_togetherOf_114 : decode cX9_togetherOf 114 = .ok (.getfield 63, 3) := by decide +kernel
theorem dX9_togetherOf_117 : decode cX9_togetherOf 117 = .ok (.iload 6, 2) := by decide +kernel
theorem dX9_togetherOf_119 : decode cX9_togetherOf 119 = .ok (.iaload, 1) := by decide +kernel
theorem dX9_togetherOf_120 : decode cX9_togetherOf 120 = .ok (.ifCond .ge 68, 3) := by decide +kernel
theorem dX9_togetherOf_123 : decode cX9_togetherOf 123 = .ok (.aload_n 0, 1) := by decide +kernel
theorem dX9_togetherOf_124 : decode cX9_togetherOf 124 = .ok (.iload_n 1, 1) := by decide +kernel
theorem dX9_togetherOf_125 : decode cX9_togetherOf 125 = .ok (.iload 6, 2) := by decide +kernel
theorem dX9_togetherOf_127 : decode cX9_togetherOf 127 = .ok (.invokevirtual 430, 3) := by decide +kernel
theorem dX9_togetherOf_130 : decode cX9_togetherOf 130 = .ok (.ifCond .ne 6, 3) := by decide +kernel
theorem dX9_togetherOf_133 : decode cX9_togetherOf 133 = .ok (.goto 55, 3) := by decide +kernel
theorem dX9_togetherOf_136 : decode cX9_togetherOf 136 = .ok (.aload_n 0, 1) := by decide +kernel
theorem dX9_togetherOf_137 : decode cX9_togetherOf 137 = .ok (.getfield 63, 3) := by decide +kernel
theorem dX9_togetherOf_140 : decode cX9_togetherOf 140 = .ok (.iload 6, 2) := by decide +kernel
theorem dX9_togetherOf_142 : decode cX9_togetherOf 142 = .ok (.aload_n 0, 1) := by decide +kernel
theorem dX9_togetherOf_143 : decode cX9_togetherOf 143 = .ok (.getfield 63, 3) := by decide +kernel
theorem dX9_togetherOf_146 : decode cX9_togetherOf 146 = .ok (.iload 4, 2) := by decide +kernel
theorem dX9_togetherOf_148 : decode cX9_togetherOf 148 = .ok (.iaload, 1) := by decide +kernel
theorem dX9_togetherOf_149 : decode cX9_togetherOf 149 = .ok (.iconst 1, 1) := by decide +kernel
theorem dX9_togetherOf_150 : decode cX9_togetherOf 150 = .ok (.iadd, 1) := by decide +kernel
theorem dX9_togetherOf_151 : decode cX9_togetherOf 151 = .ok (.iastore, 1) := by decide +kernel
theorem dX9_togetherOf_152 : decode cX9_togetherOf 152 = .ok (.aload_n 0, 1) := by decide +kernel
theorem dX9_togetherOf_153 : decode cX9_togetherOf 153 = .ok (.getfield 57, 3) := by decide +kernel
theorem dX9_togetherOf_156 : decode cX9_togetherOf 156 = .ok (.iload 6, 2) := by decide +kernel
theorem dX9_togetherOf_158 : decode cX9_togetherOf 158 = .ok (.bipush 10, 2) := by decide +kernel
theorem dX9_togetherOf_160 : decode cX9_togetherOf 160 = .ok (.iload 4, 2) := by decide +kernel
theorem dX9_togetherOf_162 : decode cX9_togetherOf 162 = .ok (.imul, 1) := by decide +kernel
theorem dX9_togetherOf_163 : decode cX9_togetherOf 163 = .ok (.iload 5, 2) := by decide +kernel
theorem dX9_togetherOf_165 : decode cX9_togetherOf 165 = .ok (.iadd, 1) := by decide +kernel
theorem dX9_togetherOf_166 : decode cX9_togetherOf 166 = .ok (.iastore, 1) := by decide +kernel
theorem dX9_togetherOf_167 : decode cX9_togetherOf 167 = .ok (.aload_n 0, 1) := by decide +kernel
theorem dX9_togetherOf_168 : decode cX9_togetherOf 168 = .ok (.getfield 60, 3) := by decide +kernel
theorem dX9_togetherOf_171 : decode cX9_togetherOf 171 = .ok (.aload_n 0, 1) := by decide +kernel
theorem dX9_togetherOf_172 : decode cX9_togetherOf 172 = .ok (.getfield 418, 3) := by decide +kernel
theorem dX9_togetherOf_175 : decode cX9_togetherOf 175 = .ok (.iload 6, 2) := by decide +kernel
theorem dX9_togetherOf_177 : decode cX9_togetherOf 177 = .ok (.iastore, 1) := by decide +kernel
theorem dX9_togetherOf_178 : decode cX9_togetherOf 178 = .ok (.aload_n 0, 1) := by decide +kernel
theorem dX9_togetherOf_179 : decode cX9_togetherOf 179 = .ok (.dup, 1) := by decide +kernel
theorem dX9_togetherOf_180 : decode cX9_togetherOf 180 = .ok (.getfield 418, 3) := by decide +kernel
theorem dX9_togetherOf_183 : decode cX9_togetherOf 183 = .ok (.iconst 1, 1) := by decide +kernel
theorem dX9_togetherOf_184 : decode cX9_togetherOf 184 = .ok (.iadd, 1) := by decide +kernel
theorem dX9_togetherOf_185 : decode cX9_togetherOf 185 = .ok (.putfield 418, 3) := by decide +kernel
theorem dX9_togetherOf_188 : decode cX9_togetherOf 188 = .ok (.iinc 5 1, 3) := by decide +kernel
theorem dX9_togetherOf_191 : decode cX9_togetherOf 191 = .ok (.goto (-123), 3) := by decide +kernel
theorem dX9_togetherOf_194 : decode cX9_togetherOf 194 = .ok (.iinc 3 1, 3) := by decide +kernel
theorem dX9_togetherOf_197 : decode cX9_togetherOf 197 = .ok (.goto (-148), 3) := by decide +kernel
theorem dX9_togetherOf_200 : decode cX9_togetherOf 200 = .ok (.bipush (-2), 2) := by decide +kernel
theorem dX9_togetherOf_202 : decode cX9_togetherOf 202 = .ok (.ireturn, 1) := by decide +kernel
theorem dX9_setWhy_0 : decode cX9_setWhy 0 = .ok (.aload_n 0, 1) := by decide +kernel
theorem dX9_setWhy_1 : decode cX9_setWhy 1 = .ok (.getfield 204, 3) := by decide +kernel
theorem dX9_setWhy_4 : decode cX9_setWhy 4 = .ok (.ifCond .ne 5, 3) := by decide +kernel
theorem dX9_setWhy_7 : decode cX9_setWhy 7 = .ok (.iconst 1, 1) := by decide +kernel
theorem dX9_setWhy_8 : decode cX9_setWhy 8 = .ok (.ireturn, 1) := by decide +kernel
theorem dX9_setWhy_9 : decode cX9_setWhy 9 = .ok (.iload_n 1, 1) := by decide +kernel
theorem dX9_setWhy_10 : decode cX9_setWhy 10 = .ok (.iconst 1, 1) := by decide +kernel
theorem dX9_setWhy_11 : decode cX9_setWhy 11 = .ok (.iconst 1, 1) := by decide +kernel
theorem dX9_setWhy_12 : decode cX9_setWhy 12 = .ok (.aload_n 0, 1) := by decide +kernel
theorem dX9_setWhy_13 : decode cX9_setWhy 13 = .ok (.getfield 20, 3) := by decide +kernel
theorem dX9_setWhy_16 : decode cX9_setWhy 16 = .ok (.iconst 4, 1) := by decide +kernel
theorem dX9_setWhy_17 : decode cX9_setWhy 17 = .ok (.iaload, 1) := by decide +kernel
theorem dX9_setWhy_18 : decode cX9_setWhy 18 = .ok (.ishl, 1) := by decide +kernel
theorem dX9_setWhy_19 : decode cX9_setWhy 19 = .ok (.iconst 1, 1) := by decide +kernel
theorem dX9_setWhy_20 : decode cX9_setWhy 20 = .ok (.isub, 1) := by decide +kernel
theorem dX9_setWhy_21 : decode cX9_setWhy 21 = .ok (.invokestatic 170, 3) := by decide +kernel
theorem dX9_setWhy_24 : decode cX9_setWhy 24 = .ok (.ifCond .ne 5, 3) := by decide +kernel
theorem dX9_setWhy_27 : decode cX9_setWhy 27 = .ok (.iconst 2, 1) := by decide +kernel
theorem dX9_setWhy_28 : decode cX9_setWhy 28 = .ok (.ireturn, 1) := by decide +kernel
theorem dX9_setWhy_29 : decode cX9_setWhy 29 = .ok (.iconst 0, 1) := by decide +kernel
theorem dX9_setWhy_30 : decode cX9_setWhy 30 = .ok (.istore_n 2, 1) := by decide +kernel
theorem dX9_setWhy_31 : decode cX9_setWhy 31 = .ok (.iconst 0, 1) := by decide +kernel
theorem dX9_setWhy_32 : decode cX9_setWhy 32 = .ok (.istore_n 3, 1) := by decide +kernel
theorem dX9_setWhy_33 : decode cX9_setWhy 33 = .ok (.iload_n 3, 1) := by decide +kernel
theorem dX9_setWhy_34 : decode cX9_setWhy 34 = .ok (.aload_n 0, 1) := by decide +kernel
theorem dX9_setWhy_35 : decode cX9_setWhy 35 = .ok (.getfield 20, 3) := by decide +kernel
theorem dX9_setWhy_38 : decode cX9_setWhy 38 = .ok (.iconst 4, 1) := by decide +kernel
theorem dX9_setWhy_39 : decode cX9_setWhy 39 = .ok (.iaload, 1) := by decide +kernel
theorem dX9_setWhy_40 : decode cX9_setWhy 40 = .ok (.if_icmp .ge 52, 3) := by decide +kernel
theorem dX9_setWhy_43 : decode cX9_setWhy 43 = .ok (.iload_n 1, 1) := by decide +kernel
theorem dX9_setWhy_44 : decode cX9_setWhy 44 = .ok (.iload_n 3, 1) := by decide +kernel
theorem dX9_setWhy_45 : decode cX9_setWhy 45 = .ok (.invokestatic 412, 3) := by decide +kernel
theorem dX9_setWhy_48 : decode cX9_setWhy 48 = .ok (.ifCond .ne 6, 3) := by decide +kernel
theorem dX9_setWhy_51 : decode cX9_setWhy 51 = .ok (.goto 35, 3) := by decide +kernel
theorem dX9_setWhy_54 : decode cX9_setWhy 54 = .ok (.aload_n 0, 1) := by decide +kernel
theorem dX9_setWhy_55 : decode cX9_setWhy 55 = .ok (.iload_n 3, 1) := by decide +kernel
theorem dX9_setWhy_56 : decode cX9_setWhy 56 = .ok (.iconst 0, 1) := by decide +kernel
theorem dX9_setWhy_57 : decode cX9_setWhy 57 = .ok (.invokevirtual 310, 3) := by decide +kernel
theorem dX9_setWhy_60 : decode cX9_setWhy 60 = .ok (.ifCond .eq 17, 3) := by decide +kernel
theorem dX9_setWhy_63 : decode cX9_setWhy 63 = .ok (.iload_n 2, 1) := by decide +kernel
theorem dX9_setWhy_64 : decode cX9_setWhy 64 = .ok (.ifCond .le 15, 3) := by decide +kernel
theorem dX9_setWhy_67 : decode cX9_setWhy 67 = .ok (.aload_n 0, 1) := by decide +kernel
theorem dX9_setWhy_68 : decode cX9_setWhy 68 = .ok (.iload_n 3, 1) := by decide +kernel
theorem dX9_setWhy_69 : decode cX9_setWhy 69 = .ok (.iconst 1, 1) := by decide +kernel
theorem dX9_setWhy_70 : decode cX9_setWhy 70 = .ok (.invokevirtual 310, 3) := by decide +kernel
theorem dX9_setWhy_73 : decode cX9_setWhy 73 = .ok (.iload_n 2, 1) := by decide +kernel
theorem dX9_setWhy_74 : decode cX9_setWhy 74 = .ok (.if_icmp .eq 5, 3) := by decide +kernel
theorem dX9_setWhy_77 : decode cX9_setWhy 77 = .ok (.iconst 5, 1) := by decide +kernel
theorem dX9_setWhy_78 : decode cX9_setWhy 78 = .ok (.ireturn, 1) := by decide +kernel
theorem dX9_setWhy_79 : decode cX9_setWhy 79 = .ok (.aload_n 0, 1) := by decide +kernel
theorem dX9_setWhy_80 : decode cX9_setWhy 80 = .ok (.iload_n 3, 1) := by decide +kernel
theorem dX9_setWhy_81 : decode cX9_setWhy 81 = .ok (.iconst 1, 1) := by decide +kernel
theorem dX9_setWhy_82 : decode cX9_setWhy 82 = .ok (.invokevirtual 310, 3) := by decide +kernel
theorem dX9_setWhy_85 : decode cX9_setWhy 85 = .ok (.istore_n 2, 1) := by decide +kernel
theorem dX9_setWhy_86 : decode cX9_setWhy 86 = .ok (.iinc 3 1, 3) := by decide +kernel
theorem dX9_setWhy_89 : decode cX9_setWhy 89 = .ok (.goto (-56), 3) := by decide +kernel
theorem dX9_setWhy_92 : decode cX9_setWhy 92 = .ok (.iconst 0, 1) := by decide +kernel
theorem dX9_setWhy_93 : decode cX9_setWhy 93 = .ok (.ireturn, 1) := by decide +kernel
theorem dX9_together_0 : decode cX9_together 0 = .ok (.aload_n 0, 1) := by decide +kernel
theorem dX9_together_1 : decode cX9_together 1 = .ok (.invokevirtual 191, 3) := by decide +kernel
theorem dX9_together_4 : decode cX9_together 4 = .ok (.aload_n 0, 1) := by decide +kernel
theorem dX9_together_5 : decode cX9_together 5 = .ok (.iload_n 1, 1) := by decide +kernel
theorem dX9_together_6 : decode cX9_together 6 = .ok (.invokevirtual 433, 3) := by decide +kernel
theorem dX9_together_9 : decode cX9_together 9 = .ok (.istore_n 2, 1) := by decide +kernel
theorem dX9_together_10 : decode cX9_together 10 = .ok (.iload_n 2, 1) := by decide +kernel
theorem dX9_together_11 : decode cX9_together 11 = .ok (.ifCond .eq 11, 3) := by decide +kernel
theorem dX9_together_14 : decode cX9_together 14 = .ok (.aload_n 0, 1) := by decide +kernel
theorem dX9_together_15 : decode cX9_together 15 = .ok (.iload_n 2, 1) := by decide +kernel
theorem dX9_together_16 : decode cX9_together 16 = .ok (.invokevirtual 194, 3) := by decide +kernel
theorem dX9_together_19 : decode cX9_together 19 = .ok (.goto 8, 3) := by decide +kernel
theorem dX9_together_22 : decode cX9_together 22 = .ok (.aload_n 0, 1) := by decide +kernel
theorem dX9_together_23 : decode cX9_together 23 = .ok (.iload_n 1, 1) := by decide +kernel
theorem dX9_together_24 : decode cX9_together 24 = .ok (.invokevirtual 436, 3) := by decide +kernel
theorem dX9_together_27 : decode cX9_together 27 = .ok (.ireturn, 1) := by decide +kernel
theorem dX9_togetherAt_0 : decode cX9_togetherAt 0 = .ok (.aload_n 0, 1) := by decide +kernel
theorem dX9_togetherAt_1 : decode cX9_togetherAt 1 = .ok (.invokevirtual 191, 3) := by decide +kernel
theorem dX9_togetherAt_4 : decode cX9_togetherAt 4 = .ok (.aload_n 0, 1) := by decide +kernel
theorem dX9_togetherAt_5 : decode cX9_togetherAt 5 = .ok (.iload_n 1, 1) := by decide +kernel
theorem dX9_togetherAt_6 : decode cX9_togetherAt 6 = .ok (.invokevirtual 433, 3) := by decide +kernel
theorem dX9_togetherAt_9 : decode cX9_togetherAt 9 = .ok (.istore_n 3, 1) := by decide +kernel
theorem dX9_togetherAt_10 : decode cX9_togetherAt 10 = .ok (.iload_n 3, 1) := by decide +kernel
theorem dX9_togetherAt_11 : decode cX9_togetherAt 11 = .ok (.ifCond .eq 9, 3) := by decide +kernel
theorem dX9_togetherAt_14 : decode cX9_togetherAt 14 = .ok (.aload_n 0, 1) := by decide +kernel
theorem dX9_togetherAt_15 : decode cX9_togetherAt 15 = .ok (.iload_n 3, 1) := by decide +kernel
theorem dX9_togetherAt_16 : decode cX9_togetherAt 16 = .ok (.invokevirtual 194, 3) := by decide +kernel
theorem dX9_togetherAt_19 : decode cX9_togetherAt 19 = .ok (.ireturn, 1) := by decide +kernel
theorem dX9_togetherAt_20 : decode cX9_togetherAt 20 = .ok (.aload_n 0, 1) := by decide +kernel
theorem dX9_togetherAt_21 : decode cX9_togetherAt 21 = .ok (.iload_n 1, 1) := by decide +kernel
theorem dX9_togetherAt_22 : decode cX9_togetherAt 22 = .ok (.invokevirtual 436, 3) := by decide +kernel
theorem dX9_togetherAt_25 : decode cX9_togetherAt 25 = .ok (.istore 4, 2) := by decide +kernel
theorem dX9_togetherAt_27 : decode cX9_togetherAt 27 = .ok (.iload_n 2, 1) := by decide +kernel
theorem dX9_togetherAt_28 : decode cX9_togetherAt 28 = .ok (.iconst 0, 1) := by decide +kernel
theorem dX9_togetherAt_29 : decode cX9_togetherAt 29 = .ok (.iload 4, 2) := by decide +kernel
theorem dX9_togetherAt_31 : decode cX9_togetherAt 31 = .ok (.iconst 1, 1) := by decide +kernel
theorem dX9_togetherAt_32 : decode cX9_togetherAt 32 = .ok (.isub, 1) := by decide +kernel
theorem dX9_togetherAt_33 : decode cX9_togetherAt 33 = .ok (.invokestatic 170, 3) := by decide +kernel
theorem dX9_togetherAt_36 : decode cX9_togetherAt 36 = .ok (.ifCond .ne 9, 3) := by decide +kernel
theorem dX9_togetherAt_39 : decode cX9_togetherAt 39 = .ok (.aload_n 0, 1) := by decide +kernel
theorem dX9_togetherAt_40 : decode cX9_togetherAt 40 = .ok (.iconst 1, 1) := by decide +kernel
theorem dX9_togetherAt_41 : decode cX9_togetherAt 41 = .ok (.invokevirtual 194, 3) := by decide +kernel
theorem dX9_togetherAt_44 : decode cX9_togetherAt 44 = .ok (.ireturn, 1) := by decide +kernel
theorem dX9_togetherAt_45 : decode cX9_togetherAt 45 = .ok (.aload_n 0, 1) := by decide +kernel
theorem dX9_togetherAt_46 : decode cX9_togetherAt 46 = .ok (.getfield 427, 3) := by decide +kernel
theorem dX9_togetherAt_49 : decode cX9_togetherAt 49 = .ok (.istore 5, 2) := by decide +kernel
theorem dX9_togetherAt_51 : decode cX9_togetherAt 51 = .ok (.aload_n 0, 1) := by decide +kernel
theorem dX9_togetherAt_52 : decode cX9_togetherAt 52 = .ok (.getfield 424, 3) := by decide +kernel
theorem dX9_togetherAt_55 : decode cX9_togetherAt 55 = .ok (.istore 6, 2) := by decide +kernel
theorem dX9_togetherAt_57 : decode cX9_togetherAt 57 = .ok (.iload 4, 2) := by decide +kernel
theorem dX9_togetherAt_59 : decode cX9_togetherAt 59 = .ok (.iconst 1, 1) := by decide +kernel
theorem dX9_togetherAt_60 : decode cX9_togetherAt 60 = .ok (.isub, 1) := by decide +kernel
theorem dX9_togetherAt_61 : decode cX9_togetherAt 61 = .ok (.istore 7, 2) := by decide +kernel
theorem dX9_togetherAt_63 : decode cX9_togetherAt 63 = .ok (.iload 7, 2) := by decide +kernel
theorem dX9_togetherAt_65 : decode cX9_togetherAt 65 = .ok (.iload_n 2, 1) := by decide +kernel
theorem dX9_togetherAt_66 : decode cX9_togetherAt 66 = .ok (.if_icmp .le 33, 3) := by decide +kernel
theorem dX9_togetherAt_69 : decode cX9_togetherAt 69 = .ok (.aload_n 0, 1) := by decide +kernel
theorem dX9_togetherAt_70 : decode cX9_togetherAt 70 = .ok (.getfield 57, 3) := by decide +kernel
theorem dX9_togetherAt_73 : decode cX9_togetherAt 73 = .ok (.iload 6, 2) := by decide +kernel
theorem dX9_togetherAt_75 : decode cX9_togetherAt 75 = .ok (.iaload, 1) := by decide +kernel
theorem dX9_togetherAt_76 : decode cX9_togetherAt 76 = .ok (.bipush 10, 2) := by decide +kernel
theorem dX9_togetherAt_78 : decode cX9_togetherAt 78 = .ok (.irem, 1) := by decide +kernel
theorem dX9_togetherAt_79 : decode cX9_togetherAt 79 = .ok (.istore 5, 2) := by decide +kernel
theorem dX9_togetherAt_81 : decode cX9_togetherAt 81 = .ok (.aload_n 0, 1) := by decide +kernel
theorem dX9_togetherAt_82 : decode cX9_togetherAt 82 = .ok (.getfield 57, 3) := by decide +kernel
theorem dX9_togetherAt_85 : decode cX9_togetherAt 85 = .ok (.iload 6, 2) := by decide +kernel
theorem dX9_togetherAt_87 : decode cX9_togetherAt 87 = .ok (.iaload, 1) := by decide +kernel
theorem dX9_togetherAt_88 : decode cX9_togetherAt 88 = .ok (.bipush 10, 2) := by decide +kernel
theorem dX9_togetherAt_90 : decode cX9_togetherAt 90 = .ok (.idiv, 1) := by decide +kernel
theorem dX9_togetherAt_91 : decode cX9_togetherAt 91 = .ok (.istore 6, 2) := by decide +kernel
theorem dX9_togetherAt_93 : decode cX9_togetherAt 93 = .ok (.iinc 7 (-1), 3) := by decide +kernel
theorem dX9_togetherAt_96 : decode cX9_togetherAt 96 = .ok (.goto (-33), 3) := by decide +kernel
theorem dX9_togetherAt_99 : decode cX9_togetherAt 99 = .ok (.iload 5, 2) := by decide +kernel
theorem dX9_togetherAt_101 : decode cX9_togetherAt 101 = .ok (.ireturn, 1) := by decide +kernel
theorem dX9_isDeep_0 : decode cX9_isDeep 0 = .ok (.iconst 1, 1) := by decide +kernel
theorem dX9_isDeep_1 : decode cX9_isDeep 1 = .ok (.istore_n 2, 1) := by decide +kernel
theorem dX9_isDeep_2 : decode cX9_isDeep 2 = .ok (.iconst 0, 1) := by decide +kernel
theorem dX9_isDeep_3 : decode cX9_isDeep 3 = .ok (.istore_n 3, 1) := by decide +kernel
theorem dX9_isDeep_4 : decode cX9_isDeep 4 = .ok (.iload_n 3, 1) := by decide +kernel
theorem dX9_isDeep_5 : decode cX9_isDeep 5 = .ok (.aload_n 0, 1) := by decide +kernel
theorem dX9_isDeep_6 : decode cX9_isDeep 6 = .ok (.getfield 20, 3) := by decide +kernel
theorem dX9_isDeep_9 : decode cX9_isDeep 9 = .ok (.bipush 8, 2) := by decide +kernel
theorem dX9_isDeep_11 : decode cX9_isDeep 11 = .ok (.iaload, 1) := by decide +kernel
theorem dX9_isDeep_12 : decode cX9_isDeep 12 = .ok (.if_icmp .ge 91, 3) := by decide +kernel
theorem dX9_isDeep_15 : decode cX9_isDeep 15 = .ok (.aload_n 0, 1) := by decide +kernel
theorem dX9_isDeep_16 : decode cX9_isDeep 16 = .ok (.getfield 20, 3) := by decide +kernel
theorem dX9_isDeep_19 : decode cX9_isDeep 19 = .ok (.sipush 154, 3) := by decide +kernel
theorem dX9_isDeep_22 : decode cX9_isDeep 22 = .ok (.iconst 3, 1) := by decide +kernel
theorem dX9_isDeep_23 : decode cX9_isDeep 23 = .ok (.iload_n 3, 1) := by decide +kernel
theorem dX9_isDeep_24 : decode cX9_isDeep 24 = .ok (.imul, 1) := by decide +kernel
theorem dX9_isDeep_25 : decode cX9_isDeep 25 = .ok (.iadd, 1) := by decide +kernel
theorem dX9_isDeep_26 : decode cX9_isDeep 26 = .ok (.iconst 1, 1) := by decide +kernel
theorem dX9_isDeep_27 : decode cX9_isDeep 27 = .ok (.iadd, 1) := by decide +kernel
theorem dX9_isDeep_28 : decode cX9_isDeep 28 = .ok (.iaload, 1) := by decide +kernel
theorem dX9_isDeep_29 : decode cX9_isDeep 29 = .ok (.istore 4, 2) := by decide +kernel
theorem dX9_isDeep_31 : decode cX9_isDeep 31 = .ok (.iload_n 2, 1) := by decide +kernel
theorem dX9_isDeep_32 : decode cX9_isDeep 32 = .ok (.ifCond .eq 63, 3) := by decide +kernel
theorem dX9_isDeep_35 : decode cX9_isDeep 35 = .ok (.aload_n 0, 1) := by decide +kernel
theorem dX9_isDeep_36 : decode cX9_isDeep 36 = .ok (.getfield 20, 3) := by decide +kernel
theorem dX9_isDeep_39 : decode cX9_isDeep 39 = .ok (.sipush 154, 3) := by decide +kernel
theorem dX9_isDeep_42 : decode cX9_isDeep 42 = .ok (.iconst 3, 1) := by decide +kernel
theorem dX9_isDeep_43 : decode cX9_isDeep 43 = .ok (.iload_n 3, 1) := by decide +kernel
theorem dX9_isDeep_44 : decode cX9_isDeep 44 = .ok (.imul, 1) := by decide +kernel
theorem dX9_isDeep_45 : decode cX9_isDeep 45 = .ok (.iadd, 1) := by decide +kernel
theorem dX9_isDeep_46 : decode cX9_isDeep 46 = .ok (.iaload, 1) := by decide +kernel
theorem dX9_isDeep_47 : decode cX9_isDeep 47 = .ok (.ifCond .ne 16, 3) := by decide +kernel
theorem dX9_isDeep_50 : decode cX9_isDeep 50 = .ok (.iload 4, 2) := by decide +kernel
theorem dX9_isDeep_52 : decode cX9_isDeep 52 = .ok (.i2l, 1) := by decide +kernel
theorem dX9_isDeep_53 : decode cX9_isDeep 53 = .ok (.aload_n 0, 1) := by decide +kernel
theorem dX9_isDeep_54 : decode cX9_isDeep 54 = .ok (.iload_n 1, 1) := by decide +kernel
theorem dX9_isDeep_55 : decode cX9_isDeep 55 = .ok (.invokevirtual 304, 3) := by decide +kernel
theorem dX9_isDeep_58 : decode cX9_isDeep 58 = .ok (.i2l, 1) := by decide +kernel
theorem dX9_isDeep_59 : decode cX9_isDeep 59 = .ok (.lmul, 1) := by decide +kernel
theorem dX9_isDeep_60 : decode cX9_isDeep 60 = .ok (.goto 12, 3) := by decide +kernel
theorem dX9_isDeep_63 : decode cX9_isDeep 63 = .ok (.iload 4, 2) := by decide +kernel
theorem dX9_isDeep_65 : decode cX9_isDeep 65 = .ok (.aload_n 0, 1) := by decide +kernel
theorem dX9_isDeep_66 : decode cX9_isDeep 66 = .ok (.iload_n 1, 1) := by decide +kernel
theorem dX9_isDeep_67 : decode cX9_isDeep 67 = .ok (.invokevirtual 304, 3) := by decide +kernel
theorem dX9_isDeep_70 : decode cX9_isDeep 70 = .ok (.idiv, 1) := by decide +kernel
theorem dX9_isDeep_71 : decode cX9_isDeep 71 = .ok (.i2l, 1) := by decide +kernel
theorem dX9_isDeep_72 : decode cX9_isDeep 72 = .ok (.aload_n 0, 1) := by decide +kernel
theorem dX9_isDeep_73 : decode cX9_isDeep 73 = .ok (.getfield 20, 3) := by decide +kernel
theorem dX9_isDeep_76 : decode cX9_isDeep 76 = .ok (.sipush 154, 3) := by decide +kernel
theorem dX9_isDeep_79 : decode cX9_isDeep 79 = .ok (.iconst 3, 1) := by decide +kernel
theorem dX9_isDeep_80 : decode cX9_isDeep 80 = .ok (.iload_n 3, 1) := by decide +kernel
theorem dX9_isDeep_81 : decode cX9_isDeep 81 = .ok (.imul, 1) := by decide +kernel
theorem dX9_isDeep_82 : decode cX9_isDeep 82 = .ok (.iadd, 1) := by decide +kernel
theorem dX9_isDeep_83 : decode cX9_isDeep 83 = .ok (.iconst 2, 1) := by decide +kernel
theorem dX9_isDeep_84 : decode cX9_isDeep 84 = .ok (.iadd, 1) := by decide +kernel
theorem dX9_isDeep_85 : decode cX9_isDeep 85 = .ok (.iaload, 1) := by decide +kernel
theorem dX9_isDeep_86 : decode cX9_isDeep 86 = .ok (.i2l, 1) := by decide +kernel
theorem dX9_isDeep_87 : decode cX9_isDeep 87 = .ok (.lcmp, 1) := by decide +kernel
theorem dX9_isDeep_88 : decode cX9_isDeep 88 = .ok (.ifCond .ne 7, 3) := by decide +kernel
theorem dX9_isDeep_91 : decode cX9_isDeep 91 = .ok (.iconst 1, 1) := by decide +kernel
theorem dX9_isDeep_92 : decode cX9_isDeep 92 = .ok (.goto 4, 3) := by decide +kernel
theorem dX9_isDeep_95 : decode cX9_isDeep 95 = .ok (.iconst 0, 1) := by decide +kernel
theorem dX9_isDeep_96 : decode cX9_isDeep 96 = .ok (.istore_n 2, 1) := by decide +kernel
theorem dX9_isDeep_97 : decode cX9_isDeep 97 = .ok (.iinc 3 1, 3) := by decide +kernel
theorem dX9_isDeep_100 : decode cX9_isDeep 100 = .ok (.goto (-96), 3) := by decide +kernel
theorem dX9_isDeep_103 : decode cX9_isDeep 103 = .ok (.iload_n 2, 1) := by decide +kernel
theorem dX9_isDeep_104 : decode cX9_isDeep 104 = .ok (.ireturn, 1) := by decide +kernel
theorem dX9_deepOnes_0 : decode cX9_deepOnes 0 = .ok (.iconst 0, 1) := by decide +kernel
theorem dX9_deepOnes_1 : decode cX9_deepOnes 1 = .ok (.istore_n 1, 1) := by decide +kernel
theorem dX9_deepOnes_2 : decode cX9_deepOnes 2 = .ok (.iconst 0, 1) := by decide +kernel
theorem dX9_deepOnes_3 : decode cX9_deepOnes 3 = .ok (.istore_n 2, 1) := by decide +kernel
theorem dX9_deepOnes_4 : decode cX9_deepOnes 4 = .ok (.iload_n 2, 1) := by decide +kernel
theorem dX9_deepOnes_5 : decode cX9_deepOnes 5 = .ok (.aload_n 0, 1) := by decide +kernel
theorem dX9_deepOnes_6 : decode cX9_deepOnes 6 = .ok (.getfield 20, 3) := by decide +kernel
theorem dX9_deepOnes_9 : decode cX9_deepOnes 9 = .ok (.iconst 0, 1) := by decide +kernel
theorem dX9_deepOnes_10 : decode cX9_deepOnes 10 = .ok (.iaload, 1) := by decide +kernel
theorem dX9_deepOnes_11 : decode cX9_deepOnes 11 = .ok (.if_icmp .gt 27, 3) := by decide +kernel
theorem dX9_deepOnes_14 : decode cX9_deepOnes 14 = .ok (.iload_n 1, 1) := by decide +kernel
theorem dX9_deepOnes_15 : decode cX9_deepOnes 15 = .ok (.aload_n 0, 1) := by decide +kernel
theorem dX9_deepOnes_16 : decode cX9_deepOnes 16 = .ok (.iload_n 2, 1) := by decide +kernel
theorem dX9_deepOnes_17 : decode cX9_deepOnes 17 = .ok (.invokevirtual 439, 3) := by decide +kernel
theorem dX9_deepOnes_20 : decode cX9_deepOnes 20 = .ok (.ifCond .eq 9, 3) := by decide +kernel
theorem dX9_deepOnes_23 : decode cX9_deepOnes 23 = .ok (.iconst 1, 1) := by decide +kernel
theorem dX9_deepOnes_24 : decode cX9_deepOnes 24 = .ok (.iload_n 2, 1) := by decide +kernel
theorem dX9_deepOnes_25 : decode cX9_deepOnes 25 = .ok (.ishl, 1) := by decide +kernel
theorem dX9_deepOnes_26 : decode cX9_deepOnes 26 = .ok (.goto 4, 3) := by decide +kernel
theorem dX9_deepOnes_29 : decode cX9_deepOnes 29 = .ok (.iconst 0, 1) := by decide +kernel
theorem dX9_deepOnes_30 : decode cX9_deepOnes 30 = .ok (.ior, 1) := by decide +kernel
theorem dX9_deepOnes_31 : decode cX9_deepOnes 31 = .ok (.istore_n 1, 1) := by decide +kernel
theorem dX9_deepOnes_32 : decode cX9_deepOnes 32 = .ok (.iinc 2 1, 3) := by decide +kernel
theorem dX9_deepOnes_35 : decode cX9_deepOnes 35 = .ok (.goto (-31), 3) := by decide +kernel
theorem dX9_deepOnes_38 : decode cX9_deepOnes 38 = .ok (.iload_n 1, 1) := by decide +kernel
theorem dX9_deepOnes_39 : decode cX9_deepOnes 39 = .ok (.ireturn, 1) := by decide +kernel
theorem dX9_deep_0 : decode cX9_deep 0 = .ok (.aload_n 0, 1) := by decide +kernel
theorem dX9_deep_1 : decode cX9_deep 1 = .ok (.invokevirtual 191, 3) := by decide +kernel
theorem dX9_deep_4 : decode cX9_deep 4 = .ok (.aload_n 0, 1) := by decide +kernel
theorem dX9_deep_5 : decode cX9_deep 5 = .ok (.getfield 204, 3) := by decide +kernel
theorem dX9_deep_8 : decode cX9_deep 8 = .ok (.ifCond .eq 10, 3) := by decide +kernel
theorem dX9_deep_11 : decode cX9_deep 11 = .ok (.aload_n 0, 1) := by decide +kernel
theorem dX9_deep_12 : decode cX9_deep 12 = .ok (.invokevirtual 442, 3) := by decide +kernel
theorem dX9_deep_15 : decode cX9_deep 15 = .ok (.goto 8, 3) := by decide +kernel
theorem dX9_deep_18 : decode cX9_deep 18 = .ok (.aload_n 0, 1) := by decide +kernel
theorem dX9_deep_19 : decode cX9_deep 19 = .ok (.iconst 1, 1) := by decide +kernel
theorem dX9_deep_20 : decode cX9_deep 20 = .ok (.invokevirtual 194, 3) := by decide +kernel
theorem dX9_deep_23 : decode cX9_deep 23 = .ok (.ireturn, 1) := by decide +kernel
theorem dX9_askOf_0 : decode cX9_askOf 0 = .ok (.iconst (-1), 1) := by decide +kernel
theorem dX9_askOf_1 : decode cX9_askOf 1 = .ok (.istore_n 2, 1) := by decide +kernel
theorem dX9_askOf_2 : decode cX9_askOf 2 = .ok (.aload_n 0, 1) := by decide +kernel
theorem dX9_askOf_3 : decode cX9_askOf 3 = .ok (.ldc_w 445, 3) := by decide +kernel
theorem dX9_askOf_6 : decode cX9_askOf 6 = .ok (.putfield 446, 3) := by decide +kernel
theorem dX9_askOf_9 : decode cX9_askOf 9 = .ok (.iconst 1, 1) := by decide +kernel
theorem dX9_askOf_10 : decode cX9_askOf 10 = .ok (.istore_n 3, 1) := by decide +kernel
theorem dX9_askOf_11 : decode cX9_askOf 11 = .ok (.iload_n 3, 1) := by decide +kernel
theorem dX9_askOf_12 : decode cX9_askOf 12 = .ok (.sipush 9999, 3) := by decide +kernel
theorem dX9_askOf_15 : decode cX9_askOf 15 = .ok (.if_icmp .gt 138, 3) := by decide +kernel
theorem dX9_askOf_18 : decode cX9_askOf 18 = .ok (.iconst 0, 1) := by decide +kernel
theorem dX9_askOf_19 : decode cX9_askOf 19 = .ok (.istore 4, 2) := by decide +kernel
theorem dX9_askOf_21 : decode cX9_askOf 21 = .ok (.iconst 0, 1) := by decide +kernel
theorem dX9_askOf_22 : decode cX9_askOf 22 = .ok (.istore 5, 2) := by decide +kernel
theorem dX9_askOf_24 : decode cX9_askOf 24 = .ok (.iload 5, 2) := by decide +kernel
theorem dX9_askOf_26 : decode cX9_askOf 26 = .ok (.aload_n 0, 1) := by decide +kernel
theorem dX9_askOf_27 : decode cX9_askOf 27 = .ok (.getfield 20, 3) := by decide +kernel
theorem dX9_askOf_30 : decode cX9_askOf 30 = .ok (.iconst 0, 1) := by decide +kernel
theorem dX9_askOf_31 : decode cX9_askOf 31 = .ok (.iaload, 1) := by decide +kernel
theorem dX9_askOf_32 : decode cX9_askOf 32 = .ok (.if_icmp .gt 95, 3) := by decide +kernel
theorem dX9_askOf_35 : decode cX9_askOf 35 = .ok (.iconst 0, 1) := by decide +kernel
theorem dX9_askOf_36 : decode cX9_askOf 36 = .ok (.istore 6, 2) := by decide +kernel
theorem dX9_askOf_38 : decode cX9_askOf 38 = .ok (.iconst 0, 1) := by decide +kernel
theorem dX9_askOf_39 : decode cX9_askOf 39 = .ok (.istore 7, 2) := by decide +kernel
theorem dX9_askOf_41 : decode cX9_askOf 41 = .ok (.iload 7, 2) := by decide +kernel
theorem dX9_askOf_43 : decode cX9_askOf 43 = .ok (.aload_n 0, 1) := by decide +kernel
theorem dX9_askOf_44 : decode cX9_askOf 44 = .ok (.getfield 20, 3) := by decide +kernel
theorem dX9_askOf_47 : decode cX9_askOf 47 = .ok (.iconst 0, 1) := by decide +kernel
theorem dX9_askOf_48 : decode cX9_askOf 48 = .ok (.iaload, 1) := by decide +kernel
theorem dX9_askOf_49 : decode cX9_askOf 49 = .ok (.if_icmp .gt 56, 3) := by decide +kernel
theorem dX9_askOf_52 : decode cX9_askOf 52 = .ok (.iload 6, 2) := by decide +kernel
theorem dX9_askOf_54 : decode cX9_askOf 54 = .ok (.iload_n 1, 1) := by decide +kernel
theorem dX9_askOf_55 : decode cX9_askOf 55 = .ok (.iload 5, 2) := by decide +kernel
theorem dX9_askOf_57 : decode cX9_askOf 57 = .ok (.invokestatic 412, 3) := by decide +kernel
theorem dX9_askOf_60 : decode cX9_askOf 60 = .ok (.ifCond .eq 35, 3) := by decide +kernel
theorem dX9_askOf_63 : decode cX9_askOf 63 = .ok (.iload_n 1, 1) := by decide +kernel
theorem dX9_askOf_64 : decode cX9_askOf 64 = .ok (.iload 7, 2) := by decide +kernel
theorem dX9_askOf_66 : decode cX9_askOf 66 = .ok (.invokestatic 412, 3) := by decide +kernel
theorem dX9_askOf_69 : decode cX9_askOf 69 = .ok (.ifCond .eq 26, 3) := by decide +kernel
theorem dX9_askOf_72 : decode cX9_askOf 72 = .ok (.iload_n 3, 1) := by decide +kernel
theorem dX9_askOf_73 : decode cX9_askOf 73 = .ok (.aload_n 0, 1) := by decide +kernel
theorem dX9_askOf_74 : decode cX9_askOf 74 = .ok (.iload 5, 2) := by decide +kernel
theorem dX9_askOf_76 : decode cX9_askOf 76 = .ok (.invokevirtual 304, 3) := by decide +kernel
theorem dX9_askOf_79 : decode cX9_askOf 79 = .ok (.idiv, 1) := by decide +kernel
theorem dX9_askOf_80 : decode cX9_askOf 80 = .ok (.iload_n 3, 1) := by decide +kernel
theorem dX9_askOf_81 : decode cX9_askOf 81 = .ok (.aload_n 0, 1) := by decide +kernel
theorem dX9_askOf_82 : decode cX9_askOf 82 = .ok (.iload 7, 2) := by decide +kernel
theorem dX9_askOf_84 : decode cX9_askOf 84 = .ok (.invokevirtual 304, 3) := by decide +kernel
theorem dX9_askOf_87 : decode cX9_askOf 87 = .ok (.idiv, 1) := by decide +kernel
theorem dX9_askOf_88 : decode cX9_askOf 88 = .ok (.if_icmp .ne 7, 3) := by decide +kernel
theorem dX9_askOf_91 : decode cX9_askOf 91 = .ok (.iconst 1, 1) := by decide +kernel
theorem dX9_askOf_92 : decode cX9_askOf 92 = .ok (.goto 4, 3) := by decide +kernel
theorem dX9_askOf_95 : decode cX9_askOf 95 = .ok (.iconst 0, 1) := by decide +kernel
theorem dX9_askOf_96 : decode cX9_askOf 96 = .ok (.iadd, 1) := by decide +kernel
theorem dX9_askOf_97 : decode cX9_askOf 97 = .ok (.istore 6, 2) := by decide +kernel
theorem dX9_askOf_99 : decode cX9_askOf 99 = .ok (.iinc 7 1, 3) := by decide +kernel
theorem dX9_askOf_102 : decode cX9_askOf 102 = .ok (.goto (-61), 3) := by decide +kernel
theorem dX9_askOf_105 : decode cX9_askOf 105 = .ok (.iload 6, 2) := by decide +kernel
theorem dX9_askOf_107 : decode cX9_askOf 107 = .ok (.iload 4, 2) := by decide +kernel
theorem dX9_askOf_109 : decode cX9_askOf 109 = .ok (.if_icmp .le 8, 3) := by decide +kernel
theorem dX9_askOf_112 : decode cX9_askOf 112 = .ok (.iload 6, 2) := by decide +kernel
theorem dX9_askOf_114 : decode cX9_askOf 114 = .ok (.goto 5, 3) := by decide +kernel
theorem dX9_askOf_117 : decode cX9_askOf 117 = .ok (.iload 4, 2) := by decide +kernel
theorem dX9_askOf_119 : decode cX9_askOf 119 = .ok (.istore 4, 2) := by decide +kernel
theorem dX9_askOf_121 : decode cX9_askOf 121 = .ok (.iinc 5 1, 3) := by decide +kernel
theorem dX9_askOf_124 : decode cX9_askOf 124 = .ok (.goto (-100), 3) := by decide +kernel
theorem dX9_askOf_127 : decode cX9_askOf 127 = .ok (.iload 4, 2) := by decide +kernel
theorem dX9_askOf_129 : decode cX9_askOf 129 = .ok (.aload_n 0, 1) := by decide +kernel
theorem dX9_askOf_130 : decode cX9_askOf 130 = .ok (.getfield 446, 3) := by decide +kernel
theorem dX9_askOf_133 : decode cX9_askOf 133 = .ok (.if_icmp .lt 6, 3) := by decide +kernel
theorem dX9_askOf_136 : decode cX9_askOf 136 = .ok (.goto 11, 3) := by decide +kernel
theorem dX9_askOf_139 : decode cX9_askOf 139 = .ok (.aload_n 0, 1) := by decide +kernel
theorem dX9_askOf_140 : decode cX9_askOf 140 = .ok (.iload 4, 2) := by decide +kernel
theorem dX9_askOf_142 : decode cX9_askOf 142 = .ok (.putfield 446, 3) := by decide +kernel
theorem dX9_askOf_145 : decode cX9_askOf 145 = .ok (.iload_n 3, 1) := by decide +kernel
theorem dX9_askOf_146 : decode cX9_askOf 146 = .ok (.istore_n 2, 1) := by decide +kernel
theorem dX9_askOf_147 : decode cX9_askOf 147 = .ok (.iinc 3 1, 3) := by decide +kernel
theorem dX9_askOf_150 : decode cX9_askOf 150 = .ok (.goto (-139), 3) := by decide +kernel
theorem dX9_askOf_153 : decode cX9_askOf 153 = .ok (.iload_n 2, 1) := by decide +kernel
theorem dX9_askOf_154 : decode cX9_askOf 154 = .ok (.ireturn, 1) := by decide +kernel
theorem dX9_askWhy_0 : decode cX9_askWhy 0 = .ok (.aload_n 0, 1) := by decide +kernel
theorem dX9_askWhy_1 : decode cX9_askWhy 1 = .ok (.getfield 204, 3) := by decide +kernel
theorem dX9_askWhy_4 : decode cX9_askWhy 4 = .ok (.ifCond .ne 7, 3) := by decide +kernel
theorem dX9_askWhy_7 : decode cX9_askWhy 7 = .ok (.iconst 1, 1) := by decide +kernel
theorem dX9_askWhy_8 : decode cX9_askWhy 8 = .ok (.goto 20, 3) := by decide +kernel
theorem dX9_askWhy_11 : decode cX9_askWhy 11 = .ok (.aload_n 0, 1) := by decide +kernel
theorem dX9_askWhy_12 : decode cX9_askWhy 12 = .ok (.invokevirtual 442, 3) := by decide +kernel
theorem dX9_askWhy_15 : decode cX9_askWhy 15 = .ok (.invokestatic 449, 3) := by decide +kernel
theorem dX9_askWhy_18 : decode cX9_askWhy 18 = .ok (.iconst 2, 1) := by decide +kernel
theorem dX9_askWhy_19 : decode cX9_askWhy 19 = .ok (.if_icmp .ge 8, 3) := by decide +kernel
theorem dX9_askWhy_22 : decode cX9_askWhy 22 = .ok (.bipush 6, 2) := by decide +kernel
theorem dX9_askWhy_24 : decode cX9_askWhy 24 = .ok (.goto 4, 3) := by decide +kernel
theorem dX9_askWhy_27 : decode cX9_askWhy 27 = .ok (.iconst 0, 1) := by decide +kernel
theorem dX9_askWhy_28 : decode cX9_askWhy 28 = .ok (.ireturn, 1) := by decide +kernel
theorem dX9_ask_0 : decode cX9_ask 0 = .ok (.aload_n 0, 1) := by decide +kernel
theorem dX9_ask_1 : decode cX9_ask 1 = .ok (.invokevirtual 191, 3) := by decide +kernel
theorem dX9_ask_4 : decode cX9_ask 4 = .ok (.aload_n 0, 1) := by decide +kernel
theorem dX9_ask_5 : decode cX9_ask 5 = .ok (.invokevirtual 452, 3) := by decide +kernel
theorem dX9_ask_8 : decode cX9_ask 8 = .ok (.istore_n 1, 1) := by decide +kernel
theorem dX9_ask_9 : decode cX9_ask 9 = .ok (.iload_n 1, 1) := by decide +kernel
theorem dX9_ask_10 : decode cX9_ask 10 = .ok (.ifCond .eq 11, 3) := by decide +kernel
theorem dX9_ask_13 : decode cX9_ask 13 = .ok (.aload_n 0, 1) := by decide +kernel
theorem dX9_ask_14 : decode cX9_ask 14 = .ok (.iload_n 1, 1) := by decide +kernel
theorem dX9_ask_15 : decode cX9_ask 15 = .ok (.invokevirtual 194, 3) := by decide +kernel
theorem dX9_ask_18 : decode cX9_ask 18 = .ok (.goto 11, 3) := by decide +kernel
theorem dX9_ask_21 : decode cX9_ask 21 = .ok (.aload_n 0, 1) := by decide +kernel
theorem dX9_ask_22 : decode cX9_ask 22 = .ok (.aload_n 0, 1) := by decide +kernel
theorem dX9_ask_23 : decode cX9_ask 23 = .ok (.invokevirtual 442, 3) := by decide +kernel
theorem dX9_ask_26 : decode cX9_ask 26 = .ok (.invokevirtual 455, 3) := by decide +kernel
theorem dX9_ask_29 : decode cX9_ask 29 = .ok (.ireturn, 1) := by decide +kernel
theorem dX9_askMost_0 : decode cX9_askMost 0 = .ok (.aload_n 0, 1) := by decide +kernel
theorem dX9_askMost_1 : decode cX9_askMost 1 = .ok (.invokevirtual 191, 3) := by decide +kernel
theorem dX9_askMost_4 : decode cX9_askMost 4 = .ok (.aload_n 0, 1) := by decide +kernel
theorem dX9_askMost_5 : decode cX9_askMost 5 = .ok (.invokevirtual 452, 3) := by decide +kernel
theorem dX9_askMost_8 : decode cX9_askMost 8 = .ok (.istore_n 1, 1) := by decide +kernel
theorem dX9_askMost_9 : decode cX9_askMost 9 = .ok (.iload_n 1, 1) := by decide +kernel
theorem dX9_askMost_10 : decode cX9_askMost 10 = .ok (.ifCond .eq 9, 3) := by decide +kernel
theorem dX9_askMost_13 : decode cX9_askMost 13 = .ok (.aload_n 0, 1) := by decide +kernel
theorem dX9_askMost_14 : decode cX9_askMost 14 = .ok (.iload_n 1, 1) := by decide +kernel
theorem dX9_askMost_15 : decode cX9_askMost 15 = .ok (.invokevirtual 194, 3) := by decide +kernel
theorem dX9_askMost_18 : decode cX9_askMost 18 = .ok (.ireturn, 1) := by decide +kernel
theorem dX9_askMost_19 : decode cX9_askMost 19 = .ok (.aload_n 0, 1) := by decide +kernel
theorem dX9_askMost_20 : decode cX9_askMost 20 = .ok (.aload_n 0, 1) := by decide +kernel
theorem dX9_askMost_21 : decode cX9_askMost 21 = .ok (.invokevirtual 442, 3) := by decide +kernel
theorem dX9_askMost_24 : decode cX9_askMost 24 = .ok (.invokevirtual 455, 3) := by decide +kernel
theorem dX9_askMost_27 : decode cX9_askMost 27 = .ok (.pop, 1) := by decide +kernel
theorem dX9_askMost_28 : decode cX9_askMost 28 = .ok (.aload_n 0, 1) := by decide +kernel
theorem dX9_askMost_29 : decode cX9_askMost 29 = .ok (.getfield 446, 3) := by decide +kernel
theorem dX9_askMost_32 : decode cX9_askMost 32 = .ok (.ireturn, 1) := by decide +kernel
theorem dX9_isUpward_0 : decode cX9_isUpward 0 = .ok (.aload_n 0, 1) := by decide +kernel
theorem dX9_isUpward_1 : decode cX9_isUpward 1 = .ok (.iload_n 1, 1) := by decide +kernel
theorem dX9_isUpward_2 : decode cX9_isUpward 2 = .ok (.invokevirtual 350, 3) := by decide +kernel
theorem dX9_isUpward_5 : decode cX9_isUpward 5 = .ok (.ifCond .eq 20, 3) := by decide +kernel
theorem dX9_isUpward_8 : decode cX9_isUpward 8 = .ok (.aload_n 0, 1) := by decide +kernel
theorem dX9_isUpward_9 : decode cX9_isUpward 9 = .ok (.iload_n 2, 1) := by decide +kernel
theorem dX9_isUpward_10 : decode cX9_isUpward 10 = .ok (.invokevirtual 350, 3) := by decide +kernel
theorem dX9_isUpward_13 : decode cX9_isUpward 13 = .ok (.ifCond .eq 12, 3) := by decide +kernel
theorem dX9_isUpward_16 : decode cX9_isUpward 16 = .ok (.iload_n 2, 1) := by decide +kernel
theorem dX9_isUpward_17 : decode cX9_isUpward 17 = .ok (.iload_n 1, 1) := by decide +kernel
theorem dX9_isUpward_18 : decode cX9_isUpward 18 = .ok (.if_icmp .ge 7, 3) := by decide +kernel
theorem dX9_isUpward_21 : decode cX9_isUpward 21 = .ok (.iconst 1, 1) := by decide +kernel
theorem dX9_isUpward_22 : decode cX9_isUpward 22 = .ok (.goto 4, 3) := by decide +kernel
theorem dX9_isUpward_25 : decode cX9_isUpward 25 = .ok (.iconst 0, 1) := by decide +kernel
theorem dX9_isUpward_26 : decode cX9_isUpward 26 = .ok (.ireturn, 1) := by decide +kernel
theorem dX9_ratio_0 : decode cX9_ratio 0 = .ok (.aload_n 0, 1) := by decide +kernel
theorem dX9_ratio_1 : decode cX9_ratio 1 = .ok (.iload_n 1, 1) := by decide +kernel
theorem dX9_ratio_2 : decode cX9_ratio 2 = .ok (.invokevirtual 304, 3) := by decide +kernel
theorem dX9_ratio_5 : decode cX9_ratio 5 = .ok (.aload_n 0, 1) := by decide +kernel
theorem dX9_ratio_6 : decode cX9_ratio 6 = .ok (.iload_n 2, 1) := by decide +kernel
theorem dX9_ratio_7 : decode cX9_ratio 7 = .ok (.invokevirtual 304, 3) := by decide +kernel
theorem dX9_ratio_10 : decode cX9_ratio 10 = .ok (.idiv, 1) := by decide +kernel
theorem dX9_ratio_11 : decode cX9_ratio 11 = .ok (.ireturn, 1) := by decide +kernel
theorem dX9_letter_0 : decode cX9_letter 0 = .ok (.aload_n 0, 1) := by decide +kernel
theorem dX9_letter_1 : decode cX9_letter 1 = .ok (.invokevirtual 191, 3) := by decide +kernel
theorem dX9_letter_4 : decode cX9_letter 4 = .ok (.aload_n 0, 1) := by decide +kernel
theorem dX9_letter_5 : decode cX9_letter 5 = .ok (.iload_n 1, 1) := by decide +kernel
theorem dX9_letter_6 : decode cX9_letter 6 = .ok (.iload_n 2, 1) := by decide +kernel
theorem dX9_letter_7 : decode cX9_letter 7 = .ok (.invokevirtual 458, 3) := by decide +kernel
theorem dX9_letter_10 : decode cX9_letter 10 = .ok (.ifCond .ne 9, 3) := by decide +kernel
theorem dX9_letter_13 : decode cX9_letter 13 = .ok (.aload_n 0, 1) := by decide +kernel
theorem dX9_letter_14 : decode cX9_letter 14 = .ok (.iconst 1, 1) := by decide +kernel
theorem dX9_letter_15 : decode cX9_letter 15 = .ok (.invokevirtual 194, 3) := by decide +kernel
theorem dX9_letter_18 : decode cX9_letter 18 = .ok (.ireturn, 1) := by decide +kernel
theorem dX9_letter_19 : decode cX9_letter 19 = .ok (.iload_n 3, 1) := by decide +kernel
theorem dX9_letter_20 : decode cX9_letter 20 = .ok (.iconst 0, 1) := by decide +kernel
theorem dX9_letter_21 : decode cX9_letter 21 = .ok (.sipush 9999, 3) := by decide +kernel
theorem dX9_letter_24 : decode cX9_letter 24 = .ok (.invokestatic 170, 3) := by decide +kernel
theorem dX9_letter_27 : decode cX9_letter 27 = .ok (.ifCond .eq 14, 3) := by decide +kernel
theorem dX9_letter_30 : decode cX9_letter 30 = .ok (.iload_n 3, 1) := by decide +kernel
theorem dX9_letter_31 : decode cX9_letter 31 = .ok (.aload_n 0, 1) := by decide +kernel
theorem dX9_letter_32 : decode cX9_letter 32 = .ok (.iload_n 1, 1) := by decide +kernel
theorem dX9_letter_33 : decode cX9_letter 33 = .ok (.iload_n 2, 1) := by decide +kernel
theorem dX9_letter_34 : decode cX9_letter 34 = .ok (.invokevirtual 461, 3) := by decide +kernel
theorem dX9_letter_37 : decode cX9_letter 37 = .ok (.idiv, 1) := by decide +kernel
theorem dX9_letter_38 : decode cX9_letter 38 = .ok (.goto 8, 3) := by decide +kernel
theorem dX9_letter_41 : decode cX9_letter 41 = .ok (.aload_n 0, 1) := by decide +kernel
theorem dX9_letter_42 : decode cX9_letter 42 = .ok (.iconst 2, 1) := by decide +kernel
theorem dX9_letter_43 : decode cX9_letter 43 = .ok (.invokevirtual 194, 3) := by decide +kernel
theorem dX9_letter_46 : decode cX9_letter 46 = .ok (.ireturn, 1) := by decide +kernel
theorem dX9_tells_0 : decode cX9_tells 0 = .ok (.aload_n 0, 1) := by decide +kernel
theorem dX9_tells_1 : decode cX9_tells 1 = .ok (.invokevirtual 191, 3) := by decide +kernel
theorem dX9_tells_4 : decode cX9_tells 4 = .ok (.aload_n 0, 1) := by decide +kernel
theorem dX9_tells_5 : decode cX9_tells 5 = .ok (.iload_n 1, 1) := by decide +kernel
theorem dX9_tells_6 : decode cX9_tells 6 = .ok (.iload_n 2, 1) := by decide +kernel
theorem dX9_tells_7 : decode cX9_tells 7 = .ok (.invokevirtual 458, 3) := by decide +kernel
theorem dX9_tells_10 : decode cX9_tells 10 = .ok (.ifCond .ne 9, 3) := by decide +kernel
theorem dX9_tells_13 : decode cX9_tells 13 = .ok (.aload_n 0, 1) := by decide +kernel
theorem dX9_tells_14 : decode cX9_tells 14 = .ok (.iconst 1, 1) := by decide +kernel
theorem dX9_tells_15 : decode cX9_tells 15 = .ok (.invokevirtual 194, 3) := by decide +kernel
theorem dX9_tells_18 : decode cX9_tells 18 = .ok (.ireturn, 1) := by decide +kernel
theorem dX9_tells_19 : decode cX9_tells 19 = .ok (.iload_n 3, 1) := by decide +kernel
theorem dX9_tells_20 : decode cX9_tells 20 = .ok (.iconst 0, 1) := by decide +kernel
theorem dX9_tells_21 : decode cX9_tells 21 = .ok (.sipush 9999, 3) := by decide +kernel
theorem dX9_tells_24 : decode cX9_tells 24 = .ok (.invokestatic 170, 3) := by decide +kernel
theorem dX9_tells_27 : decode cX9_tells 27 = .ok (.ifCond .eq 14, 3) := by decide +kernel
theorem dX9_tells_30 : decode cX9_tells 30 = .ok (.iload 4, 2) := by decide +kernel
theorem dX9_tells_32 : decode cX9_tells 32 = .ok (.iconst 2, 1) := by decide +kernel
theorem dX9_tells_33 : decode cX9_tells 33 = .ok (.bipush 26, 2) := by decide +kernel
theorem dX9_tells_35 : decode cX9_tells 35 = .ok (.invokestatic 170, 3) := by decide +kernel
theorem dX9_tells_38 : decode cX9_tells 38 = .ok (.ifCond .ne 9, 3) := by decide +kernel
theorem dX9_tells_41 : decode cX9_tells 41 = .ok (.aload_n 0, 1) := by decide +kernel
theorem dX9_tells_42 : decode cX9_tells 42 = .ok (.iconst 2, 1) := by decide +kernel
theorem dX9_tells_43 : decode cX9_tells 43 = .ok (.invokevirtual 194, 3) := by decide +kernel
theorem dX9_tells_46 : decode cX9_tells 46 = .ok (.ireturn, 1) := by decide +kernel
theorem dX9_tells_47 : decode cX9_tells 47 = .ok (.iconst 1, 1) := by decide +kernel
theorem dX9_tells_48 : decode cX9_tells 48 = .ok (.istore 5, 2) := by decide +kernel
theorem dX9_tells_50 : decode cX9_tells 50 = .ok (.iload_n 3, 1) := by decide +kernel
theorem dX9_tells_51 : decode cX9_tells 51 = .ok (.aload_n 0, 1) := by decide +kernel
theorem dX9_tells_52 : decode cX9_tells 52 = .ok (.iload_n 1, 1) := by decide +kernel
theorem dX9_tells_53 : decode cX9_tells 53 = .ok (.iload_n 2, 1) := by decide +kernel
theorem dX9_tells_54 : decode cX9_tells 54 = .ok (.invokevirtual 461, 3) := by decide +kernel
theorem dX9_tells_57 : decode cX9_tells 57 = .ok (.idiv, 1) := by decide +kernel
theorem dX9_tells_58 : decode cX9_tells 58 = .ok (.istore 6, 2) := by decide +kernel
theorem dX9_tells_60 : decode cX9_tells 60 = .ok (.iload 6, 2) := by decide +kernel
theorem dX9_tells_62 : decode cX9_tells 62 = .ok (.ifCond .le 24, 3) := by decide +kernel
theorem dX9_tells_65 : decode cX9_tells 65 = .ok (.iload 5, 2) := by decide +kernel
theorem dX9_tells_67 : decode cX9_tells 67 = .ok (.ldc_w 445, 3) := by decide +kernel
theorem dX9_tells_70 : decode cX9_tells 70 = .ok (.if_icmp .ge 16, 3) := by decide +kernel
theorem dX9_tells_73 : decode cX9_tells 73 = .ok (.iload 5, 2) := by decide +kernel
theorem dX9_tells_75 : decode cX9_tells 75 = .ok (.iload 4, 2) := by decide +kernel
theorem dX9_tells_77 : decode cX9_tells 77 = .ok (.imul, 1) := by decide +kernel
theorem dX9_tells_78 : decode cX9_tells 78 = .ok (.istore 5, 2) := by decide +kernel
theorem dX9_tells_80 : decode cX9_tells 80 = .ok (.iinc 6 (-1), 3) := by decide +kernel
theorem dX9_tells_83 : decode cX9_tells 83 = .ok (.goto (-23), 3) := by decide +kernel
theorem dX9_tells_86 : decode cX9_tells 86 = .ok (.iload 5, 2) := by decide +kernel
theorem dX9_tells_88 : decode cX9_tells 88 = .ok (.ldc_w 445, 3) := by decide +kernel
theorem dX9_tells_91 : decode cX9_tells 91 = .ok (.if_icmp .le 9, 3) := by decide +kernel
theorem dX9_tells_94 : decode cX9_tells 94 = .ok (.ldc_w 445, 3) := by decide +kernel
theorem dX9_tells_97 : decode cX9_tells 97 = .ok (.goto 5, 3) := by decide +kernel
theorem dX9_tells_100 : decode cX9_tells 100 = .ok (.iload 5, 2) := by decide +kernel
theorem dX9_tells_102 : decode cX9_tells 102 = .ok (.ireturn, 1) := by decide +kernel
theorem dX9_words_0 : decode cX9_words 0 = .ok (.aload_n 0, 1) := by decide +kernel
theorem dX9_words_1 : decode cX9_words 1 = .ok (.invokevirtual 191, 3) := by decide +kernel
theorem dX9_words_4 : decode cX9_words 4 = .ok (.aload_n 0, 1) := by decide +kernel
theorem dX9_words_5 : decode cX9_words 5 = .ok (.iload_n 1, 1) := by decide +kernel
theorem dX9_words_6 : decode cX9_words 6 = .ok (.iload_n 2, 1) := by decide +kernel
theorem dX9_words_7 : decode cX9_words 7 = .ok (.invokevirtual 458, 3) := by decide +kernel
theorem dX9_words_10 : decode cX9_words 10 = .ok (.ifCond .ne 10, 3) := by decide +kernel
theorem dX9_words_13 : decode cX9_words 13 = .ok (.aload_n 0, 1) := by decide +kernel
theorem dX9_words_14 : decode cX9_words 14 = .ok (.iconst 1, 1) := by decide +kernel
theorem dX9_words_15 : decode cX9_words 15 = .ok (.invokevirtual 194, 3) := by decide +kernel
theorem dX9_words_18 : decode cX9_words 18 = .ok (.i2l, 1) := by decide +kernel
theorem dX9_words_19 : decode cX9_words 19 = .ok (.lreturn, 1) := by decide +kernel
theorem dX9_words_20 : decode cX9_words 20 = .ok (.iload_n 3, 1) := by decide +kernel
theorem dX9_words_21 : decode cX9_words 21 = .ok (.iconst 1, 1) := by decide +kernel
theorem dX9_words_22 : decode cX9_words 22 = .ok (.ldc_w 445, 3) := by decide +kernel
theorem dX9_words_25 : decode cX9_words 25 = .ok (.invokestatic 170, 3) := by decide +kernel
theorem dX9_words_28 : decode cX9_words 28 = .ok (.ifCond .eq 14, 3) := by decide +kernel
theorem dX9_words_31 : decode cX9_words 31 = .ok (.iload 4, 2) := by decide +kernel
theorem dX9_words_33 : decode cX9_words 33 = .ok (.iconst 2, 1) := by decide +kernel
theorem dX9_words_34 : decode cX9_words 34 = .ok (.bipush 26, 2) := by decide +kernel
theorem dX9_words_36 : decode cX9_words 36 = .ok (.invokestatic 170, 3) := by decide +kernel
theorem dX9_words_39 : decode cX9_words 39 = .ok (.ifCond .ne 10, 3) := by decide +kernel
theorem dX9_words_42 : decode cX9_words 42 = .ok (.aload_n 0, 1) := by decide +kernel
theorem dX9_words_43 : decode cX9_words 43 = .ok (.iconst 2, 1) := by decide +kernel
theorem dX9_words_44 : decode cX9_words 44 = .ok (.invokevirtual 194, 3) := by decide +kernel
theorem dX9_words_47 : decode cX9_words 47 = .ok (.i2l, 1) := by decide +kernel
theorem dX9_words_48 : decode cX9_words 48 = .ok (.lreturn, 1) := by decide +kernel
theorem dX9_words_49 : decode cX9_words 49 = .ok (.lconst 0, 1) := by decide +kernel
theorem dX9_words_50 : decode cX9_words 50 = .ok (.lstore 5, 2) := by decide +kernel
theorem dX9_words_52 : decode cX9_words 52 = .ok (.lconst 1, 1) := by decide +kernel
theorem dX9_words_53 : decode cX9_words 53 = .ok (.lstore 7, 2) := by decide +kernel
theorem dX9_words_55 : decode cX9_words 55 = .ok (.lload 7, 2) := by decide +kernel
theorem dX9_words_57 : decode cX9_words 57 = .ok (.iload_n 3, 1) := by decide +kernel
theorem dX9_words_58 : decode cX9_words 58 = .ok (.i2l, 1) := by decide +kernel
theorem dX9_words_59 : decode cX9_words 59 = .ok (.lcmp, 1) := by decide +kernel
theorem dX9_words_60 : decode cX9_words 60 = .ok (.ifCond .ge 20, 3) := by decide +kernel
theorem dX9_words_63 : decode cX9_words 63 = .ok (.lload 5, 2) := by decide +kernel
theorem dX9_words_65 : decode cX9_words 65 = .ok (.lconst 1, 1) := by decide +kernel
theorem dX9_words_66 : decode cX9_words 66 = .ok (.ladd, 1) := by decide +kernel
theorem dX9_words_67 : decode cX9_words 67 = .ok (.lstore 5, 2) := by decide +kernel
theorem dX9_words_69 : decode cX9_words 69 = .ok (.lload 7, 2) := by decide +kernel
theorem dX9_words_71 : decode cX9_words 71 = .ok (.iload 4, 2) := by decide +kernel
theorem dX9_words_73 : decode cX9_words 73 = .ok (.i2l, 1) := by decide +kernel
theorem dX9_words_74 : decode cX9_words 74 = .ok (.lmul, 1) := by decide +kernel
theorem dX9_words_75 : decode cX9_words 75 = .ok (.lstore 7, 2) := by decide +kernel
theorem dX9_words_77 : decode cX9_words 77 = .ok (.goto (-22), 3) := by decide +kernel
theorem dX9_words_80 : decode cX9_words 80 = .ok (.lload 5, 2) := by decide +kernel
theorem dX9_words_82 : decode cX9_words 82 = .ok (.aload_n 0, 1) := by decide +kernel
theorem dX9_words_83 : decode cX9_words 83 = .ok (.iload_n 1, 1) := by decide +kernel
theorem dX9_words_84 : decode cX9_words 84 = .ok (.iload_n 2, 1) := by decide +kernel
theorem dX9_words_85 : decode cX9_words 85 = .ok (.invokevirtual 461, 3) := by decide +kernel
theorem dX9_words_88 : decode cX9_words 88 = .ok (.i2l, 1) := by decide +kernel
theorem dX9_words_89 : decode cX9_words 89 = .ok (.lmul, 1) := by decide +kernel
theorem dX9_words_90 : decode cX9_words 90 = .ok (.lreturn, 1) := by decide +kernel
theorem dX9_tillThere_0 : decode cX9_tillThere 0 = .ok (.aload_n 0, 1) := by decide +kernel
theorem dX9_tillThere_1 : decode cX9_tillThere 1 = .ok (.aload_n 0, 1) := by decide +kernel
theorem dX9_tillThere_2 : decode cX9_tillThere 2 = .ok (.iload_n 1, 1) := by decide +kernel
theorem dX9_tillThere_3 : decode cX9_tillThere 3 = .ok (.iconst 1, 1) := by decide +kernel
theorem dX9_tillThere_4 : decode cX9_tillThere 4 = .ok (.invokevirtual 310, 3) := by decide +kernel
theorem dX9_tillThere_7 : decode cX9_tillThere 7 = .ok (.iload_n 2, 1) := by decide +kernel
theorem dX9_tillThere_8 : decode cX9_tillThere 8 = .ok (.iconst 1, 1) := by decide +kernel
theorem dX9_tillThere_9 : decode cX9_tillThere 9 = .ok (.iadd, 1) := by decide +kernel
theorem dX9_tillThere_10 : decode cX9_tillThere 10 = .ok (.if_icmp .ne 12, 3) := by decide +kernel
theorem dX9_tillThere_13 : decode cX9_tillThere 13 = .ok (.aload_n 0, 1) := by decide +kernel
theorem dX9_tillThere_14 : decode cX9_tillThere 14 = .ok (.iload_n 1, 1) := by decide +kernel
theorem dX9_tillThere_15 : decode cX9_tillThere 15 = .ok (.iconst 0, 1) := by decide +kernel
theorem dX9_tillThere_16 : decode cX9_tillThere 16 = .ok (.invokevirtual 310, 3) := by decide +kernel
theorem dX9_tillThere_19 : decode cX9_tillThere 19 = .ok (.goto 4, 3) := by decide +kernel
theorem dX9_tillThere_22 : decode cX9_tillThere 22 = .ok (.iconst 0, 1) := by decide +kernel
theorem dX9_tillThere_23 : decode cX9_tillThere 23 = .ok (.iload_n 3, 1) := by decide +kernel
theorem dX9_tillThere_24 : decode cX9_tillThere 24 = .ok (.invokevirtual 394, 3) := by decide +kernel
theorem dX9_tillThere_27 : decode cX9_tillThere 27 = .ok (.lreturn, 1) := by decide +kernel
theorem dX9_meetWhy_0 : decode cX9_meetWhy 0 = .ok (.aload_n 0, 1) := by decide +kernel
theorem dX9_meetWhy_1 : decode cX9_meetWhy 1 = .ok (.iload_n 1, 1) := by decide +kernel
theorem dX9_meetWhy_2 : decode cX9_meetWhy 2 = .ok (.invokevirtual 353, 3) := by decide +kernel
theorem dX9_meetWhy_5 : decode cX9_meetWhy 5 = .ok (.ifCond .eq 28, 3) := by decide +kernel
theorem dX9_meetWhy_8 : decode cX9_meetWhy 8 = .ok (.aload_n 0, 1) := by decide +kernel
theorem dX9_meetWhy_9 : decode cX9_meetWhy 9 = .ok (.iload_n 2, 1) := by decide +kernel
theorem dX9_meetWhy_10 : decode cX9_meetWhy 10 = .ok (.invokevirtual 353, 3) := by decide +kernel
theorem dX9_meetWhy_13 : decode cX9_meetWhy 13 = .ok (.ifCond .eq 20, 3) := by decide +kernel
theorem dX9_meetWhy_16 : decode cX9_meetWhy 16 = .ok (.iload_n 1, 1) := by decide +kernel
theorem dX9_meetWhy_17 : decode cX9_meetWhy 17 = .ok (.iload_n 2, 1) := by decide +kernel
theorem dX9_meetWhy_18 : decode cX9_meetWhy 18 = .ok (.if_icmp .eq 15, 3) := by decide +kernel
theorem dX9_meetWhy_21 : decode cX9_meetWhy 21 = .ok (.aload_n 0, 1) := by decide +kernel
theorem dX9_meetWhy_22 : decode cX9_meetWhy 22 = .ok (.iload_n 3, 1) := by decide +kernel
theorem dX9_meetWhy_23 : decode cX9_meetWhy 23 = .ok (.invokevirtual 350, 3) := by decide +kernel
theorem dX9_meetWhy_26 : decode cX9_meetWhy 26 = .ok (.ifCond .eq 7, 3) := by decide +kernel
theorem dX9_meetWhy_29 : decode cX9_meetWhy 29 = .ok (.iload_n 3, 1) := by decide +kernel
theorem dX9_meetWhy_30 : decode cX9_meetWhy 30 = .ok (.ifCond .ne 7, 3) := by decide +kernel
theorem dX9_meetWhy_33 : decode cX9_meetWhy 33 = .ok (.iconst 1, 1) := by decide +kernel
theorem dX9_meetWhy_34 : decode cX9_meetWhy 34 = .ok (.goto 4, 3) := by decide +kernel
theorem dX9_meetWhy_37 : decode cX9_meetWhy 37 = .ok (.iconst 0, 1) := by decide +kernel
theorem dX9_meetWhy_38 : decode cX9_meetWhy 38 = .ok (.ireturn, 1) := by decide +kernel
theorem dX9_meetHead_0 : decode cX9_meetHead 0 = .ok (.iconst (-1), 1) := by decide +kernel
theorem dX9_meetHead_1 : decode cX9_meetHead 1 = .ok (.istore 4, 2) := by decide +kernel
theorem dX9_meetHead_3 : decode cX9_meetHead 3 = .ok (.iconst 0, 1) := by decide +kernel
theorem dX9_meetHead_4 : decode cX9_meetHead 4 = .ok (.istore 5, 2) := by decide +kernel
theorem dX9_meetHead_6 : decode cX9_meetHead 6 = .ok (.iload 5, 2) := by decide +kernel
theorem dX9_meetHead_8 : decode cX9_meetHead 8 = .ok (.aload_n 0, 1) := by decide +kernel
theorem dX9_meetHead_9 : decode cX9_meetHead 9 = .ok (.getfield 20, 3) := by decide +kernel
theorem dX9_meetHead_12 : decode cX9_meetHead 12 = .ok (.iconst 3, 1) := by decide +kernel
theorem dX9_meetHead_13 : decode cX9_meetHead 13 = .ok (.iaload, 1) := by decide +kernel
theorem dX9_meetHead_14 : decode cX9_meetHead 14 = .ok (.if_icmp .ge 74, 3) := by decide +kernel
theorem dX9_meetHead_17 : decode cX9_meetHead 17 = .ok (.aload_n 0, 1) := by decide +kernel
theorem dX9_meetHead_18 : decode cX9_meetHead 18 = .ok (.iload_n 1, 1) := by decide +kernel
theorem dX9_meetHead_19 : decode cX9_meetHead 19 = .ok (.iload 5, 2) := by decide +kernel
theorem dX9_meetHead_21 : decode cX9_meetHead 21 = .ok (.iload_n 3, 1) := by decide +kernel
theorem dX9_meetHead_22 : decode cX9_meetHead 22 = .ok (.invokevirtual 464, 3) := by decide +kernel
theorem dX9_meetHead_25 : decode cX9_meetHead 25 = .ok (.lstore 6, 2) := by decide +kernel
theorem dX9_meetHead_27 : decode cX9_meetHead 27 = .ok (.aload_n 0, 1) := by decide +kernel
theorem dX9_meetHead_28 : decode cX9_meetHead 28 = .ok (.iload_n 2, 1) := by decide +kernel
theorem dX9_meetHead_29 : decode cX9_meetHead 29 = .ok (.iload 5, 2) := by decide +kernel
theorem dX9_meetHead_31 : decode cX9_meetHead 31 = .ok (.iload_n 3, 1) := by decide +kernel
theorem dX9_meetHead_32 : decode cX9_meetHead 32 = .ok (.invokevirtual 464, 3) := by decide +kernel
theorem dX9_meetHead_35 : decode cX9_meetHead 35 = .ok (.lstore 8, 2) := by decide +kernel
theorem dX9_meetHead_37 : decode cX9_meetHead 37 = .ok (.lload 6, 2) := by decide +kernel
theorem dX9_meetHead_39 : decode cX9_meetHead 39 = .ok (.lload 8, 2) := by decide +kernel
theorem dX9_meetHead_41 : decode cX9_meetHead 41 = .ok (.lcmp, 1) := by decide +kernel
theorem dX9_meetHead_42 : decode cX9_meetHead 42 = .ok (.ifCond .le 8, 3) := by decide +kernel
theorem dX9_meetHead_45 : decode cX9_meetHead 45 = .ok (.lload 6, 2) := by decide +kernel
theorem dX9_meetHead_47 : decode cX9_meetHead 47 = .ok (.goto 5, 3) := by decide +kernel
theorem dX9_meetHead_50 : decode cX9_meetHead 50 = .ok (.lload 8, 2) := by decide +kernel
theorem dX9_meetHead_52 : decode cX9_meetHead 52 = .ok (.lstore 10, 2) := by decide +kernel
theorem dX9_meetHead_54 : decode cX9_meetHead 54 = .ok (.iload 4, 2) := by decide +kernel
theorem dX9_meetHead_56 : decode cX9_meetHead 56 = .ok (.ifCond .lt 16, 3) := by decide +kernel
theorem dX9_meetHead_59 : decode cX9_meetHead 59 = .ok (.lload 10, 2) := by decide +kernel
theorem dX9_meetHead_61 : decode cX9_meetHead 61 = .ok (.aload_n 0, 1) := by decide +kernel
theorem dX9_meetHead_62 : decode cX9_meetHead 62 = .ok (.getfield 467, 3) := by decide +kernel
theorem dX9_meetHead_65 : decode cX9_meetHead 65 = .ok (.lcmp, 1) := by decide +kernel
theorem dX9_meetHead_66 : decode cX9_meetHead 66 = .ok (.ifCond .lt 6, 3) := by decide +kernel
theorem dX9_meetHead_69 : decode cX9_meetHead 69 = .ok (.goto 13, 3) := by decide +kernel
theorem dX9_meetHead_72 : decode cX9_meetHead 72 = .ok (.iload 5, 2) := by decide +kernel
theorem dX9_meetHead_74 : decode cX9_meetHead 74 = .ok (.istore 4, 2) := by decide +kernel
theorem dX9_meetHead_76 : decode cX9_meetHead 76 = .ok (.aload_n 0, 1) := by decide +kernel
theorem dX9_meetHead_77 : decode cX9_meetHead 77 = .ok (.lload 10, 2) := by decide +kernel
theorem dX9_meetHead_79 : decode cX9_meetHead 79 = .ok (.putfield 467, 3) := by decide +kernel
theorem dX9_meetHead_82 : decode cX9_meetHead 82 = .ok (.iinc 5 1, 3) := by decide +kernel
theorem dX9_meetHead_85 : decode cX9_meetHead 85 = .ok (.goto (-79), 3) := by decide +kernel
theorem dX9_meetHead_88 : decode cX9_meetHead 88 = .ok (.iload 4, 2) := by decide +kernel
theorem dX9_meetHead_90 : decode cX9_meetHead 90 = .ok (.ireturn, 1) := by decide +kernel
theorem dX9_meeting_0 : decode cX9_meeting 0 = .ok (.aload_n 0, 1) := by decide +kernel
theorem dX9_meeting_1 : decode cX9_meeting 1 = .ok (.invokevirtual 191, 3) := by decide +kernel
theorem dX9_meeting_4 : decode cX9_meeting 4 = .ok (.aload_n 0, 1) := by decide +kernel
theorem dX9_meeting_5 : decode cX9_meeting 5 = .ok (.iload_n 1, 1) := by decide +kernel
theorem dX9_meeting_6 : decode cX9_meeting 6 = .ok (.iload_n 2, 1) := by decide +kernel
theorem dX9_meeting_7 : decode cX9_meeting 7 = .ok (.iload_n 3, 1) := by decide +kernel
theorem dX9_meeting_8 : decode cX9_meeting 8 = .ok (.invokevirtual 470, 3) := by decide +kernel
theorem dX9_meeting_11 : decode cX9_meeting 11 = .ok (.istore 4, 2) := by decide +kernel
theorem dX9_meeting_13 : decode cX9_meeting 13 = .ok (.iload 4, 2) := by decide +kernel
theorem dX9_meeting_15 : decode cX9_meeting 15 = .ok (.ifCond .eq 11, 3) := by decide +kernel
theorem dX9_meeting_18 : decode cX9_meeting 18 = .ok (.aload_n 0, 1) := by decide +kernel
theorem dX9_meeting_19 : decode cX9_meeting 19 = .ok (.iload 4, 2) := by decide +kernel
theorem dX9_meeting_21 : decode cX9_meeting 21 = .ok (.invokevirtual 194, 3) := by decide +kernel
theorem dX9_meeting_24 : decode cX9_meeting 24 = .ok (.i2l, 1) := by decide +kernel
theorem dX9_meeting_25 : decode cX9_meeting 25 = .ok (.lreturn, 1) := by decide +kernel
theorem dX9_meeting_26 : decode cX9_meeting 26 = .ok (.aload_n 0, 1) := by decide +kernel
theorem dX9_meeting_27 : decode cX9_meeting 27 = .ok (.iload_n 1, 1) := by decide +kernel
theorem dX9_meeting_28 : decode cX9_meeting 28 = .ok (.iload_n 2, 1) := by decide +kernel
theorem dX9_meeting_29 : decode cX9_meeting 29 = .ok (.iload_n 3, 1) := by decide +kernel
theorem dX9_meeting_30 : decode cX9_meeting 30 = .ok (.invokevirtual 473, 3) := by decide +kernel
theorem dX9_meeting_33 : decode cX9_meeting 33 = .ok (.pop, 1) := by decide +kernel
theorem dX9_meeting_34 : decode cX9_meeting 34 = .ok (.aload_n 0, 1) := by decide +kernel
theorem dX9_meeting_35 : decode cX9_meeting 35 = .ok (.getfield 467, 3) := by decide +kernel
theorem dX9_meeting_38 : decode cX9_meeting 38 = .ok (.lreturn, 1) := by decide +kernel
theorem dX9_meetingHead_0 : decode cX9_meetingHead 0 = .ok (.aload_n 0, 1) := by decide +kernel
theorem dX9_meetingHead_1 : decode cX9_meetingHead 1 = .ok (.invokevirtual 191, 3) := by decide +kernel
theorem dX9_meetingHead_4 : decode cX9_meetingHead 4 = .ok (.aload_n 0, 1) := by decide +kernel
theorem dX9_meetingHead_5 : decode cX9_meetingHead 5 = .ok (.iload_n 1, 1) := by decide +kernel
theorem dX9_meetingHead_6 : decode cX9_meetingHead 6 = .ok (.iload_n 2, 1) := by decide +kernel
theorem dX9_meetingHead_7 : decode cX9_meetingHead 7 = .ok (.iload_n 3, 1) := by decide +kernel
theorem dX9_meetingHead_8 : decode cX9_meetingHead 8 = .ok (.invokevirtual 470, 3) := by decide +kernel
theorem dX9_meetingHead_11 : decode cX9_meetingHead 11 = .ok (.istore 4, 2) := by decide +kernel
theorem dX9_meetingHead_13 : decode cX9_meetingHead 13 = .ok (.iload 4, 2) := by decide +kernel
theorem dX9_meetingHead_15 : decode cX9_meetingHead 15 = .ok (.ifCond .eq 12, 3) := by decide +kernel
theorem dX9_meetingHead_18 : decode cX9_meetingHead 18 = .ok (.aload_n 0, 1) := by decide +kernel
theorem dX9_meetingHead_19 : decode cX9_meetingHead 19 = .ok (.iload 4, 2) := by decide +kernel
theorem dX9_meetingHead_21 : decode cX9_meetingHead 21 = .ok (.invokevirtual 194, 3) := by decide +kernel
theorem dX9_meetingHead_24 : decode cX9_meetingHead 24 = .ok (.goto 10, 3) := by decide +kernel
theorem dX9_meetingHead_27 : decode cX9_meetingHead 27 = .ok (.aload_n 0, 1) := by decide +kernel
theorem dX9_meetingHead_28 : decode cX9_meetingHead 28 = .ok (.iload_n 1, 1) := by decide +kernel
theorem dX9_meetingHead_29 : decode cX9_meetingHead 29 = .ok (.iload_n 2, 1) := by decide +kernel
theorem dX9_meetingHead_30 : decode cX9_meetingHead 30 = .ok (.iload_n 3, 1) := by decide +kernel
theorem dX9_meetingHead_31 : decode cX9_meetingHead 31 = .ok (.invokevirtual 473, 3) := by decide +kernel
theorem dX9_meetingHead_34 : decode cX9_meetingHead 34 = .ok (.ireturn, 1) := by decide +kernel
theorem dX9_gainOf_0 : decode cX9_gainOf 0 = .ok (.iload_n 2, 1) := by decide +kernel
theorem dX9_gainOf_1 : decode cX9_gainOf 1 = .ok (.ifCond .ne 7, 3) := by decide +kernel
theorem dX9_gainOf_4 : decode cX9_gainOf 4 = .ok (.lconst 0, 1) := by decide +kernel
theorem dX9_gainOf_5 : decode cX9_gainOf 5 = .ok (.goto 25, 3) := by decide +kernel
theorem dX9_gainOf_8 : decode cX9_gainOf 8 = .ok (.lload_n 3, 1) := by decide +kernel
theorem dX9_gainOf_9 : decode cX9_gainOf 9 = .ok (.aload_n 0, 1) := by decide +kernel
theorem dX9_gainOf_10 : decode cX9_gainOf 10 = .ok (.iload_n 2, 1) := by decide +kernel
theorem dX9_gainOf_11 : decode cX9_gainOf 11 = .ok (.invokevirtual 304, 3) := by decide +kernel
theorem dX9_gainOf_14 : decode cX9_gainOf 14 = .ok (.i2l, 1) := by decide +kernel
theorem dX9_gainOf_15 : decode cX9_gainOf 15 = .ok (.lmul, 1) := by decide +kernel
theorem dX9_gainOf_16 : decode cX9_gainOf 16 = .ok (.aload_n 0, 1) := by decide +kernel
theorem dX9_gainOf_17 : decode cX9_gainOf 17 = .ok (.iload_n 1, 1) := by decide +kernel
theorem dX9_gainOf_18 : decode cX9_gainOf 18 = .ok (.iconst 2, 1) := by decide +kernel
theorem dX9_gainOf_19 : decode cX9_gainOf 19 = .ok (.invokevirtual 335, 3) := by decide +kernel
theorem dX9_gainOf_22 : decode cX9_gainOf 22 = .ok (.i2l, 1) := by decide +kernel
theorem dX9_gainOf_23 : decode cX9_gainOf 23 = .ok (.iload_n 2, 1) := by decide +kernel
theorem dX9_gainOf_24 : decode cX9_gainOf 24 = .ok (.i2l, 1) := by decide +kernel
theorem dX9_gainOf_25 : decode cX9_gainOf 25 = .ok (.lmul, 1) := by decide +kernel
theorem dX9_gainOf_26 : decode cX9_gainOf 26 = .ok (.iload_n 2, 1) := by decide +kernel
theorem dX9_gainOf_27 : decode cX9_gainOf 27 = .ok (.i2l, 1) := by decide +kernel
theorem dX9_gainOf_28 : decode cX9_gainOf 28 = .ok (.lmul, 1) := by decide +kernel
theorem dX9_gainOf_29 : decode cX9_gainOf 29 = .ok (.lsub, 1) := by decide +kernel
theorem dX9_gainOf_30 : decode cX9_gainOf 30 = .ok (.lreturn, 1) := by decide +kernel
theorem dX9_takesOf_0 : decode cX9_takesOf 0 = .ok (.iconst 0, 1) := by decide +kernel
theorem dX9_takesOf_1 : decode cX9_takesOf 1 = .ok (.istore_n 2, 1) := by decide +kernel
theorem dX9_takesOf_2 : decode cX9_takesOf 2 = .ok (.iconst 1, 1) := by decide +kernel
theorem dX9_takesOf_3 : decode cX9_takesOf 3 = .ok (.istore_n 3, 1) := by decide +kernel
theorem dX9_takesOf_4 : decode cX9_takesOf 4 = .ok (.iload_n 3, 1) := by decide +kernel
theorem dX9_takesOf_5 : decode cX9_takesOf 5 = .ok (.aload_n 0, 1) := by decide +kernel
theorem dX9_takesOf_6 : decode cX9_takesOf 6 = .ok (.getfield 20, 3) := by decide +kernel
theorem dX9_takesOf_9 : decode cX9_takesOf 9 = .ok (.iconst 0, 1) := by decide +kernel
theorem dX9_takesOf_10 : decode cX9_takesOf 10 = .ok (.iaload, 1) := by decide +kernel
theorem dX9_takesOf_11 : decode cX9_takesOf 11 = .ok (.if_icmp .gt 61, 3) := by decide +kernel
theorem dX9_takesOf_14 : decode cX9_takesOf 14 = .ok (.aload_n 0, 1) := by decide +kernel
theorem dX9_takesOf_15 : decode cX9_takesOf 15 = .ok (.iload_n 1, 1) := by decide +kernel
theorem dX9_takesOf_16 : decode cX9_takesOf 16 = .ok (.iload_n 3, 1) := by decide +kernel
theorem dX9_takesOf_17 : decode cX9_takesOf 17 = .ok (.aload_n 0, 1) := by decide +kernel
theorem dX9_takesOf_18 : decode cX9_takesOf 18 = .ok (.getfield 20, 3) := by decide +kernel
theorem dX9_takesOf_21 : decode cX9_takesOf 21 = .ok (.sipush 150, 3) := by decide +kernel
theorem dX9_takesOf_24 : decode cX9_takesOf 24 = .ok (.iload_n 3, 1) := by decide +kernel
theorem dX9_takesOf_25 : decode cX9_takesOf 25 = .ok (.iadd, 1) := by decide +kernel
theorem dX9_takesOf_26 : decode cX9_takesOf 26 = .ok (.iconst 1, 1) := by decide +kernel
theorem dX9_takesOf_27 : decode cX9_takesOf 27 = .ok (.isub, 1) := by decide +kernel
theorem dX9_takesOf_28 : decode cX9_takesOf 28 = .ok (.iaload, 1) := by decide +kernel
theorem dX9_takesOf_29 : decode cX9_takesOf 29 = .ok (.i2l, 1) := by decide +kernel
theorem dX9_takesOf_30 : decode cX9_takesOf 30 = .ok (.invokevirtual 476, 3) := by decide +kernel
theorem dX9_takesOf_33 : decode cX9_takesOf 33 = .ok (.aload_n 0, 1) := by decide +kernel
theorem dX9_takesOf_34 : decode cX9_takesOf 34 = .ok (.iload_n 1, 1) := by decide +kernel
theorem dX9_takesOf_35 : decode cX9_takesOf 35 = .ok (.iload_n 2, 1) := by decide +kernel
theorem dX9_takesOf_36 : decode cX9_takesOf 36 = .ok (.iload_n 2, 1) := by decide +kernel
theorem dX9_takesOf_37 : decode cX9_takesOf 37 = .ok (.ifCond .ne 7, 3) := by decide +kernel
theorem dX9_takesOf_40 : decode cX9_takesOf 40 = .ok (.lconst 0, 1) := by decide +kernel
theorem dX9_takesOf_41 : decode cX9_takesOf 41 = .ok (.goto 16, 3) := by decide +kernel
theorem dX9_takesOf_44 : decode cX9_takesOf 44 = .ok (.aload_n 0, 1) := by decide +kernel
theorem dX9_takesOf_45 : decode cX9_takesOf 45 = .ok (.getfield 20, 3) := by decide +kernel
theorem dX9_takesOf_48 : decode cX9_takesOf 48 = .ok (.sipush 150, 3) := by decide +kernel
theorem dX9_takesOf_51 : decode cX9_takesOf 51 = .ok (.iload_n 2, 1) := by decide +kernel
theorem dX9_takesOf_52 : decode cX9_takesOf 52 = .ok (.iadd, 1) := by decide +kernel
theorem dX9_takesOf_53 : decode cX9_takesOf 53 = .ok (.iconst 1, 1) := by decide +kernel
theorem dX9_takesOf_54 : decode cX9_takesOf 54 = .ok (.isub, 1) := by decide +kernel
theorem dX9_takesOf_55 : decode cX9_takesOf 55 = .ok (.iaload, 1) := by decide +kernel
theorem dX9_takesOf_56 : decode cX9_takesOf 56 = .ok (.i2l, 1) := by decide +kernel
theorem dX9_takesOf_57 : decode cX9_takesOf 57 = .ok (.invokevirtual 476, 3) := by decide +kernel
theorem dX9_takesOf_60 : decode cX9_takesOf 60 = .ok (.lcmp, 1) := by decide +kernel
theorem dX9_takesOf_61 : decode cX9_takesOf 61 = .ok (.ifCond .le 5, 3) := by decide +kernel
theorem dX9_takesOf_64 : decode cX9_takesOf 64 = .ok (.iload_n 3, 1) := by decide +kernel
theorem dX9_takesOf_65 : decode cX9_takesOf 65 = .ok (.istore_n 2, 1) := by decide +kernel
theorem dX9_takesOf_66 : decode cX9_takesOf 66 = .ok (.iinc 3 1, 3) := by decide +kernel
theorem dX9_takesOf_69 : decode cX9_takesOf 69 = .ok (.goto (-65), 3) := by decide +kernel
theorem dX9_takesOf_72 : decode cX9_takesOf 72 = .ok (.iload_n 2, 1) := by decide +kernel
theorem dX9_takesOf_73 : decode cX9_takesOf 73 = .ok (.ireturn, 1) := by decide +kernel
theorem dX9_payWhy_0 : decode cX9_payWhy 0 = .ok (.aload_n 0, 1) := by decide +kernel
theorem dX9_payWhy_1 : decode cX9_payWhy 1 = .ok (.iload_n 1, 1) := by decide +kernel
theorem dX9_payWhy_2 : decode cX9_payWhy 2 = .ok (.invokevirtual 353, 3) := by decide +kernel
theorem dX9_payWhy_5 : decode cX9_payWhy 5 = .ok (.ifCond .ne 7, 3) := by decide +kernel
theorem dX9_payWhy_8 : decode cX9_payWhy 8 = .ok (.iconst 1, 1) := by decide +kernel
theorem dX9_payWhy_9 : decode cX9_payWhy 9 = .ok (.goto 20, 3) := by decide +kernel
theorem dX9_payWhy_12 : decode cX9_payWhy 12 = .ok (.aload_n 0, 1) := by decide +kernel
theorem dX9_payWhy_13 : decode cX9_payWhy 13 = .ok (.getfield 20, 3) := by decide +kernel
theorem dX9_payWhy_16 : decode cX9_payWhy 16 = .ok (.bipush 10, 2) := by decide +kernel
theorem dX9_payWhy_18 : decode cX9_payWhy 18 = .ok (.iaload, 1) := by decide +kernel
theorem dX9_payWhy_19 : decode cX9_payWhy 19 = .ok (.iconst 1, 1) := by decide +kernel
theorem dX9_payWhy_20 : decode cX9_payWhy 20 = .ok (.if_icmp .ne 7, 3) := by decide +kernel
theorem dX9_payWhy_23 : decode cX9_payWhy 23 = .ok (.iconst 0, 1) := by decide +kernel
theorem dX9_payWhy_24 : decode cX9_payWhy 24 = .ok (.goto 5, 3) := by decide +kernel
theorem dX9_payWhy_27 : decode cX9_payWhy 27 = .ok (.bipush 6, 2) := by decide +kernel
theorem dX9_payWhy_29 : decode cX9_payWhy 29 = .ok (.ireturn, 1) := by decide +kernel
theorem dX9_takes_0 : decode cX9_takes 0 = .ok (.aload_n 0, 1) := by decide +kernel
theorem dX9_takes_1 : decode cX9_takes 1 = .ok (.invokevirtual 191, 3) := by decide +kernel
theorem dX9_takes_4 : decode cX9_takes 4 = .ok (.aload_n 0, 1) := by decide +kernel
theorem dX9_takes_5 : decode cX9_takes 5 = .ok (.iload_n 1, 1) := by decide +kernel
theorem dX9_takes_6 : decode cX9_takes 6 = .ok (.invokevirtual 480, 3) := by decide +kernel
theorem dX9_takes_9 : decode cX9_takes 9 = .ok (.istore_n 2, 1) := by decide +kernel
theorem dX9_takes_10 : decode cX9_takes 10 = .ok (.iload_n 2, 1) := by decide +kernel
theorem dX9_takes_11 : decode cX9_takes 11 = .ok (.ifCond .eq 11, 3) := by decide +kernel
theorem dX9_takes_14 : decode cX9_takes 14 = .ok (.aload_n 0, 1) := by decide +kernel
theorem dX9_takes_15 : decode cX9_takes 15 = .ok (.iload_n 2, 1) := by decide +kernel
theorem dX9_takes_16 : decode cX9_takes 16 = .ok (.invokevirtual 194, 3) := by decide +kernel
theorem dX9_takes_19 : decode cX9_takes 19 = .ok (.goto 8, 3) := by decide +kernel
theorem dX9_takes_22 : decode cX9_takes 22 = .ok (.aload_n 0, 1) := by decide +kernel
theorem dX9_takes_23 : decode cX9_takes 23 = .ok (.iload_n 1, 1) := by decide +kernel
theorem dX9_takes_24 : decode cX9_takes 24 = .ok (.invokevirtual 483, 3) := by decide +kernel
theorem dX9_takes_27 : decode cX9_takes 27 = .ok (.ireturn, 1) := by decide +kernel
theorem dX9_gains_0 : decode cX9_gains 0 = .ok (.aload_n 0, 1) := by decide +kernel
theorem dX9_gains_1 : decode cX9_gains 1 = .ok (.invokevirtual 191, 3) := by decide +kernel
theorem dX9_gains_4 : decode cX9_gains 4 = .ok (.aload_n 0, 1) := by decide +kernel
theorem dX9_gains_5 : decode cX9_gains 5 = .ok (.iload_n 1, 1) := by decide +kernel
theorem dX9_gains_6 : decode cX9_gains 6 = .ok (.invokevirtual 480, 3) := by decide +kernel
theorem dX9_gains_9 : decode cX9_gains 9 = .ok (.istore_n 2, 1) := by decide +kernel
theorem dX9_gains_10 : decode cX9_gains 10 = .ok (.iload_n 2, 1) := by decide +kernel
theorem dX9_gains_11 : decode cX9_gains 11 = .ok (.ifCond .eq 10, 3) := by decide +kernel
theorem dX9_gains_14 : decode cX9_gains 14 = .ok (.aload_n 0, 1) := by decide +kernel
theorem dX9_gains_15 : decode cX9_gains 15 = .ok (.iload_n 2, 1) := by decide +kernel
theorem dX9_gains_16 : decode cX9_gains 16 = .ok (.invokevirtual 194, 3) := by decide +kernel
theorem dX9_gains_19 : decode cX9_gains 19 = .ok (.i2l, 1) := by decide +kernel
theorem dX9_gains_20 : decode cX9_gains 20 = .ok (.lreturn, 1) := by decide +kernel
theorem dX9_gains_21 : decode cX9_gains 21 = .ok (.aload_n 0, 1) := by decide +kernel
theorem dX9_gains_22 : decode cX9_gains 22 = .ok (.iload_n 1, 1) := by decide +kernel
theorem dX9_gains_23 : decode cX9_gains 23 = .ok (.invokevirtual 483, 3) := by decide +kernel
theorem dX9_gains_26 : decode cX9_gains 26 = .ok (.istore_n 3, 1) := by decide +kernel
theorem dX9_gains_27 : decode cX9_gains 27 = .ok (.aload_n 0, 1) := by decide +kernel
theorem dX9_gains_28 : decode cX9_gains 28 = .ok (.iload_n 1, 1) := by decide +kernel
theorem dX9_gains_29 : decode cX9_gains 29 = .ok (.iload_n 3, 1) := by decide +kernel
theorem dX9_gains_30 : decode cX9_gains 30 = .ok (.iload_n 3, 1) := by decide +kernel
theorem dX9_gains_31 : decode cX9_gains 31 = .ok (.ifCond .ne 7, 3) := by decide +kernel
theorem dX9_gains_34 : decode cX9_gains 34 = .ok (.lconst 0, 1) := by decide +kernel
theorem dX9_gains_35 : decode cX9_gains 35 = .ok (.goto 16, 3) := by decide +kernel
theorem dX9_gains_38 : decode cX9_gains 38 = .ok (.aload_n 0, 1) := by decide +kernel
theorem dX9_gains_39 : decode cX9_gains 39 = .ok (.getfield 20, 3) := by decide +kernel
theorem dX9_gains_42 : decode cX9_gains 42 = .ok (.sipush 150, 3) := by decide +kernel
theorem dX9_gains_45 : decode cX9_gains 45 = .ok (.iload_n 3, 1) := by decide +kernel
theorem dX9_gains_46 : decode cX9_gains 46 = .ok (.iadd, 1) := by decide +kernel
theorem dX9_gains_47 : decode cX9_gains 47 = .ok (.iconst 1, 1) := by decide +kernel
theorem dX9_gains_48 : decode cX9_gains 48 = .ok (.isub, 1) := by decide +kernel
theorem dX9_gains_49 : decode cX9_gains 49 = .ok (.iaload, 1) := by decide +kernel
theorem dX9_gains_50 : decode cX9_gains 50 = .ok (.i2l, 1) := by decide +kernel
theorem dX9_gains_51 : decode cX9_gains 51 = .ok (.invokevirtual 476, 3) := by decide +kernel
theorem dX9_gains_54 : decode cX9_gains 54 = .ok (.lreturn, 1) := by decide +kernel
theorem dX9_doesTake_0 : decode cX9_doesTake 0 = .ok (.aload_n 0, 1) := by decide +kernel
theorem dX9_doesTake_1 : decode cX9_doesTake 1 = .ok (.iload_n 1, 1) := by decide +kernel
theorem dX9_doesTake_2 : decode cX9_doesTake 2 = .ok (.iload_n 2, 1) := by decide +kernel
theorem dX9_doesTake_3 : decode cX9_doesTake 3 = .ok (.lload_n 3, 1) := by decide +kernel
theorem dX9_doesTake_4 : decode cX9_doesTake 4 = .ok (.invokevirtual 476, 3) := by decide +kernel
theorem dX9_doesTake_7 : decode cX9_doesTake 7 = .ok (.lstore 5, 2) := by decide +kernel
theorem dX9_doesTake_9 : decode cX9_doesTake 9 = .ok (.iconst 1, 1) := by decide +kernel
theorem dX9_doesTake_10 : decode cX9_doesTake 10 = .ok (.istore 7, 2) := by decide +kernel
theorem dX9_doesTake_12 : decode cX9_doesTake 12 = .ok (.iconst 0, 1) := by decide +kernel
theorem dX9_doesTake_13 : decode cX9_doesTake 13 = .ok (.istore 8, 2) := by decide +kernel
theorem dX9_doesTake_15 : decode cX9_doesTake 15 = .ok (.iload 8, 2) := by decide +kernel
theorem dX9_doesTake_17 : decode cX9_doesTake 17 = .ok (.aload_n 0, 1) := by decide +kernel
theorem dX9_doesTake_18 : decode cX9_doesTake 18 = .ok (.getfield 20, 3) := by decide +kernel
theorem dX9_doesTake_21 : decode cX9_doesTake 21 = .ok (.iconst 0, 1) := by decide +kernel
theorem dX9_doesTake_22 : decode cX9_doesTake 22 = .ok (.iaload, 1) := by decide +kernel
theorem dX9_doesTake_23 : decode cX9_doesTake 23 = .ok (.if_icmp .gt 87, 3) := by decide +kernel
theorem dX9_doesTake_26 : decode cX9_doesTake 26 = .ok (.iload 8, 2) := by decide +kernel
theorem dX9_doesTake_28 : decode cX9_doesTake 28 = .ok (.iload_n 2, 1) := by decide +kernel
theorem dX9_doesTake_29 : decode cX9_doesTake 29 = .ok (.if_icmp .ne 6, 3) := by decide +kernel
theorem dX9_doesTake_32 : decode cX9_doesTake 32 = .ok (.goto 72, 3) := by decide +kernel
theorem dX9_doesTake_35 : decode cX9_doesTake 35 = .ok (.aload_n 0, 1) := by decide +kernel
theorem dX9_doesTake_36 : decode cX9_doesTake 36 = .ok (.iload_n 1, 1) := by decide +kernel
theorem dX9_doesTake_37 : decode cX9_doesTake 37 = .ok (.iload 8, 2) := by decide +kernel
theorem dX9_doesTake_39 : decode cX9_doesTake 39 = .ok (.iload 8, 2) := by decide +kernel
theorem dX9_doesTake_41 : decode cX9_doesTake 41 = .ok (.ifCond .ne 7, 3) := by decide +kernel
theorem dX9_doesTake_44 : decode cX9_doesTake 44 = .ok (.lconst 0, 1) := by decide +kernel
theorem dX9_doesTake_45 : decode cX9_doesTake 45 = .ok (.goto 17, 3) := by decide +kernel
theorem dX9_doesTake_48 : decode cX9_doesTake 48 = .ok (.aload_n 0, 1) := by decide +kernel
theorem dX9_doesTake_49 : decode cX9_doesTake 49 = .ok (.getfield 20, 3) := by decide +kernel
theorem dX9_doesTake_52 : decode cX9_doesTake 52 = .ok (.sipush 150, 3) := by decide +kernel
theorem dX9_doesTake_55 : decode cX9_doesTake 55 = .ok (.iload 8, 2) := by decide +kernel
theorem dX9_doesTake_57 : decode cX9_doesTake 57 = .ok (.iadd, 1) := by decide +kernel
theorem dX9_doesTake_58 : decode cX9_doesTake 58 = .ok (.iconst 1, 1) := by decide +kernel
theorem dX9_doesTake_59 : decode cX9_doesTake 59 = .ok (.isub, 1) := by decide +kernel
theorem dX9_doesTake_60 : decode cX9_doesTake 60 = .ok (.iaload, 1) := by decide +kernel
theorem dX9_doesTake_61 : decode cX9_doesTake 61 = .ok (.i2l, 1) := by decide +kernel
theorem dX9_doesTake_62 : decode cX9_doesTake 62 = .ok (.invokevirtual 476, 3) := by decide +kernel
theorem dX9_doesTake_65 : decode cX9_doesTake 65 = .ok (.lstore 9, 2) := by decide +kernel
theorem dX9_doesTake_67 : decode cX9_doesTake 67 = .ok (.iload 7, 2) := by decide +kernel
theorem dX9_doesTake_69 : decode cX9_doesTake 69 = .ok (.ifCond .eq 32, 3) := by decide +kernel
theorem dX9_doesTake_72 : decode cX9_doesTake 72 = .ok (.iload 8, 2) := by decide +kernel
theorem dX9_doesTake_74 : decode cX9_doesTake 74 = .ok (.iload_n 2, 1) := by decide +kernel
theorem dX9_doesTake_75 : decode cX9_doesTake 75 = .ok (.if_icmp .ge 14, 3) := by decide +kernel
theorem dX9_doesTake_78 : decode cX9_doesTake 78 = .ok (.lload 5, 2) := by decide +kernel
theorem dX9_doesTake_80 : decode cX9_doesTake 80 = .ok (.lload 9, 2) := by decide +kernel
theorem dX9_doesTake_82 : decode cX9_doesTake 82 = .ok (.lcmp, 1) := by decide +kernel
theorem dX9_doesTake_83 : decode cX9_doesTake 83 = .ok (.ifCond .le 18, 3) := by decide +kernel
theorem dX9_doesTake_86 : decode cX9_doesTake 86 = .ok (.goto 11, 3) := by decide +kernel
theorem dX9_doesTake_89 : decode cX9_doesTake 89 = .ok (.lload 5, 2) := by decide +kernel
theorem dX9_doesTake_91 : decode cX9_doesTake 91 = .ok (.lload 9, 2) := by decide +kernel
theorem dX9_doesTake_93 : decode cX9_doesTake 93 = .ok (.lcmp, 1) := by decide +kernel
theorem dX9_doesTake_94 : decode cX9_doesTake 94 = .ok (.ifCond .lt 7, 3) := by decide +kernel
theorem dX9_doesTake_97 : decode cX9_doesTake 97 = .ok (.iconst 1, 1) := by decide +kernel
theorem dX9_doesTake_98 : decode cX9_doesTake 98 = .ok (.goto 4, 3) := by decide +kernel
theorem dX9_doesTake_101 : decode cX9_doesTake 101 = .ok (.iconst 0, 1) := by decide +kernel
theorem dX9_doesTake_102 : decode cX9_doesTake 102 = .ok (.istore 7, 2) := by decide +kernel
theorem dX9_doesTake_104 : decode cX9_doesTake 104 = .ok (.iinc 8 1, 3) := by decide +kernel
theorem dX9_doesTake_107 : decode cX9_doesTake 107 = .ok (.goto (-92), 3) := by decide +kernel
theorem dX9_doesTake_110 : decode cX9_doesTake 110 = .ok (.iload 7, 2) := by decide +kernel
theorem dX9_doesTake_112 : decode cX9_doesTake 112 = .ok (.ireturn, 1) := by decide +kernel
theorem dX9_price_0 : decode cX9_price 0 = .ok (.aload_n 0, 1) := by decide +kernel
theorem dX9_price_1 : decode cX9_price 1 = .ok (.invokevirtual 191, 3) := by decide +kernel
theorem dX9_price_4 : decode cX9_price 4 = .ok (.aload_n 0, 1) := by decide +kernel
theorem dX9_price_5 : decode cX9_price 5 = .ok (.iload_n 1, 1) := by decide +kernel
theorem dX9_price_6 : decode cX9_price 6 = .ok (.invokevirtual 353, 3) := by decide +kernel
theorem dX9_price_9 : decode cX9_price 9 = .ok (.ifCond .eq 15, 3) := by decide +kernel
theorem dX9_price_12 : decode cX9_price 12 = .ok (.aload_n 0, 1) := by decide +kernel
theorem dX9_price_13 : decode cX9_price 13 = .ok (.iload_n 2, 1) := by decide +kernel
theorem dX9_price_14 : decode cX9_price 14 = .ok (.invokevirtual 350, 3) := by decide +kernel
theorem dX9_price_17 : decode cX9_price 17 = .ok (.ifCond .eq 7, 3) := by decide +kernel
theorem dX9_price_20 : decode cX9_price 20 = .ok (.iload_n 2, 1) := by decide +kernel
theorem dX9_price_21 : decode cX9_price 21 = .ok (.ifCond .ne 9, 3) := by decide +kernel
theorem dX9_price_24 : decode cX9_price 24 = .ok (.aload_n 0, 1) := by decide +kernel
theorem dX9_price_25 : decode cX9_price 25 = .ok (.iconst 1, 1) := by decide +kernel
theorem dX9_price_26 : decode cX9_price 26 = .ok (.invokevirtual 194, 3) := by decide +kernel
theorem dX9_price_29 : decode cX9_price 29 = .ok (.ireturn, 1) := by decide +kernel
theorem dX9_price_30 : decode cX9_price 30 = .ok (.aload_n 0, 1) := by decide +kernel
theorem dX9_price_31 : decode cX9_price 31 = .ok (.iload_n 1, 1) := by decide +kernel
theorem dX9_price_32 : decode cX9_price 32 = .ok (.invokevirtual 480, 3) := by decide +kernel
theorem dX9_price_35 : decode cX9_price 35 = .ok (.istore_n 3, 1) := by decide +kernel
theorem dX9_price_36 : decode cX9_price 36 = .ok (.iload_n 3, 1) := by decide +kernel
theorem dX9_price_37 : decode cX9_price 37 = .ok (.ifCond .eq 9, 3) := by decide +kernel
theorem dX9_price_40 : decode cX9_price 40 = .ok (.aload_n 0, 1) := by decide +kernel
theorem dX9_price_41 : decode cX9_price 41 = .ok (.iload_n 3, 1) := by decide +kernel
theorem dX9_price_42 : decode cX9_price 42 = .ok (.invokevirtual 194, 3) := by decide +kernel
theorem dX9_price_45 : decode cX9_price 45 = .ok (.ireturn, 1) := by decide +kernel
theorem dX9_price_46 : decode cX9_price 46 = .ok (.aload_n 0, 1) := by decide +kernel
theorem dX9_price_47 : decode cX9_price 47 = .ok (.iload_n 1, 1) := by decide +kernel
theorem dX9_price_48 : decode cX9_price 48 = .ok (.iload_n 2, 1) := by decide +kernel
theorem dX9_price_49 : decode cX9_price 49 = .ok (.ldc2_w 486, 3) := by decide +kernel
theorem dX9_price_52 : decode cX9_price 52 = .ok (.invokevirtual 488, 3) := by decide +kernel
theorem dX9_price_55 : decode cX9_price 55 = .ok (.ifCond .ne 6, 3) := by decide +kernel
theorem dX9_price_58 : decode cX9_price 58 = .ok (.bipush (-2), 2) := by decide +kernel
theorem dX9_price_60 : decode cX9_price 60 = .ok (.ireturn, 1) := by decide +kernel
theorem dX9_price_61 : decode cX9_price 61 = .ok (.iconst (-1), 1) := by decide +kernel
theorem dX9_price_62 : decode cX9_price 62 = .ok (.istore 4, 2) := by decide +kernel
theorem dX9_price_64 : decode cX9_price 64 = .ok (.ldc_w 492, 3) := by decide +kernel
theorem dX9_price_67 : decode cX9_price 67 = .ok (.istore 5, 2) := by decide +kernel
theorem dX9_price_69 : decode cX9_price 69 = .ok (.iload 5, 2) := by decide +kernel
theorem dX9_price_71 : decode cX9_price 71 = .ok (.iload 4, 2) := by decide +kernel
theorem dX9_price_73 : decode cX9_price 73 = .ok (.isub, 1) := by decide +kernel
theorem dX9_price_74 : decode cX9_price 74 = .ok (.iconst 1, 1) := by decide +kernel
theorem dX9_price_75 : decode cX9_price 75 = .ok (.if_icmp .le 41, 3) := by decide +kernel
theorem dX9_price_78 : decode cX9_price 78 = .ok (.iload 4, 2) := by decide +kernel
theorem dX9_price_80 : decode cX9_price 80 = .ok (.iload 5, 2) := by decide +kernel
theorem dX9_price_82 : decode cX9_price 82 = .ok (.iload 4, 2) := by decide +kernel
theorem dX9_price_84 : decode cX9_price 84 = .ok (.isub, 1) := by decide +kernel
theorem dX9_price_85 : decode cX9_price 85 = .ok (.iconst 2, 1) := by decide +kernel
theorem dX9_price_86 : decode cX9_price 86 = .ok (.idiv, 1) := by decide +kernel
theorem dX9_price_87 : decode cX9_price 87 = .ok (.iadd, 1) := by decide +kernel
theorem dX9_price_88 : decode cX9_price 88 = .ok (.istore 6, 2) := by decide +kernel
theorem dX9_price_90 : decode cX9_price 90 = .ok (.aload_n 0, 1) := by decide +kernel
theorem dX9_price_91 : decode cX9_price 91 = .ok (.iload_n 1, 1) := by decide +kernel
theorem dX9_price_92 : decode cX9_price 92 = .ok (.iload_n 2, 1) := by decide +kernel
theorem dX9_price_93 : decode cX9_price 93 = .ok (.iload 6, 2) := by decide +kernel
theorem dX9_price_95 : decode cX9_price 95 = .ok (.i2l, 1) := by decide +kernel
theorem dX9_price_96 : decode cX9_price 96 = .ok (.invokevirtual 488, 3) := by decide +kernel
theorem dX9_price_99 : decode cX9_price 99 = .ok (.ifCond .eq 10, 3) := by decide +kernel
theorem dX9_price_102 : decode cX9_price 102 = .ok (.iload 6, 2) := by decide +kernel
theorem dX9_price_104 : decode cX9_price 104 = .ok (.istore 5, 2) := by decide +kernel
theorem dX9_price_106 : decode cX9_price 106 = .ok (.goto 7, 3) := by decide +kernel
theorem dX9_price_109 : decode cX9_price 109 = .ok (.iload 6, 2) := by decide +kernel
theorem dX9_price_111 : decode cX9_price 111 = .ok (.istore 4, 2) := by decide +kernel
theorem dX9_price_113 : decode cX9_price 113 = .ok (.goto (-44), 3) := by decide +kernel
theorem dX9_price_116 : decode cX9_price 116 = .ok (.iload 5, 2) := by decide +kernel
theorem dX9_price_118 : decode cX9_price 118 = .ok (.ireturn, 1) := by decide +kernel
theorem dX9_enough_0 : decode cX9_enough 0 = .ok (.aload_n 0, 1) := by decide +kernel
theorem dX9_enough_1 : decode cX9_enough 1 = .ok (.invokevirtual 191, 3) := by decide +kernel
theorem dX9_enough_4 : decode cX9_enough 4 = .ok (.aload_n 0, 1) := by decide +kernel
theorem dX9_enough_5 : decode cX9_enough 5 = .ok (.iload_n 1, 1) := by decide +kernel
theorem dX9_enough_6 : decode cX9_enough 6 = .ok (.invokevirtual 353, 3) := by decide +kernel
theorem dX9_enough_9 : decode cX9_enough 9 = .ok (.ifCond .eq 15, 3) := by decide +kernel
theorem dX9_enough_12 : decode cX9_enough 12 = .ok (.aload_n 0, 1) := by decide +kernel
theorem dX9_enough_13 : decode cX9_enough 13 = .ok (.iload_n 2, 1) := by decide +kernel
theorem dX9_enough_14 : decode cX9_enough 14 = .ok (.invokevirtual 350, 3) := by decide +kernel
theorem dX9_enough_17 : decode cX9_enough 17 = .ok (.ifCond .eq 7, 3) := by decide +kernel
theorem dX9_enough_20 : decode cX9_enough 20 = .ok (.iload_n 2, 1) := by decide +kernel
theorem dX9_enough_21 : decode cX9_enough 21 = .ok (.ifCond .ne 9, 3) := by decide +kernel
theorem dX9_enough_24 : decode cX9_enough 24 = .ok (.aload_n 0, 1) := by decide +kernel
theorem dX9_enough_25 : decode cX9_enough 25 = .ok (.iconst 1, 1) := by decide +kernel
theorem dX9_enough_26 : decode cX9_enough 26 = .ok (.invokevirtual 194, 3) := by decide +kernel
theorem dX9_enough_29 : decode cX9_enough 29 = .ok (.ireturn, 1) := by decide +kernel
theorem dX9_enough_30 : decode cX9_enough 30 = .ok (.aload_n 0, 1) := by decide +kernel
theorem dX9_enough_31 : decode cX9_enough 31 = .ok (.iload_n 1, 1) := by decide +kernel
theorem dX9_enough_32 : decode cX9_enough 32 = .ok (.iconst 2, 1) := by decide +kernel
theorem dX9_enough_33 : decode cX9_enough 33 = .ok (.invokevirtual 335, 3) := by decide +kernel
theorem dX9_enough_36 : decode cX9_enough 36 = .ok (.iload_n 2, 1) := by decide +kernel
theorem dX9_enough_37 : decode cX9_enough 37 = .ok (.imul, 1) := by decide +kernel
theorem dX9_enough_38 : decode cX9_enough 38 = .ok (.iload_n 2, 1) := by decide +kernel
theorem dX9_enough_39 : decode cX9_enough 39 = .ok (.imul, 1) := by decide +kernel
theorem dX9_enough_40 : decode cX9_enough 40 = .ok (.aload_n 0, 1) := by decide +kernel
theorem dX9_enough_41 : decode cX9_enough 41 = .ok (.iload_n 2, 1) := by decide +kernel
theorem dX9_enough_42 : decode cX9_enough 42 = .ok (.invokevirtual 304, 3) := by decide +kernel
theorem dX9_enough_45 : decode cX9_enough 45 = .ok (.idiv, 1) := by decide +kernel
theorem dX9_enough_46 : decode cX9_enough 46 = .ok (.iconst 1, 1) := by decide +kernel
theorem dX9_enough_47 : decode cX9_enough 47 = .ok (.iadd, 1) := by decide +kernel
theorem dX9_enough_48 : decode cX9_enough 48 = .ok (.istore_n 3, 1) := by decide +kernel
theorem dX9_enough_49 : decode cX9_enough 49 = .ok (.iload_n 3, 1) := by decide +kernel
theorem dX9_enough_50 : decode cX9_enough 50 = .ok (.ldc_w 492, 3) := by decide +kernel
theorem dX9_enough_53 : decode cX9_enough 53 = .ok (.if_icmp .le 8, 3) := by decide +kernel
theorem dX9_enough_56 : decode cX9_enough 56 = .ok (.bipush (-2), 2) := by decide +kernel
theorem dX9_enough_58 : decode cX9_enough 58 = .ok (.goto 4, 3) := by decide +kernel
theorem dX9_enough_61 : decode cX9_enough 61 = .ok (.iload_n 3, 1) := by decide +kernel
theorem dX9_enough_62 : decode cX9_enough 62 = .ok (.ireturn, 1) := by decide +kernel
theorem dX9_doRatesFit_0 : decode cX9_doRatesFit 0 = .ok (.iconst 1, 1) := by decide +kernel
theorem dX9_doRatesFit_1 : decode cX9_doRatesFit 1 = .ok (.istore_n 1, 1) := by decide +kernel
theorem dX9_doRatesFit_2 : decode cX9_doRatesFit 2 = .ok (.iconst 0, 1) := by decide +kernel
theorem dX9_doRatesFit_3 : decode cX9_doRatesFit 3 = .ok (.istore_n 2, 1) := by decide +kernel
theorem dX9_doRatesFit_4 : decode cX9_doRatesFit 4 = .ok (.iload_n 2, 1) := by decide +kernel
theorem dX9_doRatesFit_5 : decode cX9_doRatesFit 5 = .ok (.aload_n 0, 1) := by decide +kernel
theorem dX9_doRatesFit_6 : decode cX9_doRatesFit 6 = .ok (.getfield 20, 3) := by decide +kernel
theorem dX9_doRatesFit_9 : decode cX9_doRatesFit 9 = .ok (.bipush 9, 2) := by decide +kernel
theorem dX9_doRatesFit_11 : decode cX9_doRatesFit 11 = .ok (.iaload, 1) := by decide +kernel
theorem dX9_doRatesFit_12 : decode cX9_doRatesFit 12 = .ok (.if_icmp .ge 86, 3) := by decide +kernel
theorem dX9_doRatesFit_15 : decode cX9_doRatesFit 15 = .ok (.sipush 172, 3) := by decide +kernel
theorem dX9_doRatesFit_18 : decode cX9_doRatesFit 18 = .ok (.iconst 3, 1) := by decide +kernel
theorem dX9_doRatesFit_19 : decode cX9_doRatesFit 19 = .ok (.iload_n 2, 1) := by decide +kernel
theorem dX9_doRatesFit_20 : decode cX9_doRatesFit 20 = .ok (.imul, 1) := by decide +kernel
theorem dX9_doRatesFit_21 : decode cX9_doRatesFit 21 = .ok (.iadd, 1) := by decide +kernel
theorem dX9_doRatesFit_22 : decode cX9_doRatesFit 22 = .ok (.istore_n 3, 1) := by decide +kernel
theorem dX9_doRatesFit_23 : decode cX9_doRatesFit 23 = .ok (.aload_n 0, 1) := by decide +kernel
theorem dX9_doRatesFit_24 : decode cX9_doRatesFit 24 = .ok (.getfield 20, 3) := by decide +kernel
theorem dX9_doRatesFit_27 : decode cX9_doRatesFit 27 = .ok (.iload_n 3, 1) := by decide +kernel
theorem dX9_doRatesFit_28 : decode cX9_doRatesFit 28 = .ok (.iconst 2, 1) := by decide +kernel
theorem dX9_doRatesFit_29 : decode cX9_doRatesFit 29 = .ok (.iadd, 1) := by decide +kernel
theorem dX9_doRatesFit_30 : decode cX9_doRatesFit 30 = .ok (.iaload, 1) := by decide +kernel
theorem dX9_doRatesFit_31 : decode cX9_doRatesFit 31 = .ok (.i2l, 1) := by decide +kernel
theorem dX9_doRatesFit_32 : decode cX9_doRatesFit 32 = .ok (.lstore 4, 2) := by decide +kernel
theorem dX9_doRatesFit_34 : decode cX9_doRatesFit 34 = .ok (.iconst 0, 1) := by decide +kernel
theorem dX9_doRatesFit_35 : decode cX9_doRatesFit 35 = .ok (.istore 6, 2) := by decide +kernel
theorem dX9_doRatesFit_37 : decode cX9_doRatesFit 37 = .ok (.iload 6, 2) := by decide +kernel
theorem dX9_doRatesFit_39 : decode cX9_doRatesFit 39 = .ok (.aload_n 0, 1) := by decide +kernel
theorem dX9_doRatesFit_40 : decode cX9_doRatesFit 40 = .ok (.getfield 20, 3) := by decide +kernel
theorem dX9_doRatesFit_43 : decode cX9_doRatesFit 43 = .ok (.iload_n 3, 1) := by decide +kernel
theorem dX9_doRatesFit_44 : decode cX9_doRatesFit 44 = .ok (.iconst 1, 1) := by decide +kernel
theorem dX9_doRatesFit_45 : decode cX9_doRatesFit 45 = .ok (.iadd, 1) := by decide +kernel
theorem dX9_doRatesFit_46 : decode cX9_doRatesFit 46 = .ok (.iaload, 1) := by decide +kernel
theorem dX9_doRatesFit_47 : decode cX9_doRatesFit 47 = .ok (.if_icmp .ge 22, 3) := by decide +kernel
theorem dX9_doRatesFit_50 : decode cX9_doRatesFit 50 = .ok (.lload 4, 2) := by decide +kernel
theorem dX9_doRatesFit_52 : decode cX9_doRatesFit 52 = .ok (.aload_n 0, 1) := by decide +kernel
theorem dX9_doRatesFit_53 : decode cX9_doRatesFit 53 = .ok (.getfield 69, 3) := by decide +kernel
theorem dX9_doRatesFit_56 : decode cX9_doRatesFit 56 = .ok (.iload 6, 2) := by decide +kernel
theorem dX9_doRatesFit_58 : decode cX9_doRatesFit 58 = .ok (.iaload, 1) := by decide +kernel
theorem dX9_doRatesFit_59 : decode cX9_doRatesFit 59 = .ok (.i2l, 1) := by decide +kernel
theorem dX9_doRatesFit_60 : decode cX9_doRatesFit 60 = .ok (.lmul, 1) := by decide +kernel
theorem dX9_doRatesFit_61 : decode cX9_doRatesFit 61 = .ok (.lstore 4, 2) := by decide +kernel
theorem dX9_doRatesFit_63 : decode cX9_doRatesFit 63 = .ok (.iinc 6 1, 3) := by decide +kernel
theorem dX9_doRatesFit_66 : decode cX9_doRatesFit 66 = .ok (.goto (-29), 3) := by decide +kernel
theorem dX9_doRatesFit_69 : decode cX9_doRatesFit 69 = .ok (.iload_n 1, 1) := by decide +kernel
theorem dX9_doRatesFit_70 : decode cX9_doRatesFit 70 = .ok (.ifCond .eq 20, 3) := by decide +kernel
theorem dX9_doRatesFit_73 : decode cX9_doRatesFit 73 = .ok (.lload 4, 2) := by decide +kernel
theorem dX9_doRatesFit_75 : decode cX9_doRatesFit 75 = .ok (.aload_n 0, 1) := by decide +kernel
theorem dX9_doRatesFit_76 : decode cX9_doRatesFit 76 = .ok (.getfield 20, 3) := by decide +kernel
theorem dX9_doRatesFit_79 : decode cX9_doRatesFit 79 = .ok (.iload_n 3, 1) := by decide +kernel
theorem dX9_doRatesFit_80 : decode cX9_doRatesFit 80 = .ok (.iaload, 1) := by decide +kernel
theorem dX9_doRatesFit_81 : decode cX9_doRatesFit 81 = .ok (.i2l, 1) := by decide +kernel
theorem dX9_doRatesFit_82 : decode cX9_doRatesFit 82 = .ok (.lcmp, 1) := by decide +kernel
theorem dX9_doRatesFit_83 : decode cX9_doRatesFit 83 = .ok (.ifCond .ne 7, 3) := by decide +kernel
theorem dX9_doRatesFit_86 : decode cX9_doRatesFit 86 = .ok (.iconst 1, 1) := by decide +kernel
theorem dX9_doRatesFit_87 : decode cX9_doRatesFit 87 = .ok (.goto 4, 3) := by decide +kernel
theorem dX9_doRatesFit_90 : decode cX9_doRatesFit 90 = .ok (.iconst 0, 1) := by decide +kernel
theorem dX9_doRatesFit_91 : decode cX9_doRatesFit 91 = .ok (.istore_n 1, 1) := by decide +kernel
theorem dX9_doRatesFit_92 : decode cX9_doRatesFit 92 = .ok (.iinc 2 1, 3) := by decide +kernel
theorem dX9_doRatesFit_95 : decode cX9_doRatesFit 95 = .ok (.goto (-91), 3) := by decide +kernel
theorem dX9_doRatesFit_98 : decode cX9_doRatesFit 98 = .ok (.iload_n 1, 1) := by decide +kernel
theorem dX9_doRatesFit_99 : decode cX9_doRatesFit 99 = .ok (.ireturn, 1) := by decide +kernel
theorem dX9_seekRates_0 : decode cX9_seekRates 0 = .ok (.aload_n 0, 1) := by decide +kernel
theorem dX9_seekRates_1 : decode cX9_seekRates 1 = .ok (.iconst 0, 1) := by decide +kernel
theorem dX9_seekRates_2 : decode cX9_seekRates 2 = .ok (.putfield 493, 3) := by decide +kernel
theorem dX9_seekRates_5 : decode cX9_seekRates 5 = .ok (.iconst 0, 1) := by decide +kernel
theorem dX9_seekRates_6 : decode cX9_seekRates 6 = .ok (.istore_n 1, 1) := by decide +kernel
theorem dX9_seekRates_7 : decode cX9_seekRates 7 = .ok (.iload_n 1, 1) := by decide +kernel
theorem dX9_seekRates_8 : decode cX9_seekRates 8 = .ok (.iconst 4, 1) := by decide +kernel
theorem dX9_seekRates_9 : decode cX9_seekRates 9 = .ok (.if_icmp .ge 16, 3) := by decide +kernel
theorem dX9_seekRates_12 : decode cX9_seekRates 12 = .ok (.aload_n 0, 1) := by decide +kernel
theorem dX9_seekRates_13 : decode cX9_seekRates 13 = .ok (.getfield 66, 3) := by decide +kernel
theorem dX9_seekRates_16 : decode cX9_seekRates 16 = .ok (.iload_n 1, 1) := by decide +kernel
theorem dX9_seekRates_17 : decode cX9_seekRates 17 = .ok (.iconst 0, 1) := by decide +kernel
theorem dX9_seekRates_18 : decode cX9_seekRates 18 = .ok (.iastore, 1) := by decide +kernel
theorem dX9_seekRates_19 : decode cX9_seekRates 19 = .ok (.iinc 1 1, 3) := by decide +kernel
theorem dX9_seekRates_22 : decode cX9_seekRates 22 = .ok (.goto (-15), 3) := by decide +kernel
theorem dX9_seekRates_25 : decode cX9_seekRates 25 = .ok (.iconst 1, 1) := by decide +kernel
theorem dX9_seekRates_26 : decode cX9_seekRates 26 = .ok (.istore_n 1, 1) := by decide +kernel
theorem dX9_seekRates_27 : decode cX9_seekRates 27 = .ok (.iconst 0, 1) := by decide +kernel
theorem dX9_seekRates_28 : decode cX9_seekRates 28 = .ok (.istore_n 2, 1) := by decide +kernel
theorem dX9_seekRates_29 : decode cX9_seekRates 29 = .ok (.iload_n 2, 1) := by decide +kernel
theorem dX9_seekRates_30 : decode cX9_seekRates 30 = .ok (.aload_n 0, 1) := by decide +kernel
theorem dX9_seekRates_31 : decode cX9_seekRates 31 = .ok (.getfield 20, 3) := by decide +kernel
theorem dX9_seekRates_34 : decode cX9_seekRates 34 = .ok (.iconst 0, 1) := by decide +kernel
theorem dX9_seekRates_35 : decode cX9_seekRates 35 = .ok (.iaload, 1) := by decide +kernel
theorem dX9_seekRates_36 : decode cX9_seekRates 36 = .ok (.if_icmp .ge 14, 3) := by decide +kernel
theorem dX9_seekRates_39 : decode cX9_seekRates 39 = .ok (.iload_n 1, 1) := by decide +kernel
theorem dX9_seekRates_40 : decode cX9_seekRates 40 = .ok (.bipush 11, 2) := by decide +kernel
theorem dX9_seekRates_42 : decode cX9_seekRates 42 = .ok (.imul, 1) := by decide +kernel
theorem dX9_seekRates_43 : decode cX9_seekRates 43 = .ok (.istore_n 1, 1) := by decide +kernel
theorem dX9_seekRates_44 : decode cX9_seekRates 44 = .ok (.iinc 2 1, 3) := by decide +kernel
theorem dX9_seekRates_47 : decode cX9_seekRates 47 = .ok (.goto (-18), 3) := by decide +kernel
theorem dX9_seekRates_50 : decode cX9_seekRates 50 = .ok (.iconst 0, 1) := by decide +kernel
theorem dX9_seekRates_51 : decode cX9_seekRates 51 = .ok (.istore_n 2, 1) := by decide +kernel
theorem dX9_seekRates_52 : decode cX9_seekRates 52 = .ok (.iload_n 2, 1) := by decide +kernel
theorem dX9_seekRates_53 : decode cX9_seekRates 53 = .ok (.iload_n 1, 1) := by decide +kernel
theorem dX9_seekRates_54 : decode cX9_seekRates 54 = .ok (.if_icmp .ge 108, 3) := by decide +kernel
theorem dX9_seekRates_57 : decode cX9_seekRates 57 = .ok (.iload_n 2, 1) := by decide +kernel
theorem dX9_seekRates_58 : decode cX9_seekRates 58 = .ok (.istore_n 3, 1) := by decide +kernel
theorem dX9_seekRates_59 : decode cX9_seekRates 59 = .ok (.iconst 0, 1) := by decide +kernel
theorem dX9_seekRates_60 : decode cX9_seekRates 60 = .ok (.istore 4, 2) := by decide +kernel
theorem dX9_seekRates_62 : decode cX9_seekRates 62 = .ok (.iload 4, 2) := by decide +kernel
theorem dX9_seekRates_64 : decode cX9_seekRates 64 = .ok (.aload_n 0, 1) := by decide +kernel
theorem dX9_seekRates_65 : decode cX9_seekRates 65 = .ok (.getfield 20, 3) := by decide +kernel
theorem dX9_seekRates_68 : decode cX9_seekRates 68 = .ok (.iconst 0, 1) := by decide +kernel
theorem dX9_seekRates_69 : decode cX9_seekRates 69 = .ok (.iaload, 1) := by decide +kernel
theorem dX9_seekRates_70 : decode cX9_seekRates 70 = .ok (.if_icmp .ge 27, 3) := by decide +kernel
theorem dX9_seekRates_73 : decode cX9_seekRates 73 = .ok (.aload_n 0, 1) := by decide +kernel
theorem dX9_seekRates_74 : decode cX9_seekRates 74 = .ok (.getfield 69, 3) := by decide +kernel
theorem dX9_seekRates_77 : decode cX9_seekRates 77 = .ok (.iload 4, 2) := by decide +kernel
theorem dX9_seekRates_79 : decode cX9_seekRates 79 = .ok (.iconst 2, 1) := by decide +kernel
theorem dX9_seekRates_80 : decode cX9_seekRates 80 = .ok (.iload_n 3, 1) := by decide +kernel
theorem dX9_seekRates_81 : decode cX9_seekRates 81 = .ok (.bipush 11, 2) := by decide +kernel
theorem dX9_seekRates_83 : decode cX9_seekRates 83 = .ok (.irem, 1) := by decide +kernel
theorem dX9_seekRates_84 : decode cX9_seekRates 84 = .ok (.iadd, 1) := by decide +kernel
theorem dX9_seekRates_85 : decode cX9_seekRates 85 = .ok (.iastore, 1) := by decide +kernel
theorem dX9_seekRates_86 : decode cX9_seekRates 86 = .ok (.iload_n 3, 1) := by decide +kernel
theorem dX9_seekRates_87 : decode cX9_seekRates 87 = .ok (.bipush 11, 2) := by decide +kernel
theorem dX9_seekRates_89 : decode cX9_seekRates 89 = .ok (.idiv, 1) := by decide +kernel
theorem dX9_seekRates_90 : decode cX9_seekRates 90 = .ok (.istore_n 3, 1) := by decide +kernel
theorem dX9_seekRates_91 : decode cX9_seekRates 91 = .ok (.iinc 4 1, 3) := by decide +kernel
theorem dX9_seekRates_94 : decode cX9_seekRates 94 = .ok (.goto (-32), 3) := by decide +kernel
theorem dX9_seekRates_97 : decode cX9_seekRates 97 = .ok (.aload_n 0, 1) := by decide +kernel
theorem dX9_seekRates_98 : decode cX9_seekRates 98 = .ok (.invokevirtual 496, 3) := by decide +kernel
theorem dX9_seekRates_101 : decode cX9_seekRates 101 = .ok (.ifCond .ne 6, 3) := by decide +kernel
theorem dX9_seekRates_104 : decode cX9_seekRates 104 = .ok (.goto 52, 3) := by decide +kernel
theorem dX9_seekRates_107 : decode cX9_seekRates 107 = .ok (.aload_n 0, 1) := by decide +kernel
theorem dX9_seekRates_108 : decode cX9_seekRates 108 = .ok (.dup, 1) := by decide +kernel
theorem dX9_seekRates_109 : decode cX9_seekRates 109 = .ok (.getfield 493, 3) := by decide +kernel
theorem dX9_seekRates_112 : decode cX9_seekRates 112 = .ok (.iconst 1, 1) := by decide +kernel
theorem dX9_seekRates_113 : decode cX9_seekRates 113 = .ok (.iadd, 1) := by decide +kernel
theorem dX9_seekRates_114 : decode cX9_seekRates 114 = .ok (.putfield 493, 3) := by decide +kernel
theorem dX9_seekRates_117 : decode cX9_seekRates 117 = .ok (.iconst 0, 1) := by decide +kernel
theorem dX9_seekRates_118 : decode cX9_seekRates 118 = .ok (.istore 4, 2) := by decide +kernel
theorem dX9_seekRates_120 : decode cX9_seekRates 120 = .ok (.iload 4, 2) := by decide +kernel
theorem dX9_seekRates_122 : decode cX9_seekRates 122 = .ok (.aload_n 0, 1) := by decide +kernel
theorem dX9_seekRates_123 : decode cX9_seekRates 123 = .ok (.getfield 20, 3) := by decide +kernel
theorem dX9_seekRates_126 : decode cX9_seekRates 126 = .ok (.iconst 0, 1) := by decide +kernel
theorem dX9_seekRates_127 : decode cX9_seekRates 127 = .ok (.iaload, 1) := by decide +kernel
theorem dX9_seekRates_128 : decode cX9_seekRates 128 = .ok (.if_icmp .ge 28, 3) := by decide +kernel
theorem dX9_seekRates_131 : decode cX9_seekRates 131 = .ok (.aload_n 0, 1) := by decide +kernel
theorem dX9_seekRates_132 : decode cX9_seekRates 132 = .ok (.getfield 66, 3) := by decide +kernel
theorem dX9_seekRates_135 : decode cX9_seekRates 135 = .ok (.iload 4, 2) := by decide +kernel
theorem dX9_seekRates_137 : decode cX9_seekRates 137 = .ok (.dup2, 1) := by decide +kernel
theorem dX9_seekRates_138 : decode cX9_seekRates 138 = .ok (.iaload, 1) := by decide +kernel
theorem dX9_seekRates_139 : decode cX9_seekRates 139 = .ok (.iconst 1, 1) := by decide +kernel
theorem dX9_seekRates_140 : decode cX9_seekRates 140 = .ok (.aload_n 0, 1) := by decide +kernel
theorem dX9_seekRates_141 : decode cX9_seekRates 141 = .ok (.getfield 69, 3) := by decide +kernel
theorem dX9_seekRates_144 : decode cX9_seekRates 144 = .ok (.iload 4, 2) := by decide +kernel
theorem dX9_seekRates_146 : decode cX9_seekRates 146 = .ok (.iaload, 1) := by decide +kernel
theorem dX9_seekRates_147 : decode cX9_seekRates 147 = .ok (.ishl, 1) := by decide +kernel
theorem dX9_seekRates_148 : decode cX9_seekRates 148 = .ok (.ior, 1) := by decide +kernel
theorem dX9_seekRates_149 : decode cX9_seekRates 149 = .ok (.iastore, 1) := by decide +kernel
theorem dX9_seekRates_150 : decode cX9_seekRates 150 = .ok (.iinc 4 1, 3) := by decide +kernel
theorem dX9_seekRates_153 : decode cX9_seekRates 153 = .ok (.goto (-33), 3) := by decide +kernel
theorem dX9_seekRates_156 : decode cX9_seekRates 156 = .ok (.iinc 2 1, 3) := by decide +kernel
theorem dX9_seekRates_159 : decode cX9_seekRates 159 = .ok (.goto (-107), 3) := by decide +kernel
theorem dX9_seekRates_162 : decode cX9_seekRates 162 = .ok (.return_, 1) := by decide +kernel
theorem dX9_rates_0 : decode cX9_rates 0 = .ok (.aload_n 0, 1) := by decide +kernel
theorem dX9_rates_1 : decode cX9_rates 1 = .ok (.invokevirtual 191, 3) := by decide +kernel
theorem dX9_rates_4 : decode cX9_rates 4 = .ok (.aload_n 0, 1) := by decide +kernel
theorem dX9_rates_5 : decode cX9_rates 5 = .ok (.getfield 204, 3) := by decide +kernel
theorem dX9_rates_8 : decode cX9_rates 8 = .ok (.ifCond .ne 9, 3) := by decide +kernel
theorem dX9_rates_11 : decode cX9_rates 11 = .ok (.aload_n 0, 1) := by decide +kernel
theorem dX9_rates_12 : decode cX9_rates 12 = .ok (.iconst 1, 1) := by decide +kernel
theorem dX9_rates_13 : decode cX9_rates 13 = .ok (.invokevirtual 194, 3) := by decide +kernel
theorem dX9_rates_16 : decode cX9_rates 16 = .ok (.ireturn, 1) := by decide +kernel
theorem dX9_rates_17 : decode cX9_rates 17 = .ok (.aload_n 0, 1) := by decide +kernel
theorem dX9_rates_18 : decode cX9_rates 18 = .ok (.invokevirtual 499, 3) := by decide +kernel
theorem dX9_rates_21 : decode cX9_rates 21 = .ok (.aload_n 0, 1) := by decide +kernel
theorem dX9_rates_22 : decode cX9_rates 22 = .ok (.getfield 493, 3) := by decide +kernel
theorem dX9_rates_25 : decode cX9_rates 25 = .ok (.ireturn, 1) := by decide +kernel
theorem dX9_rate_0 : decode cX9_rate 0 = .ok (.aload_n 0, 1) := by decide +kernel
theorem dX9_rate_1 : decode cX9_rate 1 = .ok (.invokevirtual 191, 3) := by decide +kernel
theorem dX9_rate_4 : decode cX9_rate 4 = .ok (.aload_n 0, 1) := by decide +kernel
theorem dX9_rate_5 : decode cX9_rate 5 = .ok (.iload_n 1, 1) := by decide +kernel
theorem dX9_rate_6 : decode cX9_rate 6 = .ok (.invokevirtual 350, 3) := by decide +kernel
theorem dX9_rate_9 : decode cX9_rate 9 = .ok (.ifCond .eq 7, 3) := by decide +kernel
theorem dX9_rate_12 : decode cX9_rate 12 = .ok (.iload_n 1, 1) := by decide +kernel
theorem dX9_rate_13 : decode cX9_rate 13 = .ok (.ifCond .ne 9, 3) := by decide +kernel
theorem dX9_rate_16 : decode cX9_rate 16 = .ok (.aload_n 0, 1) := by decide +kernel
theorem dX9_rate_17 : decode cX9_rate 17 = .ok (.iconst 1, 1) := by decide +kernel
theorem dX9_rate_18 : decode cX9_rate 18 = .ok (.invokevirtual 194, 3) := by decide +kernel
theorem dX9_rate_21 : decode cX9_rate 21 = .ok (.ireturn, 1) := by decide +kernel
theorem dX9_rate_22 : decode cX9_rate 22 = .ok (.aload_n 0, 1) := by decide +kernel
theorem dX9_rate_23 : decode cX9_rate 23 = .ok (.invokevirtual 499, 3) := by decide +kernel
theorem dX9_rate_26 : decode cX9_rate 26 = .ok (.iconst 2, 1) := by decide +kernel
theorem dX9_rate_27 : decode cX9_rate 27 = .ok (.istore_n 2, 1) := by decide +kernel
theorem dX9_rate_28 : decode cX9_rate 28 = .ok (.iload_n 2, 1) := by decide +kernel
theorem dX9_rate_29 : decode cX9_rate 29 = .ok (.bipush 13, 2) := by decide +kernel
theorem dX9_rate_31 : decode cX9_rate 31 = .ok (.if_icmp .ge 25, 3) := by decide +kernel
theorem dX9_rate_34 : decode cX9_rate 34 = .ok (.aload_n 0, 1) := by decide +kernel
theorem dX9_rate_35 : decode cX9_rate 35 = .ok (.getfield 66, 3) := by decide +kernel
theorem dX9_rate_38 : decode cX9_rate 38 = .ok (.iload_n 1, 1) := by decide +kernel
theorem dX9_rate_39 : decode cX9_rate 39 = .ok (.iconst 1, 1) := by decide +kernel
theorem dX9_rate_40 : decode cX9_rate 40 = .ok (.isub, 1) := by decide +kernel
theorem dX9_rate_41 : decode cX9_rate 41 = .ok (.iaload, 1) := by decide +kernel
theorem dX9_rate_42 : decode cX9_rate 42 = .ok (.iconst 1, 1) := by decide +kernel
theorem dX9_rate_43 : decode cX9_rate 43 = .ok (.iload_n 2, 1) := by decide +kernel
theorem dX9_rate_44 : decode cX9_rate 44 = .ok (.ishl, 1) := by decide +kernel
theorem dX9_rate_45 : decode cX9_rate 45 = .ok (.if_icmp .ne 5, 3) := by decide +kernel
theorem dX9_rate_48 : decode cX9_rate 48 = .ok (.iload_n 2, 1) := by decide +kernel
theorem dX9_rate_49 : decode cX9_rate 49 = .ok (.ireturn, 1) := by decide +kernel
theorem dX9_rate_50 : decode cX9_rate 50 = .ok (.iinc 2 1, 3) := by decide +kernel
theorem dX9_rate_53 : decode cX9_rate 53 = .ok (.goto (-25), 3) := by decide +kernel
theorem dX9_rate_56 : decode cX9_rate 56 = .ok (.bipush (-2), 2) := by decide +kernel
theorem dX9_rate_58 : decode cX9_rate 58 = .ok (.ireturn, 1) := by decide +kernel
theorem dX9_waking_0 : decode cX9_waking 0 = .ok (.aload_n 0, 1) := by decide +kernel
theorem dX9_waking_1 : decode cX9_waking 1 = .ok (.invokevirtual 191, 3) := by decide +kernel
theorem dX9_waking_4 : decode cX9_waking 4 = .ok (.aload_n 0, 1) := by decide +kernel
theorem dX9_waking_5 : decode cX9_waking 5 = .ok (.iload_n 1, 1) := by decide +kernel
theorem dX9_waking_6 : decode cX9_waking 6 = .ok (.invokevirtual 353, 3) := by decide +kernel
theorem dX9_waking_9 : decode cX9_waking 9 = .ok (.ifCond .eq 11, 3) := by decide +kernel
theorem dX9_waking_12 : decode cX9_waking 12 = .ok (.aload_n 0, 1) := by decide +kernel
theorem dX9_waking_13 : decode cX9_waking 13 = .ok (.iload_n 2, 1) := by decide +kernel
theorem dX9_waking_14 : decode cX9_waking 14 = .ok (.invokevirtual 350, 3) := by decide +kernel
theorem dX9_waking_17 : decode cX9_waking 17 = .ok (.ifCond .ne 10, 3) := by decide +kernel
theorem dX9_waking_20 : decode cX9_waking 20 = .ok (.aload_n 0, 1) := by decide +kernel
theorem dX9_waking_21 : decode cX9_waking 21 = .ok (.iconst 1, 1) := by decide +kernel
theorem dX9_waking_22 : decode cX9_waking 22 = .ok (.invokevirtual 194, 3) := by decide +kernel
theorem dX9_waking_25 : decode cX9_waking 25 = .ok (.i2l, 1) := by decide +kernel
theorem dX9_waking_26 : decode cX9_waking 26 = .ok (.lreturn, 1) := by decide +kernel
theorem dX9_waking_27 : decode cX9_waking 27 = .ok (.iload_n 3, 1) := by decide +kernel
theorem dX9_waking_28 : decode cX9_waking 28 = .ok (.iconst 0, 1) := by decide +kernel
theorem dX9_waking_29 : decode cX9_waking 29 = .ok (.bipush 8, 2) := by decide +kernel
theorem dX9_waking_31 : decode cX9_waking 31 = .ok (.invokestatic 170, 3) := by decide +kernel
theorem dX9_waking_34 : decode cX9_waking 34 = .ok (.ifCond .ne 10, 3) := by decide +kernel
theorem dX9_waking_37 : decode cX9_waking 37 = .ok (.aload_n 0, 1) := by decide +kernel
theorem dX9_waking_38 : decode cX9_waking 38 = .ok (.iconst 2, 1) := by decide +kernel
theorem dX9_waking_39 : decode cX9_waking 39 = .ok (.invokevirtual 194, 3) := by decide +kernel
theorem dX9_waking_42 : decode cX9_waking 42 = .ok (.i2l, 1) := by decide +kernel
theorem dX9_waking_43 : decode cX9_waking 43 = .ok (.lreturn, 1) := by decide +kernel
theorem dX9_waking_44 : decode cX9_waking 44 = .ok (.aload_n 0, 1) := by decide +kernel
theorem dX9_waking_45 : decode cX9_waking 45 = .ok (.iload_n 1, 1) := by decide +kernel
theorem dX9_waking_46 : decode cX9_waking 46 = .ok (.iconst 3, 1) := by decide +kernel
theorem dX9_waking_47 : decode cX9_waking 47 = .ok (.invokevirtual 335, 3) := by decide +kernel
theorem dX9_waking_50 : decode cX9_waking 50 = .ok (.i2l, 1) := by decide +kernel
theorem dX9_waking_51 : decode cX9_waking 51 = .ok (.lstore 5, 2) := by decide +kernel
theorem dX9_waking_53 : decode cX9_waking 53 = .ok (.lconst 0, 1) := by decide +kernel
theorem dX9_waking_54 : decode cX9_waking 54 = .ok (.lstore 7, 2) := by decide +kernel
theorem dX9_waking_56 : decode cX9_waking 56 = .ok (.lconst 1, 1) := by decide +kernel
theorem dX9_waking_57 : decode cX9_waking 57 = .ok (.lstore 9, 2) := by decide +kernel
theorem dX9_waking_59 : decode cX9_waking 59 = .ok (.iconst 0, 1) := by decide +kernel
theorem dX9_waking_60 : decode cX9_waking 60 = .ok (.istore 11, 2) := by decide +kernel
theorem dX9_waking_62 : decode cX9_waking 62 = .ok (.iload 11, 2) := by decide +kernel
theorem dX9_waking_64 : decode cX9_waking 64 = .ok (.iload_n 3, 1) := by decide +kernel
theorem dX9_waking_65 : decode cX9_waking 65 = .ok (.if_icmp .ge 17, 3) := by decide +kernel
theorem dX9_waking_68 : decode cX9_waking 68 = .ok (.lload 9, 2) := by decide +kernel
theorem dX9_waking_70 : decode cX9_waking 70 = .ok (.ldc2_w 502, 3) := by decide +kernel
theorem dX9_waking_73 : decode cX9_waking 73 = .ok (.lmul, 1) := by decide +kernel
theorem dX9_waking_74 : decode cX9_waking 74 = .ok (.lstore 9, 2) := by decide +kernel
theorem dX9_waking_76 : decode cX9_waking 76 = .ok (.iinc 11 1, 3) := by decide +kernel
theorem dX9_waking_79 : decode cX9_waking 79 = .ok (.goto (-17), 3) := by decide +kernel
theorem dX9_waking_82 : decode cX9_waking 82 = .ok (.iload_n 2, 1) := by decide +kernel
theorem dX9_waking_83 : decode cX9_waking 83 = .ok (.istore 11, 2) := by decide +kernel
theorem dX9_waking_85 : decode cX9_waking 85 = .ok (.iload 11, 2) := by decide +kernel
theorem dX9_waking_87 : decode cX9_waking 87 = .ok (.iload_n 3, 1) := by decide +kernel
theorem dX9_waking_88 : decode cX9_waking 88 = .ok (.if_icmp .gt 89, 3) := by decide +kernel
theorem dX9_waking_91 : decode cX9_waking 91 = .ok (.lconst 1, 1) := by decide +kernel
theorem dX9_waking_92 : decode cX9_waking 92 = .ok (.lstore 12, 2) := by decide +kernel
theorem dX9_waking_94 : decode cX9_waking 94 = .ok (.iconst 0, 1) := by decide +kernel
theorem dX9_waking_95 : decode cX9_waking 95 = .ok (.istore 14, 2) := by decide +kernel
theorem dX9_waking_97 : decode cX9_waking 97 = .ok (.iload 14, 2) := by decide +kernel
theorem dX9_waking_99 : decode cX9_waking 99 = .ok (.iload 11, 2) := by decide +kernel
theorem dX9_waking_101 : decode cX9_waking 101 = .ok (.if_icmp .ge 25, 3) := by decide +kernel
theorem dX9_waking_104 : decode cX9_waking 104 = .ok (.lload 12, 2) := by decide +kernel
theorem dX9_waking_106 : decode cX9_waking 106 = .ok (.iload_n 3, 1) := by decide +kernel
theorem dX9_waking_107 : decode cX9_waking 107 = .ok (.iload 14, 2) := by decide +kernel
theorem dX9_waking_109 : decode cX9_waking 109 = .ok (.isub, 1) := by decide +kernel
theorem dX9_waking_110 : decode cX9_waking 110 = .ok (.i2l, 1) := by decide +kernel
theorem dX9_waking_111 : decode cX9_waking 111 = .ok (.lmul, 1) := by decide +kernel
theorem dX9_waking_112 : decode cX9_waking 112 = .ok (.iload 14, 2) := by decide +kernel
theorem dX9_waking_114 : decode cX9_waking 114 = .ok (.iconst 1, 1) := by decide +kernel
theorem dX9_waking_115 : decode cX9_waking 115 = .ok (.iadd, 1) := by decide +kernel
theorem dX9_waking_116 : decode cX9_waking 116 = .ok (.i2l, 1) := by decide +kernel
theorem dX9_waking_117 : decode cX9_waking 117 = .ok (.ldiv, 1) := by decide +kernel
theorem dX9_waking_118 : decode cX9_waking 118 = .ok (.lstore 12, 2) := by decide +kernel
theorem dX9_waking_120 : decode cX9_waking 120 = .ok (.iinc 14 1, 3) := by decide +kernel
theorem dX9_waking_123 : decode cX9_waking 123 = .ok (.goto (-26), 3) := by decide +kernel
theorem dX9_waking_126 : decode cX9_waking 126 = .ok (.iconst 0, 1) := by decide +kernel
theorem dX9_waking_127 : decode cX9_waking 127 = .ok (.istore 14, 2) := by decide +kernel
theorem dX9_waking_129 : decode cX9_waking 129 = .ok (.iload 14, 2) := by decide +kernel
theorem dX9_waking_131 : decode cX9_waking 131 = .ok (.iload_n 3, 1) := by decide +kernel
theorem dX9_waking_132 : decode cX9_waking 132 = .ok (.if_icmp .ge 32, 3) := by decide +kernel
theorem dX9_waking_135 : decode cX9_waking 135 = .ok (.lload 12, 2) := by decide +kernel
theorem dX9_waking_137 : decode cX9_waking 137 = .ok (.iload 14, 2) := by decide +kernel
theorem dX9_waking_139 : decode cX9_waking 139 = .ok (.iload 11, 2) := by decide +kernel
theorem dX9_waking_141 : decode cX9_waking 141 = .ok (.if_icmp .ge 8, 3) := by decide +kernel
theorem dX9_waking_144 : decode cX9_waking 144 = .ok (.lload 5, 2) := by decide +kernel
theorem dX9_waking_146 : decode cX9_waking 146 = .ok (.goto 9, 3) := by decide +kernel
theorem dX9_waking_149 : decode cX9_waking 149 = .ok (.ldc2_w 502, 3) := by decide +kernel
theorem dX9_waking_152 : decode cX9_waking 152 = .ok (.lload 5, 2) := by decide +kernel
theorem dX9_waking_154 : decode cX9_waking 154 = .ok (.lsub, 1) := by decide +kernel
theorem dX9_waking_155 : decode cX9_waking 155 = .ok (.lmul, 1) := by decide +kernel
theorem dX9_waking_156 : decode cX9_waking 156 = .ok (.lstore 12, 2) := by decide +kernel
theorem dX9_waking_158 : decode cX9_waking 158 = .ok (.iinc 14 1, 3) := by decide +kernel
theorem dX9_waking_161 : decode cX9_waking 161 = .ok (.goto (-32), 3) := by decide +kernel
theorem dX9_waking_164 : decode cX9_waking 164 = .ok (.lload 7, 2) := by decide +kernel
theorem dX9_waking_166 : decode cX9_waking 166 = .ok (.lload 12, 2) := by decide +kernel
theorem dX9_waking_168 : decode cX9_waking 168 = .ok (.ladd, 1) := by decide +kernel
theorem dX9_waking_169 : decode cX9_waking 169 = .ok (.lstore 7, 2) := by decide +kernel
theorem dX9_waking_171 : decode cX9_waking 171 = .ok (.iinc 11 1, 3) := by decide +kernel
theorem dX9_waking_174 : decode cX9_waking 174 = .ok (.goto (-89), 3) := by decide +kernel
theorem dX9_waking_177 : decode cX9_waking 177 = .ok (.lload 7, 2) := by decide +kernel
theorem dX9_waking_179 : decode cX9_waking 179 = .ok (.lload 9, 2) := by decide +kernel
theorem dX9_waking_181 : decode cX9_waking 181 = .ok (.iload 4, 2) := by decide +kernel
theorem dX9_waking_183 : decode cX9_waking 183 = .ok (.invokestatic 356, 3) := by decide +kernel
theorem dX9_waking_186 : decode cX9_waking 186 = .ok (.lreturn, 1) := by decide +kernel
theorem dX9_mean_0 : decode cX9_mean 0 = .ok (.aload_n 0, 1) := by decide +kernel
theorem dX9_mean_1 : decode cX9_mean 1 = .ok (.invokevirtual 191, 3) := by decide +kernel
theorem dX9_mean_4 : decode cX9_mean 4 = .ok (.aload_n 0, 1) := by decide +kernel
theorem dX9_mean_5 : decode cX9_mean 5 = .ok (.iload_n 1, 1) := by decide +kernel
theorem dX9_mean_6 : decode cX9_mean 6 = .ok (.invokevirtual 353, 3) := by decide +kernel
theorem dX9_mean_9 : decode cX9_mean 9 = .ok (.ifCond .eq 11, 3) := by decide +kernel
theorem dX9_mean_12 : decode cX9_mean 12 = .ok (.aload_n 0, 1) := by decide +kernel
theorem dX9_mean_13 : decode cX9_mean 13 = .ok (.iload_n 2, 1) := by decide +kernel
theorem dX9_mean_14 : decode cX9_mean 14 = .ok (.invokevirtual 350, 3) := by decide +kernel
theorem dX9_mean_17 : decode cX9_mean 17 = .ok (.ifCond .ne 10, 3) := by decide +kernel
theorem dX9_mean_20 : decode cX9_mean 20 = .ok (.aload_n 0, 1) := by decide +kernel
theorem dX9_mean_21 : decode cX9_mean 21 = .ok (.iconst 1, 1) := by decide +kernel
theorem dX9_mean_22 : decode cX9_mean 22 = .ok (.invokevirtual 194, 3) := by decide +kernel
theorem dX9_mean_25 : decode cX9_mean 25 = .ok (.i2l, 1) := by decide +kernel
theorem dX9_mean_26 : decode cX9_mean 26 = .ok (.lreturn, 1) := by decide +kernel
theorem dX9_mean_27 : decode cX9_mean 27 = .ok (.aload_n 0, 1) := by decide +kernel
theorem dX9_mean_28 : decode cX9_mean 28 = .ok (.iload_n 1, 1) := by decide +kernel
theorem dX9_mean_29 : decode cX9_mean 29 = .ok (.iconst 3, 1) := by decide +kernel
theorem dX9_mean_30 : decode cX9_mean 30 = .ok (.invokevirtual 335, 3) := by decide +kernel
theorem dX9_mean_33 : decode cX9_mean 33 = .ok (.istore 4, 2) := by decide +kernel
theorem dX9_mean_35 : decode cX9_mean 35 = .ok (.iload_n 2, 1) := by decide +kernel
theorem dX9_mean_36 : decode cX9_mean 36 = .ok (.ifCond .ne 13, 3) := by decide +kernel
theorem dX9_mean_39 : decode cX9_mean 39 = .ok (.iload_n 3, 1) := by decide +kernel
theorem dX9_mean_40 : decode cX9_mean 40 = .ok (.ifCond .eq 7, 3) := by decide +kernel
theorem dX9_mean_43 : decode cX9_mean 43 = .ok (.lconst 1, 1) := by decide +kernel
theorem dX9_mean_44 : decode cX9_mean 44 = .ok (.goto 4, 3) := by decide +kernel
theorem dX9_mean_47 : decode cX9_mean 47 = .ok (.lconst 0, 1) := by decide +kernel
theorem dX9_mean_48 : decode cX9_mean 48 = .ok (.lreturn, 1) := by decide +kernel
theorem dX9_mean_49 : decode cX9_mean 49 = .ok (.iload 4, 2) := by decide +kernel
theorem dX9_mean_51 : decode cX9_mean 51 = .ok (.ifCond .ne 9, 3) := by decide +kernel
theorem dX9_mean_54 : decode cX9_mean 54 = .ok (.ldc2_w 410, 3) := by decide +kernel
theorem dX9_mean_57 : decode cX9_mean 57 = .ok (.goto 16, 3) := by decide +kernel
theorem dX9_mean_60 : decode cX9_mean 60 = .ok (.ldc2_w 502, 3) := by decide +kernel
theorem dX9_mean_63 : decode cX9_mean 63 = .ok (.iload_n 2, 1) := by decide +kernel
theorem dX9_mean_64 : decode cX9_mean 64 = .ok (.i2l, 1) := by decide +kernel
theorem dX9_mean_65 : decode cX9_mean 65 = .ok (.lmul, 1) := by decide +kernel
theorem dX9_mean_66 : decode cX9_mean 66 = .ok (.iload 4, 2) := by decide +kernel
theorem dX9_mean_68 : decode cX9_mean 68 = .ok (.i2l, 1) := by decide +kernel
theorem dX9_mean_69 : decode cX9_mean 69 = .ok (.iload_n 3, 1) := by decide +kernel
theorem dX9_mean_70 : decode cX9_mean 70 = .ok (.invokestatic 356, 3) := by decide +kernel
theorem dX9_mean_73 : decode cX9_mean 73 = .ok (.lreturn, 1) := by decide +kernel
theorem dX9_note_0 : decode cX9_note 0 = .ok (.aload_n 0, 1) := by decide +kernel
theorem dX9_note_1 : decode cX9_note 1 = .ok (.getfield 207, 3) := by decide +kernel
theorem dX9_note_4 : decode cX9_note 4 = .ok (.bipush 12, 2) := by decide +kernel
theorem dX9_note_6 : decode cX9_note 6 = .ok (.if_icmp .ne 73, 3) := by decide +kernel
theorem dX9_note_9 : decode cX9_note 9 = .ok (.iconst 0, 1) := by decide +kernel
theorem dX9_note_10 : decode cX9_note 10 = .ok (.istore_n 1, 1) := by decide +kernel
theorem dX9_note_11 : decode cX9_note 11 = .ok (.iload_n 1, 1) := by decide +kernel
theorem dX9_note_12 : decode cX9_note 12 = .ok (.sipush 220, 3) := by decide +kernel
theorem dX9_note_15 : decode cX9_note 15 = .ok (.if_icmp .ge 24, 3) := by decide +kernel
theorem dX9_note_18 : decode cX9_note 18 = .ok (.aload_n 0, 1) := by decide +kernel
theorem dX9_note_19 : decode cX9_note 19 = .ok (.getfield 29, 3) := by decide +kernel
theorem dX9_note_22 : decode cX9_note 22 = .ok (.iload_n 1, 1) := by decide +kernel
theorem dX9_note_23 : decode cX9_note 23 = .ok (.aload_n 0, 1) := by decide +kernel
theorem dX9_note_24 : decode cX9_note 24 = .ok (.getfield 29, 3) := by decide +kernel
theorem dX9_note_27 : decode cX9_note 27 = .ok (.iload_n 1, 1) := by decide +kernel
theorem dX9_note_28 : decode cX9_note 28 = .ok (.bipush 20, 2) := by decide +kernel
theorem dX9_note_30 : decode cX9_note 30 = .ok (.iadd, 1) := by decide +kernel
theorem dX9_note_31 : decode cX9_note 31 = .ok (.iaload, 1) := by decide +kernel
theorem dX9_note_32 : decode cX9_note 32 = .ok (.iastore, 1) := by decide +kernel
theorem dX9_note_33 : decode cX9_note 33 = .ok (.iinc 1 1, 3) := by decide +kernel
theorem dX9_note_36 : decode cX9_note 36 = .ok (.goto (-25), 3) := by decide +kernel
theorem dX9_note_39 : decode cX9_note 39 = .ok (.iconst 0, 1) := by decide +kernel
theorem dX9_note_40 : decode cX9_note 40 = .ok (.istore_n 1, 1) := by decide +kernel
theorem dX9_note_41 : decode cX9_note 41 = .ok (.iload_n 1, 1) := by decide +kernel
theorem dX9_note_42 : decode cX9_note 42 = .ok (.sipush 341, 3) := by decide +kernel
theorem dX9_note_45 : decode cX9_note 45 = .ok (.if_icmp .ge 24, 3) := by decide +kernel
theorem dX9_note_48 : decode cX9_note 48 = .ok (.aload_n 0, 1) := by decide +kernel
theorem dX9_note_49 : decode cX9_note 49 = .ok (.getfield 42, 3) := by decide +kernel
theorem dX9_note_52 : decode cX9_note 52 = .ok (.iload_n 1, 1) := by decide +kernel
theorem dX9_note_53 : decode cX9_note 53 = .ok (.aload_n 0, 1) := by decide +kernel
theorem dX9_note_54 : decode cX9_note 54 = .ok (.getfield 42, 3) := by decide +kernel
theorem dX9_note_57 : decode cX9_note 57 = .ok (.iload_n 1, 1) := by decide +kernel
theorem dX9_note_58 : decode cX9_note 58 = .ok (.bipush 31, 2) := by decide +kernel
theorem dX9_note_60 : decode cX9_note 60 = .ok (.iadd, 1) := by decide +kernel
theorem dX9_note_61 : decode cX9_note 61 = .ok (.laload, 1) := by decide +kernel
theorem dX9_note_62 : decode cX9_note 62 = .ok (.lastore, 1) := by decide +kernel
theorem dX9_note_63 : decode cX9_note 63 = .ok (.iinc 1 1, 3) := by decide +kernel
theorem dX9_note_66 : decode cX9_note 66 = .ok (.goto (-25), 3) := by decide +kernel
theorem dX9_note_69 : decode cX9_note 69 = .ok (.aload_n 0, 1) := by decide +kernel
theorem dX9_note_70 : decode cX9_note 70 = .ok (.dup, 1) := by decide +kernel
theorem dX9_note_71 : decode cX9_note 71 = .ok (.getfield 207, 3) := by decide +kernel
theorem dX9_note_74 : decode cX9_note 74 = .ok (.iconst 1, 1) := by decide +kernel
theorem dX9_note_75 : decode cX9_note 75 = .ok (.isub, 1) := by decide +kernel
theorem dX9_note_76 : decode cX9_note 76 = .ok (.putfield 207, 3) := by decide +kernel
theorem dX9_note_79 : decode cX9_note 79 = .ok (.aload_n 0, 1) := by decide +kernel
theorem dX9_note_80 : decode cX9_note 80 = .ok (.getfield 26, 3) := by decide +kernel
theorem dX9_note_83 : decode cX9_note 83 = .ok (.iconst 0, 1) := by decide +kernel
theorem dX9_note_84 : decode cX9_note 84 = .ok (.aload_n 0, 1) := by decide +kernel
theorem dX9_note_85 : decode cX9_note 85 = .ok (.getfield 29, 3) := by decide +kernel
theorem dX9_note_88 : decode cX9_note 88 = .ok (.bipush 20, 2) := by decide +kernel
theorem dX9_note_90 : decode cX9_note 90 = .ok (.aload_n 0, 1) := by decide +kernel
theorem dX9_note_91 : decode cX9_note 91 = .ok (.getfield 207, 3) := by decide +kernel
theorem dX9_note_94 : decode cX9_note 94 = .ok (.imul, 1) := by decide +kernel
theorem dX9_note_95 : decode cX9_note 95 = .ok (.bipush 20, 2) := by decide +kernel
theorem dX9_note_97 : decode cX9_note 97 = .ok (.invokestatic 200, 3) := by decide +kernel
theorem dX9_note_100 : decode cX9_note 100 = .ok (.aload_n 0, 1) := by decide +kernel
theorem dX9_note_101 : decode cX9_note 101 = .ok (.getfield 38, 3) := by decide +kernel
theorem dX9_note_104 : decode cX9_note 104 = .ok (.iconst 0, 1) := by decide +kernel
theorem dX9_note_105 : decode cX9_note 105 = .ok (.aload_n 0, 1) := by decide +kernel
theorem dX9_note_106 : decode cX9_note 106 = .ok (.getfield 42, 3) := by decide +kernel
theorem dX9_note_109 : decode cX9_note 109 = .ok (.bipush 31, 2) := by decide +kernel
theorem dX9_note_111 : decode cX9_note 111 = .ok (.aload_n 0, 1) := by decide +kernel
theorem dX9_note_112 : decode cX9_note 112 = .ok (.getfield 207, 3) := by decide +kernel
theorem dX9_note_115 : decode cX9_note 115 = .ok (.imul, 1) := by decide +kernel
theorem dX9_note_116 : decode cX9_note 116 = .ok (.invokestatic 346, 3) := by decide +kernel
theorem dX9_note_119 : decode cX9_note 119 = .ok (.aload_n 0, 1) := by decide +kernel
theorem dX9_note_120 : decode cX9_note 120 = .ok (.dup, 1) := by decide +kernel
theorem dX9_note_121 : decode cX9_note 121 = .ok (.getfield 207, 3) := by decide +kernel
theorem dX9_note_124 : decode cX9_note 124 = .ok (.iconst 1, 1) := by decide +kernel
theorem dX9_note_125 : decode cX9_note 125 = .ok (.iadd, 1) := by decide +kernel
theorem dX9_note_126 : decode cX9_note 126 = .ok (.putfield 207, 3) := by decide +kernel
theorem dX9_note_129 : decode cX9_note 129 = .ok (.return_, 1) := by decide +kernel
theorem dX9_pass_0 : decode cX9_pass 0 = .ok (.aload_n 0, 1) := by decide +kernel
theorem dX9_pass_1 : decode cX9_pass 1 = .ok (.invokevirtual 191, 3) := by decide +kernel
theorem dX9_pass_4 : decode cX9_pass 4 = .ok (.aload_n 0, 1) := by decide +kernel
theorem dX9_pass_5 : decode cX9_pass 5 = .ok (.iload_n 1, 1) := by decide +kernel
theorem dX9_pass_6 : decode cX9_pass 6 = .ok (.invokevirtual 350, 3) := by decide +kernel
theorem dX9_pass_9 : decode cX9_pass 9 = .ok (.ifCond .ne 9, 3) := by decide +kernel
theorem dX9_pass_12 : decode cX9_pass 12 = .ok (.aload_n 0, 1) := by decide +kernel
theorem dX9_pass_13 : decode cX9_pass 13 = .ok (.iconst 1, 1) := by decide +kernel
theorem dX9_pass_14 : decode cX9_pass 14 = .ok (.invokevirtual 194, 3) := by decide +kernel
theorem dX9_pass_17 : decode cX9_pass 17 = .ok (.ireturn, 1) := by decide +kernel
theorem dX9_pass_18 : decode cX9_pass 18 = .ok (.iload_n 2, 1) := by decide +kernel
theorem dX9_pass_19 : decode cX9_pass 19 = .ok (.iconst 1, 1) := by decide +kernel
theorem dX9_pass_20 : decode cX9_pass 20 = .ok (.sipush 999, 3) := by decide +kernel
theorem dX9_pass_23 : decode cX9_pass 23 = .ok (.invokestatic 170, 3) := by decide +kernel
theorem dX9_pass_26 : decode cX9_pass 26 = .ok (.ifCond .ne 9, 3) := by decide +kernel
theorem dX9_pass_29 : decode cX9_pass 29 = .ok (.aload_n 0, 1) := by decide +kernel
theorem dX9_pass_30 : decode cX9_pass 30 = .ok (.iconst 2, 1) := by decide +kernel
theorem dX9_pass_31 : decode cX9_pass 31 = .ok (.invokevirtual 194, 3) := by decide +kernel
theorem dX9_pass_34 : decode cX9_pass 34 = .ok (.ireturn, 1) := by decide +kernel
theorem dX9_pass_35 : decode cX9_pass 35 = .ok (.aload_n 0, 1) := by decide +kernel
theorem dX9_pass_36 : decode cX9_pass 36 = .ok (.getfield 38, 3) := by decide +kernel
theorem dX9_pass_39 : decode cX9_pass 39 = .ok (.iconst 0, 1) := by decide +kernel
theorem dX9_pass_40 : decode cX9_pass 40 = .ok (.laload, 1) := by decide +kernel
theorem dX9_pass_41 : decode cX9_pass 41 = .ok (.iload_n 2, 1) := by decide +kernel
theorem dX9_pass_42 : decode cX9_pass 42 = .ok (.i2l, 1) := by decide +kernel
theorem dX9_pass_43 : decode cX9_pass 43 = .ok (.aload_n 0, 1) := by decide +kernel
theorem dX9_pass_44 : decode cX9_pass 44 = .ok (.iload_n 1, 1) := by decide +kernel
theorem dX9_pass_45 : decode cX9_pass 45 = .ok (.invokevirtual 318, 3) := by decide +kernel
theorem dX9_pass_48 : decode cX9_pass 48 = .ok (.lmul, 1) := by decide +kernel
theorem dX9_pass_49 : decode cX9_pass 49 = .ok (.ladd, 1) := by decide +kernel
theorem dX9_pass_50 : decode cX9_pass 50 = .ok (.lstore_n 3, 1) := by decide +kernel
theorem dX9_pass_51 : decode cX9_pass 51 = .ok (.lload_n 3, 1) := by decide +kernel
theorem dX9_pass_52 : decode cX9_pass 52 = .ok (.ldc2_w 504, 3) := by decide +kernel
theorem dX9_pass_55 : decode cX9_pass 55 = .ok (.aload_n 0, 1) := by decide +kernel
theorem dX9_pass_56 : decode cX9_pass 56 = .ok (.invokevirtual 307, 3) := by decide +kernel
theorem dX9_pass_59 : decode cX9_pass 59 = .ok (.i2l, 1) := by decide +kernel
theorem dX9_pass_60 : decode cX9_pass 60 = .ok (.lmul, 1) := by decide +kernel
theorem dX9_pass_61 : decode cX9_pass 61 = .ok (.lcmp, 1) := by decide +kernel
theorem dX9_pass_62 : decode cX9_pass 62 = .ok (.ifCond .le 9, 3) := by decide +kernel
theorem dX9_pass_65 : decode cX9_pass 65 = .ok (.aload_n 0, 1) := by decide +kernel
theorem dX9_pass_66 : decode cX9_pass 66 = .ok (.iconst 3, 1) := by decide +kernel
theorem dX9_pass_67 : decode cX9_pass 67 = .ok (.invokevirtual 194, 3) := by decide +kernel
theorem dX9_pass_70 : decode cX9_pass 70 = .ok (.ireturn, 1) := by decide +kernel
theorem dX9_pass_71 : decode cX9_pass 71 = .ok (.aload_n 0, 1) := by decide +kernel
theorem dX9_pass_72 : decode cX9_pass 72 = .ok (.invokevirtual 506, 3) := by decide +kernel
theorem dX9_pass_75 : decode cX9_pass 75 = .ok (.aload_n 0, 1) := by decide +kernel
theorem dX9_pass_76 : decode cX9_pass 76 = .ok (.lload_n 3, 1) := by decide +kernel
theorem dX9_pass_77 : decode cX9_pass 77 = .ok (.invokevirtual 367, 3) := by decide +kernel
theorem dX9_pass_80 : decode cX9_pass 80 = .ok (.aload_n 0, 1) := by decide +kernel
theorem dX9_pass_81 : decode cX9_pass 81 = .ok (.getfield 38, 3) := by decide +kernel
theorem dX9_pass_84 : decode cX9_pass 84 = .ok (.iconst 0, 1) := by decide +kernel
theorem dX9_pass_85 : decode cX9_pass 85 = .ok (.laload, 1) := by decide +kernel
theorem dX9_pass_86 : decode cX9_pass 86 = .ok (.aload_n 0, 1) := by decide +kernel
theorem dX9_pass_87 : decode cX9_pass 87 = .ok (.invokevirtual 307, 3) := by decide +kernel
theorem dX9_pass_90 : decode cX9_pass 90 = .ok (.i2l, 1) := by decide +kernel
theorem dX9_pass_91 : decode cX9_pass 91 = .ok (.ldiv, 1) := by decide +kernel
theorem dX9_pass_92 : decode cX9_pass 92 = .ok (.l2i, 1) := by decide +kernel
theorem dX9_pass_93 : decode cX9_pass 93 = .ok (.ireturn, 1) := by decide +kernel
theorem dX9_lie_0 : decode cX9_lie 0 = .ok (.aload_n 0, 1) := by decide +kernel
theorem dX9_lie_1 : decode cX9_lie 1 = .ok (.invokevirtual 191, 3) := by decide +kernel
theorem dX9_lie_4 : decode cX9_lie 4 = .ok (.aload_n 0, 1) := by decide +kernel
theorem dX9_lie_5 : decode cX9_lie 5 = .ok (.iload_n 1, 1) := by decide +kernel
theorem dX9_lie_6 : decode cX9_lie 6 = .ok (.invokevirtual 353, 3) := by decide +kernel
theorem dX9_lie_9 : decode cX9_lie 9 = .ok (.ifCond .eq 11, 3) := by decide +kernel
theorem dX9_lie_12 : decode cX9_lie 12 = .ok (.aload_n 0, 1) := by decide +kernel
theorem dX9_lie_13 : decode cX9_lie 13 = .ok (.iload_n 2, 1) := by decide +kernel
theorem dX9_lie_14 : decode cX9_lie 14 = .ok (.invokevirtual 509, 3) := by decide +kernel
theorem dX9_lie_17 : decode cX9_lie 17 = .ok (.ifCond .ne 9, 3) := by decide +kernel
theorem dX9_lie_20 : decode cX9_lie 20 = .ok (.aload_n 0, 1) := by decide +kernel
theorem dX9_lie_21 : decode cX9_lie 21 = .ok (.iconst 1, 1) := by decide +kernel
theorem dX9_lie_22 : decode cX9_lie 22 = .ok (.invokevirtual 194, 3) := by decide +kernel
theorem dX9_lie_25 : decode cX9_lie 25 = .ok (.ireturn, 1) := by decide +kernel
theorem dX9_lie_26 : decode cX9_lie 26 = .ok (.aload_n 0, 1) := by decide +kernel
theorem dX9_lie_27 : decode cX9_lie 27 = .ok (.iload_n 1, 1) := by decide +kernel
theorem dX9_lie_28 : decode cX9_lie 28 = .ok (.iconst 0, 1) := by decide +kernel
theorem dX9_lie_29 : decode cX9_lie 29 = .ok (.invokevirtual 310, 3) := by decide +kernel
theorem dX9_lie_32 : decode cX9_lie 32 = .ok (.istore_n 3, 1) := by decide +kernel
theorem dX9_lie_33 : decode cX9_lie 33 = .ok (.iload_n 3, 1) := by decide +kernel
theorem dX9_lie_34 : decode cX9_lie 34 = .ok (.aload_n 0, 1) := by decide +kernel
theorem dX9_lie_35 : decode cX9_lie 35 = .ok (.getfield 20, 3) := by decide +kernel
theorem dX9_lie_38 : decode cX9_lie 38 = .ok (.iconst 0, 1) := by decide +kernel
theorem dX9_lie_39 : decode cX9_lie 39 = .ok (.iaload, 1) := by decide +kernel
theorem dX9_lie_40 : decode cX9_lie 40 = .ok (.if_icmp .eq 19, 3) := by decide +kernel
theorem dX9_lie_43 : decode cX9_lie 43 = .ok (.iload_n 3, 1) := by decide +kernel
theorem dX9_lie_44 : decode cX9_lie 44 = .ok (.ifCond .le 21, 3) := by decide +kernel
theorem dX9_lie_47 : decode cX9_lie 47 = .ok (.aload_n 0, 1) := by decide +kernel
theorem dX9_lie_48 : decode cX9_lie 48 = .ok (.iload_n 1, 1) := by decide +kernel
theorem dX9_lie_49 : decode cX9_lie 49 = .ok (.iconst 1, 1) := by decide +kernel
theorem dX9_lie_50 : decode cX9_lie 50 = .ok (.invokevirtual 310, 3) := by decide +kernel
theorem dX9_lie_53 : decode cX9_lie 53 = .ok (.iload_n 2, 1) := by decide +kernel
theorem dX9_lie_54 : decode cX9_lie 54 = .ok (.iconst 1, 1) := by decide +kernel
theorem dX9_lie_55 : decode cX9_lie 55 = .ok (.iadd, 1) := by decide +kernel
theorem dX9_lie_56 : decode cX9_lie 56 = .ok (.if_icmp .eq 9, 3) := by decide +kernel
theorem dX9_lie_59 : decode cX9_lie 59 = .ok (.aload_n 0, 1) := by decide +kernel
theorem dX9_lie_60 : decode cX9_lie 60 = .ok (.iconst 5, 1) := by decide +kernel
theorem dX9_lie_61 : decode cX9_lie 61 = .ok (.invokevirtual 194, 3) := by decide +kernel
theorem dX9_lie_64 : decode cX9_lie 64 = .ok (.ireturn, 1) := by decide +kernel
theorem dX9_lie_65 : decode cX9_lie 65 = .ok (.aload_n 0, 1) := by decide +kernel
theorem dX9_lie_66 : decode cX9_lie 66 = .ok (.invokevirtual 506, 3) := by decide +kernel
theorem dX9_lie_69 : decode cX9_lie 69 = .ok (.aload_n 0, 1) := by decide +kernel
theorem dX9_lie_70 : decode cX9_lie 70 = .ok (.getfield 26, 3) := by decide +kernel
theorem dX9_lie_73 : decode cX9_lie 73 = .ok (.iconst 4, 1) := by decide +kernel
theorem dX9_lie_74 : decode cX9_lie 74 = .ok (.iload_n 1, 1) := by decide +kernel
theorem dX9_lie_75 : decode cX9_lie 75 = .ok (.imul, 1) := by decide +kernel
theorem dX9_lie_76 : decode cX9_lie 76 = .ok (.iconst 1, 1) := by decide +kernel
theorem dX9_lie_77 : decode cX9_lie 77 = .ok (.iadd, 1) := by decide +kernel
theorem dX9_lie_78 : decode cX9_lie 78 = .ok (.iload_n 2, 1) := by decide +kernel
theorem dX9_lie_79 : decode cX9_lie 79 = .ok (.iconst 1, 1) := by decide +kernel
theorem dX9_lie_80 : decode cX9_lie 80 = .ok (.iadd, 1) := by decide +kernel
theorem dX9_lie_81 : decode cX9_lie 81 = .ok (.iastore, 1) := by decide +kernel
theorem dX9_lie_82 : decode cX9_lie 82 = .ok (.aload_n 0, 1) := by decide +kernel
theorem dX9_lie_83 : decode cX9_lie 83 = .ok (.iload_n 1, 1) := by decide +kernel
theorem dX9_lie_84 : decode cX9_lie 84 = .ok (.iload_n 3, 1) := by decide +kernel
theorem dX9_lie_85 : decode cX9_lie 85 = .ok (.iconst 1, 1) := by decide +kernel
theorem dX9_lie_86 : decode cX9_lie 86 = .ok (.iadd, 1) := by decide +kernel
theorem dX9_lie_87 : decode cX9_lie 87 = .ok (.invokevirtual 322, 3) := by decide +kernel
theorem dX9_lie_90 : decode cX9_lie 90 = .ok (.aload_n 0, 1) := by decide +kernel
theorem dX9_lie_91 : decode cX9_lie 91 = .ok (.invokevirtual 216, 3) := by decide +kernel
theorem dX9_lie_94 : decode cX9_lie 94 = .ok (.aload_n 0, 1) := by decide +kernel
theorem dX9_lie_95 : decode cX9_lie 95 = .ok (.iload_n 1, 1) := by decide +kernel
theorem dX9_lie_96 : decode cX9_lie 96 = .ok (.iconst 0, 1) := by decide +kernel
theorem dX9_lie_97 : decode cX9_lie 97 = .ok (.invokevirtual 310, 3) := by decide +kernel
theorem dX9_lie_100 : decode cX9_lie 100 = .ok (.ireturn, 1) := by decide +kernel
theorem dX9_wake_0 : decode cX9_wake 0 = .ok (.aload_n 0, 1) := by decide +kernel
theorem dX9_wake_1 : decode cX9_wake 1 = .ok (.invokevirtual 191, 3) := by decide +kernel
theorem dX9_wake_4 : decode cX9_wake 4 = .ok (.aload_n 0, 1) := by decide +kernel
theorem dX9_wake_5 : decode cX9_wake 5 = .ok (.iload_n 1, 1) := by decide +kernel
theorem dX9_wake_6 : decode cX9_wake 6 = .ok (.invokevirtual 353, 3) := by decide +kernel
theorem dX9_wake_9 : decode cX9_wake 9 = .ok (.ifCond .ne 9, 3) := by decide +kernel
theorem dX9_wake_12 : decode cX9_wake 12 = .ok (.aload_n 0, 1) := by decide +kernel
theorem dX9_wake_13 : decode cX9_wake 13 = .ok (.iconst 1, 1) := by decide +kernel
theorem dX9_wake_14 : decode cX9_wake 14 = .ok (.invokevirtual 194, 3) := by decide +kernel
theorem dX9_wake_17 : decode cX9_wake 17 = .ok (.ireturn, 1) := by decide +kernel
theorem dX9_wake_18 : decode cX9_wake 18 = .ok (.aload_n 0, 1) := by decide +kernel
theorem dX9_wake_19 : decode cX9_wake 19 = .ok (.iload_n 1, 1) := by decide +kernel
theorem dX9_wake_20 : decode cX9_wake 20 = .ok (.iconst 0, 1) := by decide +kernel
theorem dX9_wake_21 : decode cX9_wake 21 = .ok (.invokevirtual 310, 3) := by decide +kernel
theorem dX9_wake_24 : decode cX9_wake 24 = .ok (.ifCond .ne 9, 3) := by decide +kernel
theorem dX9_wake_27 : decode cX9_wake 27 = .ok (.aload_n 0, 1) := by decide +kernel
theorem dX9_wake_28 : decode cX9_wake 28 = .ok (.iconst 5, 1) := by decide +kernel
theorem dX9_wake_29 : decode cX9_wake 29 = .ok (.invokevirtual 194, 3) := by decide +kernel
theorem dX9_wake_32 : decode cX9_wake 32 = .ok (.ireturn, 1) := by decide +kernel
theorem dX9_wake_33 : decode cX9_wake 33 = .ok (.aload_n 0, 1) := by decide +kernel
theorem dX9_wake_34 : decode cX9_wake 34 = .ok (.invokevirtual 506, 3) := by decide +kernel
theorem dX9_wake_37 : decode cX9_wake 37 = .ok (.aload_n 0, 1) := by decide +kernel
theorem dX9_wake_38 : decode cX9_wake 38 = .ok (.iload_n 1, 1) := by decide +kernel
theorem dX9_wake_39 : decode cX9_wake 39 = .ok (.aload_n 0, 1) := by decide +kernel
theorem dX9_wake_40 : decode cX9_wake 40 = .ok (.iload_n 1, 1) := by decide +kernel
theorem dX9_wake_41 : decode cX9_wake 41 = .ok (.iconst 0, 1) := by decide +kernel
theorem dX9_wake_42 : decode cX9_wake 42 = .ok (.invokevirtual 310, 3) := by decide +kernel
theorem dX9_wake_45 : decode cX9_wake 45 = .ok (.iconst 1, 1) := by decide +kernel
theorem dX9_wake_46 : decode cX9_wake 46 = .ok (.isub, 1) := by decide +kernel
theorem dX9_wake_47 : decode cX9_wake 47 = .ok (.invokevirtual 322, 3) := by decide +kernel
theorem dX9_wake_50 : decode cX9_wake 50 = .ok (.aload_n 0, 1) := by decide +kernel
theorem dX9_wake_51 : decode cX9_wake 51 = .ok (.invokevirtual 216, 3) := by decide +kernel
theorem dX9_wake_54 : decode cX9_wake 54 = .ok (.aload_n 0, 1) := by decide +kernel
theorem dX9_wake_55 : decode cX9_wake 55 = .ok (.iload_n 1, 1) := by decide +kernel
theorem dX9_wake_56 : decode cX9_wake 56 = .ok (.iconst 0, 1) := by decide +kernel
theorem dX9_wake_57 : decode cX9_wake 57 = .ok (.invokevirtual 310, 3) := by decide +kernel
theorem dX9_wake_60 : decode cX9_wake 60 = .ok (.ireturn, 1) := by decide +kernel
theorem dX9_knock_0 : decode cX9_knock 0 = .ok (.aload_n 0, 1) := by decide +kernel
theorem dX9_knock_1 : decode cX9_knock 1 = .ok (.invokevirtual 191, 3) := by decide +kernel
theorem dX9_knock_4 : decode cX9_knock 4 = .ok (.aload_n 0, 1) := by decide +kernel
theorem dX9_knock_5 : decode cX9_knock 5 = .ok (.iload_n 1, 1) := by decide +kernel
theorem dX9_knock_6 : decode cX9_knock 6 = .ok (.invokevirtual 509, 3) := by decide +kernel
theorem dX9_knock_9 : decode cX9_knock 9 = .ok (.ifCond .eq 19, 3) := by decide +kernel
theorem dX9_knock_12 : decode cX9_knock 12 = .ok (.iload_n 2, 1) := by decide +kernel
theorem dX9_knock_13 : decode cX9_knock 13 = .ok (.iconst 0, 1) := by decide +kernel
theorem dX9_knock_14 : decode cX9_knock 14 = .ok (.aload_n 0, 1) := by decide +kernel
theorem dX9_knock_15 : decode cX9_knock 15 = .ok (.getfield 20, 3) := by decide +kernel
theorem dX9_knock_18 : decode cX9_knock 18 = .ok (.iconst 0, 1) := by decide +kernel
theorem dX9_knock_19 : decode cX9_knock 19 = .ok (.iaload, 1) := by decide +kernel
theorem dX9_knock_20 : decode cX9_knock 20 = .ok (.iconst 1, 1) := by decide +kernel
theorem dX9_knock_21 : decode cX9_knock 21 = .ok (.isub, 1) := by decide +kernel
theorem dX9_knock_22 : decode cX9_knock 22 = .ok (.invokestatic 170, 3) := by decide +kernel
theorem dX9_knock_25 : decode cX9_knock 25 = .ok (.ifCond .ne 9, 3) := by decide +kernel
theorem dX9_knock_28 : decode cX9_knock 28 = .ok (.aload_n 0, 1) := by decide +kernel
theorem dX9_knock_29 : decode cX9_knock 29 = .ok (.iconst 1, 1) := by decide +kernel
theorem dX9_knock_30 : decode cX9_knock 30 = .ok (.invokevirtual 194, 3) := by decide +kernel
theorem dX9_knock_33 : decode cX9_knock 33 = .ok (.ireturn, 1) := by decide +kernel
theorem dX9_knock_34 : decode cX9_knock 34 = .ok (.iload_n 3, 1) := by decide +kernel
theorem dX9_knock_35 : decode cX9_knock 35 = .ok (.iconst 1, 1) := by decide +kernel
theorem dX9_knock_36 : decode cX9_knock 36 = .ok (.bipush 99, 2) := by decide +kernel
theorem dX9_knock_38 : decode cX9_knock 38 = .ok (.invokestatic 170, 3) := by decide +kernel
theorem dX9_knock_41 : decode cX9_knock 41 = .ok (.ifCond .ne 9, 3) := by decide +kernel
theorem dX9_knock_44 : decode cX9_knock 44 = .ok (.aload_n 0, 1) := by decide +kernel
theorem dX9_knock_45 : decode cX9_knock 45 = .ok (.iconst 2, 1) := by decide +kernel
theorem dX9_knock_46 : decode cX9_knock 46 = .ok (.invokevirtual 194, 3) := by decide +kernel
theorem dX9_knock_49 : decode cX9_knock 49 = .ok (.ireturn, 1) := by decide +kernel
theorem dX9_knock_50 : decode cX9_knock 50 = .ok (.aload_n 0, 1) := by decide +kernel
theorem dX9_knock_51 : decode cX9_knock 51 = .ok (.invokevirtual 506, 3) := by decide +kernel
theorem dX9_knock_54 : decode cX9_knock 54 = .ok (.aload_n 0, 1) := by decide +kernel
theorem dX9_knock_55 : decode cX9_knock 55 = .ok (.iload_n 1, 1) := by decide +kernel
theorem dX9_knock_56 : decode cX9_knock 56 = .ok (.iload_n 2, 1) := by decide +kernel
theorem dX9_knock_57 : decode cX9_knock 57 = .ok (.iload_n 3, 1) := by decide +kernel
theorem dX9_knock_58 : decode cX9_knock 58 = .ok (.invokevirtual 342, 3) := by decide +kernel
theorem dX9_knock_61 : decode cX9_knock 61 = .ok (.istore 4, 2) := by decide +kernel
theorem dX9_knock_63 : decode cX9_knock 63 = .ok (.aload_n 0, 1) := by decide +kernel
theorem dX9_knock_64 : decode cX9_knock 64 = .ok (.invokevirtual 216, 3) := by decide +kernel
theorem dX9_knock_67 : decode cX9_knock 67 = .ok (.iload 4, 2) := by decide +kernel
theorem dX9_knock_69 : decode cX9_knock 69 = .ok (.ireturn, 1) := by decide +kernel
theorem dX9_undo_0 : decode cX9_undo 0 = .ok (.aload_n 0, 1) := by decide +kernel
theorem dX9_undo_1 : decode cX9_undo 1 = .ok (.invokevirtual 191, 3) := by decide +kernel
theorem dX9_undo_4 : decode cX9_undo 4 = .ok (.aload_n 0, 1) := by decide +kernel
theorem dX9_undo_5 : decode cX9_undo 5 = .ok (.getfield 207, 3) := by decide +kernel
theorem dX9_undo_8 : decode cX9_undo 8 = .ok (.ifCond .ne 10, 3) := by decide +kernel
theorem dX9_undo_11 : decode cX9_undo 11 = .ok (.aload_n 0, 1) := by decide +kernel
theorem dX9_undo_12 : decode cX9_undo 12 = .ok (.bipush 6, 2) := by decide +kernel
theorem dX9_undo_14 : decode cX9_undo 14 = .ok (.invokevirtual 512, 3) := by decide +kernel
theorem dX9_undo_17 : decode cX9_undo 17 = .ok (.ireturn, 1) := by decide +kernel
theorem dX9_undo_18 : decode cX9_undo 18 = .ok (.aload_n 0, 1) := by decide +kernel
theorem dX9_undo_19 : decode cX9_undo 19 = .ok (.dup, 1) := by decide +kernel
theorem dX9_undo_20 : decode cX9_undo 20 = .ok (.getfield 207, 3) := by decide +kernel
theorem dX9_undo_23 : decode cX9_undo 23 = .ok (.iconst 1, 1) := by decide +kernel
theorem dX9_undo_24 : decode cX9_undo 24 = .ok (.isub, 1) := by decide +kernel
theorem dX9_undo_25 : decode cX9_undo 25 = .ok (.putfield 207, 3) := by decide +kernel
theorem dX9_undo_28 : decode cX9_undo 28 = .ok (.aload_n 0, 1) := by decide +kernel
theorem dX9_undo_29 : decode cX9_undo 29 = .ok (.getfield 29, 3) := by decide +kernel
theorem dX9_undo_32 : decode cX9_undo 32 = .ok (.bipush 20, 2) := by decide +kernel
theorem dX9_undo_34 : decode cX9_undo 34 = .ok (.aload_n 0, 1) := by decide +kernel
theorem dX9_undo_35 : decode cX9_undo 35 = .ok (.getfield 207, 3) := by decide +kernel
theorem dX9_undo_38 : decode cX9_undo 38 = .ok (.imul, 1) := by decide +kernel
theorem dX9_undo_39 : decode cX9_undo 39 = .ok (.aload_n 0, 1) := by decide +kernel
theorem dX9_undo_40 : decode cX9_undo 40 = .ok (.getfield 26, 3) := by decide +kernel
theorem dX9_undo_43 : decode cX9_undo 43 = .ok (.iconst 0, 1) := by decide +kernel
theorem dX9_undo_44 : decode cX9_undo 44 = .ok (.bipush 20, 2) := by decide +kernel
theorem dX9_undo_46 : decode cX9_undo 46 = .ok (.invokestatic 200, 3) := by decide +kernel
theorem dX9_undo_49 : decode cX9_undo 49 = .ok (.aload_n 0, 1) := by decide +kernel
theorem dX9_undo_50 : decode cX9_undo 50 = .ok (.getfield 42, 3) := by decide +kernel
theorem dX9_undo_53 : decode cX9_undo 53 = .ok (.bipush 31, 2) := by decide +kernel
theorem dX9_undo_55 : decode cX9_undo 55 = .ok (.aload_n 0, 1) := by decide +kernel
theorem dX9_undo_56 : decode cX9_undo 56 = .ok (.getfield 207, 3) := by decide +kernel
theorem dX9_undo_59 : decode cX9_undo 59 = .ok (.imul, 1) := by decide +kernel
theorem dX9_undo_60 : decode cX9_undo 60 = .ok (.aload_n 0, 1) := by decide +kernel
theorem dX9_undo_61 : decode cX9_undo 61 = .ok (.getfield 38, 3) := by decide +kernel
theorem dX9_undo_64 : decode cX9_undo 64 = .ok (.iconst 0, 1) := by decide +kernel
theorem dX9_undo_65 : decode cX9_undo 65 = .ok (.invokestatic 346, 3) := by decide +kernel
theorem dX9_undo_68 : decode cX9_undo 68 = .ok (.iconst 1, 1) := by decide +kernel
theorem dX9_undo_69 : decode cX9_undo 69 = .ok (.ireturn, 1) := by decide +kernel
theorem dX9_image_0 : decode cX9_image 0 = .ok (.aload_n 0, 1) := by decide +kernel
theorem dX9_image_1 : decode cX9_image 1 = .ok (.invokevirtual 191, 3) := by decide +kernel
theorem dX9_image_4 : decode cX9_image 4 = .ok (.aload_n 0, 1) := by decide +kernel
theorem dX9_image_5 : decode cX9_image 5 = .ok (.getfield 204, 3) := by decide +kernel
theorem dX9_image_8 : decode cX9_image 8 = .ok (.ifCond .ne 9, 3) := by decide +kernel
theorem dX9_image_11 : decode cX9_image 11 = .ok (.aload_n 0, 1) := by decide +kernel
theorem dX9_image_12 : decode cX9_image 12 = .ok (.iconst 1, 1) := by decide +kernel
theorem dX9_image_13 : decode cX9_image 13 = .ok (.invokevirtual 194, 3) := by decide +kernel
theorem dX9_image_16 : decode cX9_image 16 = .ok (.ireturn, 1) := by decide +kernel
theorem dX9_image_17 : decode cX9_image 17 = .ok (.aload_n 0, 1) := by decide +kernel
theorem dX9_image_18 : decode cX9_image 18 = .ok (.getfield 210, 3) := by decide +kernel
theorem dX9_image_21 : decode cX9_image 21 = .ok (.iconst 3, 1) := by decide +kernel
theorem dX9_image_22 : decode cX9_image 22 = .ok (.if_icmp .ne 9, 3) := by decide +kernel
theorem dX9_image_25 : decode cX9_image 25 = .ok (.aload_n 0, 1) := by decide +kernel
theorem dX9_image_26 : decode cX9_image 26 = .ok (.iconst 3, 1) := by decide +kernel
theorem dX9_image_27 : decode cX9_image 27 = .ok (.invokevirtual 194, 3) := by decide +kernel
theorem dX9_image_30 : decode cX9_image 30 = .ok (.ireturn, 1) := by decide +kernel
theorem dX9_image_31 : decode cX9_image 31 = .ok (.aload_n 0, 1) := by decide +kernel
theorem dX9_image_32 : decode cX9_image 32 = .ok (.getfield 26, 3) := by decide +kernel
theorem dX9_image_35 : decode cX9_image 35 = .ok (.iconst 0, 1) := by decide +kernel
theorem dX9_image_36 : decode cX9_image 36 = .ok (.aload_n 0, 1) := by decide +kernel
theorem dX9_image_37 : decode cX9_image 37 = .ok (.getfield 32, 3) := by decide +kernel
theorem dX9_image_40 : decode cX9_image 40 = .ok (.bipush 20, 2) := by decide +kernel
theorem dX9_image_42 : decode cX9_image 42 = .ok (.aload_n 0, 1) := by decide +kernel
theorem dX9_image_43 : decode cX9_image 43 = .ok (.getfield 210, 3) := by decide +kernel
theorem dX9_image_46 : decode cX9_image 46 = .ok (.imul, 1) := by decide +kernel
theorem dX9_image_47 : decode cX9_image 47 = .ok (.bipush 20, 2) := by decide +kernel
theorem dX9_image_49 : decode cX9_image 49 = .ok (.invokestatic 200, 3) := by decide +kernel
theorem dX9_image_52 : decode cX9_image 52 = .ok (.aload_n 0, 1) := by decide +kernel
theorem dX9_image_53 : decode cX9_image 53 = .ok (.getfield 38, 3) := by decide +kernel
theorem dX9_image_56 : decode cX9_image 56 = .ok (.iconst 0, 1) := by decide +kernel
theorem dX9_image_57 : decode cX9_image 57 = .ok (.aload_n 0, 1) := by decide +kernel
theorem dX9_image_58 : decode cX9_image 58 = .ok (.getfield 45, 3) := by decide +kernel
theorem dX9_image_61 : decode cX9_image 61 = .ok (.bipush 31, 2) := by decide +kernel
theorem dX9_image_63 : decode cX9_image 63 = .ok (.aload_n 0, 1) := by decide +kernel
theorem dX9_image_64 : decode cX9_image 64 = .ok (.getfield 210, 3) := by decide +kernel
theorem dX9_image_67 : decode cX9_image 67 = .ok (.imul, 1) := by decide +kernel
theorem dX9_image_68 : decode cX9_image 68 = .ok (.invokestatic 346, 3) := by decide +kernel
theorem dX9_image_71 : decode cX9_image 71 = .ok (.aload_n 0, 1) := by decide +kernel
theorem dX9_image_72 : decode cX9_image 72 = .ok (.dup, 1) := by decide +kernel
theorem dX9_image_73 : decode cX9_image 73 = .ok (.getfield 210, 3) := by decide +kernel
theorem dX9_image_76 : decode cX9_image 76 = .ok (.iconst 1, 1) := by decide +kernel
theorem dX9_image_77 : decode cX9_image 77 = .ok (.iadd, 1) := by decide +kernel
theorem dX9_image_78 : decode cX9_image 78 = .ok (.putfield 210, 3) := by decide +kernel
theorem dX9_image_81 : decode cX9_image 81 = .ok (.aload_n 0, 1) := by decide +kernel
theorem dX9_image_82 : decode cX9_image 82 = .ok (.getfield 210, 3) := by decide +kernel
theorem dX9_image_85 : decode cX9_image 85 = .ok (.iconst 1, 1) := by decide +kernel
theorem dX9_image_86 : decode cX9_image 86 = .ok (.isub, 1) := by decide +kernel
theorem dX9_image_87 : decode cX9_image 87 = .ok (.ireturn, 1) := by decide +kernel
theorem dX9_back_0 : decode cX9_back 0 = .ok (.aload_n 0, 1) := by decide +kernel
theorem dX9_back_1 : decode cX9_back 1 = .ok (.invokevirtual 191, 3) := by decide +kernel
theorem dX9_back_4 : decode cX9_back 4 = .ok (.iload_n 1, 1) := by decide +kernel
theorem dX9_back_5 : decode cX9_back 5 = .ok (.iconst 0, 1) := by decide +kernel
theorem dX9_back_6 : decode cX9_back 6 = .ok (.aload_n 0, 1) := by decide +kernel
theorem dX9_back_7 : decode cX9_back 7 = .ok (.getfield 210, 3) := by decide +kernel
theorem dX9_back_10 : decode cX9_back 10 = .ok (.iconst 1, 1) := by decide +kernel
theorem dX9_back_11 : decode cX9_back 11 = .ok (.isub, 1) := by decide +kernel
theorem dX9_back_12 : decode cX9_back 12 = .ok (.invokestatic 170, 3) := by decide +kernel
theorem dX9_back_15 : decode cX9_back 15 = .ok (.ifCond .ne 9, 3) := by decide +kernel
theorem dX9_back_18 : decode cX9_back 18 = .ok (.aload_n 0, 1) := by decide +kernel
theorem dX9_back_19 : decode cX9_back 19 = .ok (.iconst 1, 1) := by decide +kernel
theorem dX9_back_20 : decode cX9_back 20 = .ok (.invokevirtual 512, 3) := by decide +kernel
theorem dX9_back_23 : decode cX9_back 23 = .ok (.ireturn, 1) := by decide +kernel
theorem dX9_back_24 : decode cX9_back 24 = .ok (.aload_n 0, 1) := by decide +kernel
theorem dX9_back_25 : decode cX9_back 25 = .ok (.getfield 32, 3) := by decide +kernel
theorem dX9_back_28 : decode cX9_back 28 = .ok (.bipush 20, 2) := by decide +kernel
theorem dX9_back_30 : decode cX9_back 30 = .ok (.iload_n 1, 1) := by decide +kernel
theorem dX9_back_31 : decode cX9_back 31 = .ok (.imul, 1) := by decide +kernel
theorem dX9_back_32 : decode cX9_back 32 = .ok (.aload_n 0, 1) := by decide +kernel
theorem dX9_back_33 : decode cX9_back 33 = .ok (.getfield 26, 3) := by decide +kernel
theorem dX9_back_36 : decode cX9_back 36 = .ok (.iconst 0, 1) := by decide +kernel
theorem dX9_back_37 : decode cX9_back 37 = .ok (.bipush 20, 2) := by decide +kernel
theorem dX9_back_39 : decode cX9_back 39 = .ok (.invokestatic 200, 3) := by decide +kernel
theorem dX9_back_42 : decode cX9_back 42 = .ok (.aload_n 0, 1) := by decide +kernel
theorem dX9_back_43 : decode cX9_back 43 = .ok (.getfield 45, 3) := by decide +kernel
theorem dX9_back_46 : decode cX9_back 46 = .ok (.bipush 31, 2) := by decide +kernel
theorem dX9_back_48 : decode cX9_back 48 = .ok (.iload_n 1, 1) := by decide +kernel
theorem dX9_back_49 : decode cX9_back 49 = .ok (.imul, 1) := by decide +kernel
theorem dX9_back_50 : decode cX9_back 50 = .ok (.aload_n 0, 1) := by decide +kernel
theorem dX9_back_51 : decode cX9_back 51 = .ok (.getfield 38, 3) := by decide +kernel
theorem dX9_back_54 : decode cX9_back 54 = .ok (.iconst 0, 1) := by decide +kernel
theorem dX9_back_55 : decode cX9_back 55 = .ok (.invokestatic 346, 3) := by decide +kernel
theorem dX9_back_58 : decode cX9_back 58 = .ok (.aload_n 0, 1) := by decide +kernel
theorem dX9_back_59 : decode cX9_back 59 = .ok (.iconst 0, 1) := by decide +kernel
theorem dX9_back_60 : decode cX9_back 60 = .ok (.putfield 207, 3) := by decide +kernel
theorem dX9_back_63 : decode cX9_back 63 = .ok (.iconst 1, 1) := by decide +kernel
theorem dX9_back_64 : decode cX9_back 64 = .ok (.ireturn, 1) := by decide +kernel
theorem dX9_led_0 : decode cX9_led 0 = .ok (.iconst 0, 1) := by decide +kernel
theorem dX9_led_1 : decode cX9_led 1 = .ok (.istore_n 2, 1) := by decide +kernel
theorem dX9_led_2 : decode cX9_led 2 = .ok (.iconst 0, 1) := by decide +kernel
theorem dX9_led_3 : decode cX9_led 3 = .ok (.istore_n 3, 1) := by decide +kernel
theorem dX9_led_4 : decode cX9_led 4 = .ok (.aload_n 0, 1) := by decide +kernel
theorem dX9_led_5 : decode cX9_led 5 = .ok (.getfield 204, 3) := by decide +kernel
theorem dX9_led_8 : decode cX9_led 8 = .ok (.ifCond .eq 46, 3) := by decide +kernel
theorem dX9_led_11 : decode cX9_led 11 = .ok (.iload_n 3, 1) := by decide +kernel
theorem dX9_led_12 : decode cX9_led 12 = .ok (.aload_n 0, 1) := by decide +kernel
theorem dX9_led_13 : decode cX9_led 13 = .ok (.getfield 20, 3) := by decide +kernel
theorem dX9_led_16 : decode cX9_led 16 = .ok (.iconst 4, 1) := by decide +kernel
theorem dX9_led_17 : decode cX9_led 17 = .ok (.iaload, 1) := by decide +kernel
theorem dX9_led_18 : decode cX9_led 18 = .ok (.if_icmp .ge 36, 3) := by decide +kernel
theorem dX9_led_21 : decode cX9_led 21 = .ok (.aload_n 0, 1) := by decide +kernel
theorem dX9_led_22 : decode cX9_led 22 = .ok (.iload_n 3, 1) := by decide +kernel
theorem dX9_led_23 : decode cX9_led 23 = .ok (.iconst 0, 1) := by decide +kernel
theorem dX9_led_24 : decode cX9_led 24 = .ok (.invokevirtual 310, 3) := by decide +kernel
theorem dX9_led_27 : decode cX9_led 27 = .ok (.ifCond .ne 6, 3) := by decide +kernel
theorem dX9_led_30 : decode cX9_led 30 = .ok (.goto 18, 3) := by decide +kernel
theorem dX9_led_33 : decode cX9_led 33 = .ok (.iload_n 2, 1) := by decide +kernel
theorem dX9_led_34 : decode cX9_led 34 = .ok (.iload_n 1, 1) := by decide +kernel
theorem dX9_led_35 : decode cX9_led 35 = .ok (.if_icmp .ne 10, 3) := by decide +kernel
theorem dX9_led_38 : decode cX9_led 38 = .ok (.aload_n 0, 1) := by decide +kernel
theorem dX9_led_39 : decode cX9_led 39 = .ok (.iconst 0, 1) := by decide +kernel
theorem dX9_led_40 : decode cX9_led 40 = .ok (.putfield 72, 3) := by decide +kernel
theorem dX9_led_43 : decode cX9_led 43 = .ok (.iload_n 3, 1) := by decide +kernel
theorem dX9_led_44 : decode cX9_led 44 = .ok (.ireturn, 1) := by decide +kernel
theorem dX9_led_45 : decode cX9_led 45 = .ok (.iinc 2 1, 3) := by decide +kernel
theorem dX9_led_48 : decode cX9_led 48 = .ok (.iinc 3 1, 3) := by decide +kernel
theorem dX9_led_51 : decode cX9_led 51 = .ok (.goto (-47), 3) := by decide +kernel
theorem dX9_led_54 : decode cX9_led 54 = .ok (.aload_n 0, 1) := by decide +kernel
theorem dX9_led_55 : decode cX9_led 55 = .ok (.iconst 1, 1) := by decide +kernel
theorem dX9_led_56 : decode cX9_led 56 = .ok (.putfield 72, 3) := by decide +kernel
theorem dX9_led_59 : decode cX9_led 59 = .ok (.iconst 0, 1) := by decide +kernel
theorem dX9_led_60 : decode cX9_led 60 = .ok (.ireturn, 1) := by decide +kernel
theorem dX9_size_0 : decode cX9_size 0 = .ok (.aload_n 0, 1) := by decide +kernel
theorem dX9_size_1 : decode cX9_size 1 = .ok (.iconst 0, 1) := by decide +kernel
theorem dX9_size_2 : decode cX9_size 2 = .ok (.putfield 72, 3) := by decide +kernel
theorem dX9_size_5 : decode cX9_size 5 = .ok (.iload_n 1, 1) := by decide +kernel
theorem dX9_size_6 : decode cX9_size 6 = .ok (.bipush 12, 2) := by decide +kernel
theorem dX9_size_8 : decode cX9_size 8 = .ok (.if_icmp .ne 8, 3) := by decide +kernel
theorem dX9_size_11 : decode cX9_size 11 = .ok (.aload_n 0, 1) := by decide +kernel
theorem dX9_size_12 : decode cX9_size 12 = .ok (.getfield 78, 3) := by decide +kernel
theorem dX9_size_15 : decode cX9_size 15 = .ok (.ireturn, 1) := by decide +kernel
theorem dX9_size_16 : decode cX9_size 16 = .ok (.aload_n 0, 1) := by decide +kernel
theorem dX9_size_17 : decode cX9_size 17 = .ok (.getfield 204, 3) := by decide +kernel
theorem dX9_size_20 : decode cX9_size 20 = .ok (.ifCond .ne 19, 3) := by decide +kernel
theorem dX9_size_23 : decode cX9_size 23 = .ok (.iload_n 1, 1) := by decide +kernel
theorem dX9_size_24 : decode cX9_size 24 = .ok (.iconst 0, 1) := by decide +kernel
theorem dX9_size_25 : decode cX9_size 25 = .ok (.bipush 11, 2) := by decide +kernel
theorem dX9_size_27 : decode cX9_size 27 = .ok (.invokestatic 170, 3) := by decide +kernel
theorem dX9_size_30 : decode cX9_size 30 = .ok (.ifCond .eq 7, 3) := by decide +kernel
theorem dX9_size_33 : decode cX9_size 33 = .ok (.iconst 0, 1) := by decide +kernel
theorem dX9_size_34 : decode cX9_size 34 = .ok (.goto 4, 3) := by decide +kernel
theorem dX9_size_37 : decode cX9_size 37 = .ok (.iconst (-1), 1) := by decide +kernel
theorem dX9_size_38 : decode cX9_size 38 = .ok (.ireturn, 1) := by decide +kernel
theorem dX9_size_39 : decode cX9_size 39 = .ok (.iload_n 1, 1) := by decide +kernel
theorem dX9_size_40 : decode cX9_size 40 = .ok (.tableswitch 148 0 11 #[64, 71, 78, 85, 92, 99, 106, 114, 122, 130, 138, 143], 64) := by decide +kernel
theorem dX9_size_104 : decode cX9_size 104 = .ok (.aload_n 0, 1) := by decide +kernel
theorem dX9_size_105 : decode cX9_size 105 = .ok (.getfield 20, 3) := by decide +kernel
theorem dX9_size_108 : decode cX9_size 108 = .ok (.iconst 0, 1) := by decide +kernel
theorem dX9_size_109 : decode cX9_size 109 = .ok (.iaload, 1) := by decide +kernel
theorem dX9_size_110 : decode cX9_size 110 = .ok (.ireturn, 1) := by decide +kernel
theorem dX9_size_111 : decode cX9_size 111 = .ok (.aload_n 0, 1) := by decide +kernel
theorem dX9_size_112 : decode cX9_size 112 = .ok (.getfield 20, 3) := by decide +kernel
theorem dX9_size_115 : decode cX9_size 115 = .ok (.iconst 1, 1) := by decide +kernel
theorem dX9_size_116 : decode cX9_size 116 = .ok (.iaload, 1) := by decide +kernel
theorem dX9_size_117 : decode cX9_size 117 = .ok (.ireturn, 1) := by decide +kernel
theorem dX9_size_118 : decode cX9_size 118 = .ok (.aload_n 0, 1) := by decide +kernel
theorem dX9_size_119 : decode cX9_size 119 = .ok (.getfield 20, 3) := by decide +kernel
theorem dX9_size_122 : decode cX9_size 122 = .ok (.iconst 2, 1) := by decide +kernel
theorem dX9_size_123 : decode cX9_size 123 = .ok (.iaload, 1) := by decide +kernel
theorem dX9_size_124 : decode cX9_size 124 = .ok (.ireturn, 1) := by decide +kernel
theorem dX9_size_125 : decode cX9_size 125 = .ok (.aload_n 0, 1) := by decide +kernel
theorem dX9_size_126 : decode cX9_size 126 = .ok (.getfield 20, 3) := by decide +kernel
theorem dX9_size_129 : decode cX9_size 129 = .ok (.iconst 3, 1) := by decide +kernel
theorem dX9_size_130 : decode cX9_size 130 = .ok (.iaload, 1) := by decide +kernel
theorem dX9_size_131 : decode cX9_size 131 = .ok (.ireturn, 1) := by decide +kernel
theorem dX9_size_132 : decode cX9_size 132 = .ok (.aload_n 0, 1) := by decide +kernel
theorem dX9_size_133 : decode cX9_size 133 = .ok (.getfield 20, 3) := by decide +kernel
theorem dX9_size_136 : decode cX9_size 136 = .ok (.iconst 4, 1) := by decide +kernel
theorem dX9_size_137 : decode cX9_size 137 = .ok (.iaload, 1) := by decide +kernel
theorem dX9_size_138 : decode cX9_size 138 = .ok (.ireturn, 1) := by decide +kernel
theorem dX9_size_139 : decode cX9_size 139 = .ok (.aload_n 0, 1) := by decide +kernel
theorem dX9_size_140 : decode cX9_size 140 = .ok (.getfield 20, 3) := by decide +kernel
theorem dX9_size_143 : decode cX9_size 143 = .ok (.iconst 5, 1) := by decide +kernel
theorem dX9_size_144 : decode cX9_size 144 = .ok (.iaload, 1) := by decide +kernel
theorem dX9_size_145 : decode cX9_size 145 = .ok (.ireturn, 1) := by decide +kernel
theorem dX9_size_146 : decode cX9_size 146 = .ok (.aload_n 0, 1) := by decide +kernel
theorem dX9_size_147 : decode cX9_size 147 = .ok (.getfield 20, 3) := by decide +kernel
theorem dX9_size_150 : decode cX9_size 150 = .ok (.bipush 6, 2) := by decide +kernel
theorem dX9_size_152 : decode cX9_size 152 = .ok (.iaload, 1) := by decide +kernel
theorem dX9_size_153 : decode cX9_size 153 = .ok (.ireturn, 1) := by decide +kernel
theorem dX9_size_154 : decode cX9_size 154 = .ok (.aload_n 0, 1) := by decide +kernel
theorem dX9_size_155 : decode cX9_size 155 = .ok (.getfield 20, 3) := by decide +kernel
theorem dX9_size_158 : decode cX9_size 158 = .ok (.bipush 7, 2) := by decide +kernel
theorem dX9_size_160 : decode cX9_size 160 = .ok (.iaload, 1) := by decide +kernel
theorem dX9_size_161 : decode cX9_size 161 = .ok (.ireturn, 1) := by decide +kernel
theorem dX9_size_162 : decode cX9_size 162 = .ok (.aload_n 0, 1) := by decide +kernel
theorem dX9_size_163 : decode cX9_size 163 = .ok (.getfield 20, 3) := by decide +kernel
theorem dX9_size_166 : decode cX9_size 166 = .ok (.bipush 8, 2) := by decide +kernel
theorem dX9_size_168 : decode cX9_size 168 = .ok (.iaload, 1) := by decide +kernel
theorem dX9_size_169 : decode cX9_size 169 = .ok (.ireturn, 1) := by decide +kernel
theorem dX9_size_170 : decode cX9_size 170 = .ok (.aload_n 0, 1) := by decide +kernel
theorem dX9_size_171 : decode cX9_size 171 = .ok (.getfield 20, 3) := by decide +kernel
theorem dX9_size_174 : decode cX9_size 174 = .ok (.bipush 9, 2) := by decide +kernel
theorem dX9_size_176 : decode cX9_size 176 = .ok (.iaload, 1) := by decide +kernel
theorem dX9_size_177 : decode cX9_size 177 = .ok (.ireturn, 1) := by decide +kernel
theorem dX9_size_178 : decode cX9_size 178 = .ok (.aload_n 0, 1) := by decide +kernel
theorem dX9_size_179 : decode cX9_size 179 = .ok (.getfield 207, 3) := by decide +kernel
theorem dX9_size_182 : decode cX9_size 182 = .ok (.ireturn, 1) := by decide +kernel
theorem dX9_size_183 : decode cX9_size 183 = .ok (.aload_n 0, 1) := by decide +kernel
theorem dX9_size_184 : decode cX9_size 184 = .ok (.getfield 210, 3) := by decide +kernel
theorem dX9_size_187 : decode cX9_size 187 = .ok (.ireturn, 1) := by decide +kernel
theorem dX9_size_188 : decode cX9_size 188 = .ok (.iconst (-1), 1) := by decide +kernel
theorem dX9_size_189 : decode cX9_size 189 = .ok (.ireturn, 1) := by decide +kernel
theorem dX9_trouble_0 : decode cX9_trouble 0 = .ok (.aload_n 0, 1) := by decide +kernel
theorem dX9_trouble_1 : decode cX9_trouble 1 = .ok (.iconst 0, 1) := by decide +kernel
theorem dX9_trouble_2 : decode cX9_trouble 2 = .ok (.putfield 72, 3) := by decide +kernel
theorem dX9_trouble_5 : decode cX9_trouble 5 = .ok (.aload_n 0, 1) := by decide +kernel
theorem dX9_trouble_6 : decode cX9_trouble 6 = .ok (.getfield 75, 3) := by decide +kernel
theorem dX9_trouble_9 : decode cX9_trouble 9 = .ok (.ireturn, 1) := by decide +kernel
