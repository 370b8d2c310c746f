theorem dX5_byteAt_0 : decode cX5_byteAt 0 = .ok (.iload_n 1, 1) := by decide +kernel
theorem dX5_byteAt_1 : decode cX5_byteAt 1 = .ok (.ifCond .lt 27, 3) := by decide +kernel
theorem dX5_byteAt_4 : decode cX5_byteAt 4 = .ok (.iload_n 1, 1) := by decide +kernel
theorem dX5_byteAt_5 : decode cX5_byteAt 5 = .ok (.aload_n 0, 1) := by decide +kernel
theorem dX5_byteAt_6 : decode cX5_byteAt 6 = .ok (.getfield 32, 3) := by decide +kernel
theorem dX5_byteAt_9 : decode cX5_byteAt 9 = .ok (.if_icmp .ge 19, 3) := by decide +kernel
theorem dX5_byteAt_12 : decode cX5_byteAt 12 = .ok (.aload_n 0, 1) := by decide +kernel
theorem dX5_byteAt_13 : decode cX5_byteAt 13 = .ok (.getfield 22, 3) := by decide +kernel
theorem dX5_byteAt_16 : decode cX5_byteAt 16 = .ok (.ifnull 12, 3) := by decide +kernel
theorem dX5_byteAt_19 : decode cX5_byteAt 19 = .ok (.iload_n 1, 1) := by decide +kernel
theorem dX5_byteAt_20 : decode cX5_byteAt 20 = .ok (.aload_n 0, 1) := by decide +kernel
theorem dX5_byteAt_21 : decode cX5_byteAt 21 = .ok (.getfield 22, 3) := by decide +kernel
theorem dX5_byteAt_24 : decode cX5_byteAt 24 = .ok (.arraylength, 1) := by decide +kernel
theorem dX5_byteAt_25 : decode cX5_byteAt 25 = .ok (.if_icmp .lt 7, 3) := by decide +kernel
theorem dX5_byteAt_28 : decode cX5_byteAt 28 = .ok (.iconst (-1), 1) := by decide +kernel
theorem dX5_byteAt_29 : decode cX5_byteAt 29 = .ok (.goto 13, 3) := by decide +kernel
theorem dX5_byteAt_32 : decode cX5_byteAt 32 = .ok (.aload_n 0, 1) := by decide +kernel
theorem dX5_byteAt_33 : decode cX5_byteAt 33 = .ok (.getfield 22, 3) := by decide +kernel
theorem dX5_byteAt_36 : decode cX5_byteAt 36 = .ok (.iload_n 1, 1) := by decide +kernel
theorem dX5_byteAt_37 : decode cX5_byteAt 37 = .ok (.baload, 1) := by decide +kernel
theorem dX5_byteAt_38 : decode cX5_byteAt 38 = .ok (.sipush 255, 3) := by decide +kernel
theorem dX5_byteAt_41 : decode cX5_byteAt 41 = .ok (.iand, 1) := by decide +kernel
theorem dX5_byteAt_42 : decode cX5_byteAt 42 = .ok (.ireturn, 1) := by decide +kernel
theorem dX5_isLetter_0 : decode cX5_isLetter 0 = .ok (.iload_n 0, 1) := by decide +kernel
theorem dX5_isLetter_1 : decode cX5_isLetter 1 = .ok (.bipush 97, 2) := by decide +kernel
theorem dX5_isLetter_3 : decode cX5_isLetter 3 = .ok (.if_icmp .lt 13, 3) := by decide +kernel
theorem dX5_isLetter_6 : decode cX5_isLetter 6 = .ok (.iload_n 0, 1) := by decide +kernel
theorem dX5_isLetter_7 : decode cX5_isLetter 7 = .ok (.bipush 122, 2) := by decide +kernel
theorem dX5_isLetter_9 : decode cX5_isLetter 9 = .ok (.if_icmp .gt 7, 3) := by decide +kernel
theorem dX5_isLetter_12 : decode cX5_isLetter 12 = .ok (.iconst 1, 1) := by decide +kernel
theorem dX5_isLetter_13 : decode cX5_isLetter 13 = .ok (.goto 4, 3) := by decide +kernel
theorem dX5_isLetter_16 : decode cX5_isLetter 16 = .ok (.iconst 0, 1) := by decide +kernel
theorem dX5_isLetter_17 : decode cX5_isLetter 17 = .ok (.ireturn, 1) := by decide +kernel
theorem dX5_nextWord_0 : decode cX5_nextWord 0 = .ok (.aload_n 0, 1) := by decide +kernel
theorem dX5_nextWord_1 : decode cX5_nextWord 1 = .ok (.lconst 0, 1) := by decide +kernel
theorem dX5_nextWord_2 : decode cX5_nextWord 2 = .ok (.putfield 269, 3) := by decide +kernel
theorem dX5_nextWord_5 : decode cX5_nextWord 5 = .ok (.aload_n 0, 1) := by decide +kernel
theorem dX5_nextWord_6 : decode cX5_nextWord 6 = .ok (.aload_n 0, 1) := by decide +kernel
theorem dX5_nextWord_7 : decode cX5_nextWord 7 = .ok (.getfield 282, 3) := by decide +kernel
theorem dX5_nextWord_10 : decode cX5_nextWord 10 = .ok (.putfield 51, 3) := by decide +kernel
theorem dX5_nextWord_13 : decode cX5_nextWord 13 = .ok (.aload_n 0, 1) := by decide +kernel
theorem dX5_nextWord_14 : decode cX5_nextWord 14 = .ok (.getfield 282, 3) := by decide +kernel
theorem dX5_nextWord_17 : decode cX5_nextWord 17 = .ok (.istore_n 1, 1) := by decide +kernel
theorem dX5_nextWord_18 : decode cX5_nextWord 18 = .ok (.iload_n 1, 1) := by decide +kernel
theorem dX5_nextWord_19 : decode cX5_nextWord 19 = .ok (.aload_n 0, 1) := by decide +kernel
theorem dX5_nextWord_20 : decode cX5_nextWord 20 = .ok (.getfield 32, 3) := by decide +kernel
theorem dX5_nextWord_23 : decode cX5_nextWord 23 = .ok (.if_icmp .ge 45, 3) := by decide +kernel
theorem dX5_nextWord_26 : decode cX5_nextWord 26 = .ok (.aload_n 0, 1) := by decide +kernel
theorem dX5_nextWord_27 : decode cX5_nextWord 27 = .ok (.iload_n 1, 1) := by decide +kernel
theorem dX5_nextWord_28 : decode cX5_nextWord 28 = .ok (.invokevirtual 285, 3) := by decide +kernel
theorem dX5_nextWord_31 : decode cX5_nextWord 31 = .ok (.invokestatic 289, 3) := by decide +kernel
theorem dX5_nextWord_34 : decode cX5_nextWord 34 = .ok (.ifCond .eq 34, 3) := by decide +kernel
theorem dX5_nextWord_37 : decode cX5_nextWord 37 = .ok (.aload_n 0, 1) := by decide +kernel
theorem dX5_nextWord_38 : decode cX5_nextWord 38 = .ok (.aload_n 0, 1) := by decide +kernel
theorem dX5_nextWord_39 : decode cX5_nextWord 39 = .ok (.getfield 269, 3) := by decide +kernel
theorem dX5_nextWord_42 : decode cX5_nextWord 42 = .ok (.bipush 8, 2) := by decide +kernel
theorem dX5_nextWord_44 : decode cX5_nextWord 44 = .ok (.lshl, 1) := by decide +kernel
theorem dX5_nextWord_45 : decode cX5_nextWord 45 = .ok (.aload_n 0, 1) := by decide +kernel
theorem dX5_nextWord_46 : decode cX5_nextWord 46 = .ok (.iload_n 1, 1) := by decide +kernel
theorem dX5_nextWord_47 : decode cX5_nextWord 47 = .ok (.invokevirtual 285, 3) := by decide +kernel
theorem dX5_nextWord_50 : decode cX5_nextWord 50 = .ok (.i2l, 1) := by decide +kernel
theorem dX5_nextWord_51 : decode cX5_nextWord 51 = .ok (.lor, 1) := by decide +kernel
theorem dX5_nextWord_52 : decode cX5_nextWord 52 = .ok (.putfield 269, 3) := by decide +kernel
theorem dX5_nextWord_55 : decode cX5_nextWord 55 = .ok (.aload_n 0, 1) := by decide +kernel
theorem dX5_nextWord_56 : decode cX5_nextWord 56 = .ok (.iload_n 1, 1) := by decide +kernel
theorem dX5_nextWord_57 : decode cX5_nextWord 57 = .ok (.iconst 1, 1) := by decide +kernel
theorem dX5_nextWord_58 : decode cX5_nextWord 58 = .ok (.iadd, 1) := by decide +kernel
theorem dX5_nextWord_59 : decode cX5_nextWord 59 = .ok (.putfield 51, 3) := by decide +kernel
theorem dX5_nextWord_62 : decode cX5_nextWord 62 = .ok (.iinc 1 1, 3) := by decide +kernel
theorem dX5_nextWord_65 : decode cX5_nextWord 65 = .ok (.goto (-47), 3) := by decide +kernel
theorem dX5_nextWord_68 : decode cX5_nextWord 68 = .ok (.aload_n 0, 1) := by decide +kernel
theorem dX5_nextWord_69 : decode cX5_nextWord 69 = .ok (.aload_n 0, 1) := by decide +kernel
theorem dX5_nextWord_70 : decode cX5_nextWord 70 = .ok (.getfield 51, 3) := by decide +kernel
theorem dX5_nextWord_73 : decode cX5_nextWord 73 = .ok (.aload_n 0, 1) := by decide +kernel
theorem dX5_nextWord_74 : decode cX5_nextWord 74 = .ok (.getfield 282, 3) := by decide +kernel
theorem dX5_nextWord_77 : decode cX5_nextWord 77 = .ok (.isub, 1) := by decide +kernel
theorem dX5_nextWord_78 : decode cX5_nextWord 78 = .ok (.bipush 8, 2) := by decide +kernel
theorem dX5_nextWord_80 : decode cX5_nextWord 80 = .ok (.if_icmp .gt 7, 3) := by decide +kernel
theorem dX5_nextWord_83 : decode cX5_nextWord 83 = .ok (.iconst 1, 1) := by decide +kernel
theorem dX5_nextWord_84 : decode cX5_nextWord 84 = .ok (.goto 4, 3) := by decide +kernel
theorem dX5_nextWord_87 : decode cX5_nextWord 87 = .ok (.iconst 0, 1) := by decide +kernel
theorem dX5_nextWord_88 : decode cX5_nextWord 88 = .ok (.putfield 61, 3) := by decide +kernel
theorem dX5_nextWord_91 : decode cX5_nextWord 91 = .ok (.return_, 1) := by decide +kernel
theorem dX5_isDigit_0 : decode cX5_isDigit 0 = .ok (.iload_n 0, 1) := by decide +kernel
theorem dX5_isDigit_1 : decode cX5_isDigit 1 = .ok (.bipush 48, 2) := by decide +kernel
theorem dX5_isDigit_3 : decode cX5_isDigit 3 = .ok (.if_icmp .lt 13, 3) := by decide +kernel
theorem dX5_isDigit_6 : decode cX5_isDigit 6 = .ok (.iload_n 0, 1) := by decide +kernel
theorem dX5_isDigit_7 : decode cX5_isDigit 7 = .ok (.bipush 57, 2) := by decide +kernel
theorem dX5_isDigit_9 : decode cX5_isDigit 9 = .ok (.if_icmp .gt 7, 3) := by decide +kernel
theorem dX5_isDigit_12 : decode cX5_isDigit 12 = .ok (.iconst 1, 1) := by decide +kernel
theorem dX5_isDigit_13 : decode cX5_isDigit 13 = .ok (.goto 4, 3) := by decide +kernel
theorem dX5_isDigit_16 : decode cX5_isDigit 16 = .ok (.iconst 0, 1) := by decide +kernel
theorem dX5_isDigit_17 : decode cX5_isDigit 17 = .ok (.ireturn, 1) := by decide +kernel
theorem dX5_nextWhole_0 : decode cX5_nextWhole 0 = .ok (.aload_n 0, 1) := by decide +kernel
theorem dX5_nextWhole_1 : decode cX5_nextWhole 1 = .ok (.iconst 0, 1) := by decide +kernel
theorem dX5_nextWhole_2 : decode cX5_nextWhole 2 = .ok (.putfield 191, 3) := by decide +kernel
theorem dX5_nextWhole_5 : decode cX5_nextWhole 5 = .ok (.aload_n 0, 1) := by decide +kernel
theorem dX5_nextWhole_6 : decode cX5_nextWhole 6 = .ok (.aload_n 0, 1) := by decide +kernel
theorem dX5_nextWhole_7 : decode cX5_nextWhole 7 = .ok (.getfield 282, 3) := by decide +kernel
theorem dX5_nextWhole_10 : decode cX5_nextWhole 10 = .ok (.putfield 51, 3) := by decide +kernel
theorem dX5_nextWhole_13 : decode cX5_nextWhole 13 = .ok (.aload_n 0, 1) := by decide +kernel
theorem dX5_nextWhole_14 : decode cX5_nextWhole 14 = .ok (.getfield 282, 3) := by decide +kernel
theorem dX5_nextWhole_17 : decode cX5_nextWhole 17 = .ok (.istore_n 1, 1) := by decide +kernel
theorem dX5_nextWhole_18 : decode cX5_nextWhole 18 = .ok (.iload_n 1, 1) := by decide +kernel
theorem dX5_nextWhole_19 : decode cX5_nextWhole 19 = .ok (.aload_n 0, 1) := by decide +kernel
theorem dX5_nextWhole_20 : decode cX5_nextWhole 20 = .ok (.getfield 32, 3) := by decide +kernel
theorem dX5_nextWhole_23 : decode cX5_nextWhole 23 = .ok (.if_icmp .ge 47, 3) := by decide +kernel
theorem dX5_nextWhole_26 : decode cX5_nextWhole 26 = .ok (.aload_n 0, 1) := by decide +kernel
theorem dX5_nextWhole_27 : decode cX5_nextWhole 27 = .ok (.iload_n 1, 1) := by decide +kernel
theorem dX5_nextWhole_28 : decode cX5_nextWhole 28 = .ok (.invokevirtual 285, 3) := by decide +kernel
theorem dX5_nextWhole_31 : decode cX5_nextWhole 31 = .ok (.invokestatic 295, 3) := by decide +kernel
theorem dX5_nextWhole_34 : decode cX5_nextWhole 34 = .ok (.ifCond .eq 36, 3) := by decide +kernel
theorem dX5_nextWhole_37 : decode cX5_nextWhole 37 = .ok (.aload_n 0, 1) := by decide +kernel
theorem dX5_nextWhole_38 : decode cX5_nextWhole 38 = .ok (.aload_n 0, 1) := by decide +kernel
theorem dX5_nextWhole_39 : decode cX5_nextWhole 39 = .ok (.getfield 191, 3) := by decide +kernel
theorem dX5_nextWhole_42 : decode cX5_nextWhole 42 = .ok (.bipush 10, 2) := by decide +kernel
theorem dX5_nextWhole_44 : decode cX5_nextWhole 44 = .ok (.imul, 1) := by decide +kernel
theorem dX5_nextWhole_45 : decode cX5_nextWhole 45 = .ok (.aload_n 0, 1) := by decide +kernel
theorem dX5_nextWhole_46 : decode cX5_nextWhole 46 = .ok (.iload_n 1, 1) := by decide +kernel
theorem dX5_nextWhole_47 : decode cX5_nextWhole 47 = .ok (.invokevirtual 285, 3) := by decide +kernel
theorem dX5_nextWhole_50 : decode cX5_nextWhole 50 = .ok (.iadd, 1) := by decide +kernel
theorem dX5_nextWhole_51 : decode cX5_nextWhole 51 = .ok (.bipush 48, 2) := by decide +kernel
theorem dX5_nextWhole_53 : decode cX5_nextWhole 53 = .ok (.isub, 1) := by decide +kernel
theorem dX5_nextWhole_54 : decode cX5_nextWhole 54 = .ok (.putfield 191, 3) := by decide +kernel
theorem dX5_nextWhole_57 : decode cX5_nextWhole 57 = .ok (.aload_n 0, 1) := by decide +kernel
theorem dX5_nextWhole_58 : decode cX5_nextWhole 58 = .ok (.iload_n 1, 1) := by decide +kernel
theorem dX5_nextWhole_59 : decode cX5_nextWhole 59 = .ok (.iconst 1, 1) := by decide +kernel
theorem dX5_nextWhole_60 : decode cX5_nextWhole 60 = .ok (.iadd, 1) := by decide +kernel
theorem dX5_nextWhole_61 : decode cX5_nextWhole 61 = .ok (.putfield 51, 3) := by decide +kernel
theorem dX5_nextWhole_64 : decode cX5_nextWhole 64 = .ok (.iinc 1 1, 3) := by decide +kernel
theorem dX5_nextWhole_67 : decode cX5_nextWhole 67 = .ok (.goto (-49), 3) := by decide +kernel
theorem dX5_nextWhole_70 : decode cX5_nextWhole 70 = .ok (.aload_n 0, 1) := by decide +kernel
theorem dX5_nextWhole_71 : decode cX5_nextWhole 71 = .ok (.aload_n 0, 1) := by decide +kernel
theorem dX5_nextWhole_72 : decode cX5_nextWhole 72 = .ok (.getfield 51, 3) := by decide +kernel
theorem dX5_nextWhole_75 : decode cX5_nextWhole 75 = .ok (.aload_n 0, 1) := by decide +kernel
theorem dX5_nextWhole_76 : decode cX5_nextWhole 76 = .ok (.getfield 282, 3) := by decide +kernel
theorem dX5_nextWhole_79 : decode cX5_nextWhole 79 = .ok (.isub, 1) := by decide +kernel
theorem dX5_nextWhole_80 : decode cX5_nextWhole 80 = .ok (.iconst 4, 1) := by decide +kernel
theorem dX5_nextWhole_81 : decode cX5_nextWhole 81 = .ok (.if_icmp .gt 7, 3) := by decide +kernel
theorem dX5_nextWhole_84 : decode cX5_nextWhole 84 = .ok (.iconst 2, 1) := by decide +kernel
theorem dX5_nextWhole_85 : decode cX5_nextWhole 85 = .ok (.goto 4, 3) := by decide +kernel
theorem dX5_nextWhole_88 : decode cX5_nextWhole 88 = .ok (.iconst 0, 1) := by decide +kernel
theorem dX5_nextWhole_89 : decode cX5_nextWhole 89 = .ok (.putfield 61, 3) := by decide +kernel
theorem dX5_nextWhole_92 : decode cX5_nextWhole 92 = .ok (.return_, 1) := by decide +kernel
theorem dX5_next_0 : decode cX5_next 0 = .ok (.aload_n 0, 1) := by decide +kernel
theorem dX5_next_1 : decode cX5_next 1 = .ok (.aload_n 0, 1) := by decide +kernel
theorem dX5_next_2 : decode cX5_next 2 = .ok (.getfield 51, 3) := by decide +kernel
theorem dX5_next_5 : decode cX5_next 5 = .ok (.putfield 282, 3) := by decide +kernel
theorem dX5_next_8 : decode cX5_next 8 = .ok (.aload_n 0, 1) := by decide +kernel
theorem dX5_next_9 : decode cX5_next 9 = .ok (.getfield 282, 3) := by decide +kernel
theorem dX5_next_12 : decode cX5_next 12 = .ok (.istore_n 1, 1) := by decide +kernel
theorem dX5_next_13 : decode cX5_next 13 = .ok (.iload_n 1, 1) := by decide +kernel
theorem dX5_next_14 : decode cX5_next 14 = .ok (.aload_n 0, 1) := by decide +kernel
theorem dX5_next_15 : decode cX5_next 15 = .ok (.getfield 32, 3) := by decide +kernel
theorem dX5_next_18 : decode cX5_next 18 = .ok (.if_icmp .ge 26, 3) := by decide +kernel
theorem dX5_next_21 : decode cX5_next 21 = .ok (.aload_n 0, 1) := by decide +kernel
theorem dX5_next_22 : decode cX5_next 22 = .ok (.iload_n 1, 1) := by decide +kernel
theorem dX5_next_23 : decode cX5_next 23 = .ok (.invokevirtual 285, 3) := by decide +kernel
theorem dX5_next_26 : decode cX5_next 26 = .ok (.bipush 32, 2) := by decide +kernel
theorem dX5_next_28 : decode cX5_next 28 = .ok (.if_icmp .ne 16, 3) := by decide +kernel
theorem dX5_next_31 : decode cX5_next 31 = .ok (.aload_n 0, 1) := by decide +kernel
theorem dX5_next_32 : decode cX5_next 32 = .ok (.iload_n 1, 1) := by decide +kernel
theorem dX5_next_33 : decode cX5_next 33 = .ok (.iconst 1, 1) := by decide +kernel
theorem dX5_next_34 : decode cX5_next 34 = .ok (.iadd, 1) := by decide +kernel
theorem dX5_next_35 : decode cX5_next 35 = .ok (.putfield 282, 3) := by decide +kernel
theorem dX5_next_38 : decode cX5_next 38 = .ok (.iinc 1 1, 3) := by decide +kernel
theorem dX5_next_41 : decode cX5_next 41 = .ok (.goto (-28), 3) := by decide +kernel
theorem dX5_next_44 : decode cX5_next 44 = .ok (.aload_n 0, 1) := by decide +kernel
theorem dX5_next_45 : decode cX5_next 45 = .ok (.aload_n 0, 1) := by decide +kernel
theorem dX5_next_46 : decode cX5_next 46 = .ok (.getfield 282, 3) := by decide +kernel
theorem dX5_next_49 : decode cX5_next 49 = .ok (.invokevirtual 285, 3) := by decide +kernel
theorem dX5_next_52 : decode cX5_next 52 = .ok (.istore_n 1, 1) := by decide +kernel
theorem dX5_next_53 : decode cX5_next 53 = .ok (.aload_n 0, 1) := by decide +kernel
theorem dX5_next_54 : decode cX5_next 54 = .ok (.aload_n 0, 1) := by decide +kernel
theorem dX5_next_55 : decode cX5_next 55 = .ok (.getfield 282, 3) := by decide +kernel
theorem dX5_next_58 : decode cX5_next 58 = .ok (.iconst 1, 1) := by decide +kernel
theorem dX5_next_59 : decode cX5_next 59 = .ok (.iadd, 1) := by decide +kernel
theorem dX5_next_60 : decode cX5_next 60 = .ok (.putfield 51, 3) := by decide +kernel
theorem dX5_next_63 : decode cX5_next 63 = .ok (.iload_n 1, 1) := by decide +kernel
theorem dX5_next_64 : decode cX5_next 64 = .ok (.ifCond .ge 19, 3) := by decide +kernel
theorem dX5_next_67 : decode cX5_next 67 = .ok (.aload_n 0, 1) := by decide +kernel
theorem dX5_next_68 : decode cX5_next 68 = .ok (.iconst 5, 1) := by decide +kernel
theorem dX5_next_69 : decode cX5_next 69 = .ok (.putfield 61, 3) := by decide +kernel
theorem dX5_next_72 : decode cX5_next 72 = .ok (.aload_n 0, 1) := by decide +kernel
theorem dX5_next_73 : decode cX5_next 73 = .ok (.aload_n 0, 1) := by decide +kernel
theorem dX5_next_74 : decode cX5_next 74 = .ok (.getfield 32, 3) := by decide +kernel
theorem dX5_next_77 : decode cX5_next 77 = .ok (.putfield 51, 3) := by decide +kernel
theorem dX5_next_80 : decode cX5_next 80 = .ok (.goto 64, 3) := by decide +kernel
theorem dX5_next_83 : decode cX5_next 83 = .ok (.iload_n 1, 1) := by decide +kernel
theorem dX5_next_84 : decode cX5_next 84 = .ok (.bipush 59, 2) := by decide +kernel
theorem dX5_next_86 : decode cX5_next 86 = .ok (.if_icmp .ne 11, 3) := by decide +kernel
theorem dX5_next_89 : decode cX5_next 89 = .ok (.aload_n 0, 1) := by decide +kernel
theorem dX5_next_90 : decode cX5_next 90 = .ok (.iconst 3, 1) := by decide +kernel
theorem dX5_next_91 : decode cX5_next 91 = .ok (.putfield 61, 3) := by decide +kernel
theorem dX5_next_94 : decode cX5_next 94 = .ok (.goto 50, 3) := by decide +kernel
theorem dX5_next_97 : decode cX5_next 97 = .ok (.iload_n 1, 1) := by decide +kernel
theorem dX5_next_98 : decode cX5_next 98 = .ok (.bipush 44, 2) := by decide +kernel
theorem dX5_next_100 : decode cX5_next 100 = .ok (.if_icmp .ne 11, 3) := by decide +kernel
theorem dX5_next_103 : decode cX5_next 103 = .ok (.aload_n 0, 1) := by decide +kernel
theorem dX5_next_104 : decode cX5_next 104 = .ok (.iconst 4, 1) := by decide +kernel
theorem dX5_next_105 : decode cX5_next 105 = .ok (.putfield 61, 3) := by decide +kernel
theorem dX5_next_108 : decode cX5_next 108 = .ok (.goto 36, 3) := by decide +kernel
theorem dX5_next_111 : decode cX5_next 111 = .ok (.iload_n 1, 1) := by decide +kernel
theorem dX5_next_112 : decode cX5_next 112 = .ok (.invokestatic 289, 3) := by decide +kernel
theorem dX5_next_115 : decode cX5_next 115 = .ok (.ifCond .eq 10, 3) := by decide +kernel
theorem dX5_next_118 : decode cX5_next 118 = .ok (.aload_n 0, 1) := by decide +kernel
theorem dX5_next_119 : decode cX5_next 119 = .ok (.invokevirtual 292, 3) := by decide +kernel
theorem dX5_next_122 : decode cX5_next 122 = .ok (.goto 22, 3) := by decide +kernel
theorem dX5_next_125 : decode cX5_next 125 = .ok (.iload_n 1, 1) := by decide +kernel
theorem dX5_next_126 : decode cX5_next 126 = .ok (.invokestatic 295, 3) := by decide +kernel
theorem dX5_next_129 : decode cX5_next 129 = .ok (.ifCond .eq 10, 3) := by decide +kernel
theorem dX5_next_132 : decode cX5_next 132 = .ok (.aload_n 0, 1) := by decide +kernel
theorem dX5_next_133 : decode cX5_next 133 = .ok (.invokevirtual 298, 3) := by decide +kernel
theorem dX5_next_136 : decode cX5_next 136 = .ok (.goto 8, 3) := by decide +kernel
theorem dX5_next_139 : decode cX5_next 139 = .ok (.aload_n 0, 1) := by decide +kernel
theorem dX5_next_140 : decode cX5_next 140 = .ok (.iconst 0, 1) := by decide +kernel
theorem dX5_next_141 : decode cX5_next 141 = .ok (.putfield 61, 3) := by decide +kernel
theorem dX5_next_144 : decode cX5_next 144 = .ok (.return_, 1) := by decide +kernel
theorem dX5_spells_0 : decode cX5_spells 0 = .ok (.aload_n 0, 1) := by decide +kernel
theorem dX5_spells_1 : decode cX5_spells 1 = .ok (.getfield 61, 3) := by decide +kernel
theorem dX5_spells_4 : decode cX5_spells 4 = .ok (.iconst 1, 1) := by decide +kernel
theorem dX5_spells_5 : decode cX5_spells 5 = .ok (.if_icmp .eq 5, 3) := by decide +kernel
theorem dX5_spells_8 : decode cX5_spells 8 = .ok (.iconst 0, 1) := by decide +kernel
theorem dX5_spells_9 : decode cX5_spells 9 = .ok (.ireturn, 1) := by decide +kernel
theorem dX5_spells_10 : decode cX5_spells 10 = .ok (.lconst 0, 1) := by decide +kernel
theorem dX5_spells_11 : decode cX5_spells 11 = .ok (.lstore_n 2, 1) := by decide +kernel
theorem dX5_spells_12 : decode cX5_spells 12 = .ok (.iconst 0, 1) := by decide +kernel
theorem dX5_spells_13 : decode cX5_spells 13 = .ok (.istore 4, 2) := by decide +kernel
theorem dX5_spells_15 : decode cX5_spells 15 = .ok (.iload 4, 2) := by decide +kernel
theorem dX5_spells_17 : decode cX5_spells 17 = .ok (.aload_n 1, 1) := by decide +kernel
theorem dX5_spells_18 : decode cX5_spells 18 = .ok (.invokevirtual 273, 3) := by decide +kernel
theorem dX5_spells_21 : decode cX5_spells 21 = .ok (.if_icmp .ge 22, 3) := by decide +kernel
theorem dX5_spells_24 : decode cX5_spells 24 = .ok (.lload_n 2, 1) := by decide +kernel
theorem dX5_spells_25 : decode cX5_spells 25 = .ok (.bipush 8, 2) := by decide +kernel
theorem dX5_spells_27 : decode cX5_spells 27 = .ok (.lshl, 1) := by decide +kernel
theorem dX5_spells_28 : decode cX5_spells 28 = .ok (.aload_n 1, 1) := by decide +kernel
theorem dX5_spells_29 : decode cX5_spells 29 = .ok (.iload 4, 2) := by decide +kernel
theorem dX5_spells_31 : decode cX5_spells 31 = .ok (.invokevirtual 278, 3) := by decide +kernel
theorem dX5_spells_34 : decode cX5_spells 34 = .ok (.i2l, 1) := by decide +kernel
theorem dX5_spells_35 : decode cX5_spells 35 = .ok (.lor, 1) := by decide +kernel
theorem dX5_spells_36 : decode cX5_spells 36 = .ok (.lstore_n 2, 1) := by decide +kernel
theorem dX5_spells_37 : decode cX5_spells 37 = .ok (.iinc 4 1, 3) := by decide +kernel
theorem dX5_spells_40 : decode cX5_spells 40 = .ok (.goto (-25), 3) := by decide +kernel
theorem dX5_spells_43 : decode cX5_spells 43 = .ok (.lload_n 2, 1) := by decide +kernel
theorem dX5_spells_44 : decode cX5_spells 44 = .ok (.aload_n 0, 1) := by decide +kernel
theorem dX5_spells_45 : decode cX5_spells 45 = .ok (.getfield 269, 3) := by decide +kernel
theorem dX5_spells_48 : decode cX5_spells 48 = .ok (.lcmp, 1) := by decide +kernel
theorem dX5_spells_49 : decode cX5_spells 49 = .ok (.ifCond .ne 7, 3) := by decide +kernel
theorem dX5_spells_52 : decode cX5_spells 52 = .ok (.iconst 1, 1) := by decide +kernel
theorem dX5_spells_53 : decode cX5_spells 53 = .ok (.goto 4, 3) := by decide +kernel
theorem dX5_spells_56 : decode cX5_spells 56 = .ok (.iconst 0, 1) := by decide +kernel
theorem dX5_spells_57 : decode cX5_spells 57 = .ok (.ireturn, 1) := by decide +kernel
theorem dX5_isLineWord_0 : decode cX5_isLineWord 0 = .ok (.aload_n 0, 1) := by decide +kernel
theorem dX5_isLineWord_1 : decode cX5_isLineWord 1 = .ok (.ldc 83, 2) := by decide +kernel
theorem dX5_isLineWord_3 : decode cX5_isLineWord 3 = .ok (.invokevirtual 84, 3) := by decide +kernel
theorem dX5_isLineWord_6 : decode cX5_isLineWord 6 = .ok (.ifCond .ne 102, 3) := by decide +kernel
theorem dX5_isLineWord_9 : decode cX5_isLineWord 9 = .ok (.aload_n 0, 1) := by decide +kernel
theorem dX5_isLineWord_10 : decode cX5_isLineWord 10 = .ok (.ldc 94, 2) := by decide +kernel
theorem dX5_isLineWord_12 : decode cX5_isLineWord 12 = .ok (.invokevirtual 84, 3) := by decide +kernel
theorem dX5_isLineWord_15 : decode cX5_isLineWord 15 = .ok (.ifCond .ne 93, 3) := by decide +kernel
theorem dX5_isLineWord_18 : decode cX5_isLineWord 18 = .ok (.aload_n 0, 1) := by decide +kernel
theorem dX5_isLineWord_19 : decode cX5_isLineWord 19 = .ok (.ldc 99, 2) := by decide +kernel
theorem dX5_isLineWord_21 : decode cX5_isLineWord 21 = .ok (.invokevirtual 84, 3) := by decide +kernel
theorem dX5_isLineWord_24 : decode cX5_isLineWord 24 = .ok (.ifCond .ne 84, 3) := by decide +kernel
theorem dX5_isLineWord_27 : decode cX5_isLineWord 27 = .ok (.aload_n 0, 1) := by decide +kernel
theorem dX5_isLineWord_28 : decode cX5_isLineWord 28 = .ok (.ldc 108, 2) := by decide +kernel
theorem dX5_isLineWord_30 : decode cX5_isLineWord 30 = .ok (.invokevirtual 84, 3) := by decide +kernel
theorem dX5_isLineWord_33 : decode cX5_isLineWord 33 = .ok (.ifCond .ne 75, 3) := by decide +kernel
theorem dX5_isLineWord_36 : decode cX5_isLineWord 36 = .ok (.aload_n 0, 1) := by decide +kernel
theorem dX5_isLineWord_37 : decode cX5_isLineWord 37 = .ok (.ldc 119, 2) := by decide +kernel
theorem dX5_isLineWord_39 : decode cX5_isLineWord 39 = .ok (.invokevirtual 84, 3) := by decide +kernel
theorem dX5_isLineWord_42 : decode cX5_isLineWord 42 = .ok (.ifCond .ne 66, 3) := by decide +kernel
theorem dX5_isLineWord_45 : decode cX5_isLineWord 45 = .ok (.aload_n 0, 1) := by decide +kernel
theorem dX5_isLineWord_46 : decode cX5_isLineWord 46 = .ok (.ldc 124, 2) := by decide +kernel
theorem dX5_isLineWord_48 : decode cX5_isLineWord 48 = .ok (.invokevirtual 84, 3) := by decide +kernel
theorem dX5_isLineWord_51 : decode cX5_isLineWord 51 = .ok (.ifCond .ne 57, 3) := by decide +kernel
theorem dX5_isLineWord_54 : decode cX5_isLineWord 54 = .ok (.aload_n 0, 1) := by decide +kernel
theorem dX5_isLineWord_55 : decode cX5_isLineWord 55 = .ok (.ldc 132, 2) := by decide +kernel
theorem dX5_isLineWord_57 : decode cX5_isLineWord 57 = .ok (.invokevirtual 84, 3) := by decide +kernel
theorem dX5_isLineWord_60 : decode cX5_isLineWord 60 = .ok (.ifCond .ne 48, 3) := by decide +kernel
theorem dX5_isLineWord_63 : decode cX5_isLineWord 63 = .ok (.aload_n 0, 1) := by decide +kernel
theorem dX5_isLineWord_64 : decode cX5_isLineWord 64 = .ok (.ldc 140, 2) := by decide +kernel
theorem dX5_isLineWord_66 : decode cX5_isLineWord 66 = .ok (.invokevirtual 84, 3) := by decide +kernel
theorem dX5_isLineWord_69 : decode cX5_isLineWord 69 = .ok (.ifCond .ne 39, 3) := by decide +kernel
theorem dX5_isLineWord_72 : decode cX5_isLineWord 72 = .ok (.aload_n 0, 1) := by decide +kernel
theorem dX5_isLineWord_73 : decode cX5_isLineWord 73 = .ok (.ldc 145, 2) := by decide +kernel
theorem dX5_isLineWord_75 : decode cX5_isLineWord 75 = .ok (.invokevirtual 84, 3) := by decide +kernel
theorem dX5_isLineWord_78 : decode cX5_isLineWord 78 = .ok (.ifCond .ne 30, 3) := by decide +kernel
theorem dX5_isLineWord_81 : decode cX5_isLineWord 81 = .ok (.aload_n 0, 1) := by decide +kernel
theorem dX5_isLineWord_82 : decode cX5_isLineWord 82 = .ok (.ldc 150, 2) := by decide +kernel
theorem dX5_isLineWord_84 : decode cX5_isLineWord 84 = .ok (.invokevirtual 84, 3) := by decide +kernel
theorem dX5_isLineWord_87 : decode cX5_isLineWord 87 = .ok (.ifCond .ne 21, 3) := by decide +kernel
theorem dX5_isLineWord_90 : decode cX5_isLineWord 90 = .ok (.aload_n 0, 1) := by decide +kernel
theorem dX5_isLineWord_91 : decode cX5_isLineWord 91 = .ok (.ldc 158, 2) := by decide +kernel
theorem dX5_isLineWord_93 : decode cX5_isLineWord 93 = .ok (.invokevirtual 84, 3) := by decide +kernel
theorem dX5_isLineWord_96 : decode cX5_isLineWord 96 = .ok (.ifCond .ne 12, 3) := by decide +kernel
theorem dX5_isLineWord_99 : decode cX5_isLineWord 99 = .ok (.aload_n 0, 1) := by decide +kernel
theorem dX5_isLineWord_100 : decode cX5_isLineWord 100 = .ok (.ldc 169, 2) := by decide +kernel
theorem dX5_isLineWord_102 : decode cX5_isLineWord 102 = .ok (.invokevirtual 84, 3) := by decide +kernel
theorem dX5_isLineWord_105 : decode cX5_isLineWord 105 = .ok (.ifCond .eq 7, 3) := by decide +kernel
theorem dX5_isLineWord_108 : decode cX5_isLineWord 108 = .ok (.iconst 1, 1) := by decide +kernel
theorem dX5_isLineWord_109 : decode cX5_isLineWord 109 = .ok (.goto 4, 3) := by decide +kernel
theorem dX5_isLineWord_112 : decode cX5_isLineWord 112 = .ok (.iconst 0, 1) := by decide +kernel
theorem dX5_isLineWord_113 : decode cX5_isLineWord 113 = .ok (.ireturn, 1) := by decide +kernel
theorem dX5_fail_0 : decode cX5_fail 0 = .ok (.aload_n 0, 1) := by decide +kernel
theorem dX5_fail_1 : decode cX5_fail 1 = .ok (.iload_n 1, 1) := by decide +kernel
theorem dX5_fail_2 : decode cX5_fail 2 = .ok (.putfield 48, 3) := by decide +kernel
theorem dX5_fail_5 : decode cX5_fail 5 = .ok (.iconst 0, 1) := by decide +kernel
theorem dX5_fail_6 : decode cX5_fail 6 = .ok (.ireturn, 1) := by decide +kernel
theorem dX5_word_0 : decode cX5_word 0 = .ok (.aload_n 0, 1) := by decide +kernel
theorem dX5_word_1 : decode cX5_word 1 = .ok (.aload_n 1, 1) := by decide +kernel
theorem dX5_word_2 : decode cX5_word 2 = .ok (.invokevirtual 84, 3) := by decide +kernel
theorem dX5_word_5 : decode cX5_word 5 = .ok (.ifCond .ne 9, 3) := by decide +kernel
theorem dX5_word_8 : decode cX5_word 8 = .ok (.aload_n 0, 1) := by decide +kernel
theorem dX5_word_9 : decode cX5_word 9 = .ok (.iconst 1, 1) := by decide +kernel
theorem dX5_word_10 : decode cX5_word 10 = .ok (.invokevirtual 79, 3) := by decide +kernel
theorem dX5_word_13 : decode cX5_word 13 = .ok (.ireturn, 1) := by decide +kernel
theorem dX5_word_14 : decode cX5_word 14 = .ok (.aload_n 0, 1) := by decide +kernel
theorem dX5_word_15 : decode cX5_word 15 = .ok (.invokevirtual 54, 3) := by decide +kernel
theorem dX5_word_18 : decode cX5_word 18 = .ok (.iconst 1, 1) := by decide +kernel
theorem dX5_word_19 : decode cX5_word 19 = .ok (.ireturn, 1) := by decide +kernel
theorem dX5_isWhole_0 : decode cX5_isWhole 0 = .ok (.aload_n 0, 1) := by decide +kernel
theorem dX5_isWhole_1 : decode cX5_isWhole 1 = .ok (.getfield 61, 3) := by decide +kernel
theorem dX5_isWhole_4 : decode cX5_isWhole 4 = .ok (.iconst 2, 1) := by decide +kernel
theorem dX5_isWhole_5 : decode cX5_isWhole 5 = .ok (.if_icmp .eq 9, 3) := by decide +kernel
theorem dX5_isWhole_8 : decode cX5_isWhole 8 = .ok (.aload_n 0, 1) := by decide +kernel
theorem dX5_isWhole_9 : decode cX5_isWhole 9 = .ok (.iconst 1, 1) := by decide +kernel
theorem dX5_isWhole_10 : decode cX5_isWhole 10 = .ok (.invokevirtual 79, 3) := by decide +kernel
theorem dX5_isWhole_13 : decode cX5_isWhole 13 = .ok (.ireturn, 1) := by decide +kernel
theorem dX5_isWhole_14 : decode cX5_isWhole 14 = .ok (.aload_n 0, 1) := by decide +kernel
theorem dX5_isWhole_15 : decode cX5_isWhole 15 = .ok (.getfield 191, 3) := by decide +kernel
theorem dX5_isWhole_18 : decode cX5_isWhole 18 = .ok (.iload_n 1, 1) := by decide +kernel
theorem dX5_isWhole_19 : decode cX5_isWhole 19 = .ok (.if_icmp .lt 11, 3) := by decide +kernel
theorem dX5_isWhole_22 : decode cX5_isWhole 22 = .ok (.aload_n 0, 1) := by decide +kernel
theorem dX5_isWhole_23 : decode cX5_isWhole 23 = .ok (.getfield 191, 3) := by decide +kernel
theorem dX5_isWhole_26 : decode cX5_isWhole 26 = .ok (.iload_n 2, 1) := by decide +kernel
theorem dX5_isWhole_27 : decode cX5_isWhole 27 = .ok (.if_icmp .le 11, 3) := by decide +kernel
theorem dX5_isWhole_30 : decode cX5_isWhole 30 = .ok (.aload_n 0, 1) := by decide +kernel
theorem dX5_isWhole_31 : decode cX5_isWhole 31 = .ok (.iconst 4, 1) := by decide +kernel
theorem dX5_isWhole_32 : decode cX5_isWhole 32 = .ok (.invokevirtual 79, 3) := by decide +kernel
theorem dX5_isWhole_35 : decode cX5_isWhole 35 = .ok (.ifCond .eq 7, 3) := by decide +kernel
theorem dX5_isWhole_38 : decode cX5_isWhole 38 = .ok (.iconst 1, 1) := by decide +kernel
theorem dX5_isWhole_39 : decode cX5_isWhole 39 = .ok (.goto 4, 3) := by decide +kernel
theorem dX5_isWhole_42 : decode cX5_isWhole 42 = .ok (.iconst 0, 1) := by decide +kernel
theorem dX5_isWhole_43 : decode cX5_isWhole 43 = .ok (.ireturn, 1) := by decide +kernel
theorem dX5_readRates_0 : decode cX5_readRates 0 = .ok (.iconst 0, 1) := by decide +kernel
theorem dX5_readRates_1 : decode cX5_readRates 1 = .ok (.istore_n 1, 1) := by decide +kernel
theorem dX5_readRates_2 : decode cX5_readRates 2 = .ok (.iload_n 1, 1) := by decide +kernel
theorem dX5_readRates_3 : decode cX5_readRates 3 = .ok (.iconst 4, 1) := by decide +kernel
theorem dX5_readRates_4 : decode cX5_readRates 4 = .ok (.if_icmp .gt 61, 3) := by decide +kernel
theorem dX5_readRates_7 : decode cX5_readRates 7 = .ok (.aload_n 0, 1) := by decide +kernel
theorem dX5_readRates_8 : decode cX5_readRates 8 = .ok (.iconst 2, 1) := by decide +kernel
theorem dX5_readRates_9 : decode cX5_readRates 9 = .ok (.bipush 12, 2) := by decide +kernel
theorem dX5_readRates_11 : decode cX5_readRates 11 = .ok (.invokevirtual 187, 3) := by decide +kernel
theorem dX5_readRates_14 : decode cX5_readRates 14 = .ok (.ifCond .ne 5, 3) := by decide +kernel
theorem dX5_readRates_17 : decode cX5_readRates 17 = .ok (.iconst 0, 1) := by decide +kernel
theorem dX5_readRates_18 : decode cX5_readRates 18 = .ok (.ireturn, 1) := by decide +kernel
theorem dX5_readRates_19 : decode cX5_readRates 19 = .ok (.iload_n 1, 1) := by decide +kernel
theorem dX5_readRates_20 : decode cX5_readRates 20 = .ok (.iconst 4, 1) := by decide +kernel
theorem dX5_readRates_21 : decode cX5_readRates 21 = .ok (.if_icmp .ne 9, 3) := by decide +kernel
theorem dX5_readRates_24 : decode cX5_readRates 24 = .ok (.aload_n 0, 1) := by decide +kernel
theorem dX5_readRates_25 : decode cX5_readRates 25 = .ok (.iconst 5, 1) := by decide +kernel
theorem dX5_readRates_26 : decode cX5_readRates 26 = .ok (.invokevirtual 79, 3) := by decide +kernel
theorem dX5_readRates_29 : decode cX5_readRates 29 = .ok (.ireturn, 1) := by decide +kernel
theorem dX5_readRates_30 : decode cX5_readRates 30 = .ok (.aload_n 0, 1) := by decide +kernel
theorem dX5_readRates_31 : decode cX5_readRates 31 = .ok (.getfield 36, 3) := by decide +kernel
theorem dX5_readRates_34 : decode cX5_readRates 34 = .ok (.aload_n 0, 1) := by decide +kernel
theorem dX5_readRates_35 : decode cX5_readRates 35 = .ok (.getfield 191, 3) := by decide +kernel
theorem dX5_readRates_38 : decode cX5_readRates 38 = .ok (.invokevirtual 200, 3) := by decide +kernel
theorem dX5_readRates_41 : decode cX5_readRates 41 = .ok (.aload_n 0, 1) := by decide +kernel
theorem dX5_readRates_42 : decode cX5_readRates 42 = .ok (.invokevirtual 54, 3) := by decide +kernel
theorem dX5_readRates_45 : decode cX5_readRates 45 = .ok (.aload_n 0, 1) := by decide +kernel
theorem dX5_readRates_46 : decode cX5_readRates 46 = .ok (.getfield 61, 3) := by decide +kernel
theorem dX5_readRates_49 : decode cX5_readRates 49 = .ok (.iconst 4, 1) := by decide +kernel
theorem dX5_readRates_50 : decode cX5_readRates 50 = .ok (.if_icmp .eq 5, 3) := by decide +kernel
theorem dX5_readRates_53 : decode cX5_readRates 53 = .ok (.iconst 1, 1) := by decide +kernel
theorem dX5_readRates_54 : decode cX5_readRates 54 = .ok (.ireturn, 1) := by decide +kernel
theorem dX5_readRates_55 : decode cX5_readRates 55 = .ok (.aload_n 0, 1) := by decide +kernel
theorem dX5_readRates_56 : decode cX5_readRates 56 = .ok (.invokevirtual 54, 3) := by decide +kernel
theorem dX5_readRates_59 : decode cX5_readRates 59 = .ok (.iinc 1 1, 3) := by decide +kernel
theorem dX5_readRates_62 : decode cX5_readRates 62 = .ok (.goto (-60), 3) := by decide +kernel
theorem dX5_readRates_65 : decode cX5_readRates 65 = .ok (.iconst 1, 1) := by decide +kernel
theorem dX5_readRates_66 : decode cX5_readRates 66 = .ok (.ireturn, 1) := by decide +kernel
theorem dX5_readDream_0 : decode cX5_readDream 0 = .ok (.aload_n 0, 1) := by decide +kernel
theorem dX5_readDream_1 : decode cX5_readDream 1 = .ok (.getfield 36, 3) := by decide +kernel
theorem dX5_readDream_4 : decode cX5_readDream 4 = .ok (.getfield 91, 3) := by decide +kernel
theorem dX5_readDream_7 : decode cX5_readDream 7 = .ok (.ifCond .le 9, 3) := by decide +kernel
theorem dX5_readDream_10 : decode cX5_readDream 10 = .ok (.aload_n 0, 1) := by decide +kernel
theorem dX5_readDream_11 : decode cX5_readDream 11 = .ok (.iconst 3, 1) := by decide +kernel
theorem dX5_readDream_12 : decode cX5_readDream 12 = .ok (.invokevirtual 79, 3) := by decide +kernel
theorem dX5_readDream_15 : decode cX5_readDream 15 = .ok (.ireturn, 1) := by decide +kernel
theorem dX5_readDream_16 : decode cX5_readDream 16 = .ok (.aload_n 0, 1) := by decide +kernel
theorem dX5_readDream_17 : decode cX5_readDream 17 = .ok (.invokevirtual 54, 3) := by decide +kernel
theorem dX5_readDream_20 : decode cX5_readDream 20 = .ok (.aload_n 0, 1) := by decide +kernel
theorem dX5_readDream_21 : decode cX5_readDream 21 = .ok (.ldc 177, 2) := by decide +kernel
theorem dX5_readDream_23 : decode cX5_readDream 23 = .ok (.invokevirtual 179, 3) := by decide +kernel
theorem dX5_readDream_26 : decode cX5_readDream 26 = .ok (.ifCond .eq 29, 3) := by decide +kernel
theorem dX5_readDream_29 : decode cX5_readDream 29 = .ok (.aload_n 0, 1) := by decide +kernel
theorem dX5_readDream_30 : decode cX5_readDream 30 = .ok (.invokevirtual 182, 3) := by decide +kernel
theorem dX5_readDream_33 : decode cX5_readDream 33 = .ok (.ifCond .eq 22, 3) := by decide +kernel
theorem dX5_readDream_36 : decode cX5_readDream 36 = .ok (.aload_n 0, 1) := by decide +kernel
theorem dX5_readDream_37 : decode cX5_readDream 37 = .ok (.ldc 185, 2) := by decide +kernel
theorem dX5_readDream_39 : decode cX5_readDream 39 = .ok (.invokevirtual 179, 3) := by decide +kernel
theorem dX5_readDream_42 : decode cX5_readDream 42 = .ok (.ifCond .eq 13, 3) := by decide +kernel
theorem dX5_readDream_45 : decode cX5_readDream 45 = .ok (.aload_n 0, 1) := by decide +kernel
theorem dX5_readDream_46 : decode cX5_readDream 46 = .ok (.iconst 0, 1) := by decide +kernel
theorem dX5_readDream_47 : decode cX5_readDream 47 = .ok (.bipush 60, 2) := by decide +kernel
theorem dX5_readDream_49 : decode cX5_readDream 49 = .ok (.invokevirtual 187, 3) := by decide +kernel
theorem dX5_readDream_52 : decode cX5_readDream 52 = .ok (.ifCond .ne 5, 3) := by decide +kernel
theorem dX5_readDream_55 : decode cX5_readDream 55 = .ok (.iconst 0, 1) := by decide +kernel
theorem dX5_readDream_56 : decode cX5_readDream 56 = .ok (.ireturn, 1) := by decide +kernel
theorem dX5_readDream_57 : decode cX5_readDream 57 = .ok (.aload_n 0, 1) := by decide +kernel
theorem dX5_readDream_58 : decode cX5_readDream 58 = .ok (.getfield 36, 3) := by decide +kernel
theorem dX5_readDream_61 : decode cX5_readDream 61 = .ok (.aload_n 0, 1) := by decide +kernel
theorem dX5_readDream_62 : decode cX5_readDream 62 = .ok (.getfield 191, 3) := by decide +kernel
theorem dX5_readDream_65 : decode cX5_readDream 65 = .ok (.putfield 194, 3) := by decide +kernel
theorem dX5_readDream_68 : decode cX5_readDream 68 = .ok (.aload_n 0, 1) := by decide +kernel
theorem dX5_readDream_69 : decode cX5_readDream 69 = .ok (.invokevirtual 54, 3) := by decide +kernel
theorem dX5_readDream_72 : decode cX5_readDream 72 = .ok (.aload_n 0, 1) := by decide +kernel
theorem dX5_readDream_73 : decode cX5_readDream 73 = .ok (.ldc 196, 2) := by decide +kernel
theorem dX5_readDream_75 : decode cX5_readDream 75 = .ok (.invokevirtual 179, 3) := by decide +kernel
theorem dX5_readDream_78 : decode cX5_readDream 78 = .ok (.ifCond .eq 14, 3) := by decide +kernel
theorem dX5_readDream_81 : decode cX5_readDream 81 = .ok (.aload_n 0, 1) := by decide +kernel
theorem dX5_readDream_82 : decode cX5_readDream 82 = .ok (.iconst 1, 1) := by decide +kernel
theorem dX5_readDream_83 : decode cX5_readDream 83 = .ok (.sipush 600, 3) := by decide +kernel
theorem dX5_readDream_86 : decode cX5_readDream 86 = .ok (.invokevirtual 187, 3) := by decide +kernel
theorem dX5_readDream_89 : decode cX5_readDream 89 = .ok (.ifCond .ne 5, 3) := by decide +kernel
theorem dX5_readDream_92 : decode cX5_readDream 92 = .ok (.iconst 0, 1) := by decide +kernel
theorem dX5_readDream_93 : decode cX5_readDream 93 = .ok (.ireturn, 1) := by decide +kernel
theorem dX5_readDream_94 : decode cX5_readDream 94 = .ok (.aload_n 0, 1) := by decide +kernel
theorem dX5_readDream_95 : decode cX5_readDream 95 = .ok (.getfield 36, 3) := by decide +kernel
theorem dX5_readDream_98 : decode cX5_readDream 98 = .ok (.aload_n 0, 1) := by decide +kernel
theorem dX5_readDream_99 : decode cX5_readDream 99 = .ok (.getfield 191, 3) := by decide +kernel
theorem dX5_readDream_102 : decode cX5_readDream 102 = .ok (.putfield 198, 3) := by decide +kernel
theorem dX5_readDream_105 : decode cX5_readDream 105 = .ok (.aload_n 0, 1) := by decide +kernel
theorem dX5_readDream_106 : decode cX5_readDream 106 = .ok (.invokevirtual 54, 3) := by decide +kernel
theorem dX5_readDream_109 : decode cX5_readDream 109 = .ok (.iconst 1, 1) := by decide +kernel
theorem dX5_readDream_110 : decode cX5_readDream 110 = .ok (.ireturn, 1) := by decide +kernel
theorem dX5_nameIndex_0 : decode cX5_nameIndex 0 = .ok (.iconst 0, 1) := by decide +kernel
theorem dX5_nameIndex_1 : decode cX5_nameIndex 1 = .ok (.istore_n 1, 1) := by decide +kernel
theorem dX5_nameIndex_2 : decode cX5_nameIndex 2 = .ok (.iload_n 1, 1) := by decide +kernel
theorem dX5_nameIndex_3 : decode cX5_nameIndex 3 = .ok (.aload_n 0, 1) := by decide +kernel
theorem dX5_nameIndex_4 : decode cX5_nameIndex 4 = .ok (.getfield 45, 3) := by decide +kernel
theorem dX5_nameIndex_7 : decode cX5_nameIndex 7 = .ok (.if_icmp .ge 31, 3) := by decide +kernel
theorem dX5_nameIndex_10 : decode cX5_nameIndex 10 = .ok (.iload_n 1, 1) := by decide +kernel
theorem dX5_nameIndex_11 : decode cX5_nameIndex 11 = .ok (.bipush 14, 2) := by decide +kernel
theorem dX5_nameIndex_13 : decode cX5_nameIndex 13 = .ok (.if_icmp .ge 25, 3) := by decide +kernel
theorem dX5_nameIndex_16 : decode cX5_nameIndex 16 = .ok (.aload_n 0, 1) := by decide +kernel
theorem dX5_nameIndex_17 : decode cX5_nameIndex 17 = .ok (.getfield 11, 3) := by decide +kernel
theorem dX5_nameIndex_20 : decode cX5_nameIndex 20 = .ok (.iload_n 1, 1) := by decide +kernel
theorem dX5_nameIndex_21 : decode cX5_nameIndex 21 = .ok (.laload, 1) := by decide +kernel
theorem dX5_nameIndex_22 : decode cX5_nameIndex 22 = .ok (.aload_n 0, 1) := by decide +kernel
theorem dX5_nameIndex_23 : decode cX5_nameIndex 23 = .ok (.getfield 269, 3) := by decide +kernel
theorem dX5_nameIndex_26 : decode cX5_nameIndex 26 = .ok (.lcmp, 1) := by decide +kernel
theorem dX5_nameIndex_27 : decode cX5_nameIndex 27 = .ok (.ifCond .ne 5, 3) := by decide +kernel
theorem dX5_nameIndex_30 : decode cX5_nameIndex 30 = .ok (.iload_n 1, 1) := by decide +kernel
theorem dX5_nameIndex_31 : decode cX5_nameIndex 31 = .ok (.ireturn, 1) := by decide +kernel
theorem dX5_nameIndex_32 : decode cX5_nameIndex 32 = .ok (.iinc 1 1, 3) := by decide +kernel
theorem dX5_nameIndex_35 : decode cX5_nameIndex 35 = .ok (.goto (-33), 3) := by decide +kernel
theorem dX5_nameIndex_38 : decode cX5_nameIndex 38 = .ok (.iconst (-1), 1) := by decide +kernel
theorem dX5_nameIndex_39 : decode cX5_nameIndex 39 = .ok (.ireturn, 1) := by decide +kernel
theorem dX5_newName_0 : decode cX5_newName 0 = .ok (.aload_n 0, 1) := by decide +kernel
theorem dX5_newName_1 : decode cX5_newName 1 = .ok (.getfield 61, 3) := by decide +kernel
theorem dX5_newName_4 : decode cX5_newName 4 = .ok (.iconst 1, 1) := by decide +kernel
theorem dX5_newName_5 : decode cX5_newName 5 = .ok (.if_icmp .ne 10, 3) := by decide +kernel
theorem dX5_newName_8 : decode cX5_newName 8 = .ok (.aload_n 0, 1) := by decide +kernel
theorem dX5_newName_9 : decode cX5_newName 9 = .ok (.invokevirtual 76, 3) := by decide +kernel
theorem dX5_newName_12 : decode cX5_newName 12 = .ok (.ifCond .eq 9, 3) := by decide +kernel
theorem dX5_newName_15 : decode cX5_newName 15 = .ok (.aload_n 0, 1) := by decide +kernel
theorem dX5_newName_16 : decode cX5_newName 16 = .ok (.iconst 1, 1) := by decide +kernel
theorem dX5_newName_17 : decode cX5_newName 17 = .ok (.invokevirtual 79, 3) := by decide +kernel
theorem dX5_newName_20 : decode cX5_newName 20 = .ok (.ireturn, 1) := by decide +kernel
theorem dX5_newName_21 : decode cX5_newName 21 = .ok (.aload_n 0, 1) := by decide +kernel
theorem dX5_newName_22 : decode cX5_newName 22 = .ok (.invokevirtual 265, 3) := by decide +kernel
theorem dX5_newName_25 : decode cX5_newName 25 = .ok (.ifCond .lt 9, 3) := by decide +kernel
theorem dX5_newName_28 : decode cX5_newName 28 = .ok (.aload_n 0, 1) := by decide +kernel
theorem dX5_newName_29 : decode cX5_newName 29 = .ok (.iconst 3, 1) := by decide +kernel
theorem dX5_newName_30 : decode cX5_newName 30 = .ok (.invokevirtual 79, 3) := by decide +kernel
theorem dX5_newName_33 : decode cX5_newName 33 = .ok (.ireturn, 1) := by decide +kernel
theorem dX5_newName_34 : decode cX5_newName 34 = .ok (.aload_n 0, 1) := by decide +kernel
theorem dX5_newName_35 : decode cX5_newName 35 = .ok (.getfield 45, 3) := by decide +kernel
theorem dX5_newName_38 : decode cX5_newName 38 = .ok (.bipush 14, 2) := by decide +kernel
theorem dX5_newName_40 : decode cX5_newName 40 = .ok (.if_icmp .ge 46, 3) := by decide +kernel
theorem dX5_newName_43 : decode cX5_newName 43 = .ok (.aload_n 0, 1) := by decide +kernel
theorem dX5_newName_44 : decode cX5_newName 44 = .ok (.getfield 11, 3) := by decide +kernel
theorem dX5_newName_47 : decode cX5_newName 47 = .ok (.aload_n 0, 1) := by decide +kernel
theorem dX5_newName_48 : decode cX5_newName 48 = .ok (.getfield 45, 3) := by decide +kernel
theorem dX5_newName_51 : decode cX5_newName 51 = .ok (.aload_n 0, 1) := by decide +kernel
theorem dX5_newName_52 : decode cX5_newName 52 = .ok (.getfield 269, 3) := by decide +kernel
theorem dX5_newName_55 : decode cX5_newName 55 = .ok (.lastore, 1) := by decide +kernel
theorem dX5_newName_56 : decode cX5_newName 56 = .ok (.aload_n 0, 1) := by decide +kernel
theorem dX5_newName_57 : decode cX5_newName 57 = .ok (.getfield 15, 3) := by decide +kernel
theorem dX5_newName_60 : decode cX5_newName 60 = .ok (.aload_n 0, 1) := by decide +kernel
theorem dX5_newName_61 : decode cX5_newName 61 = .ok (.getfield 45, 3) := by decide +kernel
theorem dX5_newName_64 : decode cX5_newName 64 = .ok (.iload_n 1, 1) := by decide +kernel
theorem dX5_newName_65 : decode cX5_newName 65 = .ok (.iastore, 1) := by decide +kernel
theorem dX5_newName_66 : decode cX5_newName 66 = .ok (.aload_n 0, 1) := by decide +kernel
theorem dX5_newName_67 : decode cX5_newName 67 = .ok (.getfield 19, 3) := by decide +kernel
theorem dX5_newName_70 : decode cX5_newName 70 = .ok (.aload_n 0, 1) := by decide +kernel
theorem dX5_newName_71 : decode cX5_newName 71 = .ok (.getfield 45, 3) := by decide +kernel
theorem dX5_newName_74 : decode cX5_newName 74 = .ok (.iload_n 2, 1) := by decide +kernel
theorem dX5_newName_75 : decode cX5_newName 75 = .ok (.iastore, 1) := by decide +kernel
theorem dX5_newName_76 : decode cX5_newName 76 = .ok (.aload_n 0, 1) := by decide +kernel
theorem dX5_newName_77 : decode cX5_newName 77 = .ok (.dup, 1) := by decide +kernel
theorem dX5_newName_78 : decode cX5_newName 78 = .ok (.getfield 45, 3) := by decide +kernel
theorem dX5_newName_81 : decode cX5_newName 81 = .ok (.iconst 1, 1) := by decide +kernel
theorem dX5_newName_82 : decode cX5_newName 82 = .ok (.iadd, 1) := by decide +kernel
theorem dX5_newName_83 : decode cX5_newName 83 = .ok (.putfield 45, 3) := by decide +kernel
theorem dX5_newName_86 : decode cX5_newName 86 = .ok (.aload_n 0, 1) := by decide +kernel
theorem dX5_newName_87 : decode cX5_newName 87 = .ok (.invokevirtual 54, 3) := by decide +kernel
theorem dX5_newName_90 : decode cX5_newName 90 = .ok (.iconst 1, 1) := by decide +kernel
theorem dX5_newName_91 : decode cX5_newName 91 = .ok (.ireturn, 1) := by decide +kernel
theorem dX5_readHead_0 : decode cX5_readHead 0 = .ok (.aload_n 0, 1) := by decide +kernel
theorem dX5_readHead_1 : decode cX5_readHead 1 = .ok (.getfield 36, 3) := by decide +kernel
theorem dX5_readHead_4 : decode cX5_readHead 4 = .ok (.getfield 64, 3) := by decide +kernel
theorem dX5_readHead_7 : decode cX5_readHead 7 = .ok (.iconst 3, 1) := by decide +kernel
theorem dX5_readHead_8 : decode cX5_readHead 8 = .ok (.if_icmp .lt 9, 3) := by decide +kernel
theorem dX5_readHead_11 : decode cX5_readHead 11 = .ok (.aload_n 0, 1) := by decide +kernel
theorem dX5_readHead_12 : decode cX5_readHead 12 = .ok (.iconst 5, 1) := by decide +kernel
theorem dX5_readHead_13 : decode cX5_readHead 13 = .ok (.invokevirtual 79, 3) := by decide +kernel
theorem dX5_readHead_16 : decode cX5_readHead 16 = .ok (.ireturn, 1) := by decide +kernel
theorem dX5_readHead_17 : decode cX5_readHead 17 = .ok (.aload_n 0, 1) := by decide +kernel
theorem dX5_readHead_18 : decode cX5_readHead 18 = .ok (.invokevirtual 54, 3) := by decide +kernel
theorem dX5_readHead_21 : decode cX5_readHead 21 = .ok (.aload_n 0, 1) := by decide +kernel
theorem dX5_readHead_22 : decode cX5_readHead 22 = .ok (.getfield 36, 3) := by decide +kernel
theorem dX5_readHead_25 : decode cX5_readHead 25 = .ok (.dup, 1) := by decide +kernel
theorem dX5_readHead_26 : decode cX5_readHead 26 = .ok (.getfield 64, 3) := by decide +kernel
theorem dX5_readHead_29 : decode cX5_readHead 29 = .ok (.iconst 1, 1) := by decide +kernel
theorem dX5_readHead_30 : decode cX5_readHead 30 = .ok (.iadd, 1) := by decide +kernel
theorem dX5_readHead_31 : decode cX5_readHead 31 = .ok (.putfield 64, 3) := by decide +kernel
theorem dX5_readHead_34 : decode cX5_readHead 34 = .ok (.aload_n 0, 1) := by decide +kernel
theorem dX5_readHead_35 : decode cX5_readHead 35 = .ok (.iconst 0, 1) := by decide +kernel
theorem dX5_readHead_36 : decode cX5_readHead 36 = .ok (.aload_n 0, 1) := by decide +kernel
theorem dX5_readHead_37 : decode cX5_readHead 37 = .ok (.getfield 36, 3) := by decide +kernel
theorem dX5_readHead_40 : decode cX5_readHead 40 = .ok (.getfield 64, 3) := by decide +kernel
theorem dX5_readHead_43 : decode cX5_readHead 43 = .ok (.iconst 1, 1) := by decide +kernel
theorem dX5_readHead_44 : decode cX5_readHead 44 = .ok (.isub, 1) := by decide +kernel
theorem dX5_readHead_45 : decode cX5_readHead 45 = .ok (.invokevirtual 221, 3) := by decide +kernel
theorem dX5_readHead_48 : decode cX5_readHead 48 = .ok (.ireturn, 1) := by decide +kernel
theorem dX5_addRow_0 : decode cX5_addRow 0 = .ok (.aload_n 1, 1) := by decide +kernel
theorem dX5_addRow_1 : decode cX5_addRow 1 = .ok (.invokevirtual 171, 3) := by decide +kernel
theorem dX5_addRow_4 : decode cX5_addRow 4 = .ok (.ifCond .eq 9, 3) := by decide +kernel
theorem dX5_addRow_7 : decode cX5_addRow 7 = .ok (.aload_n 0, 1) := by decide +kernel
theorem dX5_addRow_8 : decode cX5_addRow 8 = .ok (.iconst 5, 1) := by decide +kernel
theorem dX5_addRow_9 : decode cX5_addRow 9 = .ok (.invokevirtual 79, 3) := by decide +kernel
theorem dX5_addRow_12 : decode cX5_addRow 12 = .ok (.ireturn, 1) := by decide +kernel
theorem dX5_addRow_13 : decode cX5_addRow 13 = .ok (.aload_n 1, 1) := by decide +kernel
theorem dX5_addRow_14 : decode cX5_addRow 14 = .ok (.invokevirtual 174, 3) := by decide +kernel
theorem dX5_addRow_17 : decode cX5_addRow 17 = .ok (.aload_n 0, 1) := by decide +kernel
theorem dX5_addRow_18 : decode cX5_addRow 18 = .ok (.invokevirtual 54, 3) := by decide +kernel
theorem dX5_addRow_21 : decode cX5_addRow 21 = .ok (.iconst 1, 1) := by decide +kernel
theorem dX5_addRow_22 : decode cX5_addRow 22 = .ok (.ireturn, 1) := by decide +kernel
theorem dX5_readKind_0 : decode cX5_readKind 0 = .ok (.aload_n 0, 1) := by decide +kernel
theorem dX5_readKind_1 : decode cX5_readKind 1 = .ok (.ldc 241, 2) := by decide +kernel
theorem dX5_readKind_3 : decode cX5_readKind 3 = .ok (.invokevirtual 84, 3) := by decide +kernel
theorem dX5_readKind_6 : decode cX5_readKind 6 = .ok (.ifCond .eq 12, 3) := by decide +kernel
theorem dX5_readKind_9 : decode cX5_readKind 9 = .ok (.aload_n 1, 1) := by decide +kernel
theorem dX5_readKind_10 : decode cX5_readKind 10 = .ok (.iconst 0, 1) := by decide +kernel
theorem dX5_readKind_11 : decode cX5_readKind 11 = .ok (.iconst 0, 1) := by decide +kernel
theorem dX5_readKind_12 : decode cX5_readKind 12 = .ok (.invokevirtual 224, 3) := by decide +kernel
theorem dX5_readKind_15 : decode cX5_readKind 15 = .ok (.goto 63, 3) := by decide +kernel
theorem dX5_readKind_18 : decode cX5_readKind 18 = .ok (.aload_n 0, 1) := by decide +kernel
theorem dX5_readKind_19 : decode cX5_readKind 19 = .ok (.ldc 243, 2) := by decide +kernel
theorem dX5_readKind_21 : decode cX5_readKind 21 = .ok (.invokevirtual 84, 3) := by decide +kernel
theorem dX5_readKind_24 : decode cX5_readKind 24 = .ok (.ifCond .eq 12, 3) := by decide +kernel
theorem dX5_readKind_27 : decode cX5_readKind 27 = .ok (.aload_n 1, 1) := by decide +kernel
theorem dX5_readKind_28 : decode cX5_readKind 28 = .ok (.iconst 0, 1) := by decide +kernel
theorem dX5_readKind_29 : decode cX5_readKind 29 = .ok (.iconst 1, 1) := by decide +kernel
theorem dX5_readKind_30 : decode cX5_readKind 30 = .ok (.invokevirtual 224, 3) := by decide +kernel
theorem dX5_readKind_33 : decode cX5_readKind 33 = .ok (.goto 45, 3) := by decide +kernel
theorem dX5_readKind_36 : decode cX5_readKind 36 = .ok (.aload_n 0, 1) := by decide +kernel
theorem dX5_readKind_37 : decode cX5_readKind 37 = .ok (.ldc 245, 2) := by decide +kernel
theorem dX5_readKind_39 : decode cX5_readKind 39 = .ok (.invokevirtual 84, 3) := by decide +kernel
theorem dX5_readKind_42 : decode cX5_readKind 42 = .ok (.ifCond .eq 12, 3) := by decide +kernel
theorem dX5_readKind_45 : decode cX5_readKind 45 = .ok (.aload_n 1, 1) := by decide +kernel
theorem dX5_readKind_46 : decode cX5_readKind 46 = .ok (.iconst 0, 1) := by decide +kernel
theorem dX5_readKind_47 : decode cX5_readKind 47 = .ok (.iconst 2, 1) := by decide +kernel
theorem dX5_readKind_48 : decode cX5_readKind 48 = .ok (.invokevirtual 224, 3) := by decide +kernel
theorem dX5_readKind_51 : decode cX5_readKind 51 = .ok (.goto 27, 3) := by decide +kernel
theorem dX5_readKind_54 : decode cX5_readKind 54 = .ok (.aload_n 0, 1) := by decide +kernel
theorem dX5_readKind_55 : decode cX5_readKind 55 = .ok (.ldc 247, 2) := by decide +kernel
theorem dX5_readKind_57 : decode cX5_readKind 57 = .ok (.invokevirtual 84, 3) := by decide +kernel
theorem dX5_readKind_60 : decode cX5_readKind 60 = .ok (.ifCond .eq 12, 3) := by decide +kernel
theorem dX5_readKind_63 : decode cX5_readKind 63 = .ok (.aload_n 1, 1) := by decide +kernel
theorem dX5_readKind_64 : decode cX5_readKind 64 = .ok (.iconst 0, 1) := by decide +kernel
theorem dX5_readKind_65 : decode cX5_readKind 65 = .ok (.iconst 3, 1) := by decide +kernel
theorem dX5_readKind_66 : decode cX5_readKind 66 = .ok (.invokevirtual 224, 3) := by decide +kernel
theorem dX5_readKind_69 : decode cX5_readKind 69 = .ok (.goto 9, 3) := by decide +kernel
theorem dX5_readKind_72 : decode cX5_readKind 72 = .ok (.aload_n 0, 1) := by decide +kernel
theorem dX5_readKind_73 : decode cX5_readKind 73 = .ok (.iconst 1, 1) := by decide +kernel
theorem dX5_readKind_74 : decode cX5_readKind 74 = .ok (.invokevirtual 79, 3) := by decide +kernel
theorem dX5_readKind_77 : decode cX5_readKind 77 = .ok (.ireturn, 1) := by decide +kernel
theorem dX5_readKind_78 : decode cX5_readKind 78 = .ok (.aload_n 0, 1) := by decide +kernel
theorem dX5_readKind_79 : decode cX5_readKind 79 = .ok (.invokevirtual 54, 3) := by decide +kernel
theorem dX5_readKind_82 : decode cX5_readKind 82 = .ok (.iconst 1, 1) := by decide +kernel
theorem dX5_readKind_83 : decode cX5_readKind 83 = .ok (.ireturn, 1) := by decide +kernel
theorem dX5_take_0 : decode cX5_take 0 = .ok (.aload_n 1, 1) := by decide +kernel
theorem dX5_take_1 : decode cX5_take 1 = .ok (.iload_n 2, 1) := by decide +kernel
theorem dX5_take_2 : decode cX5_take 2 = .ok (.aload_n 0, 1) := by decide +kernel
theorem dX5_take_3 : decode cX5_take 3 = .ok (.getfield 191, 3) := by decide +kernel
theorem dX5_take_6 : decode cX5_take 6 = .ok (.invokevirtual 224, 3) := by decide +kernel
theorem dX5_take_9 : decode cX5_take 9 = .ok (.aload_n 0, 1) := by decide +kernel
theorem dX5_take_10 : decode cX5_take 10 = .ok (.invokevirtual 54, 3) := by decide +kernel
theorem dX5_take_13 : decode cX5_take 13 = .ok (.iconst 1, 1) := by decide +kernel
theorem dX5_take_14 : decode cX5_take 14 = .ok (.ireturn, 1) := by decide +kernel
theorem dX5_readSleeper_0 : decode cX5_readSleeper 0 = .ok (.aload_n 0, 1) := by decide +kernel
theorem dX5_readSleeper_1 : decode cX5_readSleeper 1 = .ok (.getfield 36, 3) := by decide +kernel
theorem dX5_readSleeper_4 : decode cX5_readSleeper 4 = .ok (.getfield 67, 3) := by decide +kernel
theorem dX5_readSleeper_7 : decode cX5_readSleeper 7 = .ok (.astore_n 1, 1) := by decide +kernel
theorem dX5_readSleeper_8 : decode cX5_readSleeper 8 = .ok (.aload_n 1, 1) := by decide +kernel
theorem dX5_readSleeper_9 : decode cX5_readSleeper 9 = .ok (.iconst 4, 1) := by decide +kernel
theorem dX5_readSleeper_10 : decode cX5_readSleeper 10 = .ok (.bipush (-2), 2) := by decide +kernel
theorem dX5_readSleeper_12 : decode cX5_readSleeper 12 = .ok (.invokevirtual 224, 3) := by decide +kernel
theorem dX5_readSleeper_15 : decode cX5_readSleeper 15 = .ok (.aload_n 0, 1) := by decide +kernel
theorem dX5_readSleeper_16 : decode cX5_readSleeper 16 = .ok (.iconst 1, 1) := by decide +kernel
theorem dX5_readSleeper_17 : decode cX5_readSleeper 17 = .ok (.aload_n 1, 1) := by decide +kernel
theorem dX5_readSleeper_18 : decode cX5_readSleeper 18 = .ok (.getfield 71, 3) := by decide +kernel
theorem dX5_readSleeper_21 : decode cX5_readSleeper 21 = .ok (.iconst 1, 1) := by decide +kernel
theorem dX5_readSleeper_22 : decode cX5_readSleeper 22 = .ok (.isub, 1) := by decide +kernel
theorem dX5_readSleeper_23 : decode cX5_readSleeper 23 = .ok (.invokevirtual 221, 3) := by decide +kernel
theorem dX5_readSleeper_26 : decode cX5_readSleeper 26 = .ok (.ifCond .eq 101, 3) := by decide +kernel
theorem dX5_readSleeper_29 : decode cX5_readSleeper 29 = .ok (.aload_n 0, 1) := by decide +kernel
theorem dX5_readSleeper_30 : decode cX5_readSleeper 30 = .ok (.aload_n 1, 1) := by decide +kernel
theorem dX5_readSleeper_31 : decode cX5_readSleeper 31 = .ok (.invokevirtual 228, 3) := by decide +kernel
theorem dX5_readSleeper_34 : decode cX5_readSleeper 34 = .ok (.ifCond .eq 93, 3) := by decide +kernel
theorem dX5_readSleeper_37 : decode cX5_readSleeper 37 = .ok (.aload_n 0, 1) := by decide +kernel
theorem dX5_readSleeper_38 : decode cX5_readSleeper 38 = .ok (.ldc 231, 2) := by decide +kernel
theorem dX5_readSleeper_40 : decode cX5_readSleeper 40 = .ok (.invokevirtual 179, 3) := by decide +kernel
theorem dX5_readSleeper_43 : decode cX5_readSleeper 43 = .ok (.ifCond .eq 84, 3) := by decide +kernel
theorem dX5_readSleeper_46 : decode cX5_readSleeper 46 = .ok (.aload_n 0, 1) := by decide +kernel
theorem dX5_readSleeper_47 : decode cX5_readSleeper 47 = .ok (.iconst 1, 1) := by decide +kernel
theorem dX5_readSleeper_48 : decode cX5_readSleeper 48 = .ok (.sipush 9999, 3) := by decide +kernel
theorem dX5_readSleeper_51 : decode cX5_readSleeper 51 = .ok (.invokevirtual 187, 3) := by decide +kernel
theorem dX5_readSleeper_54 : decode cX5_readSleeper 54 = .ok (.ifCond .eq 73, 3) := by decide +kernel
theorem dX5_readSleeper_57 : decode cX5_readSleeper 57 = .ok (.aload_n 0, 1) := by decide +kernel
theorem dX5_readSleeper_58 : decode cX5_readSleeper 58 = .ok (.aload_n 1, 1) := by decide +kernel
theorem dX5_readSleeper_59 : decode cX5_readSleeper 59 = .ok (.iconst 1, 1) := by decide +kernel
theorem dX5_readSleeper_60 : decode cX5_readSleeper 60 = .ok (.invokevirtual 233, 3) := by decide +kernel
theorem dX5_readSleeper_63 : decode cX5_readSleeper 63 = .ok (.ifCond .eq 64, 3) := by decide +kernel
theorem dX5_readSleeper_66 : decode cX5_readSleeper 66 = .ok (.aload_n 0, 1) := by decide +kernel
theorem dX5_readSleeper_67 : decode cX5_readSleeper 67 = .ok (.ldc 237, 2) := by decide +kernel
theorem dX5_readSleeper_69 : decode cX5_readSleeper 69 = .ok (.invokevirtual 179, 3) := by decide +kernel
theorem dX5_readSleeper_72 : decode cX5_readSleeper 72 = .ok (.ifCond .eq 55, 3) := by decide +kernel
theorem dX5_readSleeper_75 : decode cX5_readSleeper 75 = .ok (.aload_n 0, 1) := by decide +kernel
theorem dX5_readSleeper_76 : decode cX5_readSleeper 76 = .ok (.iconst 0, 1) := by decide +kernel
theorem dX5_readSleeper_77 : decode cX5_readSleeper 77 = .ok (.sipush 999, 3) := by decide +kernel
theorem dX5_readSleeper_80 : decode cX5_readSleeper 80 = .ok (.invokevirtual 187, 3) := by decide +kernel
theorem dX5_readSleeper_83 : decode cX5_readSleeper 83 = .ok (.ifCond .eq 44, 3) := by decide +kernel
theorem dX5_readSleeper_86 : decode cX5_readSleeper 86 = .ok (.aload_n 0, 1) := by decide +kernel
theorem dX5_readSleeper_87 : decode cX5_readSleeper 87 = .ok (.aload_n 1, 1) := by decide +kernel
theorem dX5_readSleeper_88 : decode cX5_readSleeper 88 = .ok (.iconst 2, 1) := by decide +kernel
theorem dX5_readSleeper_89 : decode cX5_readSleeper 89 = .ok (.invokevirtual 233, 3) := by decide +kernel
theorem dX5_readSleeper_92 : decode cX5_readSleeper 92 = .ok (.ifCond .eq 35, 3) := by decide +kernel
theorem dX5_readSleeper_95 : decode cX5_readSleeper 95 = .ok (.aload_n 0, 1) := by decide +kernel
theorem dX5_readSleeper_96 : decode cX5_readSleeper 96 = .ok (.ldc 239, 2) := by decide +kernel
theorem dX5_readSleeper_98 : decode cX5_readSleeper 98 = .ok (.invokevirtual 179, 3) := by decide +kernel
theorem dX5_readSleeper_101 : decode cX5_readSleeper 101 = .ok (.ifCond .eq 26, 3) := by decide +kernel
theorem dX5_readSleeper_104 : decode cX5_readSleeper 104 = .ok (.aload_n 0, 1) := by decide +kernel
theorem dX5_readSleeper_105 : decode cX5_readSleeper 105 = .ok (.iconst 0, 1) := by decide +kernel
theorem dX5_readSleeper_106 : decode cX5_readSleeper 106 = .ok (.bipush 100, 2) := by decide +kernel
theorem dX5_readSleeper_108 : decode cX5_readSleeper 108 = .ok (.invokevirtual 187, 3) := by decide +kernel
theorem dX5_readSleeper_111 : decode cX5_readSleeper 111 = .ok (.ifCond .eq 16, 3) := by decide +kernel
theorem dX5_readSleeper_114 : decode cX5_readSleeper 114 = .ok (.aload_n 0, 1) := by decide +kernel
theorem dX5_readSleeper_115 : decode cX5_readSleeper 115 = .ok (.aload_n 1, 1) := by decide +kernel
theorem dX5_readSleeper_116 : decode cX5_readSleeper 116 = .ok (.iconst 3, 1) := by decide +kernel
theorem dX5_readSleeper_117 : decode cX5_readSleeper 117 = .ok (.invokevirtual 233, 3) := by decide +kernel
theorem dX5_readSleeper_120 : decode cX5_readSleeper 120 = .ok (.ifCond .eq 7, 3) := by decide +kernel
theorem dX5_readSleeper_123 : decode cX5_readSleeper 123 = .ok (.iconst 1, 1) := by decide +kernel
theorem dX5_readSleeper_124 : decode cX5_readSleeper 124 = .ok (.goto 4, 3) := by decide +kernel
theorem dX5_readSleeper_127 : decode cX5_readSleeper 127 = .ok (.iconst 0, 1) := by decide +kernel
theorem dX5_readSleeper_128 : decode cX5_readSleeper 128 = .ok (.ireturn, 1) := by decide +kernel
theorem dX5_isTold_0 : decode cX5_isTold 0 = .ok (.aload_n 0, 1) := by decide +kernel
theorem dX5_isTold_1 : decode cX5_isTold 1 = .ok (.getfield 61, 3) := by decide +kernel
theorem dX5_isTold_4 : decode cX5_isTold 4 = .ok (.iconst 1, 1) := by decide +kernel
theorem dX5_isTold_5 : decode cX5_isTold 5 = .ok (.if_icmp .ne 10, 3) := by decide +kernel
theorem dX5_isTold_8 : decode cX5_isTold 8 = .ok (.aload_n 0, 1) := by decide +kernel
theorem dX5_isTold_9 : decode cX5_isTold 9 = .ok (.invokevirtual 76, 3) := by decide +kernel
theorem dX5_isTold_12 : decode cX5_isTold 12 = .ok (.ifCond .eq 9, 3) := by decide +kernel
theorem dX5_isTold_15 : decode cX5_isTold 15 = .ok (.aload_n 0, 1) := by decide +kernel
theorem dX5_isTold_16 : decode cX5_isTold 16 = .ok (.iconst 1, 1) := by decide +kernel
theorem dX5_isTold_17 : decode cX5_isTold 17 = .ok (.invokevirtual 79, 3) := by decide +kernel
theorem dX5_isTold_20 : decode cX5_isTold 20 = .ok (.ireturn, 1) := by decide +kernel
theorem dX5_isTold_21 : decode cX5_isTold 21 = .ok (.aload_n 0, 1) := by decide +kernel
theorem dX5_isTold_22 : decode cX5_isTold 22 = .ok (.invokevirtual 265, 3) := by decide +kernel
theorem dX5_isTold_25 : decode cX5_isTold 25 = .ok (.istore_n 2, 1) := by decide +kernel
theorem dX5_isTold_26 : decode cX5_isTold 26 = .ok (.iload_n 2, 1) := by decide +kernel
theorem dX5_isTold_27 : decode cX5_isTold 27 = .ok (.ifCond .lt 13, 3) := by decide +kernel
theorem dX5_isTold_30 : decode cX5_isTold 30 = .ok (.aload_n 0, 1) := by decide +kernel
theorem dX5_isTold_31 : decode cX5_isTold 31 = .ok (.getfield 15, 3) := by decide +kernel
theorem dX5_isTold_34 : decode cX5_isTold 34 = .ok (.iload_n 2, 1) := by decide +kernel
theorem dX5_isTold_35 : decode cX5_isTold 35 = .ok (.iaload, 1) := by decide +kernel
theorem dX5_isTold_36 : decode cX5_isTold 36 = .ok (.iload_n 1, 1) := by decide +kernel
theorem dX5_isTold_37 : decode cX5_isTold 37 = .ok (.if_icmp .eq 9, 3) := by decide +kernel
theorem dX5_isTold_40 : decode cX5_isTold 40 = .ok (.aload_n 0, 1) := by decide +kernel
theorem dX5_isTold_41 : decode cX5_isTold 41 = .ok (.iconst 2, 1) := by decide +kernel
theorem dX5_isTold_42 : decode cX5_isTold 42 = .ok (.invokevirtual 79, 3) := by decide +kernel
theorem dX5_isTold_45 : decode cX5_isTold 45 = .ok (.ireturn, 1) := by decide +kernel
theorem dX5_isTold_46 : decode cX5_isTold 46 = .ok (.aload_n 0, 1) := by decide +kernel
theorem dX5_isTold_47 : decode cX5_isTold 47 = .ok (.aload_n 0, 1) := by decide +kernel
theorem dX5_isTold_48 : decode cX5_isTold 48 = .ok (.getfield 19, 3) := by decide +kernel
theorem dX5_isTold_51 : decode cX5_isTold 51 = .ok (.iload_n 2, 1) := by decide +kernel
theorem dX5_isTold_52 : decode cX5_isTold 52 = .ok (.iaload, 1) := by decide +kernel
theorem dX5_isTold_53 : decode cX5_isTold 53 = .ok (.putfield 191, 3) := by decide +kernel
theorem dX5_isTold_56 : decode cX5_isTold 56 = .ok (.iconst 1, 1) := by decide +kernel
theorem dX5_isTold_57 : decode cX5_isTold 57 = .ok (.ireturn, 1) := by decide +kernel
theorem dX5_readDown_0 : decode cX5_readDown 0 = .ok (.aload_n 0, 1) := by decide +kernel
theorem dX5_readDown_1 : decode cX5_readDown 1 = .ok (.getfield 36, 3) := by decide +kernel
theorem dX5_readDown_4 : decode cX5_readDown 4 = .ok (.getfield 110, 3) := by decide +kernel
theorem dX5_readDown_7 : decode cX5_readDown 7 = .ok (.astore_n 1, 1) := by decide +kernel
theorem dX5_readDown_8 : decode cX5_readDown 8 = .ok (.aload_n 0, 1) := by decide +kernel
theorem dX5_readDown_9 : decode cX5_readDown 9 = .ok (.iconst 1, 1) := by decide +kernel
theorem dX5_readDown_10 : decode cX5_readDown 10 = .ok (.invokevirtual 211, 3) := by decide +kernel
theorem dX5_readDown_13 : decode cX5_readDown 13 = .ok (.ifCond .eq 33, 3) := by decide +kernel
theorem dX5_readDown_16 : decode cX5_readDown 16 = .ok (.aload_n 0, 1) := by decide +kernel
theorem dX5_readDown_17 : decode cX5_readDown 17 = .ok (.aload_n 1, 1) := by decide +kernel
theorem dX5_readDown_18 : decode cX5_readDown 18 = .ok (.iconst 0, 1) := by decide +kernel
theorem dX5_readDown_19 : decode cX5_readDown 19 = .ok (.invokevirtual 233, 3) := by decide +kernel
theorem dX5_readDown_22 : decode cX5_readDown 22 = .ok (.ifCond .eq 24, 3) := by decide +kernel
theorem dX5_readDown_25 : decode cX5_readDown 25 = .ok (.aload_n 0, 1) := by decide +kernel
theorem dX5_readDown_26 : decode cX5_readDown 26 = .ok (.iconst 0, 1) := by decide +kernel
theorem dX5_readDown_27 : decode cX5_readDown 27 = .ok (.invokevirtual 211, 3) := by decide +kernel
theorem dX5_readDown_30 : decode cX5_readDown 30 = .ok (.ifCond .eq 16, 3) := by decide +kernel
theorem dX5_readDown_33 : decode cX5_readDown 33 = .ok (.aload_n 0, 1) := by decide +kernel
theorem dX5_readDown_34 : decode cX5_readDown 34 = .ok (.aload_n 1, 1) := by decide +kernel
theorem dX5_readDown_35 : decode cX5_readDown 35 = .ok (.iconst 1, 1) := by decide +kernel
theorem dX5_readDown_36 : decode cX5_readDown 36 = .ok (.invokevirtual 233, 3) := by decide +kernel
theorem dX5_readDown_39 : decode cX5_readDown 39 = .ok (.ifCond .eq 7, 3) := by decide +kernel
theorem dX5_readDown_42 : decode cX5_readDown 42 = .ok (.iconst 1, 1) := by decide +kernel
theorem dX5_readDown_43 : decode cX5_readDown 43 = .ok (.goto 4, 3) := by decide +kernel
theorem dX5_readDown_46 : decode cX5_readDown 46 = .ok (.iconst 0, 1) := by decide +kernel
theorem dX5_readDown_47 : decode cX5_readDown 47 = .ok (.ireturn, 1) := by decide +kernel
theorem dX5_readAfter_0 : decode cX5_readAfter 0 = .ok (.aload_n 0, 1) := by decide +kernel
theorem dX5_readAfter_1 : decode cX5_readAfter 1 = .ok (.ldc 249, 2) := by decide +kernel
theorem dX5_readAfter_3 : decode cX5_readAfter 3 = .ok (.invokevirtual 179, 3) := by decide +kernel
theorem dX5_readAfter_6 : decode cX5_readAfter 6 = .ok (.ifCond .eq 29, 3) := by decide +kernel
theorem dX5_readAfter_9 : decode cX5_readAfter 9 = .ok (.aload_n 0, 1) := by decide +kernel
theorem dX5_readAfter_10 : decode cX5_readAfter 10 = .ok (.iconst 0, 1) := by decide +kernel
theorem dX5_readAfter_11 : decode cX5_readAfter 11 = .ok (.sipush 999, 3) := by decide +kernel
theorem dX5_readAfter_14 : decode cX5_readAfter 14 = .ok (.invokevirtual 187, 3) := by decide +kernel
theorem dX5_readAfter_17 : decode cX5_readAfter 17 = .ok (.ifCond .eq 18, 3) := by decide +kernel
theorem dX5_readAfter_20 : decode cX5_readAfter 20 = .ok (.aload_n 0, 1) := by decide +kernel
theorem dX5_readAfter_21 : decode cX5_readAfter 21 = .ok (.aload_n 0, 1) := by decide +kernel
theorem dX5_readAfter_22 : decode cX5_readAfter 22 = .ok (.getfield 36, 3) := by decide +kernel
theorem dX5_readAfter_25 : decode cX5_readAfter 25 = .ok (.getfield 110, 3) := by decide +kernel
theorem dX5_readAfter_28 : decode cX5_readAfter 28 = .ok (.iconst 2, 1) := by decide +kernel
theorem dX5_readAfter_29 : decode cX5_readAfter 29 = .ok (.invokevirtual 233, 3) := by decide +kernel
theorem dX5_readAfter_32 : decode cX5_readAfter 32 = .ok (.ifCond .ne 5, 3) := by decide +kernel
theorem dX5_readAfter_35 : decode cX5_readAfter 35 = .ok (.iconst 0, 1) := by decide +kernel
theorem dX5_readAfter_36 : decode cX5_readAfter 36 = .ok (.ireturn, 1) := by decide +kernel
theorem dX5_readAfter_37 : decode cX5_readAfter 37 = .ok (.aload_n 0, 1) := by decide +kernel
theorem dX5_readAfter_38 : decode cX5_readAfter 38 = .ok (.getfield 36, 3) := by decide +kernel
theorem dX5_readAfter_41 : decode cX5_readAfter 41 = .ok (.invokevirtual 251, 3) := by decide +kernel
theorem dX5_readAfter_44 : decode cX5_readAfter 44 = .ok (.iconst 1, 1) := by decide +kernel
theorem dX5_readAfter_45 : decode cX5_readAfter 45 = .ok (.ireturn, 1) := by decide +kernel
theorem dX5_readUp_0 : decode cX5_readUp 0 = .ok (.aload_n 0, 1) := by decide +kernel
theorem dX5_readUp_1 : decode cX5_readUp 1 = .ok (.getfield 36, 3) := by decide +kernel
theorem dX5_readUp_4 : decode cX5_readUp 4 = .ok (.getfield 110, 3) := by decide +kernel
theorem dX5_readUp_7 : decode cX5_readUp 7 = .ok (.iconst 1, 1) := by decide +kernel
theorem dX5_readUp_8 : decode cX5_readUp 8 = .ok (.iconst (-1), 1) := by decide +kernel
theorem dX5_readUp_9 : decode cX5_readUp 9 = .ok (.invokevirtual 224, 3) := by decide +kernel
theorem dX5_readUp_12 : decode cX5_readUp 12 = .ok (.aload_n 0, 1) := by decide +kernel
theorem dX5_readUp_13 : decode cX5_readUp 13 = .ok (.iconst 1, 1) := by decide +kernel
theorem dX5_readUp_14 : decode cX5_readUp 14 = .ok (.invokevirtual 211, 3) := by decide +kernel
theorem dX5_readUp_17 : decode cX5_readUp 17 = .ok (.ifCond .eq 22, 3) := by decide +kernel
theorem dX5_readUp_20 : decode cX5_readUp 20 = .ok (.aload_n 0, 1) := by decide +kernel
theorem dX5_readUp_21 : decode cX5_readUp 21 = .ok (.aload_n 0, 1) := by decide +kernel
theorem dX5_readUp_22 : decode cX5_readUp 22 = .ok (.getfield 36, 3) := by decide +kernel
theorem dX5_readUp_25 : decode cX5_readUp 25 = .ok (.getfield 110, 3) := by decide +kernel
theorem dX5_readUp_28 : decode cX5_readUp 28 = .ok (.iconst 0, 1) := by decide +kernel
theorem dX5_readUp_29 : decode cX5_readUp 29 = .ok (.invokevirtual 233, 3) := by decide +kernel
theorem dX5_readUp_32 : decode cX5_readUp 32 = .ok (.ifCond .eq 7, 3) := by decide +kernel
theorem dX5_readUp_35 : decode cX5_readUp 35 = .ok (.iconst 1, 1) := by decide +kernel
theorem dX5_readUp_36 : decode cX5_readUp 36 = .ok (.goto 4, 3) := by decide +kernel
theorem dX5_readUp_39 : decode cX5_readUp 39 = .ok (.iconst 0, 1) := by decide +kernel
theorem dX5_readUp_40 : decode cX5_readUp 40 = .ok (.ireturn, 1) := by decide +kernel
theorem dX5_readKnock_0 : decode cX5_readKnock 0 = .ok (.aload_n 0, 1) := by decide +kernel
theorem dX5_readKnock_1 : decode cX5_readKnock 1 = .ok (.getfield 36, 3) := by decide +kernel
theorem dX5_readKnock_4 : decode cX5_readKnock 4 = .ok (.getfield 126, 3) := by decide +kernel
theorem dX5_readKnock_7 : decode cX5_readKnock 7 = .ok (.astore_n 1, 1) := by decide +kernel
theorem dX5_readKnock_8 : decode cX5_readKnock 8 = .ok (.aload_n 0, 1) := by decide +kernel
theorem dX5_readKnock_9 : decode cX5_readKnock 9 = .ok (.iconst 0, 1) := by decide +kernel
theorem dX5_readKnock_10 : decode cX5_readKnock 10 = .ok (.invokevirtual 211, 3) := by decide +kernel
theorem dX5_readKnock_13 : decode cX5_readKnock 13 = .ok (.ifCond .eq 114, 3) := by decide +kernel
theorem dX5_readKnock_16 : decode cX5_readKnock 16 = .ok (.aload_n 0, 1) := by decide +kernel
theorem dX5_readKnock_17 : decode cX5_readKnock 17 = .ok (.aload_n 1, 1) := by decide +kernel
theorem dX5_readKnock_18 : decode cX5_readKnock 18 = .ok (.iconst 0, 1) := by decide +kernel
theorem dX5_readKnock_19 : decode cX5_readKnock 19 = .ok (.invokevirtual 233, 3) := by decide +kernel
theorem dX5_readKnock_22 : decode cX5_readKnock 22 = .ok (.ifCond .eq 105, 3) := by decide +kernel
theorem dX5_readKnock_25 : decode cX5_readKnock 25 = .ok (.aload_n 0, 1) := by decide +kernel
theorem dX5_readKnock_26 : decode cX5_readKnock 26 = .ok (.ldc 254, 2) := by decide +kernel
theorem dX5_readKnock_28 : decode cX5_readKnock 28 = .ok (.invokevirtual 179, 3) := by decide +kernel
theorem dX5_readKnock_31 : decode cX5_readKnock 31 = .ok (.ifCond .eq 96, 3) := by decide +kernel
theorem dX5_readKnock_34 : decode cX5_readKnock 34 = .ok (.aload_n 0, 1) := by decide +kernel
theorem dX5_readKnock_35 : decode cX5_readKnock 35 = .ok (.iconst 0, 1) := by decide +kernel
theorem dX5_readKnock_36 : decode cX5_readKnock 36 = .ok (.aload_n 0, 1) := by decide +kernel
theorem dX5_readKnock_37 : decode cX5_readKnock 37 = .ok (.getfield 36, 3) := by decide +kernel
theorem dX5_readKnock_40 : decode cX5_readKnock 40 = .ok (.getfield 91, 3) := by decide +kernel
theorem dX5_readKnock_43 : decode cX5_readKnock 43 = .ok (.iconst 1, 1) := by decide +kernel
theorem dX5_readKnock_44 : decode cX5_readKnock 44 = .ok (.isub, 1) := by decide +kernel
theorem dX5_readKnock_45 : decode cX5_readKnock 45 = .ok (.invokevirtual 187, 3) := by decide +kernel
theorem dX5_readKnock_48 : decode cX5_readKnock 48 = .ok (.ifCond .eq 79, 3) := by decide +kernel
theorem dX5_readKnock_51 : decode cX5_readKnock 51 = .ok (.aload_n 0, 1) := by decide +kernel
theorem dX5_readKnock_52 : decode cX5_readKnock 52 = .ok (.aload_n 1, 1) := by decide +kernel
theorem dX5_readKnock_53 : decode cX5_readKnock 53 = .ok (.iconst 1, 1) := by decide +kernel
theorem dX5_readKnock_54 : decode cX5_readKnock 54 = .ok (.invokevirtual 233, 3) := by decide +kernel
theorem dX5_readKnock_57 : decode cX5_readKnock 57 = .ok (.ifCond .eq 70, 3) := by decide +kernel
theorem dX5_readKnock_60 : decode cX5_readKnock 60 = .ok (.aload_n 0, 1) := by decide +kernel
theorem dX5_readKnock_61 : decode cX5_readKnock 61 = .ok (.ldc_w 256, 3) := by decide +kernel
theorem dX5_readKnock_64 : decode cX5_readKnock 64 = .ok (.invokevirtual 179, 3) := by decide +kernel
theorem dX5_readKnock_67 : decode cX5_readKnock 67 = .ok (.ifCond .eq 60, 3) := by decide +kernel
theorem dX5_readKnock_70 : decode cX5_readKnock 70 = .ok (.aload_n 0, 1) := by decide +kernel
theorem dX5_readKnock_71 : decode cX5_readKnock 71 = .ok (.iconst 0, 1) := by decide +kernel
theorem dX5_readKnock_72 : decode cX5_readKnock 72 = .ok (.aload_n 0, 1) := by decide +kernel
theorem dX5_readKnock_73 : decode cX5_readKnock 73 = .ok (.getfield 36, 3) := by decide +kernel
theorem dX5_readKnock_76 : decode cX5_readKnock 76 = .ok (.getfield 198, 3) := by decide +kernel
theorem dX5_readKnock_79 : decode cX5_readKnock 79 = .ok (.invokevirtual 187, 3) := by decide +kernel
theorem dX5_readKnock_82 : decode cX5_readKnock 82 = .ok (.ifCond .eq 45, 3) := by decide +kernel
theorem dX5_readKnock_85 : decode cX5_readKnock 85 = .ok (.aload_n 0, 1) := by decide +kernel
theorem dX5_readKnock_86 : decode cX5_readKnock 86 = .ok (.aload_n 1, 1) := by decide +kernel
theorem dX5_readKnock_87 : decode cX5_readKnock 87 = .ok (.iconst 2, 1) := by decide +kernel
theorem dX5_readKnock_88 : decode cX5_readKnock 88 = .ok (.invokevirtual 233, 3) := by decide +kernel
theorem dX5_readKnock_91 : decode cX5_readKnock 91 = .ok (.ifCond .eq 36, 3) := by decide +kernel
theorem dX5_readKnock_94 : decode cX5_readKnock 94 = .ok (.aload_n 0, 1) := by decide +kernel
theorem dX5_readKnock_95 : decode cX5_readKnock 95 = .ok (.ldc_w 257, 3) := by decide +kernel
theorem dX5_readKnock_98 : decode cX5_readKnock 98 = .ok (.invokevirtual 179, 3) := by decide +kernel
theorem dX5_readKnock_101 : decode cX5_readKnock 101 = .ok (.ifCond .eq 26, 3) := by decide +kernel
theorem dX5_readKnock_104 : decode cX5_readKnock 104 = .ok (.aload_n 0, 1) := by decide +kernel
theorem dX5_readKnock_105 : decode cX5_readKnock 105 = .ok (.iconst 1, 1) := by decide +kernel
theorem dX5_readKnock_106 : decode cX5_readKnock 106 = .ok (.bipush 99, 2) := by decide +kernel
theorem dX5_readKnock_108 : decode cX5_readKnock 108 = .ok (.invokevirtual 187, 3) := by decide +kernel
theorem dX5_readKnock_111 : decode cX5_readKnock 111 = .ok (.ifCond .eq 16, 3) := by decide +kernel
theorem dX5_readKnock_114 : decode cX5_readKnock 114 = .ok (.aload_n 0, 1) := by decide +kernel
theorem dX5_readKnock_115 : decode cX5_readKnock 115 = .ok (.aload_n 1, 1) := by decide +kernel
theorem dX5_readKnock_116 : decode cX5_readKnock 116 = .ok (.iconst 3, 1) := by decide +kernel
theorem dX5_readKnock_117 : decode cX5_readKnock 117 = .ok (.invokevirtual 233, 3) := by decide +kernel
theorem dX5_readKnock_120 : decode cX5_readKnock 120 = .ok (.ifCond .eq 7, 3) := by decide +kernel
theorem dX5_readKnock_123 : decode cX5_readKnock 123 = .ok (.iconst 1, 1) := by decide +kernel
theorem dX5_readKnock_124 : decode cX5_readKnock 124 = .ok (.goto 4, 3) := by decide +kernel
theorem dX5_readKnock_127 : decode cX5_readKnock 127 = .ok (.iconst 0, 1) := by decide +kernel
theorem dX5_readKnock_128 : decode cX5_readKnock 128 = .ok (.ireturn, 1) := by decide +kernel
theorem dX5_readTask_0 : decode cX5_readTask 0 = .ok (.aload_n 0, 1) := by decide +kernel
theorem dX5_readTask_1 : decode cX5_readTask 1 = .ok (.getfield 36, 3) := by decide +kernel
theorem dX5_readTask_4 : decode cX5_readTask 4 = .ok (.getfield 134, 3) := by decide +kernel
theorem dX5_readTask_7 : decode cX5_readTask 7 = .ok (.astore_n 1, 1) := by decide +kernel
theorem dX5_readTask_8 : decode cX5_readTask 8 = .ok (.aload_n 0, 1) := by decide +kernel
theorem dX5_readTask_9 : decode cX5_readTask 9 = .ok (.iconst 2, 1) := by decide +kernel
theorem dX5_readTask_10 : decode cX5_readTask 10 = .ok (.aload_n 1, 1) := by decide +kernel
theorem dX5_readTask_11 : decode cX5_readTask 11 = .ok (.getfield 71, 3) := by decide +kernel
theorem dX5_readTask_14 : decode cX5_readTask 14 = .ok (.iconst 1, 1) := by decide +kernel
theorem dX5_readTask_15 : decode cX5_readTask 15 = .ok (.isub, 1) := by decide +kernel
theorem dX5_readTask_16 : decode cX5_readTask 16 = .ok (.invokevirtual 221, 3) := by decide +kernel
theorem dX5_readTask_19 : decode cX5_readTask 19 = .ok (.ifCond .eq 99, 3) := by decide +kernel
theorem dX5_readTask_22 : decode cX5_readTask 22 = .ok (.aload_n 0, 1) := by decide +kernel
theorem dX5_readTask_23 : decode cX5_readTask 23 = .ok (.ldc 254, 2) := by decide +kernel
theorem dX5_readTask_25 : decode cX5_readTask 25 = .ok (.invokevirtual 179, 3) := by decide +kernel
theorem dX5_readTask_28 : decode cX5_readTask 28 = .ok (.ifCond .eq 90, 3) := by decide +kernel
theorem dX5_readTask_31 : decode cX5_readTask 31 = .ok (.aload_n 0, 1) := by decide +kernel
theorem dX5_readTask_32 : decode cX5_readTask 32 = .ok (.iconst 0, 1) := by decide +kernel
theorem dX5_readTask_33 : decode cX5_readTask 33 = .ok (.aload_n 0, 1) := by decide +kernel
theorem dX5_readTask_34 : decode cX5_readTask 34 = .ok (.getfield 36, 3) := by decide +kernel
theorem dX5_readTask_37 : decode cX5_readTask 37 = .ok (.getfield 91, 3) := by decide +kernel
theorem dX5_readTask_40 : decode cX5_readTask 40 = .ok (.invokevirtual 187, 3) := by decide +kernel
theorem dX5_readTask_43 : decode cX5_readTask 43 = .ok (.ifCond .eq 75, 3) := by decide +kernel
theorem dX5_readTask_46 : decode cX5_readTask 46 = .ok (.aload_n 0, 1) := by decide +kernel
theorem dX5_readTask_47 : decode cX5_readTask 47 = .ok (.aload_n 1, 1) := by decide +kernel
theorem dX5_readTask_48 : decode cX5_readTask 48 = .ok (.iconst 0, 1) := by decide +kernel
theorem dX5_readTask_49 : decode cX5_readTask 49 = .ok (.invokevirtual 233, 3) := by decide +kernel
theorem dX5_readTask_52 : decode cX5_readTask 52 = .ok (.ifCond .eq 66, 3) := by decide +kernel
theorem dX5_readTask_55 : decode cX5_readTask 55 = .ok (.aload_n 0, 1) := by decide +kernel
theorem dX5_readTask_56 : decode cX5_readTask 56 = .ok (.ldc_w 259, 3) := by decide +kernel
theorem dX5_readTask_59 : decode cX5_readTask 59 = .ok (.invokevirtual 179, 3) := by decide +kernel
theorem dX5_readTask_62 : decode cX5_readTask 62 = .ok (.ifCond .eq 56, 3) := by decide +kernel
theorem dX5_readTask_65 : decode cX5_readTask 65 = .ok (.aload_n 0, 1) := by decide +kernel
theorem dX5_readTask_66 : decode cX5_readTask 66 = .ok (.iconst 1, 1) := by decide +kernel
theorem dX5_readTask_67 : decode cX5_readTask 67 = .ok (.sipush 999, 3) := by decide +kernel
theorem dX5_readTask_70 : decode cX5_readTask 70 = .ok (.invokevirtual 187, 3) := by decide +kernel
theorem dX5_readTask_73 : decode cX5_readTask 73 = .ok (.ifCond .eq 45, 3) := by decide +kernel
theorem dX5_readTask_76 : decode cX5_readTask 76 = .ok (.aload_n 0, 1) := by decide +kernel
theorem dX5_readTask_77 : decode cX5_readTask 77 = .ok (.aload_n 1, 1) := by decide +kernel
theorem dX5_readTask_78 : decode cX5_readTask 78 = .ok (.iconst 1, 1) := by decide +kernel
theorem dX5_readTask_79 : decode cX5_readTask 79 = .ok (.invokevirtual 233, 3) := by decide +kernel
theorem dX5_readTask_82 : decode cX5_readTask 82 = .ok (.ifCond .eq 36, 3) := by decide +kernel
theorem dX5_readTask_85 : decode cX5_readTask 85 = .ok (.aload_n 0, 1) := by decide +kernel
theorem dX5_readTask_86 : decode cX5_readTask 86 = .ok (.ldc_w 261, 3) := by decide +kernel
theorem dX5_readTask_89 : decode cX5_readTask 89 = .ok (.invokevirtual 179, 3) := by decide +kernel
theorem dX5_readTask_92 : decode cX5_readTask 92 = .ok (.ifCond .eq 26, 3) := by decide +kernel
theorem dX5_readTask_95 : decode cX5_readTask 95 = .ok (.aload_n 0, 1) := by decide +kernel
theorem dX5_readTask_96 : decode cX5_readTask 96 = .ok (.iconst 0, 1) := by decide +kernel
theorem dX5_readTask_97 : decode cX5_readTask 97 = .ok (.bipush 99, 2) := by decide +kernel
theorem dX5_readTask_99 : decode cX5_readTask 99 = .ok (.invokevirtual 187, 3) := by decide +kernel
theorem dX5_readTask_102 : decode cX5_readTask 102 = .ok (.ifCond .eq 16, 3) := by decide +kernel
theorem dX5_readTask_105 : decode cX5_readTask 105 = .ok (.aload_n 0, 1) := by decide +kernel
theorem dX5_readTask_106 : decode cX5_readTask 106 = .ok (.aload_n 1, 1) := by decide +kernel
theorem dX5_readTask_107 : decode cX5_readTask 107 = .ok (.iconst 2, 1) := by decide +kernel
theorem dX5_readTask_108 : decode cX5_readTask 108 = .ok (.invokevirtual 233, 3) := by decide +kernel
theorem dX5_readTask_111 : decode cX5_readTask 111 = .ok (.ifCond .eq 7, 3) := by decide +kernel
theorem dX5_readTask_114 : decode cX5_readTask 114 = .ok (.iconst 1, 1) := by decide +kernel
theorem dX5_readTask_115 : decode cX5_readTask 115 = .ok (.goto 4, 3) := by decide +kernel
theorem dX5_readTask_118 : decode cX5_readTask 118 = .ok (.iconst 0, 1) := by decide +kernel
theorem dX5_readTask_119 : decode cX5_readTask 119 = .ok (.ireturn, 1) := by decide +kernel
theorem dX5_readPays_0 : decode cX5_readPays 0 = .ok (.aload_n 0, 1) := by decide +kernel
theorem dX5_readPays_1 : decode cX5_readPays 1 = .ok (.getfield 36, 3) := by decide +kernel
theorem dX5_readPays_4 : decode cX5_readPays 4 = .ok (.getfield 204, 3) := by decide +kernel
theorem dX5_readPays_7 : decode cX5_readPays 7 = .ok (.ifCond .eq 9, 3) := by decide +kernel
theorem dX5_readPays_10 : decode cX5_readPays 10 = .ok (.aload_n 0, 1) := by decide +kernel
theorem dX5_readPays_11 : decode cX5_readPays 11 = .ok (.iconst 3, 1) := by decide +kernel
theorem dX5_readPays_12 : decode cX5_readPays 12 = .ok (.invokevirtual 79, 3) := by decide +kernel
theorem dX5_readPays_15 : decode cX5_readPays 15 = .ok (.ireturn, 1) := by decide +kernel
theorem dX5_readPays_16 : decode cX5_readPays 16 = .ok (.aload_n 0, 1) := by decide +kernel
theorem dX5_readPays_17 : decode cX5_readPays 17 = .ok (.getfield 36, 3) := by decide +kernel
theorem dX5_readPays_20 : decode cX5_readPays 20 = .ok (.iconst 1, 1) := by decide +kernel
theorem dX5_readPays_21 : decode cX5_readPays 21 = .ok (.putfield 204, 3) := by decide +kernel
theorem dX5_readPays_24 : decode cX5_readPays 24 = .ok (.aload_n 0, 1) := by decide +kernel
theorem dX5_readPays_25 : decode cX5_readPays 25 = .ok (.invokevirtual 54, 3) := by decide +kernel
theorem dX5_readPays_28 : decode cX5_readPays 28 = .ok (.iconst 1, 1) := by decide +kernel
theorem dX5_readPays_29 : decode cX5_readPays 29 = .ok (.istore_n 1, 1) := by decide +kernel
theorem dX5_readPays_30 : decode cX5_readPays 30 = .ok (.iload_n 1, 1) := by decide +kernel
theorem dX5_readPays_31 : decode cX5_readPays 31 = .ok (.iconst 5, 1) := by decide +kernel
theorem dX5_readPays_32 : decode cX5_readPays 32 = .ok (.if_icmp .gt 120, 3) := by decide +kernel
theorem dX5_readPays_35 : decode cX5_readPays 35 = .ok (.aload_n 0, 1) := by decide +kernel
theorem dX5_readPays_36 : decode cX5_readPays 36 = .ok (.iconst 0, 1) := by decide +kernel
theorem dX5_readPays_37 : decode cX5_readPays 37 = .ok (.sipush 999, 3) := by decide +kernel
theorem dX5_readPays_40 : decode cX5_readPays 40 = .ok (.invokevirtual 187, 3) := by decide +kernel
theorem dX5_readPays_43 : decode cX5_readPays 43 = .ok (.ifCond .ne 5, 3) := by decide +kernel
theorem dX5_readPays_46 : decode cX5_readPays 46 = .ok (.iconst 0, 1) := by decide +kernel
theorem dX5_readPays_47 : decode cX5_readPays 47 = .ok (.ireturn, 1) := by decide +kernel
theorem dX5_readPays_48 : decode cX5_readPays 48 = .ok (.iload_n 1, 1) := by decide +kernel
theorem dX5_readPays_49 : decode cX5_readPays 49 = .ok (.aload_n 0, 1) := by decide +kernel
theorem dX5_readPays_50 : decode cX5_readPays 50 = .ok (.getfield 36, 3) := by decide +kernel
theorem dX5_readPays_53 : decode cX5_readPays 53 = .ok (.getfield 91, 3) := by decide +kernel
theorem dX5_readPays_56 : decode cX5_readPays 56 = .ok (.if_icmp .le 9, 3) := by decide +kernel
theorem dX5_readPays_59 : decode cX5_readPays 59 = .ok (.aload_n 0, 1) := by decide +kernel
theorem dX5_readPays_60 : decode cX5_readPays 60 = .ok (.iconst 5, 1) := by decide +kernel
theorem dX5_readPays_61 : decode cX5_readPays 61 = .ok (.invokevirtual 79, 3) := by decide +kernel
theorem dX5_readPays_64 : decode cX5_readPays 64 = .ok (.ireturn, 1) := by decide +kernel
theorem dX5_readPays_65 : decode cX5_readPays 65 = .ok (.aload_n 0, 1) := by decide +kernel
theorem dX5_readPays_66 : decode cX5_readPays 66 = .ok (.getfield 36, 3) := by decide +kernel
theorem dX5_readPays_69 : decode cX5_readPays 69 = .ok (.getfield 208, 3) := by decide +kernel
theorem dX5_readPays_72 : decode cX5_readPays 72 = .ok (.iload_n 1, 1) := by decide +kernel
theorem dX5_readPays_73 : decode cX5_readPays 73 = .ok (.aload_n 0, 1) := by decide +kernel
theorem dX5_readPays_74 : decode cX5_readPays 74 = .ok (.getfield 191, 3) := by decide +kernel
theorem dX5_readPays_77 : decode cX5_readPays 77 = .ok (.iastore, 1) := by decide +kernel
theorem dX5_readPays_78 : decode cX5_readPays 78 = .ok (.aload_n 0, 1) := by decide +kernel
theorem dX5_readPays_79 : decode cX5_readPays 79 = .ok (.invokevirtual 54, 3) := by decide +kernel
theorem dX5_readPays_82 : decode cX5_readPays 82 = .ok (.aload_n 0, 1) := by decide +kernel
theorem dX5_readPays_83 : decode cX5_readPays 83 = .ok (.getfield 61, 3) := by decide +kernel
theorem dX5_readPays_86 : decode cX5_readPays 86 = .ok (.iconst 4, 1) := by decide +kernel
theorem dX5_readPays_87 : decode cX5_readPays 87 = .ok (.if_icmp .eq 55, 3) := by decide +kernel
theorem dX5_readPays_90 : decode cX5_readPays 90 = .ok (.aload_n 0, 1) := by decide +kernel
theorem dX5_readPays_91 : decode cX5_readPays 91 = .ok (.getfield 61, 3) := by decide +kernel
theorem dX5_readPays_94 : decode cX5_readPays 94 = .ok (.iconst 3, 1) := by decide +kernel
theorem dX5_readPays_95 : decode cX5_readPays 95 = .ok (.if_icmp .eq 11, 3) := by decide +kernel
theorem dX5_readPays_98 : decode cX5_readPays 98 = .ok (.aload_n 0, 1) := by decide +kernel
theorem dX5_readPays_99 : decode cX5_readPays 99 = .ok (.getfield 61, 3) := by decide +kernel
theorem dX5_readPays_102 : decode cX5_readPays 102 = .ok (.iconst 5, 1) := by decide +kernel
theorem dX5_readPays_103 : decode cX5_readPays 103 = .ok (.if_icmp .ne 7, 3) := by decide +kernel
theorem dX5_readPays_106 : decode cX5_readPays 106 = .ok (.iconst 1, 1) := by decide +kernel
theorem dX5_readPays_107 : decode cX5_readPays 107 = .ok (.goto 4, 3) := by decide +kernel
theorem dX5_readPays_110 : decode cX5_readPays 110 = .ok (.iconst 0, 1) := by decide +kernel
theorem dX5_readPays_111 : decode cX5_readPays 111 = .ok (.istore_n 2, 1) := by decide +kernel
theorem dX5_readPays_112 : decode cX5_readPays 112 = .ok (.iload_n 2, 1) := by decide +kernel
theorem dX5_readPays_113 : decode cX5_readPays 113 = .ok (.ifCond .eq 23, 3) := by decide +kernel
theorem dX5_readPays_116 : decode cX5_readPays 116 = .ok (.iload_n 1, 1) := by decide +kernel
theorem dX5_readPays_117 : decode cX5_readPays 117 = .ok (.aload_n 0, 1) := by decide +kernel
theorem dX5_readPays_118 : decode cX5_readPays 118 = .ok (.getfield 36, 3) := by decide +kernel
theorem dX5_readPays_121 : decode cX5_readPays 121 = .ok (.getfield 91, 3) := by decide +kernel
theorem dX5_readPays_124 : decode cX5_readPays 124 = .ok (.if_icmp .eq 12, 3) := by decide +kernel
theorem dX5_readPays_127 : decode cX5_readPays 127 = .ok (.aload_n 0, 1) := by decide +kernel
theorem dX5_readPays_128 : decode cX5_readPays 128 = .ok (.bipush 6, 2) := by decide +kernel
theorem dX5_readPays_130 : decode cX5_readPays 130 = .ok (.invokevirtual 79, 3) := by decide +kernel
theorem dX5_readPays_133 : decode cX5_readPays 133 = .ok (.ifCond .eq 7, 3) := by decide +kernel
theorem dX5_readPays_136 : decode cX5_readPays 136 = .ok (.iconst 1, 1) := by decide +kernel
theorem dX5_readPays_137 : decode cX5_readPays 137 = .ok (.goto 4, 3) := by decide +kernel
theorem dX5_readPays_140 : decode cX5_readPays 140 = .ok (.iconst 0, 1) := by decide +kernel
theorem dX5_readPays_141 : decode cX5_readPays 141 = .ok (.ireturn, 1) := by decide +kernel
theorem dX5_readPays_142 : decode cX5_readPays 142 = .ok (.aload_n 0, 1) := by decide +kernel
theorem dX5_readPays_143 : decode cX5_readPays 143 = .ok (.invokevirtual 54, 3) := by decide +kernel
theorem dX5_readPays_146 : decode cX5_readPays 146 = .ok (.iinc 1 1, 3) := by decide +kernel
theorem dX5_readPays_149 : decode cX5_readPays 149 = .ok (.goto (-119), 3) := by decide +kernel
theorem dX5_readPays_152 : decode cX5_readPays 152 = .ok (.iconst 1, 1) := by decide +kernel
theorem dX5_readPays_153 : decode cX5_readPays 153 = .ok (.ireturn, 1) := by decide +kernel
theorem dX5_readThinks_0 : decode cX5_readThinks 0 = .ok (.aload_n 0, 1) := by decide +kernel
theorem dX5_readThinks_1 : decode cX5_readThinks 1 = .ok (.invokevirtual 54, 3) := by decide +kernel
theorem dX5_readThinks_4 : decode cX5_readThinks 4 = .ok (.aload_n 0, 1) := by decide +kernel
theorem dX5_readThinks_5 : decode cX5_readThinks 5 = .ok (.iconst 1, 1) := by decide +kernel
theorem dX5_readThinks_6 : decode cX5_readThinks 6 = .ok (.invokevirtual 211, 3) := by decide +kernel
theorem dX5_readThinks_9 : decode cX5_readThinks 9 = .ok (.ifCond .ne 5, 3) := by decide +kernel
theorem dX5_readThinks_12 : decode cX5_readThinks 12 = .ok (.iconst 0, 1) := by decide +kernel
theorem dX5_readThinks_13 : decode cX5_readThinks 13 = .ok (.ireturn, 1) := by decide +kernel
theorem dX5_readThinks_14 : decode cX5_readThinks 14 = .ok (.aload_n 0, 1) := by decide +kernel
theorem dX5_readThinks_15 : decode cX5_readThinks 15 = .ok (.getfield 191, 3) := by decide +kernel
theorem dX5_readThinks_18 : decode cX5_readThinks 18 = .ok (.istore_n 1, 1) := by decide +kernel
theorem dX5_readThinks_19 : decode cX5_readThinks 19 = .ok (.aload_n 0, 1) := by decide +kernel
theorem dX5_readThinks_20 : decode cX5_readThinks 20 = .ok (.getfield 36, 3) := by decide +kernel
theorem dX5_readThinks_23 : decode cX5_readThinks 23 = .ok (.getfield 67, 3) := by decide +kernel
theorem dX5_readThinks_26 : decode cX5_readThinks 26 = .ok (.iload_n 1, 1) := by decide +kernel
theorem dX5_readThinks_27 : decode cX5_readThinks 27 = .ok (.iconst 4, 1) := by decide +kernel
theorem dX5_readThinks_28 : decode cX5_readThinks 28 = .ok (.invokevirtual 214, 3) := by decide +kernel
theorem dX5_readThinks_31 : decode cX5_readThinks 31 = .ok (.bipush (-2), 2) := by decide +kernel
theorem dX5_readThinks_33 : decode cX5_readThinks 33 = .ok (.if_icmp .eq 9, 3) := by decide +kernel
theorem dX5_readThinks_36 : decode cX5_readThinks 36 = .ok (.aload_n 0, 1) := by decide +kernel
theorem dX5_readThinks_37 : decode cX5_readThinks 37 = .ok (.iconst 3, 1) := by decide +kernel
theorem dX5_readThinks_38 : decode cX5_readThinks 38 = .ok (.invokevirtual 79, 3) := by decide +kernel
theorem dX5_readThinks_41 : decode cX5_readThinks 41 = .ok (.ireturn, 1) := by decide +kernel
theorem dX5_readThinks_42 : decode cX5_readThinks 42 = .ok (.aload_n 0, 1) := by decide +kernel
theorem dX5_readThinks_43 : decode cX5_readThinks 43 = .ok (.invokevirtual 54, 3) := by decide +kernel
theorem dX5_readThinks_46 : decode cX5_readThinks 46 = .ok (.aload_n 0, 1) := by decide +kernel
theorem dX5_readThinks_47 : decode cX5_readThinks 47 = .ok (.iconst 0, 1) := by decide +kernel
theorem dX5_readThinks_48 : decode cX5_readThinks 48 = .ok (.iconst 4, 1) := by decide +kernel
theorem dX5_readThinks_49 : decode cX5_readThinks 49 = .ok (.invokevirtual 187, 3) := by decide +kernel
theorem dX5_readThinks_52 : decode cX5_readThinks 52 = .ok (.ifCond .ne 5, 3) := by decide +kernel
theorem dX5_readThinks_55 : decode cX5_readThinks 55 = .ok (.iconst 0, 1) := by decide +kernel
theorem dX5_readThinks_56 : decode cX5_readThinks 56 = .ok (.ireturn, 1) := by decide +kernel
theorem dX5_readThinks_57 : decode cX5_readThinks 57 = .ok (.aload_n 0, 1) := by decide +kernel
theorem dX5_readThinks_58 : decode cX5_readThinks 58 = .ok (.getfield 36, 3) := by decide +kernel
theorem dX5_readThinks_61 : decode cX5_readThinks 61 = .ok (.getfield 67, 3) := by decide +kernel
theorem dX5_readThinks_64 : decode cX5_readThinks 64 = .ok (.iload_n 1, 1) := by decide +kernel
theorem dX5_readThinks_65 : decode cX5_readThinks 65 = .ok (.iconst 4, 1) := by decide +kernel
theorem dX5_readThinks_66 : decode cX5_readThinks 66 = .ok (.aload_n 0, 1) := by decide +kernel
theorem dX5_readThinks_67 : decode cX5_readThinks 67 = .ok (.getfield 191, 3) := by decide +kernel
theorem dX5_readThinks_70 : decode cX5_readThinks 70 = .ok (.invokevirtual 217, 3) := by decide +kernel
theorem dX5_readThinks_73 : decode cX5_readThinks 73 = .ok (.aload_n 0, 1) := by decide +kernel
theorem dX5_readThinks_74 : decode cX5_readThinks 74 = .ok (.invokevirtual 54, 3) := by decide +kernel
theorem dX5_readThinks_77 : decode cX5_readThinks 77 = .ok (.iconst 1, 1) := by decide +kernel
theorem dX5_readThinks_78 : decode cX5_readThinks 78 = .ok (.ireturn, 1) := by decide +kernel
theorem dX5_readFelt_0 : decode cX5_readFelt 0 = .ok (.aload_n 0, 1) := by decide +kernel
theorem dX5_readFelt_1 : decode cX5_readFelt 1 = .ok (.getfield 36, 3) := by decide +kernel
theorem dX5_readFelt_4 : decode cX5_readFelt 4 = .ok (.getfield 152, 3) := by decide +kernel
theorem dX5_readFelt_7 : decode cX5_readFelt 7 = .ok (.astore_n 1, 1) := by decide +kernel
theorem dX5_readFelt_8 : decode cX5_readFelt 8 = .ok (.aload_n 1, 1) := by decide +kernel
theorem dX5_readFelt_9 : decode cX5_readFelt 9 = .ok (.iconst 0, 1) := by decide +kernel
theorem dX5_readFelt_10 : decode cX5_readFelt 10 = .ok (.iconst 0, 1) := by decide +kernel
theorem dX5_readFelt_11 : decode cX5_readFelt 11 = .ok (.invokevirtual 224, 3) := by decide +kernel
theorem dX5_readFelt_14 : decode cX5_readFelt 14 = .ok (.aload_n 0, 1) := by decide +kernel
theorem dX5_readFelt_15 : decode cX5_readFelt 15 = .ok (.iconst 1, 1) := by decide +kernel
theorem dX5_readFelt_16 : decode cX5_readFelt 16 = .ok (.bipush 99, 2) := by decide +kernel
theorem dX5_readFelt_18 : decode cX5_readFelt 18 = .ok (.invokevirtual 187, 3) := by decide +kernel
theorem dX5_readFelt_21 : decode cX5_readFelt 21 = .ok (.ifCond .eq 36, 3) := by decide +kernel
theorem dX5_readFelt_24 : decode cX5_readFelt 24 = .ok (.aload_n 0, 1) := by decide +kernel
theorem dX5_readFelt_25 : decode cX5_readFelt 25 = .ok (.aload_n 1, 1) := by decide +kernel
theorem dX5_readFelt_26 : decode cX5_readFelt 26 = .ok (.iconst 1, 1) := by decide +kernel
theorem dX5_readFelt_27 : decode cX5_readFelt 27 = .ok (.invokevirtual 233, 3) := by decide +kernel
theorem dX5_readFelt_30 : decode cX5_readFelt 30 = .ok (.ifCond .eq 27, 3) := by decide +kernel
theorem dX5_readFelt_33 : decode cX5_readFelt 33 = .ok (.aload_n 0, 1) := by decide +kernel
theorem dX5_readFelt_34 : decode cX5_readFelt 34 = .ok (.iconst 1, 1) := by decide +kernel
theorem dX5_readFelt_35 : decode cX5_readFelt 35 = .ok (.sipush 9999, 3) := by decide +kernel
theorem dX5_readFelt_38 : decode cX5_readFelt 38 = .ok (.invokevirtual 187, 3) := by decide +kernel
theorem dX5_readFelt_41 : decode cX5_readFelt 41 = .ok (.ifCond .eq 16, 3) := by decide +kernel
theorem dX5_readFelt_44 : decode cX5_readFelt 44 = .ok (.aload_n 0, 1) := by decide +kernel
theorem dX5_readFelt_45 : decode cX5_readFelt 45 = .ok (.aload_n 1, 1) := by decide +kernel
theorem dX5_readFelt_46 : decode cX5_readFelt 46 = .ok (.iconst 2, 1) := by decide +kernel
theorem dX5_readFelt_47 : decode cX5_readFelt 47 = .ok (.invokevirtual 233, 3) := by decide +kernel
theorem dX5_readFelt_50 : decode cX5_readFelt 50 = .ok (.ifCond .eq 7, 3) := by decide +kernel
theorem dX5_readFelt_53 : decode cX5_readFelt 53 = .ok (.iconst 1, 1) := by decide +kernel
theorem dX5_readFelt_54 : decode cX5_readFelt 54 = .ok (.goto 4, 3) := by decide +kernel
theorem dX5_readFelt_57 : decode cX5_readFelt 57 = .ok (.iconst 0, 1) := by decide +kernel
theorem dX5_readFelt_58 : decode cX5_readFelt 58 = .ok (.ireturn, 1) := by decide +kernel
theorem dX5_readCame_0 : decode cX5_readCame 0 = .ok (.aload_n 0, 1) := by decide +kernel
theorem dX5_readCame_1 : decode cX5_readCame 1 = .ok (.getfield 36, 3) := by decide +kernel
theorem dX5_readCame_4 : decode cX5_readCame 4 = .ok (.getfield 152, 3) := by decide +kernel
theorem dX5_readCame_7 : decode cX5_readCame 7 = .ok (.astore_n 1, 1) := by decide +kernel
theorem dX5_readCame_8 : decode cX5_readCame 8 = .ok (.aload_n 1, 1) := by decide +kernel
theorem dX5_readCame_9 : decode cX5_readCame 9 = .ok (.iconst 0, 1) := by decide +kernel
theorem dX5_readCame_10 : decode cX5_readCame 10 = .ok (.iconst 1, 1) := by decide +kernel
theorem dX5_readCame_11 : decode cX5_readCame 11 = .ok (.invokevirtual 224, 3) := by decide +kernel
theorem dX5_readCame_14 : decode cX5_readCame 14 = .ok (.aload_n 0, 1) := by decide +kernel
theorem dX5_readCame_15 : decode cX5_readCame 15 = .ok (.iconst 1, 1) := by decide +kernel
theorem dX5_readCame_16 : decode cX5_readCame 16 = .ok (.sipush 9999, 3) := by decide +kernel
theorem dX5_readCame_19 : decode cX5_readCame 19 = .ok (.invokevirtual 187, 3) := by decide +kernel
theorem dX5_readCame_22 : decode cX5_readCame 22 = .ok (.ifCond .eq 36, 3) := by decide +kernel
theorem dX5_readCame_25 : decode cX5_readCame 25 = .ok (.aload_n 0, 1) := by decide +kernel
theorem dX5_readCame_26 : decode cX5_readCame 26 = .ok (.aload_n 1, 1) := by decide +kernel
theorem dX5_readCame_27 : decode cX5_readCame 27 = .ok (.iconst 1, 1) := by decide +kernel
theorem dX5_readCame_28 : decode cX5_readCame 28 = .ok (.invokevirtual 233, 3) := by decide +kernel
theorem dX5_readCame_31 : decode cX5_readCame 31 = .ok (.ifCond .eq 27, 3) := by decide +kernel
theorem dX5_readCame_34 : decode cX5_readCame 34 = .ok (.aload_n 0, 1) := by decide +kernel
theorem dX5_readCame_35 : decode cX5_readCame 35 = .ok (.iconst 0, 1) := by decide +kernel
theorem dX5_readCame_36 : decode cX5_readCame 36 = .ok (.sipush 9999, 3) := by decide +kernel
theorem dX5_readCame_39 : decode cX5_readCame 39 = .ok (.invokevirtual 187, 3) := by decide +kernel
theorem dX5_readCame_42 : decode cX5_readCame 42 = .ok (.ifCond .eq 16, 3) := by decide +kernel
theorem dX5_readCame_45 : decode cX5_readCame 45 = .ok (.aload_n 0, 1) := by decide +kernel
theorem dX5_readCame_46 : decode cX5_readCame 46 = .ok (.aload_n 1, 1) := by decide +kernel
theorem dX5_readCame_47 : decode cX5_readCame 47 = .ok (.iconst 2, 1) := by decide +kernel
theorem dX5_readCame_48 : decode cX5_readCame 48 = .ok (.invokevirtual 233, 3) := by decide +kernel
theorem dX5_readCame_51 : decode cX5_readCame 51 = .ok (.ifCond .eq 7, 3) := by decide +kernel
theorem dX5_readCame_54 : decode cX5_readCame 54 = .ok (.iconst 1, 1) := by decide +kernel
theorem dX5_readCame_55 : decode cX5_readCame 55 = .ok (.goto 4, 3) := by decide +kernel
theorem dX5_readCame_58 : decode cX5_readCame 58 = .ok (.iconst 0, 1) := by decide +kernel
theorem dX5_readCame_59 : decode cX5_readCame 59 = .ok (.ireturn, 1) := by decide +kernel
theorem dX5_readDid_0 : decode cX5_readDid 0 = .ok (.aload_n 0, 1) := by decide +kernel
theorem dX5_readDid_1 : decode cX5_readDid 1 = .ok (.getfield 36, 3) := by decide +kernel
theorem dX5_readDid_4 : decode cX5_readDid 4 = .ok (.getfield 163, 3) := by decide +kernel
theorem dX5_readDid_7 : decode cX5_readDid 7 = .ok (.astore_n 1, 1) := by decide +kernel
theorem dX5_readDid_8 : decode cX5_readDid 8 = .ok (.aload_n 0, 1) := by decide +kernel
theorem dX5_readDid_9 : decode cX5_readDid 9 = .ok (.iconst 1, 1) := by decide +kernel
theorem dX5_readDid_10 : decode cX5_readDid 10 = .ok (.sipush 9999, 3) := by decide +kernel
theorem dX5_readDid_13 : decode cX5_readDid 13 = .ok (.invokevirtual 187, 3) := by decide +kernel
theorem dX5_readDid_16 : decode cX5_readDid 16 = .ok (.ifCond .eq 79, 3) := by decide +kernel
theorem dX5_readDid_19 : decode cX5_readDid 19 = .ok (.aload_n 0, 1) := by decide +kernel
theorem dX5_readDid_20 : decode cX5_readDid 20 = .ok (.aload_n 1, 1) := by decide +kernel
theorem dX5_readDid_21 : decode cX5_readDid 21 = .ok (.iconst 0, 1) := by decide +kernel
theorem dX5_readDid_22 : decode cX5_readDid 22 = .ok (.invokevirtual 233, 3) := by decide +kernel
theorem dX5_readDid_25 : decode cX5_readDid 25 = .ok (.ifCond .eq 70, 3) := by decide +kernel
theorem dX5_readDid_28 : decode cX5_readDid 28 = .ok (.aload_n 0, 1) := by decide +kernel
theorem dX5_readDid_29 : decode cX5_readDid 29 = .ok (.ldc 254, 2) := by decide +kernel
theorem dX5_readDid_31 : decode cX5_readDid 31 = .ok (.invokevirtual 179, 3) := by decide +kernel
theorem dX5_readDid_34 : decode cX5_readDid 34 = .ok (.ifCond .eq 61, 3) := by decide +kernel
theorem dX5_readDid_37 : decode cX5_readDid 37 = .ok (.aload_n 0, 1) := by decide +kernel
theorem dX5_readDid_38 : decode cX5_readDid 38 = .ok (.iconst 1, 1) := by decide +kernel
theorem dX5_readDid_39 : decode cX5_readDid 39 = .ok (.aload_n 0, 1) := by decide +kernel
theorem dX5_readDid_40 : decode cX5_readDid 40 = .ok (.getfield 36, 3) := by decide +kernel
theorem dX5_readDid_43 : decode cX5_readDid 43 = .ok (.getfield 91, 3) := by decide +kernel
theorem dX5_readDid_46 : decode cX5_readDid 46 = .ok (.invokevirtual 187, 3) := by decide +kernel
theorem dX5_readDid_49 : decode cX5_readDid 49 = .ok (.ifCond .eq 46, 3) := by decide +kernel
theorem dX5_readDid_52 : decode cX5_readDid 52 = .ok (.aload_n 0, 1) := by decide +kernel
theorem dX5_readDid_53 : decode cX5_readDid 53 = .ok (.aload_n 1, 1) := by decide +kernel
theorem dX5_readDid_54 : decode cX5_readDid 54 = .ok (.iconst 1, 1) := by decide +kernel
theorem dX5_readDid_55 : decode cX5_readDid 55 = .ok (.invokevirtual 233, 3) := by decide +kernel
theorem dX5_readDid_58 : decode cX5_readDid 58 = .ok (.ifCond .eq 37, 3) := by decide +kernel
theorem dX5_readDid_61 : decode cX5_readDid 61 = .ok (.aload_n 0, 1) := by decide +kernel
theorem dX5_readDid_62 : decode cX5_readDid 62 = .ok (.ldc_w 263, 3) := by decide +kernel
theorem dX5_readDid_65 : decode cX5_readDid 65 = .ok (.invokevirtual 179, 3) := by decide +kernel
theorem dX5_readDid_68 : decode cX5_readDid 68 = .ok (.ifCond .eq 27, 3) := by decide +kernel
theorem dX5_readDid_71 : decode cX5_readDid 71 = .ok (.aload_n 0, 1) := by decide +kernel
theorem dX5_readDid_72 : decode cX5_readDid 72 = .ok (.iconst 1, 1) := by decide +kernel
theorem dX5_readDid_73 : decode cX5_readDid 73 = .ok (.sipush 999, 3) := by decide +kernel
theorem dX5_readDid_76 : decode cX5_readDid 76 = .ok (.invokevirtual 187, 3) := by decide +kernel
theorem dX5_readDid_79 : decode cX5_readDid 79 = .ok (.ifCond .eq 16, 3) := by decide +kernel
theorem dX5_readDid_82 : decode cX5_readDid 82 = .ok (.aload_n 0, 1) := by decide +kernel
theorem dX5_readDid_83 : decode cX5_readDid 83 = .ok (.aload_n 1, 1) := by decide +kernel
theorem dX5_readDid_84 : decode cX5_readDid 84 = .ok (.iconst 2, 1) := by decide +kernel
theorem dX5_readDid_85 : decode cX5_readDid 85 = .ok (.invokevirtual 233, 3) := by decide +kernel
theorem dX5_readDid_88 : decode cX5_readDid 88 = .ok (.ifCond .eq 7, 3) := by decide +kernel
theorem dX5_readDid_91 : decode cX5_readDid 91 = .ok (.iconst 1, 1) := by decide +kernel
theorem dX5_readDid_92 : decode cX5_readDid 92 = .ok (.goto 4, 3) := by decide +kernel
theorem dX5_readDid_95 : decode cX5_readDid 95 = .ok (.iconst 0, 1) := by decide +kernel
theorem dX5_readDid_96 : decode cX5_readDid 96 = .ok (.ireturn, 1) := by decide +kernel
theorem dX5_readLine_0 : decode cX5_readLine 0 = .ok (.aload_n 0, 1) := by decide +kernel
theorem dX5_readLine_1 : decode cX5_readLine 1 = .ok (.invokevirtual 76, 3) := by decide +kernel
theorem dX5_readLine_4 : decode cX5_readLine 4 = .ok (.ifCond .ne 9, 3) := by decide +kernel
theorem dX5_readLine_7 : decode cX5_readLine 7 = .ok (.aload_n 0, 1) := by decide +kernel
theorem dX5_readLine_8 : decode cX5_readLine 8 = .ok (.iconst 1, 1) := by decide +kernel
theorem dX5_readLine_9 : decode cX5_readLine 9 = .ok (.invokevirtual 79, 3) := by decide +kernel
theorem dX5_readLine_12 : decode cX5_readLine 12 = .ok (.ireturn, 1) := by decide +kernel
theorem dX5_readLine_13 : decode cX5_readLine 13 = .ok (.aload_n 0, 1) := by decide +kernel
theorem dX5_readLine_14 : decode cX5_readLine 14 = .ok (.ldc 83, 2) := by decide +kernel
theorem dX5_readLine_16 : decode cX5_readLine 16 = .ok (.invokevirtual 84, 3) := by decide +kernel
theorem dX5_readLine_19 : decode cX5_readLine 19 = .ok (.ifCond .eq 8, 3) := by decide +kernel
theorem dX5_readLine_22 : decode cX5_readLine 22 = .ok (.aload_n 0, 1) := by decide +kernel
theorem dX5_readLine_23 : decode cX5_readLine 23 = .ok (.invokevirtual 88, 3) := by decide +kernel
theorem dX5_readLine_26 : decode cX5_readLine 26 = .ok (.ireturn, 1) := by decide +kernel
theorem dX5_readLine_27 : decode cX5_readLine 27 = .ok (.aload_n 0, 1) := by decide +kernel
theorem dX5_readLine_28 : decode cX5_readLine 28 = .ok (.getfield 36, 3) := by decide +kernel
theorem dX5_readLine_31 : decode cX5_readLine 31 = .ok (.getfield 91, 3) := by decide +kernel
theorem dX5_readLine_34 : decode cX5_readLine 34 = .ok (.ifCond .ne 10, 3) := by decide +kernel
theorem dX5_readLine_37 : decode cX5_readLine 37 = .ok (.aload_n 0, 1) := by decide +kernel
theorem dX5_readLine_38 : decode cX5_readLine 38 = .ok (.bipush 6, 2) := by decide +kernel
theorem dX5_readLine_40 : decode cX5_readLine 40 = .ok (.invokevirtual 79, 3) := by decide +kernel
theorem dX5_readLine_43 : decode cX5_readLine 43 = .ok (.ireturn, 1) := by decide +kernel
theorem dX5_readLine_44 : decode cX5_readLine 44 = .ok (.aload_n 0, 1) := by decide +kernel
theorem dX5_readLine_45 : decode cX5_readLine 45 = .ok (.ldc 94, 2) := by decide +kernel
theorem dX5_readLine_47 : decode cX5_readLine 47 = .ok (.invokevirtual 84, 3) := by decide +kernel
theorem dX5_readLine_50 : decode cX5_readLine 50 = .ok (.ifCond .eq 8, 3) := by decide +kernel
theorem dX5_readLine_53 : decode cX5_readLine 53 = .ok (.aload_n 0, 1) := by decide +kernel
theorem dX5_readLine_54 : decode cX5_readLine 54 = .ok (.invokevirtual 96, 3) := by decide +kernel
theorem dX5_readLine_57 : decode cX5_readLine 57 = .ok (.ireturn, 1) := by decide +kernel
theorem dX5_readLine_58 : decode cX5_readLine 58 = .ok (.aload_n 0, 1) := by decide +kernel
theorem dX5_readLine_59 : decode cX5_readLine 59 = .ok (.ldc 99, 2) := by decide +kernel
theorem dX5_readLine_61 : decode cX5_readLine 61 = .ok (.invokevirtual 84, 3) := by decide +kernel
theorem dX5_readLine_64 : decode cX5_readLine 64 = .ok (.ifCond .eq 30, 3) := by decide +kernel
theorem dX5_readLine_67 : decode cX5_readLine 67 = .ok (.aload_n 0, 1) := by decide +kernel
theorem dX5_readLine_68 : decode cX5_readLine 68 = .ok (.aload_n 0, 1) := by decide +kernel
theorem dX5_readLine_69 : decode cX5_readLine 69 = .ok (.getfield 36, 3) := by decide +kernel
theorem dX5_readLine_72 : decode cX5_readLine 72 = .ok (.getfield 67, 3) := by decide +kernel
theorem dX5_readLine_75 : decode cX5_readLine 75 = .ok (.invokevirtual 101, 3) := by decide +kernel
theorem dX5_readLine_78 : decode cX5_readLine 78 = .ok (.ifCond .eq 14, 3) := by decide +kernel
theorem dX5_readLine_81 : decode cX5_readLine 81 = .ok (.aload_n 0, 1) := by decide +kernel
theorem dX5_readLine_82 : decode cX5_readLine 82 = .ok (.invokevirtual 105, 3) := by decide +kernel
theorem dX5_readLine_85 : decode cX5_readLine 85 = .ok (.ifCond .eq 7, 3) := by decide +kernel
theorem dX5_readLine_88 : decode cX5_readLine 88 = .ok (.iconst 1, 1) := by decide +kernel
theorem dX5_readLine_89 : decode cX5_readLine 89 = .ok (.goto 4, 3) := by decide +kernel
theorem dX5_readLine_92 : decode cX5_readLine 92 = .ok (.iconst 0, 1) := by decide +kernel
theorem dX5_readLine_93 : decode cX5_readLine 93 = .ok (.ireturn, 1) := by decide +kernel
theorem dX5_readLine_94 : decode cX5_readLine 94 = .ok (.aload_n 0, 1) := by decide +kernel
theorem dX5_readLine_95 : decode cX5_readLine 95 = .ok (.ldc 108, 2) := by decide +kernel
theorem dX5_readLine_97 : decode cX5_readLine 97 = .ok (.invokevirtual 84, 3) := by decide +kernel
theorem dX5_readLine_100 : decode cX5_readLine 100 = .ok (.ifCond .eq 37, 3) := by decide +kernel
theorem dX5_readLine_103 : decode cX5_readLine 103 = .ok (.aload_n 0, 1) := by decide +kernel
theorem dX5_readLine_104 : decode cX5_readLine 104 = .ok (.aload_n 0, 1) := by decide +kernel
theorem dX5_readLine_105 : decode cX5_readLine 105 = .ok (.getfield 36, 3) := by decide +kernel
theorem dX5_readLine_108 : decode cX5_readLine 108 = .ok (.getfield 110, 3) := by decide +kernel
theorem dX5_readLine_111 : decode cX5_readLine 111 = .ok (.invokevirtual 101, 3) := by decide +kernel
theorem dX5_readLine_114 : decode cX5_readLine 114 = .ok (.ifCond .eq 21, 3) := by decide +kernel
theorem dX5_readLine_117 : decode cX5_readLine 117 = .ok (.aload_n 0, 1) := by decide +kernel
theorem dX5_readLine_118 : decode cX5_readLine 118 = .ok (.invokevirtual 113, 3) := by decide +kernel
theorem dX5_readLine_121 : decode cX5_readLine 121 = .ok (.ifCond .eq 14, 3) := by decide +kernel
theorem dX5_readLine_124 : decode cX5_readLine 124 = .ok (.aload_n 0, 1) := by decide +kernel
theorem dX5_readLine_125 : decode cX5_readLine 125 = .ok (.invokevirtual 116, 3) := by decide +kernel
theorem dX5_readLine_128 : decode cX5_readLine 128 = .ok (.ifCond .eq 7, 3) := by decide +kernel
theorem dX5_readLine_131 : decode cX5_readLine 131 = .ok (.iconst 1, 1) := by decide +kernel
theorem dX5_readLine_132 : decode cX5_readLine 132 = .ok (.goto 4, 3) := by decide +kernel
theorem dX5_readLine_135 : decode cX5_readLine 135 = .ok (.iconst 0, 1) := by decide +kernel
theorem dX5_readLine_136 : decode cX5_readLine 136 = .ok (.ireturn, 1) := by decide +kernel
theorem dX5_readLine_137 : decode cX5_readLine 137 = .ok (.aload_n 0, 1) := by decide +kernel
theorem dX5_readLine_138 : decode cX5_readLine 138 = .ok (.ldc 119, 2) := by decide +kernel
theorem dX5_readLine_140 : decode cX5_readLine 140 = .ok (.invokevirtual 84, 3) := by decide +kernel
theorem dX5_readLine_143 : decode cX5_readLine 143 = .ok (.ifCond .eq 37, 3) := by decide +kernel
theorem dX5_readLine_146 : decode cX5_readLine 146 = .ok (.aload_n 0, 1) := by decide +kernel
theorem dX5_readLine_147 : decode cX5_readLine 147 = .ok (.aload_n 0, 1) := by decide +kernel
theorem dX5_readLine_148 : decode cX5_readLine 148 = .ok (.getfield 36, 3) := by decide +kernel
theorem dX5_readLine_151 : decode cX5_readLine 151 = .ok (.getfield 110, 3) := by decide +kernel
theorem dX5_readLine_154 : decode cX5_readLine 154 = .ok (.invokevirtual 101, 3) := by decide +kernel
theorem dX5_readLine_157 : decode cX5_readLine 157 = .ok (.ifCond .eq 21, 3) := by decide +kernel
theorem dX5_readLine_160 : decode cX5_readLine 160 = .ok (.aload_n 0, 1) := by decide +kernel
theorem dX5_readLine_161 : decode cX5_readLine 161 = .ok (.invokevirtual 121, 3) := by decide +kernel
theorem dX5_readLine_164 : decode cX5_readLine 164 = .ok (.ifCond .eq 14, 3) := by decide +kernel
theorem dX5_readLine_167 : decode cX5_readLine 167 = .ok (.aload_n 0, 1) := by decide +kernel
theorem dX5_readLine_168 : decode cX5_readLine 168 = .ok (.invokevirtual 116, 3) := by decide +kernel
theorem dX5_readLine_171 : decode cX5_readLine 171 = .ok (.ifCond .eq 7, 3) := by decide +kernel
theorem dX5_readLine_174 : decode cX5_readLine 174 = .ok (.iconst 1, 1) := by decide +kernel
theorem dX5_readLine_175 : decode cX5_readLine 175 = .ok (.goto 4, 3) := by decide +kernel
theorem dX5_readLine_178 : decode cX5_readLine 178 = .ok (.iconst 0, 1) := by decide +kernel
theorem dX5_readLine_179 : decode cX5_readLine 179 = .ok (.ireturn, 1) := by decide +kernel
theorem dX5_readLine_180 : decode cX5_readLine 180 = .ok (.aload_n 0, 1) := by decide +kernel
theorem dX5_readLine_181 : decode cX5_readLine 181 = .ok (.ldc 124, 2) := by decide +kernel
theorem dX5_readLine_183 : decode cX5_readLine 183 = .ok (.invokevirtual 84, 3) := by decide +kernel
theorem dX5_readLine_186 : decode cX5_readLine 186 = .ok (.ifCond .eq 30, 3) := by decide +kernel
theorem dX5_readLine_189 : decode cX5_readLine 189 = .ok (.aload_n 0, 1) := by decide +kernel
theorem dX5_readLine_190 : decode cX5_readLine 190 = .ok (.aload_n 0, 1) := by decide +kernel
theorem dX5_readLine_191 : decode cX5_readLine 191 = .ok (.getfield 36, 3) := by decide +kernel
theorem dX5_readLine_194 : decode cX5_readLine 194 = .ok (.getfield 126, 3) := by decide +kernel
theorem dX5_readLine_197 : decode cX5_readLine 197 = .ok (.invokevirtual 101, 3) := by decide +kernel
theorem dX5_readLine_200 : decode cX5_readLine 200 = .ok (.ifCond .eq 14, 3) := by decide +kernel
theorem dX5_readLine_203 : decode cX5_readLine 203 = .ok (.aload_n 0, 1) := by decide +kernel
theorem dX5_readLine_204 : decode cX5_readLine 204 = .ok (.invokevirtual 129, 3) := by decide +kernel
theorem dX5_readLine_207 : decode cX5_readLine 207 = .ok (.ifCond .eq 7, 3) := by decide +kernel
theorem dX5_readLine_210 : decode cX5_readLine 210 = .ok (.iconst 1, 1) := by decide +kernel
theorem dX5_readLine_211 : decode cX5_readLine 211 = .ok (.goto 4, 3) := by decide +kernel
theorem dX5_readLine_214 : decode cX5_readLine 214 = .ok (.iconst 0, 1) := by decide +kernel
theorem dX5_readLine_215 : decode cX5_readLine 215 = .ok (.ireturn, 1) := by decide +kernel
theorem dX5_readLine_216 : decode cX5_readLine 216 = .ok (.aload_n 0, 1) := by decide +kernel
theorem dX5_readLine_217 : decode cX5_readLine 217 = .ok (.ldc 132, 2) := by decide +kernel
theorem dX5_readLine_219 : decode cX5_readLine 219 = .ok (.invokevirtual 84, 3) := by decide +kernel
theorem dX5_readLine_222 : decode cX5_readLine 222 = .ok (.ifCond .eq 30, 3) := by decide +kernel
theorem dX5_readLine_225 : decode cX5_readLine 225 = .ok (.aload_n 0, 1) := by decide +kernel
theorem dX5_readLine_226 : decode cX5_readLine 226 = .ok (.aload_n 0, 1) := by decide +kernel
theorem dX5_readLine_227 : decode cX5_readLine 227 = .ok (.getfield 36, 3) := by decide +kernel
theorem dX5_readLine_230 : decode cX5_readLine 230 = .ok (.getfield 134, 3) := by decide +kernel
theorem dX5_readLine_233 : decode cX5_readLine 233 = .ok (.invokevirtual 101, 3) := by decide +kernel
theorem dX5_readLine_236 : decode cX5_readLine 236 = .ok (.ifCond .eq 14, 3) := by decide +kernel
theorem dX5_readLine_239 : decode cX5_readLine 239 = .ok (.aload_n 0, 1) := by decide +kernel
theorem dX5_readLine_240 : decode cX5_readLine 240 = .ok (.invokevirtual 137, 3) := by decide +kernel
theorem dX5_readLine_243 : decode cX5_readLine 243 = .ok (.ifCond .eq 7, 3) := by decide +kernel
theorem dX5_readLine_246 : decode cX5_readLine 246 = .ok (.iconst 1, 1) := by decide +kernel
theorem dX5_readLine_247 : decode cX5_readLine 247 = .ok (.goto 4, 3) := by decide +kernel
theorem dX5_readLine_250 : decode cX5_readLine 250 = .ok (.iconst 0, 1) := by decide +kernel
theorem dX5_readLine_251 : decode cX5_readLine 251 = .ok (.ireturn, 1) := by decide +kernel
theorem dX5_readLine_252 : decode cX5_readLine 252 = .ok (.aload_n 0, 1) := by decide +kernel
theorem dX5_readLine_253 : decode cX5_readLine 253 = .ok (.ldc 140, 2) := by decide +kernel
theorem dX5_readLine_255 : decode cX5_readLine 255 = .ok (.invokevirtual 84, 3) := by decide +kernel
theorem dX5_readLine_258 : decode cX5_readLine 258 = .ok (.ifCond .eq 8, 3) := by decide +kernel
theorem dX5_readLine_261 : decode cX5_readLine 261 = .ok (.aload_n 0, 1) := by decide +kernel
theorem dX5_readLine_262 : decode cX5_readLine 262 = .ok (.invokevirtual 142, 3) := by decide +kernel
theorem dX5_readLine_265 : decode cX5_readLine 265 = .ok (.ireturn, 1) := by decide +kernel
theorem dX5_readLine_266 : decode cX5_readLine 266 = .ok (.aload_n 0, 1) := by decide +kernel
theorem dX5_readLine_267 : decode cX5_readLine 267 = .ok (.ldc 145, 2) := by decide +kernel
theorem dX5_readLine_269 : decode cX5_readLine 269 = .ok (.invokevirtual 84, 3) := by decide +kernel
theorem dX5_readLine_272 : decode cX5_readLine 272 = .ok (.ifCond .eq 8, 3) := by decide +kernel
theorem dX5_readLine_275 : decode cX5_readLine 275 = .ok (.aload_n 0, 1) := by decide +kernel
theorem dX5_readLine_276 : decode cX5_readLine 276 = .ok (.invokevirtual 147, 3) := by decide +kernel
theorem dX5_readLine_279 : decode cX5_readLine 279 = .ok (.ireturn, 1) := by decide +kernel
theorem dX5_readLine_280 : decode cX5_readLine 280 = .ok (.aload_n 0, 1) := by decide +kernel
theorem dX5_readLine_281 : decode cX5_readLine 281 = .ok (.ldc 150, 2) := by decide +kernel
theorem dX5_readLine_283 : decode cX5_readLine 283 = .ok (.invokevirtual 84, 3) := by decide +kernel
theorem dX5_readLine_286 : decode cX5_readLine 286 = .ok (.ifCond .eq 30, 3) := by decide +kernel
theorem dX5_readLine_289 : decode cX5_readLine 289 = .ok (.aload_n 0, 1) := by decide +kernel
theorem dX5_readLine_290 : decode cX5_readLine 290 = .ok (.aload_n 0, 1) := by decide +kernel
theorem dX5_readLine_291 : decode cX5_readLine 291 = .ok (.getfield 36, 3) := by decide +kernel
theorem dX5_readLine_294 : decode cX5_readLine 294 = .ok (.getfield 152, 3) := by decide +kernel
theorem dX5_readLine_297 : decode cX5_readLine 297 = .ok (.invokevirtual 101, 3) := by decide +kernel
theorem dX5_readLine_300 : decode cX5_readLine 300 = .ok (.ifCond .eq 14, 3) := by decide +kernel
theorem dX5_readLine_303 : decode cX5_readLine 303 = .ok (.aload_n 0, 1) := by decide +kernel
theorem dX5_readLine_304 : decode cX5_readLine 304 = .ok (.invokevirtual 155, 3) := by decide +kernel
theorem dX5_readLine_307 : decode cX5_readLine 307 = .ok (.ifCond .eq 7, 3) := by decide +kernel
theorem dX5_readLine_310 : decode cX5_readLine 310 = .ok (.iconst 1, 1) := by decide +kernel
theorem dX5_readLine_311 : decode cX5_readLine 311 = .ok (.goto 4, 3) := by decide +kernel
theorem dX5_readLine_314 : decode cX5_readLine 314 = .ok (.iconst 0, 1) := by decide +kernel
theorem dX5_readLine_315 : decode cX5_readLine 315 = .ok (.ireturn, 1) := by decide +kernel
theorem dX5_readLine_316 : decode cX5_readLine 316 = .ok (.aload_n 0, 1) := by decide +kernel
theorem dX5_readLine_317 : decode cX5_readLine 317 = .ok (.ldc 158, 2) := by decide +kernel
theorem dX5_readLine_319 : decode cX5_readLine 319 = .ok (.invokevirtual 84, 3) := by decide +kernel
theorem dX5_readLine_322 : decode cX5_readLine 322 = .ok (.ifCond .eq 30, 3) := by decide +kernel
theorem dX5_readLine_325 : decode cX5_readLine 325 = .ok (.aload_n 0, 1) := by decide +kernel
theorem dX5_readLine_326 : decode cX5_readLine 326 = .ok (.aload_n 0, 1) := by decide +kernel
theorem dX5_readLine_327 : decode cX5_readLine 327 = .ok (.getfield 36, 3) := by decide +kernel
theorem dX5_readLine_330 : decode cX5_readLine 330 = .ok (.getfield 152, 3) := by decide +kernel
theorem dX5_readLine_333 : decode cX5_readLine 333 = .ok (.invokevirtual 101, 3) := by decide +kernel
theorem dX5_readLine_336 : decode cX5_readLine 336 = .ok (.ifCond .eq 14, 3) := by decide +kernel
theorem dX5_readLine_339 : decode cX5_readLine 339 = .ok (.aload_n 0, 1) := by decide +kernel
theorem dX5_readLine_340 : decode cX5_readLine 340 = .ok (.invokevirtual 160, 3) := by decide +kernel
theorem dX5_readLine_343 : decode cX5_readLine 343 = .ok (.ifCond .eq 7, 3) := by decide +kernel
theorem dX5_readLine_346 : decode cX5_readLine 346 = .ok (.iconst 1, 1) := by decide +kernel
theorem dX5_readLine_347 : decode cX5_readLine 347 = .ok (.goto 4, 3) := by decide +kernel
theorem dX5_readLine_350 : decode cX5_readLine 350 = .ok (.iconst 0, 1) := by decide +kernel
theorem dX5_readLine_351 : decode cX5_readLine 351 = .ok (.ireturn, 1) := by decide +kernel
theorem dX5_readLine_352 : decode cX5_readLine 352 = .ok (.aload_n 0, 1) := by decide +kernel
theorem dX5_readLine_353 : decode cX5_readLine 353 = .ok (.aload_n 0, 1) := by decide +kernel
theorem dX5_readLine_354 : decode cX5_readLine 354 = .ok (.getfield 36, 3) := by decide +kernel
theorem dX5_readLine_357 : decode cX5_readLine 357 = .ok (.getfield 163, 3) := by decide +kernel
theorem dX5_readLine_360 : decode cX5_readLine 360 = .ok (.invokevirtual 101, 3) := by decide +kernel
theorem dX5_readLine_363 : decode cX5_readLine 363 = .ok (.ifCond .eq 14, 3) := by decide +kernel
theorem dX5_readLine_366 : decode cX5_readLine 366 = .ok (.aload_n 0, 1) := by decide +kernel
theorem dX5_readLine_367 : decode cX5_readLine 367 = .ok (.invokevirtual 166, 3) := by decide +kernel
theorem dX5_readLine_370 : decode cX5_readLine 370 = .ok (.ifCond .eq 7, 3) := by decide +kernel
theorem dX5_readLine_373 : decode cX5_readLine 373 = .ok (.iconst 1, 1) := by decide +kernel
theorem dX5_readLine_374 : decode cX5_readLine 374 = .ok (.goto 4, 3) := by decide +kernel
theorem dX5_readLine_377 : decode cX5_readLine 377 = .ok (.iconst 0, 1) := by decide +kernel
theorem dX5_readLine_378 : decode cX5_readLine 378 = .ok (.ireturn, 1) := by decide +kernel
theorem dX5_read_0 : decode cX5_read 0 = .ok (.aload_n 0, 1) := by decide +kernel
theorem dX5_read_1 : decode cX5_read 1 = .ok (.aload_n 1, 1) := by decide +kernel
theorem dX5_read_2 : decode cX5_read 2 = .ok (.putfield 22, 3) := by decide +kernel
theorem dX5_read_5 : decode cX5_read 5 = .ok (.aload_n 0, 1) := by decide +kernel
theorem dX5_read_6 : decode cX5_read 6 = .ok (.iload_n 2, 1) := by decide +kernel
theorem dX5_read_7 : decode cX5_read 7 = .ok (.aload_n 1, 1) := by decide +kernel
theorem dX5_read_8 : decode cX5_read 8 = .ok (.arraylength, 1) := by decide +kernel
theorem dX5_read_9 : decode cX5_read 9 = .ok (.invokestatic 26, 3) := by decide +kernel
theorem dX5_read_12 : decode cX5_read 12 = .ok (.putfield 32, 3) := by decide +kernel
theorem dX5_read_15 : decode cX5_read 15 = .ok (.aload_n 0, 1) := by decide +kernel
theorem dX5_read_16 : decode cX5_read 16 = .ok (.aload_n 3, 1) := by decide +kernel
theorem dX5_read_17 : decode cX5_read 17 = .ok (.putfield 36, 3) := by decide +kernel
theorem dX5_read_20 : decode cX5_read 20 = .ok (.aload_n 0, 1) := by decide +kernel
theorem dX5_read_21 : decode cX5_read 21 = .ok (.getfield 36, 3) := by decide +kernel
theorem dX5_read_24 : decode cX5_read 24 = .ok (.invokevirtual 40, 3) := by decide +kernel
theorem dX5_read_27 : decode cX5_read 27 = .ok (.aload_n 0, 1) := by decide +kernel
theorem dX5_read_28 : decode cX5_read 28 = .ok (.iconst 0, 1) := by decide +kernel
theorem dX5_read_29 : decode cX5_read 29 = .ok (.putfield 45, 3) := by decide +kernel
theorem dX5_read_32 : decode cX5_read 32 = .ok (.aload_n 0, 1) := by decide +kernel
theorem dX5_read_33 : decode cX5_read 33 = .ok (.iconst 0, 1) := by decide +kernel
theorem dX5_read_34 : decode cX5_read 34 = .ok (.putfield 48, 3) := by decide +kernel
theorem dX5_read_37 : decode cX5_read 37 = .ok (.aload_n 0, 1) := by decide +kernel
theorem dX5_read_38 : decode cX5_read 38 = .ok (.iconst 0, 1) := by decide +kernel
theorem dX5_read_39 : decode cX5_read 39 = .ok (.putfield 51, 3) := by decide +kernel
theorem dX5_read_42 : decode cX5_read 42 = .ok (.aload_n 0, 1) := by decide +kernel
theorem dX5_read_43 : decode cX5_read 43 = .ok (.invokevirtual 54, 3) := by decide +kernel
theorem dX5_read_46 : decode cX5_read 46 = .ok (.iconst 0, 1) := by decide +kernel
theorem dX5_read_47 : decode cX5_read 47 = .ok (.istore 4, 2) := by decide +kernel
theorem dX5_read_49 : decode cX5_read 49 = .ok (.iload 4, 2) := by decide +kernel
theorem dX5_read_51 : decode cX5_read 51 = .ok (.aload_n 0, 1) := by decide +kernel
theorem dX5_read_52 : decode cX5_read 52 = .ok (.getfield 32, 3) := by decide +kernel
theorem dX5_read_55 : decode cX5_read 55 = .ok (.if_icmp .gt 68, 3) := by decide +kernel
theorem dX5_read_58 : decode cX5_read 58 = .ok (.aload_n 0, 1) := by decide +kernel
theorem dX5_read_59 : decode cX5_read 59 = .ok (.invokevirtual 57, 3) := by decide +kernel
theorem dX5_read_62 : decode cX5_read 62 = .ok (.ifCond .eq 61, 3) := by decide +kernel
theorem dX5_read_65 : decode cX5_read 65 = .ok (.aload_n 0, 1) := by decide +kernel
theorem dX5_read_66 : decode cX5_read 66 = .ok (.getfield 61, 3) := by decide +kernel
theorem dX5_read_69 : decode cX5_read 69 = .ok (.iconst 5, 1) := by decide +kernel
theorem dX5_read_70 : decode cX5_read 70 = .ok (.if_icmp .ne 33, 3) := by decide +kernel
theorem dX5_read_73 : decode cX5_read 73 = .ok (.aload_n 0, 1) := by decide +kernel
theorem dX5_read_74 : decode cX5_read 74 = .ok (.getfield 36, 3) := by decide +kernel
theorem dX5_read_77 : decode cX5_read 77 = .ok (.getfield 64, 3) := by decide +kernel
theorem dX5_read_80 : decode cX5_read 80 = .ok (.ifCond .eq 16, 3) := by decide +kernel
theorem dX5_read_83 : decode cX5_read 83 = .ok (.aload_n 0, 1) := by decide +kernel
theorem dX5_read_84 : decode cX5_read 84 = .ok (.getfield 36, 3) := by decide +kernel
theorem dX5_read_87 : decode cX5_read 87 = .ok (.getfield 67, 3) := by decide +kernel
theorem dX5_read_90 : decode cX5_read 90 = .ok (.getfield 71, 3) := by decide +kernel
theorem dX5_read_93 : decode cX5_read 93 = .ok (.ifCond .ne 8, 3) := by decide +kernel
theorem dX5_read_96 : decode cX5_read 96 = .ok (.bipush 6, 2) := by decide +kernel
theorem dX5_read_98 : decode cX5_read 98 = .ok (.goto 4, 3) := by decide +kernel
theorem dX5_read_101 : decode cX5_read 101 = .ok (.iconst 0, 1) := by decide +kernel
theorem dX5_read_102 : decode cX5_read 102 = .ok (.ireturn, 1) := by decide +kernel
theorem dX5_read_103 : decode cX5_read 103 = .ok (.aload_n 0, 1) := by decide +kernel
theorem dX5_read_104 : decode cX5_read 104 = .ok (.getfield 61, 3) := by decide +kernel
theorem dX5_read_107 : decode cX5_read 107 = .ok (.iconst 3, 1) := by decide +kernel
theorem dX5_read_108 : decode cX5_read 108 = .ok (.if_icmp .eq 5, 3) := by decide +kernel
theorem dX5_read_111 : decode cX5_read 111 = .ok (.iconst 1, 1) := by decide +kernel
theorem dX5_read_112 : decode cX5_read 112 = .ok (.ireturn, 1) := by decide +kernel
theorem dX5_read_113 : decode cX5_read 113 = .ok (.aload_n 0, 1) := by decide +kernel
theorem dX5_read_114 : decode cX5_read 114 = .ok (.invokevirtual 54, 3) := by decide +kernel
theorem dX5_read_117 : decode cX5_read 117 = .ok (.iinc 4 1, 3) := by decide +kernel
theorem dX5_read_120 : decode cX5_read 120 = .ok (.goto (-71), 3) := by decide +kernel
theorem dX5_read_123 : decode cX5_read 123 = .ok (.aload_n 0, 1) := by decide +kernel
theorem dX5_read_124 : decode cX5_read 124 = .ok (.getfield 48, 3) := by decide +kernel
theorem dX5_read_127 : decode cX5_read 127 = .ok (.ireturn, 1) := by decide +kernel
