theorem dX3_lastAlike_0 : decode cX3_lastAlike 0 = .ok (.aload_n 0, 1) := by decide +kernel
theorem dX3_lastAlike_1 : decode cX3_lastAlike 1 = .ok (.getfield 12, 3) := by decide +kernel
theorem dX3_lastAlike_4 : decode cX3_lastAlike 4 = .ok (.aload_n 1, 1) := by decide +kernel
theorem dX3_lastAlike_5 : decode cX3_lastAlike 5 = .ok (.invokevirtual 88, 3) := by decide +kernel
theorem dX3_lastAlike_8 : decode cX3_lastAlike 8 = .ok (.lstore_n 2, 1) := by decide +kernel
theorem dX3_lastAlike_9 : decode cX3_lastAlike 9 = .ok (.lload_n 2, 1) := by decide +kernel
theorem dX3_lastAlike_10 : decode cX3_lastAlike 10 = .ok (.ldc2_w 92, 3) := by decide +kernel
theorem dX3_lastAlike_13 : decode cX3_lastAlike 13 = .ok (.lcmp, 1) := by decide +kernel
theorem dX3_lastAlike_14 : decode cX3_lastAlike 14 = .ok (.ifCond .ne 10, 3) := by decide +kernel
theorem dX3_lastAlike_17 : decode cX3_lastAlike 17 = .ok (.aload_n 0, 1) := by decide +kernel
theorem dX3_lastAlike_18 : decode cX3_lastAlike 18 = .ok (.getfield 73, 3) := by decide +kernel
theorem dX3_lastAlike_21 : decode cX3_lastAlike 21 = .ok (.goto 28, 3) := by decide +kernel
theorem dX3_lastAlike_24 : decode cX3_lastAlike 24 = .ok (.aload_n 0, 1) := by decide +kernel
theorem dX3_lastAlike_25 : decode cX3_lastAlike 25 = .ok (.getfield 73, 3) := by decide +kernel
theorem dX3_lastAlike_28 : decode cX3_lastAlike 28 = .ok (.i2l, 1) := by decide +kernel
theorem dX3_lastAlike_29 : decode cX3_lastAlike 29 = .ok (.lload_n 2, 1) := by decide +kernel
theorem dX3_lastAlike_30 : decode cX3_lastAlike 30 = .ok (.aload_n 0, 1) := by decide +kernel
theorem dX3_lastAlike_31 : decode cX3_lastAlike 31 = .ok (.getfield 70, 3) := by decide +kernel
theorem dX3_lastAlike_34 : decode cX3_lastAlike 34 = .ok (.lsub, 1) := by decide +kernel
theorem dX3_lastAlike_35 : decode cX3_lastAlike 35 = .ok (.lconst 1, 1) := by decide +kernel
theorem dX3_lastAlike_36 : decode cX3_lastAlike 36 = .ok (.lsub, 1) := by decide +kernel
theorem dX3_lastAlike_37 : decode cX3_lastAlike 37 = .ok (.aload_n 1, 1) := by decide +kernel
theorem dX3_lastAlike_38 : decode cX3_lastAlike 38 = .ok (.invokevirtual 80, 3) := by decide +kernel
theorem dX3_lastAlike_41 : decode cX3_lastAlike 41 = .ok (.i2l, 1) := by decide +kernel
theorem dX3_lastAlike_42 : decode cX3_lastAlike 42 = .ok (.invokestatic 94, 3) := by decide +kernel
theorem dX3_lastAlike_45 : decode cX3_lastAlike 45 = .ok (.invokestatic 98, 3) := by decide +kernel
theorem dX3_lastAlike_48 : decode cX3_lastAlike 48 = .ok (.l2i, 1) := by decide +kernel
theorem dX3_lastAlike_49 : decode cX3_lastAlike 49 = .ok (.ireturn, 1) := by decide +kernel
theorem dX3_begin_0 : decode cX3_begin 0 = .ok (.aload_n 0, 1) := by decide +kernel
theorem dX3_begin_1 : decode cX3_begin 1 = .ok (.getfield 12, 3) := by decide +kernel
theorem dX3_begin_4 : decode cX3_begin 4 = .ok (.aload_n 2, 1) := by decide +kernel
theorem dX3_begin_5 : decode cX3_begin 5 = .ok (.invokevirtual 62, 3) := by decide +kernel
theorem dX3_begin_8 : decode cX3_begin 8 = .ok (.aload_n 0, 1) := by decide +kernel
theorem dX3_begin_9 : decode cX3_begin 9 = .ok (.aload_n 2, 1) := by decide +kernel
theorem dX3_begin_10 : decode cX3_begin 10 = .ok (.getfield 66, 3) := by decide +kernel
theorem dX3_begin_13 : decode cX3_begin 13 = .ok (.putfield 70, 3) := by decide +kernel
theorem dX3_begin_16 : decode cX3_begin 16 = .ok (.aload_n 0, 1) := by decide +kernel
theorem dX3_begin_17 : decode cX3_begin 17 = .ok (.iload_n 3, 1) := by decide +kernel
theorem dX3_begin_18 : decode cX3_begin 18 = .ok (.putfield 73, 3) := by decide +kernel
theorem dX3_begin_21 : decode cX3_begin 21 = .ok (.aload_n 0, 1) := by decide +kernel
theorem dX3_begin_22 : decode cX3_begin 22 = .ok (.iconst 0, 1) := by decide +kernel
theorem dX3_begin_23 : decode cX3_begin 23 = .ok (.putfield 22, 3) := by decide +kernel
theorem dX3_begin_26 : decode cX3_begin 26 = .ok (.aload_n 0, 1) := by decide +kernel
theorem dX3_begin_27 : decode cX3_begin 27 = .ok (.aload_n 0, 1) := by decide +kernel
theorem dX3_begin_28 : decode cX3_begin 28 = .ok (.aload_n 1, 1) := by decide +kernel
theorem dX3_begin_29 : decode cX3_begin 29 = .ok (.invokevirtual 76, 3) := by decide +kernel
theorem dX3_begin_32 : decode cX3_begin 32 = .ok (.putfield 42, 3) := by decide +kernel
theorem dX3_begin_35 : decode cX3_begin 35 = .ok (.return_, 1) := by decide +kernel
theorem dX3_goOn_0 : decode cX3_goOn 0 = .ok (.aload_n 0, 1) := by decide +kernel
theorem dX3_goOn_1 : decode cX3_goOn 1 = .ok (.aload_n 0, 1) := by decide +kernel
theorem dX3_goOn_2 : decode cX3_goOn 2 = .ok (.getfield 42, 3) := by decide +kernel
theorem dX3_goOn_5 : decode cX3_goOn 5 = .ok (.iconst 1, 1) := by decide +kernel
theorem dX3_goOn_6 : decode cX3_goOn 6 = .ok (.iadd, 1) := by decide +kernel
theorem dX3_goOn_7 : decode cX3_goOn 7 = .ok (.putfield 22, 3) := by decide +kernel
theorem dX3_goOn_10 : decode cX3_goOn 10 = .ok (.aload_n 0, 1) := by decide +kernel
theorem dX3_goOn_11 : decode cX3_goOn 11 = .ok (.getfield 22, 3) := by decide +kernel
theorem dX3_goOn_14 : decode cX3_goOn 14 = .ok (.aload_n 0, 1) := by decide +kernel
theorem dX3_goOn_15 : decode cX3_goOn 15 = .ok (.getfield 73, 3) := by decide +kernel
theorem dX3_goOn_18 : decode cX3_goOn 18 = .ok (.if_icmp .gt 36, 3) := by decide +kernel
theorem dX3_goOn_21 : decode cX3_goOn 21 = .ok (.aload_n 0, 1) := by decide +kernel
theorem dX3_goOn_22 : decode cX3_goOn 22 = .ok (.getfield 12, 3) := by decide +kernel
theorem dX3_goOn_25 : decode cX3_goOn 25 = .ok (.aload_n 1, 1) := by decide +kernel
theorem dX3_goOn_26 : decode cX3_goOn 26 = .ok (.aload_n 0, 1) := by decide +kernel
theorem dX3_goOn_27 : decode cX3_goOn 27 = .ok (.getfield 70, 3) := by decide +kernel
theorem dX3_goOn_30 : decode cX3_goOn 30 = .ok (.aload_n 0, 1) := by decide +kernel
theorem dX3_goOn_31 : decode cX3_goOn 31 = .ok (.getfield 22, 3) := by decide +kernel
theorem dX3_goOn_34 : decode cX3_goOn 34 = .ok (.i2l, 1) := by decide +kernel
theorem dX3_goOn_35 : decode cX3_goOn 35 = .ok (.aload_n 1, 1) := by decide +kernel
theorem dX3_goOn_36 : decode cX3_goOn 36 = .ok (.invokevirtual 80, 3) := by decide +kernel
theorem dX3_goOn_39 : decode cX3_goOn 39 = .ok (.i2l, 1) := by decide +kernel
theorem dX3_goOn_40 : decode cX3_goOn 40 = .ok (.lmul, 1) := by decide +kernel
theorem dX3_goOn_41 : decode cX3_goOn 41 = .ok (.ladd, 1) := by decide +kernel
theorem dX3_goOn_42 : decode cX3_goOn 42 = .ok (.invokevirtual 84, 3) := by decide +kernel
theorem dX3_goOn_45 : decode cX3_goOn 45 = .ok (.aload_n 0, 1) := by decide +kernel
theorem dX3_goOn_46 : decode cX3_goOn 46 = .ok (.aload_n 0, 1) := by decide +kernel
theorem dX3_goOn_47 : decode cX3_goOn 47 = .ok (.aload_n 1, 1) := by decide +kernel
theorem dX3_goOn_48 : decode cX3_goOn 48 = .ok (.invokevirtual 76, 3) := by decide +kernel
theorem dX3_goOn_51 : decode cX3_goOn 51 = .ok (.putfield 42, 3) := by decide +kernel
theorem dX3_goOn_54 : decode cX3_goOn 54 = .ok (.return_, 1) := by decide +kernel
theorem dX3_firstMeeting_0 : decode cX3_firstMeeting 0 = .ok (.aload_n 0, 1) := by decide +kernel
theorem dX3_firstMeeting_1 : decode cX3_firstMeeting 1 = .ok (.aload_n 1, 1) := by decide +kernel
theorem dX3_firstMeeting_2 : decode cX3_firstMeeting 2 = .ok (.aload_n 2, 1) := by decide +kernel
theorem dX3_firstMeeting_3 : decode cX3_firstMeeting 3 = .ok (.iload 5, 2) := by decide +kernel
theorem dX3_firstMeeting_5 : decode cX3_firstMeeting 5 = .ok (.invokevirtual 18, 3) := by decide +kernel
theorem dX3_firstMeeting_8 : decode cX3_firstMeeting 8 = .ok (.iconst 0, 1) := by decide +kernel
theorem dX3_firstMeeting_9 : decode cX3_firstMeeting 9 = .ok (.istore 6, 2) := by decide +kernel
theorem dX3_firstMeeting_11 : decode cX3_firstMeeting 11 = .ok (.iload 6, 2) := by decide +kernel
theorem dX3_firstMeeting_13 : decode cX3_firstMeeting 13 = .ok (.bipush 29, 2) := by decide +kernel
theorem dX3_firstMeeting_15 : decode cX3_firstMeeting 15 = .ok (.if_icmp .ge 41, 3) := by decide +kernel
theorem dX3_firstMeeting_18 : decode cX3_firstMeeting 18 = .ok (.aload_n 0, 1) := by decide +kernel
theorem dX3_firstMeeting_19 : decode cX3_firstMeeting 19 = .ok (.getfield 22, 3) := by decide +kernel
theorem dX3_firstMeeting_22 : decode cX3_firstMeeting 22 = .ok (.iload 5, 2) := by decide +kernel
theorem dX3_firstMeeting_24 : decode cX3_firstMeeting 24 = .ok (.if_icmp .gt 32, 3) := by decide +kernel
theorem dX3_firstMeeting_27 : decode cX3_firstMeeting 27 = .ok (.aload_n 0, 1) := by decide +kernel
theorem dX3_firstMeeting_28 : decode cX3_firstMeeting 28 = .ok (.getfield 12, 3) := by decide +kernel
theorem dX3_firstMeeting_31 : decode cX3_firstMeeting 31 = .ok (.iload_n 3, 1) := by decide +kernel
theorem dX3_firstMeeting_32 : decode cX3_firstMeeting 32 = .ok (.iload 4, 2) := by decide +kernel
theorem dX3_firstMeeting_34 : decode cX3_firstMeeting 34 = .ok (.invokevirtual 26, 3) := by decide +kernel
theorem dX3_firstMeeting_37 : decode cX3_firstMeeting 37 = .ok (.ifCond .eq 8, 3) := by decide +kernel
theorem dX3_firstMeeting_40 : decode cX3_firstMeeting 40 = .ok (.aload_n 0, 1) := by decide +kernel
theorem dX3_firstMeeting_41 : decode cX3_firstMeeting 41 = .ok (.getfield 22, 3) := by decide +kernel
theorem dX3_firstMeeting_44 : decode cX3_firstMeeting 44 = .ok (.ireturn, 1) := by decide +kernel
theorem dX3_firstMeeting_45 : decode cX3_firstMeeting 45 = .ok (.aload_n 0, 1) := by decide +kernel
theorem dX3_firstMeeting_46 : decode cX3_firstMeeting 46 = .ok (.aload_n 1, 1) := by decide +kernel
theorem dX3_firstMeeting_47 : decode cX3_firstMeeting 47 = .ok (.invokevirtual 30, 3) := by decide +kernel
theorem dX3_firstMeeting_50 : decode cX3_firstMeeting 50 = .ok (.iinc 6 1, 3) := by decide +kernel
theorem dX3_firstMeeting_53 : decode cX3_firstMeeting 53 = .ok (.goto (-42), 3) := by decide +kernel
theorem dX3_firstMeeting_56 : decode cX3_firstMeeting 56 = .ok (.bipush (-2), 2) := by decide +kernel
theorem dX3_firstMeeting_58 : decode cX3_firstMeeting 58 = .ok (.ireturn, 1) := by decide +kernel
theorem dX3_firstAwake_0 : decode cX3_firstAwake 0 = .ok (.aload_n 0, 1) := by decide +kernel
theorem dX3_firstAwake_1 : decode cX3_firstAwake 1 = .ok (.aload_n 1, 1) := by decide +kernel
theorem dX3_firstAwake_2 : decode cX3_firstAwake 2 = .ok (.aload_n 2, 1) := by decide +kernel
theorem dX3_firstAwake_3 : decode cX3_firstAwake 3 = .ok (.iload 4, 2) := by decide +kernel
theorem dX3_firstAwake_5 : decode cX3_firstAwake 5 = .ok (.invokevirtual 18, 3) := by decide +kernel
theorem dX3_firstAwake_8 : decode cX3_firstAwake 8 = .ok (.iconst 0, 1) := by decide +kernel
theorem dX3_firstAwake_9 : decode cX3_firstAwake 9 = .ok (.istore 5, 2) := by decide +kernel
theorem dX3_firstAwake_11 : decode cX3_firstAwake 11 = .ok (.iload 5, 2) := by decide +kernel
theorem dX3_firstAwake_13 : decode cX3_firstAwake 13 = .ok (.bipush 29, 2) := by decide +kernel
theorem dX3_firstAwake_15 : decode cX3_firstAwake 15 = .ok (.if_icmp .ge 40, 3) := by decide +kernel
theorem dX3_firstAwake_18 : decode cX3_firstAwake 18 = .ok (.aload_n 0, 1) := by decide +kernel
theorem dX3_firstAwake_19 : decode cX3_firstAwake 19 = .ok (.getfield 22, 3) := by decide +kernel
theorem dX3_firstAwake_22 : decode cX3_firstAwake 22 = .ok (.iload 4, 2) := by decide +kernel
theorem dX3_firstAwake_24 : decode cX3_firstAwake 24 = .ok (.if_icmp .gt 31, 3) := by decide +kernel
theorem dX3_firstAwake_27 : decode cX3_firstAwake 27 = .ok (.aload_n 0, 1) := by decide +kernel
theorem dX3_firstAwake_28 : decode cX3_firstAwake 28 = .ok (.getfield 12, 3) := by decide +kernel
theorem dX3_firstAwake_31 : decode cX3_firstAwake 31 = .ok (.getfield 34, 3) := by decide +kernel
theorem dX3_firstAwake_34 : decode cX3_firstAwake 34 = .ok (.iload_n 3, 1) := by decide +kernel
theorem dX3_firstAwake_35 : decode cX3_firstAwake 35 = .ok (.iaload, 1) := by decide +kernel
theorem dX3_firstAwake_36 : decode cX3_firstAwake 36 = .ok (.ifCond .ne 8, 3) := by decide +kernel
theorem dX3_firstAwake_39 : decode cX3_firstAwake 39 = .ok (.aload_n 0, 1) := by decide +kernel
theorem dX3_firstAwake_40 : decode cX3_firstAwake 40 = .ok (.getfield 22, 3) := by decide +kernel
theorem dX3_firstAwake_43 : decode cX3_firstAwake 43 = .ok (.ireturn, 1) := by decide +kernel
theorem dX3_firstAwake_44 : decode cX3_firstAwake 44 = .ok (.aload_n 0, 1) := by decide +kernel
theorem dX3_firstAwake_45 : decode cX3_firstAwake 45 = .ok (.aload_n 1, 1) := by decide +kernel
theorem dX3_firstAwake_46 : decode cX3_firstAwake 46 = .ok (.invokevirtual 30, 3) := by decide +kernel
theorem dX3_firstAwake_49 : decode cX3_firstAwake 49 = .ok (.iinc 5 1, 3) := by decide +kernel
theorem dX3_firstAwake_52 : decode cX3_firstAwake 52 = .ok (.goto (-41), 3) := by decide +kernel
theorem dX3_firstAwake_55 : decode cX3_firstAwake 55 = .ok (.bipush (-2), 2) := by decide +kernel
theorem dX3_firstAwake_57 : decode cX3_firstAwake 57 = .ok (.ireturn, 1) := by decide +kernel
theorem dX3_countLonely_0 : decode cX3_countLonely 0 = .ok (.iconst 0, 1) := by decide +kernel
theorem dX3_countLonely_1 : decode cX3_countLonely 1 = .ok (.istore 5, 2) := by decide +kernel
theorem dX3_countLonely_3 : decode cX3_countLonely 3 = .ok (.aload_n 0, 1) := by decide +kernel
theorem dX3_countLonely_4 : decode cX3_countLonely 4 = .ok (.aload_n 1, 1) := by decide +kernel
theorem dX3_countLonely_5 : decode cX3_countLonely 5 = .ok (.aload_n 2, 1) := by decide +kernel
theorem dX3_countLonely_6 : decode cX3_countLonely 6 = .ok (.iload 4, 2) := by decide +kernel
theorem dX3_countLonely_8 : decode cX3_countLonely 8 = .ok (.invokevirtual 18, 3) := by decide +kernel
theorem dX3_countLonely_11 : decode cX3_countLonely 11 = .ok (.iconst 0, 1) := by decide +kernel
theorem dX3_countLonely_12 : decode cX3_countLonely 12 = .ok (.istore 6, 2) := by decide +kernel
theorem dX3_countLonely_14 : decode cX3_countLonely 14 = .ok (.iload 6, 2) := by decide +kernel
theorem dX3_countLonely_16 : decode cX3_countLonely 16 = .ok (.bipush 29, 2) := by decide +kernel
theorem dX3_countLonely_18 : decode cX3_countLonely 18 = .ok (.if_icmp .ge 56, 3) := by decide +kernel
theorem dX3_countLonely_21 : decode cX3_countLonely 21 = .ok (.aload_n 0, 1) := by decide +kernel
theorem dX3_countLonely_22 : decode cX3_countLonely 22 = .ok (.getfield 22, 3) := by decide +kernel
theorem dX3_countLonely_25 : decode cX3_countLonely 25 = .ok (.iload 4, 2) := by decide +kernel
theorem dX3_countLonely_27 : decode cX3_countLonely 27 = .ok (.if_icmp .gt 47, 3) := by decide +kernel
theorem dX3_countLonely_30 : decode cX3_countLonely 30 = .ok (.aload_n 0, 1) := by decide +kernel
theorem dX3_countLonely_31 : decode cX3_countLonely 31 = .ok (.getfield 12, 3) := by decide +kernel
theorem dX3_countLonely_34 : decode cX3_countLonely 34 = .ok (.aload_n 1, 1) := by decide +kernel
theorem dX3_countLonely_35 : decode cX3_countLonely 35 = .ok (.iload_n 3, 1) := by decide +kernel
theorem dX3_countLonely_36 : decode cX3_countLonely 36 = .ok (.invokevirtual 38, 3) := by decide +kernel
theorem dX3_countLonely_39 : decode cX3_countLonely 39 = .ok (.iconst 1, 1) := by decide +kernel
theorem dX3_countLonely_40 : decode cX3_countLonely 40 = .ok (.if_icmp .ne 23, 3) := by decide +kernel
theorem dX3_countLonely_43 : decode cX3_countLonely 43 = .ok (.iload 5, 2) := by decide +kernel
theorem dX3_countLonely_45 : decode cX3_countLonely 45 = .ok (.aload_n 0, 1) := by decide +kernel
theorem dX3_countLonely_46 : decode cX3_countLonely 46 = .ok (.getfield 42, 3) := by decide +kernel
theorem dX3_countLonely_49 : decode cX3_countLonely 49 = .ok (.aload_n 0, 1) := by decide +kernel
theorem dX3_countLonely_50 : decode cX3_countLonely 50 = .ok (.getfield 22, 3) := by decide +kernel
theorem dX3_countLonely_53 : decode cX3_countLonely 53 = .ok (.iconst 1, 1) := by decide +kernel
theorem dX3_countLonely_54 : decode cX3_countLonely 54 = .ok (.invokestatic 45, 3) := by decide +kernel
theorem dX3_countLonely_57 : decode cX3_countLonely 57 = .ok (.isub, 1) := by decide +kernel
theorem dX3_countLonely_58 : decode cX3_countLonely 58 = .ok (.iconst 1, 1) := by decide +kernel
theorem dX3_countLonely_59 : decode cX3_countLonely 59 = .ok (.iadd, 1) := by decide +kernel
theorem dX3_countLonely_60 : decode cX3_countLonely 60 = .ok (.iadd, 1) := by decide +kernel
theorem dX3_countLonely_61 : decode cX3_countLonely 61 = .ok (.istore 5, 2) := by decide +kernel
theorem dX3_countLonely_63 : decode cX3_countLonely 63 = .ok (.aload_n 0, 1) := by decide +kernel
theorem dX3_countLonely_64 : decode cX3_countLonely 64 = .ok (.aload_n 1, 1) := by decide +kernel
theorem dX3_countLonely_65 : decode cX3_countLonely 65 = .ok (.invokevirtual 30, 3) := by decide +kernel
theorem dX3_countLonely_68 : decode cX3_countLonely 68 = .ok (.iinc 6 1, 3) := by decide +kernel
theorem dX3_countLonely_71 : decode cX3_countLonely 71 = .ok (.goto (-57), 3) := by decide +kernel
theorem dX3_countLonely_74 : decode cX3_countLonely 74 = .ok (.iload 5, 2) := by decide +kernel
theorem dX3_countLonely_76 : decode cX3_countLonely 76 = .ok (.ireturn, 1) := by decide +kernel
theorem dX3_mostTogether_0 : decode cX3_mostTogether 0 = .ok (.iconst 0, 1) := by decide +kernel
theorem dX3_mostTogether_1 : decode cX3_mostTogether 1 = .ok (.istore 4, 2) := by decide +kernel
theorem dX3_mostTogether_3 : decode cX3_mostTogether 3 = .ok (.aload_n 0, 1) := by decide +kernel
theorem dX3_mostTogether_4 : decode cX3_mostTogether 4 = .ok (.aload_n 1, 1) := by decide +kernel
theorem dX3_mostTogether_5 : decode cX3_mostTogether 5 = .ok (.aload_n 2, 1) := by decide +kernel
theorem dX3_mostTogether_6 : decode cX3_mostTogether 6 = .ok (.iload_n 3, 1) := by decide +kernel
theorem dX3_mostTogether_7 : decode cX3_mostTogether 7 = .ok (.invokevirtual 18, 3) := by decide +kernel
theorem dX3_mostTogether_10 : decode cX3_mostTogether 10 = .ok (.iconst 0, 1) := by decide +kernel
theorem dX3_mostTogether_11 : decode cX3_mostTogether 11 = .ok (.istore 5, 2) := by decide +kernel
theorem dX3_mostTogether_13 : decode cX3_mostTogether 13 = .ok (.iload 5, 2) := by decide +kernel
theorem dX3_mostTogether_15 : decode cX3_mostTogether 15 = .ok (.bipush 29, 2) := by decide +kernel
theorem dX3_mostTogether_17 : decode cX3_mostTogether 17 = .ok (.if_icmp .ge 60, 3) := by decide +kernel
theorem dX3_mostTogether_20 : decode cX3_mostTogether 20 = .ok (.aload_n 0, 1) := by decide +kernel
theorem dX3_mostTogether_21 : decode cX3_mostTogether 21 = .ok (.getfield 22, 3) := by decide +kernel
theorem dX3_mostTogether_24 : decode cX3_mostTogether 24 = .ok (.iload_n 3, 1) := by decide +kernel
theorem dX3_mostTogether_25 : decode cX3_mostTogether 25 = .ok (.if_icmp .gt 52, 3) := by decide +kernel
theorem dX3_mostTogether_28 : decode cX3_mostTogether 28 = .ok (.iconst 0, 1) := by decide +kernel
theorem dX3_mostTogether_29 : decode cX3_mostTogether 29 = .ok (.istore 6, 2) := by decide +kernel
theorem dX3_mostTogether_31 : decode cX3_mostTogether 31 = .ok (.iload 6, 2) := by decide +kernel
theorem dX3_mostTogether_33 : decode cX3_mostTogether 33 = .ok (.aload_n 1, 1) := by decide +kernel
theorem dX3_mostTogether_34 : decode cX3_mostTogether 34 = .ok (.getfield 51, 3) := by decide +kernel
theorem dX3_mostTogether_37 : decode cX3_mostTogether 37 = .ok (.getfield 57, 3) := by decide +kernel
theorem dX3_mostTogether_40 : decode cX3_mostTogether 40 = .ok (.if_icmp .ge 26, 3) := by decide +kernel
theorem dX3_mostTogether_43 : decode cX3_mostTogether 43 = .ok (.iload 4, 2) := by decide +kernel
theorem dX3_mostTogether_45 : decode cX3_mostTogether 45 = .ok (.aload_n 0, 1) := by decide +kernel
theorem dX3_mostTogether_46 : decode cX3_mostTogether 46 = .ok (.getfield 12, 3) := by decide +kernel
theorem dX3_mostTogether_49 : decode cX3_mostTogether 49 = .ok (.aload_n 1, 1) := by decide +kernel
theorem dX3_mostTogether_50 : decode cX3_mostTogether 50 = .ok (.iload 6, 2) := by decide +kernel
theorem dX3_mostTogether_52 : decode cX3_mostTogether 52 = .ok (.invokevirtual 38, 3) := by decide +kernel
theorem dX3_mostTogether_55 : decode cX3_mostTogether 55 = .ok (.invokestatic 45, 3) := by decide +kernel
theorem dX3_mostTogether_58 : decode cX3_mostTogether 58 = .ok (.istore 4, 2) := by decide +kernel
theorem dX3_mostTogether_60 : decode cX3_mostTogether 60 = .ok (.iinc 6 1, 3) := by decide +kernel
theorem dX3_mostTogether_63 : decode cX3_mostTogether 63 = .ok (.goto (-32), 3) := by decide +kernel
theorem dX3_mostTogether_66 : decode cX3_mostTogether 66 = .ok (.aload_n 0, 1) := by decide +kernel
theorem dX3_mostTogether_67 : decode cX3_mostTogether 67 = .ok (.aload_n 1, 1) := by decide +kernel
theorem dX3_mostTogether_68 : decode cX3_mostTogether 68 = .ok (.invokevirtual 30, 3) := by decide +kernel
theorem dX3_mostTogether_71 : decode cX3_mostTogether 71 = .ok (.iinc 5 1, 3) := by decide +kernel
theorem dX3_mostTogether_74 : decode cX3_mostTogether 74 = .ok (.goto (-61), 3) := by decide +kernel
theorem dX3_mostTogether_77 : decode cX3_mostTogether 77 = .ok (.iload 4, 2) := by decide +kernel
theorem dX3_mostTogether_79 : decode cX3_mostTogether 79 = .ok (.ireturn, 1) := by decide +kernel
