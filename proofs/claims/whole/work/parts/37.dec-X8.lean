theorem dX8_feedNumber_0 : decode cX8_feedNumber 0 = .ok (.bipush 24, 2) := by decide +kernel
theorem dX8_feedNumber_2 : decode cX8_feedNumber 2 = .ok (.istore_n 2, 1) := by decide +kernel
theorem dX8_feedNumber_3 : decode cX8_feedNumber 3 = .ok (.iload_n 2, 1) := by decide +kernel
theorem dX8_feedNumber_4 : decode cX8_feedNumber 4 = .ok (.ifCond .lt 42, 3) := by decide +kernel
theorem dX8_feedNumber_7 : decode cX8_feedNumber 7 = .ok (.aload_n 0, 1) := by decide +kernel
theorem dX8_feedNumber_8 : decode cX8_feedNumber 8 = .ok (.getfield 75, 3) := by decide +kernel
theorem dX8_feedNumber_11 : decode cX8_feedNumber 11 = .ok (.sipush 1000, 3) := by decide +kernel
theorem dX8_feedNumber_14 : decode cX8_feedNumber 14 = .ok (.if_icmp .ge 32, 3) := by decide +kernel
theorem dX8_feedNumber_17 : decode cX8_feedNumber 17 = .ok (.aload_n 0, 1) := by decide +kernel
theorem dX8_feedNumber_18 : decode cX8_feedNumber 18 = .ok (.getfield 9, 3) := by decide +kernel
theorem dX8_feedNumber_21 : decode cX8_feedNumber 21 = .ok (.aload_n 0, 1) := by decide +kernel
theorem dX8_feedNumber_22 : decode cX8_feedNumber 22 = .ok (.getfield 75, 3) := by decide +kernel
theorem dX8_feedNumber_25 : decode cX8_feedNumber 25 = .ok (.iload_n 1, 1) := by decide +kernel
theorem dX8_feedNumber_26 : decode cX8_feedNumber 26 = .ok (.iload_n 2, 1) := by decide +kernel
theorem dX8_feedNumber_27 : decode cX8_feedNumber 27 = .ok (.iushr, 1) := by decide +kernel
theorem dX8_feedNumber_28 : decode cX8_feedNumber 28 = .ok (.i2b, 1) := by decide +kernel
theorem dX8_feedNumber_29 : decode cX8_feedNumber 29 = .ok (.bastore, 1) := by decide +kernel
theorem dX8_feedNumber_30 : decode cX8_feedNumber 30 = .ok (.aload_n 0, 1) := by decide +kernel
theorem dX8_feedNumber_31 : decode cX8_feedNumber 31 = .ok (.dup, 1) := by decide +kernel
theorem dX8_feedNumber_32 : decode cX8_feedNumber 32 = .ok (.getfield 75, 3) := by decide +kernel
theorem dX8_feedNumber_35 : decode cX8_feedNumber 35 = .ok (.iconst 1, 1) := by decide +kernel
theorem dX8_feedNumber_36 : decode cX8_feedNumber 36 = .ok (.iadd, 1) := by decide +kernel
theorem dX8_feedNumber_37 : decode cX8_feedNumber 37 = .ok (.putfield 75, 3) := by decide +kernel
theorem dX8_feedNumber_40 : decode cX8_feedNumber 40 = .ok (.iinc 2 (-8), 3) := by decide +kernel
theorem dX8_feedNumber_43 : decode cX8_feedNumber 43 = .ok (.goto (-40), 3) := by decide +kernel
theorem dX8_feedNumber_46 : decode cX8_feedNumber 46 = .ok (.return_, 1) := by decide +kernel
theorem dX8_feed_0 : decode cX8_feed 0 = .ok (.aload_n 0, 1) := by decide +kernel
theorem dX8_feed_1 : decode cX8_feed 1 = .ok (.getfield 75, 3) := by decide +kernel
theorem dX8_feed_4 : decode cX8_feed 4 = .ok (.bipush 20, 2) := by decide +kernel
theorem dX8_feed_6 : decode cX8_feed 6 = .ok (.iadd, 1) := by decide +kernel
theorem dX8_feed_7 : decode cX8_feed 7 = .ok (.sipush 1000, 3) := by decide +kernel
theorem dX8_feed_10 : decode cX8_feed 10 = .ok (.if_icmp .le 5, 3) := by decide +kernel
theorem dX8_feed_13 : decode cX8_feed 13 = .ok (.iconst (-1), 1) := by decide +kernel
theorem dX8_feed_14 : decode cX8_feed 14 = .ok (.ireturn, 1) := by decide +kernel
theorem dX8_feed_15 : decode cX8_feed 15 = .ok (.aload_n 0, 1) := by decide +kernel
theorem dX8_feed_16 : decode cX8_feed 16 = .ok (.iload_n 1, 1) := by decide +kernel
theorem dX8_feed_17 : decode cX8_feed 17 = .ok (.invokevirtual 79, 3) := by decide +kernel
theorem dX8_feed_20 : decode cX8_feed 20 = .ok (.aload_n 0, 1) := by decide +kernel
theorem dX8_feed_21 : decode cX8_feed 21 = .ok (.iload_n 2, 1) := by decide +kernel
theorem dX8_feed_22 : decode cX8_feed 22 = .ok (.invokevirtual 79, 3) := by decide +kernel
theorem dX8_feed_25 : decode cX8_feed 25 = .ok (.aload_n 0, 1) := by decide +kernel
theorem dX8_feed_26 : decode cX8_feed 26 = .ok (.iload_n 3, 1) := by decide +kernel
theorem dX8_feed_27 : decode cX8_feed 27 = .ok (.invokevirtual 79, 3) := by decide +kernel
theorem dX8_feed_30 : decode cX8_feed 30 = .ok (.aload_n 0, 1) := by decide +kernel
theorem dX8_feed_31 : decode cX8_feed 31 = .ok (.iload 4, 2) := by decide +kernel
theorem dX8_feed_33 : decode cX8_feed 33 = .ok (.invokevirtual 79, 3) := by decide +kernel
theorem dX8_feed_36 : decode cX8_feed 36 = .ok (.aload_n 0, 1) := by decide +kernel
theorem dX8_feed_37 : decode cX8_feed 37 = .ok (.iload 5, 2) := by decide +kernel
theorem dX8_feed_39 : decode cX8_feed 39 = .ok (.invokevirtual 79, 3) := by decide +kernel
theorem dX8_feed_42 : decode cX8_feed 42 = .ok (.aload_n 0, 1) := by decide +kernel
theorem dX8_feed_43 : decode cX8_feed 43 = .ok (.getfield 75, 3) := by decide +kernel
theorem dX8_feed_46 : decode cX8_feed 46 = .ok (.ireturn, 1) := by decide +kernel
theorem dX8_refuse_0 : decode cX8_refuse 0 = .ok (.aload_n 0, 1) := by decide +kernel
theorem dX8_refuse_1 : decode cX8_refuse 1 = .ok (.iload_n 1, 1) := by decide +kernel
theorem dX8_refuse_2 : decode cX8_refuse 2 = .ok (.putfield 128, 3) := by decide +kernel
theorem dX8_refuse_5 : decode cX8_refuse 5 = .ok (.iconst (-1), 1) := by decide +kernel
theorem dX8_refuse_6 : decode cX8_refuse 6 = .ok (.ireturn, 1) := by decide +kernel
theorem dX8_allow_0 : decode cX8_allow 0 = .ok (.aload_n 0, 1) := by decide +kernel
theorem dX8_allow_1 : decode cX8_allow 1 = .ok (.iconst 0, 1) := by decide +kernel
theorem dX8_allow_2 : decode cX8_allow 2 = .ok (.putfield 128, 3) := by decide +kernel
theorem dX8_allow_5 : decode cX8_allow 5 = .ok (.iload_n 1, 1) := by decide +kernel
theorem dX8_allow_6 : decode cX8_allow 6 = .ok (.ireturn, 1) := by decide +kernel
theorem dX8_dream_0 : decode cX8_dream 0 = .ok (.iload_n 1, 1) := by decide +kernel
theorem dX8_dream_1 : decode cX8_dream 1 = .ok (.ifCond .lt 11, 3) := by decide +kernel
theorem dX8_dream_4 : decode cX8_dream 4 = .ok (.iload_n 1, 1) := by decide +kernel
theorem dX8_dream_5 : decode cX8_dream 5 = .ok (.aload_n 0, 1) := by decide +kernel
theorem dX8_dream_6 : decode cX8_dream 6 = .ok (.getfield 75, 3) := by decide +kernel
theorem dX8_dream_9 : decode cX8_dream 9 = .ok (.if_icmp .le 9, 3) := by decide +kernel
theorem dX8_dream_12 : decode cX8_dream 12 = .ok (.aload_n 0, 1) := by decide +kernel
theorem dX8_dream_13 : decode cX8_dream 13 = .ok (.iconst 2, 1) := by decide +kernel
theorem dX8_dream_14 : decode cX8_dream 14 = .ok (.invokevirtual 83, 3) := by decide +kernel
theorem dX8_dream_17 : decode cX8_dream 17 = .ok (.ireturn, 1) := by decide +kernel
theorem dX8_dream_18 : decode cX8_dream 18 = .ok (.aload_n 0, 1) := by decide +kernel
theorem dX8_dream_19 : decode cX8_dream 19 = .ok (.iconst 0, 1) := by decide +kernel
theorem dX8_dream_20 : decode cX8_dream 20 = .ok (.putfield 75, 3) := by decide +kernel
theorem dX8_dream_23 : decode cX8_dream 23 = .ok (.aload_n 0, 1) := by decide +kernel
theorem dX8_dream_24 : decode cX8_dream 24 = .ok (.aload_n 0, 1) := by decide +kernel
theorem dX8_dream_25 : decode cX8_dream 25 = .ok (.getfield 16, 3) := by decide +kernel
theorem dX8_dream_28 : decode cX8_dream 28 = .ok (.aload_n 0, 1) := by decide +kernel
theorem dX8_dream_29 : decode cX8_dream 29 = .ok (.getfield 9, 3) := by decide +kernel
theorem dX8_dream_32 : decode cX8_dream 32 = .ok (.iload_n 1, 1) := by decide +kernel
theorem dX8_dream_33 : decode cX8_dream 33 = .ok (.aload_n 0, 1) := by decide +kernel
theorem dX8_dream_34 : decode cX8_dream 34 = .ok (.getfield 72, 3) := by decide +kernel
theorem dX8_dream_37 : decode cX8_dream 37 = .ok (.invokevirtual 87, 3) := by decide +kernel
theorem dX8_dream_40 : decode cX8_dream 40 = .ok (.putfield 91, 3) := by decide +kernel
theorem dX8_dream_43 : decode cX8_dream 43 = .ok (.aload_n 0, 1) := by decide +kernel
theorem dX8_dream_44 : decode cX8_dream 44 = .ok (.getfield 91, 3) := by decide +kernel
theorem dX8_dream_47 : decode cX8_dream 47 = .ok (.ifCond .eq 20, 3) := by decide +kernel
theorem dX8_dream_50 : decode cX8_dream 50 = .ok (.aload_n 0, 1) := by decide +kernel
theorem dX8_dream_51 : decode cX8_dream 51 = .ok (.aload_n 0, 1) := by decide +kernel
theorem dX8_dream_52 : decode cX8_dream 52 = .ok (.getfield 16, 3) := by decide +kernel
theorem dX8_dream_55 : decode cX8_dream 55 = .ok (.getfield 94, 3) := by decide +kernel
theorem dX8_dream_58 : decode cX8_dream 58 = .ok (.putfield 97, 3) := by decide +kernel
theorem dX8_dream_61 : decode cX8_dream 61 = .ok (.aload_n 0, 1) := by decide +kernel
theorem dX8_dream_62 : decode cX8_dream 62 = .ok (.iconst 4, 1) := by decide +kernel
theorem dX8_dream_63 : decode cX8_dream 63 = .ok (.invokevirtual 83, 3) := by decide +kernel
theorem dX8_dream_66 : decode cX8_dream 66 = .ok (.ireturn, 1) := by decide +kernel
theorem dX8_dream_67 : decode cX8_dream 67 = .ok (.aload_n 0, 1) := by decide +kernel
theorem dX8_dream_68 : decode cX8_dream 68 = .ok (.getfield 68, 3) := by decide +kernel
theorem dX8_dream_71 : decode cX8_dream 71 = .ok (.astore_n 2, 1) := by decide +kernel
theorem dX8_dream_72 : decode cX8_dream 72 = .ok (.aload_n 0, 1) := by decide +kernel
theorem dX8_dream_73 : decode cX8_dream 73 = .ok (.aload_n 0, 1) := by decide +kernel
theorem dX8_dream_74 : decode cX8_dream 74 = .ok (.getfield 72, 3) := by decide +kernel
theorem dX8_dream_77 : decode cX8_dream 77 = .ok (.putfield 68, 3) := by decide +kernel
theorem dX8_dream_80 : decode cX8_dream 80 = .ok (.aload_n 0, 1) := by decide +kernel
theorem dX8_dream_81 : decode cX8_dream 81 = .ok (.aload_n 2, 1) := by decide +kernel
theorem dX8_dream_82 : decode cX8_dream 82 = .ok (.putfield 72, 3) := by decide +kernel
theorem dX8_dream_85 : decode cX8_dream 85 = .ok (.aload_n 0, 1) := by decide +kernel
theorem dX8_dream_86 : decode cX8_dream 86 = .ok (.iconst 1, 1) := by decide +kernel
theorem dX8_dream_87 : decode cX8_dream 87 = .ok (.putfield 98, 3) := by decide +kernel
theorem dX8_dream_90 : decode cX8_dream 90 = .ok (.aload_n 0, 1) := by decide +kernel
theorem dX8_dream_91 : decode cX8_dream 91 = .ok (.getfield 23, 3) := by decide +kernel
theorem dX8_dream_94 : decode cX8_dream 94 = .ok (.aload_n 0, 1) := by decide +kernel
theorem dX8_dream_95 : decode cX8_dream 95 = .ok (.getfield 68, 3) := by decide +kernel
theorem dX8_dream_98 : decode cX8_dream 98 = .ok (.invokevirtual 102, 3) := by decide +kernel
theorem dX8_dream_101 : decode cX8_dream 101 = .ok (.aload_n 0, 1) := by decide +kernel
theorem dX8_dream_102 : decode cX8_dream 102 = .ok (.getfield 40, 3) := by decide +kernel
theorem dX8_dream_105 : decode cX8_dream 105 = .ok (.iconst 0, 1) := by decide +kernel
theorem dX8_dream_106 : decode cX8_dream 106 = .ok (.putfield 106, 3) := by decide +kernel
theorem dX8_dream_109 : decode cX8_dream 109 = .ok (.aload_n 0, 1) := by decide +kernel
theorem dX8_dream_110 : decode cX8_dream 110 = .ok (.getfield 54, 3) := by decide +kernel
theorem dX8_dream_113 : decode cX8_dream 113 = .ok (.iconst 0, 1) := by decide +kernel
theorem dX8_dream_114 : decode cX8_dream 114 = .ok (.putfield 109, 3) := by decide +kernel
theorem dX8_dream_117 : decode cX8_dream 117 = .ok (.aload_n 0, 1) := by decide +kernel
theorem dX8_dream_118 : decode cX8_dream 118 = .ok (.iconst 0, 1) := by decide +kernel
theorem dX8_dream_119 : decode cX8_dream 119 = .ok (.putfield 110, 3) := by decide +kernel
theorem dX8_dream_122 : decode cX8_dream 122 = .ok (.aload_n 0, 1) := by decide +kernel
theorem dX8_dream_123 : decode cX8_dream 123 = .ok (.iconst 0, 1) := by decide +kernel
theorem dX8_dream_124 : decode cX8_dream 124 = .ok (.putfield 113, 3) := by decide +kernel
theorem dX8_dream_127 : decode cX8_dream 127 = .ok (.aload_n 0, 1) := by decide +kernel
theorem dX8_dream_128 : decode cX8_dream 128 = .ok (.aload_n 0, 1) := by decide +kernel
theorem dX8_dream_129 : decode cX8_dream 129 = .ok (.getfield 68, 3) := by decide +kernel
theorem dX8_dream_132 : decode cX8_dream 132 = .ok (.getfield 116, 3) := by decide +kernel
theorem dX8_dream_135 : decode cX8_dream 135 = .ok (.getfield 120, 3) := by decide +kernel
theorem dX8_dream_138 : decode cX8_dream 138 = .ok (.invokevirtual 125, 3) := by decide +kernel
theorem dX8_dream_141 : decode cX8_dream 141 = .ok (.ireturn, 1) := by decide +kernel
theorem dX8_fault_0 : decode cX8_fault 0 = .ok (.aload_n 0, 1) := by decide +kernel
theorem dX8_fault_1 : decode cX8_fault 1 = .ok (.getfield 91, 3) := by decide +kernel
theorem dX8_fault_4 : decode cX8_fault 4 = .ok (.ireturn, 1) := by decide +kernel
theorem dX8_where_0 : decode cX8_where 0 = .ok (.aload_n 0, 1) := by decide +kernel
theorem dX8_where_1 : decode cX8_where 1 = .ok (.getfield 128, 3) := by decide +kernel
theorem dX8_where_4 : decode cX8_where 4 = .ok (.iconst 4, 1) := by decide +kernel
theorem dX8_where_5 : decode cX8_where 5 = .ok (.if_icmp .ne 10, 3) := by decide +kernel
theorem dX8_where_8 : decode cX8_where 8 = .ok (.aload_n 0, 1) := by decide +kernel
theorem dX8_where_9 : decode cX8_where 9 = .ok (.getfield 97, 3) := by decide +kernel
theorem dX8_where_12 : decode cX8_where 12 = .ok (.goto 4, 3) := by decide +kernel
theorem dX8_where_15 : decode cX8_where 15 = .ok (.iconst (-1), 1) := by decide +kernel
theorem dX8_where_16 : decode cX8_where 16 = .ok (.ireturn, 1) := by decide +kernel
theorem dX8_isFloor_0 : decode cX8_isFloor 0 = .ok (.aload_n 0, 1) := by decide +kernel
theorem dX8_isFloor_1 : decode cX8_isFloor 1 = .ok (.getfield 98, 3) := by decide +kernel
theorem dX8_isFloor_4 : decode cX8_isFloor 4 = .ok (.ifCond .eq 22, 3) := by decide +kernel
theorem dX8_isFloor_7 : decode cX8_isFloor 7 = .ok (.iload_n 1, 1) := by decide +kernel
theorem dX8_isFloor_8 : decode cX8_isFloor 8 = .ok (.ifCond .lt 18, 3) := by decide +kernel
theorem dX8_isFloor_11 : decode cX8_isFloor 11 = .ok (.iload_n 1, 1) := by decide +kernel
theorem dX8_isFloor_12 : decode cX8_isFloor 12 = .ok (.aload_n 0, 1) := by decide +kernel
theorem dX8_isFloor_13 : decode cX8_isFloor 13 = .ok (.getfield 68, 3) := by decide +kernel
theorem dX8_isFloor_16 : decode cX8_isFloor 16 = .ok (.getfield 298, 3) := by decide +kernel
theorem dX8_isFloor_19 : decode cX8_isFloor 19 = .ok (.if_icmp .gt 7, 3) := by decide +kernel
theorem dX8_isFloor_22 : decode cX8_isFloor 22 = .ok (.iconst 1, 1) := by decide +kernel
theorem dX8_isFloor_23 : decode cX8_isFloor 23 = .ok (.goto 4, 3) := by decide +kernel
theorem dX8_isFloor_26 : decode cX8_isFloor 26 = .ok (.iconst 0, 1) := by decide +kernel
theorem dX8_isFloor_27 : decode cX8_isFloor 27 = .ok (.ireturn, 1) := by decide +kernel
theorem dX8_quick_0 : decode cX8_quick 0 = .ok (.aload_n 0, 1) := by decide +kernel
theorem dX8_quick_1 : decode cX8_quick 1 = .ok (.iload_n 1, 1) := by decide +kernel
theorem dX8_quick_2 : decode cX8_quick 2 = .ok (.invokevirtual 131, 3) := by decide +kernel
theorem dX8_quick_5 : decode cX8_quick 5 = .ok (.ifCond .eq 18, 3) := by decide +kernel
theorem dX8_quick_8 : decode cX8_quick 8 = .ok (.aload_n 0, 1) := by decide +kernel
theorem dX8_quick_9 : decode cX8_quick 9 = .ok (.aload_n 0, 1) := by decide +kernel
theorem dX8_quick_10 : decode cX8_quick 10 = .ok (.getfield 68, 3) := by decide +kernel
theorem dX8_quick_13 : decode cX8_quick 13 = .ok (.iload_n 1, 1) := by decide +kernel
theorem dX8_quick_14 : decode cX8_quick 14 = .ok (.invokevirtual 135, 3) := by decide +kernel
theorem dX8_quick_17 : decode cX8_quick 17 = .ok (.invokevirtual 125, 3) := by decide +kernel
theorem dX8_quick_20 : decode cX8_quick 20 = .ok (.goto 8, 3) := by decide +kernel
theorem dX8_quick_23 : decode cX8_quick 23 = .ok (.aload_n 0, 1) := by decide +kernel
theorem dX8_quick_24 : decode cX8_quick 24 = .ok (.iconst 1, 1) := by decide +kernel
theorem dX8_quick_25 : decode cX8_quick 25 = .ok (.invokevirtual 83, 3) := by decide +kernel
theorem dX8_quick_28 : decode cX8_quick 28 = .ok (.ireturn, 1) := by decide +kernel
theorem dX8_clockOf_0 : decode cX8_clockOf 0 = .ok (.aload_n 0, 1) := by decide +kernel
theorem dX8_clockOf_1 : decode cX8_clockOf 1 = .ok (.getfield 23, 3) := by decide +kernel
theorem dX8_clockOf_4 : decode cX8_clockOf 4 = .ok (.getfield 145, 3) := by decide +kernel
theorem dX8_clockOf_7 : decode cX8_clockOf 7 = .ok (.aload_n 0, 1) := by decide +kernel
theorem dX8_clockOf_8 : decode cX8_clockOf 8 = .ok (.getfield 68, 3) := by decide +kernel
theorem dX8_clockOf_11 : decode cX8_clockOf 11 = .ok (.iload_n 1, 1) := by decide +kernel
theorem dX8_clockOf_12 : decode cX8_clockOf 12 = .ok (.invokevirtual 149, 3) := by decide +kernel
theorem dX8_clockOf_15 : decode cX8_clockOf 15 = .ok (.i2l, 1) := by decide +kernel
theorem dX8_clockOf_16 : decode cX8_clockOf 16 = .ok (.invokestatic 152, 3) := by decide +kernel
theorem dX8_clockOf_19 : decode cX8_clockOf 19 = .ok (.lreturn, 1) := by decide +kernel
theorem dX8_allow__0 : decode cX8_allow_ 0 = .ok (.aload_n 0, 1) := by decide +kernel
theorem dX8_allow__1 : decode cX8_allow_ 1 = .ok (.iconst 0, 1) := by decide +kernel
theorem dX8_allow__2 : decode cX8_allow_ 2 = .ok (.putfield 128, 3) := by decide +kernel
theorem dX8_allow__5 : decode cX8_allow_ 5 = .ok (.lload_n 1, 1) := by decide +kernel
theorem dX8_allow__6 : decode cX8_allow_ 6 = .ok (.lreturn, 1) := by decide +kernel
theorem dX8_clock_0 : decode cX8_clock 0 = .ok (.aload_n 0, 1) := by decide +kernel
theorem dX8_clock_1 : decode cX8_clock 1 = .ok (.iload_n 1, 1) := by decide +kernel
theorem dX8_clock_2 : decode cX8_clock 2 = .ok (.invokevirtual 131, 3) := by decide +kernel
theorem dX8_clock_5 : decode cX8_clock 5 = .ok (.ifCond .eq 15, 3) := by decide +kernel
theorem dX8_clock_8 : decode cX8_clock 8 = .ok (.aload_n 0, 1) := by decide +kernel
theorem dX8_clock_9 : decode cX8_clock 9 = .ok (.aload_n 0, 1) := by decide +kernel
theorem dX8_clock_10 : decode cX8_clock 10 = .ok (.iload_n 1, 1) := by decide +kernel
theorem dX8_clock_11 : decode cX8_clock 11 = .ok (.invokevirtual 138, 3) := by decide +kernel
theorem dX8_clock_14 : decode cX8_clock 14 = .ok (.invokevirtual 142, 3) := by decide +kernel
theorem dX8_clock_17 : decode cX8_clock 17 = .ok (.goto 9, 3) := by decide +kernel
theorem dX8_clock_20 : decode cX8_clock 20 = .ok (.aload_n 0, 1) := by decide +kernel
theorem dX8_clock_21 : decode cX8_clock 21 = .ok (.iconst 1, 1) := by decide +kernel
theorem dX8_clock_22 : decode cX8_clock 22 = .ok (.invokevirtual 83, 3) := by decide +kernel
theorem dX8_clock_25 : decode cX8_clock 25 = .ok (.i2l, 1) := by decide +kernel
theorem dX8_clock_26 : decode cX8_clock 26 = .ok (.lreturn, 1) := by decide +kernel
theorem dX8_ticks_0 : decode cX8_ticks 0 = .ok (.aload_n 0, 1) := by decide +kernel
theorem dX8_ticks_1 : decode cX8_ticks 1 = .ok (.getfield 98, 3) := by decide +kernel
theorem dX8_ticks_4 : decode cX8_ticks 4 = .ok (.ifCond .eq 17, 3) := by decide +kernel
theorem dX8_ticks_7 : decode cX8_ticks 7 = .ok (.aload_n 0, 1) := by decide +kernel
theorem dX8_ticks_8 : decode cX8_ticks 8 = .ok (.aload_n 0, 1) := by decide +kernel
theorem dX8_ticks_9 : decode cX8_ticks 9 = .ok (.getfield 23, 3) := by decide +kernel
theorem dX8_ticks_12 : decode cX8_ticks 12 = .ok (.getfield 145, 3) := by decide +kernel
theorem dX8_ticks_15 : decode cX8_ticks 15 = .ok (.invokevirtual 142, 3) := by decide +kernel
theorem dX8_ticks_18 : decode cX8_ticks 18 = .ok (.goto 9, 3) := by decide +kernel
theorem dX8_ticks_21 : decode cX8_ticks 21 = .ok (.aload_n 0, 1) := by decide +kernel
theorem dX8_ticks_22 : decode cX8_ticks 22 = .ok (.iconst 1, 1) := by decide +kernel
theorem dX8_ticks_23 : decode cX8_ticks 23 = .ok (.invokevirtual 83, 3) := by decide +kernel
theorem dX8_ticks_26 : decode cX8_ticks 26 = .ok (.i2l, 1) := by decide +kernel
theorem dX8_ticks_27 : decode cX8_ticks 27 = .ok (.lreturn, 1) := by decide +kernel
theorem dX8_inLowestTerms_0 : decode cX8_inLowestTerms 0 = .ok (.lload_n 0, 1) := by decide +kernel
theorem dX8_inLowestTerms_1 : decode cX8_inLowestTerms 1 = .ok (.lconst 0, 1) := by decide +kernel
theorem dX8_inLowestTerms_2 : decode cX8_inLowestTerms 2 = .ok (.lcmp, 1) := by decide +kernel
theorem dX8_inLowestTerms_3 : decode cX8_inLowestTerms 3 = .ok (.ifCond .ne 14, 3) := by decide +kernel
theorem dX8_inLowestTerms_6 : decode cX8_inLowestTerms 6 = .ok (.iload 4, 2) := by decide +kernel
theorem dX8_inLowestTerms_8 : decode cX8_inLowestTerms 8 = .ok (.ifCond .eq 7, 3) := by decide +kernel
theorem dX8_inLowestTerms_11 : decode cX8_inLowestTerms 11 = .ok (.lconst 1, 1) := by decide +kernel
theorem dX8_inLowestTerms_12 : decode cX8_inLowestTerms 12 = .ok (.goto 4, 3) := by decide +kernel
theorem dX8_inLowestTerms_15 : decode cX8_inLowestTerms 15 = .ok (.lconst 0, 1) := by decide +kernel
theorem dX8_inLowestTerms_16 : decode cX8_inLowestTerms 16 = .ok (.lreturn, 1) := by decide +kernel
theorem dX8_inLowestTerms_17 : decode cX8_inLowestTerms 17 = .ok (.lload_n 0, 1) := by decide +kernel
theorem dX8_inLowestTerms_18 : decode cX8_inLowestTerms 18 = .ok (.lstore 5, 2) := by decide +kernel
theorem dX8_inLowestTerms_20 : decode cX8_inLowestTerms 20 = .ok (.lload_n 2, 1) := by decide +kernel
theorem dX8_inLowestTerms_21 : decode cX8_inLowestTerms 21 = .ok (.lstore 7, 2) := by decide +kernel
theorem dX8_inLowestTerms_23 : decode cX8_inLowestTerms 23 = .ok (.iconst 0, 1) := by decide +kernel
theorem dX8_inLowestTerms_24 : decode cX8_inLowestTerms 24 = .ok (.istore 9, 2) := by decide +kernel
theorem dX8_inLowestTerms_26 : decode cX8_inLowestTerms 26 = .ok (.iload 9, 2) := by decide +kernel
theorem dX8_inLowestTerms_28 : decode cX8_inLowestTerms 28 = .ok (.sipush 200, 3) := by decide +kernel
theorem dX8_inLowestTerms_31 : decode cX8_inLowestTerms 31 = .ok (.if_icmp .ge 31, 3) := by decide +kernel
theorem dX8_inLowestTerms_34 : decode cX8_inLowestTerms 34 = .ok (.lload 7, 2) := by decide +kernel
theorem dX8_inLowestTerms_36 : decode cX8_inLowestTerms 36 = .ok (.lconst 0, 1) := by decide +kernel
theorem dX8_inLowestTerms_37 : decode cX8_inLowestTerms 37 = .ok (.lcmp, 1) := by decide +kernel
theorem dX8_inLowestTerms_38 : decode cX8_inLowestTerms 38 = .ok (.ifCond .eq 24, 3) := by decide +kernel
theorem dX8_inLowestTerms_41 : decode cX8_inLowestTerms 41 = .ok (.lload 5, 2) := by decide +kernel
theorem dX8_inLowestTerms_43 : decode cX8_inLowestTerms 43 = .ok (.lload 7, 2) := by decide +kernel
theorem dX8_inLowestTerms_45 : decode cX8_inLowestTerms 45 = .ok (.lrem, 1) := by decide +kernel
theorem dX8_inLowestTerms_46 : decode cX8_inLowestTerms 46 = .ok (.lstore 10, 2) := by decide +kernel
theorem dX8_inLowestTerms_48 : decode cX8_inLowestTerms 48 = .ok (.lload 7, 2) := by decide +kernel
theorem dX8_inLowestTerms_50 : decode cX8_inLowestTerms 50 = .ok (.lstore 5, 2) := by decide +kernel
theorem dX8_inLowestTerms_52 : decode cX8_inLowestTerms 52 = .ok (.lload 10, 2) := by decide +kernel
theorem dX8_inLowestTerms_54 : decode cX8_inLowestTerms 54 = .ok (.lstore 7, 2) := by decide +kernel
theorem dX8_inLowestTerms_56 : decode cX8_inLowestTerms 56 = .ok (.iinc 9 1, 3) := by decide +kernel
theorem dX8_inLowestTerms_59 : decode cX8_inLowestTerms 59 = .ok (.goto (-33), 3) := by decide +kernel
theorem dX8_inLowestTerms_62 : decode cX8_inLowestTerms 62 = .ok (.iload 4, 2) := by decide +kernel
theorem dX8_inLowestTerms_64 : decode cX8_inLowestTerms 64 = .ok (.ifCond .eq 7, 3) := by decide +kernel
theorem dX8_inLowestTerms_67 : decode cX8_inLowestTerms 67 = .ok (.lload_n 2, 1) := by decide +kernel
theorem dX8_inLowestTerms_68 : decode cX8_inLowestTerms 68 = .ok (.goto 4, 3) := by decide +kernel
theorem dX8_inLowestTerms_71 : decode cX8_inLowestTerms 71 = .ok (.lload_n 0, 1) := by decide +kernel
theorem dX8_inLowestTerms_72 : decode cX8_inLowestTerms 72 = .ok (.lload 5, 2) := by decide +kernel
theorem dX8_inLowestTerms_74 : decode cX8_inLowestTerms 74 = .ok (.invokestatic 152, 3) := by decide +kernel
theorem dX8_inLowestTerms_77 : decode cX8_inLowestTerms 77 = .ok (.lreturn, 1) := by decide +kernel
theorem dX8_minutes_0 : decode cX8_minutes 0 = .ok (.aload_n 0, 1) := by decide +kernel
theorem dX8_minutes_1 : decode cX8_minutes 1 = .ok (.iload_n 1, 1) := by decide +kernel
theorem dX8_minutes_2 : decode cX8_minutes 2 = .ok (.invokevirtual 131, 3) := by decide +kernel
theorem dX8_minutes_5 : decode cX8_minutes 5 = .ok (.ifCond .eq 11, 3) := by decide +kernel
theorem dX8_minutes_8 : decode cX8_minutes 8 = .ok (.aload_n 0, 1) := by decide +kernel
theorem dX8_minutes_9 : decode cX8_minutes 9 = .ok (.iload_n 2, 1) := by decide +kernel
theorem dX8_minutes_10 : decode cX8_minutes 10 = .ok (.invokevirtual 131, 3) := by decide +kernel
theorem dX8_minutes_13 : decode cX8_minutes 13 = .ok (.ifCond .ne 10, 3) := by decide +kernel
theorem dX8_minutes_16 : decode cX8_minutes 16 = .ok (.aload_n 0, 1) := by decide +kernel
theorem dX8_minutes_17 : decode cX8_minutes 17 = .ok (.iconst 1, 1) := by decide +kernel
theorem dX8_minutes_18 : decode cX8_minutes 18 = .ok (.invokevirtual 83, 3) := by decide +kernel
theorem dX8_minutes_21 : decode cX8_minutes 21 = .ok (.i2l, 1) := by decide +kernel
theorem dX8_minutes_22 : decode cX8_minutes 22 = .ok (.lreturn, 1) := by decide +kernel
theorem dX8_minutes_23 : decode cX8_minutes 23 = .ok (.iload_n 3, 1) := by decide +kernel
theorem dX8_minutes_24 : decode cX8_minutes 24 = .ok (.ifCond .lt 10, 3) := by decide +kernel
theorem dX8_minutes_27 : decode cX8_minutes 27 = .ok (.iload_n 3, 1) := by decide +kernel
theorem dX8_minutes_28 : decode cX8_minutes 28 = .ok (.sipush 9999, 3) := by decide +kernel
theorem dX8_minutes_31 : decode cX8_minutes 31 = .ok (.if_icmp .le 10, 3) := by decide +kernel
theorem dX8_minutes_34 : decode cX8_minutes 34 = .ok (.aload_n 0, 1) := by decide +kernel
theorem dX8_minutes_35 : decode cX8_minutes 35 = .ok (.iconst 2, 1) := by decide +kernel
theorem dX8_minutes_36 : decode cX8_minutes 36 = .ok (.invokevirtual 83, 3) := by decide +kernel
theorem dX8_minutes_39 : decode cX8_minutes 39 = .ok (.i2l, 1) := by decide +kernel
theorem dX8_minutes_40 : decode cX8_minutes 40 = .ok (.lreturn, 1) := by decide +kernel
theorem dX8_minutes_41 : decode cX8_minutes 41 = .ok (.aload_n 0, 1) := by decide +kernel
theorem dX8_minutes_42 : decode cX8_minutes 42 = .ok (.iload_n 3, 1) := by decide +kernel
theorem dX8_minutes_43 : decode cX8_minutes 43 = .ok (.i2l, 1) := by decide +kernel
theorem dX8_minutes_44 : decode cX8_minutes 44 = .ok (.aload_n 0, 1) := by decide +kernel
theorem dX8_minutes_45 : decode cX8_minutes 45 = .ok (.getfield 68, 3) := by decide +kernel
theorem dX8_minutes_48 : decode cX8_minutes 48 = .ok (.iload_n 2, 1) := by decide +kernel
theorem dX8_minutes_49 : decode cX8_minutes 49 = .ok (.invokevirtual 135, 3) := by decide +kernel
theorem dX8_minutes_52 : decode cX8_minutes 52 = .ok (.i2l, 1) := by decide +kernel
theorem dX8_minutes_53 : decode cX8_minutes 53 = .ok (.lmul, 1) := by decide +kernel
theorem dX8_minutes_54 : decode cX8_minutes 54 = .ok (.aload_n 0, 1) := by decide +kernel
theorem dX8_minutes_55 : decode cX8_minutes 55 = .ok (.getfield 68, 3) := by decide +kernel
theorem dX8_minutes_58 : decode cX8_minutes 58 = .ok (.iload_n 1, 1) := by decide +kernel
theorem dX8_minutes_59 : decode cX8_minutes 59 = .ok (.invokevirtual 135, 3) := by decide +kernel
theorem dX8_minutes_62 : decode cX8_minutes 62 = .ok (.i2l, 1) := by decide +kernel
theorem dX8_minutes_63 : decode cX8_minutes 63 = .ok (.iload 4, 2) := by decide +kernel
theorem dX8_minutes_65 : decode cX8_minutes 65 = .ok (.invokestatic 156, 3) := by decide +kernel
theorem dX8_minutes_68 : decode cX8_minutes 68 = .ok (.invokevirtual 142, 3) := by decide +kernel
theorem dX8_minutes_71 : decode cX8_minutes 71 = .ok (.lreturn, 1) := by decide +kernel
theorem dX8_isSleeper_0 : decode cX8_isSleeper 0 = .ok (.aload_n 0, 1) := by decide +kernel
theorem dX8_isSleeper_1 : decode cX8_isSleeper 1 = .ok (.getfield 98, 3) := by decide +kernel
theorem dX8_isSleeper_4 : decode cX8_isSleeper 4 = .ok (.ifCond .eq 25, 3) := by decide +kernel
theorem dX8_isSleeper_7 : decode cX8_isSleeper 7 = .ok (.iload_n 1, 1) := by decide +kernel
theorem dX8_isSleeper_8 : decode cX8_isSleeper 8 = .ok (.ifCond .lt 21, 3) := by decide +kernel
theorem dX8_isSleeper_11 : decode cX8_isSleeper 11 = .ok (.iload_n 1, 1) := by decide +kernel
theorem dX8_isSleeper_12 : decode cX8_isSleeper 12 = .ok (.aload_n 0, 1) := by decide +kernel
theorem dX8_isSleeper_13 : decode cX8_isSleeper 13 = .ok (.getfield 68, 3) := by decide +kernel
theorem dX8_isSleeper_16 : decode cX8_isSleeper 16 = .ok (.getfield 116, 3) := by decide +kernel
theorem dX8_isSleeper_19 : decode cX8_isSleeper 19 = .ok (.getfield 120, 3) := by decide +kernel
theorem dX8_isSleeper_22 : decode cX8_isSleeper 22 = .ok (.if_icmp .ge 7, 3) := by decide +kernel
theorem dX8_isSleeper_25 : decode cX8_isSleeper 25 = .ok (.iconst 1, 1) := by decide +kernel
theorem dX8_isSleeper_26 : decode cX8_isSleeper 26 = .ok (.goto 4, 3) := by decide +kernel
theorem dX8_isSleeper_29 : decode cX8_isSleeper 29 = .ok (.iconst 0, 1) := by decide +kernel
theorem dX8_isSleeper_30 : decode cX8_isSleeper 30 = .ok (.ireturn, 1) := by decide +kernel
theorem dX8_sleeper_0 : decode cX8_sleeper 0 = .ok (.aload_n 0, 1) := by decide +kernel
theorem dX8_sleeper_1 : decode cX8_sleeper 1 = .ok (.iload_n 1, 1) := by decide +kernel
theorem dX8_sleeper_2 : decode cX8_sleeper 2 = .ok (.invokevirtual 160, 3) := by decide +kernel
theorem dX8_sleeper_5 : decode cX8_sleeper 5 = .ok (.ifCond .ne 9, 3) := by decide +kernel
theorem dX8_sleeper_8 : decode cX8_sleeper 8 = .ok (.aload_n 0, 1) := by decide +kernel
theorem dX8_sleeper_9 : decode cX8_sleeper 9 = .ok (.iconst 1, 1) := by decide +kernel
theorem dX8_sleeper_10 : decode cX8_sleeper 10 = .ok (.invokevirtual 83, 3) := by decide +kernel
theorem dX8_sleeper_13 : decode cX8_sleeper 13 = .ok (.ireturn, 1) := by decide +kernel
theorem dX8_sleeper_14 : decode cX8_sleeper 14 = .ok (.iload_n 2, 1) := by decide +kernel
theorem dX8_sleeper_15 : decode cX8_sleeper 15 = .ok (.tableswitch 177 0 6 #[41, 55, 69, 83, 126, 143, 160], 41) := by decide +kernel
theorem dX8_sleeper_56 : decode cX8_sleeper 56 = .ok (.aload_n 0, 1) := by decide +kernel
theorem dX8_sleeper_57 : decode cX8_sleeper 57 = .ok (.aload_n 0, 1) := by decide +kernel
theorem dX8_sleeper_58 : decode cX8_sleeper 58 = .ok (.getfield 23, 3) := by decide +kernel
theorem dX8_sleeper_61 : decode cX8_sleeper 61 = .ok (.getfield 163, 3) := by decide +kernel
theorem dX8_sleeper_64 : decode cX8_sleeper 64 = .ok (.iload_n 1, 1) := by decide +kernel
theorem dX8_sleeper_65 : decode cX8_sleeper 65 = .ok (.iaload, 1) := by decide +kernel
theorem dX8_sleeper_66 : decode cX8_sleeper 66 = .ok (.invokevirtual 125, 3) := by decide +kernel
theorem dX8_sleeper_69 : decode cX8_sleeper 69 = .ok (.ireturn, 1) := by decide +kernel
theorem dX8_sleeper_70 : decode cX8_sleeper 70 = .ok (.aload_n 0, 1) := by decide +kernel
theorem dX8_sleeper_71 : decode cX8_sleeper 71 = .ok (.aload_n 0, 1) := by decide +kernel
theorem dX8_sleeper_72 : decode cX8_sleeper 72 = .ok (.getfield 23, 3) := by decide +kernel
theorem dX8_sleeper_75 : decode cX8_sleeper 75 = .ok (.getfield 167, 3) := by decide +kernel
theorem dX8_sleeper_78 : decode cX8_sleeper 78 = .ok (.iload_n 1, 1) := by decide +kernel
theorem dX8_sleeper_79 : decode cX8_sleeper 79 = .ok (.iaload, 1) := by decide +kernel
theorem dX8_sleeper_80 : decode cX8_sleeper 80 = .ok (.invokevirtual 125, 3) := by decide +kernel
theorem dX8_sleeper_83 : decode cX8_sleeper 83 = .ok (.ireturn, 1) := by decide +kernel
theorem dX8_sleeper_84 : decode cX8_sleeper 84 = .ok (.aload_n 0, 1) := by decide +kernel
theorem dX8_sleeper_85 : decode cX8_sleeper 85 = .ok (.aload_n 0, 1) := by decide +kernel
theorem dX8_sleeper_86 : decode cX8_sleeper 86 = .ok (.getfield 23, 3) := by decide +kernel
theorem dX8_sleeper_89 : decode cX8_sleeper 89 = .ok (.getfield 170, 3) := by decide +kernel
theorem dX8_sleeper_92 : decode cX8_sleeper 92 = .ok (.iload_n 1, 1) := by decide +kernel
theorem dX8_sleeper_93 : decode cX8_sleeper 93 = .ok (.iaload, 1) := by decide +kernel
theorem dX8_sleeper_94 : decode cX8_sleeper 94 = .ok (.invokevirtual 125, 3) := by decide +kernel
theorem dX8_sleeper_97 : decode cX8_sleeper 97 = .ok (.ireturn, 1) := by decide +kernel
theorem dX8_sleeper_98 : decode cX8_sleeper 98 = .ok (.aload_n 0, 1) := by decide +kernel
theorem dX8_sleeper_99 : decode cX8_sleeper 99 = .ok (.aload_n 0, 1) := by decide +kernel
theorem dX8_sleeper_100 : decode cX8_sleeper 100 = .ok (.getfield 23, 3) := by decide +kernel
theorem dX8_sleeper_103 : decode cX8_sleeper 103 = .ok (.getfield 145, 3) := by decide +kernel
theorem dX8_sleeper_106 : decode cX8_sleeper 106 = .ok (.aload_n 0, 1) := by decide +kernel
theorem dX8_sleeper_107 : decode cX8_sleeper 107 = .ok (.getfield 23, 3) := by decide +kernel
theorem dX8_sleeper_110 : decode cX8_sleeper 110 = .ok (.getfield 173, 3) := by decide +kernel
theorem dX8_sleeper_113 : decode cX8_sleeper 113 = .ok (.iload_n 1, 1) := by decide +kernel
theorem dX8_sleeper_114 : decode cX8_sleeper 114 = .ok (.laload, 1) := by decide +kernel
theorem dX8_sleeper_115 : decode cX8_sleeper 115 = .ok (.lsub, 1) := by decide +kernel
theorem dX8_sleeper_116 : decode cX8_sleeper 116 = .ok (.aload_n 0, 1) := by decide +kernel
theorem dX8_sleeper_117 : decode cX8_sleeper 117 = .ok (.getfield 68, 3) := by decide +kernel
theorem dX8_sleeper_120 : decode cX8_sleeper 120 = .ok (.aload_n 0, 1) := by decide +kernel
theorem dX8_sleeper_121 : decode cX8_sleeper 121 = .ok (.getfield 23, 3) := by decide +kernel
theorem dX8_sleeper_124 : decode cX8_sleeper 124 = .ok (.getfield 163, 3) := by decide +kernel
theorem dX8_sleeper_127 : decode cX8_sleeper 127 = .ok (.iload_n 1, 1) := by decide +kernel
theorem dX8_sleeper_128 : decode cX8_sleeper 128 = .ok (.iaload, 1) := by decide +kernel
theorem dX8_sleeper_129 : decode cX8_sleeper 129 = .ok (.invokevirtual 149, 3) := by decide +kernel
theorem dX8_sleeper_132 : decode cX8_sleeper 132 = .ok (.i2l, 1) := by decide +kernel
theorem dX8_sleeper_133 : decode cX8_sleeper 133 = .ok (.invokestatic 152, 3) := by decide +kernel
theorem dX8_sleeper_136 : decode cX8_sleeper 136 = .ok (.l2i, 1) := by decide +kernel
theorem dX8_sleeper_137 : decode cX8_sleeper 137 = .ok (.invokevirtual 125, 3) := by decide +kernel
theorem dX8_sleeper_140 : decode cX8_sleeper 140 = .ok (.ireturn, 1) := by decide +kernel
theorem dX8_sleeper_141 : decode cX8_sleeper 141 = .ok (.aload_n 0, 1) := by decide +kernel
theorem dX8_sleeper_142 : decode cX8_sleeper 142 = .ok (.aload_n 0, 1) := by decide +kernel
theorem dX8_sleeper_143 : decode cX8_sleeper 143 = .ok (.getfield 68, 3) := by decide +kernel
theorem dX8_sleeper_146 : decode cX8_sleeper 146 = .ok (.getfield 116, 3) := by decide +kernel
theorem dX8_sleeper_149 : decode cX8_sleeper 149 = .ok (.iload_n 1, 1) := by decide +kernel
theorem dX8_sleeper_150 : decode cX8_sleeper 150 = .ok (.iconst 0, 1) := by decide +kernel
theorem dX8_sleeper_151 : decode cX8_sleeper 151 = .ok (.invokevirtual 177, 3) := by decide +kernel
theorem dX8_sleeper_154 : decode cX8_sleeper 154 = .ok (.invokevirtual 125, 3) := by decide +kernel
theorem dX8_sleeper_157 : decode cX8_sleeper 157 = .ok (.ireturn, 1) := by decide +kernel
theorem dX8_sleeper_158 : decode cX8_sleeper 158 = .ok (.aload_n 0, 1) := by decide +kernel
theorem dX8_sleeper_159 : decode cX8_sleeper 159 = .ok (.aload_n 0, 1) := by decide +kernel
theorem dX8_sleeper_160 : decode cX8_sleeper 160 = .ok (.getfield 68, 3) := by decide +kernel
theorem dX8_sleeper_163 : decode cX8_sleeper 163 = .ok (.getfield 116, 3) := by decide +kernel
theorem dX8_sleeper_166 : decode cX8_sleeper 166 = .ok (.iload_n 1, 1) := by decide +kernel
theorem dX8_sleeper_167 : decode cX8_sleeper 167 = .ok (.iconst 1, 1) := by decide +kernel
theorem dX8_sleeper_168 : decode cX8_sleeper 168 = .ok (.invokevirtual 177, 3) := by decide +kernel
theorem dX8_sleeper_171 : decode cX8_sleeper 171 = .ok (.invokevirtual 125, 3) := by decide +kernel
theorem dX8_sleeper_174 : decode cX8_sleeper 174 = .ok (.ireturn, 1) := by decide +kernel
theorem dX8_sleeper_175 : decode cX8_sleeper 175 = .ok (.aload_n 0, 1) := by decide +kernel
theorem dX8_sleeper_176 : decode cX8_sleeper 176 = .ok (.aload_n 0, 1) := by decide +kernel
theorem dX8_sleeper_177 : decode cX8_sleeper 177 = .ok (.getfield 68, 3) := by decide +kernel
theorem dX8_sleeper_180 : decode cX8_sleeper 180 = .ok (.getfield 116, 3) := by decide +kernel
theorem dX8_sleeper_183 : decode cX8_sleeper 183 = .ok (.iload_n 1, 1) := by decide +kernel
theorem dX8_sleeper_184 : decode cX8_sleeper 184 = .ok (.iconst 4, 1) := by decide +kernel
theorem dX8_sleeper_185 : decode cX8_sleeper 185 = .ok (.invokevirtual 177, 3) := by decide +kernel
theorem dX8_sleeper_188 : decode cX8_sleeper 188 = .ok (.invokevirtual 125, 3) := by decide +kernel
theorem dX8_sleeper_191 : decode cX8_sleeper 191 = .ok (.ireturn, 1) := by decide +kernel
theorem dX8_sleeper_192 : decode cX8_sleeper 192 = .ok (.aload_n 0, 1) := by decide +kernel
theorem dX8_sleeper_193 : decode cX8_sleeper 193 = .ok (.iconst 1, 1) := by decide +kernel
theorem dX8_sleeper_194 : decode cX8_sleeper 194 = .ok (.invokevirtual 83, 3) := by decide +kernel
theorem dX8_sleeper_197 : decode cX8_sleeper 197 = .ok (.ireturn, 1) := by decide +kernel
theorem dX8_lived_0 : decode cX8_lived 0 = .ok (.aload_n 0, 1) := by decide +kernel
theorem dX8_lived_1 : decode cX8_lived 1 = .ok (.iload_n 1, 1) := by decide +kernel
theorem dX8_lived_2 : decode cX8_lived 2 = .ok (.invokevirtual 160, 3) := by decide +kernel
theorem dX8_lived_5 : decode cX8_lived 5 = .ok (.ifCond .ne 10, 3) := by decide +kernel
theorem dX8_lived_8 : decode cX8_lived 8 = .ok (.aload_n 0, 1) := by decide +kernel
theorem dX8_lived_9 : decode cX8_lived 9 = .ok (.iconst 1, 1) := by decide +kernel
theorem dX8_lived_10 : decode cX8_lived 10 = .ok (.invokevirtual 83, 3) := by decide +kernel
theorem dX8_lived_13 : decode cX8_lived 13 = .ok (.i2l, 1) := by decide +kernel
theorem dX8_lived_14 : decode cX8_lived 14 = .ok (.lreturn, 1) := by decide +kernel
theorem dX8_lived_15 : decode cX8_lived 15 = .ok (.aload_n 0, 1) := by decide +kernel
theorem dX8_lived_16 : decode cX8_lived 16 = .ok (.aload_n 0, 1) := by decide +kernel
theorem dX8_lived_17 : decode cX8_lived 17 = .ok (.getfield 23, 3) := by decide +kernel
theorem dX8_lived_20 : decode cX8_lived 20 = .ok (.aload_n 0, 1) := by decide +kernel
theorem dX8_lived_21 : decode cX8_lived 21 = .ok (.getfield 68, 3) := by decide +kernel
theorem dX8_lived_24 : decode cX8_lived 24 = .ok (.iload_n 1, 1) := by decide +kernel
theorem dX8_lived_25 : decode cX8_lived 25 = .ok (.invokevirtual 181, 3) := by decide +kernel
theorem dX8_lived_28 : decode cX8_lived 28 = .ok (.aload_n 0, 1) := by decide +kernel
theorem dX8_lived_29 : decode cX8_lived 29 = .ok (.getfield 68, 3) := by decide +kernel
theorem dX8_lived_32 : decode cX8_lived 32 = .ok (.invokevirtual 185, 3) := by decide +kernel
theorem dX8_lived_35 : decode cX8_lived 35 = .ok (.i2l, 1) := by decide +kernel
theorem dX8_lived_36 : decode cX8_lived 36 = .ok (.iload_n 2, 1) := by decide +kernel
theorem dX8_lived_37 : decode cX8_lived 37 = .ok (.invokestatic 156, 3) := by decide +kernel
theorem dX8_lived_40 : decode cX8_lived 40 = .ok (.invokevirtual 142, 3) := by decide +kernel
theorem dX8_lived_43 : decode cX8_lived 43 = .ok (.lreturn, 1) := by decide +kernel
theorem dX8_isPair_0 : decode cX8_isPair 0 = .ok (.aload_n 0, 1) := by decide +kernel
theorem dX8_isPair_1 : decode cX8_isPair 1 = .ok (.iload_n 1, 1) := by decide +kernel
theorem dX8_isPair_2 : decode cX8_isPair 2 = .ok (.invokevirtual 160, 3) := by decide +kernel
theorem dX8_isPair_5 : decode cX8_isPair 5 = .ok (.ifCond .eq 20, 3) := by decide +kernel
theorem dX8_isPair_8 : decode cX8_isPair 8 = .ok (.aload_n 0, 1) := by decide +kernel
theorem dX8_isPair_9 : decode cX8_isPair 9 = .ok (.iload_n 2, 1) := by decide +kernel
theorem dX8_isPair_10 : decode cX8_isPair 10 = .ok (.invokevirtual 160, 3) := by decide +kernel
theorem dX8_isPair_13 : decode cX8_isPair 13 = .ok (.ifCond .eq 12, 3) := by decide +kernel
theorem dX8_isPair_16 : decode cX8_isPair 16 = .ok (.iload_n 1, 1) := by decide +kernel
theorem dX8_isPair_17 : decode cX8_isPair 17 = .ok (.iload_n 2, 1) := by decide +kernel
theorem dX8_isPair_18 : decode cX8_isPair 18 = .ok (.if_icmp .eq 7, 3) := by decide +kernel
theorem dX8_isPair_21 : decode cX8_isPair 21 = .ok (.iconst 1, 1) := by decide +kernel
theorem dX8_isPair_22 : decode cX8_isPair 22 = .ok (.goto 4, 3) := by decide +kernel
theorem dX8_isPair_25 : decode cX8_isPair 25 = .ok (.iconst 0, 1) := by decide +kernel
theorem dX8_isPair_26 : decode cX8_isPair 26 = .ok (.ireturn, 1) := by decide +kernel
theorem dX8_meet_0 : decode cX8_meet 0 = .ok (.aload_n 0, 1) := by decide +kernel
theorem dX8_meet_1 : decode cX8_meet 1 = .ok (.iload_n 1, 1) := by decide +kernel
theorem dX8_meet_2 : decode cX8_meet 2 = .ok (.iload_n 2, 1) := by decide +kernel
theorem dX8_meet_3 : decode cX8_meet 3 = .ok (.invokevirtual 189, 3) := by decide +kernel
theorem dX8_meet_6 : decode cX8_meet 6 = .ok (.ifCond .ne 9, 3) := by decide +kernel
theorem dX8_meet_9 : decode cX8_meet 9 = .ok (.aload_n 0, 1) := by decide +kernel
theorem dX8_meet_10 : decode cX8_meet 10 = .ok (.iconst 1, 1) := by decide +kernel
theorem dX8_meet_11 : decode cX8_meet 11 = .ok (.invokevirtual 83, 3) := by decide +kernel
theorem dX8_meet_14 : decode cX8_meet 14 = .ok (.ireturn, 1) := by decide +kernel
theorem dX8_meet_15 : decode cX8_meet 15 = .ok (.aload_n 0, 1) := by decide +kernel
theorem dX8_meet_16 : decode cX8_meet 16 = .ok (.aload_n 0, 1) := by decide +kernel
theorem dX8_meet_17 : decode cX8_meet 17 = .ok (.getfield 23, 3) := by decide +kernel
theorem dX8_meet_20 : decode cX8_meet 20 = .ok (.iload_n 1, 1) := by decide +kernel
theorem dX8_meet_21 : decode cX8_meet 21 = .ok (.iload_n 2, 1) := by decide +kernel
theorem dX8_meet_22 : decode cX8_meet 22 = .ok (.invokevirtual 193, 3) := by decide +kernel
theorem dX8_meet_25 : decode cX8_meet 25 = .ok (.ifCond .eq 7, 3) := by decide +kernel
theorem dX8_meet_28 : decode cX8_meet 28 = .ok (.iconst 1, 1) := by decide +kernel
theorem dX8_meet_29 : decode cX8_meet 29 = .ok (.goto 4, 3) := by decide +kernel
theorem dX8_meet_32 : decode cX8_meet 32 = .ok (.iconst 0, 1) := by decide +kernel
theorem dX8_meet_33 : decode cX8_meet 33 = .ok (.invokevirtual 125, 3) := by decide +kernel
theorem dX8_meet_36 : decode cX8_meet 36 = .ok (.ireturn, 1) := by decide +kernel
theorem dX8_off_0 : decode cX8_off 0 = .ok (.aload_n 0, 1) := by decide +kernel
theorem dX8_off_1 : decode cX8_off 1 = .ok (.getfield 98, 3) := by decide +kernel
theorem dX8_off_4 : decode cX8_off 4 = .ok (.ifCond .ne 9, 3) := by decide +kernel
theorem dX8_off_7 : decode cX8_off 7 = .ok (.aload_n 0, 1) := by decide +kernel
theorem dX8_off_8 : decode cX8_off 8 = .ok (.iconst 1, 1) := by decide +kernel
theorem dX8_off_9 : decode cX8_off 9 = .ok (.invokevirtual 83, 3) := by decide +kernel
theorem dX8_off_12 : decode cX8_off 12 = .ok (.ireturn, 1) := by decide +kernel
theorem dX8_off_13 : decode cX8_off 13 = .ok (.iconst 0, 1) := by decide +kernel
theorem dX8_off_14 : decode cX8_off 14 = .ok (.istore_n 1, 1) := by decide +kernel
theorem dX8_off_15 : decode cX8_off 15 = .ok (.iload_n 1, 1) := by decide +kernel
theorem dX8_off_16 : decode cX8_off 16 = .ok (.aload_n 0, 1) := by decide +kernel
theorem dX8_off_17 : decode cX8_off 17 = .ok (.getfield 68, 3) := by decide +kernel
theorem dX8_off_20 : decode cX8_off 20 = .ok (.getfield 116, 3) := by decide +kernel
theorem dX8_off_23 : decode cX8_off 23 = .ok (.getfield 120, 3) := by decide +kernel
theorem dX8_off_26 : decode cX8_off 26 = .ok (.if_icmp .ge 47, 3) := by decide +kernel
theorem dX8_off_29 : decode cX8_off 29 = .ok (.aload_n 0, 1) := by decide +kernel
theorem dX8_off_30 : decode cX8_off 30 = .ok (.getfield 68, 3) := by decide +kernel
theorem dX8_off_33 : decode cX8_off 33 = .ok (.getfield 116, 3) := by decide +kernel
theorem dX8_off_36 : decode cX8_off 36 = .ok (.iload_n 1, 1) := by decide +kernel
theorem dX8_off_37 : decode cX8_off 37 = .ok (.iconst 4, 1) := by decide +kernel
theorem dX8_off_38 : decode cX8_off 38 = .ok (.invokevirtual 177, 3) := by decide +kernel
theorem dX8_off_41 : decode cX8_off 41 = .ok (.istore_n 2, 1) := by decide +kernel
theorem dX8_off_42 : decode cX8_off 42 = .ok (.iload_n 2, 1) := by decide +kernel
theorem dX8_off_43 : decode cX8_off 43 = .ok (.bipush (-2), 2) := by decide +kernel
theorem dX8_off_45 : decode cX8_off 45 = .ok (.if_icmp .eq 22, 3) := by decide +kernel
theorem dX8_off_48 : decode cX8_off 48 = .ok (.iload_n 2, 1) := by decide +kernel
theorem dX8_off_49 : decode cX8_off 49 = .ok (.aload_n 0, 1) := by decide +kernel
theorem dX8_off_50 : decode cX8_off 50 = .ok (.getfield 23, 3) := by decide +kernel
theorem dX8_off_53 : decode cX8_off 53 = .ok (.getfield 163, 3) := by decide +kernel
theorem dX8_off_56 : decode cX8_off 56 = .ok (.iload_n 1, 1) := by decide +kernel
theorem dX8_off_57 : decode cX8_off 57 = .ok (.iaload, 1) := by decide +kernel
theorem dX8_off_58 : decode cX8_off 58 = .ok (.if_icmp .eq 9, 3) := by decide +kernel
theorem dX8_off_61 : decode cX8_off 61 = .ok (.aload_n 0, 1) := by decide +kernel
theorem dX8_off_62 : decode cX8_off 62 = .ok (.iload_n 1, 1) := by decide +kernel
theorem dX8_off_63 : decode cX8_off 63 = .ok (.invokevirtual 125, 3) := by decide +kernel
theorem dX8_off_66 : decode cX8_off 66 = .ok (.ireturn, 1) := by decide +kernel
theorem dX8_off_67 : decode cX8_off 67 = .ok (.iinc 1 1, 3) := by decide +kernel
theorem dX8_off_70 : decode cX8_off 70 = .ok (.goto (-55), 3) := by decide +kernel
theorem dX8_off_73 : decode cX8_off 73 = .ok (.aload_n 0, 1) := by decide +kernel
theorem dX8_off_74 : decode cX8_off 74 = .ok (.bipush (-2), 2) := by decide +kernel
theorem dX8_off_76 : decode cX8_off 76 = .ok (.invokevirtual 125, 3) := by decide +kernel
theorem dX8_off_79 : decode cX8_off 79 = .ok (.ireturn, 1) := by decide +kernel
theorem dX8_isSpan_0 : decode cX8_isSpan 0 = .ok (.iload_n 0, 1) := by decide +kernel
theorem dX8_isSpan_1 : decode cX8_isSpan 1 = .ok (.ifCond .lt 14, 3) := by decide +kernel
theorem dX8_isSpan_4 : decode cX8_isSpan 4 = .ok (.iload_n 0, 1) := by decide +kernel
theorem dX8_isSpan_5 : decode cX8_isSpan 5 = .ok (.sipush 600, 3) := by decide +kernel
theorem dX8_isSpan_8 : decode cX8_isSpan 8 = .ok (.if_icmp .gt 7, 3) := by decide +kernel
theorem dX8_isSpan_11 : decode cX8_isSpan 11 = .ok (.iconst 1, 1) := by decide +kernel
theorem dX8_isSpan_12 : decode cX8_isSpan 12 = .ok (.goto 4, 3) := by decide +kernel
theorem dX8_isSpan_15 : decode cX8_isSpan 15 = .ok (.iconst 0, 1) := by decide +kernel
theorem dX8_isSpan_16 : decode cX8_isSpan 16 = .ok (.ireturn, 1) := by decide +kernel
theorem dX8_whyNotIn_0 : decode cX8_whyNotIn 0 = .ok (.aload_n 0, 1) := by decide +kernel
theorem dX8_whyNotIn_1 : decode cX8_whyNotIn 1 = .ok (.iload_n 1, 1) := by decide +kernel
theorem dX8_whyNotIn_2 : decode cX8_whyNotIn 2 = .ok (.invokevirtual 160, 3) := by decide +kernel
theorem dX8_whyNotIn_5 : decode cX8_whyNotIn 5 = .ok (.ifCond .ne 5, 3) := by decide +kernel
theorem dX8_whyNotIn_8 : decode cX8_whyNotIn 8 = .ok (.iconst 1, 1) := by decide +kernel
theorem dX8_whyNotIn_9 : decode cX8_whyNotIn 9 = .ok (.ireturn, 1) := by decide +kernel
theorem dX8_whyNotIn_10 : decode cX8_whyNotIn 10 = .ok (.iload_n 2, 1) := by decide +kernel
theorem dX8_whyNotIn_11 : decode cX8_whyNotIn 11 = .ok (.invokestatic 202, 3) := by decide +kernel
theorem dX8_whyNotIn_14 : decode cX8_whyNotIn 14 = .ok (.ifCond .eq 7, 3) := by decide +kernel
theorem dX8_whyNotIn_17 : decode cX8_whyNotIn 17 = .ok (.iconst 0, 1) := by decide +kernel
theorem dX8_whyNotIn_18 : decode cX8_whyNotIn 18 = .ok (.goto 4, 3) := by decide +kernel
theorem dX8_whyNotIn_21 : decode cX8_whyNotIn 21 = .ok (.iconst 2, 1) := by decide +kernel
theorem dX8_whyNotIn_22 : decode cX8_whyNotIn 22 = .ok (.ireturn, 1) := by decide +kernel
theorem dX8_lookAhead_0 : decode cX8_lookAhead 0 = .ok (.aload_n 0, 1) := by decide +kernel
theorem dX8_lookAhead_1 : decode cX8_lookAhead 1 = .ok (.getfield 27, 3) := by decide +kernel
theorem dX8_lookAhead_4 : decode cX8_lookAhead 4 = .ok (.aload_n 0, 1) := by decide +kernel
theorem dX8_lookAhead_5 : decode cX8_lookAhead 5 = .ok (.getfield 23, 3) := by decide +kernel
theorem dX8_lookAhead_8 : decode cX8_lookAhead 8 = .ok (.invokevirtual 220, 3) := by decide +kernel
theorem dX8_lookAhead_11 : decode cX8_lookAhead 11 = .ok (.aload_n 0, 1) := by decide +kernel
theorem dX8_lookAhead_12 : decode cX8_lookAhead 12 = .ok (.getfield 27, 3) := by decide +kernel
theorem dX8_lookAhead_15 : decode cX8_lookAhead 15 = .ok (.aload_n 0, 1) := by decide +kernel
theorem dX8_lookAhead_16 : decode cX8_lookAhead 16 = .ok (.getfield 68, 3) := by decide +kernel
theorem dX8_lookAhead_19 : decode cX8_lookAhead 19 = .ok (.aload_n 0, 1) := by decide +kernel
theorem dX8_lookAhead_20 : decode cX8_lookAhead 20 = .ok (.getfield 23, 3) := by decide +kernel
theorem dX8_lookAhead_23 : decode cX8_lookAhead 23 = .ok (.getfield 145, 3) := by decide +kernel
theorem dX8_lookAhead_26 : decode cX8_lookAhead 26 = .ok (.iload_n 1, 1) := by decide +kernel
theorem dX8_lookAhead_27 : decode cX8_lookAhead 27 = .ok (.i2l, 1) := by decide +kernel
theorem dX8_lookAhead_28 : decode cX8_lookAhead 28 = .ok (.aload_n 0, 1) := by decide +kernel
theorem dX8_lookAhead_29 : decode cX8_lookAhead 29 = .ok (.getfield 68, 3) := by decide +kernel
theorem dX8_lookAhead_32 : decode cX8_lookAhead 32 = .ok (.invokevirtual 185, 3) := by decide +kernel
theorem dX8_lookAhead_35 : decode cX8_lookAhead 35 = .ok (.i2l, 1) := by decide +kernel
theorem dX8_lookAhead_36 : decode cX8_lookAhead 36 = .ok (.lmul, 1) := by decide +kernel
theorem dX8_lookAhead_37 : decode cX8_lookAhead 37 = .ok (.ladd, 1) := by decide +kernel
theorem dX8_lookAhead_38 : decode cX8_lookAhead 38 = .ok (.invokevirtual 233, 3) := by decide +kernel
theorem dX8_lookAhead_41 : decode cX8_lookAhead 41 = .ok (.return_, 1) := by decide +kernel
theorem dX8_floorIn_0 : decode cX8_floorIn 0 = .ok (.aload_n 0, 1) := by decide +kernel
theorem dX8_floorIn_1 : decode cX8_floorIn 1 = .ok (.iload_n 1, 1) := by decide +kernel
theorem dX8_floorIn_2 : decode cX8_floorIn 2 = .ok (.iload_n 2, 1) := by decide +kernel
theorem dX8_floorIn_3 : decode cX8_floorIn 3 = .ok (.invokevirtual 196, 3) := by decide +kernel
theorem dX8_floorIn_6 : decode cX8_floorIn 6 = .ok (.istore_n 3, 1) := by decide +kernel
theorem dX8_floorIn_7 : decode cX8_floorIn 7 = .ok (.iload_n 3, 1) := by decide +kernel
theorem dX8_floorIn_8 : decode cX8_floorIn 8 = .ok (.ifCond .eq 9, 3) := by decide +kernel
theorem dX8_floorIn_11 : decode cX8_floorIn 11 = .ok (.aload_n 0, 1) := by decide +kernel
theorem dX8_floorIn_12 : decode cX8_floorIn 12 = .ok (.iload_n 3, 1) := by decide +kernel
theorem dX8_floorIn_13 : decode cX8_floorIn 13 = .ok (.invokevirtual 83, 3) := by decide +kernel
theorem dX8_floorIn_16 : decode cX8_floorIn 16 = .ok (.ireturn, 1) := by decide +kernel
theorem dX8_floorIn_17 : decode cX8_floorIn 17 = .ok (.aload_n 0, 1) := by decide +kernel
theorem dX8_floorIn_18 : decode cX8_floorIn 18 = .ok (.iload_n 2, 1) := by decide +kernel
theorem dX8_floorIn_19 : decode cX8_floorIn 19 = .ok (.invokevirtual 199, 3) := by decide +kernel
theorem dX8_floorIn_22 : decode cX8_floorIn 22 = .ok (.aload_n 0, 1) := by decide +kernel
theorem dX8_floorIn_23 : decode cX8_floorIn 23 = .ok (.aload_n 0, 1) := by decide +kernel
theorem dX8_floorIn_24 : decode cX8_floorIn 24 = .ok (.getfield 27, 3) := by decide +kernel
theorem dX8_floorIn_27 : decode cX8_floorIn 27 = .ok (.getfield 163, 3) := by decide +kernel
theorem dX8_floorIn_30 : decode cX8_floorIn 30 = .ok (.iload_n 1, 1) := by decide +kernel
theorem dX8_floorIn_31 : decode cX8_floorIn 31 = .ok (.iaload, 1) := by decide +kernel
theorem dX8_floorIn_32 : decode cX8_floorIn 32 = .ok (.invokevirtual 125, 3) := by decide +kernel
theorem dX8_floorIn_35 : decode cX8_floorIn 35 = .ok (.ireturn, 1) := by decide +kernel
theorem dX8_headIn_0 : decode cX8_headIn 0 = .ok (.aload_n 0, 1) := by decide +kernel
theorem dX8_headIn_1 : decode cX8_headIn 1 = .ok (.iload_n 1, 1) := by decide +kernel
theorem dX8_headIn_2 : decode cX8_headIn 2 = .ok (.iload_n 2, 1) := by decide +kernel
theorem dX8_headIn_3 : decode cX8_headIn 3 = .ok (.invokevirtual 196, 3) := by decide +kernel
theorem dX8_headIn_6 : decode cX8_headIn 6 = .ok (.istore_n 3, 1) := by decide +kernel
theorem dX8_headIn_7 : decode cX8_headIn 7 = .ok (.iload_n 3, 1) := by decide +kernel
theorem dX8_headIn_8 : decode cX8_headIn 8 = .ok (.ifCond .eq 9, 3) := by decide +kernel
theorem dX8_headIn_11 : decode cX8_headIn 11 = .ok (.aload_n 0, 1) := by decide +kernel
theorem dX8_headIn_12 : decode cX8_headIn 12 = .ok (.iload_n 3, 1) := by decide +kernel
theorem dX8_headIn_13 : decode cX8_headIn 13 = .ok (.invokevirtual 83, 3) := by decide +kernel
theorem dX8_headIn_16 : decode cX8_headIn 16 = .ok (.ireturn, 1) := by decide +kernel
theorem dX8_headIn_17 : decode cX8_headIn 17 = .ok (.aload_n 0, 1) := by decide +kernel
theorem dX8_headIn_18 : decode cX8_headIn 18 = .ok (.iload_n 2, 1) := by decide +kernel
theorem dX8_headIn_19 : decode cX8_headIn 19 = .ok (.invokevirtual 199, 3) := by decide +kernel
theorem dX8_headIn_22 : decode cX8_headIn 22 = .ok (.aload_n 0, 1) := by decide +kernel
theorem dX8_headIn_23 : decode cX8_headIn 23 = .ok (.aload_n 0, 1) := by decide +kernel
theorem dX8_headIn_24 : decode cX8_headIn 24 = .ok (.getfield 27, 3) := by decide +kernel
theorem dX8_headIn_27 : decode cX8_headIn 27 = .ok (.getfield 167, 3) := by decide +kernel
theorem dX8_headIn_30 : decode cX8_headIn 30 = .ok (.iload_n 1, 1) := by decide +kernel
theorem dX8_headIn_31 : decode cX8_headIn 31 = .ok (.iaload, 1) := by decide +kernel
theorem dX8_headIn_32 : decode cX8_headIn 32 = .ok (.invokevirtual 125, 3) := by decide +kernel
theorem dX8_headIn_35 : decode cX8_headIn 35 = .ok (.ireturn, 1) := by decide +kernel
theorem dX8_meetsIn_0 : decode cX8_meetsIn 0 = .ok (.aload_n 0, 1) := by decide +kernel
theorem dX8_meetsIn_1 : decode cX8_meetsIn 1 = .ok (.iload_n 1, 1) := by decide +kernel
theorem dX8_meetsIn_2 : decode cX8_meetsIn 2 = .ok (.iload_n 2, 1) := by decide +kernel
theorem dX8_meetsIn_3 : decode cX8_meetsIn 3 = .ok (.invokevirtual 189, 3) := by decide +kernel
theorem dX8_meetsIn_6 : decode cX8_meetsIn 6 = .ok (.ifCond .ne 9, 3) := by decide +kernel
theorem dX8_meetsIn_9 : decode cX8_meetsIn 9 = .ok (.aload_n 0, 1) := by decide +kernel
theorem dX8_meetsIn_10 : decode cX8_meetsIn 10 = .ok (.iconst 1, 1) := by decide +kernel
theorem dX8_meetsIn_11 : decode cX8_meetsIn 11 = .ok (.invokevirtual 83, 3) := by decide +kernel
theorem dX8_meetsIn_14 : decode cX8_meetsIn 14 = .ok (.ireturn, 1) := by decide +kernel
theorem dX8_meetsIn_15 : decode cX8_meetsIn 15 = .ok (.iload_n 3, 1) := by decide +kernel
theorem dX8_meetsIn_16 : decode cX8_meetsIn 16 = .ok (.invokestatic 202, 3) := by decide +kernel
theorem dX8_meetsIn_19 : decode cX8_meetsIn 19 = .ok (.ifCond .ne 9, 3) := by decide +kernel
theorem dX8_meetsIn_22 : decode cX8_meetsIn 22 = .ok (.aload_n 0, 1) := by decide +kernel
theorem dX8_meetsIn_23 : decode cX8_meetsIn 23 = .ok (.iconst 2, 1) := by decide +kernel
theorem dX8_meetsIn_24 : decode cX8_meetsIn 24 = .ok (.invokevirtual 83, 3) := by decide +kernel
theorem dX8_meetsIn_27 : decode cX8_meetsIn 27 = .ok (.ireturn, 1) := by decide +kernel
theorem dX8_meetsIn_28 : decode cX8_meetsIn 28 = .ok (.aload_n 0, 1) := by decide +kernel
theorem dX8_meetsIn_29 : decode cX8_meetsIn 29 = .ok (.aload_n 0, 1) := by decide +kernel
theorem dX8_meetsIn_30 : decode cX8_meetsIn 30 = .ok (.getfield 33, 3) := by decide +kernel
theorem dX8_meetsIn_33 : decode cX8_meetsIn 33 = .ok (.aload_n 0, 1) := by decide +kernel
theorem dX8_meetsIn_34 : decode cX8_meetsIn 34 = .ok (.getfield 68, 3) := by decide +kernel
theorem dX8_meetsIn_37 : decode cX8_meetsIn 37 = .ok (.aload_n 0, 1) := by decide +kernel
theorem dX8_meetsIn_38 : decode cX8_meetsIn 38 = .ok (.getfield 23, 3) := by decide +kernel
theorem dX8_meetsIn_41 : decode cX8_meetsIn 41 = .ok (.iload_n 1, 1) := by decide +kernel
theorem dX8_meetsIn_42 : decode cX8_meetsIn 42 = .ok (.iload_n 2, 1) := by decide +kernel
theorem dX8_meetsIn_43 : decode cX8_meetsIn 43 = .ok (.iload_n 3, 1) := by decide +kernel
theorem dX8_meetsIn_44 : decode cX8_meetsIn 44 = .ok (.invokevirtual 205, 3) := by decide +kernel
theorem dX8_meetsIn_47 : decode cX8_meetsIn 47 = .ok (.invokevirtual 125, 3) := by decide +kernel
theorem dX8_meetsIn_50 : decode cX8_meetsIn 50 = .ok (.ireturn, 1) := by decide +kernel
theorem dX8_awakeIn_0 : decode cX8_awakeIn 0 = .ok (.aload_n 0, 1) := by decide +kernel
theorem dX8_awakeIn_1 : decode cX8_awakeIn 1 = .ok (.iload_n 1, 1) := by decide +kernel
theorem dX8_awakeIn_2 : decode cX8_awakeIn 2 = .ok (.iload_n 2, 1) := by decide +kernel
theorem dX8_awakeIn_3 : decode cX8_awakeIn 3 = .ok (.invokevirtual 196, 3) := by decide +kernel
theorem dX8_awakeIn_6 : decode cX8_awakeIn 6 = .ok (.istore_n 3, 1) := by decide +kernel
theorem dX8_awakeIn_7 : decode cX8_awakeIn 7 = .ok (.iload_n 3, 1) := by decide +kernel
theorem dX8_awakeIn_8 : decode cX8_awakeIn 8 = .ok (.ifCond .eq 11, 3) := by decide +kernel
theorem dX8_awakeIn_11 : decode cX8_awakeIn 11 = .ok (.aload_n 0, 1) := by decide +kernel
theorem dX8_awakeIn_12 : decode cX8_awakeIn 12 = .ok (.iload_n 3, 1) := by decide +kernel
theorem dX8_awakeIn_13 : decode cX8_awakeIn 13 = .ok (.invokevirtual 83, 3) := by decide +kernel
theorem dX8_awakeIn_16 : decode cX8_awakeIn 16 = .ok (.goto 24, 3) := by decide +kernel
theorem dX8_awakeIn_19 : decode cX8_awakeIn 19 = .ok (.aload_n 0, 1) := by decide +kernel
theorem dX8_awakeIn_20 : decode cX8_awakeIn 20 = .ok (.aload_n 0, 1) := by decide +kernel
theorem dX8_awakeIn_21 : decode cX8_awakeIn 21 = .ok (.getfield 33, 3) := by decide +kernel
theorem dX8_awakeIn_24 : decode cX8_awakeIn 24 = .ok (.aload_n 0, 1) := by decide +kernel
theorem dX8_awakeIn_25 : decode cX8_awakeIn 25 = .ok (.getfield 68, 3) := by decide +kernel
theorem dX8_awakeIn_28 : decode cX8_awakeIn 28 = .ok (.aload_n 0, 1) := by decide +kernel
theorem dX8_awakeIn_29 : decode cX8_awakeIn 29 = .ok (.getfield 23, 3) := by decide +kernel
theorem dX8_awakeIn_32 : decode cX8_awakeIn 32 = .ok (.iload_n 1, 1) := by decide +kernel
theorem dX8_awakeIn_33 : decode cX8_awakeIn 33 = .ok (.iload_n 2, 1) := by decide +kernel
theorem dX8_awakeIn_34 : decode cX8_awakeIn 34 = .ok (.invokevirtual 209, 3) := by decide +kernel
theorem dX8_awakeIn_37 : decode cX8_awakeIn 37 = .ok (.invokevirtual 125, 3) := by decide +kernel
theorem dX8_awakeIn_40 : decode cX8_awakeIn 40 = .ok (.ireturn, 1) := by decide +kernel
theorem dX8_lonely_0 : decode cX8_lonely 0 = .ok (.aload_n 0, 1) := by decide +kernel
theorem dX8_lonely_1 : decode cX8_lonely 1 = .ok (.iload_n 1, 1) := by decide +kernel
theorem dX8_lonely_2 : decode cX8_lonely 2 = .ok (.iload_n 2, 1) := by decide +kernel
theorem dX8_lonely_3 : decode cX8_lonely 3 = .ok (.invokevirtual 196, 3) := by decide +kernel
theorem dX8_lonely_6 : decode cX8_lonely 6 = .ok (.istore_n 3, 1) := by decide +kernel
theorem dX8_lonely_7 : decode cX8_lonely 7 = .ok (.iload_n 3, 1) := by decide +kernel
theorem dX8_lonely_8 : decode cX8_lonely 8 = .ok (.ifCond .eq 11, 3) := by decide +kernel
theorem dX8_lonely_11 : decode cX8_lonely 11 = .ok (.aload_n 0, 1) := by decide +kernel
theorem dX8_lonely_12 : decode cX8_lonely 12 = .ok (.iload_n 3, 1) := by decide +kernel
theorem dX8_lonely_13 : decode cX8_lonely 13 = .ok (.invokevirtual 83, 3) := by decide +kernel
theorem dX8_lonely_16 : decode cX8_lonely 16 = .ok (.goto 24, 3) := by decide +kernel
theorem dX8_lonely_19 : decode cX8_lonely 19 = .ok (.aload_n 0, 1) := by decide +kernel
theorem dX8_lonely_20 : decode cX8_lonely 20 = .ok (.aload_n 0, 1) := by decide +kernel
theorem dX8_lonely_21 : decode cX8_lonely 21 = .ok (.getfield 33, 3) := by decide +kernel
theorem dX8_lonely_24 : decode cX8_lonely 24 = .ok (.aload_n 0, 1) := by decide +kernel
theorem dX8_lonely_25 : decode cX8_lonely 25 = .ok (.getfield 68, 3) := by decide +kernel
theorem dX8_lonely_28 : decode cX8_lonely 28 = .ok (.aload_n 0, 1) := by decide +kernel
theorem dX8_lonely_29 : decode cX8_lonely 29 = .ok (.getfield 23, 3) := by decide +kernel
theorem dX8_lonely_32 : decode cX8_lonely 32 = .ok (.iload_n 1, 1) := by decide +kernel
theorem dX8_lonely_33 : decode cX8_lonely 33 = .ok (.iload_n 2, 1) := by decide +kernel
theorem dX8_lonely_34 : decode cX8_lonely 34 = .ok (.invokevirtual 213, 3) := by decide +kernel
theorem dX8_lonely_37 : decode cX8_lonely 37 = .ok (.invokevirtual 125, 3) := by decide +kernel
theorem dX8_lonely_40 : decode cX8_lonely 40 = .ok (.ireturn, 1) := by decide +kernel
theorem dX8_crowd_0 : decode cX8_crowd 0 = .ok (.aload_n 0, 1) := by decide +kernel
theorem dX8_crowd_1 : decode cX8_crowd 1 = .ok (.getfield 98, 3) := by decide +kernel
theorem dX8_crowd_4 : decode cX8_crowd 4 = .ok (.ifCond .ne 9, 3) := by decide +kernel
theorem dX8_crowd_7 : decode cX8_crowd 7 = .ok (.aload_n 0, 1) := by decide +kernel
theorem dX8_crowd_8 : decode cX8_crowd 8 = .ok (.iconst 1, 1) := by decide +kernel
theorem dX8_crowd_9 : decode cX8_crowd 9 = .ok (.invokevirtual 83, 3) := by decide +kernel
theorem dX8_crowd_12 : decode cX8_crowd 12 = .ok (.ireturn, 1) := by decide +kernel
theorem dX8_crowd_13 : decode cX8_crowd 13 = .ok (.iload_n 1, 1) := by decide +kernel
theorem dX8_crowd_14 : decode cX8_crowd 14 = .ok (.invokestatic 202, 3) := by decide +kernel
theorem dX8_crowd_17 : decode cX8_crowd 17 = .ok (.ifCond .eq 26, 3) := by decide +kernel
theorem dX8_crowd_20 : decode cX8_crowd 20 = .ok (.aload_n 0, 1) := by decide +kernel
theorem dX8_crowd_21 : decode cX8_crowd 21 = .ok (.aload_n 0, 1) := by decide +kernel
theorem dX8_crowd_22 : decode cX8_crowd 22 = .ok (.getfield 33, 3) := by decide +kernel
theorem dX8_crowd_25 : decode cX8_crowd 25 = .ok (.aload_n 0, 1) := by decide +kernel
theorem dX8_crowd_26 : decode cX8_crowd 26 = .ok (.getfield 68, 3) := by decide +kernel
theorem dX8_crowd_29 : decode cX8_crowd 29 = .ok (.aload_n 0, 1) := by decide +kernel
theorem dX8_crowd_30 : decode cX8_crowd 30 = .ok (.getfield 23, 3) := by decide +kernel
theorem dX8_crowd_33 : decode cX8_crowd 33 = .ok (.iload_n 1, 1) := by decide +kernel
theorem dX8_crowd_34 : decode cX8_crowd 34 = .ok (.invokevirtual 216, 3) := by decide +kernel
theorem dX8_crowd_37 : decode cX8_crowd 37 = .ok (.invokevirtual 125, 3) := by decide +kernel
theorem dX8_crowd_40 : decode cX8_crowd 40 = .ok (.goto 8, 3) := by decide +kernel
theorem dX8_crowd_43 : decode cX8_crowd 43 = .ok (.aload_n 0, 1) := by decide +kernel
theorem dX8_crowd_44 : decode cX8_crowd 44 = .ok (.iconst 2, 1) := by decide +kernel
theorem dX8_crowd_45 : decode cX8_crowd 45 = .ok (.invokevirtual 83, 3) := by decide +kernel
theorem dX8_crowd_48 : decode cX8_crowd 48 = .ok (.ireturn, 1) := by decide +kernel
theorem dX8_left_0 : decode cX8_left 0 = .ok (.aload_n 0, 1) := by decide +kernel
theorem dX8_left_1 : decode cX8_left 1 = .ok (.getfield 98, 3) := by decide +kernel
theorem dX8_left_4 : decode cX8_left 4 = .ok (.ifCond .ne 9, 3) := by decide +kernel
theorem dX8_left_7 : decode cX8_left 7 = .ok (.aload_n 0, 1) := by decide +kernel
theorem dX8_left_8 : decode cX8_left 8 = .ok (.iconst 1, 1) := by decide +kernel
theorem dX8_left_9 : decode cX8_left 9 = .ok (.invokevirtual 83, 3) := by decide +kernel
theorem dX8_left_12 : decode cX8_left 12 = .ok (.ireturn, 1) := by decide +kernel
theorem dX8_left_13 : decode cX8_left 13 = .ok (.aload_n 0, 1) := by decide +kernel
theorem dX8_left_14 : decode cX8_left 14 = .ok (.getfield 27, 3) := by decide +kernel
theorem dX8_left_17 : decode cX8_left 17 = .ok (.aload_n 0, 1) := by decide +kernel
theorem dX8_left_18 : decode cX8_left 18 = .ok (.getfield 23, 3) := by decide +kernel
theorem dX8_left_21 : decode cX8_left 21 = .ok (.invokevirtual 220, 3) := by decide +kernel
theorem dX8_left_24 : decode cX8_left 24 = .ok (.aload_n 0, 1) := by decide +kernel
theorem dX8_left_25 : decode cX8_left 25 = .ok (.getfield 27, 3) := by decide +kernel
theorem dX8_left_28 : decode cX8_left 28 = .ok (.aload_n 0, 1) := by decide +kernel
theorem dX8_left_29 : decode cX8_left 29 = .ok (.getfield 68, 3) := by decide +kernel
theorem dX8_left_32 : decode cX8_left 32 = .ok (.aload_n 0, 1) := by decide +kernel
theorem dX8_left_33 : decode cX8_left 33 = .ok (.getfield 23, 3) := by decide +kernel
theorem dX8_left_36 : decode cX8_left 36 = .ok (.getfield 145, 3) := by decide +kernel
theorem dX8_left_39 : decode cX8_left 39 = .ok (.aload_n 0, 1) := by decide +kernel
theorem dX8_left_40 : decode cX8_left 40 = .ok (.getfield 68, 3) := by decide +kernel
theorem dX8_left_43 : decode cX8_left 43 = .ok (.invokevirtual 224, 3) := by decide +kernel
theorem dX8_left_46 : decode cX8_left 46 = .ok (.invokestatic 228, 3) := by decide +kernel
theorem dX8_left_49 : decode cX8_left 49 = .ok (.invokevirtual 233, 3) := by decide +kernel
theorem dX8_left_52 : decode cX8_left 52 = .ok (.iconst 0, 1) := by decide +kernel
theorem dX8_left_53 : decode cX8_left 53 = .ok (.istore_n 1, 1) := by decide +kernel
theorem dX8_left_54 : decode cX8_left 54 = .ok (.iconst 0, 1) := by decide +kernel
theorem dX8_left_55 : decode cX8_left 55 = .ok (.istore_n 2, 1) := by decide +kernel
theorem dX8_left_56 : decode cX8_left 56 = .ok (.iload_n 2, 1) := by decide +kernel
theorem dX8_left_57 : decode cX8_left 57 = .ok (.aload_n 0, 1) := by decide +kernel
theorem dX8_left_58 : decode cX8_left 58 = .ok (.getfield 68, 3) := by decide +kernel
theorem dX8_left_61 : decode cX8_left 61 = .ok (.getfield 116, 3) := by decide +kernel
theorem dX8_left_64 : decode cX8_left 64 = .ok (.getfield 120, 3) := by decide +kernel
theorem dX8_left_67 : decode cX8_left 67 = .ok (.if_icmp .ge 27, 3) := by decide +kernel
theorem dX8_left_70 : decode cX8_left 70 = .ok (.aload_n 0, 1) := by decide +kernel
theorem dX8_left_71 : decode cX8_left 71 = .ok (.getfield 27, 3) := by decide +kernel
theorem dX8_left_74 : decode cX8_left 74 = .ok (.getfield 163, 3) := by decide +kernel
theorem dX8_left_77 : decode cX8_left 77 = .ok (.iload_n 2, 1) := by decide +kernel
theorem dX8_left_78 : decode cX8_left 78 = .ok (.iaload, 1) := by decide +kernel
theorem dX8_left_79 : decode cX8_left 79 = .ok (.ifCond .le 9, 3) := by decide +kernel
theorem dX8_left_82 : decode cX8_left 82 = .ok (.iload_n 1, 1) := by decide +kernel
theorem dX8_left_83 : decode cX8_left 83 = .ok (.iconst 1, 1) := by decide +kernel
theorem dX8_left_84 : decode cX8_left 84 = .ok (.iload_n 2, 1) := by decide +kernel
theorem dX8_left_85 : decode cX8_left 85 = .ok (.ishl, 1) := by decide +kernel
theorem dX8_left_86 : decode cX8_left 86 = .ok (.ior, 1) := by decide +kernel
theorem dX8_left_87 : decode cX8_left 87 = .ok (.istore_n 1, 1) := by decide +kernel
theorem dX8_left_88 : decode cX8_left 88 = .ok (.iinc 2 1, 3) := by decide +kernel
theorem dX8_left_91 : decode cX8_left 91 = .ok (.goto (-35), 3) := by decide +kernel
theorem dX8_left_94 : decode cX8_left 94 = .ok (.aload_n 0, 1) := by decide +kernel
theorem dX8_left_95 : decode cX8_left 95 = .ok (.iload_n 1, 1) := by decide +kernel
theorem dX8_left_96 : decode cX8_left 96 = .ok (.invokevirtual 125, 3) := by decide +kernel
theorem dX8_left_99 : decode cX8_left 99 = .ok (.ireturn, 1) := by decide +kernel
theorem dX8_woken_0 : decode cX8_woken 0 = .ok (.aload_n 0, 1) := by decide +kernel
theorem dX8_woken_1 : decode cX8_woken 1 = .ok (.iload_n 1, 1) := by decide +kernel
theorem dX8_woken_2 : decode cX8_woken 2 = .ok (.iload_n 2, 1) := by decide +kernel
theorem dX8_woken_3 : decode cX8_woken 3 = .ok (.invokevirtual 196, 3) := by decide +kernel
theorem dX8_woken_6 : decode cX8_woken 6 = .ok (.istore_n 3, 1) := by decide +kernel
theorem dX8_woken_7 : decode cX8_woken 7 = .ok (.iload_n 3, 1) := by decide +kernel
theorem dX8_woken_8 : decode cX8_woken 8 = .ok (.ifCond .eq 9, 3) := by decide +kernel
theorem dX8_woken_11 : decode cX8_woken 11 = .ok (.aload_n 0, 1) := by decide +kernel
theorem dX8_woken_12 : decode cX8_woken 12 = .ok (.iload_n 3, 1) := by decide +kernel
theorem dX8_woken_13 : decode cX8_woken 13 = .ok (.invokevirtual 83, 3) := by decide +kernel
theorem dX8_woken_16 : decode cX8_woken 16 = .ok (.ireturn, 1) := by decide +kernel
theorem dX8_woken_17 : decode cX8_woken 17 = .ok (.aload_n 0, 1) := by decide +kernel
theorem dX8_woken_18 : decode cX8_woken 18 = .ok (.iload_n 2, 1) := by decide +kernel
theorem dX8_woken_19 : decode cX8_woken 19 = .ok (.invokevirtual 199, 3) := by decide +kernel
theorem dX8_woken_22 : decode cX8_woken 22 = .ok (.aload_n 0, 1) := by decide +kernel
theorem dX8_woken_23 : decode cX8_woken 23 = .ok (.aload_n 0, 1) := by decide +kernel
theorem dX8_woken_24 : decode cX8_woken 24 = .ok (.getfield 27, 3) := by decide +kernel
theorem dX8_woken_27 : decode cX8_woken 27 = .ok (.getfield 237, 3) := by decide +kernel
theorem dX8_woken_30 : decode cX8_woken 30 = .ok (.iload_n 1, 1) := by decide +kernel
theorem dX8_woken_31 : decode cX8_woken 31 = .ok (.iaload, 1) := by decide +kernel
theorem dX8_woken_32 : decode cX8_woken 32 = .ok (.aload_n 0, 1) := by decide +kernel
theorem dX8_woken_33 : decode cX8_woken 33 = .ok (.getfield 23, 3) := by decide +kernel
theorem dX8_woken_36 : decode cX8_woken 36 = .ok (.getfield 237, 3) := by decide +kernel
theorem dX8_woken_39 : decode cX8_woken 39 = .ok (.iload_n 1, 1) := by decide +kernel
theorem dX8_woken_40 : decode cX8_woken 40 = .ok (.iaload, 1) := by decide +kernel
theorem dX8_woken_41 : decode cX8_woken 41 = .ok (.isub, 1) := by decide +kernel
theorem dX8_woken_42 : decode cX8_woken 42 = .ok (.invokevirtual 125, 3) := by decide +kernel
theorem dX8_woken_45 : decode cX8_woken 45 = .ok (.ireturn, 1) := by decide +kernel
theorem dX8_isStrong_0 : decode cX8_isStrong 0 = .ok (.iload_n 0, 1) := by decide +kernel
theorem dX8_isStrong_1 : decode cX8_isStrong 1 = .ok (.iconst 1, 1) := by decide +kernel
theorem dX8_isStrong_2 : decode cX8_isStrong 2 = .ok (.if_icmp .lt 13, 3) := by decide +kernel
theorem dX8_isStrong_5 : decode cX8_isStrong 5 = .ok (.iload_n 0, 1) := by decide +kernel
theorem dX8_isStrong_6 : decode cX8_isStrong 6 = .ok (.bipush 99, 2) := by decide +kernel
theorem dX8_isStrong_8 : decode cX8_isStrong 8 = .ok (.if_icmp .gt 7, 3) := by decide +kernel
theorem dX8_isStrong_11 : decode cX8_isStrong 11 = .ok (.iconst 1, 1) := by decide +kernel
theorem dX8_isStrong_12 : decode cX8_isStrong 12 = .ok (.goto 4, 3) := by decide +kernel
theorem dX8_isStrong_15 : decode cX8_isStrong 15 = .ok (.iconst 0, 1) := by decide +kernel
theorem dX8_isStrong_16 : decode cX8_isStrong 16 = .ok (.ireturn, 1) := by decide +kernel
theorem dX8_felt_0 : decode cX8_felt 0 = .ok (.aload_n 0, 1) := by decide +kernel
theorem dX8_felt_1 : decode cX8_felt 1 = .ok (.iload_n 2, 1) := by decide +kernel
theorem dX8_felt_2 : decode cX8_felt 2 = .ok (.invokevirtual 131, 3) := by decide +kernel
theorem dX8_felt_5 : decode cX8_felt 5 = .ok (.ifCond .eq 16, 3) := by decide +kernel
theorem dX8_felt_8 : decode cX8_felt 8 = .ok (.aload_n 0, 1) := by decide +kernel
theorem dX8_felt_9 : decode cX8_felt 9 = .ok (.iload_n 3, 1) := by decide +kernel
theorem dX8_felt_10 : decode cX8_felt 10 = .ok (.invokevirtual 131, 3) := by decide +kernel
theorem dX8_felt_13 : decode cX8_felt 13 = .ok (.ifCond .eq 8, 3) := by decide +kernel
theorem dX8_felt_16 : decode cX8_felt 16 = .ok (.iload_n 3, 1) := by decide +kernel
theorem dX8_felt_17 : decode cX8_felt 17 = .ok (.iload_n 2, 1) := by decide +kernel
theorem dX8_felt_18 : decode cX8_felt 18 = .ok (.if_icmp .gt 10, 3) := by decide +kernel
theorem dX8_felt_21 : decode cX8_felt 21 = .ok (.aload_n 0, 1) := by decide +kernel
theorem dX8_felt_22 : decode cX8_felt 22 = .ok (.iconst 1, 1) := by decide +kernel
theorem dX8_felt_23 : decode cX8_felt 23 = .ok (.invokevirtual 83, 3) := by decide +kernel
theorem dX8_felt_26 : decode cX8_felt 26 = .ok (.i2l, 1) := by decide +kernel
theorem dX8_felt_27 : decode cX8_felt 27 = .ok (.lreturn, 1) := by decide +kernel
theorem dX8_felt_28 : decode cX8_felt 28 = .ok (.iload_n 1, 1) := by decide +kernel
theorem dX8_felt_29 : decode cX8_felt 29 = .ok (.invokestatic 240, 3) := by decide +kernel
theorem dX8_felt_32 : decode cX8_felt 32 = .ok (.ifCond .eq 20, 3) := by decide +kernel
theorem dX8_felt_35 : decode cX8_felt 35 = .ok (.aload_n 0, 1) := by decide +kernel
theorem dX8_felt_36 : decode cX8_felt 36 = .ok (.aload_n 0, 1) := by decide +kernel
theorem dX8_felt_37 : decode cX8_felt 37 = .ok (.getfield 68, 3) := by decide +kernel
theorem dX8_felt_40 : decode cX8_felt 40 = .ok (.iload_n 1, 1) := by decide +kernel
theorem dX8_felt_41 : decode cX8_felt 41 = .ok (.iload_n 2, 1) := by decide +kernel
theorem dX8_felt_42 : decode cX8_felt 42 = .ok (.iload_n 3, 1) := by decide +kernel
theorem dX8_felt_43 : decode cX8_felt 43 = .ok (.invokevirtual 243, 3) := by decide +kernel
theorem dX8_felt_46 : decode cX8_felt 46 = .ok (.invokevirtual 142, 3) := by decide +kernel
theorem dX8_felt_49 : decode cX8_felt 49 = .ok (.goto 9, 3) := by decide +kernel
theorem dX8_felt_52 : decode cX8_felt 52 = .ok (.aload_n 0, 1) := by decide +kernel
theorem dX8_felt_53 : decode cX8_felt 53 = .ok (.iconst 2, 1) := by decide +kernel
theorem dX8_felt_54 : decode cX8_felt 54 = .ok (.invokevirtual 83, 3) := by decide +kernel
theorem dX8_felt_57 : decode cX8_felt 57 = .ok (.i2l, 1) := by decide +kernel
theorem dX8_felt_58 : decode cX8_felt 58 = .ok (.lreturn, 1) := by decide +kernel
theorem dX8_task_0 : decode cX8_task 0 = .ok (.aload_n 0, 1) := by decide +kernel
theorem dX8_task_1 : decode cX8_task 1 = .ok (.getfield 98, 3) := by decide +kernel
theorem dX8_task_4 : decode cX8_task 4 = .ok (.ifCond .eq 21, 3) := by decide +kernel
theorem dX8_task_7 : decode cX8_task 7 = .ok (.iload_n 1, 1) := by decide +kernel
theorem dX8_task_8 : decode cX8_task 8 = .ok (.ifCond .lt 17, 3) := by decide +kernel
theorem dX8_task_11 : decode cX8_task 11 = .ok (.iload_n 1, 1) := by decide +kernel
theorem dX8_task_12 : decode cX8_task 12 = .ok (.aload_n 0, 1) := by decide +kernel
theorem dX8_task_13 : decode cX8_task 13 = .ok (.getfield 68, 3) := by decide +kernel
theorem dX8_task_16 : decode cX8_task 16 = .ok (.getfield 247, 3) := by decide +kernel
theorem dX8_task_19 : decode cX8_task 19 = .ok (.getfield 120, 3) := by decide +kernel
theorem dX8_task_22 : decode cX8_task 22 = .ok (.if_icmp .lt 9, 3) := by decide +kernel
theorem dX8_task_25 : decode cX8_task 25 = .ok (.aload_n 0, 1) := by decide +kernel
theorem dX8_task_26 : decode cX8_task 26 = .ok (.iconst 1, 1) := by decide +kernel
theorem dX8_task_27 : decode cX8_task 27 = .ok (.invokevirtual 83, 3) := by decide +kernel
theorem dX8_task_30 : decode cX8_task 30 = .ok (.ireturn, 1) := by decide +kernel
theorem dX8_task_31 : decode cX8_task 31 = .ok (.aload_n 0, 1) := by decide +kernel
theorem dX8_task_32 : decode cX8_task 32 = .ok (.getfield 40, 3) := by decide +kernel
theorem dX8_task_35 : decode cX8_task 35 = .ok (.aload_n 0, 1) := by decide +kernel
theorem dX8_task_36 : decode cX8_task 36 = .ok (.getfield 68, 3) := by decide +kernel
theorem dX8_task_39 : decode cX8_task 39 = .ok (.invokevirtual 250, 3) := by decide +kernel
theorem dX8_task_42 : decode cX8_task 42 = .ok (.aload_n 0, 1) := by decide +kernel
theorem dX8_task_43 : decode cX8_task 43 = .ok (.aload_n 0, 1) := by decide +kernel
theorem dX8_task_44 : decode cX8_task 44 = .ok (.getfield 40, 3) := by decide +kernel
theorem dX8_task_47 : decode cX8_task 47 = .ok (.getfield 253, 3) := by decide +kernel
theorem dX8_task_50 : decode cX8_task 50 = .ok (.ifCond .eq 15, 3) := by decide +kernel
theorem dX8_task_53 : decode cX8_task 53 = .ok (.aload_n 0, 1) := by decide +kernel
theorem dX8_task_54 : decode cX8_task 54 = .ok (.getfield 40, 3) := by decide +kernel
theorem dX8_task_57 : decode cX8_task 57 = .ok (.getfield 256, 3) := by decide +kernel
theorem dX8_task_60 : decode cX8_task 60 = .ok (.iload_n 1, 1) := by decide +kernel
theorem dX8_task_61 : decode cX8_task 61 = .ok (.iaload, 1) := by decide +kernel
theorem dX8_task_62 : decode cX8_task 62 = .ok (.goto 5, 3) := by decide +kernel
theorem dX8_task_65 : decode cX8_task 65 = .ok (.bipush (-2), 2) := by decide +kernel
theorem dX8_task_67 : decode cX8_task 67 = .ok (.invokevirtual 125, 3) := by decide +kernel
theorem dX8_task_70 : decode cX8_task 70 = .ok (.ireturn, 1) := by decide +kernel
theorem dX8_best_0 : decode cX8_best 0 = .ok (.aload_n 0, 1) := by decide +kernel
theorem dX8_best_1 : decode cX8_best 1 = .ok (.getfield 98, 3) := by decide +kernel
theorem dX8_best_4 : decode cX8_best 4 = .ok (.ifCond .eq 12, 3) := by decide +kernel
theorem dX8_best_7 : decode cX8_best 7 = .ok (.iload_n 1, 1) := by decide +kernel
theorem dX8_best_8 : decode cX8_best 8 = .ok (.ifCond .lt 8, 3) := by decide +kernel
theorem dX8_best_11 : decode cX8_best 11 = .ok (.iload_n 1, 1) := by decide +kernel
theorem dX8_best_12 : decode cX8_best 12 = .ok (.iconst 2, 1) := by decide +kernel
theorem dX8_best_13 : decode cX8_best 13 = .ok (.if_icmp .le 10, 3) := by decide +kernel
theorem dX8_best_16 : decode cX8_best 16 = .ok (.aload_n 0, 1) := by decide +kernel
theorem dX8_best_17 : decode cX8_best 17 = .ok (.iconst 1, 1) := by decide +kernel
theorem dX8_best_18 : decode cX8_best 18 = .ok (.invokevirtual 83, 3) := by decide +kernel
theorem dX8_best_21 : decode cX8_best 21 = .ok (.i2l, 1) := by decide +kernel
theorem dX8_best_22 : decode cX8_best 22 = .ok (.lreturn, 1) := by decide +kernel
theorem dX8_best_23 : decode cX8_best 23 = .ok (.aload_n 0, 1) := by decide +kernel
theorem dX8_best_24 : decode cX8_best 24 = .ok (.getfield 40, 3) := by decide +kernel
theorem dX8_best_27 : decode cX8_best 27 = .ok (.aload_n 0, 1) := by decide +kernel
theorem dX8_best_28 : decode cX8_best 28 = .ok (.getfield 68, 3) := by decide +kernel
theorem dX8_best_31 : decode cX8_best 31 = .ok (.invokevirtual 250, 3) := by decide +kernel
theorem dX8_best_34 : decode cX8_best 34 = .ok (.aload_n 0, 1) := by decide +kernel
theorem dX8_best_35 : decode cX8_best 35 = .ok (.getfield 40, 3) := by decide +kernel
theorem dX8_best_38 : decode cX8_best 38 = .ok (.getfield 253, 3) := by decide +kernel
theorem dX8_best_41 : decode cX8_best 41 = .ok (.ifCond .ne 11, 3) := by decide +kernel
theorem dX8_best_44 : decode cX8_best 44 = .ok (.aload_n 0, 1) := by decide +kernel
theorem dX8_best_45 : decode cX8_best 45 = .ok (.bipush (-2), 2) := by decide +kernel
theorem dX8_best_47 : decode cX8_best 47 = .ok (.invokevirtual 125, 3) := by decide +kernel
theorem dX8_best_50 : decode cX8_best 50 = .ok (.i2l, 1) := by decide +kernel
theorem dX8_best_51 : decode cX8_best 51 = .ok (.lreturn, 1) := by decide +kernel
theorem dX8_best_52 : decode cX8_best 52 = .ok (.iload_n 1, 1) := by decide +kernel
theorem dX8_best_53 : decode cX8_best 53 = .ok (.ifCond .ne 15, 3) := by decide +kernel
theorem dX8_best_56 : decode cX8_best 56 = .ok (.aload_n 0, 1) := by decide +kernel
theorem dX8_best_57 : decode cX8_best 57 = .ok (.aload_n 0, 1) := by decide +kernel
theorem dX8_best_58 : decode cX8_best 58 = .ok (.getfield 40, 3) := by decide +kernel
theorem dX8_best_61 : decode cX8_best 61 = .ok (.getfield 259, 3) := by decide +kernel
theorem dX8_best_64 : decode cX8_best 64 = .ok (.invokevirtual 142, 3) := by decide +kernel
theorem dX8_best_67 : decode cX8_best 67 = .ok (.lreturn, 1) := by decide +kernel
theorem dX8_best_68 : decode cX8_best 68 = .ok (.aload_n 0, 1) := by decide +kernel
theorem dX8_best_69 : decode cX8_best 69 = .ok (.iload_n 1, 1) := by decide +kernel
theorem dX8_best_70 : decode cX8_best 70 = .ok (.iconst 1, 1) := by decide +kernel
theorem dX8_best_71 : decode cX8_best 71 = .ok (.if_icmp .ne 13, 3) := by decide +kernel
theorem dX8_best_74 : decode cX8_best 74 = .ok (.aload_n 0, 1) := by decide +kernel
theorem dX8_best_75 : decode cX8_best 75 = .ok (.getfield 40, 3) := by decide +kernel
theorem dX8_best_78 : decode cX8_best 78 = .ok (.getfield 262, 3) := by decide +kernel
theorem dX8_best_81 : decode cX8_best 81 = .ok (.goto 10, 3) := by decide +kernel
theorem dX8_best_84 : decode cX8_best 84 = .ok (.aload_n 0, 1) := by decide +kernel
theorem dX8_best_85 : decode cX8_best 85 = .ok (.getfield 40, 3) := by decide +kernel
theorem dX8_best_88 : decode cX8_best 88 = .ok (.getfield 265, 3) := by decide +kernel
theorem dX8_best_91 : decode cX8_best 91 = .ok (.invokevirtual 142, 3) := by decide +kernel
theorem dX8_best_94 : decode cX8_best 94 = .ok (.lreturn, 1) := by decide +kernel
theorem dX8_soonest_0 : decode cX8_soonest 0 = .ok (.aload_n 0, 1) := by decide +kernel
theorem dX8_soonest_1 : decode cX8_soonest 1 = .ok (.getfield 98, 3) := by decide +kernel
theorem dX8_soonest_4 : decode cX8_soonest 4 = .ok (.ifCond .eq 17, 3) := by decide +kernel
theorem dX8_soonest_7 : decode cX8_soonest 7 = .ok (.aload_n 0, 1) := by decide +kernel
theorem dX8_soonest_8 : decode cX8_soonest 8 = .ok (.aload_n 0, 1) := by decide +kernel
theorem dX8_soonest_9 : decode cX8_soonest 9 = .ok (.getfield 68, 3) := by decide +kernel
theorem dX8_soonest_12 : decode cX8_soonest 12 = .ok (.invokestatic 268, 3) := by decide +kernel
theorem dX8_soonest_15 : decode cX8_soonest 15 = .ok (.invokevirtual 142, 3) := by decide +kernel
theorem dX8_soonest_18 : decode cX8_soonest 18 = .ok (.goto 9, 3) := by decide +kernel
theorem dX8_soonest_21 : decode cX8_soonest 21 = .ok (.aload_n 0, 1) := by decide +kernel
theorem dX8_soonest_22 : decode cX8_soonest 22 = .ok (.iconst 1, 1) := by decide +kernel
theorem dX8_soonest_23 : decode cX8_soonest 23 = .ok (.invokevirtual 83, 3) := by decide +kernel
theorem dX8_soonest_26 : decode cX8_soonest 26 = .ok (.i2l, 1) := by decide +kernel
theorem dX8_soonest_27 : decode cX8_soonest 27 = .ok (.lreturn, 1) := by decide +kernel
theorem dX8_whyNotTogether_0 : decode cX8_whyNotTogether 0 = .ok (.aload_n 0, 1) := by decide +kernel
theorem dX8_whyNotTogether_1 : decode cX8_whyNotTogether 1 = .ok (.getfield 98, 3) := by decide +kernel
theorem dX8_whyNotTogether_4 : decode cX8_whyNotTogether 4 = .ok (.ifCond .ne 5, 3) := by decide +kernel
theorem dX8_whyNotTogether_7 : decode cX8_whyNotTogether 7 = .ok (.iconst 1, 1) := by decide +kernel
theorem dX8_whyNotTogether_8 : decode cX8_whyNotTogether 8 = .ok (.ireturn, 1) := by decide +kernel
theorem dX8_whyNotTogether_9 : decode cX8_whyNotTogether 9 = .ok (.iload_n 1, 1) := by decide +kernel
theorem dX8_whyNotTogether_10 : decode cX8_whyNotTogether 10 = .ok (.iconst 1, 1) := by decide +kernel
theorem dX8_whyNotTogether_11 : decode cX8_whyNotTogether 11 = .ok (.if_icmp .lt 19, 3) := by decide +kernel
theorem dX8_whyNotTogether_14 : decode cX8_whyNotTogether 14 = .ok (.iload_n 1, 1) := by decide +kernel
theorem dX8_whyNotTogether_15 : decode cX8_whyNotTogether 15 = .ok (.iconst 1, 1) := by decide +kernel
theorem dX8_whyNotTogether_16 : decode cX8_whyNotTogether 16 = .ok (.aload_n 0, 1) := by decide +kernel
theorem dX8_whyNotTogether_17 : decode cX8_whyNotTogether 17 = .ok (.getfield 68, 3) := by decide +kernel
theorem dX8_whyNotTogether_20 : decode cX8_whyNotTogether 20 = .ok (.getfield 116, 3) := by decide +kernel
theorem dX8_whyNotTogether_23 : decode cX8_whyNotTogether 23 = .ok (.getfield 120, 3) := by decide +kernel
theorem dX8_whyNotTogether_26 : decode cX8_whyNotTogether 26 = .ok (.ishl, 1) := by decide +kernel
theorem dX8_whyNotTogether_27 : decode cX8_whyNotTogether 27 = .ok (.if_icmp .lt 5, 3) := by decide +kernel
theorem dX8_whyNotTogether_30 : decode cX8_whyNotTogether 30 = .ok (.iconst 2, 1) := by decide +kernel
theorem dX8_whyNotTogether_31 : decode cX8_whyNotTogether 31 = .ok (.ireturn, 1) := by decide +kernel
theorem dX8_whyNotTogether_32 : decode cX8_whyNotTogether 32 = .ok (.bipush (-2), 2) := by decide +kernel
theorem dX8_whyNotTogether_34 : decode cX8_whyNotTogether 34 = .ok (.istore_n 2, 1) := by decide +kernel
theorem dX8_whyNotTogether_35 : decode cX8_whyNotTogether 35 = .ok (.iconst 0, 1) := by decide +kernel
theorem dX8_whyNotTogether_36 : decode cX8_whyNotTogether 36 = .ok (.istore_n 3, 1) := by decide +kernel
theorem dX8_whyNotTogether_37 : decode cX8_whyNotTogether 37 = .ok (.iload_n 3, 1) := by decide +kernel
theorem dX8_whyNotTogether_38 : decode cX8_whyNotTogether 38 = .ok (.aload_n 0, 1) := by decide +kernel
theorem dX8_whyNotTogether_39 : decode cX8_whyNotTogether 39 = .ok (.getfield 68, 3) := by decide +kernel
theorem dX8_whyNotTogether_42 : decode cX8_whyNotTogether 42 = .ok (.getfield 116, 3) := by decide +kernel
theorem dX8_whyNotTogether_45 : decode cX8_whyNotTogether 45 = .ok (.getfield 120, 3) := by decide +kernel
theorem dX8_whyNotTogether_48 : decode cX8_whyNotTogether 48 = .ok (.if_icmp .ge 75, 3) := by decide +kernel
theorem dX8_whyNotTogether_51 : decode cX8_whyNotTogether 51 = .ok (.iload_n 1, 1) := by decide +kernel
theorem dX8_whyNotTogether_52 : decode cX8_whyNotTogether 52 = .ok (.iload_n 3, 1) := by decide +kernel
theorem dX8_whyNotTogether_53 : decode cX8_whyNotTogether 53 = .ok (.ishr, 1) := by decide +kernel
theorem dX8_whyNotTogether_54 : decode cX8_whyNotTogether 54 = .ok (.iconst 1, 1) := by decide +kernel
theorem dX8_whyNotTogether_55 : decode cX8_whyNotTogether 55 = .ok (.iand, 1) := by decide +kernel
theorem dX8_whyNotTogether_56 : decode cX8_whyNotTogether 56 = .ok (.ifCond .ne 6, 3) := by decide +kernel
theorem dX8_whyNotTogether_59 : decode cX8_whyNotTogether 59 = .ok (.goto 58, 3) := by decide +kernel
theorem dX8_whyNotTogether_62 : decode cX8_whyNotTogether 62 = .ok (.iload_n 2, 1) := by decide +kernel
theorem dX8_whyNotTogether_63 : decode cX8_whyNotTogether 63 = .ok (.bipush (-2), 2) := by decide +kernel
theorem dX8_whyNotTogether_65 : decode cX8_whyNotTogether 65 = .ok (.if_icmp .eq 20, 3) := by decide +kernel
theorem dX8_whyNotTogether_68 : decode cX8_whyNotTogether 68 = .ok (.iload_n 2, 1) := by decide +kernel
theorem dX8_whyNotTogether_69 : decode cX8_whyNotTogether 69 = .ok (.aload_n 0, 1) := by decide +kernel
theorem dX8_whyNotTogether_70 : decode cX8_whyNotTogether 70 = .ok (.getfield 23, 3) := by decide +kernel
theorem dX8_whyNotTogether_73 : decode cX8_whyNotTogether 73 = .ok (.getfield 167, 3) := by decide +kernel
theorem dX8_whyNotTogether_76 : decode cX8_whyNotTogether 76 = .ok (.iload_n 3, 1) := by decide +kernel
theorem dX8_whyNotTogether_77 : decode cX8_whyNotTogether 77 = .ok (.iaload, 1) := by decide +kernel
theorem dX8_whyNotTogether_78 : decode cX8_whyNotTogether 78 = .ok (.if_icmp .eq 7, 3) := by decide +kernel
theorem dX8_whyNotTogether_81 : decode cX8_whyNotTogether 81 = .ok (.iconst 1, 1) := by decide +kernel
theorem dX8_whyNotTogether_82 : decode cX8_whyNotTogether 82 = .ok (.goto 4, 3) := by decide +kernel
theorem dX8_whyNotTogether_85 : decode cX8_whyNotTogether 85 = .ok (.iconst 0, 1) := by decide +kernel
theorem dX8_whyNotTogether_86 : decode cX8_whyNotTogether 86 = .ok (.istore 4, 2) := by decide +kernel
theorem dX8_whyNotTogether_88 : decode cX8_whyNotTogether 88 = .ok (.aload_n 0, 1) := by decide +kernel
theorem dX8_whyNotTogether_89 : decode cX8_whyNotTogether 89 = .ok (.getfield 23, 3) := by decide +kernel
theorem dX8_whyNotTogether_92 : decode cX8_whyNotTogether 92 = .ok (.getfield 163, 3) := by decide +kernel
theorem dX8_whyNotTogether_95 : decode cX8_whyNotTogether 95 = .ok (.iload_n 3, 1) := by decide +kernel
theorem dX8_whyNotTogether_96 : decode cX8_whyNotTogether 96 = .ok (.iaload, 1) := by decide +kernel
theorem dX8_whyNotTogether_97 : decode cX8_whyNotTogether 97 = .ok (.ifCond .eq 8, 3) := by decide +kernel
theorem dX8_whyNotTogether_100 : decode cX8_whyNotTogether 100 = .ok (.iload 4, 2) := by decide +kernel
theorem dX8_whyNotTogether_102 : decode cX8_whyNotTogether 102 = .ok (.ifCond .eq 5, 3) := by decide +kernel
theorem dX8_whyNotTogether_105 : decode cX8_whyNotTogether 105 = .ok (.iconst 5, 1) := by decide +kernel
theorem dX8_whyNotTogether_106 : decode cX8_whyNotTogether 106 = .ok (.ireturn, 1) := by decide +kernel
theorem dX8_whyNotTogether_107 : decode cX8_whyNotTogether 107 = .ok (.aload_n 0, 1) := by decide +kernel
theorem dX8_whyNotTogether_108 : decode cX8_whyNotTogether 108 = .ok (.getfield 23, 3) := by decide +kernel
theorem dX8_whyNotTogether_111 : decode cX8_whyNotTogether 111 = .ok (.getfield 167, 3) := by decide +kernel
theorem dX8_whyNotTogether_114 : decode cX8_whyNotTogether 114 = .ok (.iload_n 3, 1) := by decide +kernel
theorem dX8_whyNotTogether_115 : decode cX8_whyNotTogether 115 = .ok (.iaload, 1) := by decide +kernel
theorem dX8_whyNotTogether_116 : decode cX8_whyNotTogether 116 = .ok (.istore_n 2, 1) := by decide +kernel
theorem dX8_whyNotTogether_117 : decode cX8_whyNotTogether 117 = .ok (.iinc 3 1, 3) := by decide +kernel
theorem dX8_whyNotTogether_120 : decode cX8_whyNotTogether 120 = .ok (.goto (-83), 3) := by decide +kernel
theorem dX8_whyNotTogether_123 : decode cX8_whyNotTogether 123 = .ok (.iconst 0, 1) := by decide +kernel
theorem dX8_whyNotTogether_124 : decode cX8_whyNotTogether 124 = .ok (.ireturn, 1) := by decide +kernel
theorem dX8_together_0 : decode cX8_together 0 = .ok (.aload_n 0, 1) := by decide +kernel
theorem dX8_together_1 : decode cX8_together 1 = .ok (.iload_n 1, 1) := by decide +kernel
theorem dX8_together_2 : decode cX8_together 2 = .ok (.invokevirtual 272, 3) := by decide +kernel
theorem dX8_together_5 : decode cX8_together 5 = .ok (.istore_n 2, 1) := by decide +kernel
theorem dX8_together_6 : decode cX8_together 6 = .ok (.iload_n 2, 1) := by decide +kernel
theorem dX8_together_7 : decode cX8_together 7 = .ok (.ifCond .eq 11, 3) := by decide +kernel
theorem dX8_together_10 : decode cX8_together 10 = .ok (.aload_n 0, 1) := by decide +kernel
theorem dX8_together_11 : decode cX8_together 11 = .ok (.iload_n 2, 1) := by decide +kernel
theorem dX8_together_12 : decode cX8_together 12 = .ok (.invokevirtual 83, 3) := by decide +kernel
theorem dX8_together_15 : decode cX8_together 15 = .ok (.goto 23, 3) := by decide +kernel
theorem dX8_together_18 : decode cX8_together 18 = .ok (.aload_n 0, 1) := by decide +kernel
theorem dX8_together_19 : decode cX8_together 19 = .ok (.aload_n 0, 1) := by decide +kernel
theorem dX8_together_20 : decode cX8_together 20 = .ok (.getfield 47, 3) := by decide +kernel
theorem dX8_together_23 : decode cX8_together 23 = .ok (.aload_n 0, 1) := by decide +kernel
theorem dX8_together_24 : decode cX8_together 24 = .ok (.getfield 68, 3) := by decide +kernel
theorem dX8_together_27 : decode cX8_together 27 = .ok (.aload_n 0, 1) := by decide +kernel
theorem dX8_together_28 : decode cX8_together 28 = .ok (.getfield 23, 3) := by decide +kernel
theorem dX8_together_31 : decode cX8_together 31 = .ok (.iload_n 1, 1) := by decide +kernel
theorem dX8_together_32 : decode cX8_together 32 = .ok (.invokevirtual 275, 3) := by decide +kernel
theorem dX8_together_35 : decode cX8_together 35 = .ok (.invokevirtual 125, 3) := by decide +kernel
theorem dX8_together_38 : decode cX8_together 38 = .ok (.ireturn, 1) := by decide +kernel
theorem dX8_togetherAt_0 : decode cX8_togetherAt 0 = .ok (.aload_n 0, 1) := by decide +kernel
theorem dX8_togetherAt_1 : decode cX8_togetherAt 1 = .ok (.iload_n 1, 1) := by decide +kernel
theorem dX8_togetherAt_2 : decode cX8_togetherAt 2 = .ok (.invokevirtual 272, 3) := by decide +kernel
theorem dX8_togetherAt_5 : decode cX8_togetherAt 5 = .ok (.istore_n 3, 1) := by decide +kernel
theorem dX8_togetherAt_6 : decode cX8_togetherAt 6 = .ok (.iload_n 3, 1) := by decide +kernel
theorem dX8_togetherAt_7 : decode cX8_togetherAt 7 = .ok (.ifCond .eq 9, 3) := by decide +kernel
theorem dX8_togetherAt_10 : decode cX8_togetherAt 10 = .ok (.aload_n 0, 1) := by decide +kernel
theorem dX8_togetherAt_11 : decode cX8_togetherAt 11 = .ok (.iload_n 3, 1) := by decide +kernel
theorem dX8_togetherAt_12 : decode cX8_togetherAt 12 = .ok (.invokevirtual 83, 3) := by decide +kernel
theorem dX8_togetherAt_15 : decode cX8_togetherAt 15 = .ok (.ireturn, 1) := by decide +kernel
theorem dX8_togetherAt_16 : decode cX8_togetherAt 16 = .ok (.aload_n 0, 1) := by decide +kernel
theorem dX8_togetherAt_17 : decode cX8_togetherAt 17 = .ok (.getfield 47, 3) := by decide +kernel
theorem dX8_togetherAt_20 : decode cX8_togetherAt 20 = .ok (.aload_n 0, 1) := by decide +kernel
theorem dX8_togetherAt_21 : decode cX8_togetherAt 21 = .ok (.getfield 68, 3) := by decide +kernel
theorem dX8_togetherAt_24 : decode cX8_togetherAt 24 = .ok (.aload_n 0, 1) := by decide +kernel
theorem dX8_togetherAt_25 : decode cX8_togetherAt 25 = .ok (.getfield 23, 3) := by decide +kernel
theorem dX8_togetherAt_28 : decode cX8_togetherAt 28 = .ok (.iload_n 1, 1) := by decide +kernel
theorem dX8_togetherAt_29 : decode cX8_togetherAt 29 = .ok (.invokevirtual 275, 3) := by decide +kernel
theorem dX8_togetherAt_32 : decode cX8_togetherAt 32 = .ok (.istore 4, 2) := by decide +kernel
theorem dX8_togetherAt_34 : decode cX8_togetherAt 34 = .ok (.iload_n 2, 1) := by decide +kernel
theorem dX8_togetherAt_35 : decode cX8_togetherAt 35 = .ok (.ifCond .lt 9, 3) := by decide +kernel
theorem dX8_togetherAt_38 : decode cX8_togetherAt 38 = .ok (.iload_n 2, 1) := by decide +kernel
theorem dX8_togetherAt_39 : decode cX8_togetherAt 39 = .ok (.iload 4, 2) := by decide +kernel
theorem dX8_togetherAt_41 : decode cX8_togetherAt 41 = .ok (.if_icmp .lt 11, 3) := by decide +kernel
theorem dX8_togetherAt_44 : decode cX8_togetherAt 44 = .ok (.aload_n 0, 1) := by decide +kernel
theorem dX8_togetherAt_45 : decode cX8_togetherAt 45 = .ok (.iconst 1, 1) := by decide +kernel
theorem dX8_togetherAt_46 : decode cX8_togetherAt 46 = .ok (.invokevirtual 83, 3) := by decide +kernel
theorem dX8_togetherAt_49 : decode cX8_togetherAt 49 = .ok (.goto 16, 3) := by decide +kernel
theorem dX8_togetherAt_52 : decode cX8_togetherAt 52 = .ok (.aload_n 0, 1) := by decide +kernel
theorem dX8_togetherAt_53 : decode cX8_togetherAt 53 = .ok (.aload_n 0, 1) := by decide +kernel
theorem dX8_togetherAt_54 : decode cX8_togetherAt 54 = .ok (.getfield 47, 3) := by decide +kernel
theorem dX8_togetherAt_57 : decode cX8_togetherAt 57 = .ok (.getfield 278, 3) := by decide +kernel
theorem dX8_togetherAt_60 : decode cX8_togetherAt 60 = .ok (.iload_n 2, 1) := by decide +kernel
theorem dX8_togetherAt_61 : decode cX8_togetherAt 61 = .ok (.iaload, 1) := by decide +kernel
theorem dX8_togetherAt_62 : decode cX8_togetherAt 62 = .ok (.invokevirtual 125, 3) := by decide +kernel
theorem dX8_togetherAt_65 : decode cX8_togetherAt 65 = .ok (.ireturn, 1) := by decide +kernel
theorem dX8_deep_0 : decode cX8_deep 0 = .ok (.aload_n 0, 1) := by decide +kernel
theorem dX8_deep_1 : decode cX8_deep 1 = .ok (.getfield 98, 3) := by decide +kernel
theorem dX8_deep_4 : decode cX8_deep 4 = .ok (.ifCond .eq 17, 3) := by decide +kernel
theorem dX8_deep_7 : decode cX8_deep 7 = .ok (.aload_n 0, 1) := by decide +kernel
theorem dX8_deep_8 : decode cX8_deep 8 = .ok (.aload_n 0, 1) := by decide +kernel
theorem dX8_deep_9 : decode cX8_deep 9 = .ok (.getfield 68, 3) := by decide +kernel
theorem dX8_deep_12 : decode cX8_deep 12 = .ok (.invokevirtual 281, 3) := by decide +kernel
theorem dX8_deep_15 : decode cX8_deep 15 = .ok (.invokevirtual 125, 3) := by decide +kernel
theorem dX8_deep_18 : decode cX8_deep 18 = .ok (.goto 8, 3) := by decide +kernel
theorem dX8_deep_21 : decode cX8_deep 21 = .ok (.aload_n 0, 1) := by decide +kernel
theorem dX8_deep_22 : decode cX8_deep 22 = .ok (.iconst 1, 1) := by decide +kernel
theorem dX8_deep_23 : decode cX8_deep 23 = .ok (.invokevirtual 83, 3) := by decide +kernel
theorem dX8_deep_26 : decode cX8_deep 26 = .ok (.ireturn, 1) := by decide +kernel
theorem dX8_whyNotAsk_0 : decode cX8_whyNotAsk 0 = .ok (.aload_n 0, 1) := by decide +kernel
theorem dX8_whyNotAsk_1 : decode cX8_whyNotAsk 1 = .ok (.getfield 98, 3) := by decide +kernel
theorem dX8_whyNotAsk_4 : decode cX8_whyNotAsk 4 = .ok (.ifCond .ne 5, 3) := by decide +kernel
theorem dX8_whyNotAsk_7 : decode cX8_whyNotAsk 7 = .ok (.iconst 1, 1) := by decide +kernel
theorem dX8_whyNotAsk_8 : decode cX8_whyNotAsk 8 = .ok (.ireturn, 1) := by decide +kernel
theorem dX8_whyNotAsk_9 : decode cX8_whyNotAsk 9 = .ok (.aload_n 0, 1) := by decide +kernel
theorem dX8_whyNotAsk_10 : decode cX8_whyNotAsk 10 = .ok (.getfield 68, 3) := by decide +kernel
theorem dX8_whyNotAsk_13 : decode cX8_whyNotAsk 13 = .ok (.invokevirtual 281, 3) := by decide +kernel
theorem dX8_whyNotAsk_16 : decode cX8_whyNotAsk 16 = .ok (.invokestatic 293, 3) := by decide +kernel
theorem dX8_whyNotAsk_19 : decode cX8_whyNotAsk 19 = .ok (.iconst 2, 1) := by decide +kernel
theorem dX8_whyNotAsk_20 : decode cX8_whyNotAsk 20 = .ok (.if_icmp .ge 8, 3) := by decide +kernel
theorem dX8_whyNotAsk_23 : decode cX8_whyNotAsk 23 = .ok (.bipush 6, 2) := by decide +kernel
theorem dX8_whyNotAsk_25 : decode cX8_whyNotAsk 25 = .ok (.goto 4, 3) := by decide +kernel
theorem dX8_whyNotAsk_28 : decode cX8_whyNotAsk 28 = .ok (.iconst 0, 1) := by decide +kernel
theorem dX8_whyNotAsk_29 : decode cX8_whyNotAsk 29 = .ok (.ireturn, 1) := by decide +kernel
theorem dX8_fewestAsked_0 : decode cX8_fewestAsked 0 = .ok (.bipush (-2), 2) := by decide +kernel
theorem dX8_fewestAsked_2 : decode cX8_fewestAsked 2 = .ok (.istore_n 2, 1) := by decide +kernel
theorem dX8_fewestAsked_3 : decode cX8_fewestAsked 3 = .ok (.bipush (-2), 2) := by decide +kernel
theorem dX8_fewestAsked_5 : decode cX8_fewestAsked 5 = .ok (.istore_n 3, 1) := by decide +kernel
theorem dX8_fewestAsked_6 : decode cX8_fewestAsked 6 = .ok (.iconst 0, 1) := by decide +kernel
theorem dX8_fewestAsked_7 : decode cX8_fewestAsked 7 = .ok (.istore 4, 2) := by decide +kernel
theorem dX8_fewestAsked_9 : decode cX8_fewestAsked 9 = .ok (.iload 4, 2) := by decide +kernel
theorem dX8_fewestAsked_11 : decode cX8_fewestAsked 11 = .ok (.aload_n 0, 1) := by decide +kernel
theorem dX8_fewestAsked_12 : decode cX8_fewestAsked 12 = .ok (.getfield 68, 3) := by decide +kernel
theorem dX8_fewestAsked_15 : decode cX8_fewestAsked 15 = .ok (.getfield 298, 3) := by decide +kernel
theorem dX8_fewestAsked_18 : decode cX8_fewestAsked 18 = .ok (.if_icmp .gt 24, 3) := by decide +kernel
theorem dX8_fewestAsked_21 : decode cX8_fewestAsked 21 = .ok (.iload_n 1, 1) := by decide +kernel
theorem dX8_fewestAsked_22 : decode cX8_fewestAsked 22 = .ok (.iload 4, 2) := by decide +kernel
theorem dX8_fewestAsked_24 : decode cX8_fewestAsked 24 = .ok (.ishr, 1) := by decide +kernel
theorem dX8_fewestAsked_25 : decode cX8_fewestAsked 25 = .ok (.iconst 1, 1) := by decide +kernel
theorem dX8_fewestAsked_26 : decode cX8_fewestAsked 26 = .ok (.iand, 1) := by decide +kernel
theorem dX8_fewestAsked_27 : decode cX8_fewestAsked 27 = .ok (.iconst 1, 1) := by decide +kernel
theorem dX8_fewestAsked_28 : decode cX8_fewestAsked 28 = .ok (.if_icmp .ne 8, 3) := by decide +kernel
theorem dX8_fewestAsked_31 : decode cX8_fewestAsked 31 = .ok (.iload_n 2, 1) := by decide +kernel
theorem dX8_fewestAsked_32 : decode cX8_fewestAsked 32 = .ok (.istore_n 3, 1) := by decide +kernel
theorem dX8_fewestAsked_33 : decode cX8_fewestAsked 33 = .ok (.iload 4, 2) := by decide +kernel
theorem dX8_fewestAsked_35 : decode cX8_fewestAsked 35 = .ok (.istore_n 2, 1) := by decide +kernel
theorem dX8_fewestAsked_36 : decode cX8_fewestAsked 36 = .ok (.iinc 4 1, 3) := by decide +kernel
theorem dX8_fewestAsked_39 : decode cX8_fewestAsked 39 = .ok (.goto (-30), 3) := by decide +kernel
theorem dX8_fewestAsked_42 : decode cX8_fewestAsked 42 = .ok (.aload_n 0, 1) := by decide +kernel
theorem dX8_fewestAsked_43 : decode cX8_fewestAsked 43 = .ok (.getfield 68, 3) := by decide +kernel
theorem dX8_fewestAsked_46 : decode cX8_fewestAsked 46 = .ok (.iload_n 3, 1) := by decide +kernel
theorem dX8_fewestAsked_47 : decode cX8_fewestAsked 47 = .ok (.invokevirtual 135, 3) := by decide +kernel
theorem dX8_fewestAsked_50 : decode cX8_fewestAsked 50 = .ok (.ireturn, 1) := by decide +kernel
theorem dX8_ask_0 : decode cX8_ask 0 = .ok (.aload_n 0, 1) := by decide +kernel
theorem dX8_ask_1 : decode cX8_ask 1 = .ok (.invokevirtual 284, 3) := by decide +kernel
theorem dX8_ask_4 : decode cX8_ask 4 = .ok (.istore_n 1, 1) := by decide +kernel
theorem dX8_ask_5 : decode cX8_ask 5 = .ok (.iload_n 1, 1) := by decide +kernel
theorem dX8_ask_6 : decode cX8_ask 6 = .ok (.ifCond .eq 11, 3) := by decide +kernel
theorem dX8_ask_9 : decode cX8_ask 9 = .ok (.aload_n 0, 1) := by decide +kernel
theorem dX8_ask_10 : decode cX8_ask 10 = .ok (.iload_n 1, 1) := by decide +kernel
theorem dX8_ask_11 : decode cX8_ask 11 = .ok (.invokevirtual 83, 3) := by decide +kernel
theorem dX8_ask_14 : decode cX8_ask 14 = .ok (.goto 18, 3) := by decide +kernel
theorem dX8_ask_17 : decode cX8_ask 17 = .ok (.aload_n 0, 1) := by decide +kernel
theorem dX8_ask_18 : decode cX8_ask 18 = .ok (.aload_n 0, 1) := by decide +kernel
theorem dX8_ask_19 : decode cX8_ask 19 = .ok (.aload_n 0, 1) := by decide +kernel
theorem dX8_ask_20 : decode cX8_ask 20 = .ok (.getfield 68, 3) := by decide +kernel
theorem dX8_ask_23 : decode cX8_ask 23 = .ok (.invokevirtual 281, 3) := by decide +kernel
theorem dX8_ask_26 : decode cX8_ask 26 = .ok (.invokevirtual 287, 3) := by decide +kernel
theorem dX8_ask_29 : decode cX8_ask 29 = .ok (.invokevirtual 125, 3) := by decide +kernel
theorem dX8_ask_32 : decode cX8_ask 32 = .ok (.ireturn, 1) := by decide +kernel
theorem dX8_mostOfOneAnswer_0 : decode cX8_mostOfOneAnswer 0 = .ok (.iconst 0, 1) := by decide +kernel
theorem dX8_mostOfOneAnswer_1 : decode cX8_mostOfOneAnswer 1 = .ok (.istore_n 3, 1) := by decide +kernel
theorem dX8_mostOfOneAnswer_2 : decode cX8_mostOfOneAnswer 2 = .ok (.iconst 0, 1) := by decide +kernel
theorem dX8_mostOfOneAnswer_3 : decode cX8_mostOfOneAnswer 3 = .ok (.istore 4, 2) := by decide +kernel
theorem dX8_mostOfOneAnswer_5 : decode cX8_mostOfOneAnswer 5 = .ok (.iload 4, 2) := by decide +kernel
theorem dX8_mostOfOneAnswer_7 : decode cX8_mostOfOneAnswer 7 = .ok (.aload_n 0, 1) := by decide +kernel
theorem dX8_mostOfOneAnswer_8 : decode cX8_mostOfOneAnswer 8 = .ok (.getfield 68, 3) := by decide +kernel
theorem dX8_mostOfOneAnswer_11 : decode cX8_mostOfOneAnswer 11 = .ok (.getfield 298, 3) := by decide +kernel
theorem dX8_mostOfOneAnswer_14 : decode cX8_mostOfOneAnswer 14 = .ok (.if_icmp .gt 95, 3) := by decide +kernel
theorem dX8_mostOfOneAnswer_17 : decode cX8_mostOfOneAnswer 17 = .ok (.iconst 0, 1) := by decide +kernel
theorem dX8_mostOfOneAnswer_18 : decode cX8_mostOfOneAnswer 18 = .ok (.istore 5, 2) := by decide +kernel
theorem dX8_mostOfOneAnswer_20 : decode cX8_mostOfOneAnswer 20 = .ok (.iconst 0, 1) := by decide +kernel
theorem dX8_mostOfOneAnswer_21 : decode cX8_mostOfOneAnswer 21 = .ok (.istore 6, 2) := by decide +kernel
theorem dX8_mostOfOneAnswer_23 : decode cX8_mostOfOneAnswer 23 = .ok (.iload 6, 2) := by decide +kernel
theorem dX8_mostOfOneAnswer_25 : decode cX8_mostOfOneAnswer 25 = .ok (.aload_n 0, 1) := by decide +kernel
theorem dX8_mostOfOneAnswer_26 : decode cX8_mostOfOneAnswer 26 = .ok (.getfield 68, 3) := by decide +kernel
theorem dX8_mostOfOneAnswer_29 : decode cX8_mostOfOneAnswer 29 = .ok (.getfield 298, 3) := by decide +kernel
theorem dX8_mostOfOneAnswer_32 : decode cX8_mostOfOneAnswer 32 = .ok (.if_icmp .gt 64, 3) := by decide +kernel
theorem dX8_mostOfOneAnswer_35 : decode cX8_mostOfOneAnswer 35 = .ok (.iload_n 1, 1) := by decide +kernel
theorem dX8_mostOfOneAnswer_36 : decode cX8_mostOfOneAnswer 36 = .ok (.iload 4, 2) := by decide +kernel
theorem dX8_mostOfOneAnswer_38 : decode cX8_mostOfOneAnswer 38 = .ok (.ishr, 1) := by decide +kernel
theorem dX8_mostOfOneAnswer_39 : decode cX8_mostOfOneAnswer 39 = .ok (.iload_n 1, 1) := by decide +kernel
theorem dX8_mostOfOneAnswer_40 : decode cX8_mostOfOneAnswer 40 = .ok (.iload 6, 2) := by decide +kernel
theorem dX8_mostOfOneAnswer_42 : decode cX8_mostOfOneAnswer 42 = .ok (.ishr, 1) := by decide +kernel
theorem dX8_mostOfOneAnswer_43 : decode cX8_mostOfOneAnswer 43 = .ok (.iand, 1) := by decide +kernel
theorem dX8_mostOfOneAnswer_44 : decode cX8_mostOfOneAnswer 44 = .ok (.iconst 1, 1) := by decide +kernel
theorem dX8_mostOfOneAnswer_45 : decode cX8_mostOfOneAnswer 45 = .ok (.iand, 1) := by decide +kernel
theorem dX8_mostOfOneAnswer_46 : decode cX8_mostOfOneAnswer 46 = .ok (.iconst 1, 1) := by decide +kernel
theorem dX8_mostOfOneAnswer_47 : decode cX8_mostOfOneAnswer 47 = .ok (.if_icmp .ne 7, 3) := by decide +kernel
theorem dX8_mostOfOneAnswer_50 : decode cX8_mostOfOneAnswer 50 = .ok (.iconst 1, 1) := by decide +kernel
theorem dX8_mostOfOneAnswer_51 : decode cX8_mostOfOneAnswer 51 = .ok (.goto 4, 3) := by decide +kernel
theorem dX8_mostOfOneAnswer_54 : decode cX8_mostOfOneAnswer 54 = .ok (.iconst 0, 1) := by decide +kernel
theorem dX8_mostOfOneAnswer_55 : decode cX8_mostOfOneAnswer 55 = .ok (.istore 7, 2) := by decide +kernel
theorem dX8_mostOfOneAnswer_57 : decode cX8_mostOfOneAnswer 57 = .ok (.iload 7, 2) := by decide +kernel
theorem dX8_mostOfOneAnswer_59 : decode cX8_mostOfOneAnswer 59 = .ok (.ifCond .eq 31, 3) := by decide +kernel
theorem dX8_mostOfOneAnswer_62 : decode cX8_mostOfOneAnswer 62 = .ok (.aload_n 0, 1) := by decide +kernel
theorem dX8_mostOfOneAnswer_63 : decode cX8_mostOfOneAnswer 63 = .ok (.getfield 68, 3) := by decide +kernel
theorem dX8_mostOfOneAnswer_66 : decode cX8_mostOfOneAnswer 66 = .ok (.iload_n 2, 1) := by decide +kernel
theorem dX8_mostOfOneAnswer_67 : decode cX8_mostOfOneAnswer 67 = .ok (.iload 4, 2) := by decide +kernel
theorem dX8_mostOfOneAnswer_69 : decode cX8_mostOfOneAnswer 69 = .ok (.iconst 0, 1) := by decide +kernel
theorem dX8_mostOfOneAnswer_70 : decode cX8_mostOfOneAnswer 70 = .ok (.invokevirtual 300, 3) := by decide +kernel
theorem dX8_mostOfOneAnswer_73 : decode cX8_mostOfOneAnswer 73 = .ok (.aload_n 0, 1) := by decide +kernel
theorem dX8_mostOfOneAnswer_74 : decode cX8_mostOfOneAnswer 74 = .ok (.getfield 68, 3) := by decide +kernel
theorem dX8_mostOfOneAnswer_77 : decode cX8_mostOfOneAnswer 77 = .ok (.iload_n 2, 1) := by decide +kernel
theorem dX8_mostOfOneAnswer_78 : decode cX8_mostOfOneAnswer 78 = .ok (.iload 6, 2) := by decide +kernel
theorem dX8_mostOfOneAnswer_80 : decode cX8_mostOfOneAnswer 80 = .ok (.iconst 0, 1) := by decide +kernel
theorem dX8_mostOfOneAnswer_81 : decode cX8_mostOfOneAnswer 81 = .ok (.invokevirtual 300, 3) := by decide +kernel
theorem dX8_mostOfOneAnswer_84 : decode cX8_mostOfOneAnswer 84 = .ok (.if_icmp .ne 6, 3) := by decide +kernel
theorem dX8_mostOfOneAnswer_87 : decode cX8_mostOfOneAnswer 87 = .ok (.iinc 5 1, 3) := by decide +kernel
theorem dX8_mostOfOneAnswer_90 : decode cX8_mostOfOneAnswer 90 = .ok (.iinc 6 1, 3) := by decide +kernel
theorem dX8_mostOfOneAnswer_93 : decode cX8_mostOfOneAnswer 93 = .ok (.goto (-70), 3) := by decide +kernel
theorem dX8_mostOfOneAnswer_96 : decode cX8_mostOfOneAnswer 96 = .ok (.iload_n 3, 1) := by decide +kernel
theorem dX8_mostOfOneAnswer_97 : decode cX8_mostOfOneAnswer 97 = .ok (.iload 5, 2) := by decide +kernel
theorem dX8_mostOfOneAnswer_99 : decode cX8_mostOfOneAnswer 99 = .ok (.invokestatic 304, 3) := by decide +kernel
theorem dX8_mostOfOneAnswer_102 : decode cX8_mostOfOneAnswer 102 = .ok (.istore_n 3, 1) := by decide +kernel
theorem dX8_mostOfOneAnswer_103 : decode cX8_mostOfOneAnswer 103 = .ok (.iinc 4 1, 3) := by decide +kernel
theorem dX8_mostOfOneAnswer_106 : decode cX8_mostOfOneAnswer 106 = .ok (.goto (-101), 3) := by decide +kernel
theorem dX8_mostOfOneAnswer_109 : decode cX8_mostOfOneAnswer 109 = .ok (.iload_n 3, 1) := by decide +kernel
theorem dX8_mostOfOneAnswer_110 : decode cX8_mostOfOneAnswer 110 = .ok (.ireturn, 1) := by decide +kernel
theorem dX8_askMost_0 : decode cX8_askMost 0 = .ok (.aload_n 0, 1) := by decide +kernel
theorem dX8_askMost_1 : decode cX8_askMost 1 = .ok (.invokevirtual 284, 3) := by decide +kernel
theorem dX8_askMost_4 : decode cX8_askMost 4 = .ok (.istore_n 1, 1) := by decide +kernel
theorem dX8_askMost_5 : decode cX8_askMost 5 = .ok (.iload_n 1, 1) := by decide +kernel
theorem dX8_askMost_6 : decode cX8_askMost 6 = .ok (.ifCond .eq 9, 3) := by decide +kernel
theorem dX8_askMost_9 : decode cX8_askMost 9 = .ok (.aload_n 0, 1) := by decide +kernel
theorem dX8_askMost_10 : decode cX8_askMost 10 = .ok (.iload_n 1, 1) := by decide +kernel
theorem dX8_askMost_11 : decode cX8_askMost 11 = .ok (.invokevirtual 83, 3) := by decide +kernel
theorem dX8_askMost_14 : decode cX8_askMost 14 = .ok (.ireturn, 1) := by decide +kernel
theorem dX8_askMost_15 : decode cX8_askMost 15 = .ok (.aload_n 0, 1) := by decide +kernel
theorem dX8_askMost_16 : decode cX8_askMost 16 = .ok (.getfield 68, 3) := by decide +kernel
theorem dX8_askMost_19 : decode cX8_askMost 19 = .ok (.invokevirtual 281, 3) := by decide +kernel
theorem dX8_askMost_22 : decode cX8_askMost 22 = .ok (.istore_n 2, 1) := by decide +kernel
theorem dX8_askMost_23 : decode cX8_askMost 23 = .ok (.aload_n 0, 1) := by decide +kernel
theorem dX8_askMost_24 : decode cX8_askMost 24 = .ok (.aload_n 0, 1) := by decide +kernel
theorem dX8_askMost_25 : decode cX8_askMost 25 = .ok (.iload_n 2, 1) := by decide +kernel
theorem dX8_askMost_26 : decode cX8_askMost 26 = .ok (.aload_n 0, 1) := by decide +kernel
theorem dX8_askMost_27 : decode cX8_askMost 27 = .ok (.iload_n 2, 1) := by decide +kernel
theorem dX8_askMost_28 : decode cX8_askMost 28 = .ok (.invokevirtual 287, 3) := by decide +kernel
theorem dX8_askMost_31 : decode cX8_askMost 31 = .ok (.invokevirtual 290, 3) := by decide +kernel
theorem dX8_askMost_34 : decode cX8_askMost 34 = .ok (.invokevirtual 125, 3) := by decide +kernel
theorem dX8_askMost_37 : decode cX8_askMost 37 = .ok (.ireturn, 1) := by decide +kernel
theorem dX8_isAbove_0 : decode cX8_isAbove 0 = .ok (.aload_n 0, 1) := by decide +kernel
theorem dX8_isAbove_1 : decode cX8_isAbove 1 = .ok (.iload_n 1, 1) := by decide +kernel
theorem dX8_isAbove_2 : decode cX8_isAbove 2 = .ok (.invokevirtual 131, 3) := by decide +kernel
theorem dX8_isAbove_5 : decode cX8_isAbove 5 = .ok (.ifCond .eq 20, 3) := by decide +kernel
theorem dX8_isAbove_8 : decode cX8_isAbove 8 = .ok (.aload_n 0, 1) := by decide +kernel
theorem dX8_isAbove_9 : decode cX8_isAbove 9 = .ok (.iload_n 2, 1) := by decide +kernel
theorem dX8_isAbove_10 : decode cX8_isAbove 10 = .ok (.invokevirtual 131, 3) := by decide +kernel
theorem dX8_isAbove_13 : decode cX8_isAbove 13 = .ok (.ifCond .eq 12, 3) := by decide +kernel
theorem dX8_isAbove_16 : decode cX8_isAbove 16 = .ok (.iload_n 2, 1) := by decide +kernel
theorem dX8_isAbove_17 : decode cX8_isAbove 17 = .ok (.iload_n 1, 1) := by decide +kernel
theorem dX8_isAbove_18 : decode cX8_isAbove 18 = .ok (.if_icmp .ge 7, 3) := by decide +kernel
theorem dX8_isAbove_21 : decode cX8_isAbove 21 = .ok (.iconst 1, 1) := by decide +kernel
theorem dX8_isAbove_22 : decode cX8_isAbove 22 = .ok (.goto 4, 3) := by decide +kernel
theorem dX8_isAbove_25 : decode cX8_isAbove 25 = .ok (.iconst 0, 1) := by decide +kernel
theorem dX8_isAbove_26 : decode cX8_isAbove 26 = .ok (.ireturn, 1) := by decide +kernel
theorem dX8_letter_0 : decode cX8_letter 0 = .ok (.aload_n 0, 1) := by decide +kernel
theorem dX8_letter_1 : decode cX8_letter 1 = .ok (.iload_n 1, 1) := by decide +kernel
theorem dX8_letter_2 : decode cX8_letter 2 = .ok (.iload_n 2, 1) := by decide +kernel
theorem dX8_letter_3 : decode cX8_letter 3 = .ok (.invokevirtual 306, 3) := by decide +kernel
theorem dX8_letter_6 : decode cX8_letter 6 = .ok (.ifCond .ne 9, 3) := by decide +kernel
theorem dX8_letter_9 : decode cX8_letter 9 = .ok (.aload_n 0, 1) := by decide +kernel
theorem dX8_letter_10 : decode cX8_letter 10 = .ok (.iconst 1, 1) := by decide +kernel
theorem dX8_letter_11 : decode cX8_letter 11 = .ok (.invokevirtual 83, 3) := by decide +kernel
theorem dX8_letter_14 : decode cX8_letter 14 = .ok (.ireturn, 1) := by decide +kernel
theorem dX8_letter_15 : decode cX8_letter 15 = .ok (.iload_n 3, 1) := by decide +kernel
theorem dX8_letter_16 : decode cX8_letter 16 = .ok (.ifCond .lt 10, 3) := by decide +kernel
theorem dX8_letter_19 : decode cX8_letter 19 = .ok (.iload_n 3, 1) := by decide +kernel
theorem dX8_letter_20 : decode cX8_letter 20 = .ok (.sipush 9999, 3) := by decide +kernel
theorem dX8_letter_23 : decode cX8_letter 23 = .ok (.if_icmp .le 11, 3) := by decide +kernel
theorem dX8_letter_26 : decode cX8_letter 26 = .ok (.aload_n 0, 1) := by decide +kernel
theorem dX8_letter_27 : decode cX8_letter 27 = .ok (.iconst 2, 1) := by decide +kernel
theorem dX8_letter_28 : decode cX8_letter 28 = .ok (.invokevirtual 83, 3) := by decide +kernel
theorem dX8_letter_31 : decode cX8_letter 31 = .ok (.goto 17, 3) := by decide +kernel
theorem dX8_letter_34 : decode cX8_letter 34 = .ok (.aload_n 0, 1) := by decide +kernel
theorem dX8_letter_35 : decode cX8_letter 35 = .ok (.aload_n 0, 1) := by decide +kernel
theorem dX8_letter_36 : decode cX8_letter 36 = .ok (.getfield 68, 3) := by decide +kernel
theorem dX8_letter_39 : decode cX8_letter 39 = .ok (.iload_n 3, 1) := by decide +kernel
theorem dX8_letter_40 : decode cX8_letter 40 = .ok (.iload_n 1, 1) := by decide +kernel
theorem dX8_letter_41 : decode cX8_letter 41 = .ok (.iload_n 2, 1) := by decide +kernel
theorem dX8_letter_42 : decode cX8_letter 42 = .ok (.invokevirtual 300, 3) := by decide +kernel
theorem dX8_letter_45 : decode cX8_letter 45 = .ok (.invokevirtual 125, 3) := by decide +kernel
theorem dX8_letter_48 : decode cX8_letter 48 = .ok (.ireturn, 1) := by decide +kernel
theorem dX8_isVocabulary_0 : decode cX8_isVocabulary 0 = .ok (.iload_n 0, 1) := by decide +kernel
theorem dX8_isVocabulary_1 : decode cX8_isVocabulary 1 = .ok (.iconst 2, 1) := by decide +kernel
theorem dX8_isVocabulary_2 : decode cX8_isVocabulary 2 = .ok (.if_icmp .lt 13, 3) := by decide +kernel
theorem dX8_isVocabulary_5 : decode cX8_isVocabulary 5 = .ok (.iload_n 0, 1) := by decide +kernel
theorem dX8_isVocabulary_6 : decode cX8_isVocabulary 6 = .ok (.bipush 26, 2) := by decide +kernel
theorem dX8_isVocabulary_8 : decode cX8_isVocabulary 8 = .ok (.if_icmp .gt 7, 3) := by decide +kernel
theorem dX8_isVocabulary_11 : decode cX8_isVocabulary 11 = .ok (.iconst 1, 1) := by decide +kernel
theorem dX8_isVocabulary_12 : decode cX8_isVocabulary 12 = .ok (.goto 4, 3) := by decide +kernel
theorem dX8_isVocabulary_15 : decode cX8_isVocabulary 15 = .ok (.iconst 0, 1) := by decide +kernel
theorem dX8_isVocabulary_16 : decode cX8_isVocabulary 16 = .ok (.ireturn, 1) := by decide +kernel
theorem dX8_tells_0 : decode cX8_tells 0 = .ok (.aload_n 0, 1) := by decide +kernel
theorem dX8_tells_1 : decode cX8_tells 1 = .ok (.iload_n 1, 1) := by decide +kernel
theorem dX8_tells_2 : decode cX8_tells 2 = .ok (.iload_n 2, 1) := by decide +kernel
theorem dX8_tells_3 : decode cX8_tells 3 = .ok (.invokevirtual 306, 3) := by decide +kernel
theorem dX8_tells_6 : decode cX8_tells 6 = .ok (.ifCond .ne 9, 3) := by decide +kernel
theorem dX8_tells_9 : decode cX8_tells 9 = .ok (.aload_n 0, 1) := by decide +kernel
theorem dX8_tells_10 : decode cX8_tells 10 = .ok (.iconst 1, 1) := by decide +kernel
theorem dX8_tells_11 : decode cX8_tells 11 = .ok (.invokevirtual 83, 3) := by decide +kernel
theorem dX8_tells_14 : decode cX8_tells 14 = .ok (.ireturn, 1) := by decide +kernel
theorem dX8_tells_15 : decode cX8_tells 15 = .ok (.iload_n 3, 1) := by decide +kernel
theorem dX8_tells_16 : decode cX8_tells 16 = .ok (.ifCond .lt 18, 3) := by decide +kernel
theorem dX8_tells_19 : decode cX8_tells 19 = .ok (.iload_n 3, 1) := by decide +kernel
theorem dX8_tells_20 : decode cX8_tells 20 = .ok (.sipush 9999, 3) := by decide +kernel
theorem dX8_tells_23 : decode cX8_tells 23 = .ok (.if_icmp .gt 11, 3) := by decide +kernel
theorem dX8_tells_26 : decode cX8_tells 26 = .ok (.iload 4, 2) := by decide +kernel
theorem dX8_tells_28 : decode cX8_tells 28 = .ok (.invokestatic 309, 3) := by decide +kernel
theorem dX8_tells_31 : decode cX8_tells 31 = .ok (.ifCond .ne 9, 3) := by decide +kernel
theorem dX8_tells_34 : decode cX8_tells 34 = .ok (.aload_n 0, 1) := by decide +kernel
theorem dX8_tells_35 : decode cX8_tells 35 = .ok (.iconst 2, 1) := by decide +kernel
theorem dX8_tells_36 : decode cX8_tells 36 = .ok (.invokevirtual 83, 3) := by decide +kernel
theorem dX8_tells_39 : decode cX8_tells 39 = .ok (.ireturn, 1) := by decide +kernel
theorem dX8_tells_40 : decode cX8_tells 40 = .ok (.aload_n 0, 1) := by decide +kernel
theorem dX8_tells_41 : decode cX8_tells 41 = .ok (.getfield 68, 3) := by decide +kernel
theorem dX8_tells_44 : decode cX8_tells 44 = .ok (.iload_n 3, 1) := by decide +kernel
theorem dX8_tells_45 : decode cX8_tells 45 = .ok (.iload_n 1, 1) := by decide +kernel
theorem dX8_tells_46 : decode cX8_tells 46 = .ok (.iload_n 2, 1) := by decide +kernel
theorem dX8_tells_47 : decode cX8_tells 47 = .ok (.invokevirtual 300, 3) := by decide +kernel
theorem dX8_tells_50 : decode cX8_tells 50 = .ok (.istore 5, 2) := by decide +kernel
theorem dX8_tells_52 : decode cX8_tells 52 = .ok (.lconst 1, 1) := by decide +kernel
theorem dX8_tells_53 : decode cX8_tells 53 = .ok (.lstore 6, 2) := by decide +kernel
theorem dX8_tells_55 : decode cX8_tells 55 = .ok (.iconst 0, 1) := by decide +kernel
theorem dX8_tells_56 : decode cX8_tells 56 = .ok (.istore 8, 2) := by decide +kernel
theorem dX8_tells_58 : decode cX8_tells 58 = .ok (.iload 8, 2) := by decide +kernel
theorem dX8_tells_60 : decode cX8_tells 60 = .ok (.iload 5, 2) := by decide +kernel
theorem dX8_tells_62 : decode cX8_tells 62 = .ok (.if_icmp .ge 26, 3) := by decide +kernel
theorem dX8_tells_65 : decode cX8_tells 65 = .ok (.lload 6, 2) := by decide +kernel
theorem dX8_tells_67 : decode cX8_tells 67 = .ok (.ldc2_w 312, 3) := by decide +kernel
theorem dX8_tells_70 : decode cX8_tells 70 = .ok (.lcmp, 1) := by decide +kernel
theorem dX8_tells_71 : decode cX8_tells 71 = .ok (.ifCond .ge 17, 3) := by decide +kernel
theorem dX8_tells_74 : decode cX8_tells 74 = .ok (.lload 6, 2) := by decide +kernel
theorem dX8_tells_76 : decode cX8_tells 76 = .ok (.iload 4, 2) := by decide +kernel
theorem dX8_tells_78 : decode cX8_tells 78 = .ok (.i2l, 1) := by decide +kernel
theorem dX8_tells_79 : decode cX8_tells 79 = .ok (.lmul, 1) := by decide +kernel
theorem dX8_tells_80 : decode cX8_tells 80 = .ok (.lstore 6, 2) := by decide +kernel
theorem dX8_tells_82 : decode cX8_tells 82 = .ok (.iinc 8 1, 3) := by decide +kernel
theorem dX8_tells_85 : decode cX8_tells 85 = .ok (.goto (-27), 3) := by decide +kernel
theorem dX8_tells_88 : decode cX8_tells 88 = .ok (.aload_n 0, 1) := by decide +kernel
theorem dX8_tells_89 : decode cX8_tells 89 = .ok (.lload 6, 2) := by decide +kernel
theorem dX8_tells_91 : decode cX8_tells 91 = .ok (.ldc2_w 312, 3) := by decide +kernel
theorem dX8_tells_94 : decode cX8_tells 94 = .ok (.invokestatic 314, 3) := by decide +kernel
theorem dX8_tells_97 : decode cX8_tells 97 = .ok (.l2i, 1) := by decide +kernel
theorem dX8_tells_98 : decode cX8_tells 98 = .ok (.invokevirtual 125, 3) := by decide +kernel
theorem dX8_tells_101 : decode cX8_tells 101 = .ok (.ireturn, 1) := by decide +kernel
theorem dX8_words_0 : decode cX8_words 0 = .ok (.aload_n 0, 1) := by decide +kernel
theorem dX8_words_1 : decode cX8_words 1 = .ok (.iload_n 1, 1) := by decide +kernel
theorem dX8_words_2 : decode cX8_words 2 = .ok (.iload_n 2, 1) := by decide +kernel
theorem dX8_words_3 : decode cX8_words 3 = .ok (.invokevirtual 306, 3) := by decide +kernel
theorem dX8_words_6 : decode cX8_words 6 = .ok (.ifCond .ne 10, 3) := by decide +kernel
theorem dX8_words_9 : decode cX8_words 9 = .ok (.aload_n 0, 1) := by decide +kernel
theorem dX8_words_10 : decode cX8_words 10 = .ok (.iconst 1, 1) := by decide +kernel
theorem dX8_words_11 : decode cX8_words 11 = .ok (.invokevirtual 83, 3) := by decide +kernel
theorem dX8_words_14 : decode cX8_words 14 = .ok (.i2l, 1) := by decide +kernel
theorem dX8_words_15 : decode cX8_words 15 = .ok (.lreturn, 1) := by decide +kernel
theorem dX8_words_16 : decode cX8_words 16 = .ok (.iload_n 3, 1) := by decide +kernel
theorem dX8_words_17 : decode cX8_words 17 = .ok (.iconst 1, 1) := by decide +kernel
theorem dX8_words_18 : decode cX8_words 18 = .ok (.if_icmp .lt 18, 3) := by decide +kernel
theorem dX8_words_21 : decode cX8_words 21 = .ok (.iload_n 3, 1) := by decide +kernel
theorem dX8_words_22 : decode cX8_words 22 = .ok (.ldc_w 317, 3) := by decide +kernel
theorem dX8_words_25 : decode cX8_words 25 = .ok (.if_icmp .gt 11, 3) := by decide +kernel
theorem dX8_words_28 : decode cX8_words 28 = .ok (.iload 4, 2) := by decide +kernel
theorem dX8_words_30 : decode cX8_words 30 = .ok (.invokestatic 309, 3) := by decide +kernel
theorem dX8_words_33 : decode cX8_words 33 = .ok (.ifCond .ne 10, 3) := by decide +kernel
theorem dX8_words_36 : decode cX8_words 36 = .ok (.aload_n 0, 1) := by decide +kernel
theorem dX8_words_37 : decode cX8_words 37 = .ok (.iconst 2, 1) := by decide +kernel
theorem dX8_words_38 : decode cX8_words 38 = .ok (.invokevirtual 83, 3) := by decide +kernel
theorem dX8_words_41 : decode cX8_words 41 = .ok (.i2l, 1) := by decide +kernel
theorem dX8_words_42 : decode cX8_words 42 = .ok (.lreturn, 1) := by decide +kernel
theorem dX8_words_43 : decode cX8_words 43 = .ok (.lconst 0, 1) := by decide +kernel
theorem dX8_words_44 : decode cX8_words 44 = .ok (.lstore 5, 2) := by decide +kernel
theorem dX8_words_46 : decode cX8_words 46 = .ok (.lconst 1, 1) := by decide +kernel
theorem dX8_words_47 : decode cX8_words 47 = .ok (.lstore 7, 2) := by decide +kernel
theorem dX8_words_49 : decode cX8_words 49 = .ok (.lload 7, 2) := by decide +kernel
theorem dX8_words_51 : decode cX8_words 51 = .ok (.iload_n 3, 1) := by decide +kernel
theorem dX8_words_52 : decode cX8_words 52 = .ok (.i2l, 1) := by decide +kernel
theorem dX8_words_53 : decode cX8_words 53 = .ok (.lcmp, 1) := by decide +kernel
theorem dX8_words_54 : decode cX8_words 54 = .ok (.ifCond .ge 29, 3) := by decide +kernel
theorem dX8_words_57 : decode cX8_words 57 = .ok (.lload 5, 2) := by decide +kernel
theorem dX8_words_59 : decode cX8_words 59 = .ok (.ldc2_w 312, 3) := by decide +kernel
theorem dX8_words_62 : decode cX8_words 62 = .ok (.lcmp, 1) := by decide +kernel
theorem dX8_words_63 : decode cX8_words 63 = .ok (.ifCond .ge 20, 3) := by decide +kernel
theorem dX8_words_66 : decode cX8_words 66 = .ok (.lload 5, 2) := by decide +kernel
theorem dX8_words_68 : decode cX8_words 68 = .ok (.lconst 1, 1) := by decide +kernel
theorem dX8_words_69 : decode cX8_words 69 = .ok (.ladd, 1) := by decide +kernel
theorem dX8_words_70 : decode cX8_words 70 = .ok (.lstore 5, 2) := by decide +kernel
theorem dX8_words_72 : decode cX8_words 72 = .ok (.lload 7, 2) := by decide +kernel
theorem dX8_words_74 : decode cX8_words 74 = .ok (.iload 4, 2) := by decide +kernel
theorem dX8_words_76 : decode cX8_words 76 = .ok (.i2l, 1) := by decide +kernel
theorem dX8_words_77 : decode cX8_words 77 = .ok (.lmul, 1) := by decide +kernel
theorem dX8_words_78 : decode cX8_words 78 = .ok (.lstore 7, 2) := by decide +kernel
theorem dX8_words_80 : decode cX8_words 80 = .ok (.goto (-31), 3) := by decide +kernel
theorem dX8_words_83 : decode cX8_words 83 = .ok (.aload_n 0, 1) := by decide +kernel
theorem dX8_words_84 : decode cX8_words 84 = .ok (.lload 5, 2) := by decide +kernel
theorem dX8_words_86 : decode cX8_words 86 = .ok (.aload_n 0, 1) := by decide +kernel
theorem dX8_words_87 : decode cX8_words 87 = .ok (.getfield 68, 3) := by decide +kernel
theorem dX8_words_90 : decode cX8_words 90 = .ok (.iload_n 2, 1) := by decide +kernel
theorem dX8_words_91 : decode cX8_words 91 = .ok (.iload_n 1, 1) := by decide +kernel
theorem dX8_words_92 : decode cX8_words 92 = .ok (.invokevirtual 318, 3) := by decide +kernel
theorem dX8_words_95 : decode cX8_words 95 = .ok (.i2l, 1) := by decide +kernel
theorem dX8_words_96 : decode cX8_words 96 = .ok (.lmul, 1) := by decide +kernel
theorem dX8_words_97 : decode cX8_words 97 = .ok (.invokevirtual 142, 3) := by decide +kernel
theorem dX8_words_100 : decode cX8_words 100 = .ok (.lreturn, 1) := by decide +kernel
theorem dX8_isDreamFloor_0 : decode cX8_isDreamFloor 0 = .ok (.aload_n 0, 1) := by decide +kernel
theorem dX8_isDreamFloor_1 : decode cX8_isDreamFloor 1 = .ok (.iload_n 1, 1) := by decide +kernel
theorem dX8_isDreamFloor_2 : decode cX8_isDreamFloor 2 = .ok (.invokevirtual 131, 3) := by decide +kernel
theorem dX8_isDreamFloor_5 : decode cX8_isDreamFloor 5 = .ok (.ifCond .eq 11, 3) := by decide +kernel
theorem dX8_isDreamFloor_8 : decode cX8_isDreamFloor 8 = .ok (.iload_n 1, 1) := by decide +kernel
theorem dX8_isDreamFloor_9 : decode cX8_isDreamFloor 9 = .ok (.ifCond .le 7, 3) := by decide +kernel
theorem dX8_isDreamFloor_12 : decode cX8_isDreamFloor 12 = .ok (.iconst 1, 1) := by decide +kernel
theorem dX8_isDreamFloor_13 : decode cX8_isDreamFloor 13 = .ok (.goto 4, 3) := by decide +kernel
theorem dX8_isDreamFloor_16 : decode cX8_isDreamFloor 16 = .ok (.iconst 0, 1) := by decide +kernel
theorem dX8_isDreamFloor_17 : decode cX8_isDreamFloor 17 = .ok (.ireturn, 1) := by decide +kernel
theorem dX8_ticksTo_0 : decode cX8_ticksTo 0 = .ok (.aload_n 0, 1) := by decide +kernel
theorem dX8_ticksTo_1 : decode cX8_ticksTo 1 = .ok (.getfield 68, 3) := by decide +kernel
theorem dX8_ticksTo_4 : decode cX8_ticksTo 4 = .ok (.aload_n 0, 1) := by decide +kernel
theorem dX8_ticksTo_5 : decode cX8_ticksTo 5 = .ok (.getfield 23, 3) := by decide +kernel
theorem dX8_ticksTo_8 : decode cX8_ticksTo 8 = .ok (.getfield 167, 3) := by decide +kernel
theorem dX8_ticksTo_11 : decode cX8_ticksTo 11 = .ok (.iload_n 1, 1) := by decide +kernel
theorem dX8_ticksTo_12 : decode cX8_ticksTo 12 = .ok (.iaload, 1) := by decide +kernel
theorem dX8_ticksTo_13 : decode cX8_ticksTo 13 = .ok (.iload_n 3, 1) := by decide +kernel
theorem dX8_ticksTo_14 : decode cX8_ticksTo 14 = .ok (.if_icmp .ne 15, 3) := by decide +kernel
theorem dX8_ticksTo_17 : decode cX8_ticksTo 17 = .ok (.aload_n 0, 1) := by decide +kernel
theorem dX8_ticksTo_18 : decode cX8_ticksTo 18 = .ok (.getfield 23, 3) := by decide +kernel
theorem dX8_ticksTo_21 : decode cX8_ticksTo 21 = .ok (.getfield 163, 3) := by decide +kernel
theorem dX8_ticksTo_24 : decode cX8_ticksTo 24 = .ok (.iload_n 1, 1) := by decide +kernel
theorem dX8_ticksTo_25 : decode cX8_ticksTo 25 = .ok (.iaload, 1) := by decide +kernel
theorem dX8_ticksTo_26 : decode cX8_ticksTo 26 = .ok (.goto 4, 3) := by decide +kernel
theorem dX8_ticksTo_29 : decode cX8_ticksTo 29 = .ok (.iconst 0, 1) := by decide +kernel
theorem dX8_ticksTo_30 : decode cX8_ticksTo 30 = .ok (.iload_n 2, 1) := by decide +kernel
theorem dX8_ticksTo_31 : decode cX8_ticksTo 31 = .ok (.invokevirtual 336, 3) := by decide +kernel
theorem dX8_ticksTo_34 : decode cX8_ticksTo 34 = .ok (.lreturn, 1) := by decide +kernel
theorem dX8_laterOfBoth_0 : decode cX8_laterOfBoth 0 = .ok (.aload_n 0, 1) := by decide +kernel
theorem dX8_laterOfBoth_1 : decode cX8_laterOfBoth 1 = .ok (.iload_n 1, 1) := by decide +kernel
theorem dX8_laterOfBoth_2 : decode cX8_laterOfBoth 2 = .ok (.iload_n 3, 1) := by decide +kernel
theorem dX8_laterOfBoth_3 : decode cX8_laterOfBoth 3 = .ok (.iload 4, 2) := by decide +kernel
theorem dX8_laterOfBoth_5 : decode cX8_laterOfBoth 5 = .ok (.invokevirtual 333, 3) := by decide +kernel
theorem dX8_laterOfBoth_8 : decode cX8_laterOfBoth 8 = .ok (.aload_n 0, 1) := by decide +kernel
theorem dX8_laterOfBoth_9 : decode cX8_laterOfBoth 9 = .ok (.iload_n 2, 1) := by decide +kernel
theorem dX8_laterOfBoth_10 : decode cX8_laterOfBoth 10 = .ok (.iload_n 3, 1) := by decide +kernel
theorem dX8_laterOfBoth_11 : decode cX8_laterOfBoth 11 = .ok (.iload 4, 2) := by decide +kernel
theorem dX8_laterOfBoth_13 : decode cX8_laterOfBoth 13 = .ok (.invokevirtual 333, 3) := by decide +kernel
theorem dX8_laterOfBoth_16 : decode cX8_laterOfBoth 16 = .ok (.invokestatic 228, 3) := by decide +kernel
theorem dX8_laterOfBoth_19 : decode cX8_laterOfBoth 19 = .ok (.lreturn, 1) := by decide +kernel
theorem dX8_soonestHead_0 : decode cX8_soonestHead 0 = .ok (.iconst 0, 1) := by decide +kernel
theorem dX8_soonestHead_1 : decode cX8_soonestHead 1 = .ok (.istore 4, 2) := by decide +kernel
theorem dX8_soonestHead_3 : decode cX8_soonestHead 3 = .ok (.iconst 1, 1) := by decide +kernel
theorem dX8_soonestHead_4 : decode cX8_soonestHead 4 = .ok (.istore 5, 2) := by decide +kernel
theorem dX8_soonestHead_6 : decode cX8_soonestHead 6 = .ok (.iload 5, 2) := by decide +kernel
theorem dX8_soonestHead_8 : decode cX8_soonestHead 8 = .ok (.aload_n 0, 1) := by decide +kernel
theorem dX8_soonestHead_9 : decode cX8_soonestHead 9 = .ok (.getfield 68, 3) := by decide +kernel
theorem dX8_soonestHead_12 : decode cX8_soonestHead 12 = .ok (.getfield 331, 3) := by decide +kernel
theorem dX8_soonestHead_15 : decode cX8_soonestHead 15 = .ok (.if_icmp .ge 35, 3) := by decide +kernel
theorem dX8_soonestHead_18 : decode cX8_soonestHead 18 = .ok (.aload_n 0, 1) := by decide +kernel
theorem dX8_soonestHead_19 : decode cX8_soonestHead 19 = .ok (.iload_n 1, 1) := by decide +kernel
theorem dX8_soonestHead_20 : decode cX8_soonestHead 20 = .ok (.iload_n 2, 1) := by decide +kernel
theorem dX8_soonestHead_21 : decode cX8_soonestHead 21 = .ok (.iload_n 3, 1) := by decide +kernel
theorem dX8_soonestHead_22 : decode cX8_soonestHead 22 = .ok (.iload 5, 2) := by decide +kernel
theorem dX8_soonestHead_24 : decode cX8_soonestHead 24 = .ok (.invokevirtual 327, 3) := by decide +kernel
theorem dX8_soonestHead_27 : decode cX8_soonestHead 27 = .ok (.aload_n 0, 1) := by decide +kernel
theorem dX8_soonestHead_28 : decode cX8_soonestHead 28 = .ok (.iload_n 1, 1) := by decide +kernel
theorem dX8_soonestHead_29 : decode cX8_soonestHead 29 = .ok (.iload_n 2, 1) := by decide +kernel
theorem dX8_soonestHead_30 : decode cX8_soonestHead 30 = .ok (.iload_n 3, 1) := by decide +kernel
theorem dX8_soonestHead_31 : decode cX8_soonestHead 31 = .ok (.iload 4, 2) := by decide +kernel
theorem dX8_soonestHead_33 : decode cX8_soonestHead 33 = .ok (.invokevirtual 327, 3) := by decide +kernel
theorem dX8_soonestHead_36 : decode cX8_soonestHead 36 = .ok (.lcmp, 1) := by decide +kernel
theorem dX8_soonestHead_37 : decode cX8_soonestHead 37 = .ok (.ifCond .ge 7, 3) := by decide +kernel
theorem dX8_soonestHead_40 : decode cX8_soonestHead 40 = .ok (.iload 5, 2) := by decide +kernel
theorem dX8_soonestHead_42 : decode cX8_soonestHead 42 = .ok (.istore 4, 2) := by decide +kernel
theorem dX8_soonestHead_44 : decode cX8_soonestHead 44 = .ok (.iinc 5 1, 3) := by decide +kernel
theorem dX8_soonestHead_47 : decode cX8_soonestHead 47 = .ok (.goto (-41), 3) := by decide +kernel
theorem dX8_soonestHead_50 : decode cX8_soonestHead 50 = .ok (.iload 4, 2) := by decide +kernel
theorem dX8_soonestHead_52 : decode cX8_soonestHead 52 = .ok (.ireturn, 1) := by decide +kernel
theorem dX8_meeting_0 : decode cX8_meeting 0 = .ok (.aload_n 0, 1) := by decide +kernel
theorem dX8_meeting_1 : decode cX8_meeting 1 = .ok (.iload_n 1, 1) := by decide +kernel
theorem dX8_meeting_2 : decode cX8_meeting 2 = .ok (.iload_n 2, 1) := by decide +kernel
theorem dX8_meeting_3 : decode cX8_meeting 3 = .ok (.invokevirtual 189, 3) := by decide +kernel
theorem dX8_meeting_6 : decode cX8_meeting 6 = .ok (.ifCond .eq 11, 3) := by decide +kernel
theorem dX8_meeting_9 : decode cX8_meeting 9 = .ok (.aload_n 0, 1) := by decide +kernel
theorem dX8_meeting_10 : decode cX8_meeting 10 = .ok (.iload_n 3, 1) := by decide +kernel
theorem dX8_meeting_11 : decode cX8_meeting 11 = .ok (.invokevirtual 321, 3) := by decide +kernel
theorem dX8_meeting_14 : decode cX8_meeting 14 = .ok (.ifCond .ne 10, 3) := by decide +kernel
theorem dX8_meeting_17 : decode cX8_meeting 17 = .ok (.aload_n 0, 1) := by decide +kernel
theorem dX8_meeting_18 : decode cX8_meeting 18 = .ok (.iconst 1, 1) := by decide +kernel
theorem dX8_meeting_19 : decode cX8_meeting 19 = .ok (.invokevirtual 83, 3) := by decide +kernel
theorem dX8_meeting_22 : decode cX8_meeting 22 = .ok (.i2l, 1) := by decide +kernel
theorem dX8_meeting_23 : decode cX8_meeting 23 = .ok (.lreturn, 1) := by decide +kernel
theorem dX8_meeting_24 : decode cX8_meeting 24 = .ok (.aload_n 0, 1) := by decide +kernel
theorem dX8_meeting_25 : decode cX8_meeting 25 = .ok (.aload_n 0, 1) := by decide +kernel
theorem dX8_meeting_26 : decode cX8_meeting 26 = .ok (.iload_n 1, 1) := by decide +kernel
theorem dX8_meeting_27 : decode cX8_meeting 27 = .ok (.iload_n 2, 1) := by decide +kernel
theorem dX8_meeting_28 : decode cX8_meeting 28 = .ok (.iload_n 3, 1) := by decide +kernel
theorem dX8_meeting_29 : decode cX8_meeting 29 = .ok (.aload_n 0, 1) := by decide +kernel
theorem dX8_meeting_30 : decode cX8_meeting 30 = .ok (.iload_n 1, 1) := by decide +kernel
theorem dX8_meeting_31 : decode cX8_meeting 31 = .ok (.iload_n 2, 1) := by decide +kernel
theorem dX8_meeting_32 : decode cX8_meeting 32 = .ok (.iload_n 3, 1) := by decide +kernel
theorem dX8_meeting_33 : decode cX8_meeting 33 = .ok (.invokevirtual 324, 3) := by decide +kernel
theorem dX8_meeting_36 : decode cX8_meeting 36 = .ok (.invokevirtual 327, 3) := by decide +kernel
theorem dX8_meeting_39 : decode cX8_meeting 39 = .ok (.invokevirtual 142, 3) := by decide +kernel
theorem dX8_meeting_42 : decode cX8_meeting 42 = .ok (.lreturn, 1) := by decide +kernel
theorem dX8_meetingHead_0 : decode cX8_meetingHead 0 = .ok (.aload_n 0, 1) := by decide +kernel
theorem dX8_meetingHead_1 : decode cX8_meetingHead 1 = .ok (.iload_n 1, 1) := by decide +kernel
theorem dX8_meetingHead_2 : decode cX8_meetingHead 2 = .ok (.iload_n 2, 1) := by decide +kernel
theorem dX8_meetingHead_3 : decode cX8_meetingHead 3 = .ok (.invokevirtual 189, 3) := by decide +kernel
theorem dX8_meetingHead_6 : decode cX8_meetingHead 6 = .ok (.ifCond .eq 11, 3) := by decide +kernel
theorem dX8_meetingHead_9 : decode cX8_meetingHead 9 = .ok (.aload_n 0, 1) := by decide +kernel
theorem dX8_meetingHead_10 : decode cX8_meetingHead 10 = .ok (.iload_n 3, 1) := by decide +kernel
theorem dX8_meetingHead_11 : decode cX8_meetingHead 11 = .ok (.invokevirtual 321, 3) := by decide +kernel
theorem dX8_meetingHead_14 : decode cX8_meetingHead 14 = .ok (.ifCond .ne 9, 3) := by decide +kernel
theorem dX8_meetingHead_17 : decode cX8_meetingHead 17 = .ok (.aload_n 0, 1) := by decide +kernel
theorem dX8_meetingHead_18 : decode cX8_meetingHead 18 = .ok (.iconst 1, 1) := by decide +kernel
theorem dX8_meetingHead_19 : decode cX8_meetingHead 19 = .ok (.invokevirtual 83, 3) := by decide +kernel
theorem dX8_meetingHead_22 : decode cX8_meetingHead 22 = .ok (.ireturn, 1) := by decide +kernel
theorem dX8_meetingHead_23 : decode cX8_meetingHead 23 = .ok (.aload_n 0, 1) := by decide +kernel
theorem dX8_meetingHead_24 : decode cX8_meetingHead 24 = .ok (.aload_n 0, 1) := by decide +kernel
theorem dX8_meetingHead_25 : decode cX8_meetingHead 25 = .ok (.iload_n 1, 1) := by decide +kernel
theorem dX8_meetingHead_26 : decode cX8_meetingHead 26 = .ok (.iload_n 2, 1) := by decide +kernel
theorem dX8_meetingHead_27 : decode cX8_meetingHead 27 = .ok (.iload_n 3, 1) := by decide +kernel
theorem dX8_meetingHead_28 : decode cX8_meetingHead 28 = .ok (.invokevirtual 324, 3) := by decide +kernel
theorem dX8_meetingHead_31 : decode cX8_meetingHead 31 = .ok (.invokevirtual 125, 3) := by decide +kernel
theorem dX8_meetingHead_34 : decode cX8_meetingHead 34 = .ok (.ireturn, 1) := by decide +kernel
theorem dX8_whyNoWages_0 : decode cX8_whyNoWages 0 = .ok (.aload_n 0, 1) := by decide +kernel
theorem dX8_whyNoWages_1 : decode cX8_whyNoWages 1 = .ok (.iload_n 1, 1) := by decide +kernel
theorem dX8_whyNoWages_2 : decode cX8_whyNoWages 2 = .ok (.invokevirtual 160, 3) := by decide +kernel
theorem dX8_whyNoWages_5 : decode cX8_whyNoWages 5 = .ok (.ifCond .ne 5, 3) := by decide +kernel
theorem dX8_whyNoWages_8 : decode cX8_whyNoWages 8 = .ok (.iconst 1, 1) := by decide +kernel
theorem dX8_whyNoWages_9 : decode cX8_whyNoWages 9 = .ok (.ireturn, 1) := by decide +kernel
theorem dX8_whyNoWages_10 : decode cX8_whyNoWages 10 = .ok (.aload_n 0, 1) := by decide +kernel
theorem dX8_whyNoWages_11 : decode cX8_whyNoWages 11 = .ok (.getfield 68, 3) := by decide +kernel
theorem dX8_whyNoWages_14 : decode cX8_whyNoWages 14 = .ok (.getfield 349, 3) := by decide +kernel
theorem dX8_whyNoWages_17 : decode cX8_whyNoWages 17 = .ok (.ifCond .eq 7, 3) := by decide +kernel
theorem dX8_whyNoWages_20 : decode cX8_whyNoWages 20 = .ok (.iconst 0, 1) := by decide +kernel
theorem dX8_whyNoWages_21 : decode cX8_whyNoWages 21 = .ok (.goto 5, 3) := by decide +kernel
theorem dX8_whyNoWages_24 : decode cX8_whyNoWages 24 = .ok (.bipush 6, 2) := by decide +kernel
theorem dX8_whyNoWages_26 : decode cX8_whyNoWages 26 = .ok (.ireturn, 1) := by decide +kernel
theorem dX8_floorTaken_0 : decode cX8_floorTaken 0 = .ok (.iconst 0, 1) := by decide +kernel
theorem dX8_floorTaken_1 : decode cX8_floorTaken 1 = .ok (.istore_n 2, 1) := by decide +kernel
theorem dX8_floorTaken_2 : decode cX8_floorTaken 2 = .ok (.iconst 1, 1) := by decide +kernel
theorem dX8_floorTaken_3 : decode cX8_floorTaken 3 = .ok (.istore_n 3, 1) := by decide +kernel
theorem dX8_floorTaken_4 : decode cX8_floorTaken 4 = .ok (.iload_n 3, 1) := by decide +kernel
theorem dX8_floorTaken_5 : decode cX8_floorTaken 5 = .ok (.aload_n 0, 1) := by decide +kernel
theorem dX8_floorTaken_6 : decode cX8_floorTaken 6 = .ok (.getfield 68, 3) := by decide +kernel
theorem dX8_floorTaken_9 : decode cX8_floorTaken 9 = .ok (.getfield 298, 3) := by decide +kernel
theorem dX8_floorTaken_12 : decode cX8_floorTaken 12 = .ok (.if_icmp .gt 33, 3) := by decide +kernel
theorem dX8_floorTaken_15 : decode cX8_floorTaken 15 = .ok (.aload_n 0, 1) := by decide +kernel
theorem dX8_floorTaken_16 : decode cX8_floorTaken 16 = .ok (.getfield 68, 3) := by decide +kernel
theorem dX8_floorTaken_19 : decode cX8_floorTaken 19 = .ok (.iload_n 1, 1) := by decide +kernel
theorem dX8_floorTaken_20 : decode cX8_floorTaken 20 = .ok (.iload_n 3, 1) := by decide +kernel
theorem dX8_floorTaken_21 : decode cX8_floorTaken 21 = .ok (.invokevirtual 346, 3) := by decide +kernel
theorem dX8_floorTaken_24 : decode cX8_floorTaken 24 = .ok (.aload_n 0, 1) := by decide +kernel
theorem dX8_floorTaken_25 : decode cX8_floorTaken 25 = .ok (.getfield 68, 3) := by decide +kernel
theorem dX8_floorTaken_28 : decode cX8_floorTaken 28 = .ok (.iload_n 1, 1) := by decide +kernel
theorem dX8_floorTaken_29 : decode cX8_floorTaken 29 = .ok (.iload_n 2, 1) := by decide +kernel
theorem dX8_floorTaken_30 : decode cX8_floorTaken 30 = .ok (.invokevirtual 346, 3) := by decide +kernel
theorem dX8_floorTaken_33 : decode cX8_floorTaken 33 = .ok (.lcmp, 1) := by decide +kernel
theorem dX8_floorTaken_34 : decode cX8_floorTaken 34 = .ok (.ifCond .le 5, 3) := by decide +kernel
theorem dX8_floorTaken_37 : decode cX8_floorTaken 37 = .ok (.iload_n 3, 1) := by decide +kernel
theorem dX8_floorTaken_38 : decode cX8_floorTaken 38 = .ok (.istore_n 2, 1) := by decide +kernel
theorem dX8_floorTaken_39 : decode cX8_floorTaken 39 = .ok (.iinc 3 1, 3) := by decide +kernel
theorem dX8_floorTaken_42 : decode cX8_floorTaken 42 = .ok (.goto (-38), 3) := by decide +kernel
theorem dX8_floorTaken_45 : decode cX8_floorTaken 45 = .ok (.iload_n 2, 1) := by decide +kernel
theorem dX8_floorTaken_46 : decode cX8_floorTaken 46 = .ok (.ireturn, 1) := by decide +kernel
theorem dX8_takes_0 : decode cX8_takes 0 = .ok (.aload_n 0, 1) := by decide +kernel
theorem dX8_takes_1 : decode cX8_takes 1 = .ok (.iload_n 1, 1) := by decide +kernel
theorem dX8_takes_2 : decode cX8_takes 2 = .ok (.invokevirtual 340, 3) := by decide +kernel
theorem dX8_takes_5 : decode cX8_takes 5 = .ok (.istore_n 2, 1) := by decide +kernel
theorem dX8_takes_6 : decode cX8_takes 6 = .ok (.iload_n 2, 1) := by decide +kernel
theorem dX8_takes_7 : decode cX8_takes 7 = .ok (.ifCond .eq 11, 3) := by decide +kernel
theorem dX8_takes_10 : decode cX8_takes 10 = .ok (.aload_n 0, 1) := by decide +kernel
theorem dX8_takes_11 : decode cX8_takes 11 = .ok (.iload_n 2, 1) := by decide +kernel
theorem dX8_takes_12 : decode cX8_takes 12 = .ok (.invokevirtual 83, 3) := by decide +kernel
theorem dX8_takes_15 : decode cX8_takes 15 = .ok (.goto 12, 3) := by decide +kernel
theorem dX8_takes_18 : decode cX8_takes 18 = .ok (.aload_n 0, 1) := by decide +kernel
theorem dX8_takes_19 : decode cX8_takes 19 = .ok (.aload_n 0, 1) := by decide +kernel
theorem dX8_takes_20 : decode cX8_takes 20 = .ok (.iload_n 1, 1) := by decide +kernel
theorem dX8_takes_21 : decode cX8_takes 21 = .ok (.invokevirtual 343, 3) := by decide +kernel
theorem dX8_takes_24 : decode cX8_takes 24 = .ok (.invokevirtual 125, 3) := by decide +kernel
theorem dX8_takes_27 : decode cX8_takes 27 = .ok (.ireturn, 1) := by decide +kernel
theorem dX8_gains_0 : decode cX8_gains 0 = .ok (.aload_n 0, 1) := by decide +kernel
theorem dX8_gains_1 : decode cX8_gains 1 = .ok (.iload_n 1, 1) := by decide +kernel
theorem dX8_gains_2 : decode cX8_gains 2 = .ok (.invokevirtual 340, 3) := by decide +kernel
theorem dX8_gains_5 : decode cX8_gains 5 = .ok (.istore_n 2, 1) := by decide +kernel
theorem dX8_gains_6 : decode cX8_gains 6 = .ok (.iload_n 2, 1) := by decide +kernel
theorem dX8_gains_7 : decode cX8_gains 7 = .ok (.ifCond .eq 12, 3) := by decide +kernel
theorem dX8_gains_10 : decode cX8_gains 10 = .ok (.aload_n 0, 1) := by decide +kernel
theorem dX8_gains_11 : decode cX8_gains 11 = .ok (.iload_n 2, 1) := by decide +kernel
theorem dX8_gains_12 : decode cX8_gains 12 = .ok (.invokevirtual 83, 3) := by decide +kernel
theorem dX8_gains_15 : decode cX8_gains 15 = .ok (.i2l, 1) := by decide +kernel
theorem dX8_gains_16 : decode cX8_gains 16 = .ok (.goto 20, 3) := by decide +kernel
theorem dX8_gains_19 : decode cX8_gains 19 = .ok (.aload_n 0, 1) := by decide +kernel
theorem dX8_gains_20 : decode cX8_gains 20 = .ok (.aload_n 0, 1) := by decide +kernel
theorem dX8_gains_21 : decode cX8_gains 21 = .ok (.getfield 68, 3) := by decide +kernel
theorem dX8_gains_24 : decode cX8_gains 24 = .ok (.iload_n 1, 1) := by decide +kernel
theorem dX8_gains_25 : decode cX8_gains 25 = .ok (.aload_n 0, 1) := by decide +kernel
theorem dX8_gains_26 : decode cX8_gains 26 = .ok (.iload_n 1, 1) := by decide +kernel
theorem dX8_gains_27 : decode cX8_gains 27 = .ok (.invokevirtual 343, 3) := by decide +kernel
theorem dX8_gains_30 : decode cX8_gains 30 = .ok (.invokevirtual 346, 3) := by decide +kernel
theorem dX8_gains_33 : decode cX8_gains 33 = .ok (.invokevirtual 142, 3) := by decide +kernel
theorem dX8_gains_36 : decode cX8_gains 36 = .ok (.lreturn, 1) := by decide +kernel
theorem dX8_leastPay_0 : decode cX8_leastPay 0 = .ok (.aload_n 0, 1) := by decide +kernel
theorem dX8_leastPay_1 : decode cX8_leastPay 1 = .ok (.getfield 68, 3) := by decide +kernel
theorem dX8_leastPay_4 : decode cX8_leastPay 4 = .ok (.iload_n 2, 1) := by decide +kernel
theorem dX8_leastPay_5 : decode cX8_leastPay 5 = .ok (.invokevirtual 135, 3) := by decide +kernel
theorem dX8_leastPay_8 : decode cX8_leastPay 8 = .ok (.istore 5, 2) := by decide +kernel
theorem dX8_leastPay_10 : decode cX8_leastPay 10 = .ok (.lload_n 3, 1) := by decide +kernel
theorem dX8_leastPay_11 : decode cX8_leastPay 11 = .ok (.aload_n 0, 1) := by decide +kernel
theorem dX8_leastPay_12 : decode cX8_leastPay 12 = .ok (.getfield 68, 3) := by decide +kernel
theorem dX8_leastPay_15 : decode cX8_leastPay 15 = .ok (.iload_n 1, 1) := by decide +kernel
theorem dX8_leastPay_16 : decode cX8_leastPay 16 = .ok (.iload_n 2, 1) := by decide +kernel
theorem dX8_leastPay_17 : decode cX8_leastPay 17 = .ok (.invokevirtual 356, 3) := by decide +kernel
theorem dX8_leastPay_20 : decode cX8_leastPay 20 = .ok (.ladd, 1) := by decide +kernel
theorem dX8_leastPay_21 : decode cX8_leastPay 21 = .ok (.iload 5, 2) := by decide +kernel
theorem dX8_leastPay_23 : decode cX8_leastPay 23 = .ok (.i2l, 1) := by decide +kernel
theorem dX8_leastPay_24 : decode cX8_leastPay 24 = .ok (.ladd, 1) := by decide +kernel
theorem dX8_leastPay_25 : decode cX8_leastPay 25 = .ok (.lconst 1, 1) := by decide +kernel
theorem dX8_leastPay_26 : decode cX8_leastPay 26 = .ok (.lsub, 1) := by decide +kernel
theorem dX8_leastPay_27 : decode cX8_leastPay 27 = .ok (.iload 5, 2) := by decide +kernel
theorem dX8_leastPay_29 : decode cX8_leastPay 29 = .ok (.i2l, 1) := by decide +kernel
theorem dX8_leastPay_30 : decode cX8_leastPay 30 = .ok (.invokestatic 152, 3) := by decide +kernel
theorem dX8_leastPay_33 : decode cX8_leastPay 33 = .ok (.lstore 6, 2) := by decide +kernel
theorem dX8_leastPay_35 : decode cX8_leastPay 35 = .ok (.lload 6, 2) := by decide +kernel
theorem dX8_leastPay_37 : decode cX8_leastPay 37 = .ok (.ldc2_w 359, 3) := by decide +kernel
theorem dX8_leastPay_40 : decode cX8_leastPay 40 = .ok (.lcmp, 1) := by decide +kernel
theorem dX8_leastPay_41 : decode cX8_leastPay 41 = .ok (.ifCond .le 8, 3) := by decide +kernel
theorem dX8_leastPay_44 : decode cX8_leastPay 44 = .ok (.bipush (-2), 2) := by decide +kernel
theorem dX8_leastPay_46 : decode cX8_leastPay 46 = .ok (.goto 6, 3) := by decide +kernel
theorem dX8_leastPay_49 : decode cX8_leastPay 49 = .ok (.lload 6, 2) := by decide +kernel
theorem dX8_leastPay_51 : decode cX8_leastPay 51 = .ok (.l2i, 1) := by decide +kernel
theorem dX8_leastPay_52 : decode cX8_leastPay 52 = .ok (.ireturn, 1) := by decide +kernel
theorem dX8_price_0 : decode cX8_price 0 = .ok (.aload_n 0, 1) := by decide +kernel
theorem dX8_price_1 : decode cX8_price 1 = .ok (.iload_n 1, 1) := by decide +kernel
theorem dX8_price_2 : decode cX8_price 2 = .ok (.invokevirtual 160, 3) := by decide +kernel
theorem dX8_price_5 : decode cX8_price 5 = .ok (.ifCond .eq 11, 3) := by decide +kernel
theorem dX8_price_8 : decode cX8_price 8 = .ok (.aload_n 0, 1) := by decide +kernel
theorem dX8_price_9 : decode cX8_price 9 = .ok (.iload_n 2, 1) := by decide +kernel
theorem dX8_price_10 : decode cX8_price 10 = .ok (.invokevirtual 321, 3) := by decide +kernel
theorem dX8_price_13 : decode cX8_price 13 = .ok (.ifCond .ne 9, 3) := by decide +kernel
theorem dX8_price_16 : decode cX8_price 16 = .ok (.aload_n 0, 1) := by decide +kernel
theorem dX8_price_17 : decode cX8_price 17 = .ok (.iconst 1, 1) := by decide +kernel
theorem dX8_price_18 : decode cX8_price 18 = .ok (.invokevirtual 83, 3) := by decide +kernel
theorem dX8_price_21 : decode cX8_price 21 = .ok (.ireturn, 1) := by decide +kernel
theorem dX8_price_22 : decode cX8_price 22 = .ok (.aload_n 0, 1) := by decide +kernel
theorem dX8_price_23 : decode cX8_price 23 = .ok (.getfield 68, 3) := by decide +kernel
theorem dX8_price_26 : decode cX8_price 26 = .ok (.getfield 349, 3) := by decide +kernel
theorem dX8_price_29 : decode cX8_price 29 = .ok (.ifCond .ne 10, 3) := by decide +kernel
theorem dX8_price_32 : decode cX8_price 32 = .ok (.aload_n 0, 1) := by decide +kernel
theorem dX8_price_33 : decode cX8_price 33 = .ok (.bipush 6, 2) := by decide +kernel
theorem dX8_price_35 : decode cX8_price 35 = .ok (.invokevirtual 83, 3) := by decide +kernel
theorem dX8_price_38 : decode cX8_price 38 = .ok (.ireturn, 1) := by decide +kernel
theorem dX8_price_39 : decode cX8_price 39 = .ok (.lconst 0, 1) := by decide +kernel
theorem dX8_price_40 : decode cX8_price 40 = .ok (.lstore_n 3, 1) := by decide +kernel
theorem dX8_price_41 : decode cX8_price 41 = .ok (.iconst 0, 1) := by decide +kernel
theorem dX8_price_42 : decode cX8_price 42 = .ok (.istore 5, 2) := by decide +kernel
theorem dX8_price_44 : decode cX8_price 44 = .ok (.iload 5, 2) := by decide +kernel
theorem dX8_price_46 : decode cX8_price 46 = .ok (.aload_n 0, 1) := by decide +kernel
theorem dX8_price_47 : decode cX8_price 47 = .ok (.getfield 68, 3) := by decide +kernel
theorem dX8_price_50 : decode cX8_price 50 = .ok (.getfield 298, 3) := by decide +kernel
theorem dX8_price_53 : decode cX8_price 53 = .ok (.if_icmp .gt 43, 3) := by decide +kernel
theorem dX8_price_56 : decode cX8_price 56 = .ok (.iload 5, 2) := by decide +kernel
theorem dX8_price_58 : decode cX8_price 58 = .ok (.iload_n 2, 1) := by decide +kernel
theorem dX8_price_59 : decode cX8_price 59 = .ok (.if_icmp .eq 31, 3) := by decide +kernel
theorem dX8_price_62 : decode cX8_price 62 = .ok (.lload_n 3, 1) := by decide +kernel
theorem dX8_price_63 : decode cX8_price 63 = .ok (.aload_n 0, 1) := by decide +kernel
theorem dX8_price_64 : decode cX8_price 64 = .ok (.getfield 68, 3) := by decide +kernel
theorem dX8_price_67 : decode cX8_price 67 = .ok (.iload_n 1, 1) := by decide +kernel
theorem dX8_price_68 : decode cX8_price 68 = .ok (.iload 5, 2) := by decide +kernel
theorem dX8_price_70 : decode cX8_price 70 = .ok (.invokevirtual 346, 3) := by decide +kernel
theorem dX8_price_73 : decode cX8_price 73 = .ok (.iload 5, 2) := by decide +kernel
theorem dX8_price_75 : decode cX8_price 75 = .ok (.iload_n 2, 1) := by decide +kernel
theorem dX8_price_76 : decode cX8_price 76 = .ok (.if_icmp .ge 7, 3) := by decide +kernel
theorem dX8_price_79 : decode cX8_price 79 = .ok (.iconst 1, 1) := by decide +kernel
theorem dX8_price_80 : decode cX8_price 80 = .ok (.goto 4, 3) := by decide +kernel
theorem dX8_price_83 : decode cX8_price 83 = .ok (.iconst 0, 1) := by decide +kernel
theorem dX8_price_84 : decode cX8_price 84 = .ok (.i2l, 1) := by decide +kernel
theorem dX8_price_85 : decode cX8_price 85 = .ok (.ladd, 1) := by decide +kernel
theorem dX8_price_86 : decode cX8_price 86 = .ok (.invokestatic 228, 3) := by decide +kernel
theorem dX8_price_89 : decode cX8_price 89 = .ok (.lstore_n 3, 1) := by decide +kernel
theorem dX8_price_90 : decode cX8_price 90 = .ok (.iinc 5 1, 3) := by decide +kernel
theorem dX8_price_93 : decode cX8_price 93 = .ok (.goto (-49), 3) := by decide +kernel
theorem dX8_price_96 : decode cX8_price 96 = .ok (.aload_n 0, 1) := by decide +kernel
theorem dX8_price_97 : decode cX8_price 97 = .ok (.aload_n 0, 1) := by decide +kernel
theorem dX8_price_98 : decode cX8_price 98 = .ok (.iload_n 1, 1) := by decide +kernel
theorem dX8_price_99 : decode cX8_price 99 = .ok (.iload_n 2, 1) := by decide +kernel
theorem dX8_price_100 : decode cX8_price 100 = .ok (.lload_n 3, 1) := by decide +kernel
theorem dX8_price_101 : decode cX8_price 101 = .ok (.invokevirtual 352, 3) := by decide +kernel
theorem dX8_price_104 : decode cX8_price 104 = .ok (.invokevirtual 125, 3) := by decide +kernel
theorem dX8_price_107 : decode cX8_price 107 = .ok (.ireturn, 1) := by decide +kernel
theorem dX8_enough_0 : decode cX8_enough 0 = .ok (.aload_n 0, 1) := by decide +kernel
theorem dX8_enough_1 : decode cX8_enough 1 = .ok (.iload_n 1, 1) := by decide +kernel
theorem dX8_enough_2 : decode cX8_enough 2 = .ok (.invokevirtual 160, 3) := by decide +kernel
theorem dX8_enough_5 : decode cX8_enough 5 = .ok (.ifCond .eq 11, 3) := by decide +kernel
theorem dX8_enough_8 : decode cX8_enough 8 = .ok (.aload_n 0, 1) := by decide +kernel
theorem dX8_enough_9 : decode cX8_enough 9 = .ok (.iload_n 2, 1) := by decide +kernel
theorem dX8_enough_10 : decode cX8_enough 10 = .ok (.invokevirtual 321, 3) := by decide +kernel
theorem dX8_enough_13 : decode cX8_enough 13 = .ok (.ifCond .ne 9, 3) := by decide +kernel
theorem dX8_enough_16 : decode cX8_enough 16 = .ok (.aload_n 0, 1) := by decide +kernel
theorem dX8_enough_17 : decode cX8_enough 17 = .ok (.iconst 1, 1) := by decide +kernel
theorem dX8_enough_18 : decode cX8_enough 18 = .ok (.invokevirtual 83, 3) := by decide +kernel
theorem dX8_enough_21 : decode cX8_enough 21 = .ok (.ireturn, 1) := by decide +kernel
theorem dX8_enough_22 : decode cX8_enough 22 = .ok (.aload_n 0, 1) := by decide +kernel
theorem dX8_enough_23 : decode cX8_enough 23 = .ok (.aload_n 0, 1) := by decide +kernel
theorem dX8_enough_24 : decode cX8_enough 24 = .ok (.iload_n 1, 1) := by decide +kernel
theorem dX8_enough_25 : decode cX8_enough 25 = .ok (.iload_n 2, 1) := by decide +kernel
theorem dX8_enough_26 : decode cX8_enough 26 = .ok (.lconst 1, 1) := by decide +kernel
theorem dX8_enough_27 : decode cX8_enough 27 = .ok (.invokevirtual 352, 3) := by decide +kernel
theorem dX8_enough_30 : decode cX8_enough 30 = .ok (.invokevirtual 125, 3) := by decide +kernel
theorem dX8_enough_33 : decode cX8_enough 33 = .ok (.ireturn, 1) := by decide +kernel
theorem dX8_rates_0 : decode cX8_rates 0 = .ok (.aload_n 0, 1) := by decide +kernel
theorem dX8_rates_1 : decode cX8_rates 1 = .ok (.getfield 98, 3) := by decide +kernel
theorem dX8_rates_4 : decode cX8_rates 4 = .ok (.ifCond .ne 9, 3) := by decide +kernel
theorem dX8_rates_7 : decode cX8_rates 7 = .ok (.aload_n 0, 1) := by decide +kernel
theorem dX8_rates_8 : decode cX8_rates 8 = .ok (.iconst 1, 1) := by decide +kernel
theorem dX8_rates_9 : decode cX8_rates 9 = .ok (.invokevirtual 83, 3) := by decide +kernel
theorem dX8_rates_12 : decode cX8_rates 12 = .ok (.ireturn, 1) := by decide +kernel
theorem dX8_rates_13 : decode cX8_rates 13 = .ok (.aload_n 0, 1) := by decide +kernel
theorem dX8_rates_14 : decode cX8_rates 14 = .ok (.getfield 54, 3) := by decide +kernel
theorem dX8_rates_17 : decode cX8_rates 17 = .ok (.aload_n 0, 1) := by decide +kernel
theorem dX8_rates_18 : decode cX8_rates 18 = .ok (.getfield 68, 3) := by decide +kernel
theorem dX8_rates_21 : decode cX8_rates 21 = .ok (.invokevirtual 361, 3) := by decide +kernel
theorem dX8_rates_24 : decode cX8_rates 24 = .ok (.aload_n 0, 1) := by decide +kernel
theorem dX8_rates_25 : decode cX8_rates 25 = .ok (.aload_n 0, 1) := by decide +kernel
theorem dX8_rates_26 : decode cX8_rates 26 = .ok (.getfield 54, 3) := by decide +kernel
theorem dX8_rates_29 : decode cX8_rates 29 = .ok (.getfield 362, 3) := by decide +kernel
theorem dX8_rates_32 : decode cX8_rates 32 = .ok (.invokevirtual 125, 3) := by decide +kernel
theorem dX8_rates_35 : decode cX8_rates 35 = .ok (.ireturn, 1) := by decide +kernel
theorem dX8_rate_0 : decode cX8_rate 0 = .ok (.aload_n 0, 1) := by decide +kernel
theorem dX8_rate_1 : decode cX8_rate 1 = .ok (.iload_n 1, 1) := by decide +kernel
theorem dX8_rate_2 : decode cX8_rate 2 = .ok (.invokevirtual 321, 3) := by decide +kernel
theorem dX8_rate_5 : decode cX8_rate 5 = .ok (.ifCond .ne 9, 3) := by decide +kernel
theorem dX8_rate_8 : decode cX8_rate 8 = .ok (.aload_n 0, 1) := by decide +kernel
theorem dX8_rate_9 : decode cX8_rate 9 = .ok (.iconst 1, 1) := by decide +kernel
theorem dX8_rate_10 : decode cX8_rate 10 = .ok (.invokevirtual 83, 3) := by decide +kernel
theorem dX8_rate_13 : decode cX8_rate 13 = .ok (.ireturn, 1) := by decide +kernel
theorem dX8_rate_14 : decode cX8_rate 14 = .ok (.aload_n 0, 1) := by decide +kernel
theorem dX8_rate_15 : decode cX8_rate 15 = .ok (.getfield 54, 3) := by decide +kernel
theorem dX8_rate_18 : decode cX8_rate 18 = .ok (.aload_n 0, 1) := by decide +kernel
theorem dX8_rate_19 : decode cX8_rate 19 = .ok (.getfield 68, 3) := by decide +kernel
theorem dX8_rate_22 : decode cX8_rate 22 = .ok (.invokevirtual 361, 3) := by decide +kernel
theorem dX8_rate_25 : decode cX8_rate 25 = .ok (.aload_n 0, 1) := by decide +kernel
theorem dX8_rate_26 : decode cX8_rate 26 = .ok (.aload_n 0, 1) := by decide +kernel
theorem dX8_rate_27 : decode cX8_rate 27 = .ok (.getfield 54, 3) := by decide +kernel
theorem dX8_rate_30 : decode cX8_rate 30 = .ok (.iload_n 1, 1) := by decide +kernel
theorem dX8_rate_31 : decode cX8_rate 31 = .ok (.invokevirtual 365, 3) := by decide +kernel
theorem dX8_rate_34 : decode cX8_rate 34 = .ok (.invokevirtual 125, 3) := by decide +kernel
theorem dX8_rate_37 : decode cX8_rate 37 = .ok (.ireturn, 1) := by decide +kernel
theorem dX8_hundreds_0 : decode cX8_hundreds 0 = .ok (.lconst 1, 1) := by decide +kernel
theorem dX8_hundreds_1 : decode cX8_hundreds 1 = .ok (.lstore_n 1, 1) := by decide +kernel
theorem dX8_hundreds_2 : decode cX8_hundreds 2 = .ok (.iconst 0, 1) := by decide +kernel
theorem dX8_hundreds_3 : decode cX8_hundreds 3 = .ok (.istore_n 3, 1) := by decide +kernel
theorem dX8_hundreds_4 : decode cX8_hundreds 4 = .ok (.iload_n 3, 1) := by decide +kernel
theorem dX8_hundreds_5 : decode cX8_hundreds 5 = .ok (.iload_n 0, 1) := by decide +kernel
theorem dX8_hundreds_6 : decode cX8_hundreds 6 = .ok (.if_icmp .ge 15, 3) := by decide +kernel
theorem dX8_hundreds_9 : decode cX8_hundreds 9 = .ok (.lload_n 1, 1) := by decide +kernel
theorem dX8_hundreds_10 : decode cX8_hundreds 10 = .ok (.ldc2_w 374, 3) := by decide +kernel
theorem dX8_hundreds_13 : decode cX8_hundreds 13 = .ok (.lmul, 1) := by decide +kernel
theorem dX8_hundreds_14 : decode cX8_hundreds 14 = .ok (.lstore_n 1, 1) := by decide +kernel
theorem dX8_hundreds_15 : decode cX8_hundreds 15 = .ok (.iinc 3 1, 3) := by decide +kernel
theorem dX8_hundreds_18 : decode cX8_hundreds 18 = .ok (.goto (-14), 3) := by decide +kernel
theorem dX8_hundreds_21 : decode cX8_hundreds 21 = .ok (.lload_n 1, 1) := by decide +kernel
theorem dX8_hundreds_22 : decode cX8_hundreds 22 = .ok (.lreturn, 1) := by decide +kernel
theorem dX8_wakingParts_0 : decode cX8_wakingParts 0 = .ok (.iload_n 0, 1) := by decide +kernel
theorem dX8_wakingParts_1 : decode cX8_wakingParts 1 = .ok (.ifCond .gt 8, 3) := by decide +kernel
theorem dX8_wakingParts_4 : decode cX8_wakingParts 4 = .ok (.iload_n 1, 1) := by decide +kernel
theorem dX8_wakingParts_5 : decode cX8_wakingParts 5 = .ok (.invokestatic 371, 3) := by decide +kernel
theorem dX8_wakingParts_8 : decode cX8_wakingParts 8 = .ok (.lreturn, 1) := by decide +kernel
theorem dX8_wakingParts_9 : decode cX8_wakingParts 9 = .ok (.iload_n 1, 1) := by decide +kernel
theorem dX8_wakingParts_10 : decode cX8_wakingParts 10 = .ok (.ifCond .gt 5, 3) := by decide +kernel
theorem dX8_wakingParts_13 : decode cX8_wakingParts 13 = .ok (.lconst 0, 1) := by decide +kernel
theorem dX8_wakingParts_14 : decode cX8_wakingParts 14 = .ok (.lreturn, 1) := by decide +kernel
theorem dX8_wakingParts_15 : decode cX8_wakingParts 15 = .ok (.iload_n 2, 1) := by decide +kernel
theorem dX8_wakingParts_16 : decode cX8_wakingParts 16 = .ok (.i2l, 1) := by decide +kernel
theorem dX8_wakingParts_17 : decode cX8_wakingParts 17 = .ok (.iload_n 0, 1) := by decide +kernel
theorem dX8_wakingParts_18 : decode cX8_wakingParts 18 = .ok (.iconst 1, 1) := by decide +kernel
theorem dX8_wakingParts_19 : decode cX8_wakingParts 19 = .ok (.isub, 1) := by decide +kernel
theorem dX8_wakingParts_20 : decode cX8_wakingParts 20 = .ok (.iload_n 1, 1) := by decide +kernel
theorem dX8_wakingParts_21 : decode cX8_wakingParts 21 = .ok (.iconst 1, 1) := by decide +kernel
theorem dX8_wakingParts_22 : decode cX8_wakingParts 22 = .ok (.isub, 1) := by decide +kernel
theorem dX8_wakingParts_23 : decode cX8_wakingParts 23 = .ok (.iload_n 2, 1) := by decide +kernel
theorem dX8_wakingParts_24 : decode cX8_wakingParts 24 = .ok (.invokestatic 368, 3) := by decide +kernel
theorem dX8_wakingParts_27 : decode cX8_wakingParts 27 = .ok (.lmul, 1) := by decide +kernel
theorem dX8_wakingParts_28 : decode cX8_wakingParts 28 = .ok (.bipush 100, 2) := by decide +kernel
theorem dX8_wakingParts_30 : decode cX8_wakingParts 30 = .ok (.iload_n 2, 1) := by decide +kernel
theorem dX8_wakingParts_31 : decode cX8_wakingParts 31 = .ok (.isub, 1) := by decide +kernel
theorem dX8_wakingParts_32 : decode cX8_wakingParts 32 = .ok (.i2l, 1) := by decide +kernel
theorem dX8_wakingParts_33 : decode cX8_wakingParts 33 = .ok (.iload_n 0, 1) := by decide +kernel
theorem dX8_wakingParts_34 : decode cX8_wakingParts 34 = .ok (.iload_n 1, 1) := by decide +kernel
theorem dX8_wakingParts_35 : decode cX8_wakingParts 35 = .ok (.iconst 1, 1) := by decide +kernel
theorem dX8_wakingParts_36 : decode cX8_wakingParts 36 = .ok (.isub, 1) := by decide +kernel
theorem dX8_wakingParts_37 : decode cX8_wakingParts 37 = .ok (.iload_n 2, 1) := by decide +kernel
theorem dX8_wakingParts_38 : decode cX8_wakingParts 38 = .ok (.invokestatic 368, 3) := by decide +kernel
theorem dX8_wakingParts_41 : decode cX8_wakingParts 41 = .ok (.lmul, 1) := by decide +kernel
theorem dX8_wakingParts_42 : decode cX8_wakingParts 42 = .ok (.ladd, 1) := by decide +kernel
theorem dX8_wakingParts_43 : decode cX8_wakingParts 43 = .ok (.lreturn, 1) := by decide +kernel
theorem dX8_waking_0 : decode cX8_waking 0 = .ok (.aload_n 0, 1) := by decide +kernel
theorem dX8_waking_1 : decode cX8_waking 1 = .ok (.iload_n 1, 1) := by decide +kernel
theorem dX8_waking_2 : decode cX8_waking 2 = .ok (.invokevirtual 160, 3) := by decide +kernel
theorem dX8_waking_5 : decode cX8_waking 5 = .ok (.ifCond .eq 11, 3) := by decide +kernel
theorem dX8_waking_8 : decode cX8_waking 8 = .ok (.aload_n 0, 1) := by decide +kernel
theorem dX8_waking_9 : decode cX8_waking 9 = .ok (.iload_n 2, 1) := by decide +kernel
theorem dX8_waking_10 : decode cX8_waking 10 = .ok (.invokevirtual 131, 3) := by decide +kernel
theorem dX8_waking_13 : decode cX8_waking 13 = .ok (.ifCond .ne 10, 3) := by decide +kernel
theorem dX8_waking_16 : decode cX8_waking 16 = .ok (.aload_n 0, 1) := by decide +kernel
theorem dX8_waking_17 : decode cX8_waking 17 = .ok (.iconst 1, 1) := by decide +kernel
theorem dX8_waking_18 : decode cX8_waking 18 = .ok (.invokevirtual 83, 3) := by decide +kernel
theorem dX8_waking_21 : decode cX8_waking 21 = .ok (.i2l, 1) := by decide +kernel
theorem dX8_waking_22 : decode cX8_waking 22 = .ok (.lreturn, 1) := by decide +kernel
theorem dX8_waking_23 : decode cX8_waking 23 = .ok (.iload_n 3, 1) := by decide +kernel
theorem dX8_waking_24 : decode cX8_waking 24 = .ok (.ifCond .lt 9, 3) := by decide +kernel
theorem dX8_waking_27 : decode cX8_waking 27 = .ok (.iload_n 3, 1) := by decide +kernel
theorem dX8_waking_28 : decode cX8_waking 28 = .ok (.bipush 8, 2) := by decide +kernel
theorem dX8_waking_30 : decode cX8_waking 30 = .ok (.if_icmp .le 10, 3) := by decide +kernel
theorem dX8_waking_33 : decode cX8_waking 33 = .ok (.aload_n 0, 1) := by decide +kernel
theorem dX8_waking_34 : decode cX8_waking 34 = .ok (.iconst 2, 1) := by decide +kernel
theorem dX8_waking_35 : decode cX8_waking 35 = .ok (.invokevirtual 83, 3) := by decide +kernel
theorem dX8_waking_38 : decode cX8_waking 38 = .ok (.i2l, 1) := by decide +kernel
theorem dX8_waking_39 : decode cX8_waking 39 = .ok (.lreturn, 1) := by decide +kernel
theorem dX8_waking_40 : decode cX8_waking 40 = .ok (.iload_n 2, 1) := by decide +kernel
theorem dX8_waking_41 : decode cX8_waking 41 = .ok (.iload_n 3, 1) := by decide +kernel
theorem dX8_waking_42 : decode cX8_waking 42 = .ok (.aload_n 0, 1) := by decide +kernel
theorem dX8_waking_43 : decode cX8_waking 43 = .ok (.getfield 68, 3) := by decide +kernel
theorem dX8_waking_46 : decode cX8_waking 46 = .ok (.getfield 116, 3) := by decide +kernel
theorem dX8_waking_49 : decode cX8_waking 49 = .ok (.iload_n 1, 1) := by decide +kernel
theorem dX8_waking_50 : decode cX8_waking 50 = .ok (.iconst 3, 1) := by decide +kernel
theorem dX8_waking_51 : decode cX8_waking 51 = .ok (.invokevirtual 177, 3) := by decide +kernel
theorem dX8_waking_54 : decode cX8_waking 54 = .ok (.invokestatic 368, 3) := by decide +kernel
theorem dX8_waking_57 : decode cX8_waking 57 = .ok (.lstore 5, 2) := by decide +kernel
theorem dX8_waking_59 : decode cX8_waking 59 = .ok (.aload_n 0, 1) := by decide +kernel
theorem dX8_waking_60 : decode cX8_waking 60 = .ok (.lload 5, 2) := by decide +kernel
theorem dX8_waking_62 : decode cX8_waking 62 = .ok (.iload_n 3, 1) := by decide +kernel
theorem dX8_waking_63 : decode cX8_waking 63 = .ok (.invokestatic 371, 3) := by decide +kernel
theorem dX8_waking_66 : decode cX8_waking 66 = .ok (.iload 4, 2) := by decide +kernel
theorem dX8_waking_68 : decode cX8_waking 68 = .ok (.invokestatic 156, 3) := by decide +kernel
theorem dX8_waking_71 : decode cX8_waking 71 = .ok (.invokevirtual 142, 3) := by decide +kernel
theorem dX8_waking_74 : decode cX8_waking 74 = .ok (.lreturn, 1) := by decide +kernel
theorem dX8_mean_0 : decode cX8_mean 0 = .ok (.aload_n 0, 1) := by decide +kernel
theorem dX8_mean_1 : decode cX8_mean 1 = .ok (.iload_n 1, 1) := by decide +kernel
theorem dX8_mean_2 : decode cX8_mean 2 = .ok (.invokevirtual 160, 3) := by decide +kernel
theorem dX8_mean_5 : decode cX8_mean 5 = .ok (.ifCond .eq 11, 3) := by decide +kernel
theorem dX8_mean_8 : decode cX8_mean 8 = .ok (.aload_n 0, 1) := by decide +kernel
theorem dX8_mean_9 : decode cX8_mean 9 = .ok (.iload_n 2, 1) := by decide +kernel
theorem dX8_mean_10 : decode cX8_mean 10 = .ok (.invokevirtual 131, 3) := by decide +kernel
theorem dX8_mean_13 : decode cX8_mean 13 = .ok (.ifCond .ne 10, 3) := by decide +kernel
theorem dX8_mean_16 : decode cX8_mean 16 = .ok (.aload_n 0, 1) := by decide +kernel
theorem dX8_mean_17 : decode cX8_mean 17 = .ok (.iconst 1, 1) := by decide +kernel
theorem dX8_mean_18 : decode cX8_mean 18 = .ok (.invokevirtual 83, 3) := by decide +kernel
theorem dX8_mean_21 : decode cX8_mean 21 = .ok (.i2l, 1) := by decide +kernel
theorem dX8_mean_22 : decode cX8_mean 22 = .ok (.lreturn, 1) := by decide +kernel
theorem dX8_mean_23 : decode cX8_mean 23 = .ok (.aload_n 0, 1) := by decide +kernel
theorem dX8_mean_24 : decode cX8_mean 24 = .ok (.getfield 68, 3) := by decide +kernel
theorem dX8_mean_27 : decode cX8_mean 27 = .ok (.getfield 116, 3) := by decide +kernel
theorem dX8_mean_30 : decode cX8_mean 30 = .ok (.iload_n 1, 1) := by decide +kernel
theorem dX8_mean_31 : decode cX8_mean 31 = .ok (.iconst 3, 1) := by decide +kernel
theorem dX8_mean_32 : decode cX8_mean 32 = .ok (.invokevirtual 177, 3) := by decide +kernel
theorem dX8_mean_35 : decode cX8_mean 35 = .ok (.istore 4, 2) := by decide +kernel
theorem dX8_mean_37 : decode cX8_mean 37 = .ok (.iload_n 2, 1) := by decide +kernel
theorem dX8_mean_38 : decode cX8_mean 38 = .ok (.ifCond .le 16, 3) := by decide +kernel
theorem dX8_mean_41 : decode cX8_mean 41 = .ok (.iload 4, 2) := by decide +kernel
theorem dX8_mean_43 : decode cX8_mean 43 = .ok (.ifCond .ne 11, 3) := by decide +kernel
theorem dX8_mean_46 : decode cX8_mean 46 = .ok (.aload_n 0, 1) := by decide +kernel
theorem dX8_mean_47 : decode cX8_mean 47 = .ok (.bipush (-2), 2) := by decide +kernel
theorem dX8_mean_49 : decode cX8_mean 49 = .ok (.invokevirtual 125, 3) := by decide +kernel
theorem dX8_mean_52 : decode cX8_mean 52 = .ok (.i2l, 1) := by decide +kernel
theorem dX8_mean_53 : decode cX8_mean 53 = .ok (.lreturn, 1) := by decide +kernel
theorem dX8_mean_54 : decode cX8_mean 54 = .ok (.aload_n 0, 1) := by decide +kernel
theorem dX8_mean_55 : decode cX8_mean 55 = .ok (.ldc2_w 374, 3) := by decide +kernel
theorem dX8_mean_58 : decode cX8_mean 58 = .ok (.iload_n 2, 1) := by decide +kernel
theorem dX8_mean_59 : decode cX8_mean 59 = .ok (.i2l, 1) := by decide +kernel
theorem dX8_mean_60 : decode cX8_mean 60 = .ok (.lmul, 1) := by decide +kernel
theorem dX8_mean_61 : decode cX8_mean 61 = .ok (.iload 4, 2) := by decide +kernel
theorem dX8_mean_63 : decode cX8_mean 63 = .ok (.i2l, 1) := by decide +kernel
theorem dX8_mean_64 : decode cX8_mean 64 = .ok (.iload_n 3, 1) := by decide +kernel
theorem dX8_mean_65 : decode cX8_mean 65 = .ok (.invokestatic 156, 3) := by decide +kernel
theorem dX8_mean_68 : decode cX8_mean 68 = .ok (.invokevirtual 142, 3) := by decide +kernel
theorem dX8_mean_71 : decode cX8_mean 71 = .ok (.lreturn, 1) := by decide +kernel
theorem dX8_keepAct_0 : decode cX8_keepAct 0 = .ok (.aload_n 0, 1) := by decide +kernel
theorem dX8_keepAct_1 : decode cX8_keepAct 1 = .ok (.getfield 110, 3) := by decide +kernel
theorem dX8_keepAct_4 : decode cX8_keepAct 4 = .ok (.bipush 12, 2) := by decide +kernel
theorem dX8_keepAct_6 : decode cX8_keepAct 6 = .ok (.if_icmp .lt 52, 3) := by decide +kernel
theorem dX8_keepAct_9 : decode cX8_keepAct 9 = .ok (.aload_n 0, 1) := by decide +kernel
theorem dX8_keepAct_10 : decode cX8_keepAct 10 = .ok (.getfield 58, 3) := by decide +kernel
theorem dX8_keepAct_13 : decode cX8_keepAct 13 = .ok (.iconst 0, 1) := by decide +kernel
theorem dX8_keepAct_14 : decode cX8_keepAct 14 = .ok (.aaload, 1) := by decide +kernel
theorem dX8_keepAct_15 : decode cX8_keepAct 15 = .ok (.astore_n 1, 1) := by decide +kernel
theorem dX8_keepAct_16 : decode cX8_keepAct 16 = .ok (.iconst 1, 1) := by decide +kernel
theorem dX8_keepAct_17 : decode cX8_keepAct 17 = .ok (.istore_n 2, 1) := by decide +kernel
theorem dX8_keepAct_18 : decode cX8_keepAct 18 = .ok (.iload_n 2, 1) := by decide +kernel
theorem dX8_keepAct_19 : decode cX8_keepAct 19 = .ok (.bipush 12, 2) := by decide +kernel
theorem dX8_keepAct_21 : decode cX8_keepAct 21 = .ok (.if_icmp .ge 23, 3) := by decide +kernel
theorem dX8_keepAct_24 : decode cX8_keepAct 24 = .ok (.aload_n 0, 1) := by decide +kernel
theorem dX8_keepAct_25 : decode cX8_keepAct 25 = .ok (.getfield 58, 3) := by decide +kernel
theorem dX8_keepAct_28 : decode cX8_keepAct 28 = .ok (.iload_n 2, 1) := by decide +kernel
theorem dX8_keepAct_29 : decode cX8_keepAct 29 = .ok (.iconst 1, 1) := by decide +kernel
theorem dX8_keepAct_30 : decode cX8_keepAct 30 = .ok (.isub, 1) := by decide +kernel
theorem dX8_keepAct_31 : decode cX8_keepAct 31 = .ok (.aload_n 0, 1) := by decide +kernel
theorem dX8_keepAct_32 : decode cX8_keepAct 32 = .ok (.getfield 58, 3) := by decide +kernel
theorem dX8_keepAct_35 : decode cX8_keepAct 35 = .ok (.iload_n 2, 1) := by decide +kernel
theorem dX8_keepAct_36 : decode cX8_keepAct 36 = .ok (.aaload, 1) := by decide +kernel
theorem dX8_keepAct_37 : decode cX8_keepAct 37 = .ok (.aastore, 1) := by decide +kernel
theorem dX8_keepAct_38 : decode cX8_keepAct 38 = .ok (.iinc 2 1, 3) := by decide +kernel
theorem dX8_keepAct_41 : decode cX8_keepAct 41 = .ok (.goto (-23), 3) := by decide +kernel
theorem dX8_keepAct_44 : decode cX8_keepAct 44 = .ok (.aload_n 0, 1) := by decide +kernel
theorem dX8_keepAct_45 : decode cX8_keepAct 45 = .ok (.getfield 58, 3) := by decide +kernel
theorem dX8_keepAct_48 : decode cX8_keepAct 48 = .ok (.bipush 11, 2) := by decide +kernel
theorem dX8_keepAct_50 : decode cX8_keepAct 50 = .ok (.aload_n 1, 1) := by decide +kernel
theorem dX8_keepAct_51 : decode cX8_keepAct 51 = .ok (.aastore, 1) := by decide +kernel
theorem dX8_keepAct_52 : decode cX8_keepAct 52 = .ok (.aload_n 0, 1) := by decide +kernel
theorem dX8_keepAct_53 : decode cX8_keepAct 53 = .ok (.bipush 11, 2) := by decide +kernel
theorem dX8_keepAct_55 : decode cX8_keepAct 55 = .ok (.putfield 110, 3) := by decide +kernel
theorem dX8_keepAct_58 : decode cX8_keepAct 58 = .ok (.aload_n 0, 1) := by decide +kernel
theorem dX8_keepAct_59 : decode cX8_keepAct 59 = .ok (.getfield 58, 3) := by decide +kernel
theorem dX8_keepAct_62 : decode cX8_keepAct 62 = .ok (.aload_n 0, 1) := by decide +kernel
theorem dX8_keepAct_63 : decode cX8_keepAct 63 = .ok (.getfield 110, 3) := by decide +kernel
theorem dX8_keepAct_66 : decode cX8_keepAct 66 = .ok (.aaload, 1) := by decide +kernel
theorem dX8_keepAct_67 : decode cX8_keepAct 67 = .ok (.aload_n 0, 1) := by decide +kernel
theorem dX8_keepAct_68 : decode cX8_keepAct 68 = .ok (.getfield 23, 3) := by decide +kernel
theorem dX8_keepAct_71 : decode cX8_keepAct 71 = .ok (.invokevirtual 220, 3) := by decide +kernel
theorem dX8_keepAct_74 : decode cX8_keepAct 74 = .ok (.aload_n 0, 1) := by decide +kernel
theorem dX8_keepAct_75 : decode cX8_keepAct 75 = .ok (.dup, 1) := by decide +kernel
theorem dX8_keepAct_76 : decode cX8_keepAct 76 = .ok (.getfield 110, 3) := by decide +kernel
theorem dX8_keepAct_79 : decode cX8_keepAct 79 = .ok (.iconst 1, 1) := by decide +kernel
theorem dX8_keepAct_80 : decode cX8_keepAct 80 = .ok (.iadd, 1) := by decide +kernel
theorem dX8_keepAct_81 : decode cX8_keepAct 81 = .ok (.putfield 110, 3) := by decide +kernel
theorem dX8_keepAct_84 : decode cX8_keepAct 84 = .ok (.return_, 1) := by decide +kernel
theorem dX8_pass_0 : decode cX8_pass 0 = .ok (.aload_n 0, 1) := by decide +kernel
theorem dX8_pass_1 : decode cX8_pass 1 = .ok (.iload_n 1, 1) := by decide +kernel
theorem dX8_pass_2 : decode cX8_pass 2 = .ok (.invokevirtual 131, 3) := by decide +kernel
theorem dX8_pass_5 : decode cX8_pass 5 = .ok (.ifCond .ne 9, 3) := by decide +kernel
theorem dX8_pass_8 : decode cX8_pass 8 = .ok (.aload_n 0, 1) := by decide +kernel
theorem dX8_pass_9 : decode cX8_pass 9 = .ok (.iconst 1, 1) := by decide +kernel
theorem dX8_pass_10 : decode cX8_pass 10 = .ok (.invokevirtual 83, 3) := by decide +kernel
theorem dX8_pass_13 : decode cX8_pass 13 = .ok (.ireturn, 1) := by decide +kernel
theorem dX8_pass_14 : decode cX8_pass 14 = .ok (.iload_n 2, 1) := by decide +kernel
theorem dX8_pass_15 : decode cX8_pass 15 = .ok (.iconst 1, 1) := by decide +kernel
theorem dX8_pass_16 : decode cX8_pass 16 = .ok (.if_icmp .lt 10, 3) := by decide +kernel
theorem dX8_pass_19 : decode cX8_pass 19 = .ok (.iload_n 2, 1) := by decide +kernel
theorem dX8_pass_20 : decode cX8_pass 20 = .ok (.sipush 999, 3) := by decide +kernel
theorem dX8_pass_23 : decode cX8_pass 23 = .ok (.if_icmp .le 9, 3) := by decide +kernel
theorem dX8_pass_26 : decode cX8_pass 26 = .ok (.aload_n 0, 1) := by decide +kernel
theorem dX8_pass_27 : decode cX8_pass 27 = .ok (.iconst 2, 1) := by decide +kernel
theorem dX8_pass_28 : decode cX8_pass 28 = .ok (.invokevirtual 83, 3) := by decide +kernel
theorem dX8_pass_31 : decode cX8_pass 31 = .ok (.ireturn, 1) := by decide +kernel
theorem dX8_pass_32 : decode cX8_pass 32 = .ok (.aload_n 0, 1) := by decide +kernel
theorem dX8_pass_33 : decode cX8_pass 33 = .ok (.getfield 23, 3) := by decide +kernel
theorem dX8_pass_36 : decode cX8_pass 36 = .ok (.getfield 145, 3) := by decide +kernel
theorem dX8_pass_39 : decode cX8_pass 39 = .ok (.iload_n 2, 1) := by decide +kernel
theorem dX8_pass_40 : decode cX8_pass 40 = .ok (.i2l, 1) := by decide +kernel
theorem dX8_pass_41 : decode cX8_pass 41 = .ok (.aload_n 0, 1) := by decide +kernel
theorem dX8_pass_42 : decode cX8_pass 42 = .ok (.getfield 68, 3) := by decide +kernel
theorem dX8_pass_45 : decode cX8_pass 45 = .ok (.iload_n 1, 1) := by decide +kernel
theorem dX8_pass_46 : decode cX8_pass 46 = .ok (.invokevirtual 149, 3) := by decide +kernel
theorem dX8_pass_49 : decode cX8_pass 49 = .ok (.i2l, 1) := by decide +kernel
theorem dX8_pass_50 : decode cX8_pass 50 = .ok (.lmul, 1) := by decide +kernel
theorem dX8_pass_51 : decode cX8_pass 51 = .ok (.ladd, 1) := by decide +kernel
theorem dX8_pass_52 : decode cX8_pass 52 = .ok (.lstore_n 3, 1) := by decide +kernel
theorem dX8_pass_53 : decode cX8_pass 53 = .ok (.lload_n 3, 1) := by decide +kernel
theorem dX8_pass_54 : decode cX8_pass 54 = .ok (.ldc2_w 376, 3) := by decide +kernel
theorem dX8_pass_57 : decode cX8_pass 57 = .ok (.aload_n 0, 1) := by decide +kernel
theorem dX8_pass_58 : decode cX8_pass 58 = .ok (.getfield 68, 3) := by decide +kernel
theorem dX8_pass_61 : decode cX8_pass 61 = .ok (.invokevirtual 185, 3) := by decide +kernel
theorem dX8_pass_64 : decode cX8_pass 64 = .ok (.i2l, 1) := by decide +kernel
theorem dX8_pass_65 : decode cX8_pass 65 = .ok (.lmul, 1) := by decide +kernel
theorem dX8_pass_66 : decode cX8_pass 66 = .ok (.lcmp, 1) := by decide +kernel
theorem dX8_pass_67 : decode cX8_pass 67 = .ok (.ifCond .le 9, 3) := by decide +kernel
theorem dX8_pass_70 : decode cX8_pass 70 = .ok (.aload_n 0, 1) := by decide +kernel
theorem dX8_pass_71 : decode cX8_pass 71 = .ok (.iconst 3, 1) := by decide +kernel
theorem dX8_pass_72 : decode cX8_pass 72 = .ok (.invokevirtual 83, 3) := by decide +kernel
theorem dX8_pass_75 : decode cX8_pass 75 = .ok (.ireturn, 1) := by decide +kernel
theorem dX8_pass_76 : decode cX8_pass 76 = .ok (.aload_n 0, 1) := by decide +kernel
theorem dX8_pass_77 : decode cX8_pass 77 = .ok (.invokevirtual 378, 3) := by decide +kernel
theorem dX8_pass_80 : decode cX8_pass 80 = .ok (.aload_n 0, 1) := by decide +kernel
theorem dX8_pass_81 : decode cX8_pass 81 = .ok (.getfield 23, 3) := by decide +kernel
theorem dX8_pass_84 : decode cX8_pass 84 = .ok (.aload_n 0, 1) := by decide +kernel
theorem dX8_pass_85 : decode cX8_pass 85 = .ok (.getfield 68, 3) := by decide +kernel
theorem dX8_pass_88 : decode cX8_pass 88 = .ok (.lload_n 3, 1) := by decide +kernel
theorem dX8_pass_89 : decode cX8_pass 89 = .ok (.invokevirtual 233, 3) := by decide +kernel
theorem dX8_pass_92 : decode cX8_pass 92 = .ok (.aload_n 0, 1) := by decide +kernel
theorem dX8_pass_93 : decode cX8_pass 93 = .ok (.aload_n 0, 1) := by decide +kernel
theorem dX8_pass_94 : decode cX8_pass 94 = .ok (.iconst 0, 1) := by decide +kernel
theorem dX8_pass_95 : decode cX8_pass 95 = .ok (.invokevirtual 138, 3) := by decide +kernel
theorem dX8_pass_98 : decode cX8_pass 98 = .ok (.l2i, 1) := by decide +kernel
theorem dX8_pass_99 : decode cX8_pass 99 = .ok (.invokevirtual 125, 3) := by decide +kernel
theorem dX8_pass_102 : decode cX8_pass 102 = .ok (.ireturn, 1) := by decide +kernel
theorem dX8_isHead_0 : decode cX8_isHead 0 = .ok (.aload_n 0, 1) := by decide +kernel
theorem dX8_isHead_1 : decode cX8_isHead 1 = .ok (.getfield 98, 3) := by decide +kernel
theorem dX8_isHead_4 : decode cX8_isHead 4 = .ok (.ifCond .eq 22, 3) := by decide +kernel
theorem dX8_isHead_7 : decode cX8_isHead 7 = .ok (.iload_n 1, 1) := by decide +kernel
theorem dX8_isHead_8 : decode cX8_isHead 8 = .ok (.ifCond .lt 18, 3) := by decide +kernel
theorem dX8_isHead_11 : decode cX8_isHead 11 = .ok (.iload_n 1, 1) := by decide +kernel
theorem dX8_isHead_12 : decode cX8_isHead 12 = .ok (.aload_n 0, 1) := by decide +kernel
theorem dX8_isHead_13 : decode cX8_isHead 13 = .ok (.getfield 68, 3) := by decide +kernel
theorem dX8_isHead_16 : decode cX8_isHead 16 = .ok (.getfield 331, 3) := by decide +kernel
theorem dX8_isHead_19 : decode cX8_isHead 19 = .ok (.if_icmp .ge 7, 3) := by decide +kernel
theorem dX8_isHead_22 : decode cX8_isHead 22 = .ok (.iconst 1, 1) := by decide +kernel
theorem dX8_isHead_23 : decode cX8_isHead 23 = .ok (.goto 4, 3) := by decide +kernel
theorem dX8_isHead_26 : decode cX8_isHead 26 = .ok (.iconst 0, 1) := by decide +kernel
theorem dX8_isHead_27 : decode cX8_isHead 27 = .ok (.ireturn, 1) := by decide +kernel
theorem dX8_lie_0 : decode cX8_lie 0 = .ok (.aload_n 0, 1) := by decide +kernel
theorem dX8_lie_1 : decode cX8_lie 1 = .ok (.iload_n 1, 1) := by decide +kernel
theorem dX8_lie_2 : decode cX8_lie 2 = .ok (.invokevirtual 160, 3) := by decide +kernel
theorem dX8_lie_5 : decode cX8_lie 5 = .ok (.ifCond .eq 11, 3) := by decide +kernel
theorem dX8_lie_8 : decode cX8_lie 8 = .ok (.aload_n 0, 1) := by decide +kernel
theorem dX8_lie_9 : decode cX8_lie 9 = .ok (.iload_n 2, 1) := by decide +kernel
theorem dX8_lie_10 : decode cX8_lie 10 = .ok (.invokevirtual 381, 3) := by decide +kernel
theorem dX8_lie_13 : decode cX8_lie 13 = .ok (.ifCond .ne 9, 3) := by decide +kernel
theorem dX8_lie_16 : decode cX8_lie 16 = .ok (.aload_n 0, 1) := by decide +kernel
theorem dX8_lie_17 : decode cX8_lie 17 = .ok (.iconst 1, 1) := by decide +kernel
theorem dX8_lie_18 : decode cX8_lie 18 = .ok (.invokevirtual 83, 3) := by decide +kernel
theorem dX8_lie_21 : decode cX8_lie 21 = .ok (.ireturn, 1) := by decide +kernel
theorem dX8_lie_22 : decode cX8_lie 22 = .ok (.aload_n 0, 1) := by decide +kernel
theorem dX8_lie_23 : decode cX8_lie 23 = .ok (.getfield 23, 3) := by decide +kernel
theorem dX8_lie_26 : decode cX8_lie 26 = .ok (.getfield 163, 3) := by decide +kernel
theorem dX8_lie_29 : decode cX8_lie 29 = .ok (.iload_n 1, 1) := by decide +kernel
theorem dX8_lie_30 : decode cX8_lie 30 = .ok (.iaload, 1) := by decide +kernel
theorem dX8_lie_31 : decode cX8_lie 31 = .ok (.ifCond .le 20, 3) := by decide +kernel
theorem dX8_lie_34 : decode cX8_lie 34 = .ok (.aload_n 0, 1) := by decide +kernel
theorem dX8_lie_35 : decode cX8_lie 35 = .ok (.getfield 23, 3) := by decide +kernel
theorem dX8_lie_38 : decode cX8_lie 38 = .ok (.getfield 167, 3) := by decide +kernel
theorem dX8_lie_41 : decode cX8_lie 41 = .ok (.iload_n 1, 1) := by decide +kernel
theorem dX8_lie_42 : decode cX8_lie 42 = .ok (.iaload, 1) := by decide +kernel
theorem dX8_lie_43 : decode cX8_lie 43 = .ok (.iload_n 2, 1) := by decide +kernel
theorem dX8_lie_44 : decode cX8_lie 44 = .ok (.if_icmp .eq 7, 3) := by decide +kernel
theorem dX8_lie_47 : decode cX8_lie 47 = .ok (.iconst 1, 1) := by decide +kernel
theorem dX8_lie_48 : decode cX8_lie 48 = .ok (.goto 4, 3) := by decide +kernel
theorem dX8_lie_51 : decode cX8_lie 51 = .ok (.iconst 0, 1) := by decide +kernel
theorem dX8_lie_52 : decode cX8_lie 52 = .ok (.istore_n 3, 1) := by decide +kernel
theorem dX8_lie_53 : decode cX8_lie 53 = .ok (.aload_n 0, 1) := by decide +kernel
theorem dX8_lie_54 : decode cX8_lie 54 = .ok (.getfield 23, 3) := by decide +kernel
theorem dX8_lie_57 : decode cX8_lie 57 = .ok (.getfield 163, 3) := by decide +kernel
theorem dX8_lie_60 : decode cX8_lie 60 = .ok (.iload_n 1, 1) := by decide +kernel
theorem dX8_lie_61 : decode cX8_lie 61 = .ok (.iaload, 1) := by decide +kernel
theorem dX8_lie_62 : decode cX8_lie 62 = .ok (.aload_n 0, 1) := by decide +kernel
theorem dX8_lie_63 : decode cX8_lie 63 = .ok (.getfield 68, 3) := by decide +kernel
theorem dX8_lie_66 : decode cX8_lie 66 = .ok (.getfield 298, 3) := by decide +kernel
theorem dX8_lie_69 : decode cX8_lie 69 = .ok (.if_icmp .ge 7, 3) := by decide +kernel
theorem dX8_lie_72 : decode cX8_lie 72 = .ok (.iload_n 3, 1) := by decide +kernel
theorem dX8_lie_73 : decode cX8_lie 73 = .ok (.ifCond .eq 9, 3) := by decide +kernel
theorem dX8_lie_76 : decode cX8_lie 76 = .ok (.aload_n 0, 1) := by decide +kernel
theorem dX8_lie_77 : decode cX8_lie 77 = .ok (.iconst 5, 1) := by decide +kernel
theorem dX8_lie_78 : decode cX8_lie 78 = .ok (.invokevirtual 83, 3) := by decide +kernel
theorem dX8_lie_81 : decode cX8_lie 81 = .ok (.ireturn, 1) := by decide +kernel
theorem dX8_lie_82 : decode cX8_lie 82 = .ok (.aload_n 0, 1) := by decide +kernel
theorem dX8_lie_83 : decode cX8_lie 83 = .ok (.invokevirtual 378, 3) := by decide +kernel
theorem dX8_lie_86 : decode cX8_lie 86 = .ok (.aload_n 0, 1) := by decide +kernel
theorem dX8_lie_87 : decode cX8_lie 87 = .ok (.getfield 23, 3) := by decide +kernel
theorem dX8_lie_90 : decode cX8_lie 90 = .ok (.aload_n 0, 1) := by decide +kernel
theorem dX8_lie_91 : decode cX8_lie 91 = .ok (.getfield 68, 3) := by decide +kernel
theorem dX8_lie_94 : decode cX8_lie 94 = .ok (.iload_n 1, 1) := by decide +kernel
theorem dX8_lie_95 : decode cX8_lie 95 = .ok (.aload_n 0, 1) := by decide +kernel
theorem dX8_lie_96 : decode cX8_lie 96 = .ok (.getfield 23, 3) := by decide +kernel
theorem dX8_lie_99 : decode cX8_lie 99 = .ok (.getfield 163, 3) := by decide +kernel
theorem dX8_lie_102 : decode cX8_lie 102 = .ok (.iload_n 1, 1) := by decide +kernel
theorem dX8_lie_103 : decode cX8_lie 103 = .ok (.iaload, 1) := by decide +kernel
theorem dX8_lie_104 : decode cX8_lie 104 = .ok (.iconst 1, 1) := by decide +kernel
theorem dX8_lie_105 : decode cX8_lie 105 = .ok (.iadd, 1) := by decide +kernel
theorem dX8_lie_106 : decode cX8_lie 106 = .ok (.iload_n 2, 1) := by decide +kernel
theorem dX8_lie_107 : decode cX8_lie 107 = .ok (.invokevirtual 384, 3) := by decide +kernel
theorem dX8_lie_110 : decode cX8_lie 110 = .ok (.aload_n 0, 1) := by decide +kernel
theorem dX8_lie_111 : decode cX8_lie 111 = .ok (.getfield 23, 3) := by decide +kernel
theorem dX8_lie_114 : decode cX8_lie 114 = .ok (.aload_n 0, 1) := by decide +kernel
theorem dX8_lie_115 : decode cX8_lie 115 = .ok (.getfield 68, 3) := by decide +kernel
theorem dX8_lie_118 : decode cX8_lie 118 = .ok (.invokevirtual 388, 3) := by decide +kernel
theorem dX8_lie_121 : decode cX8_lie 121 = .ok (.aload_n 0, 1) := by decide +kernel
theorem dX8_lie_122 : decode cX8_lie 122 = .ok (.aload_n 0, 1) := by decide +kernel
theorem dX8_lie_123 : decode cX8_lie 123 = .ok (.getfield 23, 3) := by decide +kernel
theorem dX8_lie_126 : decode cX8_lie 126 = .ok (.getfield 163, 3) := by decide +kernel
theorem dX8_lie_129 : decode cX8_lie 129 = .ok (.iload_n 1, 1) := by decide +kernel
theorem dX8_lie_130 : decode cX8_lie 130 = .ok (.iaload, 1) := by decide +kernel
theorem dX8_lie_131 : decode cX8_lie 131 = .ok (.invokevirtual 125, 3) := by decide +kernel
theorem dX8_lie_134 : decode cX8_lie 134 = .ok (.ireturn, 1) := by decide +kernel
theorem dX8_wake_0 : decode cX8_wake 0 = .ok (.aload_n 0, 1) := by decide +kernel
theorem dX8_wake_1 : decode cX8_wake 1 = .ok (.iload_n 1, 1) := by decide +kernel
theorem dX8_wake_2 : decode cX8_wake 2 = .ok (.invokevirtual 160, 3) := by decide +kernel
theorem dX8_wake_5 : decode cX8_wake 5 = .ok (.ifCond .ne 9, 3) := by decide +kernel
theorem dX8_wake_8 : decode cX8_wake 8 = .ok (.aload_n 0, 1) := by decide +kernel
theorem dX8_wake_9 : decode cX8_wake 9 = .ok (.iconst 1, 1) := by decide +kernel
theorem dX8_wake_10 : decode cX8_wake 10 = .ok (.invokevirtual 83, 3) := by decide +kernel
theorem dX8_wake_13 : decode cX8_wake 13 = .ok (.ireturn, 1) := by decide +kernel
theorem dX8_wake_14 : decode cX8_wake 14 = .ok (.aload_n 0, 1) := by decide +kernel
theorem dX8_wake_15 : decode cX8_wake 15 = .ok (.getfield 23, 3) := by decide +kernel
theorem dX8_wake_18 : decode cX8_wake 18 = .ok (.getfield 163, 3) := by decide +kernel
theorem dX8_wake_21 : decode cX8_wake 21 = .ok (.iload_n 1, 1) := by decide +kernel
theorem dX8_wake_22 : decode cX8_wake 22 = .ok (.iaload, 1) := by decide +kernel
theorem dX8_wake_23 : decode cX8_wake 23 = .ok (.ifCond .ne 9, 3) := by decide +kernel
theorem dX8_wake_26 : decode cX8_wake 26 = .ok (.aload_n 0, 1) := by decide +kernel
theorem dX8_wake_27 : decode cX8_wake 27 = .ok (.iconst 5, 1) := by decide +kernel
theorem dX8_wake_28 : decode cX8_wake 28 = .ok (.invokevirtual 83, 3) := by decide +kernel
theorem dX8_wake_31 : decode cX8_wake 31 = .ok (.ireturn, 1) := by decide +kernel
theorem dX8_wake_32 : decode cX8_wake 32 = .ok (.aload_n 0, 1) := by decide +kernel
theorem dX8_wake_33 : decode cX8_wake 33 = .ok (.invokevirtual 378, 3) := by decide +kernel
theorem dX8_wake_36 : decode cX8_wake 36 = .ok (.aload_n 0, 1) := by decide +kernel
theorem dX8_wake_37 : decode cX8_wake 37 = .ok (.getfield 23, 3) := by decide +kernel
theorem dX8_wake_40 : decode cX8_wake 40 = .ok (.aload_n 0, 1) := by decide +kernel
theorem dX8_wake_41 : decode cX8_wake 41 = .ok (.getfield 68, 3) := by decide +kernel
theorem dX8_wake_44 : decode cX8_wake 44 = .ok (.iload_n 1, 1) := by decide +kernel
theorem dX8_wake_45 : decode cX8_wake 45 = .ok (.aload_n 0, 1) := by decide +kernel
theorem dX8_wake_46 : decode cX8_wake 46 = .ok (.getfield 23, 3) := by decide +kernel
theorem dX8_wake_49 : decode cX8_wake 49 = .ok (.getfield 163, 3) := by decide +kernel
theorem dX8_wake_52 : decode cX8_wake 52 = .ok (.iload_n 1, 1) := by decide +kernel
theorem dX8_wake_53 : decode cX8_wake 53 = .ok (.iaload, 1) := by decide +kernel
theorem dX8_wake_54 : decode cX8_wake 54 = .ok (.iconst 1, 1) := by decide +kernel
theorem dX8_wake_55 : decode cX8_wake 55 = .ok (.isub, 1) := by decide +kernel
theorem dX8_wake_56 : decode cX8_wake 56 = .ok (.aload_n 0, 1) := by decide +kernel
theorem dX8_wake_57 : decode cX8_wake 57 = .ok (.getfield 23, 3) := by decide +kernel
theorem dX8_wake_60 : decode cX8_wake 60 = .ok (.getfield 167, 3) := by decide +kernel
theorem dX8_wake_63 : decode cX8_wake 63 = .ok (.iload_n 1, 1) := by decide +kernel
theorem dX8_wake_64 : decode cX8_wake 64 = .ok (.iaload, 1) := by decide +kernel
theorem dX8_wake_65 : decode cX8_wake 65 = .ok (.invokevirtual 384, 3) := by decide +kernel
theorem dX8_wake_68 : decode cX8_wake 68 = .ok (.aload_n 0, 1) := by decide +kernel
theorem dX8_wake_69 : decode cX8_wake 69 = .ok (.getfield 23, 3) := by decide +kernel
theorem dX8_wake_72 : decode cX8_wake 72 = .ok (.aload_n 0, 1) := by decide +kernel
theorem dX8_wake_73 : decode cX8_wake 73 = .ok (.getfield 68, 3) := by decide +kernel
theorem dX8_wake_76 : decode cX8_wake 76 = .ok (.invokevirtual 388, 3) := by decide +kernel
theorem dX8_wake_79 : decode cX8_wake 79 = .ok (.aload_n 0, 1) := by decide +kernel
theorem dX8_wake_80 : decode cX8_wake 80 = .ok (.aload_n 0, 1) := by decide +kernel
theorem dX8_wake_81 : decode cX8_wake 81 = .ok (.getfield 23, 3) := by decide +kernel
theorem dX8_wake_84 : decode cX8_wake 84 = .ok (.getfield 163, 3) := by decide +kernel
theorem dX8_wake_87 : decode cX8_wake 87 = .ok (.iload_n 1, 1) := by decide +kernel
theorem dX8_wake_88 : decode cX8_wake 88 = .ok (.iaload, 1) := by decide +kernel
theorem dX8_wake_89 : decode cX8_wake 89 = .ok (.invokevirtual 125, 3) := by decide +kernel
theorem dX8_wake_92 : decode cX8_wake 92 = .ok (.ireturn, 1) := by decide +kernel
theorem dX8_knock_0 : decode cX8_knock 0 = .ok (.aload_n 0, 1) := by decide +kernel
theorem dX8_knock_1 : decode cX8_knock 1 = .ok (.iload_n 1, 1) := by decide +kernel
theorem dX8_knock_2 : decode cX8_knock 2 = .ok (.invokevirtual 381, 3) := by decide +kernel
theorem dX8_knock_5 : decode cX8_knock 5 = .ok (.ifCond .eq 22, 3) := by decide +kernel
theorem dX8_knock_8 : decode cX8_knock 8 = .ok (.aload_n 0, 1) := by decide +kernel
theorem dX8_knock_9 : decode cX8_knock 9 = .ok (.iload_n 2, 1) := by decide +kernel
theorem dX8_knock_10 : decode cX8_knock 10 = .ok (.invokevirtual 131, 3) := by decide +kernel
theorem dX8_knock_13 : decode cX8_knock 13 = .ok (.ifCond .eq 14, 3) := by decide +kernel
theorem dX8_knock_16 : decode cX8_knock 16 = .ok (.iload_n 2, 1) := by decide +kernel
theorem dX8_knock_17 : decode cX8_knock 17 = .ok (.aload_n 0, 1) := by decide +kernel
theorem dX8_knock_18 : decode cX8_knock 18 = .ok (.getfield 68, 3) := by decide +kernel
theorem dX8_knock_21 : decode cX8_knock 21 = .ok (.getfield 298, 3) := by decide +kernel
theorem dX8_knock_24 : decode cX8_knock 24 = .ok (.if_icmp .lt 9, 3) := by decide +kernel
theorem dX8_knock_27 : decode cX8_knock 27 = .ok (.aload_n 0, 1) := by decide +kernel
theorem dX8_knock_28 : decode cX8_knock 28 = .ok (.iconst 1, 1) := by decide +kernel
theorem dX8_knock_29 : decode cX8_knock 29 = .ok (.invokevirtual 83, 3) := by decide +kernel
theorem dX8_knock_32 : decode cX8_knock 32 = .ok (.ireturn, 1) := by decide +kernel
theorem dX8_knock_33 : decode cX8_knock 33 = .ok (.iload_n 3, 1) := by decide +kernel
theorem dX8_knock_34 : decode cX8_knock 34 = .ok (.invokestatic 240, 3) := by decide +kernel
theorem dX8_knock_37 : decode cX8_knock 37 = .ok (.ifCond .ne 9, 3) := by decide +kernel
theorem dX8_knock_40 : decode cX8_knock 40 = .ok (.aload_n 0, 1) := by decide +kernel
theorem dX8_knock_41 : decode cX8_knock 41 = .ok (.iconst 2, 1) := by decide +kernel
theorem dX8_knock_42 : decode cX8_knock 42 = .ok (.invokevirtual 83, 3) := by decide +kernel
theorem dX8_knock_45 : decode cX8_knock 45 = .ok (.ireturn, 1) := by decide +kernel
theorem dX8_knock_46 : decode cX8_knock 46 = .ok (.aload_n 0, 1) := by decide +kernel
theorem dX8_knock_47 : decode cX8_knock 47 = .ok (.invokevirtual 378, 3) := by decide +kernel
theorem dX8_knock_50 : decode cX8_knock 50 = .ok (.aload_n 0, 1) := by decide +kernel
theorem dX8_knock_51 : decode cX8_knock 51 = .ok (.getfield 23, 3) := by decide +kernel
theorem dX8_knock_54 : decode cX8_knock 54 = .ok (.aload_n 0, 1) := by decide +kernel
theorem dX8_knock_55 : decode cX8_knock 55 = .ok (.getfield 68, 3) := by decide +kernel
theorem dX8_knock_58 : decode cX8_knock 58 = .ok (.iload_n 1, 1) := by decide +kernel
theorem dX8_knock_59 : decode cX8_knock 59 = .ok (.iload_n 2, 1) := by decide +kernel
theorem dX8_knock_60 : decode cX8_knock 60 = .ok (.iload_n 3, 1) := by decide +kernel
theorem dX8_knock_61 : decode cX8_knock 61 = .ok (.invokevirtual 391, 3) := by decide +kernel
theorem dX8_knock_64 : decode cX8_knock 64 = .ok (.istore 4, 2) := by decide +kernel
theorem dX8_knock_66 : decode cX8_knock 66 = .ok (.aload_n 0, 1) := by decide +kernel
theorem dX8_knock_67 : decode cX8_knock 67 = .ok (.getfield 23, 3) := by decide +kernel
theorem dX8_knock_70 : decode cX8_knock 70 = .ok (.aload_n 0, 1) := by decide +kernel
theorem dX8_knock_71 : decode cX8_knock 71 = .ok (.getfield 68, 3) := by decide +kernel
theorem dX8_knock_74 : decode cX8_knock 74 = .ok (.invokevirtual 388, 3) := by decide +kernel
theorem dX8_knock_77 : decode cX8_knock 77 = .ok (.aload_n 0, 1) := by decide +kernel
theorem dX8_knock_78 : decode cX8_knock 78 = .ok (.iload 4, 2) := by decide +kernel
theorem dX8_knock_80 : decode cX8_knock 80 = .ok (.invokevirtual 125, 3) := by decide +kernel
theorem dX8_knock_83 : decode cX8_knock 83 = .ok (.ireturn, 1) := by decide +kernel
theorem dX8_undo_0 : decode cX8_undo 0 = .ok (.aload_n 0, 1) := by decide +kernel
theorem dX8_undo_1 : decode cX8_undo 1 = .ok (.getfield 110, 3) := by decide +kernel
theorem dX8_undo_4 : decode cX8_undo 4 = .ok (.ifCond .gt 11, 3) := by decide +kernel
theorem dX8_undo_7 : decode cX8_undo 7 = .ok (.aload_n 0, 1) := by decide +kernel
theorem dX8_undo_8 : decode cX8_undo 8 = .ok (.bipush 6, 2) := by decide +kernel
theorem dX8_undo_10 : decode cX8_undo 10 = .ok (.putfield 128, 3) := by decide +kernel
theorem dX8_undo_13 : decode cX8_undo 13 = .ok (.iconst 0, 1) := by decide +kernel
theorem dX8_undo_14 : decode cX8_undo 14 = .ok (.ireturn, 1) := by decide +kernel
theorem dX8_undo_15 : decode cX8_undo 15 = .ok (.aload_n 0, 1) := by decide +kernel
theorem dX8_undo_16 : decode cX8_undo 16 = .ok (.dup, 1) := by decide +kernel
theorem dX8_undo_17 : decode cX8_undo 17 = .ok (.getfield 110, 3) := by decide +kernel
theorem dX8_undo_20 : decode cX8_undo 20 = .ok (.iconst 1, 1) := by decide +kernel
theorem dX8_undo_21 : decode cX8_undo 21 = .ok (.isub, 1) := by decide +kernel
theorem dX8_undo_22 : decode cX8_undo 22 = .ok (.putfield 110, 3) := by decide +kernel
theorem dX8_undo_25 : decode cX8_undo 25 = .ok (.aload_n 0, 1) := by decide +kernel
theorem dX8_undo_26 : decode cX8_undo 26 = .ok (.getfield 23, 3) := by decide +kernel
theorem dX8_undo_29 : decode cX8_undo 29 = .ok (.aload_n 0, 1) := by decide +kernel
theorem dX8_undo_30 : decode cX8_undo 30 = .ok (.getfield 58, 3) := by decide +kernel
theorem dX8_undo_33 : decode cX8_undo 33 = .ok (.aload_n 0, 1) := by decide +kernel
theorem dX8_undo_34 : decode cX8_undo 34 = .ok (.getfield 110, 3) := by decide +kernel
theorem dX8_undo_37 : decode cX8_undo 37 = .ok (.aaload, 1) := by decide +kernel
theorem dX8_undo_38 : decode cX8_undo 38 = .ok (.invokevirtual 220, 3) := by decide +kernel
theorem dX8_undo_41 : decode cX8_undo 41 = .ok (.aload_n 0, 1) := by decide +kernel
theorem dX8_undo_42 : decode cX8_undo 42 = .ok (.iconst 0, 1) := by decide +kernel
theorem dX8_undo_43 : decode cX8_undo 43 = .ok (.putfield 128, 3) := by decide +kernel
theorem dX8_undo_46 : decode cX8_undo 46 = .ok (.iconst 1, 1) := by decide +kernel
theorem dX8_undo_47 : decode cX8_undo 47 = .ok (.ireturn, 1) := by decide +kernel
theorem dX8_image_0 : decode cX8_image 0 = .ok (.aload_n 0, 1) := by decide +kernel
theorem dX8_image_1 : decode cX8_image 1 = .ok (.getfield 98, 3) := by decide +kernel
theorem dX8_image_4 : decode cX8_image 4 = .ok (.ifCond .ne 9, 3) := by decide +kernel
theorem dX8_image_7 : decode cX8_image 7 = .ok (.aload_n 0, 1) := by decide +kernel
theorem dX8_image_8 : decode cX8_image 8 = .ok (.iconst 1, 1) := by decide +kernel
theorem dX8_image_9 : decode cX8_image 9 = .ok (.invokevirtual 83, 3) := by decide +kernel
theorem dX8_image_12 : decode cX8_image 12 = .ok (.ireturn, 1) := by decide +kernel
theorem dX8_image_13 : decode cX8_image 13 = .ok (.aload_n 0, 1) := by decide +kernel
theorem dX8_image_14 : decode cX8_image 14 = .ok (.getfield 113, 3) := by decide +kernel
theorem dX8_image_17 : decode cX8_image 17 = .ok (.iconst 3, 1) := by decide +kernel
theorem dX8_image_18 : decode cX8_image 18 = .ok (.if_icmp .lt 9, 3) := by decide +kernel
theorem dX8_image_21 : decode cX8_image 21 = .ok (.aload_n 0, 1) := by decide +kernel
theorem dX8_image_22 : decode cX8_image 22 = .ok (.iconst 3, 1) := by decide +kernel
theorem dX8_image_23 : decode cX8_image 23 = .ok (.invokevirtual 83, 3) := by decide +kernel
theorem dX8_image_26 : decode cX8_image 26 = .ok (.ireturn, 1) := by decide +kernel
theorem dX8_image_27 : decode cX8_image 27 = .ok (.aload_n 0, 1) := by decide +kernel
theorem dX8_image_28 : decode cX8_image 28 = .ok (.getfield 62, 3) := by decide +kernel
theorem dX8_image_31 : decode cX8_image 31 = .ok (.aload_n 0, 1) := by decide +kernel
theorem dX8_image_32 : decode cX8_image 32 = .ok (.getfield 113, 3) := by decide +kernel
theorem dX8_image_35 : decode cX8_image 35 = .ok (.aaload, 1) := by decide +kernel
theorem dX8_image_36 : decode cX8_image 36 = .ok (.aload_n 0, 1) := by decide +kernel
theorem dX8_image_37 : decode cX8_image 37 = .ok (.getfield 23, 3) := by decide +kernel
theorem dX8_image_40 : decode cX8_image 40 = .ok (.invokevirtual 220, 3) := by decide +kernel
theorem dX8_image_43 : decode cX8_image 43 = .ok (.aload_n 0, 1) := by decide +kernel
theorem dX8_image_44 : decode cX8_image 44 = .ok (.dup, 1) := by decide +kernel
theorem dX8_image_45 : decode cX8_image 45 = .ok (.getfield 113, 3) := by decide +kernel
theorem dX8_image_48 : decode cX8_image 48 = .ok (.iconst 1, 1) := by decide +kernel
theorem dX8_image_49 : decode cX8_image 49 = .ok (.iadd, 1) := by decide +kernel
theorem dX8_image_50 : decode cX8_image 50 = .ok (.putfield 113, 3) := by decide +kernel
theorem dX8_image_53 : decode cX8_image 53 = .ok (.aload_n 0, 1) := by decide +kernel
theorem dX8_image_54 : decode cX8_image 54 = .ok (.aload_n 0, 1) := by decide +kernel
theorem dX8_image_55 : decode cX8_image 55 = .ok (.getfield 113, 3) := by decide +kernel
theorem dX8_image_58 : decode cX8_image 58 = .ok (.iconst 1, 1) := by decide +kernel
theorem dX8_image_59 : decode cX8_image 59 = .ok (.isub, 1) := by decide +kernel
theorem dX8_image_60 : decode cX8_image 60 = .ok (.invokevirtual 125, 3) := by decide +kernel
theorem dX8_image_63 : decode cX8_image 63 = .ok (.ireturn, 1) := by decide +kernel
theorem dX8_back_0 : decode cX8_back 0 = .ok (.iload_n 1, 1) := by decide +kernel
theorem dX8_back_1 : decode cX8_back 1 = .ok (.ifCond .lt 11, 3) := by decide +kernel
theorem dX8_back_4 : decode cX8_back 4 = .ok (.iload_n 1, 1) := by decide +kernel
theorem dX8_back_5 : decode cX8_back 5 = .ok (.aload_n 0, 1) := by decide +kernel
theorem dX8_back_6 : decode cX8_back 6 = .ok (.getfield 113, 3) := by decide +kernel
theorem dX8_back_9 : decode cX8_back 9 = .ok (.if_icmp .lt 10, 3) := by decide +kernel
theorem dX8_back_12 : decode cX8_back 12 = .ok (.aload_n 0, 1) := by decide +kernel
theorem dX8_back_13 : decode cX8_back 13 = .ok (.iconst 1, 1) := by decide +kernel
theorem dX8_back_14 : decode cX8_back 14 = .ok (.putfield 128, 3) := by decide +kernel
theorem dX8_back_17 : decode cX8_back 17 = .ok (.iconst 0, 1) := by decide +kernel
theorem dX8_back_18 : decode cX8_back 18 = .ok (.ireturn, 1) := by decide +kernel
theorem dX8_back_19 : decode cX8_back 19 = .ok (.aload_n 0, 1) := by decide +kernel
theorem dX8_back_20 : decode cX8_back 20 = .ok (.getfield 23, 3) := by decide +kernel
theorem dX8_back_23 : decode cX8_back 23 = .ok (.aload_n 0, 1) := by decide +kernel
theorem dX8_back_24 : decode cX8_back 24 = .ok (.getfield 62, 3) := by decide +kernel
theorem dX8_back_27 : decode cX8_back 27 = .ok (.iload_n 1, 1) := by decide +kernel
theorem dX8_back_28 : decode cX8_back 28 = .ok (.aaload, 1) := by decide +kernel
theorem dX8_back_29 : decode cX8_back 29 = .ok (.invokevirtual 220, 3) := by decide +kernel
theorem dX8_back_32 : decode cX8_back 32 = .ok (.aload_n 0, 1) := by decide +kernel
theorem dX8_back_33 : decode cX8_back 33 = .ok (.iconst 0, 1) := by decide +kernel
theorem dX8_back_34 : decode cX8_back 34 = .ok (.putfield 110, 3) := by decide +kernel
theorem dX8_back_37 : decode cX8_back 37 = .ok (.aload_n 0, 1) := by decide +kernel
theorem dX8_back_38 : decode cX8_back 38 = .ok (.iconst 0, 1) := by decide +kernel
theorem dX8_back_39 : decode cX8_back 39 = .ok (.putfield 128, 3) := by decide +kernel
theorem dX8_back_42 : decode cX8_back 42 = .ok (.iconst 1, 1) := by decide +kernel
theorem dX8_back_43 : decode cX8_back 43 = .ok (.ireturn, 1) := by decide +kernel
theorem dX8_toldSize_0 : decode cX8_toldSize 0 = .ok (.aload_n 0, 1) := by decide +kernel
theorem dX8_toldSize_1 : decode cX8_toldSize 1 = .ok (.getfield 98, 3) := by decide +kernel
theorem dX8_toldSize_4 : decode cX8_toldSize 4 = .ok (.ifCond .ne 5, 3) := by decide +kernel
theorem dX8_toldSize_7 : decode cX8_toldSize 7 = .ok (.iconst 0, 1) := by decide +kernel
theorem dX8_toldSize_8 : decode cX8_toldSize 8 = .ok (.ireturn, 1) := by decide +kernel
theorem dX8_toldSize_9 : decode cX8_toldSize 9 = .ok (.iload_n 1, 1) := by decide +kernel
theorem dX8_toldSize_10 : decode cX8_toldSize 10 = .ok (.tableswitch 137 0 8 #[50, 58, 66, 74, 82, 93, 104, 115, 126], 50) := by decide +kernel
theorem dX8_toldSize_60 : decode cX8_toldSize 60 = .ok (.aload_n 0, 1) := by decide +kernel
theorem dX8_toldSize_61 : decode cX8_toldSize 61 = .ok (.getfield 68, 3) := by decide +kernel
theorem dX8_toldSize_64 : decode cX8_toldSize 64 = .ok (.getfield 298, 3) := by decide +kernel
theorem dX8_toldSize_67 : decode cX8_toldSize 67 = .ok (.ireturn, 1) := by decide +kernel
theorem dX8_toldSize_68 : decode cX8_toldSize 68 = .ok (.aload_n 0, 1) := by decide +kernel
theorem dX8_toldSize_69 : decode cX8_toldSize 69 = .ok (.getfield 68, 3) := by decide +kernel
theorem dX8_toldSize_72 : decode cX8_toldSize 72 = .ok (.getfield 401, 3) := by decide +kernel
theorem dX8_toldSize_75 : decode cX8_toldSize 75 = .ok (.ireturn, 1) := by decide +kernel
theorem dX8_toldSize_76 : decode cX8_toldSize 76 = .ok (.aload_n 0, 1) := by decide +kernel
theorem dX8_toldSize_77 : decode cX8_toldSize 77 = .ok (.getfield 68, 3) := by decide +kernel
theorem dX8_toldSize_80 : decode cX8_toldSize 80 = .ok (.getfield 404, 3) := by decide +kernel
theorem dX8_toldSize_83 : decode cX8_toldSize 83 = .ok (.ireturn, 1) := by decide +kernel
theorem dX8_toldSize_84 : decode cX8_toldSize 84 = .ok (.aload_n 0, 1) := by decide +kernel
theorem dX8_toldSize_85 : decode cX8_toldSize 85 = .ok (.getfield 68, 3) := by decide +kernel
theorem dX8_toldSize_88 : decode cX8_toldSize 88 = .ok (.getfield 331, 3) := by decide +kernel
theorem dX8_toldSize_91 : decode cX8_toldSize 91 = .ok (.ireturn, 1) := by decide +kernel
theorem dX8_toldSize_92 : decode cX8_toldSize 92 = .ok (.aload_n 0, 1) := by decide +kernel
theorem dX8_toldSize_93 : decode cX8_toldSize 93 = .ok (.getfield 68, 3) := by decide +kernel
theorem dX8_toldSize_96 : decode cX8_toldSize 96 = .ok (.getfield 116, 3) := by decide +kernel
theorem dX8_toldSize_99 : decode cX8_toldSize 99 = .ok (.getfield 120, 3) := by decide +kernel
theorem dX8_toldSize_102 : decode cX8_toldSize 102 = .ok (.ireturn, 1) := by decide +kernel
theorem dX8_toldSize_103 : decode cX8_toldSize 103 = .ok (.aload_n 0, 1) := by decide +kernel
theorem dX8_toldSize_104 : decode cX8_toldSize 104 = .ok (.getfield 68, 3) := by decide +kernel
theorem dX8_toldSize_107 : decode cX8_toldSize 107 = .ok (.getfield 407, 3) := by decide +kernel
theorem dX8_toldSize_110 : decode cX8_toldSize 110 = .ok (.getfield 120, 3) := by decide +kernel
theorem dX8_toldSize_113 : decode cX8_toldSize 113 = .ok (.ireturn, 1) := by decide +kernel
theorem dX8_toldSize_114 : decode cX8_toldSize 114 = .ok (.aload_n 0, 1) := by decide +kernel
theorem dX8_toldSize_115 : decode cX8_toldSize 115 = .ok (.getfield 68, 3) := by decide +kernel
theorem dX8_toldSize_118 : decode cX8_toldSize 118 = .ok (.getfield 410, 3) := by decide +kernel
theorem dX8_toldSize_121 : decode cX8_toldSize 121 = .ok (.getfield 120, 3) := by decide +kernel
theorem dX8_toldSize_124 : decode cX8_toldSize 124 = .ok (.ireturn, 1) := by decide +kernel
theorem dX8_toldSize_125 : decode cX8_toldSize 125 = .ok (.aload_n 0, 1) := by decide +kernel
theorem dX8_toldSize_126 : decode cX8_toldSize 126 = .ok (.getfield 68, 3) := by decide +kernel
theorem dX8_toldSize_129 : decode cX8_toldSize 129 = .ok (.getfield 247, 3) := by decide +kernel
theorem dX8_toldSize_132 : decode cX8_toldSize 132 = .ok (.getfield 120, 3) := by decide +kernel
theorem dX8_toldSize_135 : decode cX8_toldSize 135 = .ok (.ireturn, 1) := by decide +kernel
theorem dX8_toldSize_136 : decode cX8_toldSize 136 = .ok (.aload_n 0, 1) := by decide +kernel
theorem dX8_toldSize_137 : decode cX8_toldSize 137 = .ok (.getfield 68, 3) := by decide +kernel
theorem dX8_toldSize_140 : decode cX8_toldSize 140 = .ok (.getfield 413, 3) := by decide +kernel
theorem dX8_toldSize_143 : decode cX8_toldSize 143 = .ok (.getfield 120, 3) := by decide +kernel
theorem dX8_toldSize_146 : decode cX8_toldSize 146 = .ok (.ireturn, 1) := by decide +kernel
theorem dX8_toldSize_147 : decode cX8_toldSize 147 = .ok (.aload_n 0, 1) := by decide +kernel
theorem dX8_toldSize_148 : decode cX8_toldSize 148 = .ok (.getfield 68, 3) := by decide +kernel
theorem dX8_toldSize_151 : decode cX8_toldSize 151 = .ok (.getfield 416, 3) := by decide +kernel
theorem dX8_toldSize_154 : decode cX8_toldSize 154 = .ok (.getfield 120, 3) := by decide +kernel
theorem dX8_toldSize_157 : decode cX8_toldSize 157 = .ok (.ireturn, 1) := by decide +kernel
theorem dX8_size_0 : decode cX8_size 0 = .ok (.iload_n 1, 1) := by decide +kernel
theorem dX8_size_1 : decode cX8_size 1 = .ok (.tableswitch 42 10 12 #[27, 32, 37], 27) := by decide +kernel
theorem dX8_size_28 : decode cX8_size 28 = .ok (.aload_n 0, 1) := by decide +kernel
theorem dX8_size_29 : decode cX8_size 29 = .ok (.getfield 110, 3) := by decide +kernel
theorem dX8_size_32 : decode cX8_size 32 = .ok (.ireturn, 1) := by decide +kernel
theorem dX8_size_33 : decode cX8_size 33 = .ok (.aload_n 0, 1) := by decide +kernel
theorem dX8_size_34 : decode cX8_size 34 = .ok (.getfield 113, 3) := by decide +kernel
theorem dX8_size_37 : decode cX8_size 37 = .ok (.ireturn, 1) := by decide +kernel
theorem dX8_size_38 : decode cX8_size 38 = .ok (.aload_n 0, 1) := by decide +kernel
theorem dX8_size_39 : decode cX8_size 39 = .ok (.getfield 75, 3) := by decide +kernel
theorem dX8_size_42 : decode cX8_size 42 = .ok (.ireturn, 1) := by decide +kernel
theorem dX8_size_43 : decode cX8_size 43 = .ok (.iload_n 1, 1) := by decide +kernel
theorem dX8_size_44 : decode cX8_size 44 = .ok (.ifCond .lt 9, 3) := by decide +kernel
theorem dX8_size_47 : decode cX8_size 47 = .ok (.iload_n 1, 1) := by decide +kernel
theorem dX8_size_48 : decode cX8_size 48 = .ok (.bipush 12, 2) := by decide +kernel
theorem dX8_size_50 : decode cX8_size 50 = .ok (.if_icmp .le 7, 3) := by decide +kernel
theorem dX8_size_53 : decode cX8_size 53 = .ok (.iconst (-1), 1) := by decide +kernel
theorem dX8_size_54 : decode cX8_size 54 = .ok (.goto 8, 3) := by decide +kernel
theorem dX8_size_57 : decode cX8_size 57 = .ok (.aload_n 0, 1) := by decide +kernel
theorem dX8_size_58 : decode cX8_size 58 = .ok (.iload_n 1, 1) := by decide +kernel
theorem dX8_size_59 : decode cX8_size 59 = .ok (.invokevirtual 398, 3) := by decide +kernel
theorem dX8_size_62 : decode cX8_size 62 = .ok (.ireturn, 1) := by decide +kernel
theorem dX8_trouble_0 : decode cX8_trouble 0 = .ok (.aload_n 0, 1) := by decide +kernel
theorem dX8_trouble_1 : decode cX8_trouble 1 = .ok (.getfield 128, 3) := by decide +kernel
theorem dX8_trouble_4 : decode cX8_trouble 4 = .ok (.ireturn, 1) := by decide +kernel
