theorem dX7_at_0 : decode cX7_at 0 = .ok (.iload_n 1, 1) := by decide +kernel
theorem dX7_at_1 : decode cX7_at 1 = .ok (.ifCond .lt 27, 3) := by decide +kernel
theorem dX7_at_4 : decode cX7_at 4 = .ok (.iload_n 1, 1) := by decide +kernel
theorem dX7_at_5 : decode cX7_at 5 = .ok (.aload_n 0, 1) := by decide +kernel
theorem dX7_at_6 : decode cX7_at 6 = .ok (.getfield 26, 3) := by decide +kernel
theorem dX7_at_9 : decode cX7_at 9 = .ok (.if_icmp .ge 19, 3) := by decide +kernel
theorem dX7_at_12 : decode cX7_at 12 = .ok (.iload_n 2, 1) := by decide +kernel
theorem dX7_at_13 : decode cX7_at 13 = .ok (.ifCond .lt 15, 3) := by decide +kernel
theorem dX7_at_16 : decode cX7_at 16 = .ok (.iload_n 2, 1) := by decide +kernel
theorem dX7_at_17 : decode cX7_at 17 = .ok (.aload_n 0, 1) := by decide +kernel
theorem dX7_at_18 : decode cX7_at 18 = .ok (.getfield 19, 3) := by decide +kernel
theorem dX7_at_21 : decode cX7_at 21 = .ok (.if_icmp .ge 7, 3) := by decide +kernel
theorem dX7_at_24 : decode cX7_at 24 = .ok (.iconst 1, 1) := by decide +kernel
theorem dX7_at_25 : decode cX7_at 25 = .ok (.goto 4, 3) := by decide +kernel
theorem dX7_at_28 : decode cX7_at 28 = .ok (.iconst 0, 1) := by decide +kernel
theorem dX7_at_29 : decode cX7_at 29 = .ok (.istore_n 3, 1) := by decide +kernel
theorem dX7_at_30 : decode cX7_at 30 = .ok (.iload_n 3, 1) := by decide +kernel
theorem dX7_at_31 : decode cX7_at 31 = .ok (.ifCond .eq 19, 3) := by decide +kernel
theorem dX7_at_34 : decode cX7_at 34 = .ok (.aload_n 0, 1) := by decide +kernel
theorem dX7_at_35 : decode cX7_at 35 = .ok (.getfield 22, 3) := by decide +kernel
theorem dX7_at_38 : decode cX7_at 38 = .ok (.iload_n 1, 1) := by decide +kernel
theorem dX7_at_39 : decode cX7_at 39 = .ok (.aload_n 0, 1) := by decide +kernel
theorem dX7_at_40 : decode cX7_at 40 = .ok (.getfield 19, 3) := by decide +kernel
theorem dX7_at_43 : decode cX7_at 43 = .ok (.imul, 1) := by decide +kernel
theorem dX7_at_44 : decode cX7_at 44 = .ok (.iload_n 2, 1) := by decide +kernel
theorem dX7_at_45 : decode cX7_at 45 = .ok (.iadd, 1) := by decide +kernel
theorem dX7_at_46 : decode cX7_at 46 = .ok (.iaload, 1) := by decide +kernel
theorem dX7_at_47 : decode cX7_at 47 = .ok (.goto 4, 3) := by decide +kernel
theorem dX7_at_50 : decode cX7_at 50 = .ok (.iconst 0, 1) := by decide +kernel
theorem dX7_at_51 : decode cX7_at 51 = .ok (.ireturn, 1) := by decide +kernel
theorem dX7_putAt_0 : decode cX7_putAt 0 = .ok (.iload_n 1, 1) := by decide +kernel
theorem dX7_putAt_1 : decode cX7_putAt 1 = .ok (.ifCond .lt 37, 3) := by decide +kernel
theorem dX7_putAt_4 : decode cX7_putAt 4 = .ok (.iload_n 1, 1) := by decide +kernel
theorem dX7_putAt_5 : decode cX7_putAt 5 = .ok (.aload_n 0, 1) := by decide +kernel
theorem dX7_putAt_6 : decode cX7_putAt 6 = .ok (.getfield 26, 3) := by decide +kernel
theorem dX7_putAt_9 : decode cX7_putAt 9 = .ok (.if_icmp .ge 29, 3) := by decide +kernel
theorem dX7_putAt_12 : decode cX7_putAt 12 = .ok (.iload_n 2, 1) := by decide +kernel
theorem dX7_putAt_13 : decode cX7_putAt 13 = .ok (.ifCond .lt 25, 3) := by decide +kernel
theorem dX7_putAt_16 : decode cX7_putAt 16 = .ok (.iload_n 2, 1) := by decide +kernel
theorem dX7_putAt_17 : decode cX7_putAt 17 = .ok (.aload_n 0, 1) := by decide +kernel
theorem dX7_putAt_18 : decode cX7_putAt 18 = .ok (.getfield 19, 3) := by decide +kernel
theorem dX7_putAt_21 : decode cX7_putAt 21 = .ok (.if_icmp .ge 17, 3) := by decide +kernel
theorem dX7_putAt_24 : decode cX7_putAt 24 = .ok (.aload_n 0, 1) := by decide +kernel
theorem dX7_putAt_25 : decode cX7_putAt 25 = .ok (.getfield 22, 3) := by decide +kernel
theorem dX7_putAt_28 : decode cX7_putAt 28 = .ok (.iload_n 1, 1) := by decide +kernel
theorem dX7_putAt_29 : decode cX7_putAt 29 = .ok (.aload_n 0, 1) := by decide +kernel
theorem dX7_putAt_30 : decode cX7_putAt 30 = .ok (.getfield 19, 3) := by decide +kernel
theorem dX7_putAt_33 : decode cX7_putAt 33 = .ok (.imul, 1) := by decide +kernel
theorem dX7_putAt_34 : decode cX7_putAt 34 = .ok (.iload_n 2, 1) := by decide +kernel
theorem dX7_putAt_35 : decode cX7_putAt 35 = .ok (.iadd, 1) := by decide +kernel
theorem dX7_putAt_36 : decode cX7_putAt 36 = .ok (.iload_n 3, 1) := by decide +kernel
theorem dX7_putAt_37 : decode cX7_putAt 37 = .ok (.iastore, 1) := by decide +kernel
theorem dX7_putAt_38 : decode cX7_putAt 38 = .ok (.return_, 1) := by decide +kernel
theorem dX7_isFull_0 : decode cX7_isFull 0 = .ok (.aload_n 0, 1) := by decide +kernel
theorem dX7_isFull_1 : decode cX7_isFull 1 = .ok (.getfield 26, 3) := by decide +kernel
theorem dX7_isFull_4 : decode cX7_isFull 4 = .ok (.aload_n 0, 1) := by decide +kernel
theorem dX7_isFull_5 : decode cX7_isFull 5 = .ok (.getfield 13, 3) := by decide +kernel
theorem dX7_isFull_8 : decode cX7_isFull 8 = .ok (.if_icmp .lt 7, 3) := by decide +kernel
theorem dX7_isFull_11 : decode cX7_isFull 11 = .ok (.iconst 1, 1) := by decide +kernel
theorem dX7_isFull_12 : decode cX7_isFull 12 = .ok (.goto 4, 3) := by decide +kernel
theorem dX7_isFull_15 : decode cX7_isFull 15 = .ok (.iconst 0, 1) := by decide +kernel
theorem dX7_isFull_16 : decode cX7_isFull 16 = .ok (.ireturn, 1) := by decide +kernel
theorem dX7_put_0 : decode cX7_put 0 = .ok (.aload_n 0, 1) := by decide +kernel
theorem dX7_put_1 : decode cX7_put 1 = .ok (.aload_n 0, 1) := by decide +kernel
theorem dX7_put_2 : decode cX7_put 2 = .ok (.getfield 26, 3) := by decide +kernel
theorem dX7_put_5 : decode cX7_put 5 = .ok (.iconst 1, 1) := by decide +kernel
theorem dX7_put_6 : decode cX7_put 6 = .ok (.isub, 1) := by decide +kernel
theorem dX7_put_7 : decode cX7_put 7 = .ok (.iload_n 1, 1) := by decide +kernel
theorem dX7_put_8 : decode cX7_put 8 = .ok (.iload_n 2, 1) := by decide +kernel
theorem dX7_put_9 : decode cX7_put 9 = .ok (.invokevirtual 37, 3) := by decide +kernel
theorem dX7_put_12 : decode cX7_put 12 = .ok (.return_, 1) := by decide +kernel
theorem dX7_add_0 : decode cX7_add 0 = .ok (.aload_n 0, 1) := by decide +kernel
theorem dX7_add_1 : decode cX7_add 1 = .ok (.invokevirtual 29, 3) := by decide +kernel
theorem dX7_add_4 : decode cX7_add 4 = .ok (.ifCond .ne 35, 3) := by decide +kernel
theorem dX7_add_7 : decode cX7_add 7 = .ok (.aload_n 0, 1) := by decide +kernel
theorem dX7_add_8 : decode cX7_add 8 = .ok (.dup, 1) := by decide +kernel
theorem dX7_add_9 : decode cX7_add 9 = .ok (.getfield 26, 3) := by decide +kernel
theorem dX7_add_12 : decode cX7_add 12 = .ok (.iconst 1, 1) := by decide +kernel
theorem dX7_add_13 : decode cX7_add 13 = .ok (.iadd, 1) := by decide +kernel
theorem dX7_add_14 : decode cX7_add 14 = .ok (.putfield 26, 3) := by decide +kernel
theorem dX7_add_17 : decode cX7_add 17 = .ok (.iconst 0, 1) := by decide +kernel
theorem dX7_add_18 : decode cX7_add 18 = .ok (.istore_n 1, 1) := by decide +kernel
theorem dX7_add_19 : decode cX7_add 19 = .ok (.iload_n 1, 1) := by decide +kernel
theorem dX7_add_20 : decode cX7_add 20 = .ok (.aload_n 0, 1) := by decide +kernel
theorem dX7_add_21 : decode cX7_add 21 = .ok (.getfield 19, 3) := by decide +kernel
theorem dX7_add_24 : decode cX7_add 24 = .ok (.if_icmp .ge 15, 3) := by decide +kernel
theorem dX7_add_27 : decode cX7_add 27 = .ok (.aload_n 0, 1) := by decide +kernel
theorem dX7_add_28 : decode cX7_add 28 = .ok (.iload_n 1, 1) := by decide +kernel
theorem dX7_add_29 : decode cX7_add 29 = .ok (.iconst 0, 1) := by decide +kernel
theorem dX7_add_30 : decode cX7_add 30 = .ok (.invokevirtual 33, 3) := by decide +kernel
theorem dX7_add_33 : decode cX7_add 33 = .ok (.iinc 1 1, 3) := by decide +kernel
theorem dX7_add_36 : decode cX7_add 36 = .ok (.goto (-17), 3) := by decide +kernel
theorem dX7_add_39 : decode cX7_add 39 = .ok (.return_, 1) := by decide +kernel
