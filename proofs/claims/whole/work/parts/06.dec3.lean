theorem dX11_init_0 : decode cX11_init 0 = .ok (.aload_n 0, 1) := by decide +kernel
theorem dX11_init_1 : decode cX11_init 1 = .ok (.invokespecial 1, 3) := by decide +kernel
theorem dX11_init_4 : decode cX11_init 4 = .ok (.aload_n 0, 1) := by decide +kernel
theorem dX11_init_5 : decode cX11_init 5 = .ok (.bipush 7, 2) := by decide +kernel
theorem dX11_init_7 : decode cX11_init 7 = .ok (.newarray .int, 2) := by decide +kernel
theorem dX11_init_9 : decode cX11_init 9 = .ok (.putfield 7, 3) := by decide +kernel
theorem dX11_init_12 : decode cX11_init 12 = .ok (.aload_n 0, 1) := by decide +kernel
theorem dX11_init_13 : decode cX11_init 13 = .ok (.bipush 6, 2) := by decide +kernel
theorem dX11_init_15 : decode cX11_init 15 = .ok (.newarray .int, 2) := by decide +kernel
theorem dX11_init_17 : decode cX11_init 17 = .ok (.putfield 13, 3) := by decide +kernel
theorem dX11_init_20 : decode cX11_init 20 = .ok (.aload_n 0, 1) := by decide +kernel
theorem dX11_init_21 : decode cX11_init 21 = .ok (.bipush 6, 2) := by decide +kernel
theorem dX11_init_23 : decode cX11_init 23 = .ok (.newarray .int, 2) := by decide +kernel
theorem dX11_init_25 : decode cX11_init 25 = .ok (.putfield 16, 3) := by decide +kernel
theorem dX11_init_28 : decode cX11_init 28 = .ok (.aload_n 0, 1) := by decide +kernel
theorem dX11_init_29 : decode cX11_init 29 = .ok (.bipush 6, 2) := by decide +kernel
theorem dX11_init_31 : decode cX11_init 31 = .ok (.newarray .int, 2) := by decide +kernel
theorem dX11_init_33 : decode cX11_init 33 = .ok (.putfield 19, 3) := by decide +kernel
theorem dX11_init_36 : decode cX11_init 36 = .ok (.aload_n 0, 1) := by decide +kernel
theorem dX11_init_37 : decode cX11_init 37 = .ok (.bipush 6, 2) := by decide +kernel
theorem dX11_init_39 : decode cX11_init 39 = .ok (.newarray .int, 2) := by decide +kernel
theorem dX11_init_41 : decode cX11_init 41 = .ok (.putfield 22, 3) := by decide +kernel
theorem dX11_init_44 : decode cX11_init 44 = .ok (.aload_n 0, 1) := by decide +kernel
theorem dX11_init_45 : decode cX11_init 45 = .ok (.bipush 6, 2) := by decide +kernel
theorem dX11_init_47 : decode cX11_init 47 = .ok (.newarray .int, 2) := by decide +kernel
theorem dX11_init_49 : decode cX11_init 49 = .ok (.putfield 25, 3) := by decide +kernel
theorem dX11_init_52 : decode cX11_init 52 = .ok (.aload_n 0, 1) := by decide +kernel
theorem dX11_init_53 : decode cX11_init 53 = .ok (.bipush 6, 2) := by decide +kernel
theorem dX11_init_55 : decode cX11_init 55 = .ok (.newarray .int, 2) := by decide +kernel
theorem dX11_init_57 : decode cX11_init 57 = .ok (.putfield 28, 3) := by decide +kernel
theorem dX11_init_60 : decode cX11_init 60 = .ok (.aload_n 0, 1) := by decide +kernel
theorem dX11_init_61 : decode cX11_init 61 = .ok (.iconst 4, 1) := by decide +kernel
theorem dX11_init_62 : decode cX11_init 62 = .ok (.newarray .int, 2) := by decide +kernel
theorem dX11_init_64 : decode cX11_init 64 = .ok (.putfield 31, 3) := by decide +kernel
theorem dX11_init_67 : decode cX11_init 67 = .ok (.aload_n 0, 1) := by decide +kernel
theorem dX11_init_68 : decode cX11_init 68 = .ok (.bipush 16, 2) := by decide +kernel
theorem dX11_init_70 : decode cX11_init 70 = .ok (.newarray .int, 2) := by decide +kernel
theorem dX11_init_72 : decode cX11_init 72 = .ok (.putfield 34, 3) := by decide +kernel
theorem dX11_init_75 : decode cX11_init 75 = .ok (.aload_n 0, 1) := by decide +kernel
theorem dX11_init_76 : decode cX11_init 76 = .ok (.bipush 80, 2) := by decide +kernel
theorem dX11_init_78 : decode cX11_init 78 = .ok (.newarray .int, 2) := by decide +kernel
theorem dX11_init_80 : decode cX11_init 80 = .ok (.putfield 37, 3) := by decide +kernel
theorem dX11_init_83 : decode cX11_init 83 = .ok (.aload_n 0, 1) := by decide +kernel
theorem dX11_init_84 : decode cX11_init 84 = .ok (.bipush 40, 2) := by decide +kernel
theorem dX11_init_86 : decode cX11_init 86 = .ok (.newarray .int, 2) := by decide +kernel
theorem dX11_init_88 : decode cX11_init 88 = .ok (.putfield 40, 3) := by decide +kernel
theorem dX11_init_91 : decode cX11_init 91 = .ok (.aload_n 0, 1) := by decide +kernel
theorem dX11_init_92 : decode cX11_init 92 = .ok (.bipush 40, 2) := by decide +kernel
theorem dX11_init_94 : decode cX11_init 94 = .ok (.newarray .int, 2) := by decide +kernel
theorem dX11_init_96 : decode cX11_init 96 = .ok (.putfield 43, 3) := by decide +kernel
theorem dX11_init_99 : decode cX11_init 99 = .ok (.aload_n 0, 1) := by decide +kernel
theorem dX11_init_100 : decode cX11_init 100 = .ok (.sipush 160, 3) := by decide +kernel
theorem dX11_init_103 : decode cX11_init 103 = .ok (.newarray .int, 2) := by decide +kernel
theorem dX11_init_105 : decode cX11_init 105 = .ok (.putfield 46, 3) := by decide +kernel
theorem dX11_init_108 : decode cX11_init 108 = .ok (.aload_n 0, 1) := by decide +kernel
theorem dX11_init_109 : decode cX11_init 109 = .ok (.sipush 140, 3) := by decide +kernel
theorem dX11_init_112 : decode cX11_init 112 = .ok (.newarray .int, 2) := by decide +kernel
theorem dX11_init_114 : decode cX11_init 114 = .ok (.putfield 49, 3) := by decide +kernel
theorem dX11_init_117 : decode cX11_init 117 = .ok (.aload_n 0, 1) := by decide +kernel
theorem dX11_init_118 : decode cX11_init 118 = .ok (.bipush 6, 2) := by decide +kernel
theorem dX11_init_120 : decode cX11_init 120 = .ok (.newarray .int, 2) := by decide +kernel
theorem dX11_init_122 : decode cX11_init 122 = .ok (.putfield 52, 3) := by decide +kernel
theorem dX11_init_125 : decode cX11_init 125 = .ok (.return_, 1) := by decide +kernel
theorem dX11_no_0 : decode cX11_no 0 = .ok (.aload_n 0, 1) := by decide +kernel
theorem dX11_no_1 : decode cX11_no 1 = .ok (.getfield 7, 3) := by decide +kernel
theorem dX11_no_4 : decode cX11_no 4 = .ok (.iload_n 1, 1) := by decide +kernel
theorem dX11_no_5 : decode cX11_no 5 = .ok (.ineg, 1) := by decide +kernel
theorem dX11_no_6 : decode cX11_no 6 = .ok (.dup2, 1) := by decide +kernel
theorem dX11_no_7 : decode cX11_no 7 = .ok (.iaload, 1) := by decide +kernel
theorem dX11_no_8 : decode cX11_no 8 = .ok (.iconst 1, 1) := by decide +kernel
theorem dX11_no_9 : decode cX11_no 9 = .ok (.iadd, 1) := by decide +kernel
theorem dX11_no_10 : decode cX11_no 10 = .ok (.iastore, 1) := by decide +kernel
theorem dX11_no_11 : decode cX11_no 11 = .ok (.iload_n 1, 1) := by decide +kernel
theorem dX11_no_12 : decode cX11_no 12 = .ok (.ireturn, 1) := by decide +kernel
theorem dX11_lower_0 : decode cX11_lower 0 = .ok (.aload_n 0, 1) := by decide +kernel
theorem dX11_lower_1 : decode cX11_lower 1 = .ok (.getfield 7, 3) := by decide +kernel
theorem dX11_lower_4 : decode cX11_lower 4 = .ok (.iload_n 1, 1) := by decide +kernel
theorem dX11_lower_5 : decode cX11_lower 5 = .ok (.ineg, 1) := by decide +kernel
theorem dX11_lower_6 : decode cX11_lower 6 = .ok (.dup2, 1) := by decide +kernel
theorem dX11_lower_7 : decode cX11_lower 7 = .ok (.iaload, 1) := by decide +kernel
theorem dX11_lower_8 : decode cX11_lower 8 = .ok (.iconst 1, 1) := by decide +kernel
theorem dX11_lower_9 : decode cX11_lower 9 = .ok (.iadd, 1) := by decide +kernel
theorem dX11_lower_10 : decode cX11_lower 10 = .ok (.iastore, 1) := by decide +kernel
theorem dX11_lower_11 : decode cX11_lower 11 = .ok (.ldc 55, 2) := by decide +kernel
theorem dX11_lower_13 : decode cX11_lower 13 = .ok (.iload_n 1, 1) := by decide +kernel
theorem dX11_lower_14 : decode cX11_lower 14 = .ok (.isub, 1) := by decide +kernel
theorem dX11_lower_15 : decode cX11_lower 15 = .ok (.ireturn, 1) := by decide +kernel
theorem dX11_isIn_0 : decode cX11_isIn 0 = .ok (.iload_n 0, 1) := by decide +kernel
theorem dX11_isIn_1 : decode cX11_isIn 1 = .ok (.iload_n 1, 1) := by decide +kernel
theorem dX11_isIn_2 : decode cX11_isIn 2 = .ok (.if_icmp .lt 12, 3) := by decide +kernel
theorem dX11_isIn_5 : decode cX11_isIn 5 = .ok (.iload_n 0, 1) := by decide +kernel
theorem dX11_isIn_6 : decode cX11_isIn 6 = .ok (.iload_n 2, 1) := by decide +kernel
theorem dX11_isIn_7 : decode cX11_isIn 7 = .ok (.if_icmp .gt 7, 3) := by decide +kernel
theorem dX11_isIn_10 : decode cX11_isIn 10 = .ok (.iconst 1, 1) := by decide +kernel
theorem dX11_isIn_11 : decode cX11_isIn 11 = .ok (.goto 4, 3) := by decide +kernel
theorem dX11_isIn_14 : decode cX11_isIn 14 = .ok (.iconst 0, 1) := by decide +kernel
theorem dX11_isIn_15 : decode cX11_isIn 15 = .ok (.ireturn, 1) := by decide +kernel
theorem dX11_bound_0 : decode cX11_bound 0 = .ok (.iload_n 0, 1) := by decide +kernel
theorem dX11_bound_1 : decode cX11_bound 1 = .ok (.iload_n 1, 1) := by decide +kernel
theorem dX11_bound_2 : decode cX11_bound 2 = .ok (.if_icmp .ge 8, 3) := by decide +kernel
theorem dX11_bound_5 : decode cX11_bound 5 = .ok (.bipush (-4), 2) := by decide +kernel
theorem dX11_bound_7 : decode cX11_bound 7 = .ok (.goto 14, 3) := by decide +kernel
theorem dX11_bound_10 : decode cX11_bound 10 = .ok (.iload_n 0, 1) := by decide +kernel
theorem dX11_bound_11 : decode cX11_bound 11 = .ok (.iload_n 2, 1) := by decide +kernel
theorem dX11_bound_12 : decode cX11_bound 12 = .ok (.if_icmp .le 8, 3) := by decide +kernel
theorem dX11_bound_15 : decode cX11_bound 15 = .ok (.bipush (-6), 2) := by decide +kernel
theorem dX11_bound_17 : decode cX11_bound 17 = .ok (.goto 4, 3) := by decide +kernel
theorem dX11_bound_20 : decode cX11_bound 20 = .ok (.iconst 0, 1) := by decide +kernel
theorem dX11_bound_21 : decode cX11_bound 21 = .ok (.ireturn, 1) := by decide +kernel
theorem dX11_least_0 : decode cX11_least 0 = .ok (.iload_n 0, 1) := by decide +kernel
theorem dX11_least_1 : decode cX11_least 1 = .ok (.iload_n 1, 1) := by decide +kernel
theorem dX11_least_2 : decode cX11_least 2 = .ok (.if_icmp .ge 7, 3) := by decide +kernel
theorem dX11_least_5 : decode cX11_least 5 = .ok (.iload_n 0, 1) := by decide +kernel
theorem dX11_least_6 : decode cX11_least 6 = .ok (.goto 4, 3) := by decide +kernel
theorem dX11_least_9 : decode cX11_least 9 = .ok (.iload_n 1, 1) := by decide +kernel
theorem dX11_least_10 : decode cX11_least 10 = .ok (.ireturn, 1) := by decide +kernel
theorem dX11_isCandle_0 : decode cX11_isCandle 0 = .ok (.iload_n 1, 1) := by decide +kernel
theorem dX11_isCandle_1 : decode cX11_isCandle 1 = .ok (.ifCond .lt 15, 3) := by decide +kernel
theorem dX11_isCandle_4 : decode cX11_isCandle 4 = .ok (.iload_n 1, 1) := by decide +kernel
theorem dX11_isCandle_5 : decode cX11_isCandle 5 = .ok (.aload_n 0, 1) := by decide +kernel
theorem dX11_isCandle_6 : decode cX11_isCandle 6 = .ok (.getfield 56, 3) := by decide +kernel
theorem dX11_isCandle_9 : decode cX11_isCandle 9 = .ok (.if_icmp .ge 7, 3) := by decide +kernel
theorem dX11_isCandle_12 : decode cX11_isCandle 12 = .ok (.iconst 1, 1) := by decide +kernel
theorem dX11_isCandle_13 : decode cX11_isCandle 13 = .ok (.goto 4, 3) := by decide +kernel
theorem dX11_isCandle_16 : decode cX11_isCandle 16 = .ok (.iconst 0, 1) := by decide +kernel
theorem dX11_isCandle_17 : decode cX11_isCandle 17 = .ok (.ireturn, 1) := by decide +kernel
theorem dX11_isOne_0 : decode cX11_isOne 0 = .ok (.iload_n 0, 1) := by decide +kernel
theorem dX11_isOne_1 : decode cX11_isOne 1 = .ok (.ifCond .lt 12, 3) := by decide +kernel
theorem dX11_isOne_4 : decode cX11_isOne 4 = .ok (.iload_n 0, 1) := by decide +kernel
theorem dX11_isOne_5 : decode cX11_isOne 5 = .ok (.iconst 4, 1) := by decide +kernel
theorem dX11_isOne_6 : decode cX11_isOne 6 = .ok (.if_icmp .ge 7, 3) := by decide +kernel
theorem dX11_isOne_9 : decode cX11_isOne 9 = .ok (.iconst 1, 1) := by decide +kernel
theorem dX11_isOne_10 : decode cX11_isOne 10 = .ok (.goto 4, 3) := by decide +kernel
theorem dX11_isOne_13 : decode cX11_isOne 13 = .ok (.iconst 0, 1) := by decide +kernel
theorem dX11_isOne_14 : decode cX11_isOne 14 = .ok (.ireturn, 1) := by decide +kernel
theorem dX11_areTwo_0 : decode cX11_areTwo 0 = .ok (.iload_n 0, 1) := by decide +kernel
theorem dX11_areTwo_1 : decode cX11_areTwo 1 = .ok (.invokestatic 60, 3) := by decide +kernel
theorem dX11_areTwo_4 : decode cX11_areTwo 4 = .ok (.ifCond .eq 19, 3) := by decide +kernel
theorem dX11_areTwo_7 : decode cX11_areTwo 7 = .ok (.iload_n 1, 1) := by decide +kernel
theorem dX11_areTwo_8 : decode cX11_areTwo 8 = .ok (.invokestatic 60, 3) := by decide +kernel
theorem dX11_areTwo_11 : decode cX11_areTwo 11 = .ok (.ifCond .eq 12, 3) := by decide +kernel
theorem dX11_areTwo_14 : decode cX11_areTwo 14 = .ok (.iload_n 0, 1) := by decide +kernel
theorem dX11_areTwo_15 : decode cX11_areTwo 15 = .ok (.iload_n 1, 1) := by decide +kernel
theorem dX11_areTwo_16 : decode cX11_areTwo 16 = .ok (.if_icmp .eq 7, 3) := by decide +kernel
theorem dX11_areTwo_19 : decode cX11_areTwo 19 = .ok (.iconst 1, 1) := by decide +kernel
theorem dX11_areTwo_20 : decode cX11_areTwo 20 = .ok (.goto 4, 3) := by decide +kernel
theorem dX11_areTwo_23 : decode cX11_areTwo 23 = .ok (.iconst 0, 1) := by decide +kernel
theorem dX11_areTwo_24 : decode cX11_areTwo 24 = .ok (.ireturn, 1) := by decide +kernel
theorem dX11_feed_0 : decode cX11_feed 0 = .ok (.iload_n 1, 1) := by decide +kernel
theorem dX11_feed_1 : decode cX11_feed 1 = .ok (.iconst 0, 1) := by decide +kernel
theorem dX11_feed_2 : decode cX11_feed 2 = .ok (.sipush 255, 3) := by decide +kernel
theorem dX11_feed_5 : decode cX11_feed 5 = .ok (.invokestatic 64, 3) := by decide +kernel
theorem dX11_feed_8 : decode cX11_feed 8 = .ok (.istore_n 2, 1) := by decide +kernel
theorem dX11_feed_9 : decode cX11_feed 9 = .ok (.iload_n 2, 1) := by decide +kernel
theorem dX11_feed_10 : decode cX11_feed 10 = .ok (.ifCond .ne 15, 3) := by decide +kernel
theorem dX11_feed_13 : decode cX11_feed 13 = .ok (.aload_n 0, 1) := by decide +kernel
theorem dX11_feed_14 : decode cX11_feed 14 = .ok (.getfield 68, 3) := by decide +kernel
theorem dX11_feed_17 : decode cX11_feed 17 = .ok (.bipush 80, 2) := by decide +kernel
theorem dX11_feed_19 : decode cX11_feed 19 = .ok (.if_icmp .ne 6, 3) := by decide +kernel
theorem dX11_feed_22 : decode cX11_feed 22 = .ok (.bipush (-6), 2) := by decide +kernel
theorem dX11_feed_24 : decode cX11_feed 24 = .ok (.istore_n 2, 1) := by decide +kernel
theorem dX11_feed_25 : decode cX11_feed 25 = .ok (.iload_n 2, 1) := by decide +kernel
theorem dX11_feed_26 : decode cX11_feed 26 = .ok (.ifCond .eq 9, 3) := by decide +kernel
theorem dX11_feed_29 : decode cX11_feed 29 = .ok (.aload_n 0, 1) := by decide +kernel
theorem dX11_feed_30 : decode cX11_feed 30 = .ok (.iload_n 2, 1) := by decide +kernel
theorem dX11_feed_31 : decode cX11_feed 31 = .ok (.invokevirtual 71, 3) := by decide +kernel
theorem dX11_feed_34 : decode cX11_feed 34 = .ok (.ireturn, 1) := by decide +kernel
theorem dX11_feed_35 : decode cX11_feed 35 = .ok (.aload_n 0, 1) := by decide +kernel
theorem dX11_feed_36 : decode cX11_feed 36 = .ok (.getfield 37, 3) := by decide +kernel
theorem dX11_feed_39 : decode cX11_feed 39 = .ok (.aload_n 0, 1) := by decide +kernel
theorem dX11_feed_40 : decode cX11_feed 40 = .ok (.getfield 68, 3) := by decide +kernel
theorem dX11_feed_43 : decode cX11_feed 43 = .ok (.iload_n 1, 1) := by decide +kernel
theorem dX11_feed_44 : decode cX11_feed 44 = .ok (.iastore, 1) := by decide +kernel
theorem dX11_feed_45 : decode cX11_feed 45 = .ok (.aload_n 0, 1) := by decide +kernel
theorem dX11_feed_46 : decode cX11_feed 46 = .ok (.dup, 1) := by decide +kernel
theorem dX11_feed_47 : decode cX11_feed 47 = .ok (.getfield 68, 3) := by decide +kernel
theorem dX11_feed_50 : decode cX11_feed 50 = .ok (.iconst 1, 1) := by decide +kernel
theorem dX11_feed_51 : decode cX11_feed 51 = .ok (.iadd, 1) := by decide +kernel
theorem dX11_feed_52 : decode cX11_feed 52 = .ok (.putfield 68, 3) := by decide +kernel
theorem dX11_feed_55 : decode cX11_feed 55 = .ok (.aload_n 0, 1) := by decide +kernel
theorem dX11_feed_56 : decode cX11_feed 56 = .ok (.getfield 68, 3) := by decide +kernel
theorem dX11_feed_59 : decode cX11_feed 59 = .ok (.ireturn, 1) := by decide +kernel
theorem dX11_next_0 : decode cX11_next 0 = .ok (.aload_n 0, 1) := by decide +kernel
theorem dX11_next_1 : decode cX11_next 1 = .ok (.getfield 75, 3) := by decide +kernel
theorem dX11_next_4 : decode cX11_next 4 = .ok (.aload_n 0, 1) := by decide +kernel
theorem dX11_next_5 : decode cX11_next 5 = .ok (.getfield 68, 3) := by decide +kernel
theorem dX11_next_8 : decode cX11_next 8 = .ok (.if_icmp .ge 15, 3) := by decide +kernel
theorem dX11_next_11 : decode cX11_next 11 = .ok (.aload_n 0, 1) := by decide +kernel
theorem dX11_next_12 : decode cX11_next 12 = .ok (.getfield 37, 3) := by decide +kernel
theorem dX11_next_15 : decode cX11_next 15 = .ok (.aload_n 0, 1) := by decide +kernel
theorem dX11_next_16 : decode cX11_next 16 = .ok (.getfield 75, 3) := by decide +kernel
theorem dX11_next_19 : decode cX11_next 19 = .ok (.iaload, 1) := by decide +kernel
theorem dX11_next_20 : decode cX11_next 20 = .ok (.goto 4, 3) := by decide +kernel
theorem dX11_next_23 : decode cX11_next 23 = .ok (.iconst (-1), 1) := by decide +kernel
theorem dX11_next_24 : decode cX11_next 24 = .ok (.ireturn, 1) := by decide +kernel
theorem dX11_readsNumber_0 : decode cX11_readsNumber 0 = .ok (.aload_n 0, 1) := by decide +kernel
theorem dX11_readsNumber_1 : decode cX11_readsNumber 1 = .ok (.invokevirtual 78, 3) := by decide +kernel
theorem dX11_readsNumber_4 : decode cX11_readsNumber 4 = .ok (.bipush 48, 2) := by decide +kernel
theorem dX11_readsNumber_6 : decode cX11_readsNumber 6 = .ok (.bipush 57, 2) := by decide +kernel
theorem dX11_readsNumber_8 : decode cX11_readsNumber 8 = .ok (.invokestatic 82, 3) := by decide +kernel
theorem dX11_readsNumber_11 : decode cX11_readsNumber 11 = .ok (.ifCond .ne 5, 3) := by decide +kernel
theorem dX11_readsNumber_14 : decode cX11_readsNumber 14 = .ok (.iconst 0, 1) := by decide +kernel
theorem dX11_readsNumber_15 : decode cX11_readsNumber 15 = .ok (.ireturn, 1) := by decide +kernel
theorem dX11_readsNumber_16 : decode cX11_readsNumber 16 = .ok (.iconst 0, 1) := by decide +kernel
theorem dX11_readsNumber_17 : decode cX11_readsNumber 17 = .ok (.istore_n 3, 1) := by decide +kernel
theorem dX11_readsNumber_18 : decode cX11_readsNumber 18 = .ok (.iconst 0, 1) := by decide +kernel
theorem dX11_readsNumber_19 : decode cX11_readsNumber 19 = .ok (.istore 4, 2) := by decide +kernel
theorem dX11_readsNumber_21 : decode cX11_readsNumber 21 = .ok (.iload 4, 2) := by decide +kernel
theorem dX11_readsNumber_23 : decode cX11_readsNumber 23 = .ok (.iload_n 2, 1) := by decide +kernel
theorem dX11_readsNumber_24 : decode cX11_readsNumber 24 = .ok (.if_icmp .ge 46, 3) := by decide +kernel
theorem dX11_readsNumber_27 : decode cX11_readsNumber 27 = .ok (.aload_n 0, 1) := by decide +kernel
theorem dX11_readsNumber_28 : decode cX11_readsNumber 28 = .ok (.invokevirtual 78, 3) := by decide +kernel
theorem dX11_readsNumber_31 : decode cX11_readsNumber 31 = .ok (.bipush 48, 2) := by decide +kernel
theorem dX11_readsNumber_33 : decode cX11_readsNumber 33 = .ok (.bipush 57, 2) := by decide +kernel
theorem dX11_readsNumber_35 : decode cX11_readsNumber 35 = .ok (.invokestatic 82, 3) := by decide +kernel
theorem dX11_readsNumber_38 : decode cX11_readsNumber 38 = .ok (.ifCond .eq 32, 3) := by decide +kernel
theorem dX11_readsNumber_41 : decode cX11_readsNumber 41 = .ok (.bipush 10, 2) := by decide +kernel
theorem dX11_readsNumber_43 : decode cX11_readsNumber 43 = .ok (.iload_n 3, 1) := by decide +kernel
theorem dX11_readsNumber_44 : decode cX11_readsNumber 44 = .ok (.imul, 1) := by decide +kernel
theorem dX11_readsNumber_45 : decode cX11_readsNumber 45 = .ok (.aload_n 0, 1) := by decide +kernel
theorem dX11_readsNumber_46 : decode cX11_readsNumber 46 = .ok (.invokevirtual 78, 3) := by decide +kernel
theorem dX11_readsNumber_49 : decode cX11_readsNumber 49 = .ok (.iadd, 1) := by decide +kernel
theorem dX11_readsNumber_50 : decode cX11_readsNumber 50 = .ok (.bipush 48, 2) := by decide +kernel
theorem dX11_readsNumber_52 : decode cX11_readsNumber 52 = .ok (.isub, 1) := by decide +kernel
theorem dX11_readsNumber_53 : decode cX11_readsNumber 53 = .ok (.istore_n 3, 1) := by decide +kernel
theorem dX11_readsNumber_54 : decode cX11_readsNumber 54 = .ok (.aload_n 0, 1) := by decide +kernel
theorem dX11_readsNumber_55 : decode cX11_readsNumber 55 = .ok (.dup, 1) := by decide +kernel
theorem dX11_readsNumber_56 : decode cX11_readsNumber 56 = .ok (.getfield 75, 3) := by decide +kernel
theorem dX11_readsNumber_59 : decode cX11_readsNumber 59 = .ok (.iconst 1, 1) := by decide +kernel
theorem dX11_readsNumber_60 : decode cX11_readsNumber 60 = .ok (.iadd, 1) := by decide +kernel
theorem dX11_readsNumber_61 : decode cX11_readsNumber 61 = .ok (.putfield 75, 3) := by decide +kernel
theorem dX11_readsNumber_64 : decode cX11_readsNumber 64 = .ok (.iinc 4 1, 3) := by decide +kernel
theorem dX11_readsNumber_67 : decode cX11_readsNumber 67 = .ok (.goto (-46), 3) := by decide +kernel
theorem dX11_readsNumber_70 : decode cX11_readsNumber 70 = .ok (.aload_n 0, 1) := by decide +kernel
theorem dX11_readsNumber_71 : decode cX11_readsNumber 71 = .ok (.getfield 46, 3) := by decide +kernel
theorem dX11_readsNumber_74 : decode cX11_readsNumber 74 = .ok (.iload_n 1, 1) := by decide +kernel
theorem dX11_readsNumber_75 : decode cX11_readsNumber 75 = .ok (.iload_n 3, 1) := by decide +kernel
theorem dX11_readsNumber_76 : decode cX11_readsNumber 76 = .ok (.iastore, 1) := by decide +kernel
theorem dX11_readsNumber_77 : decode cX11_readsNumber 77 = .ok (.iconst 1, 1) := by decide +kernel
theorem dX11_readsNumber_78 : decode cX11_readsNumber 78 = .ok (.ireturn, 1) := by decide +kernel
theorem dX11_statement_0 : decode cX11_statement 0 = .ok (.aload_n 0, 1) := by decide +kernel
theorem dX11_statement_1 : decode cX11_statement 1 = .ok (.invokevirtual 78, 3) := by decide +kernel
theorem dX11_statement_4 : decode cX11_statement 4 = .ok (.istore_n 1, 1) := by decide +kernel
theorem dX11_statement_5 : decode cX11_statement 5 = .ok (.iload_n 1, 1) := by decide +kernel
theorem dX11_statement_6 : decode cX11_statement 6 = .ok (.bipush 99, 2) := by decide +kernel
theorem dX11_statement_8 : decode cX11_statement 8 = .ok (.if_icmp .eq 23, 3) := by decide +kernel
theorem dX11_statement_11 : decode cX11_statement 11 = .ok (.iload_n 1, 1) := by decide +kernel
theorem dX11_statement_12 : decode cX11_statement 12 = .ok (.bipush 100, 2) := by decide +kernel
theorem dX11_statement_14 : decode cX11_statement 14 = .ok (.if_icmp .eq 17, 3) := by decide +kernel
theorem dX11_statement_17 : decode cX11_statement 17 = .ok (.iload_n 1, 1) := by decide +kernel
theorem dX11_statement_18 : decode cX11_statement 18 = .ok (.bipush 114, 2) := by decide +kernel
theorem dX11_statement_20 : decode cX11_statement 20 = .ok (.if_icmp .eq 11, 3) := by decide +kernel
theorem dX11_statement_23 : decode cX11_statement 23 = .ok (.iload_n 1, 1) := by decide +kernel
theorem dX11_statement_24 : decode cX11_statement 24 = .ok (.bipush 112, 2) := by decide +kernel
theorem dX11_statement_26 : decode cX11_statement 26 = .ok (.if_icmp .eq 5, 3) := by decide +kernel
theorem dX11_statement_29 : decode cX11_statement 29 = .ok (.iconst 0, 1) := by decide +kernel
theorem dX11_statement_30 : decode cX11_statement 30 = .ok (.ireturn, 1) := by decide +kernel
theorem dX11_statement_31 : decode cX11_statement 31 = .ok (.aload_n 0, 1) := by decide +kernel
theorem dX11_statement_32 : decode cX11_statement 32 = .ok (.getfield 40, 3) := by decide +kernel
theorem dX11_statement_35 : decode cX11_statement 35 = .ok (.aload_n 0, 1) := by decide +kernel
theorem dX11_statement_36 : decode cX11_statement 36 = .ok (.getfield 86, 3) := by decide +kernel
theorem dX11_statement_39 : decode cX11_statement 39 = .ok (.iload_n 1, 1) := by decide +kernel
theorem dX11_statement_40 : decode cX11_statement 40 = .ok (.iastore, 1) := by decide +kernel
theorem dX11_statement_41 : decode cX11_statement 41 = .ok (.aload_n 0, 1) := by decide +kernel
theorem dX11_statement_42 : decode cX11_statement 42 = .ok (.getfield 43, 3) := by decide +kernel
theorem dX11_statement_45 : decode cX11_statement 45 = .ok (.aload_n 0, 1) := by decide +kernel
theorem dX11_statement_46 : decode cX11_statement 46 = .ok (.getfield 86, 3) := by decide +kernel
theorem dX11_statement_49 : decode cX11_statement 49 = .ok (.aload_n 0, 1) := by decide +kernel
theorem dX11_statement_50 : decode cX11_statement 50 = .ok (.getfield 75, 3) := by decide +kernel
theorem dX11_statement_53 : decode cX11_statement 53 = .ok (.iastore, 1) := by decide +kernel
theorem dX11_statement_54 : decode cX11_statement 54 = .ok (.aload_n 0, 1) := by decide +kernel
theorem dX11_statement_55 : decode cX11_statement 55 = .ok (.dup, 1) := by decide +kernel
theorem dX11_statement_56 : decode cX11_statement 56 = .ok (.getfield 75, 3) := by decide +kernel
theorem dX11_statement_59 : decode cX11_statement 59 = .ok (.iconst 1, 1) := by decide +kernel
theorem dX11_statement_60 : decode cX11_statement 60 = .ok (.iadd, 1) := by decide +kernel
theorem dX11_statement_61 : decode cX11_statement 61 = .ok (.putfield 75, 3) := by decide +kernel
theorem dX11_statement_64 : decode cX11_statement 64 = .ok (.iconst 4, 1) := by decide +kernel
theorem dX11_statement_65 : decode cX11_statement 65 = .ok (.aload_n 0, 1) := by decide +kernel
theorem dX11_statement_66 : decode cX11_statement 66 = .ok (.getfield 86, 3) := by decide +kernel
theorem dX11_statement_69 : decode cX11_statement 69 = .ok (.imul, 1) := by decide +kernel
theorem dX11_statement_70 : decode cX11_statement 70 = .ok (.istore_n 2, 1) := by decide +kernel
theorem dX11_statement_71 : decode cX11_statement 71 = .ok (.iload_n 1, 1) := by decide +kernel
theorem dX11_statement_72 : decode cX11_statement 72 = .ok (.bipush 99, 2) := by decide +kernel
theorem dX11_statement_74 : decode cX11_statement 74 = .ok (.if_icmp .ne 7, 3) := by decide +kernel
theorem dX11_statement_77 : decode cX11_statement 77 = .ok (.iconst 3, 1) := by decide +kernel
theorem dX11_statement_78 : decode cX11_statement 78 = .ok (.goto 4, 3) := by decide +kernel
theorem dX11_statement_81 : decode cX11_statement 81 = .ok (.iconst 2, 1) := by decide +kernel
theorem dX11_statement_82 : decode cX11_statement 82 = .ok (.istore_n 3, 1) := by decide +kernel
theorem dX11_statement_83 : decode cX11_statement 83 = .ok (.iconst 0, 1) := by decide +kernel
theorem dX11_statement_84 : decode cX11_statement 84 = .ok (.istore 4, 2) := by decide +kernel
theorem dX11_statement_86 : decode cX11_statement 86 = .ok (.iload 4, 2) := by decide +kernel
theorem dX11_statement_88 : decode cX11_statement 88 = .ok (.iload_n 3, 1) := by decide +kernel
theorem dX11_statement_89 : decode cX11_statement 89 = .ok (.if_icmp .ge 23, 3) := by decide +kernel
theorem dX11_statement_92 : decode cX11_statement 92 = .ok (.aload_n 0, 1) := by decide +kernel
theorem dX11_statement_93 : decode cX11_statement 93 = .ok (.iload_n 2, 1) := by decide +kernel
theorem dX11_statement_94 : decode cX11_statement 94 = .ok (.iload 4, 2) := by decide +kernel
theorem dX11_statement_96 : decode cX11_statement 96 = .ok (.iadd, 1) := by decide +kernel
theorem dX11_statement_97 : decode cX11_statement 97 = .ok (.iconst 1, 1) := by decide +kernel
theorem dX11_statement_98 : decode cX11_statement 98 = .ok (.invokevirtual 89, 3) := by decide +kernel
theorem dX11_statement_101 : decode cX11_statement 101 = .ok (.ifCond .ne 5, 3) := by decide +kernel
theorem dX11_statement_104 : decode cX11_statement 104 = .ok (.iconst 0, 1) := by decide +kernel
theorem dX11_statement_105 : decode cX11_statement 105 = .ok (.ireturn, 1) := by decide +kernel
theorem dX11_statement_106 : decode cX11_statement 106 = .ok (.iinc 4 1, 3) := by decide +kernel
theorem dX11_statement_109 : decode cX11_statement 109 = .ok (.goto (-23), 3) := by decide +kernel
theorem dX11_statement_112 : decode cX11_statement 112 = .ok (.iload_n 1, 1) := by decide +kernel
theorem dX11_statement_113 : decode cX11_statement 113 = .ok (.bipush 99, 2) := by decide +kernel
theorem dX11_statement_115 : decode cX11_statement 115 = .ok (.if_icmp .eq 9, 3) := by decide +kernel
theorem dX11_statement_118 : decode cX11_statement 118 = .ok (.iload_n 1, 1) := by decide +kernel
theorem dX11_statement_119 : decode cX11_statement 119 = .ok (.bipush 100, 2) := by decide +kernel
theorem dX11_statement_121 : decode cX11_statement 121 = .ok (.if_icmp .ne 16, 3) := by decide +kernel
theorem dX11_statement_124 : decode cX11_statement 124 = .ok (.aload_n 0, 1) := by decide +kernel
theorem dX11_statement_125 : decode cX11_statement 125 = .ok (.iload_n 2, 1) := by decide +kernel
theorem dX11_statement_126 : decode cX11_statement 126 = .ok (.iload_n 3, 1) := by decide +kernel
theorem dX11_statement_127 : decode cX11_statement 127 = .ok (.iadd, 1) := by decide +kernel
theorem dX11_statement_128 : decode cX11_statement 128 = .ok (.iconst 3, 1) := by decide +kernel
theorem dX11_statement_129 : decode cX11_statement 129 = .ok (.invokevirtual 89, 3) := by decide +kernel
theorem dX11_statement_132 : decode cX11_statement 132 = .ok (.ifCond .ne 5, 3) := by decide +kernel
theorem dX11_statement_135 : decode cX11_statement 135 = .ok (.iconst 0, 1) := by decide +kernel
theorem dX11_statement_136 : decode cX11_statement 136 = .ok (.ireturn, 1) := by decide +kernel
theorem dX11_statement_137 : decode cX11_statement 137 = .ok (.aload_n 0, 1) := by decide +kernel
theorem dX11_statement_138 : decode cX11_statement 138 = .ok (.invokevirtual 78, 3) := by decide +kernel
theorem dX11_statement_141 : decode cX11_statement 141 = .ok (.bipush 59, 2) := by decide +kernel
theorem dX11_statement_143 : decode cX11_statement 143 = .ok (.if_icmp .eq 5, 3) := by decide +kernel
theorem dX11_statement_146 : decode cX11_statement 146 = .ok (.iconst 0, 1) := by decide +kernel
theorem dX11_statement_147 : decode cX11_statement 147 = .ok (.ireturn, 1) := by decide +kernel
theorem dX11_statement_148 : decode cX11_statement 148 = .ok (.aload_n 0, 1) := by decide +kernel
theorem dX11_statement_149 : decode cX11_statement 149 = .ok (.dup, 1) := by decide +kernel
theorem dX11_statement_150 : decode cX11_statement 150 = .ok (.getfield 75, 3) := by decide +kernel
theorem dX11_statement_153 : decode cX11_statement 153 = .ok (.iconst 1, 1) := by decide +kernel
theorem dX11_statement_154 : decode cX11_statement 154 = .ok (.iadd, 1) := by decide +kernel
theorem dX11_statement_155 : decode cX11_statement 155 = .ok (.putfield 75, 3) := by decide +kernel
theorem dX11_statement_158 : decode cX11_statement 158 = .ok (.iconst 1, 1) := by decide +kernel
theorem dX11_statement_159 : decode cX11_statement 159 = .ok (.ireturn, 1) := by decide +kernel
theorem dX11_comesCandle_0 : decode cX11_comesCandle 0 = .ok (.aload_n 0, 1) := by decide +kernel
theorem dX11_comesCandle_1 : decode cX11_comesCandle 1 = .ok (.getfield 46, 3) := by decide +kernel
theorem dX11_comesCandle_4 : decode cX11_comesCandle 4 = .ok (.iload_n 1, 1) := by decide +kernel
theorem dX11_comesCandle_5 : decode cX11_comesCandle 5 = .ok (.iaload, 1) := by decide +kernel
theorem dX11_comesCandle_6 : decode cX11_comesCandle 6 = .ok (.iconst 5, 1) := by decide +kernel
theorem dX11_comesCandle_7 : decode cX11_comesCandle 7 = .ok (.if_icmp .gt 26, 3) := by decide +kernel
theorem dX11_comesCandle_10 : decode cX11_comesCandle 10 = .ok (.aload_n 0, 1) := by decide +kernel
theorem dX11_comesCandle_11 : decode cX11_comesCandle 11 = .ok (.getfield 46, 3) := by decide +kernel
theorem dX11_comesCandle_14 : decode cX11_comesCandle 14 = .ok (.iload_n 1, 1) := by decide +kernel
theorem dX11_comesCandle_15 : decode cX11_comesCandle 15 = .ok (.iconst 2, 1) := by decide +kernel
theorem dX11_comesCandle_16 : decode cX11_comesCandle 16 = .ok (.iadd, 1) := by decide +kernel
theorem dX11_comesCandle_17 : decode cX11_comesCandle 17 = .ok (.iaload, 1) := by decide +kernel
theorem dX11_comesCandle_18 : decode cX11_comesCandle 18 = .ok (.invokestatic 60, 3) := by decide +kernel
theorem dX11_comesCandle_21 : decode cX11_comesCandle 21 = .ok (.ifCond .eq 12, 3) := by decide +kernel
theorem dX11_comesCandle_24 : decode cX11_comesCandle 24 = .ok (.aload_n 0, 1) := by decide +kernel
theorem dX11_comesCandle_25 : decode cX11_comesCandle 25 = .ok (.getfield 56, 3) := by decide +kernel
theorem dX11_comesCandle_28 : decode cX11_comesCandle 28 = .ok (.bipush 6, 2) := by decide +kernel
theorem dX11_comesCandle_30 : decode cX11_comesCandle 30 = .ok (.if_icmp .ne 5, 3) := by decide +kernel
theorem dX11_comesCandle_33 : decode cX11_comesCandle 33 = .ok (.iconst 0, 1) := by decide +kernel
theorem dX11_comesCandle_34 : decode cX11_comesCandle 34 = .ok (.ireturn, 1) := by decide +kernel
theorem dX11_comesCandle_35 : decode cX11_comesCandle 35 = .ok (.aload_n 0, 1) := by decide +kernel
theorem dX11_comesCandle_36 : decode cX11_comesCandle 36 = .ok (.getfield 13, 3) := by decide +kernel
theorem dX11_comesCandle_39 : decode cX11_comesCandle 39 = .ok (.aload_n 0, 1) := by decide +kernel
theorem dX11_comesCandle_40 : decode cX11_comesCandle 40 = .ok (.getfield 56, 3) := by decide +kernel
theorem dX11_comesCandle_43 : decode cX11_comesCandle 43 = .ok (.aload_n 0, 1) := by decide +kernel
theorem dX11_comesCandle_44 : decode cX11_comesCandle 44 = .ok (.getfield 46, 3) := by decide +kernel
theorem dX11_comesCandle_47 : decode cX11_comesCandle 47 = .ok (.iload_n 1, 1) := by decide +kernel
theorem dX11_comesCandle_48 : decode cX11_comesCandle 48 = .ok (.iaload, 1) := by decide +kernel
theorem dX11_comesCandle_49 : decode cX11_comesCandle 49 = .ok (.iastore, 1) := by decide +kernel
theorem dX11_comesCandle_50 : decode cX11_comesCandle 50 = .ok (.aload_n 0, 1) := by decide +kernel
theorem dX11_comesCandle_51 : decode cX11_comesCandle 51 = .ok (.getfield 16, 3) := by decide +kernel
theorem dX11_comesCandle_54 : decode cX11_comesCandle 54 = .ok (.aload_n 0, 1) := by decide +kernel
theorem dX11_comesCandle_55 : decode cX11_comesCandle 55 = .ok (.getfield 56, 3) := by decide +kernel
theorem dX11_comesCandle_58 : decode cX11_comesCandle 58 = .ok (.aload_n 0, 1) := by decide +kernel
theorem dX11_comesCandle_59 : decode cX11_comesCandle 59 = .ok (.getfield 46, 3) := by decide +kernel
theorem dX11_comesCandle_62 : decode cX11_comesCandle 62 = .ok (.iload_n 1, 1) := by decide +kernel
theorem dX11_comesCandle_63 : decode cX11_comesCandle 63 = .ok (.iconst 1, 1) := by decide +kernel
theorem dX11_comesCandle_64 : decode cX11_comesCandle 64 = .ok (.iadd, 1) := by decide +kernel
theorem dX11_comesCandle_65 : decode cX11_comesCandle 65 = .ok (.iaload, 1) := by decide +kernel
theorem dX11_comesCandle_66 : decode cX11_comesCandle 66 = .ok (.iastore, 1) := by decide +kernel
theorem dX11_comesCandle_67 : decode cX11_comesCandle 67 = .ok (.aload_n 0, 1) := by decide +kernel
theorem dX11_comesCandle_68 : decode cX11_comesCandle 68 = .ok (.getfield 22, 3) := by decide +kernel
theorem dX11_comesCandle_71 : decode cX11_comesCandle 71 = .ok (.aload_n 0, 1) := by decide +kernel
theorem dX11_comesCandle_72 : decode cX11_comesCandle 72 = .ok (.getfield 56, 3) := by decide +kernel
theorem dX11_comesCandle_75 : decode cX11_comesCandle 75 = .ok (.aload_n 0, 1) := by decide +kernel
theorem dX11_comesCandle_76 : decode cX11_comesCandle 76 = .ok (.getfield 46, 3) := by decide +kernel
theorem dX11_comesCandle_79 : decode cX11_comesCandle 79 = .ok (.iload_n 1, 1) := by decide +kernel
theorem dX11_comesCandle_80 : decode cX11_comesCandle 80 = .ok (.iconst 2, 1) := by decide +kernel
theorem dX11_comesCandle_81 : decode cX11_comesCandle 81 = .ok (.iadd, 1) := by decide +kernel
theorem dX11_comesCandle_82 : decode cX11_comesCandle 82 = .ok (.iaload, 1) := by decide +kernel
theorem dX11_comesCandle_83 : decode cX11_comesCandle 83 = .ok (.iastore, 1) := by decide +kernel
theorem dX11_comesCandle_84 : decode cX11_comesCandle 84 = .ok (.aload_n 0, 1) := by decide +kernel
theorem dX11_comesCandle_85 : decode cX11_comesCandle 85 = .ok (.getfield 25, 3) := by decide +kernel
theorem dX11_comesCandle_88 : decode cX11_comesCandle 88 = .ok (.aload_n 0, 1) := by decide +kernel
theorem dX11_comesCandle_89 : decode cX11_comesCandle 89 = .ok (.getfield 56, 3) := by decide +kernel
theorem dX11_comesCandle_92 : decode cX11_comesCandle 92 = .ok (.aload_n 0, 1) := by decide +kernel
theorem dX11_comesCandle_93 : decode cX11_comesCandle 93 = .ok (.getfield 46, 3) := by decide +kernel
theorem dX11_comesCandle_96 : decode cX11_comesCandle 96 = .ok (.iload_n 1, 1) := by decide +kernel
theorem dX11_comesCandle_97 : decode cX11_comesCandle 97 = .ok (.iconst 2, 1) := by decide +kernel
theorem dX11_comesCandle_98 : decode cX11_comesCandle 98 = .ok (.iadd, 1) := by decide +kernel
theorem dX11_comesCandle_99 : decode cX11_comesCandle 99 = .ok (.iaload, 1) := by decide +kernel
theorem dX11_comesCandle_100 : decode cX11_comesCandle 100 = .ok (.iastore, 1) := by decide +kernel
theorem dX11_comesCandle_101 : decode cX11_comesCandle 101 = .ok (.aload_n 0, 1) := by decide +kernel
theorem dX11_comesCandle_102 : decode cX11_comesCandle 102 = .ok (.getfield 19, 3) := by decide +kernel
theorem dX11_comesCandle_105 : decode cX11_comesCandle 105 = .ok (.aload_n 0, 1) := by decide +kernel
theorem dX11_comesCandle_106 : decode cX11_comesCandle 106 = .ok (.getfield 56, 3) := by decide +kernel
theorem dX11_comesCandle_109 : decode cX11_comesCandle 109 = .ok (.aload_n 0, 1) := by decide +kernel
theorem dX11_comesCandle_110 : decode cX11_comesCandle 110 = .ok (.getfield 46, 3) := by decide +kernel
theorem dX11_comesCandle_113 : decode cX11_comesCandle 113 = .ok (.iload_n 1, 1) := by decide +kernel
theorem dX11_comesCandle_114 : decode cX11_comesCandle 114 = .ok (.iconst 3, 1) := by decide +kernel
theorem dX11_comesCandle_115 : decode cX11_comesCandle 115 = .ok (.iadd, 1) := by decide +kernel
theorem dX11_comesCandle_116 : decode cX11_comesCandle 116 = .ok (.iaload, 1) := by decide +kernel
theorem dX11_comesCandle_117 : decode cX11_comesCandle 117 = .ok (.iastore, 1) := by decide +kernel
theorem dX11_comesCandle_118 : decode cX11_comesCandle 118 = .ok (.aload_n 0, 1) := by decide +kernel
theorem dX11_comesCandle_119 : decode cX11_comesCandle 119 = .ok (.getfield 28, 3) := by decide +kernel
theorem dX11_comesCandle_122 : decode cX11_comesCandle 122 = .ok (.aload_n 0, 1) := by decide +kernel
theorem dX11_comesCandle_123 : decode cX11_comesCandle 123 = .ok (.getfield 56, 3) := by decide +kernel
theorem dX11_comesCandle_126 : decode cX11_comesCandle 126 = .ok (.iconst 0, 1) := by decide +kernel
theorem dX11_comesCandle_127 : decode cX11_comesCandle 127 = .ok (.iastore, 1) := by decide +kernel
theorem dX11_comesCandle_128 : decode cX11_comesCandle 128 = .ok (.aload_n 0, 1) := by decide +kernel
theorem dX11_comesCandle_129 : decode cX11_comesCandle 129 = .ok (.dup, 1) := by decide +kernel
theorem dX11_comesCandle_130 : decode cX11_comesCandle 130 = .ok (.getfield 56, 3) := by decide +kernel
theorem dX11_comesCandle_133 : decode cX11_comesCandle 133 = .ok (.iconst 1, 1) := by decide +kernel
theorem dX11_comesCandle_134 : decode cX11_comesCandle 134 = .ok (.iadd, 1) := by decide +kernel
theorem dX11_comesCandle_135 : decode cX11_comesCandle 135 = .ok (.putfield 56, 3) := by decide +kernel
theorem dX11_comesCandle_138 : decode cX11_comesCandle 138 = .ok (.iconst 1, 1) := by decide +kernel
theorem dX11_comesCandle_139 : decode cX11_comesCandle 139 = .ok (.ireturn, 1) := by decide +kernel
theorem dX11_comes_0 : decode cX11_comes 0 = .ok (.iconst 4, 1) := by decide +kernel
theorem dX11_comes_1 : decode cX11_comes 1 = .ok (.iload_n 1, 1) := by decide +kernel
theorem dX11_comes_2 : decode cX11_comes 2 = .ok (.imul, 1) := by decide +kernel
theorem dX11_comes_3 : decode cX11_comes 3 = .ok (.istore_n 2, 1) := by decide +kernel
theorem dX11_comes_4 : decode cX11_comes 4 = .ok (.aload_n 0, 1) := by decide +kernel
theorem dX11_comes_5 : decode cX11_comes 5 = .ok (.getfield 40, 3) := by decide +kernel
theorem dX11_comes_8 : decode cX11_comes 8 = .ok (.iload_n 1, 1) := by decide +kernel
theorem dX11_comes_9 : decode cX11_comes 9 = .ok (.iaload, 1) := by decide +kernel
theorem dX11_comes_10 : decode cX11_comes 10 = .ok (.lookupswitch 129 #[(99, 34), (100, 40), (114, 94)], 34) := by decide +kernel
theorem dX11_comes_44 : decode cX11_comes 44 = .ok (.aload_n 0, 1) := by decide +kernel
theorem dX11_comes_45 : decode cX11_comes 45 = .ok (.iload_n 2, 1) := by decide +kernel
theorem dX11_comes_46 : decode cX11_comes 46 = .ok (.invokevirtual 93, 3) := by decide +kernel
theorem dX11_comes_49 : decode cX11_comes 49 = .ok (.ireturn, 1) := by decide +kernel
theorem dX11_comes_50 : decode cX11_comes 50 = .ok (.aload_n 0, 1) := by decide +kernel
theorem dX11_comes_51 : decode cX11_comes 51 = .ok (.getfield 46, 3) := by decide +kernel
theorem dX11_comes_54 : decode cX11_comes 54 = .ok (.iload_n 2, 1) := by decide +kernel
theorem dX11_comes_55 : decode cX11_comes 55 = .ok (.iaload, 1) := by decide +kernel
theorem dX11_comes_56 : decode cX11_comes 56 = .ok (.aload_n 0, 1) := by decide +kernel
theorem dX11_comes_57 : decode cX11_comes 57 = .ok (.getfield 46, 3) := by decide +kernel
theorem dX11_comes_60 : decode cX11_comes 60 = .ok (.iload_n 2, 1) := by decide +kernel
theorem dX11_comes_61 : decode cX11_comes 61 = .ok (.iconst 1, 1) := by decide +kernel
theorem dX11_comes_62 : decode cX11_comes 62 = .ok (.iadd, 1) := by decide +kernel
theorem dX11_comes_63 : decode cX11_comes 63 = .ok (.iaload, 1) := by decide +kernel
theorem dX11_comes_64 : decode cX11_comes 64 = .ok (.invokestatic 96, 3) := by decide +kernel
theorem dX11_comes_67 : decode cX11_comes 67 = .ok (.ifCond .ne 5, 3) := by decide +kernel
theorem dX11_comes_70 : decode cX11_comes 70 = .ok (.iconst 0, 1) := by decide +kernel
theorem dX11_comes_71 : decode cX11_comes 71 = .ok (.ireturn, 1) := by decide +kernel
theorem dX11_comes_72 : decode cX11_comes 72 = .ok (.aload_n 0, 1) := by decide +kernel
theorem dX11_comes_73 : decode cX11_comes 73 = .ok (.getfield 34, 3) := by decide +kernel
theorem dX11_comes_76 : decode cX11_comes 76 = .ok (.iconst 4, 1) := by decide +kernel
theorem dX11_comes_77 : decode cX11_comes 77 = .ok (.aload_n 0, 1) := by decide +kernel
theorem dX11_comes_78 : decode cX11_comes 78 = .ok (.getfield 46, 3) := by decide +kernel
theorem dX11_comes_81 : decode cX11_comes 81 = .ok (.iload_n 2, 1) := by decide +kernel
theorem dX11_comes_82 : decode cX11_comes 82 = .ok (.iaload, 1) := by decide +kernel
theorem dX11_comes_83 : decode cX11_comes 83 = .ok (.imul, 1) := by decide +kernel
theorem dX11_comes_84 : decode cX11_comes 84 = .ok (.aload_n 0, 1) := by decide +kernel
theorem dX11_comes_85 : decode cX11_comes 85 = .ok (.getfield 46, 3) := by decide +kernel
theorem dX11_comes_88 : decode cX11_comes 88 = .ok (.iload_n 2, 1) := by decide +kernel
theorem dX11_comes_89 : decode cX11_comes 89 = .ok (.iconst 1, 1) := by decide +kernel
theorem dX11_comes_90 : decode cX11_comes 90 = .ok (.iadd, 1) := by decide +kernel
theorem dX11_comes_91 : decode cX11_comes 91 = .ok (.iaload, 1) := by decide +kernel
theorem dX11_comes_92 : decode cX11_comes 92 = .ok (.iadd, 1) := by decide +kernel
theorem dX11_comes_93 : decode cX11_comes 93 = .ok (.aload_n 0, 1) := by decide +kernel
theorem dX11_comes_94 : decode cX11_comes 94 = .ok (.getfield 46, 3) := by decide +kernel
theorem dX11_comes_97 : decode cX11_comes 97 = .ok (.iload_n 2, 1) := by decide +kernel
theorem dX11_comes_98 : decode cX11_comes 98 = .ok (.iconst 2, 1) := by decide +kernel
theorem dX11_comes_99 : decode cX11_comes 99 = .ok (.iadd, 1) := by decide +kernel
theorem dX11_comes_100 : decode cX11_comes 100 = .ok (.iaload, 1) := by decide +kernel
theorem dX11_comes_101 : decode cX11_comes 101 = .ok (.iastore, 1) := by decide +kernel
theorem dX11_comes_102 : decode cX11_comes 102 = .ok (.iconst 1, 1) := by decide +kernel
theorem dX11_comes_103 : decode cX11_comes 103 = .ok (.ireturn, 1) := by decide +kernel
theorem dX11_comes_104 : decode cX11_comes 104 = .ok (.aload_n 0, 1) := by decide +kernel
theorem dX11_comes_105 : decode cX11_comes 105 = .ok (.getfield 46, 3) := by decide +kernel
theorem dX11_comes_108 : decode cX11_comes 108 = .ok (.iload_n 2, 1) := by decide +kernel
theorem dX11_comes_109 : decode cX11_comes 109 = .ok (.iaload, 1) := by decide +kernel
theorem dX11_comes_110 : decode cX11_comes 110 = .ok (.invokestatic 60, 3) := by decide +kernel
theorem dX11_comes_113 : decode cX11_comes 113 = .ok (.ifCond .ne 5, 3) := by decide +kernel
theorem dX11_comes_116 : decode cX11_comes 116 = .ok (.iconst 0, 1) := by decide +kernel
theorem dX11_comes_117 : decode cX11_comes 117 = .ok (.ireturn, 1) := by decide +kernel
theorem dX11_comes_118 : decode cX11_comes 118 = .ok (.aload_n 0, 1) := by decide +kernel
theorem dX11_comes_119 : decode cX11_comes 119 = .ok (.getfield 31, 3) := by decide +kernel
theorem dX11_comes_122 : decode cX11_comes 122 = .ok (.aload_n 0, 1) := by decide +kernel
theorem dX11_comes_123 : decode cX11_comes 123 = .ok (.getfield 46, 3) := by decide +kernel
theorem dX11_comes_126 : decode cX11_comes 126 = .ok (.iload_n 2, 1) := by decide +kernel
theorem dX11_comes_127 : decode cX11_comes 127 = .ok (.iaload, 1) := by decide +kernel
theorem dX11_comes_128 : decode cX11_comes 128 = .ok (.aload_n 0, 1) := by decide +kernel
theorem dX11_comes_129 : decode cX11_comes 129 = .ok (.getfield 46, 3) := by decide +kernel
theorem dX11_comes_132 : decode cX11_comes 132 = .ok (.iload_n 2, 1) := by decide +kernel
theorem dX11_comes_133 : decode cX11_comes 133 = .ok (.iconst 1, 1) := by decide +kernel
theorem dX11_comes_134 : decode cX11_comes 134 = .ok (.iadd, 1) := by decide +kernel
theorem dX11_comes_135 : decode cX11_comes 135 = .ok (.iaload, 1) := by decide +kernel
theorem dX11_comes_136 : decode cX11_comes 136 = .ok (.iastore, 1) := by decide +kernel
theorem dX11_comes_137 : decode cX11_comes 137 = .ok (.iconst 1, 1) := by decide +kernel
theorem dX11_comes_138 : decode cX11_comes 138 = .ok (.ireturn, 1) := by decide +kernel
theorem dX11_comes_139 : decode cX11_comes 139 = .ok (.aload_n 0, 1) := by decide +kernel
theorem dX11_comes_140 : decode cX11_comes 140 = .ok (.aload_n 0, 1) := by decide +kernel
theorem dX11_comes_141 : decode cX11_comes 141 = .ok (.getfield 46, 3) := by decide +kernel
theorem dX11_comes_144 : decode cX11_comes 144 = .ok (.iload_n 2, 1) := by decide +kernel
theorem dX11_comes_145 : decode cX11_comes 145 = .ok (.iaload, 1) := by decide +kernel
theorem dX11_comes_146 : decode cX11_comes 146 = .ok (.invokevirtual 99, 3) := by decide +kernel
theorem dX11_comes_149 : decode cX11_comes 149 = .ok (.ifCond .eq 17, 3) := by decide +kernel
theorem dX11_comes_152 : decode cX11_comes 152 = .ok (.aload_n 0, 1) := by decide +kernel
theorem dX11_comes_153 : decode cX11_comes 153 = .ok (.getfield 46, 3) := by decide +kernel
theorem dX11_comes_156 : decode cX11_comes 156 = .ok (.iload_n 2, 1) := by decide +kernel
theorem dX11_comes_157 : decode cX11_comes 157 = .ok (.iconst 1, 1) := by decide +kernel
theorem dX11_comes_158 : decode cX11_comes 158 = .ok (.iadd, 1) := by decide +kernel
theorem dX11_comes_159 : decode cX11_comes 159 = .ok (.iaload, 1) := by decide +kernel
theorem dX11_comes_160 : decode cX11_comes 160 = .ok (.invokestatic 60, 3) := by decide +kernel
theorem dX11_comes_163 : decode cX11_comes 163 = .ok (.ifCond .ne 5, 3) := by decide +kernel
theorem dX11_comes_166 : decode cX11_comes 166 = .ok (.iconst 0, 1) := by decide +kernel
theorem dX11_comes_167 : decode cX11_comes 167 = .ok (.ireturn, 1) := by decide +kernel
theorem dX11_comes_168 : decode cX11_comes 168 = .ok (.aload_n 0, 1) := by decide +kernel
theorem dX11_comes_169 : decode cX11_comes 169 = .ok (.getfield 25, 3) := by decide +kernel
theorem dX11_comes_172 : decode cX11_comes 172 = .ok (.aload_n 0, 1) := by decide +kernel
theorem dX11_comes_173 : decode cX11_comes 173 = .ok (.getfield 46, 3) := by decide +kernel
theorem dX11_comes_176 : decode cX11_comes 176 = .ok (.iload_n 2, 1) := by decide +kernel
theorem dX11_comes_177 : decode cX11_comes 177 = .ok (.iaload, 1) := by decide +kernel
theorem dX11_comes_178 : decode cX11_comes 178 = .ok (.aload_n 0, 1) := by decide +kernel
theorem dX11_comes_179 : decode cX11_comes 179 = .ok (.getfield 46, 3) := by decide +kernel
theorem dX11_comes_182 : decode cX11_comes 182 = .ok (.iload_n 2, 1) := by decide +kernel
theorem dX11_comes_183 : decode cX11_comes 183 = .ok (.iconst 1, 1) := by decide +kernel
theorem dX11_comes_184 : decode cX11_comes 184 = .ok (.iadd, 1) := by decide +kernel
theorem dX11_comes_185 : decode cX11_comes 185 = .ok (.iaload, 1) := by decide +kernel
theorem dX11_comes_186 : decode cX11_comes 186 = .ok (.iastore, 1) := by decide +kernel
theorem dX11_comes_187 : decode cX11_comes 187 = .ok (.aload_n 0, 1) := by decide +kernel
theorem dX11_comes_188 : decode cX11_comes 188 = .ok (.getfield 19, 3) := by decide +kernel
theorem dX11_comes_191 : decode cX11_comes 191 = .ok (.aload_n 0, 1) := by decide +kernel
theorem dX11_comes_192 : decode cX11_comes 192 = .ok (.getfield 46, 3) := by decide +kernel
theorem dX11_comes_195 : decode cX11_comes 195 = .ok (.iload_n 2, 1) := by decide +kernel
theorem dX11_comes_196 : decode cX11_comes 196 = .ok (.iaload, 1) := by decide +kernel
theorem dX11_comes_197 : decode cX11_comes 197 = .ok (.iaload, 1) := by decide +kernel
theorem dX11_comes_198 : decode cX11_comes 198 = .ok (.ifCond .le 15, 3) := by decide +kernel
theorem dX11_comes_201 : decode cX11_comes 201 = .ok (.aload_n 0, 1) := by decide +kernel
theorem dX11_comes_202 : decode cX11_comes 202 = .ok (.getfield 28, 3) := by decide +kernel
theorem dX11_comes_205 : decode cX11_comes 205 = .ok (.aload_n 0, 1) := by decide +kernel
theorem dX11_comes_206 : decode cX11_comes 206 = .ok (.getfield 46, 3) := by decide +kernel
theorem dX11_comes_209 : decode cX11_comes 209 = .ok (.iload_n 2, 1) := by decide +kernel
theorem dX11_comes_210 : decode cX11_comes 210 = .ok (.iaload, 1) := by decide +kernel
theorem dX11_comes_211 : decode cX11_comes 211 = .ok (.iconst 1, 1) := by decide +kernel
theorem dX11_comes_212 : decode cX11_comes 212 = .ok (.iastore, 1) := by decide +kernel
theorem dX11_comes_213 : decode cX11_comes 213 = .ok (.iconst 1, 1) := by decide +kernel
theorem dX11_comes_214 : decode cX11_comes 214 = .ok (.ireturn, 1) := by decide +kernel
theorem dX11_night_0 : decode cX11_night 0 = .ok (.aload_n 0, 1) := by decide +kernel
theorem dX11_night_1 : decode cX11_night 1 = .ok (.iconst 0, 1) := by decide +kernel
theorem dX11_night_2 : decode cX11_night 2 = .ok (.putfield 75, 3) := by decide +kernel
theorem dX11_night_5 : decode cX11_night 5 = .ok (.aload_n 0, 1) := by decide +kernel
theorem dX11_night_6 : decode cX11_night 6 = .ok (.iconst 0, 1) := by decide +kernel
theorem dX11_night_7 : decode cX11_night 7 = .ok (.putfield 86, 3) := by decide +kernel
theorem dX11_night_10 : decode cX11_night 10 = .ok (.iconst 1, 1) := by decide +kernel
theorem dX11_night_11 : decode cX11_night 11 = .ok (.istore_n 1, 1) := by decide +kernel
theorem dX11_night_12 : decode cX11_night 12 = .ok (.iload_n 1, 1) := by decide +kernel
theorem dX11_night_13 : decode cX11_night 13 = .ok (.ifCond .eq 47, 3) := by decide +kernel
theorem dX11_night_16 : decode cX11_night 16 = .ok (.aload_n 0, 1) := by decide +kernel
theorem dX11_night_17 : decode cX11_night 17 = .ok (.getfield 75, 3) := by decide +kernel
theorem dX11_night_20 : decode cX11_night 20 = .ok (.aload_n 0, 1) := by decide +kernel
theorem dX11_night_21 : decode cX11_night 21 = .ok (.getfield 68, 3) := by decide +kernel
theorem dX11_night_24 : decode cX11_night 24 = .ok (.if_icmp .lt 10, 3) := by decide +kernel
theorem dX11_night_27 : decode cX11_night 27 = .ok (.aload_n 0, 1) := by decide +kernel
theorem dX11_night_28 : decode cX11_night 28 = .ok (.getfield 86, 3) := by decide +kernel
theorem dX11_night_31 : decode cX11_night 31 = .ok (.ifCond .ne 29, 3) := by decide +kernel
theorem dX11_night_34 : decode cX11_night 34 = .ok (.aload_n 0, 1) := by decide +kernel
theorem dX11_night_35 : decode cX11_night 35 = .ok (.invokevirtual 102, 3) := by decide +kernel
theorem dX11_night_38 : decode cX11_night 38 = .ok (.istore_n 1, 1) := by decide +kernel
theorem dX11_night_39 : decode cX11_night 39 = .ok (.aload_n 0, 1) := by decide +kernel
theorem dX11_night_40 : decode cX11_night 40 = .ok (.dup, 1) := by decide +kernel
theorem dX11_night_41 : decode cX11_night 41 = .ok (.getfield 86, 3) := by decide +kernel
theorem dX11_night_44 : decode cX11_night 44 = .ok (.iload_n 1, 1) := by decide +kernel
theorem dX11_night_45 : decode cX11_night 45 = .ok (.ifCond .eq 7, 3) := by decide +kernel
theorem dX11_night_48 : decode cX11_night 48 = .ok (.iconst 1, 1) := by decide +kernel
theorem dX11_night_49 : decode cX11_night 49 = .ok (.goto 4, 3) := by decide +kernel
theorem dX11_night_52 : decode cX11_night 52 = .ok (.iconst 0, 1) := by decide +kernel
theorem dX11_night_53 : decode cX11_night 53 = .ok (.iadd, 1) := by decide +kernel
theorem dX11_night_54 : decode cX11_night 54 = .ok (.putfield 86, 3) := by decide +kernel
theorem dX11_night_57 : decode cX11_night 57 = .ok (.goto (-45), 3) := by decide +kernel
theorem dX11_night_60 : decode cX11_night 60 = .ok (.aload_n 0, 1) := by decide +kernel
theorem dX11_night_61 : decode cX11_night 61 = .ok (.iconst 0, 1) := by decide +kernel
theorem dX11_night_62 : decode cX11_night 62 = .ok (.putfield 68, 3) := by decide +kernel
theorem dX11_night_65 : decode cX11_night 65 = .ok (.iload_n 1, 1) := by decide +kernel
theorem dX11_night_66 : decode cX11_night 66 = .ok (.ifCond .ne 12, 3) := by decide +kernel
theorem dX11_night_69 : decode cX11_night 69 = .ok (.sipush (-1000), 3) := by decide +kernel
theorem dX11_night_72 : decode cX11_night 72 = .ok (.aload_n 0, 1) := by decide +kernel
theorem dX11_night_73 : decode cX11_night 73 = .ok (.getfield 75, 3) := by decide +kernel
theorem dX11_night_76 : decode cX11_night 76 = .ok (.isub, 1) := by decide +kernel
theorem dX11_night_77 : decode cX11_night 77 = .ok (.ireturn, 1) := by decide +kernel
theorem dX11_night_78 : decode cX11_night 78 = .ok (.aload_n 0, 1) := by decide +kernel
theorem dX11_night_79 : decode cX11_night 79 = .ok (.iconst 1, 1) := by decide +kernel
theorem dX11_night_80 : decode cX11_night 80 = .ok (.iconst 1, 1) := by decide +kernel
theorem dX11_night_81 : decode cX11_night 81 = .ok (.invokevirtual 106, 3) := by decide +kernel
theorem dX11_night_84 : decode cX11_night 84 = .ok (.iconst 0, 1) := by decide +kernel
theorem dX11_night_85 : decode cX11_night 85 = .ok (.istore_n 2, 1) := by decide +kernel
theorem dX11_night_86 : decode cX11_night 86 = .ok (.iload_n 2, 1) := by decide +kernel
theorem dX11_night_87 : decode cX11_night 87 = .ok (.aload_n 0, 1) := by decide +kernel
theorem dX11_night_88 : decode cX11_night 88 = .ok (.getfield 86, 3) := by decide +kernel
theorem dX11_night_91 : decode cX11_night 91 = .ok (.if_icmp .ge 37, 3) := by decide +kernel
theorem dX11_night_94 : decode cX11_night 94 = .ok (.aload_n 0, 1) := by decide +kernel
theorem dX11_night_95 : decode cX11_night 95 = .ok (.iload_n 2, 1) := by decide +kernel
theorem dX11_night_96 : decode cX11_night 96 = .ok (.invokevirtual 110, 3) := by decide +kernel
theorem dX11_night_99 : decode cX11_night 99 = .ok (.ifCond .eq 6, 3) := by decide +kernel
theorem dX11_night_102 : decode cX11_night 102 = .ok (.goto 20, 3) := by decide +kernel
theorem dX11_night_105 : decode cX11_night 105 = .ok (.aload_n 0, 1) := by decide +kernel
theorem dX11_night_106 : decode cX11_night 106 = .ok (.iconst 1, 1) := by decide +kernel
theorem dX11_night_107 : decode cX11_night 107 = .ok (.iconst 0, 1) := by decide +kernel
theorem dX11_night_108 : decode cX11_night 108 = .ok (.invokevirtual 106, 3) := by decide +kernel
theorem dX11_night_111 : decode cX11_night 111 = .ok (.sipush (-2000), 3) := by decide +kernel
theorem dX11_night_114 : decode cX11_night 114 = .ok (.aload_n 0, 1) := by decide +kernel
theorem dX11_night_115 : decode cX11_night 115 = .ok (.getfield 43, 3) := by decide +kernel
theorem dX11_night_118 : decode cX11_night 118 = .ok (.iload_n 2, 1) := by decide +kernel
theorem dX11_night_119 : decode cX11_night 119 = .ok (.iaload, 1) := by decide +kernel
theorem dX11_night_120 : decode cX11_night 120 = .ok (.isub, 1) := by decide +kernel
theorem dX11_night_121 : decode cX11_night 121 = .ok (.ireturn, 1) := by decide +kernel
theorem dX11_night_122 : decode cX11_night 122 = .ok (.iinc 2 1, 3) := by decide +kernel
theorem dX11_night_125 : decode cX11_night 125 = .ok (.goto (-39), 3) := by decide +kernel
theorem dX11_night_128 : decode cX11_night 128 = .ok (.aload_n 0, 1) := by decide +kernel
theorem dX11_night_129 : decode cX11_night 129 = .ok (.getfield 86, 3) := by decide +kernel
theorem dX11_night_132 : decode cX11_night 132 = .ok (.ireturn, 1) := by decide +kernel
theorem dX11_passes_0 : decode cX11_passes 0 = .ok (.iconst 0, 1) := by decide +kernel
theorem dX11_passes_1 : decode cX11_passes 1 = .ok (.istore_n 2, 1) := by decide +kernel
theorem dX11_passes_2 : decode cX11_passes 2 = .ok (.iload_n 2, 1) := by decide +kernel
theorem dX11_passes_3 : decode cX11_passes 3 = .ok (.aload_n 1, 1) := by decide +kernel
theorem dX11_passes_4 : decode cX11_passes 4 = .ok (.arraylength, 1) := by decide +kernel
theorem dX11_passes_5 : decode cX11_passes 5 = .ok (.if_icmp .ge 53, 3) := by decide +kernel
theorem dX11_passes_8 : decode cX11_passes 8 = .ok (.aload_n 0, 1) := by decide +kernel
theorem dX11_passes_9 : decode cX11_passes 9 = .ok (.getfield 113, 3) := by decide +kernel
theorem dX11_passes_12 : decode cX11_passes 12 = .ok (.ifCond .eq 18, 3) := by decide +kernel
theorem dX11_passes_15 : decode cX11_passes 15 = .ok (.aload_n 0, 1) := by decide +kernel
theorem dX11_passes_16 : decode cX11_passes 16 = .ok (.getfield 49, 3) := by decide +kernel
theorem dX11_passes_19 : decode cX11_passes 19 = .ok (.aload_n 0, 1) := by decide +kernel
theorem dX11_passes_20 : decode cX11_passes 20 = .ok (.getfield 117, 3) := by decide +kernel
theorem dX11_passes_23 : decode cX11_passes 23 = .ok (.aload_n 1, 1) := by decide +kernel
theorem dX11_passes_24 : decode cX11_passes 24 = .ok (.iload_n 2, 1) := by decide +kernel
theorem dX11_passes_25 : decode cX11_passes 25 = .ok (.iaload, 1) := by decide +kernel
theorem dX11_passes_26 : decode cX11_passes 26 = .ok (.iastore, 1) := by decide +kernel
theorem dX11_passes_27 : decode cX11_passes 27 = .ok (.goto 15, 3) := by decide +kernel
theorem dX11_passes_30 : decode cX11_passes 30 = .ok (.aload_n 1, 1) := by decide +kernel
theorem dX11_passes_31 : decode cX11_passes 31 = .ok (.iload_n 2, 1) := by decide +kernel
theorem dX11_passes_32 : decode cX11_passes 32 = .ok (.aload_n 0, 1) := by decide +kernel
theorem dX11_passes_33 : decode cX11_passes 33 = .ok (.getfield 49, 3) := by decide +kernel
theorem dX11_passes_36 : decode cX11_passes 36 = .ok (.aload_n 0, 1) := by decide +kernel
theorem dX11_passes_37 : decode cX11_passes 37 = .ok (.getfield 117, 3) := by decide +kernel
theorem dX11_passes_40 : decode cX11_passes 40 = .ok (.iaload, 1) := by decide +kernel
theorem dX11_passes_41 : decode cX11_passes 41 = .ok (.iastore, 1) := by decide +kernel
theorem dX11_passes_42 : decode cX11_passes 42 = .ok (.aload_n 0, 1) := by decide +kernel
theorem dX11_passes_43 : decode cX11_passes 43 = .ok (.dup, 1) := by decide +kernel
theorem dX11_passes_44 : decode cX11_passes 44 = .ok (.getfield 117, 3) := by decide +kernel
theorem dX11_passes_47 : decode cX11_passes 47 = .ok (.iconst 1, 1) := by decide +kernel
theorem dX11_passes_48 : decode cX11_passes 48 = .ok (.iadd, 1) := by decide +kernel
theorem dX11_passes_49 : decode cX11_passes 49 = .ok (.putfield 117, 3) := by decide +kernel
theorem dX11_passes_52 : decode cX11_passes 52 = .ok (.iinc 2 1, 3) := by decide +kernel
theorem dX11_passes_55 : decode cX11_passes 55 = .ok (.goto (-53), 3) := by decide +kernel
theorem dX11_passes_58 : decode cX11_passes 58 = .ok (.return_, 1) := by decide +kernel
theorem dX11_passOne_0 : decode cX11_passOne 0 = .ok (.aload_n 0, 1) := by decide +kernel
theorem dX11_passOne_1 : decode cX11_passOne 1 = .ok (.getfield 113, 3) := by decide +kernel
theorem dX11_passOne_4 : decode cX11_passOne 4 = .ok (.ifCond .eq 7, 3) := by decide +kernel
theorem dX11_passOne_7 : decode cX11_passOne 7 = .ok (.iload_n 1, 1) := by decide +kernel
theorem dX11_passOne_8 : decode cX11_passOne 8 = .ok (.goto 12, 3) := by decide +kernel
theorem dX11_passOne_11 : decode cX11_passOne 11 = .ok (.aload_n 0, 1) := by decide +kernel
theorem dX11_passOne_12 : decode cX11_passOne 12 = .ok (.getfield 49, 3) := by decide +kernel
theorem dX11_passOne_15 : decode cX11_passOne 15 = .ok (.aload_n 0, 1) := by decide +kernel
theorem dX11_passOne_16 : decode cX11_passOne 16 = .ok (.getfield 117, 3) := by decide +kernel
theorem dX11_passOne_19 : decode cX11_passOne 19 = .ok (.iaload, 1) := by decide +kernel
theorem dX11_passOne_20 : decode cX11_passOne 20 = .ok (.istore_n 2, 1) := by decide +kernel
theorem dX11_passOne_21 : decode cX11_passOne 21 = .ok (.aload_n 0, 1) := by decide +kernel
theorem dX11_passOne_22 : decode cX11_passOne 22 = .ok (.getfield 113, 3) := by decide +kernel
theorem dX11_passOne_25 : decode cX11_passOne 25 = .ok (.ifCond .eq 13, 3) := by decide +kernel
theorem dX11_passOne_28 : decode cX11_passOne 28 = .ok (.aload_n 0, 1) := by decide +kernel
theorem dX11_passOne_29 : decode cX11_passOne 29 = .ok (.getfield 49, 3) := by decide +kernel
theorem dX11_passOne_32 : decode cX11_passOne 32 = .ok (.aload_n 0, 1) := by decide +kernel
theorem dX11_passOne_33 : decode cX11_passOne 33 = .ok (.getfield 117, 3) := by decide +kernel
theorem dX11_passOne_36 : decode cX11_passOne 36 = .ok (.iload_n 1, 1) := by decide +kernel
theorem dX11_passOne_37 : decode cX11_passOne 37 = .ok (.iastore, 1) := by decide +kernel
theorem dX11_passOne_38 : decode cX11_passOne 38 = .ok (.aload_n 0, 1) := by decide +kernel
theorem dX11_passOne_39 : decode cX11_passOne 39 = .ok (.dup, 1) := by decide +kernel
theorem dX11_passOne_40 : decode cX11_passOne 40 = .ok (.getfield 117, 3) := by decide +kernel
theorem dX11_passOne_43 : decode cX11_passOne 43 = .ok (.iconst 1, 1) := by decide +kernel
theorem dX11_passOne_44 : decode cX11_passOne 44 = .ok (.iadd, 1) := by decide +kernel
theorem dX11_passOne_45 : decode cX11_passOne 45 = .ok (.putfield 117, 3) := by decide +kernel
theorem dX11_passOne_48 : decode cX11_passOne 48 = .ok (.iload_n 2, 1) := by decide +kernel
theorem dX11_passOne_49 : decode cX11_passOne 49 = .ok (.ireturn, 1) := by decide +kernel
theorem dX11_passesAll_0 : decode cX11_passesAll 0 = .ok (.aload_n 0, 1) := by decide +kernel
theorem dX11_passesAll_1 : decode cX11_passesAll 1 = .ok (.bipush 70, 2) := by decide +kernel
theorem dX11_passesAll_3 : decode cX11_passesAll 3 = .ok (.iload_n 1, 1) := by decide +kernel
theorem dX11_passesAll_4 : decode cX11_passesAll 4 = .ok (.imul, 1) := by decide +kernel
theorem dX11_passesAll_5 : decode cX11_passesAll 5 = .ok (.putfield 117, 3) := by decide +kernel
theorem dX11_passesAll_8 : decode cX11_passesAll 8 = .ok (.aload_n 0, 1) := by decide +kernel
theorem dX11_passesAll_9 : decode cX11_passesAll 9 = .ok (.iload_n 2, 1) := by decide +kernel
theorem dX11_passesAll_10 : decode cX11_passesAll 10 = .ok (.putfield 113, 3) := by decide +kernel
theorem dX11_passesAll_13 : decode cX11_passesAll 13 = .ok (.aload_n 0, 1) := by decide +kernel
theorem dX11_passesAll_14 : decode cX11_passesAll 14 = .ok (.aload_n 0, 1) := by decide +kernel
theorem dX11_passesAll_15 : decode cX11_passesAll 15 = .ok (.getfield 13, 3) := by decide +kernel
theorem dX11_passesAll_18 : decode cX11_passesAll 18 = .ok (.invokevirtual 120, 3) := by decide +kernel
theorem dX11_passesAll_21 : decode cX11_passesAll 21 = .ok (.aload_n 0, 1) := by decide +kernel
theorem dX11_passesAll_22 : decode cX11_passesAll 22 = .ok (.aload_n 0, 1) := by decide +kernel
theorem dX11_passesAll_23 : decode cX11_passesAll 23 = .ok (.getfield 16, 3) := by decide +kernel
theorem dX11_passesAll_26 : decode cX11_passesAll 26 = .ok (.invokevirtual 120, 3) := by decide +kernel
theorem dX11_passesAll_29 : decode cX11_passesAll 29 = .ok (.aload_n 0, 1) := by decide +kernel
theorem dX11_passesAll_30 : decode cX11_passesAll 30 = .ok (.aload_n 0, 1) := by decide +kernel
theorem dX11_passesAll_31 : decode cX11_passesAll 31 = .ok (.getfield 19, 3) := by decide +kernel
theorem dX11_passesAll_34 : decode cX11_passesAll 34 = .ok (.invokevirtual 120, 3) := by decide +kernel
theorem dX11_passesAll_37 : decode cX11_passesAll 37 = .ok (.aload_n 0, 1) := by decide +kernel
theorem dX11_passesAll_38 : decode cX11_passesAll 38 = .ok (.aload_n 0, 1) := by decide +kernel
theorem dX11_passesAll_39 : decode cX11_passesAll 39 = .ok (.getfield 22, 3) := by decide +kernel
theorem dX11_passesAll_42 : decode cX11_passesAll 42 = .ok (.invokevirtual 120, 3) := by decide +kernel
theorem dX11_passesAll_45 : decode cX11_passesAll 45 = .ok (.aload_n 0, 1) := by decide +kernel
theorem dX11_passesAll_46 : decode cX11_passesAll 46 = .ok (.aload_n 0, 1) := by decide +kernel
theorem dX11_passesAll_47 : decode cX11_passesAll 47 = .ok (.getfield 25, 3) := by decide +kernel
theorem dX11_passesAll_50 : decode cX11_passesAll 50 = .ok (.invokevirtual 120, 3) := by decide +kernel
theorem dX11_passesAll_53 : decode cX11_passesAll 53 = .ok (.aload_n 0, 1) := by decide +kernel
theorem dX11_passesAll_54 : decode cX11_passesAll 54 = .ok (.aload_n 0, 1) := by decide +kernel
theorem dX11_passesAll_55 : decode cX11_passesAll 55 = .ok (.getfield 28, 3) := by decide +kernel
theorem dX11_passesAll_58 : decode cX11_passesAll 58 = .ok (.invokevirtual 120, 3) := by decide +kernel
theorem dX11_passesAll_61 : decode cX11_passesAll 61 = .ok (.aload_n 0, 1) := by decide +kernel
theorem dX11_passesAll_62 : decode cX11_passesAll 62 = .ok (.aload_n 0, 1) := by decide +kernel
theorem dX11_passesAll_63 : decode cX11_passesAll 63 = .ok (.getfield 31, 3) := by decide +kernel
theorem dX11_passesAll_66 : decode cX11_passesAll 66 = .ok (.invokevirtual 120, 3) := by decide +kernel
theorem dX11_passesAll_69 : decode cX11_passesAll 69 = .ok (.aload_n 0, 1) := by decide +kernel
theorem dX11_passesAll_70 : decode cX11_passesAll 70 = .ok (.aload_n 0, 1) := by decide +kernel
theorem dX11_passesAll_71 : decode cX11_passesAll 71 = .ok (.getfield 34, 3) := by decide +kernel
theorem dX11_passesAll_74 : decode cX11_passesAll 74 = .ok (.invokevirtual 120, 3) := by decide +kernel
theorem dX11_passesAll_77 : decode cX11_passesAll 77 = .ok (.aload_n 0, 1) := by decide +kernel
theorem dX11_passesAll_78 : decode cX11_passesAll 78 = .ok (.aload_n 0, 1) := by decide +kernel
theorem dX11_passesAll_79 : decode cX11_passesAll 79 = .ok (.aload_n 0, 1) := by decide +kernel
theorem dX11_passesAll_80 : decode cX11_passesAll 80 = .ok (.getfield 56, 3) := by decide +kernel
theorem dX11_passesAll_83 : decode cX11_passesAll 83 = .ok (.invokevirtual 124, 3) := by decide +kernel
theorem dX11_passesAll_86 : decode cX11_passesAll 86 = .ok (.putfield 56, 3) := by decide +kernel
theorem dX11_passesAll_89 : decode cX11_passesAll 89 = .ok (.aload_n 0, 1) := by decide +kernel
theorem dX11_passesAll_90 : decode cX11_passesAll 90 = .ok (.aload_n 0, 1) := by decide +kernel
theorem dX11_passesAll_91 : decode cX11_passesAll 91 = .ok (.aload_n 0, 1) := by decide +kernel
theorem dX11_passesAll_92 : decode cX11_passesAll 92 = .ok (.getfield 127, 3) := by decide +kernel
theorem dX11_passesAll_95 : decode cX11_passesAll 95 = .ok (.invokevirtual 124, 3) := by decide +kernel
theorem dX11_passesAll_98 : decode cX11_passesAll 98 = .ok (.putfield 127, 3) := by decide +kernel
theorem dX11_passesAll_101 : decode cX11_passesAll 101 = .ok (.aload_n 0, 1) := by decide +kernel
theorem dX11_passesAll_102 : decode cX11_passesAll 102 = .ok (.aload_n 0, 1) := by decide +kernel
theorem dX11_passesAll_103 : decode cX11_passesAll 103 = .ok (.aload_n 0, 1) := by decide +kernel
theorem dX11_passesAll_104 : decode cX11_passesAll 104 = .ok (.getfield 130, 3) := by decide +kernel
theorem dX11_passesAll_107 : decode cX11_passesAll 107 = .ok (.invokevirtual 124, 3) := by decide +kernel
theorem dX11_passesAll_110 : decode cX11_passesAll 110 = .ok (.putfield 130, 3) := by decide +kernel
theorem dX11_passesAll_113 : decode cX11_passesAll 113 = .ok (.aload_n 0, 1) := by decide +kernel
theorem dX11_passesAll_114 : decode cX11_passesAll 114 = .ok (.aload_n 0, 1) := by decide +kernel
theorem dX11_passesAll_115 : decode cX11_passesAll 115 = .ok (.aload_n 0, 1) := by decide +kernel
theorem dX11_passesAll_116 : decode cX11_passesAll 116 = .ok (.getfield 133, 3) := by decide +kernel
theorem dX11_passesAll_119 : decode cX11_passesAll 119 = .ok (.invokevirtual 124, 3) := by decide +kernel
theorem dX11_passesAll_122 : decode cX11_passesAll 122 = .ok (.putfield 133, 3) := by decide +kernel
theorem dX11_passesAll_125 : decode cX11_passesAll 125 = .ok (.aload_n 0, 1) := by decide +kernel
theorem dX11_passesAll_126 : decode cX11_passesAll 126 = .ok (.aload_n 0, 1) := by decide +kernel
theorem dX11_passesAll_127 : decode cX11_passesAll 127 = .ok (.aload_n 0, 1) := by decide +kernel
theorem dX11_passesAll_128 : decode cX11_passesAll 128 = .ok (.getfield 136, 3) := by decide +kernel
theorem dX11_passesAll_131 : decode cX11_passesAll 131 = .ok (.invokevirtual 124, 3) := by decide +kernel
theorem dX11_passesAll_134 : decode cX11_passesAll 134 = .ok (.putfield 136, 3) := by decide +kernel
theorem dX11_passesAll_137 : decode cX11_passesAll 137 = .ok (.return_, 1) := by decide +kernel
theorem dX11_image_0 : decode cX11_image 0 = .ok (.aload_n 0, 1) := by decide +kernel
theorem dX11_image_1 : decode cX11_image 1 = .ok (.iconst 1, 1) := by decide +kernel
theorem dX11_image_2 : decode cX11_image 2 = .ok (.putfield 139, 3) := by decide +kernel
theorem dX11_image_5 : decode cX11_image 5 = .ok (.aload_n 0, 1) := by decide +kernel
theorem dX11_image_6 : decode cX11_image 6 = .ok (.iconst 0, 1) := by decide +kernel
theorem dX11_image_7 : decode cX11_image 7 = .ok (.iconst 1, 1) := by decide +kernel
theorem dX11_image_8 : decode cX11_image 8 = .ok (.invokevirtual 106, 3) := by decide +kernel
theorem dX11_image_11 : decode cX11_image 11 = .ok (.aload_n 0, 1) := by decide +kernel
theorem dX11_image_12 : decode cX11_image 12 = .ok (.getfield 127, 3) := by decide +kernel
theorem dX11_image_15 : decode cX11_image 15 = .ok (.ireturn, 1) := by decide +kernel
theorem dX11_restore_0 : decode cX11_restore 0 = .ok (.aload_n 0, 1) := by decide +kernel
theorem dX11_restore_1 : decode cX11_restore 1 = .ok (.getfield 139, 3) := by decide +kernel
theorem dX11_restore_4 : decode cX11_restore 4 = .ok (.ifCond .ne 10, 3) := by decide +kernel
theorem dX11_restore_7 : decode cX11_restore 7 = .ok (.aload_n 0, 1) := by decide +kernel
theorem dX11_restore_8 : decode cX11_restore 8 = .ok (.bipush (-3), 2) := by decide +kernel
theorem dX11_restore_10 : decode cX11_restore 10 = .ok (.invokevirtual 71, 3) := by decide +kernel
theorem dX11_restore_13 : decode cX11_restore 13 = .ok (.ireturn, 1) := by decide +kernel
theorem dX11_restore_14 : decode cX11_restore 14 = .ok (.aload_n 0, 1) := by decide +kernel
theorem dX11_restore_15 : decode cX11_restore 15 = .ok (.iconst 0, 1) := by decide +kernel
theorem dX11_restore_16 : decode cX11_restore 16 = .ok (.iconst 0, 1) := by decide +kernel
theorem dX11_restore_17 : decode cX11_restore 17 = .ok (.invokevirtual 106, 3) := by decide +kernel
theorem dX11_restore_20 : decode cX11_restore 20 = .ok (.aload_n 0, 1) := by decide +kernel
theorem dX11_restore_21 : decode cX11_restore 21 = .ok (.getfield 127, 3) := by decide +kernel
theorem dX11_restore_24 : decode cX11_restore 24 = .ok (.ireturn, 1) := by decide +kernel
theorem dX11_burns_0 : decode cX11_burns 0 = .ok (.iconst 3, 1) := by decide +kernel
theorem dX11_burns_1 : decode cX11_burns 1 = .ok (.iload_n 3, 1) := by decide +kernel
theorem dX11_burns_2 : decode cX11_burns 2 = .ok (.iconst 3, 1) := by decide +kernel
theorem dX11_burns_3 : decode cX11_burns 3 = .ok (.idiv, 1) := by decide +kernel
theorem dX11_burns_4 : decode cX11_burns 4 = .ok (.iadd, 1) := by decide +kernel
theorem dX11_burns_5 : decode cX11_burns 5 = .ok (.istore 4, 2) := by decide +kernel
theorem dX11_burns_7 : decode cX11_burns 7 = .ok (.iload 4, 2) := by decide +kernel
theorem dX11_burns_9 : decode cX11_burns 9 = .ok (.istore 5, 2) := by decide +kernel
theorem dX11_burns_11 : decode cX11_burns 11 = .ok (.iload_n 0, 1) := by decide +kernel
theorem dX11_burns_12 : decode cX11_burns 12 = .ok (.tableswitch 97 1 5 #[36, 45, 54, 65, 88], 36) := by decide +kernel
theorem dX11_burns_48 : decode cX11_burns 48 = .ok (.iload 4, 2) := by decide +kernel
theorem dX11_burns_50 : decode cX11_burns 50 = .ok (.iconst 1, 1) := by decide +kernel
theorem dX11_burns_51 : decode cX11_burns 51 = .ok (.isub, 1) := by decide +kernel
theorem dX11_burns_52 : decode cX11_burns 52 = .ok (.istore 5, 2) := by decide +kernel
theorem dX11_burns_54 : decode cX11_burns 54 = .ok (.goto 55, 3) := by decide +kernel
theorem dX11_burns_57 : decode cX11_burns 57 = .ok (.iconst 2, 1) := by decide +kernel
theorem dX11_burns_58 : decode cX11_burns 58 = .ok (.iload 4, 2) := by decide +kernel
theorem dX11_burns_60 : decode cX11_burns 60 = .ok (.imul, 1) := by decide +kernel
theorem dX11_burns_61 : decode cX11_burns 61 = .ok (.istore 5, 2) := by decide +kernel
theorem dX11_burns_63 : decode cX11_burns 63 = .ok (.goto 46, 3) := by decide +kernel
theorem dX11_burns_66 : decode cX11_burns 66 = .ok (.iload 4, 2) := by decide +kernel
theorem dX11_burns_68 : decode cX11_burns 68 = .ok (.iconst 1, 1) := by decide +kernel
theorem dX11_burns_69 : decode cX11_burns 69 = .ok (.isub, 1) := by decide +kernel
theorem dX11_burns_70 : decode cX11_burns 70 = .ok (.iload_n 1, 1) := by decide +kernel
theorem dX11_burns_71 : decode cX11_burns 71 = .ok (.iadd, 1) := by decide +kernel
theorem dX11_burns_72 : decode cX11_burns 72 = .ok (.istore 5, 2) := by decide +kernel
theorem dX11_burns_74 : decode cX11_burns 74 = .ok (.goto 35, 3) := by decide +kernel
theorem dX11_burns_77 : decode cX11_burns 77 = .ok (.iconst 2, 1) := by decide +kernel
theorem dX11_burns_78 : decode cX11_burns 78 = .ok (.iload 4, 2) := by decide +kernel
theorem dX11_burns_80 : decode cX11_burns 80 = .ok (.imul, 1) := by decide +kernel
theorem dX11_burns_81 : decode cX11_burns 81 = .ok (.iload_n 1, 1) := by decide +kernel
theorem dX11_burns_82 : decode cX11_burns 82 = .ok (.if_icmp .le 12, 3) := by decide +kernel
theorem dX11_burns_85 : decode cX11_burns 85 = .ok (.iconst 2, 1) := by decide +kernel
theorem dX11_burns_86 : decode cX11_burns 86 = .ok (.iload 4, 2) := by decide +kernel
theorem dX11_burns_88 : decode cX11_burns 88 = .ok (.imul, 1) := by decide +kernel
theorem dX11_burns_89 : decode cX11_burns 89 = .ok (.iload_n 1, 1) := by decide +kernel
theorem dX11_burns_90 : decode cX11_burns 90 = .ok (.isub, 1) := by decide +kernel
theorem dX11_burns_91 : decode cX11_burns 91 = .ok (.goto 4, 3) := by decide +kernel
theorem dX11_burns_94 : decode cX11_burns 94 = .ok (.iconst 1, 1) := by decide +kernel
theorem dX11_burns_95 : decode cX11_burns 95 = .ok (.istore 5, 2) := by decide +kernel
theorem dX11_burns_97 : decode cX11_burns 97 = .ok (.goto 12, 3) := by decide +kernel
theorem dX11_burns_100 : decode cX11_burns 100 = .ok (.iload 4, 2) := by decide +kernel
theorem dX11_burns_102 : decode cX11_burns 102 = .ok (.iload_n 3, 1) := by decide +kernel
theorem dX11_burns_103 : decode cX11_burns 103 = .ok (.iadd, 1) := by decide +kernel
theorem dX11_burns_104 : decode cX11_burns 104 = .ok (.istore 5, 2) := by decide +kernel
theorem dX11_burns_106 : decode cX11_burns 106 = .ok (.goto 3, 3) := by decide +kernel
theorem dX11_burns_109 : decode cX11_burns 109 = .ok (.iload 5, 2) := by decide +kernel
theorem dX11_burns_111 : decode cX11_burns 111 = .ok (.iload_n 2, 1) := by decide +kernel
theorem dX11_burns_112 : decode cX11_burns 112 = .ok (.invokestatic 142, 3) := by decide +kernel
theorem dX11_burns_115 : decode cX11_burns 115 = .ok (.ireturn, 1) := by decide +kernel
theorem dX11_drips_0 : decode cX11_drips 0 = .ok (.iload_n 3, 1) := by decide +kernel
theorem dX11_drips_1 : decode cX11_drips 1 = .ok (.iload_n 2, 1) := by decide +kernel
theorem dX11_drips_2 : decode cX11_drips 2 = .ok (.imul, 1) := by decide +kernel
theorem dX11_drips_3 : decode cX11_drips 3 = .ok (.bipush 20, 2) := by decide +kernel
theorem dX11_drips_5 : decode cX11_drips 5 = .ok (.idiv, 1) := by decide +kernel
theorem dX11_drips_6 : decode cX11_drips 6 = .ok (.istore 4, 2) := by decide +kernel
theorem dX11_drips_8 : decode cX11_drips 8 = .ok (.iload_n 0, 1) := by decide +kernel
theorem dX11_drips_9 : decode cX11_drips 9 = .ok (.tableswitch 67 1 5 #[35, 37, 35, 41, 58], 35) := by decide +kernel
theorem dX11_drips_44 : decode cX11_drips 44 = .ok (.iconst 0, 1) := by decide +kernel
theorem dX11_drips_45 : decode cX11_drips 45 = .ok (.ireturn, 1) := by decide +kernel
theorem dX11_drips_46 : decode cX11_drips 46 = .ok (.iload_n 2, 1) := by decide +kernel
theorem dX11_drips_47 : decode cX11_drips 47 = .ok (.iconst 2, 1) := by decide +kernel
theorem dX11_drips_48 : decode cX11_drips 48 = .ok (.idiv, 1) := by decide +kernel
theorem dX11_drips_49 : decode cX11_drips 49 = .ok (.ireturn, 1) := by decide +kernel
theorem dX11_drips_50 : decode cX11_drips 50 = .ok (.iload_n 2, 1) := by decide +kernel
theorem dX11_drips_51 : decode cX11_drips 51 = .ok (.iconst 2, 1) := by decide +kernel
theorem dX11_drips_52 : decode cX11_drips 52 = .ok (.idiv, 1) := by decide +kernel
theorem dX11_drips_53 : decode cX11_drips 53 = .ok (.iload_n 1, 1) := by decide +kernel
theorem dX11_drips_54 : decode cX11_drips 54 = .ok (.if_icmp .le 11, 3) := by decide +kernel
theorem dX11_drips_57 : decode cX11_drips 57 = .ok (.iload_n 2, 1) := by decide +kernel
theorem dX11_drips_58 : decode cX11_drips 58 = .ok (.iconst 2, 1) := by decide +kernel
theorem dX11_drips_59 : decode cX11_drips 59 = .ok (.idiv, 1) := by decide +kernel
theorem dX11_drips_60 : decode cX11_drips 60 = .ok (.iload_n 1, 1) := by decide +kernel
theorem dX11_drips_61 : decode cX11_drips 61 = .ok (.isub, 1) := by decide +kernel
theorem dX11_drips_62 : decode cX11_drips 62 = .ok (.goto 4, 3) := by decide +kernel
theorem dX11_drips_65 : decode cX11_drips 65 = .ok (.iconst 0, 1) := by decide +kernel
theorem dX11_drips_66 : decode cX11_drips 66 = .ok (.ireturn, 1) := by decide +kernel
theorem dX11_drips_67 : decode cX11_drips 67 = .ok (.iload_n 2, 1) := by decide +kernel
theorem dX11_drips_68 : decode cX11_drips 68 = .ok (.iconst 2, 1) := by decide +kernel
theorem dX11_drips_69 : decode cX11_drips 69 = .ok (.iload 4, 2) := by decide +kernel
theorem dX11_drips_71 : decode cX11_drips 71 = .ok (.imul, 1) := by decide +kernel
theorem dX11_drips_72 : decode cX11_drips 72 = .ok (.invokestatic 142, 3) := by decide +kernel
theorem dX11_drips_75 : decode cX11_drips 75 = .ok (.ireturn, 1) := by decide +kernel
theorem dX11_drips_76 : decode cX11_drips 76 = .ok (.iload 4, 2) := by decide +kernel
theorem dX11_drips_78 : decode cX11_drips 78 = .ok (.ireturn, 1) := by decide +kernel
theorem dX11_counts_0 : decode cX11_counts 0 = .ok (.iload_n 0, 1) := by decide +kernel
theorem dX11_counts_1 : decode cX11_counts 1 = .ok (.iconst 1, 1) := by decide +kernel
theorem dX11_counts_2 : decode cX11_counts 2 = .ok (.if_icmp .eq 8, 3) := by decide +kernel
theorem dX11_counts_5 : decode cX11_counts 5 = .ok (.iload_n 0, 1) := by decide +kernel
theorem dX11_counts_6 : decode cX11_counts 6 = .ok (.iconst 3, 1) := by decide +kernel
theorem dX11_counts_7 : decode cX11_counts 7 = .ok (.if_icmp .ne 9, 3) := by decide +kernel
theorem dX11_counts_10 : decode cX11_counts 10 = .ok (.iconst 2, 1) := by decide +kernel
theorem dX11_counts_11 : decode cX11_counts 11 = .ok (.iload_n 1, 1) := by decide +kernel
theorem dX11_counts_12 : decode cX11_counts 12 = .ok (.imul, 1) := by decide +kernel
theorem dX11_counts_13 : decode cX11_counts 13 = .ok (.goto 20, 3) := by decide +kernel
theorem dX11_counts_16 : decode cX11_counts 16 = .ok (.iload_n 0, 1) := by decide +kernel
theorem dX11_counts_17 : decode cX11_counts 17 = .ok (.iconst 2, 1) := by decide +kernel
theorem dX11_counts_18 : decode cX11_counts 18 = .ok (.if_icmp .eq 8, 3) := by decide +kernel
theorem dX11_counts_21 : decode cX11_counts 21 = .ok (.iload_n 0, 1) := by decide +kernel
theorem dX11_counts_22 : decode cX11_counts 22 = .ok (.iconst 4, 1) := by decide +kernel
theorem dX11_counts_23 : decode cX11_counts 23 = .ok (.if_icmp .ne 9, 3) := by decide +kernel
theorem dX11_counts_26 : decode cX11_counts 26 = .ok (.iload_n 1, 1) := by decide +kernel
theorem dX11_counts_27 : decode cX11_counts 27 = .ok (.iconst 2, 1) := by decide +kernel
theorem dX11_counts_28 : decode cX11_counts 28 = .ok (.idiv, 1) := by decide +kernel
theorem dX11_counts_29 : decode cX11_counts 29 = .ok (.goto 4, 3) := by decide +kernel
theorem dX11_counts_32 : decode cX11_counts 32 = .ok (.iload_n 1, 1) := by decide +kernel
theorem dX11_counts_33 : decode cX11_counts 33 = .ok (.ireturn, 1) := by decide +kernel
theorem dX11_burnsOf_0 : decode cX11_burnsOf 0 = .ok (.aload_n 0, 1) := by decide +kernel
theorem dX11_burnsOf_1 : decode cX11_burnsOf 1 = .ok (.getfield 13, 3) := by decide +kernel
theorem dX11_burnsOf_4 : decode cX11_burnsOf 4 = .ok (.iload_n 1, 1) := by decide +kernel
theorem dX11_burnsOf_5 : decode cX11_burnsOf 5 = .ok (.iaload, 1) := by decide +kernel
theorem dX11_burnsOf_6 : decode cX11_burnsOf 6 = .ok (.aload_n 0, 1) := by decide +kernel
theorem dX11_burnsOf_7 : decode cX11_burnsOf 7 = .ok (.getfield 16, 3) := by decide +kernel
theorem dX11_burnsOf_10 : decode cX11_burnsOf 10 = .ok (.iload_n 1, 1) := by decide +kernel
theorem dX11_burnsOf_11 : decode cX11_burnsOf 11 = .ok (.iaload, 1) := by decide +kernel
theorem dX11_burnsOf_12 : decode cX11_burnsOf 12 = .ok (.aload_n 0, 1) := by decide +kernel
theorem dX11_burnsOf_13 : decode cX11_burnsOf 13 = .ok (.getfield 19, 3) := by decide +kernel
theorem dX11_burnsOf_16 : decode cX11_burnsOf 16 = .ok (.iload_n 1, 1) := by decide +kernel
theorem dX11_burnsOf_17 : decode cX11_burnsOf 17 = .ok (.iaload, 1) := by decide +kernel
theorem dX11_burnsOf_18 : decode cX11_burnsOf 18 = .ok (.aload_n 0, 1) := by decide +kernel
theorem dX11_burnsOf_19 : decode cX11_burnsOf 19 = .ok (.getfield 31, 3) := by decide +kernel
theorem dX11_burnsOf_22 : decode cX11_burnsOf 22 = .ok (.aload_n 0, 1) := by decide +kernel
theorem dX11_burnsOf_23 : decode cX11_burnsOf 23 = .ok (.getfield 25, 3) := by decide +kernel
theorem dX11_burnsOf_26 : decode cX11_burnsOf 26 = .ok (.iload_n 1, 1) := by decide +kernel
theorem dX11_burnsOf_27 : decode cX11_burnsOf 27 = .ok (.iaload, 1) := by decide +kernel
theorem dX11_burnsOf_28 : decode cX11_burnsOf 28 = .ok (.iaload, 1) := by decide +kernel
theorem dX11_burnsOf_29 : decode cX11_burnsOf 29 = .ok (.invokestatic 146, 3) := by decide +kernel
theorem dX11_burnsOf_32 : decode cX11_burnsOf 32 = .ok (.ireturn, 1) := by decide +kernel
theorem dX11_dripsOf_0 : decode cX11_dripsOf 0 = .ok (.aload_n 0, 1) := by decide +kernel
theorem dX11_dripsOf_1 : decode cX11_dripsOf 1 = .ok (.getfield 13, 3) := by decide +kernel
theorem dX11_dripsOf_4 : decode cX11_dripsOf 4 = .ok (.iload_n 1, 1) := by decide +kernel
theorem dX11_dripsOf_5 : decode cX11_dripsOf 5 = .ok (.iaload, 1) := by decide +kernel
theorem dX11_dripsOf_6 : decode cX11_dripsOf 6 = .ok (.aload_n 0, 1) := by decide +kernel
theorem dX11_dripsOf_7 : decode cX11_dripsOf 7 = .ok (.getfield 16, 3) := by decide +kernel
theorem dX11_dripsOf_10 : decode cX11_dripsOf 10 = .ok (.iload_n 1, 1) := by decide +kernel
theorem dX11_dripsOf_11 : decode cX11_dripsOf 11 = .ok (.iaload, 1) := by decide +kernel
theorem dX11_dripsOf_12 : decode cX11_dripsOf 12 = .ok (.aload_n 0, 1) := by decide +kernel
theorem dX11_dripsOf_13 : decode cX11_dripsOf 13 = .ok (.iload_n 1, 1) := by decide +kernel
theorem dX11_dripsOf_14 : decode cX11_dripsOf 14 = .ok (.invokevirtual 150, 3) := by decide +kernel
theorem dX11_dripsOf_17 : decode cX11_dripsOf 17 = .ok (.aload_n 0, 1) := by decide +kernel
theorem dX11_dripsOf_18 : decode cX11_dripsOf 18 = .ok (.getfield 31, 3) := by decide +kernel
theorem dX11_dripsOf_21 : decode cX11_dripsOf 21 = .ok (.aload_n 0, 1) := by decide +kernel
theorem dX11_dripsOf_22 : decode cX11_dripsOf 22 = .ok (.getfield 25, 3) := by decide +kernel
theorem dX11_dripsOf_25 : decode cX11_dripsOf 25 = .ok (.iload_n 1, 1) := by decide +kernel
theorem dX11_dripsOf_26 : decode cX11_dripsOf 26 = .ok (.iaload, 1) := by decide +kernel
theorem dX11_dripsOf_27 : decode cX11_dripsOf 27 = .ok (.iaload, 1) := by decide +kernel
theorem dX11_dripsOf_28 : decode cX11_dripsOf 28 = .ok (.invokestatic 153, 3) := by decide +kernel
theorem dX11_dripsOf_31 : decode cX11_dripsOf 31 = .ok (.ireturn, 1) := by decide +kernel
theorem dX11_countsOf_0 : decode cX11_countsOf 0 = .ok (.aload_n 0, 1) := by decide +kernel
theorem dX11_countsOf_1 : decode cX11_countsOf 1 = .ok (.getfield 13, 3) := by decide +kernel
theorem dX11_countsOf_4 : decode cX11_countsOf 4 = .ok (.iload_n 1, 1) := by decide +kernel
theorem dX11_countsOf_5 : decode cX11_countsOf 5 = .ok (.iaload, 1) := by decide +kernel
theorem dX11_countsOf_6 : decode cX11_countsOf 6 = .ok (.aload_n 0, 1) := by decide +kernel
theorem dX11_countsOf_7 : decode cX11_countsOf 7 = .ok (.iload_n 1, 1) := by decide +kernel
theorem dX11_countsOf_8 : decode cX11_countsOf 8 = .ok (.invokevirtual 150, 3) := by decide +kernel
theorem dX11_countsOf_11 : decode cX11_countsOf 11 = .ok (.aload_n 0, 1) := by decide +kernel
theorem dX11_countsOf_12 : decode cX11_countsOf 12 = .ok (.iload_n 1, 1) := by decide +kernel
theorem dX11_countsOf_13 : decode cX11_countsOf 13 = .ok (.invokevirtual 156, 3) := by decide +kernel
theorem dX11_countsOf_16 : decode cX11_countsOf 16 = .ok (.isub, 1) := by decide +kernel
theorem dX11_countsOf_17 : decode cX11_countsOf 17 = .ok (.invokestatic 159, 3) := by decide +kernel
theorem dX11_countsOf_20 : decode cX11_countsOf 20 = .ok (.ireturn, 1) := by decide +kernel
theorem dX11_candle_0 : decode cX11_candle 0 = .ok (.aload_n 0, 1) := by decide +kernel
theorem dX11_candle_1 : decode cX11_candle 1 = .ok (.iload_n 1, 1) := by decide +kernel
theorem dX11_candle_2 : decode cX11_candle 2 = .ok (.invokevirtual 99, 3) := by decide +kernel
theorem dX11_candle_5 : decode cX11_candle 5 = .ok (.ifCond .ne 9, 3) := by decide +kernel
theorem dX11_candle_8 : decode cX11_candle 8 = .ok (.aload_n 0, 1) := by decide +kernel
theorem dX11_candle_9 : decode cX11_candle 9 = .ok (.iconst (-1), 1) := by decide +kernel
theorem dX11_candle_10 : decode cX11_candle 10 = .ok (.invokevirtual 71, 3) := by decide +kernel
theorem dX11_candle_13 : decode cX11_candle 13 = .ok (.ireturn, 1) := by decide +kernel
theorem dX11_candle_14 : decode cX11_candle 14 = .ok (.iload_n 2, 1) := by decide +kernel
theorem dX11_candle_15 : decode cX11_candle 15 = .ok (.tableswitch 109 0 8 #[49, 56, 63, 70, 77, 84, 91, 97, 103], 49) := by decide +kernel
theorem dX11_candle_64 : decode cX11_candle 64 = .ok (.aload_n 0, 1) := by decide +kernel
theorem dX11_candle_65 : decode cX11_candle 65 = .ok (.getfield 13, 3) := by decide +kernel
theorem dX11_candle_68 : decode cX11_candle 68 = .ok (.iload_n 1, 1) := by decide +kernel
theorem dX11_candle_69 : decode cX11_candle 69 = .ok (.iaload, 1) := by decide +kernel
theorem dX11_candle_70 : decode cX11_candle 70 = .ok (.ireturn, 1) := by decide +kernel
theorem dX11_candle_71 : decode cX11_candle 71 = .ok (.aload_n 0, 1) := by decide +kernel
theorem dX11_candle_72 : decode cX11_candle 72 = .ok (.getfield 16, 3) := by decide +kernel
theorem dX11_candle_75 : decode cX11_candle 75 = .ok (.iload_n 1, 1) := by decide +kernel
theorem dX11_candle_76 : decode cX11_candle 76 = .ok (.iaload, 1) := by decide +kernel
theorem dX11_candle_77 : decode cX11_candle 77 = .ok (.ireturn, 1) := by decide +kernel
theorem dX11_candle_78 : decode cX11_candle 78 = .ok (.aload_n 0, 1) := by decide +kernel
theorem dX11_candle_79 : decode cX11_candle 79 = .ok (.getfield 19, 3) := by decide +kernel
theorem dX11_candle_82 : decode cX11_candle 82 = .ok (.iload_n 1, 1) := by decide +kernel
theorem dX11_candle_83 : decode cX11_candle 83 = .ok (.iaload, 1) := by decide +kernel
theorem dX11_candle_84 : decode cX11_candle 84 = .ok (.ireturn, 1) := by decide +kernel
theorem dX11_candle_85 : decode cX11_candle 85 = .ok (.aload_n 0, 1) := by decide +kernel
theorem dX11_candle_86 : decode cX11_candle 86 = .ok (.getfield 22, 3) := by decide +kernel
theorem dX11_candle_89 : decode cX11_candle 89 = .ok (.iload_n 1, 1) := by decide +kernel
theorem dX11_candle_90 : decode cX11_candle 90 = .ok (.iaload, 1) := by decide +kernel
theorem dX11_candle_91 : decode cX11_candle 91 = .ok (.ireturn, 1) := by decide +kernel
theorem dX11_candle_92 : decode cX11_candle 92 = .ok (.aload_n 0, 1) := by decide +kernel
theorem dX11_candle_93 : decode cX11_candle 93 = .ok (.getfield 25, 3) := by decide +kernel
theorem dX11_candle_96 : decode cX11_candle 96 = .ok (.iload_n 1, 1) := by decide +kernel
theorem dX11_candle_97 : decode cX11_candle 97 = .ok (.iaload, 1) := by decide +kernel
theorem dX11_candle_98 : decode cX11_candle 98 = .ok (.ireturn, 1) := by decide +kernel
theorem dX11_candle_99 : decode cX11_candle 99 = .ok (.aload_n 0, 1) := by decide +kernel
theorem dX11_candle_100 : decode cX11_candle 100 = .ok (.getfield 28, 3) := by decide +kernel
theorem dX11_candle_103 : decode cX11_candle 103 = .ok (.iload_n 1, 1) := by decide +kernel
theorem dX11_candle_104 : decode cX11_candle 104 = .ok (.iaload, 1) := by decide +kernel
theorem dX11_candle_105 : decode cX11_candle 105 = .ok (.ireturn, 1) := by decide +kernel
theorem dX11_candle_106 : decode cX11_candle 106 = .ok (.aload_n 0, 1) := by decide +kernel
theorem dX11_candle_107 : decode cX11_candle 107 = .ok (.iload_n 1, 1) := by decide +kernel
theorem dX11_candle_108 : decode cX11_candle 108 = .ok (.invokevirtual 150, 3) := by decide +kernel
theorem dX11_candle_111 : decode cX11_candle 111 = .ok (.ireturn, 1) := by decide +kernel
theorem dX11_candle_112 : decode cX11_candle 112 = .ok (.aload_n 0, 1) := by decide +kernel
theorem dX11_candle_113 : decode cX11_candle 113 = .ok (.iload_n 1, 1) := by decide +kernel
theorem dX11_candle_114 : decode cX11_candle 114 = .ok (.invokevirtual 156, 3) := by decide +kernel
theorem dX11_candle_117 : decode cX11_candle 117 = .ok (.ireturn, 1) := by decide +kernel
theorem dX11_candle_118 : decode cX11_candle 118 = .ok (.aload_n 0, 1) := by decide +kernel
theorem dX11_candle_119 : decode cX11_candle 119 = .ok (.iload_n 1, 1) := by decide +kernel
theorem dX11_candle_120 : decode cX11_candle 120 = .ok (.invokevirtual 162, 3) := by decide +kernel
theorem dX11_candle_123 : decode cX11_candle 123 = .ok (.ireturn, 1) := by decide +kernel
theorem dX11_candle_124 : decode cX11_candle 124 = .ok (.aload_n 0, 1) := by decide +kernel
theorem dX11_candle_125 : decode cX11_candle 125 = .ok (.bipush (-2), 2) := by decide +kernel
theorem dX11_candle_127 : decode cX11_candle 127 = .ok (.invokevirtual 71, 3) := by decide +kernel
theorem dX11_candle_130 : decode cX11_candle 130 = .ok (.ireturn, 1) := by decide +kernel
theorem dX11_put_0 : decode cX11_put 0 = .ok (.aload_n 0, 1) := by decide +kernel
theorem dX11_put_1 : decode cX11_put 1 = .ok (.iload_n 1, 1) := by decide +kernel
theorem dX11_put_2 : decode cX11_put 2 = .ok (.invokevirtual 99, 3) := by decide +kernel
theorem dX11_put_5 : decode cX11_put 5 = .ok (.ifCond .eq 10, 3) := by decide +kernel
theorem dX11_put_8 : decode cX11_put 8 = .ok (.iload_n 2, 1) := by decide +kernel
theorem dX11_put_9 : decode cX11_put 9 = .ok (.invokestatic 60, 3) := by decide +kernel
theorem dX11_put_12 : decode cX11_put 12 = .ok (.ifCond .ne 9, 3) := by decide +kernel
theorem dX11_put_15 : decode cX11_put 15 = .ok (.aload_n 0, 1) := by decide +kernel
theorem dX11_put_16 : decode cX11_put 16 = .ok (.iconst (-1), 1) := by decide +kernel
theorem dX11_put_17 : decode cX11_put 17 = .ok (.invokevirtual 71, 3) := by decide +kernel
theorem dX11_put_20 : decode cX11_put 20 = .ok (.ireturn, 1) := by decide +kernel
theorem dX11_put_21 : decode cX11_put 21 = .ok (.aload_n 0, 1) := by decide +kernel
theorem dX11_put_22 : decode cX11_put 22 = .ok (.getfield 25, 3) := by decide +kernel
theorem dX11_put_25 : decode cX11_put 25 = .ok (.iload_n 1, 1) := by decide +kernel
theorem dX11_put_26 : decode cX11_put 26 = .ok (.iaload, 1) := by decide +kernel
theorem dX11_put_27 : decode cX11_put 27 = .ok (.istore_n 3, 1) := by decide +kernel
theorem dX11_put_28 : decode cX11_put 28 = .ok (.aload_n 0, 1) := by decide +kernel
theorem dX11_put_29 : decode cX11_put 29 = .ok (.getfield 25, 3) := by decide +kernel
theorem dX11_put_32 : decode cX11_put 32 = .ok (.iload_n 1, 1) := by decide +kernel
theorem dX11_put_33 : decode cX11_put 33 = .ok (.iload_n 2, 1) := by decide +kernel
theorem dX11_put_34 : decode cX11_put 34 = .ok (.iastore, 1) := by decide +kernel
theorem dX11_put_35 : decode cX11_put 35 = .ok (.iload_n 3, 1) := by decide +kernel
theorem dX11_put_36 : decode cX11_put 36 = .ok (.ireturn, 1) := by decide +kernel
theorem dX11_light_0 : decode cX11_light 0 = .ok (.aload_n 0, 1) := by decide +kernel
theorem dX11_light_1 : decode cX11_light 1 = .ok (.iload_n 1, 1) := by decide +kernel
theorem dX11_light_2 : decode cX11_light 2 = .ok (.invokevirtual 99, 3) := by decide +kernel
theorem dX11_light_5 : decode cX11_light 5 = .ok (.ifCond .ne 9, 3) := by decide +kernel
theorem dX11_light_8 : decode cX11_light 8 = .ok (.aload_n 0, 1) := by decide +kernel
theorem dX11_light_9 : decode cX11_light 9 = .ok (.iconst (-1), 1) := by decide +kernel
theorem dX11_light_10 : decode cX11_light 10 = .ok (.invokevirtual 71, 3) := by decide +kernel
theorem dX11_light_13 : decode cX11_light 13 = .ok (.ireturn, 1) := by decide +kernel
theorem dX11_light_14 : decode cX11_light 14 = .ok (.iload_n 2, 1) := by decide +kernel
theorem dX11_light_15 : decode cX11_light 15 = .ok (.ifCond .eq 19, 3) := by decide +kernel
theorem dX11_light_18 : decode cX11_light 18 = .ok (.aload_n 0, 1) := by decide +kernel
theorem dX11_light_19 : decode cX11_light 19 = .ok (.getfield 19, 3) := by decide +kernel
theorem dX11_light_22 : decode cX11_light 22 = .ok (.iload_n 1, 1) := by decide +kernel
theorem dX11_light_23 : decode cX11_light 23 = .ok (.iaload, 1) := by decide +kernel
theorem dX11_light_24 : decode cX11_light 24 = .ok (.ifCond .ne 10, 3) := by decide +kernel
theorem dX11_light_27 : decode cX11_light 27 = .ok (.aload_n 0, 1) := by decide +kernel
theorem dX11_light_28 : decode cX11_light 28 = .ok (.bipush (-3), 2) := by decide +kernel
theorem dX11_light_30 : decode cX11_light 30 = .ok (.invokevirtual 71, 3) := by decide +kernel
theorem dX11_light_33 : decode cX11_light 33 = .ok (.ireturn, 1) := by decide +kernel
theorem dX11_light_34 : decode cX11_light 34 = .ok (.aload_n 0, 1) := by decide +kernel
theorem dX11_light_35 : decode cX11_light 35 = .ok (.getfield 28, 3) := by decide +kernel
theorem dX11_light_38 : decode cX11_light 38 = .ok (.iload_n 1, 1) := by decide +kernel
theorem dX11_light_39 : decode cX11_light 39 = .ok (.iaload, 1) := by decide +kernel
theorem dX11_light_40 : decode cX11_light 40 = .ok (.istore_n 3, 1) := by decide +kernel
theorem dX11_light_41 : decode cX11_light 41 = .ok (.aload_n 0, 1) := by decide +kernel
theorem dX11_light_42 : decode cX11_light 42 = .ok (.getfield 28, 3) := by decide +kernel
theorem dX11_light_45 : decode cX11_light 45 = .ok (.iload_n 1, 1) := by decide +kernel
theorem dX11_light_46 : decode cX11_light 46 = .ok (.iload_n 2, 1) := by decide +kernel
theorem dX11_light_47 : decode cX11_light 47 = .ok (.ifCond .eq 7, 3) := by decide +kernel
theorem dX11_light_50 : decode cX11_light 50 = .ok (.iconst 1, 1) := by decide +kernel
theorem dX11_light_51 : decode cX11_light 51 = .ok (.goto 4, 3) := by decide +kernel
theorem dX11_light_54 : decode cX11_light 54 = .ok (.iconst 0, 1) := by decide +kernel
theorem dX11_light_55 : decode cX11_light 55 = .ok (.iastore, 1) := by decide +kernel
theorem dX11_light_56 : decode cX11_light 56 = .ok (.aload_n 0, 1) := by decide +kernel
theorem dX11_light_57 : decode cX11_light 57 = .ok (.getfield 28, 3) := by decide +kernel
theorem dX11_light_60 : decode cX11_light 60 = .ok (.iload_n 1, 1) := by decide +kernel
theorem dX11_light_61 : decode cX11_light 61 = .ok (.iaload, 1) := by decide +kernel
theorem dX11_light_62 : decode cX11_light 62 = .ok (.iload_n 3, 1) := by decide +kernel
theorem dX11_light_63 : decode cX11_light 63 = .ok (.if_icmp .ne 7, 3) := by decide +kernel
theorem dX11_light_66 : decode cX11_light 66 = .ok (.iconst 0, 1) := by decide +kernel
theorem dX11_light_67 : decode cX11_light 67 = .ok (.goto 4, 3) := by decide +kernel
theorem dX11_light_70 : decode cX11_light 70 = .ok (.iconst 1, 1) := by decide +kernel
theorem dX11_light_71 : decode cX11_light 71 = .ok (.ireturn, 1) := by decide +kernel
theorem dX11_draught_0 : decode cX11_draught 0 = .ok (.iload_n 1, 1) := by decide +kernel
theorem dX11_draught_1 : decode cX11_draught 1 = .ok (.invokestatic 60, 3) := by decide +kernel
theorem dX11_draught_4 : decode cX11_draught 4 = .ok (.ifCond .ne 9, 3) := by decide +kernel
theorem dX11_draught_7 : decode cX11_draught 7 = .ok (.aload_n 0, 1) := by decide +kernel
theorem dX11_draught_8 : decode cX11_draught 8 = .ok (.iconst (-1), 1) := by decide +kernel
theorem dX11_draught_9 : decode cX11_draught 9 = .ok (.invokevirtual 71, 3) := by decide +kernel
theorem dX11_draught_12 : decode cX11_draught 12 = .ok (.ireturn, 1) := by decide +kernel
theorem dX11_draught_13 : decode cX11_draught 13 = .ok (.iload_n 2, 1) := by decide +kernel
theorem dX11_draught_14 : decode cX11_draught 14 = .ok (.iconst 0, 1) := by decide +kernel
theorem dX11_draught_15 : decode cX11_draught 15 = .ok (.bipush 9, 2) := by decide +kernel
theorem dX11_draught_17 : decode cX11_draught 17 = .ok (.invokestatic 64, 3) := by decide +kernel
theorem dX11_draught_20 : decode cX11_draught 20 = .ok (.istore_n 3, 1) := by decide +kernel
theorem dX11_draught_21 : decode cX11_draught 21 = .ok (.iload_n 3, 1) := by decide +kernel
theorem dX11_draught_22 : decode cX11_draught 22 = .ok (.ifCond .eq 9, 3) := by decide +kernel
theorem dX11_draught_25 : decode cX11_draught 25 = .ok (.aload_n 0, 1) := by decide +kernel
theorem dX11_draught_26 : decode cX11_draught 26 = .ok (.iload_n 3, 1) := by decide +kernel
theorem dX11_draught_27 : decode cX11_draught 27 = .ok (.invokevirtual 71, 3) := by decide +kernel
theorem dX11_draught_30 : decode cX11_draught 30 = .ok (.ireturn, 1) := by decide +kernel
theorem dX11_draught_31 : decode cX11_draught 31 = .ok (.aload_n 0, 1) := by decide +kernel
theorem dX11_draught_32 : decode cX11_draught 32 = .ok (.getfield 31, 3) := by decide +kernel
theorem dX11_draught_35 : decode cX11_draught 35 = .ok (.iload_n 1, 1) := by decide +kernel
theorem dX11_draught_36 : decode cX11_draught 36 = .ok (.iaload, 1) := by decide +kernel
theorem dX11_draught_37 : decode cX11_draught 37 = .ok (.istore 4, 2) := by decide +kernel
theorem dX11_draught_39 : decode cX11_draught 39 = .ok (.aload_n 0, 1) := by decide +kernel
theorem dX11_draught_40 : decode cX11_draught 40 = .ok (.getfield 31, 3) := by decide +kernel
theorem dX11_draught_43 : decode cX11_draught 43 = .ok (.iload_n 1, 1) := by decide +kernel
theorem dX11_draught_44 : decode cX11_draught 44 = .ok (.iload_n 2, 1) := by decide +kernel
theorem dX11_draught_45 : decode cX11_draught 45 = .ok (.iastore, 1) := by decide +kernel
theorem dX11_draught_46 : decode cX11_draught 46 = .ok (.iload 4, 2) := by decide +kernel
theorem dX11_draught_48 : decode cX11_draught 48 = .ok (.ireturn, 1) := by decide +kernel
