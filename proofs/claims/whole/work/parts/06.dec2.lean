theorem dX10_init_0 : decode cX10_init 0 = .ok (.aload_n 0, 1) := by decide +kernel
theorem dX10_init_1 : decode cX10_init 1 = .ok (.invokespecial 1, 3) := by decide +kernel
theorem dX10_init_4 : decode cX10_init 4 = .ok (.bipush 6, 2) := by decide +kernel
theorem dX10_init_6 : decode cX10_init 6 = .ok (.anewarray 7, 3) := by decide +kernel
theorem dX10_init_9 : decode cX10_init 9 = .ok (.dup, 1) := by decide +kernel
theorem dX10_init_10 : decode cX10_init 10 = .ok (.iconst 0, 1) := by decide +kernel
theorem dX10_init_11 : decode cX10_init 11 = .ok (.new 7, 3) := by decide +kernel
theorem dX10_init_14 : decode cX10_init 14 = .ok (.dup, 1) := by decide +kernel
theorem dX10_init_15 : decode cX10_init 15 = .ok (.invokespecial 9, 3) := by decide +kernel
theorem dX10_init_18 : decode cX10_init 18 = .ok (.aastore, 1) := by decide +kernel
theorem dX10_init_19 : decode cX10_init 19 = .ok (.dup, 1) := by decide +kernel
theorem dX10_init_20 : decode cX10_init 20 = .ok (.iconst 1, 1) := by decide +kernel
theorem dX10_init_21 : decode cX10_init 21 = .ok (.new 10, 3) := by decide +kernel
theorem dX10_init_24 : decode cX10_init 24 = .ok (.dup, 1) := by decide +kernel
theorem dX10_init_25 : decode cX10_init 25 = .ok (.invokespecial 12, 3) := by decide +kernel
theorem dX10_init_28 : decode cX10_init 28 = .ok (.aastore, 1) := by decide +kernel
theorem dX10_init_29 : decode cX10_init 29 = .ok (.dup, 1) := by decide +kernel
theorem dX10_init_30 : decode cX10_init 30 = .ok (.iconst 2, 1) := by decide +kernel
theorem dX10_init_31 : decode cX10_init 31 = .ok (.new 13, 3) := by decide +kernel
theorem dX10_init_34 : decode cX10_init 34 = .ok (.dup, 1) := by decide +kernel
theorem dX10_init_35 : decode cX10_init 35 = .ok (.invokespecial 15, 3) := by decide +kernel
theorem dX10_init_38 : decode cX10_init 38 = .ok (.aastore, 1) := by decide +kernel
theorem dX10_init_39 : decode cX10_init 39 = .ok (.dup, 1) := by decide +kernel
theorem dX10_init_40 : decode cX10_init 40 = .ok (.iconst 3, 1) := by decide +kernel
theorem dX10_init_41 : decode cX10_init 41 = .ok (.new 16, 3) := by decide +kernel
theorem dX10_init_44 : decode cX10_init 44 = .ok (.dup, 1) := by decide +kernel
theorem dX10_init_45 : decode cX10_init 45 = .ok (.invokespecial 18, 3) := by decide +kernel
theorem dX10_init_48 : decode cX10_init 48 = .ok (.aastore, 1) := by decide +kernel
theorem dX10_init_49 : decode cX10_init 49 = .ok (.dup, 1) := by decide +kernel
theorem dX10_init_50 : decode cX10_init 50 = .ok (.iconst 4, 1) := by decide +kernel
theorem dX10_init_51 : decode cX10_init 51 = .ok (.new 19, 3) := by decide +kernel
theorem dX10_init_54 : decode cX10_init 54 = .ok (.dup, 1) := by decide +kernel
theorem dX10_init_55 : decode cX10_init 55 = .ok (.invokespecial 21, 3) := by decide +kernel
theorem dX10_init_58 : decode cX10_init 58 = .ok (.aastore, 1) := by decide +kernel
theorem dX10_init_59 : decode cX10_init 59 = .ok (.dup, 1) := by decide +kernel
theorem dX10_init_60 : decode cX10_init 60 = .ok (.iconst 5, 1) := by decide +kernel
theorem dX10_init_61 : decode cX10_init 61 = .ok (.new 22, 3) := by decide +kernel
theorem dX10_init_64 : decode cX10_init 64 = .ok (.dup, 1) := by decide +kernel
theorem dX10_init_65 : decode cX10_init 65 = .ok (.invokespecial 24, 3) := by decide +kernel
theorem dX10_init_68 : decode cX10_init 68 = .ok (.aastore, 1) := by decide +kernel
theorem dX10_init_69 : decode cX10_init 69 = .ok (.astore_n 1, 1) := by decide +kernel
theorem dX10_init_70 : decode cX10_init 70 = .ok (.aload_n 0, 1) := by decide +kernel
theorem dX10_init_71 : decode cX10_init 71 = .ok (.aload_n 1, 1) := by decide +kernel
theorem dX10_init_72 : decode cX10_init 72 = .ok (.putfield 25, 3) := by decide +kernel
theorem dX10_init_75 : decode cX10_init 75 = .ok (.aload_n 0, 1) := by decide +kernel
theorem dX10_init_76 : decode cX10_init 76 = .ok (.new 31, 3) := by decide +kernel
theorem dX10_init_79 : decode cX10_init 79 = .ok (.dup, 1) := by decide +kernel
theorem dX10_init_80 : decode cX10_init 80 = .ok (.aload_n 1, 1) := by decide +kernel
theorem dX10_init_81 : decode cX10_init 81 = .ok (.invokespecial 33, 3) := by decide +kernel
theorem dX10_init_84 : decode cX10_init 84 = .ok (.putfield 36, 3) := by decide +kernel
theorem dX10_init_87 : decode cX10_init 87 = .ok (.aload_n 0, 1) := by decide +kernel
theorem dX10_init_88 : decode cX10_init 88 = .ok (.new 31, 3) := by decide +kernel
theorem dX10_init_91 : decode cX10_init 91 = .ok (.dup, 1) := by decide +kernel
theorem dX10_init_92 : decode cX10_init 92 = .ok (.aload_n 1, 1) := by decide +kernel
theorem dX10_init_93 : decode cX10_init 93 = .ok (.invokespecial 33, 3) := by decide +kernel
theorem dX10_init_96 : decode cX10_init 96 = .ok (.putfield 40, 3) := by decide +kernel
theorem dX10_init_99 : decode cX10_init 99 = .ok (.aload_n 0, 1) := by decide +kernel
theorem dX10_init_100 : decode cX10_init 100 = .ok (.new 31, 3) := by decide +kernel
theorem dX10_init_103 : decode cX10_init 103 = .ok (.dup, 1) := by decide +kernel
theorem dX10_init_104 : decode cX10_init 104 = .ok (.aload_n 1, 1) := by decide +kernel
theorem dX10_init_105 : decode cX10_init 105 = .ok (.invokespecial 33, 3) := by decide +kernel
theorem dX10_init_108 : decode cX10_init 108 = .ok (.putfield 43, 3) := by decide +kernel
theorem dX10_init_111 : decode cX10_init 111 = .ok (.aload_n 0, 1) := by decide +kernel
theorem dX10_init_112 : decode cX10_init 112 = .ok (.new 46, 3) := by decide +kernel
theorem dX10_init_115 : decode cX10_init 115 = .ok (.dup, 1) := by decide +kernel
theorem dX10_init_116 : decode cX10_init 116 = .ok (.invokespecial 48, 3) := by decide +kernel
theorem dX10_init_119 : decode cX10_init 119 = .ok (.putfield 49, 3) := by decide +kernel
theorem dX10_init_122 : decode cX10_init 122 = .ok (.aload_n 0, 1) := by decide +kernel
theorem dX10_init_123 : decode cX10_init 123 = .ok (.new 53, 3) := by decide +kernel
theorem dX10_init_126 : decode cX10_init 126 = .ok (.dup, 1) := by decide +kernel
theorem dX10_init_127 : decode cX10_init 127 = .ok (.invokespecial 55, 3) := by decide +kernel
theorem dX10_init_130 : decode cX10_init 130 = .ok (.putfield 56, 3) := by decide +kernel
theorem dX10_init_133 : decode cX10_init 133 = .ok (.aload_n 0, 1) := by decide +kernel
theorem dX10_init_134 : decode cX10_init 134 = .ok (.bipush 6, 2) := by decide +kernel
theorem dX10_init_136 : decode cX10_init 136 = .ok (.newarray .int, 2) := by decide +kernel
theorem dX10_init_138 : decode cX10_init 138 = .ok (.putfield 60, 3) := by decide +kernel
theorem dX10_init_141 : decode cX10_init 141 = .ok (.aload_n 0, 1) := by decide +kernel
theorem dX10_init_142 : decode cX10_init 142 = .ok (.bipush 7, 2) := by decide +kernel
theorem dX10_init_144 : decode cX10_init 144 = .ok (.newarray .int, 2) := by decide +kernel
theorem dX10_init_146 : decode cX10_init 146 = .ok (.putfield 64, 3) := by decide +kernel
theorem dX10_init_149 : decode cX10_init 149 = .ok (.return_, 1) := by decide +kernel
theorem dX10_feed_0 : decode cX10_feed 0 = .ok (.iload_n 1, 1) := by decide +kernel
theorem dX10_feed_1 : decode cX10_feed 1 = .ok (.ifCond .ge 10, 3) := by decide +kernel
theorem dX10_feed_4 : decode cX10_feed 4 = .ok (.aload_n 0, 1) := by decide +kernel
theorem dX10_feed_5 : decode cX10_feed 5 = .ok (.bipush (-4), 2) := by decide +kernel
theorem dX10_feed_7 : decode cX10_feed 7 = .ok (.invokevirtual 67, 3) := by decide +kernel
theorem dX10_feed_10 : decode cX10_feed 10 = .ok (.ireturn, 1) := by decide +kernel
theorem dX10_feed_11 : decode cX10_feed 11 = .ok (.iload_n 1, 1) := by decide +kernel
theorem dX10_feed_12 : decode cX10_feed 12 = .ok (.sipush 255, 3) := by decide +kernel
theorem dX10_feed_15 : decode cX10_feed 15 = .ok (.if_icmp .gt 15, 3) := by decide +kernel
theorem dX10_feed_18 : decode cX10_feed 18 = .ok (.aload_n 0, 1) := by decide +kernel
theorem dX10_feed_19 : decode cX10_feed 19 = .ok (.getfield 49, 3) := by decide +kernel
theorem dX10_feed_22 : decode cX10_feed 22 = .ok (.getfield 71, 3) := by decide +kernel
theorem dX10_feed_25 : decode cX10_feed 25 = .ok (.bipush 80, 2) := by decide +kernel
theorem dX10_feed_27 : decode cX10_feed 27 = .ok (.if_icmp .lt 10, 3) := by decide +kernel
theorem dX10_feed_30 : decode cX10_feed 30 = .ok (.aload_n 0, 1) := by decide +kernel
theorem dX10_feed_31 : decode cX10_feed 31 = .ok (.bipush (-6), 2) := by decide +kernel
theorem dX10_feed_33 : decode cX10_feed 33 = .ok (.invokevirtual 67, 3) := by decide +kernel
theorem dX10_feed_36 : decode cX10_feed 36 = .ok (.ireturn, 1) := by decide +kernel
theorem dX10_feed_37 : decode cX10_feed 37 = .ok (.aload_n 0, 1) := by decide +kernel
theorem dX10_feed_38 : decode cX10_feed 38 = .ok (.getfield 49, 3) := by decide +kernel
theorem dX10_feed_41 : decode cX10_feed 41 = .ok (.getfield 75, 3) := by decide +kernel
theorem dX10_feed_44 : decode cX10_feed 44 = .ok (.aload_n 0, 1) := by decide +kernel
theorem dX10_feed_45 : decode cX10_feed 45 = .ok (.getfield 49, 3) := by decide +kernel
theorem dX10_feed_48 : decode cX10_feed 48 = .ok (.getfield 71, 3) := by decide +kernel
theorem dX10_feed_51 : decode cX10_feed 51 = .ok (.iload_n 1, 1) := by decide +kernel
theorem dX10_feed_52 : decode cX10_feed 52 = .ok (.iastore, 1) := by decide +kernel
theorem dX10_feed_53 : decode cX10_feed 53 = .ok (.aload_n 0, 1) := by decide +kernel
theorem dX10_feed_54 : decode cX10_feed 54 = .ok (.getfield 49, 3) := by decide +kernel
theorem dX10_feed_57 : decode cX10_feed 57 = .ok (.dup, 1) := by decide +kernel
theorem dX10_feed_58 : decode cX10_feed 58 = .ok (.getfield 71, 3) := by decide +kernel
theorem dX10_feed_61 : decode cX10_feed 61 = .ok (.iconst 1, 1) := by decide +kernel
theorem dX10_feed_62 : decode cX10_feed 62 = .ok (.iadd, 1) := by decide +kernel
theorem dX10_feed_63 : decode cX10_feed 63 = .ok (.putfield 71, 3) := by decide +kernel
theorem dX10_feed_66 : decode cX10_feed 66 = .ok (.aload_n 0, 1) := by decide +kernel
theorem dX10_feed_67 : decode cX10_feed 67 = .ok (.getfield 49, 3) := by decide +kernel
theorem dX10_feed_70 : decode cX10_feed 70 = .ok (.getfield 71, 3) := by decide +kernel
theorem dX10_feed_73 : decode cX10_feed 73 = .ok (.ireturn, 1) := by decide +kernel
theorem dX10_night_0 : decode cX10_night 0 = .ok (.aload_n 0, 1) := by decide +kernel
theorem dX10_night_1 : decode cX10_night 1 = .ok (.invokevirtual 78, 3) := by decide +kernel
theorem dX10_night_4 : decode cX10_night 4 = .ok (.istore_n 1, 1) := by decide +kernel
theorem dX10_night_5 : decode cX10_night 5 = .ok (.aload_n 0, 1) := by decide +kernel
theorem dX10_night_6 : decode cX10_night 6 = .ok (.getfield 49, 3) := by decide +kernel
theorem dX10_night_9 : decode cX10_night 9 = .ok (.iconst 0, 1) := by decide +kernel
theorem dX10_night_10 : decode cX10_night 10 = .ok (.putfield 71, 3) := by decide +kernel
theorem dX10_night_13 : decode cX10_night 13 = .ok (.iload_n 1, 1) := by decide +kernel
theorem dX10_night_14 : decode cX10_night 14 = .ok (.ireturn, 1) := by decide +kernel
theorem dX10_candle_0 : decode cX10_candle 0 = .ok (.aload_n 0, 1) := by decide +kernel
theorem dX10_candle_1 : decode cX10_candle 1 = .ok (.iload_n 1, 1) := by decide +kernel
theorem dX10_candle_2 : decode cX10_candle 2 = .ok (.invokevirtual 82, 3) := by decide +kernel
theorem dX10_candle_5 : decode cX10_candle 5 = .ok (.ifCond .ne 9, 3) := by decide +kernel
theorem dX10_candle_8 : decode cX10_candle 8 = .ok (.aload_n 0, 1) := by decide +kernel
theorem dX10_candle_9 : decode cX10_candle 9 = .ok (.iconst (-1), 1) := by decide +kernel
theorem dX10_candle_10 : decode cX10_candle 10 = .ok (.invokevirtual 67, 3) := by decide +kernel
theorem dX10_candle_13 : decode cX10_candle 13 = .ok (.ireturn, 1) := by decide +kernel
theorem dX10_candle_14 : decode cX10_candle 14 = .ok (.aload_n 0, 1) := by decide +kernel
theorem dX10_candle_15 : decode cX10_candle 15 = .ok (.getfield 36, 3) := by decide +kernel
theorem dX10_candle_18 : decode cX10_candle 18 = .ok (.getfield 86, 3) := by decide +kernel
theorem dX10_candle_21 : decode cX10_candle 21 = .ok (.iload_n 1, 1) := by decide +kernel
theorem dX10_candle_22 : decode cX10_candle 22 = .ok (.aaload, 1) := by decide +kernel
theorem dX10_candle_23 : decode cX10_candle 23 = .ok (.astore_n 3, 1) := by decide +kernel
theorem dX10_candle_24 : decode cX10_candle 24 = .ok (.iload_n 2, 1) := by decide +kernel
theorem dX10_candle_25 : decode cX10_candle 25 = .ok (.tableswitch 116 0 8 #[51, 56, 61, 66, 71, 76, 89, 98, 107], 51) := by decide +kernel
theorem dX10_candle_76 : decode cX10_candle 76 = .ok (.aload_n 3, 1) := by decide +kernel
theorem dX10_candle_77 : decode cX10_candle 77 = .ok (.getfield 90, 3) := by decide +kernel
theorem dX10_candle_80 : decode cX10_candle 80 = .ok (.ireturn, 1) := by decide +kernel
theorem dX10_candle_81 : decode cX10_candle 81 = .ok (.aload_n 3, 1) := by decide +kernel
theorem dX10_candle_82 : decode cX10_candle 82 = .ok (.getfield 95, 3) := by decide +kernel
theorem dX10_candle_85 : decode cX10_candle 85 = .ok (.ireturn, 1) := by decide +kernel
theorem dX10_candle_86 : decode cX10_candle 86 = .ok (.aload_n 3, 1) := by decide +kernel
theorem dX10_candle_87 : decode cX10_candle 87 = .ok (.getfield 98, 3) := by decide +kernel
theorem dX10_candle_90 : decode cX10_candle 90 = .ok (.ireturn, 1) := by decide +kernel
theorem dX10_candle_91 : decode cX10_candle 91 = .ok (.aload_n 3, 1) := by decide +kernel
theorem dX10_candle_92 : decode cX10_candle 92 = .ok (.getfield 101, 3) := by decide +kernel
theorem dX10_candle_95 : decode cX10_candle 95 = .ok (.ireturn, 1) := by decide +kernel
theorem dX10_candle_96 : decode cX10_candle 96 = .ok (.aload_n 3, 1) := by decide +kernel
theorem dX10_candle_97 : decode cX10_candle 97 = .ok (.getfield 104, 3) := by decide +kernel
theorem dX10_candle_100 : decode cX10_candle 100 = .ok (.ireturn, 1) := by decide +kernel
theorem dX10_candle_101 : decode cX10_candle 101 = .ok (.aload_n 3, 1) := by decide +kernel
theorem dX10_candle_102 : decode cX10_candle 102 = .ok (.getfield 107, 3) := by decide +kernel
theorem dX10_candle_105 : decode cX10_candle 105 = .ok (.ifCond .eq 7, 3) := by decide +kernel
theorem dX10_candle_108 : decode cX10_candle 108 = .ok (.iconst 1, 1) := by decide +kernel
theorem dX10_candle_109 : decode cX10_candle 109 = .ok (.goto 4, 3) := by decide +kernel
theorem dX10_candle_112 : decode cX10_candle 112 = .ok (.iconst 0, 1) := by decide +kernel
theorem dX10_candle_113 : decode cX10_candle 113 = .ok (.ireturn, 1) := by decide +kernel
theorem dX10_candle_114 : decode cX10_candle 114 = .ok (.aload_n 0, 1) := by decide +kernel
theorem dX10_candle_115 : decode cX10_candle 115 = .ok (.getfield 36, 3) := by decide +kernel
theorem dX10_candle_118 : decode cX10_candle 118 = .ok (.aload_n 3, 1) := by decide +kernel
theorem dX10_candle_119 : decode cX10_candle 119 = .ok (.invokevirtual 111, 3) := by decide +kernel
theorem dX10_candle_122 : decode cX10_candle 122 = .ok (.ireturn, 1) := by decide +kernel
theorem dX10_candle_123 : decode cX10_candle 123 = .ok (.aload_n 0, 1) := by decide +kernel
theorem dX10_candle_124 : decode cX10_candle 124 = .ok (.getfield 36, 3) := by decide +kernel
theorem dX10_candle_127 : decode cX10_candle 127 = .ok (.aload_n 3, 1) := by decide +kernel
theorem dX10_candle_128 : decode cX10_candle 128 = .ok (.invokevirtual 115, 3) := by decide +kernel
theorem dX10_candle_131 : decode cX10_candle 131 = .ok (.ireturn, 1) := by decide +kernel
theorem dX10_candle_132 : decode cX10_candle 132 = .ok (.aload_n 0, 1) := by decide +kernel
theorem dX10_candle_133 : decode cX10_candle 133 = .ok (.getfield 36, 3) := by decide +kernel
theorem dX10_candle_136 : decode cX10_candle 136 = .ok (.aload_n 3, 1) := by decide +kernel
theorem dX10_candle_137 : decode cX10_candle 137 = .ok (.invokevirtual 118, 3) := by decide +kernel
theorem dX10_candle_140 : decode cX10_candle 140 = .ok (.ireturn, 1) := by decide +kernel
theorem dX10_candle_141 : decode cX10_candle 141 = .ok (.aload_n 0, 1) := by decide +kernel
theorem dX10_candle_142 : decode cX10_candle 142 = .ok (.bipush (-2), 2) := by decide +kernel
theorem dX10_candle_144 : decode cX10_candle 144 = .ok (.invokevirtual 67, 3) := by decide +kernel
theorem dX10_candle_147 : decode cX10_candle 147 = .ok (.ireturn, 1) := by decide +kernel
theorem dX10_put_0 : decode cX10_put 0 = .ok (.aload_n 0, 1) := by decide +kernel
theorem dX10_put_1 : decode cX10_put 1 = .ok (.iload_n 1, 1) := by decide +kernel
theorem dX10_put_2 : decode cX10_put 2 = .ok (.invokevirtual 82, 3) := by decide +kernel
theorem dX10_put_5 : decode cX10_put 5 = .ok (.ifCond .eq 10, 3) := by decide +kernel
theorem dX10_put_8 : decode cX10_put 8 = .ok (.iload_n 2, 1) := by decide +kernel
theorem dX10_put_9 : decode cX10_put 9 = .ok (.invokestatic 121, 3) := by decide +kernel
theorem dX10_put_12 : decode cX10_put 12 = .ok (.ifCond .ne 9, 3) := by decide +kernel
theorem dX10_put_15 : decode cX10_put 15 = .ok (.aload_n 0, 1) := by decide +kernel
theorem dX10_put_16 : decode cX10_put 16 = .ok (.iconst (-1), 1) := by decide +kernel
theorem dX10_put_17 : decode cX10_put 17 = .ok (.invokevirtual 67, 3) := by decide +kernel
theorem dX10_put_20 : decode cX10_put 20 = .ok (.ireturn, 1) := by decide +kernel
theorem dX10_put_21 : decode cX10_put 21 = .ok (.aload_n 0, 1) := by decide +kernel
theorem dX10_put_22 : decode cX10_put 22 = .ok (.getfield 36, 3) := by decide +kernel
theorem dX10_put_25 : decode cX10_put 25 = .ok (.getfield 86, 3) := by decide +kernel
theorem dX10_put_28 : decode cX10_put 28 = .ok (.iload_n 1, 1) := by decide +kernel
theorem dX10_put_29 : decode cX10_put 29 = .ok (.aaload, 1) := by decide +kernel
theorem dX10_put_30 : decode cX10_put 30 = .ok (.astore_n 3, 1) := by decide +kernel
theorem dX10_put_31 : decode cX10_put 31 = .ok (.aload_n 3, 1) := by decide +kernel
theorem dX10_put_32 : decode cX10_put 32 = .ok (.getfield 104, 3) := by decide +kernel
theorem dX10_put_35 : decode cX10_put 35 = .ok (.istore 4, 2) := by decide +kernel
theorem dX10_put_37 : decode cX10_put 37 = .ok (.aload_n 3, 1) := by decide +kernel
theorem dX10_put_38 : decode cX10_put 38 = .ok (.iload_n 2, 1) := by decide +kernel
theorem dX10_put_39 : decode cX10_put 39 = .ok (.putfield 104, 3) := by decide +kernel
theorem dX10_put_42 : decode cX10_put 42 = .ok (.iload 4, 2) := by decide +kernel
theorem dX10_put_44 : decode cX10_put 44 = .ok (.ireturn, 1) := by decide +kernel
theorem dX10_light_0 : decode cX10_light 0 = .ok (.aload_n 0, 1) := by decide +kernel
theorem dX10_light_1 : decode cX10_light 1 = .ok (.iload_n 1, 1) := by decide +kernel
theorem dX10_light_2 : decode cX10_light 2 = .ok (.invokevirtual 82, 3) := by decide +kernel
theorem dX10_light_5 : decode cX10_light 5 = .ok (.ifCond .ne 9, 3) := by decide +kernel
theorem dX10_light_8 : decode cX10_light 8 = .ok (.aload_n 0, 1) := by decide +kernel
theorem dX10_light_9 : decode cX10_light 9 = .ok (.iconst (-1), 1) := by decide +kernel
theorem dX10_light_10 : decode cX10_light 10 = .ok (.invokevirtual 67, 3) := by decide +kernel
theorem dX10_light_13 : decode cX10_light 13 = .ok (.ireturn, 1) := by decide +kernel
theorem dX10_light_14 : decode cX10_light 14 = .ok (.aload_n 0, 1) := by decide +kernel
theorem dX10_light_15 : decode cX10_light 15 = .ok (.getfield 36, 3) := by decide +kernel
theorem dX10_light_18 : decode cX10_light 18 = .ok (.getfield 86, 3) := by decide +kernel
theorem dX10_light_21 : decode cX10_light 21 = .ok (.iload_n 1, 1) := by decide +kernel
theorem dX10_light_22 : decode cX10_light 22 = .ok (.aaload, 1) := by decide +kernel
theorem dX10_light_23 : decode cX10_light 23 = .ok (.astore_n 3, 1) := by decide +kernel
theorem dX10_light_24 : decode cX10_light 24 = .ok (.iload_n 2, 1) := by decide +kernel
theorem dX10_light_25 : decode cX10_light 25 = .ok (.ifCond .eq 17, 3) := by decide +kernel
theorem dX10_light_28 : decode cX10_light 28 = .ok (.aload_n 3, 1) := by decide +kernel
theorem dX10_light_29 : decode cX10_light 29 = .ok (.getfield 98, 3) := by decide +kernel
theorem dX10_light_32 : decode cX10_light 32 = .ok (.ifCond .ne 10, 3) := by decide +kernel
theorem dX10_light_35 : decode cX10_light 35 = .ok (.aload_n 0, 1) := by decide +kernel
theorem dX10_light_36 : decode cX10_light 36 = .ok (.bipush (-3), 2) := by decide +kernel
theorem dX10_light_38 : decode cX10_light 38 = .ok (.invokevirtual 67, 3) := by decide +kernel
theorem dX10_light_41 : decode cX10_light 41 = .ok (.ireturn, 1) := by decide +kernel
theorem dX10_light_42 : decode cX10_light 42 = .ok (.aload_n 3, 1) := by decide +kernel
theorem dX10_light_43 : decode cX10_light 43 = .ok (.getfield 107, 3) := by decide +kernel
theorem dX10_light_46 : decode cX10_light 46 = .ok (.iload_n 2, 1) := by decide +kernel
theorem dX10_light_47 : decode cX10_light 47 = .ok (.if_icmp .ne 5, 3) := by decide +kernel
theorem dX10_light_50 : decode cX10_light 50 = .ok (.iconst 0, 1) := by decide +kernel
theorem dX10_light_51 : decode cX10_light 51 = .ok (.ireturn, 1) := by decide +kernel
theorem dX10_light_52 : decode cX10_light 52 = .ok (.aload_n 3, 1) := by decide +kernel
theorem dX10_light_53 : decode cX10_light 53 = .ok (.iload_n 2, 1) := by decide +kernel
theorem dX10_light_54 : decode cX10_light 54 = .ok (.putfield 107, 3) := by decide +kernel
theorem dX10_light_57 : decode cX10_light 57 = .ok (.iconst 1, 1) := by decide +kernel
theorem dX10_light_58 : decode cX10_light 58 = .ok (.ireturn, 1) := by decide +kernel
theorem dX10_draught_0 : decode cX10_draught 0 = .ok (.iload_n 1, 1) := by decide +kernel
theorem dX10_draught_1 : decode cX10_draught 1 = .ok (.invokestatic 121, 3) := by decide +kernel
theorem dX10_draught_4 : decode cX10_draught 4 = .ok (.ifCond .ne 9, 3) := by decide +kernel
theorem dX10_draught_7 : decode cX10_draught 7 = .ok (.aload_n 0, 1) := by decide +kernel
theorem dX10_draught_8 : decode cX10_draught 8 = .ok (.iconst (-1), 1) := by decide +kernel
theorem dX10_draught_9 : decode cX10_draught 9 = .ok (.invokevirtual 67, 3) := by decide +kernel
theorem dX10_draught_12 : decode cX10_draught 12 = .ok (.ireturn, 1) := by decide +kernel
theorem dX10_draught_13 : decode cX10_draught 13 = .ok (.iload_n 2, 1) := by decide +kernel
theorem dX10_draught_14 : decode cX10_draught 14 = .ok (.iconst 0, 1) := by decide +kernel
theorem dX10_draught_15 : decode cX10_draught 15 = .ok (.bipush 9, 2) := by decide +kernel
theorem dX10_draught_17 : decode cX10_draught 17 = .ok (.invokestatic 124, 3) := by decide +kernel
theorem dX10_draught_20 : decode cX10_draught 20 = .ok (.istore_n 3, 1) := by decide +kernel
theorem dX10_draught_21 : decode cX10_draught 21 = .ok (.iload_n 3, 1) := by decide +kernel
theorem dX10_draught_22 : decode cX10_draught 22 = .ok (.ifCond .eq 9, 3) := by decide +kernel
theorem dX10_draught_25 : decode cX10_draught 25 = .ok (.aload_n 0, 1) := by decide +kernel
theorem dX10_draught_26 : decode cX10_draught 26 = .ok (.iload_n 3, 1) := by decide +kernel
theorem dX10_draught_27 : decode cX10_draught 27 = .ok (.invokevirtual 67, 3) := by decide +kernel
theorem dX10_draught_30 : decode cX10_draught 30 = .ok (.ireturn, 1) := by decide +kernel
theorem dX10_draught_31 : decode cX10_draught 31 = .ok (.aload_n 0, 1) := by decide +kernel
theorem dX10_draught_32 : decode cX10_draught 32 = .ok (.getfield 36, 3) := by decide +kernel
theorem dX10_draught_35 : decode cX10_draught 35 = .ok (.getfield 128, 3) := by decide +kernel
theorem dX10_draught_38 : decode cX10_draught 38 = .ok (.iload_n 1, 1) := by decide +kernel
theorem dX10_draught_39 : decode cX10_draught 39 = .ok (.iaload, 1) := by decide +kernel
theorem dX10_draught_40 : decode cX10_draught 40 = .ok (.istore 4, 2) := by decide +kernel
theorem dX10_draught_42 : decode cX10_draught 42 = .ok (.aload_n 0, 1) := by decide +kernel
theorem dX10_draught_43 : decode cX10_draught 43 = .ok (.getfield 36, 3) := by decide +kernel
theorem dX10_draught_46 : decode cX10_draught 46 = .ok (.getfield 128, 3) := by decide +kernel
theorem dX10_draught_49 : decode cX10_draught 49 = .ok (.iload_n 1, 1) := by decide +kernel
theorem dX10_draught_50 : decode cX10_draught 50 = .ok (.iload_n 2, 1) := by decide +kernel
theorem dX10_draught_51 : decode cX10_draught 51 = .ok (.iastore, 1) := by decide +kernel
theorem dX10_draught_52 : decode cX10_draught 52 = .ok (.iload 4, 2) := by decide +kernel
theorem dX10_draught_54 : decode cX10_draught 54 = .ok (.ireturn, 1) := by decide +kernel
theorem dX10_owe_0 : decode cX10_owe 0 = .ok (.iload_n 1, 1) := by decide +kernel
theorem dX10_owe_1 : decode cX10_owe 1 = .ok (.iload_n 2, 1) := by decide +kernel
theorem dX10_owe_2 : decode cX10_owe 2 = .ok (.invokestatic 131, 3) := by decide +kernel
theorem dX10_owe_5 : decode cX10_owe 5 = .ok (.ifCond .ne 9, 3) := by decide +kernel
theorem dX10_owe_8 : decode cX10_owe 8 = .ok (.aload_n 0, 1) := by decide +kernel
theorem dX10_owe_9 : decode cX10_owe 9 = .ok (.iconst (-1), 1) := by decide +kernel
theorem dX10_owe_10 : decode cX10_owe 10 = .ok (.invokevirtual 67, 3) := by decide +kernel
theorem dX10_owe_13 : decode cX10_owe 13 = .ok (.ireturn, 1) := by decide +kernel
theorem dX10_owe_14 : decode cX10_owe 14 = .ok (.iload_n 3, 1) := by decide +kernel
theorem dX10_owe_15 : decode cX10_owe 15 = .ok (.iconst 0, 1) := by decide +kernel
theorem dX10_owe_16 : decode cX10_owe 16 = .ok (.sipush 999, 3) := by decide +kernel
theorem dX10_owe_19 : decode cX10_owe 19 = .ok (.invokestatic 124, 3) := by decide +kernel
theorem dX10_owe_22 : decode cX10_owe 22 = .ok (.istore 4, 2) := by decide +kernel
theorem dX10_owe_24 : decode cX10_owe 24 = .ok (.iload 4, 2) := by decide +kernel
theorem dX10_owe_26 : decode cX10_owe 26 = .ok (.ifCond .eq 10, 3) := by decide +kernel
theorem dX10_owe_29 : decode cX10_owe 29 = .ok (.aload_n 0, 1) := by decide +kernel
theorem dX10_owe_30 : decode cX10_owe 30 = .ok (.iload 4, 2) := by decide +kernel
theorem dX10_owe_32 : decode cX10_owe 32 = .ok (.invokevirtual 67, 3) := by decide +kernel
theorem dX10_owe_35 : decode cX10_owe 35 = .ok (.ireturn, 1) := by decide +kernel
theorem dX10_owe_36 : decode cX10_owe 36 = .ok (.aload_n 0, 1) := by decide +kernel
theorem dX10_owe_37 : decode cX10_owe 37 = .ok (.getfield 36, 3) := by decide +kernel
theorem dX10_owe_40 : decode cX10_owe 40 = .ok (.getfield 135, 3) := by decide +kernel
theorem dX10_owe_43 : decode cX10_owe 43 = .ok (.iload_n 1, 1) := by decide +kernel
theorem dX10_owe_44 : decode cX10_owe 44 = .ok (.iload_n 2, 1) := by decide +kernel
theorem dX10_owe_45 : decode cX10_owe 45 = .ok (.invokestatic 138, 3) := by decide +kernel
theorem dX10_owe_48 : decode cX10_owe 48 = .ok (.iaload, 1) := by decide +kernel
theorem dX10_owe_49 : decode cX10_owe 49 = .ok (.istore 5, 2) := by decide +kernel
theorem dX10_owe_51 : decode cX10_owe 51 = .ok (.aload_n 0, 1) := by decide +kernel
theorem dX10_owe_52 : decode cX10_owe 52 = .ok (.getfield 36, 3) := by decide +kernel
theorem dX10_owe_55 : decode cX10_owe 55 = .ok (.getfield 135, 3) := by decide +kernel
theorem dX10_owe_58 : decode cX10_owe 58 = .ok (.iload_n 1, 1) := by decide +kernel
theorem dX10_owe_59 : decode cX10_owe 59 = .ok (.iload_n 2, 1) := by decide +kernel
theorem dX10_owe_60 : decode cX10_owe 60 = .ok (.invokestatic 138, 3) := by decide +kernel
theorem dX10_owe_63 : decode cX10_owe 63 = .ok (.iload_n 3, 1) := by decide +kernel
theorem dX10_owe_64 : decode cX10_owe 64 = .ok (.iastore, 1) := by decide +kernel
theorem dX10_owe_65 : decode cX10_owe 65 = .ok (.iload 5, 2) := by decide +kernel
theorem dX10_owe_67 : decode cX10_owe 67 = .ok (.ireturn, 1) := by decide +kernel
theorem dX10_debt_0 : decode cX10_debt 0 = .ok (.iload_n 1, 1) := by decide +kernel
theorem dX10_debt_1 : decode cX10_debt 1 = .ok (.iload_n 2, 1) := by decide +kernel
theorem dX10_debt_2 : decode cX10_debt 2 = .ok (.invokestatic 131, 3) := by decide +kernel
theorem dX10_debt_5 : decode cX10_debt 5 = .ok (.ifCond .eq 19, 3) := by decide +kernel
theorem dX10_debt_8 : decode cX10_debt 8 = .ok (.aload_n 0, 1) := by decide +kernel
theorem dX10_debt_9 : decode cX10_debt 9 = .ok (.getfield 36, 3) := by decide +kernel
theorem dX10_debt_12 : decode cX10_debt 12 = .ok (.getfield 135, 3) := by decide +kernel
theorem dX10_debt_15 : decode cX10_debt 15 = .ok (.iload_n 1, 1) := by decide +kernel
theorem dX10_debt_16 : decode cX10_debt 16 = .ok (.iload_n 2, 1) := by decide +kernel
theorem dX10_debt_17 : decode cX10_debt 17 = .ok (.invokestatic 138, 3) := by decide +kernel
theorem dX10_debt_20 : decode cX10_debt 20 = .ok (.iaload, 1) := by decide +kernel
theorem dX10_debt_21 : decode cX10_debt 21 = .ok (.goto 8, 3) := by decide +kernel
theorem dX10_debt_24 : decode cX10_debt 24 = .ok (.aload_n 0, 1) := by decide +kernel
theorem dX10_debt_25 : decode cX10_debt 25 = .ok (.iconst (-1), 1) := by decide +kernel
theorem dX10_debt_26 : decode cX10_debt 26 = .ok (.invokevirtual 67, 3) := by decide +kernel
theorem dX10_debt_29 : decode cX10_debt 29 = .ok (.ireturn, 1) := by decide +kernel
theorem dX10_go_0 : decode cX10_go 0 = .ok (.iload_n 1, 1) := by decide +kernel
theorem dX10_go_1 : decode cX10_go 1 = .ok (.iconst 1, 1) := by decide +kernel
theorem dX10_go_2 : decode cX10_go 2 = .ok (.bipush 99, 2) := by decide +kernel
theorem dX10_go_4 : decode cX10_go 4 = .ok (.sipush 9999, 3) := by decide +kernel
theorem dX10_go_7 : decode cX10_go 7 = .ok (.aload_n 0, 1) := by decide +kernel
theorem dX10_go_8 : decode cX10_go 8 = .ok (.getfield 36, 3) := by decide +kernel
theorem dX10_go_11 : decode cX10_go 11 = .ok (.getfield 142, 3) := by decide +kernel
theorem dX10_go_14 : decode cX10_go 14 = .ok (.isub, 1) := by decide +kernel
theorem dX10_go_15 : decode cX10_go 15 = .ok (.invokestatic 145, 3) := by decide +kernel
theorem dX10_go_18 : decode cX10_go 18 = .ok (.invokestatic 124, 3) := by decide +kernel
theorem dX10_go_21 : decode cX10_go 21 = .ok (.istore_n 2, 1) := by decide +kernel
theorem dX10_go_22 : decode cX10_go 22 = .ok (.iload_n 2, 1) := by decide +kernel
theorem dX10_go_23 : decode cX10_go 23 = .ok (.ifCond .eq 9, 3) := by decide +kernel
theorem dX10_go_26 : decode cX10_go 26 = .ok (.aload_n 0, 1) := by decide +kernel
theorem dX10_go_27 : decode cX10_go 27 = .ok (.iload_n 2, 1) := by decide +kernel
theorem dX10_go_28 : decode cX10_go 28 = .ok (.invokevirtual 67, 3) := by decide +kernel
theorem dX10_go_31 : decode cX10_go 31 = .ok (.ireturn, 1) := by decide +kernel
theorem dX10_go_32 : decode cX10_go 32 = .ok (.aload_n 0, 1) := by decide +kernel
theorem dX10_go_33 : decode cX10_go 33 = .ok (.getfield 36, 3) := by decide +kernel
theorem dX10_go_36 : decode cX10_go 36 = .ok (.getfield 150, 3) := by decide +kernel
theorem dX10_go_39 : decode cX10_go 39 = .ok (.istore_n 3, 1) := by decide +kernel
theorem dX10_go_40 : decode cX10_go 40 = .ok (.iconst 0, 1) := by decide +kernel
theorem dX10_go_41 : decode cX10_go 41 = .ok (.istore 4, 2) := by decide +kernel
theorem dX10_go_43 : decode cX10_go 43 = .ok (.iload 4, 2) := by decide +kernel
theorem dX10_go_45 : decode cX10_go 45 = .ok (.iload_n 1, 1) := by decide +kernel
theorem dX10_go_46 : decode cX10_go 46 = .ok (.if_icmp .ge 16, 3) := by decide +kernel
theorem dX10_go_49 : decode cX10_go 49 = .ok (.aload_n 0, 1) := by decide +kernel
theorem dX10_go_50 : decode cX10_go 50 = .ok (.getfield 36, 3) := by decide +kernel
theorem dX10_go_53 : decode cX10_go 53 = .ok (.invokevirtual 153, 3) := by decide +kernel
theorem dX10_go_56 : decode cX10_go 56 = .ok (.iinc 4 1, 3) := by decide +kernel
theorem dX10_go_59 : decode cX10_go 59 = .ok (.goto (-16), 3) := by decide +kernel
theorem dX10_go_62 : decode cX10_go 62 = .ok (.aload_n 0, 1) := by decide +kernel
theorem dX10_go_63 : decode cX10_go 63 = .ok (.getfield 36, 3) := by decide +kernel
theorem dX10_go_66 : decode cX10_go 66 = .ok (.getfield 150, 3) := by decide +kernel
theorem dX10_go_69 : decode cX10_go 69 = .ok (.iload_n 3, 1) := by decide +kernel
theorem dX10_go_70 : decode cX10_go 70 = .ok (.isub, 1) := by decide +kernel
theorem dX10_go_71 : decode cX10_go 71 = .ok (.ireturn, 1) := by decide +kernel
theorem dX10_behind_0 : decode cX10_behind 0 = .ok (.aload_n 0, 1) := by decide +kernel
theorem dX10_behind_1 : decode cX10_behind 1 = .ok (.iload_n 1, 1) := by decide +kernel
theorem dX10_behind_2 : decode cX10_behind 2 = .ok (.invokevirtual 82, 3) := by decide +kernel
theorem dX10_behind_5 : decode cX10_behind 5 = .ok (.ifCond .ne 9, 3) := by decide +kernel
theorem dX10_behind_8 : decode cX10_behind 8 = .ok (.aload_n 0, 1) := by decide +kernel
theorem dX10_behind_9 : decode cX10_behind 9 = .ok (.iconst (-1), 1) := by decide +kernel
theorem dX10_behind_10 : decode cX10_behind 10 = .ok (.invokevirtual 67, 3) := by decide +kernel
theorem dX10_behind_13 : decode cX10_behind 13 = .ok (.ireturn, 1) := by decide +kernel
theorem dX10_behind_14 : decode cX10_behind 14 = .ok (.iload_n 2, 1) := by decide +kernel
theorem dX10_behind_15 : decode cX10_behind 15 = .ok (.iconst 0, 1) := by decide +kernel
theorem dX10_behind_16 : decode cX10_behind 16 = .ok (.sipush 300, 3) := by decide +kernel
theorem dX10_behind_19 : decode cX10_behind 19 = .ok (.invokestatic 124, 3) := by decide +kernel
theorem dX10_behind_22 : decode cX10_behind 22 = .ok (.istore_n 3, 1) := by decide +kernel
theorem dX10_behind_23 : decode cX10_behind 23 = .ok (.iload_n 3, 1) := by decide +kernel
theorem dX10_behind_24 : decode cX10_behind 24 = .ok (.ifCond .eq 9, 3) := by decide +kernel
theorem dX10_behind_27 : decode cX10_behind 27 = .ok (.aload_n 0, 1) := by decide +kernel
theorem dX10_behind_28 : decode cX10_behind 28 = .ok (.iload_n 3, 1) := by decide +kernel
theorem dX10_behind_29 : decode cX10_behind 29 = .ok (.invokevirtual 67, 3) := by decide +kernel
theorem dX10_behind_32 : decode cX10_behind 32 = .ok (.ireturn, 1) := by decide +kernel
theorem dX10_behind_33 : decode cX10_behind 33 = .ok (.aload_n 0, 1) := by decide +kernel
theorem dX10_behind_34 : decode cX10_behind 34 = .ok (.iload_n 2, 1) := by decide +kernel
theorem dX10_behind_35 : decode cX10_behind 35 = .ok (.invokevirtual 156, 3) := by decide +kernel
theorem dX10_behind_38 : decode cX10_behind 38 = .ok (.aload_n 0, 1) := by decide +kernel
theorem dX10_behind_39 : decode cX10_behind 39 = .ok (.getfield 40, 3) := by decide +kernel
theorem dX10_behind_42 : decode cX10_behind 42 = .ok (.getfield 86, 3) := by decide +kernel
theorem dX10_behind_45 : decode cX10_behind 45 = .ok (.iload_n 1, 1) := by decide +kernel
theorem dX10_behind_46 : decode cX10_behind 46 = .ok (.aaload, 1) := by decide +kernel
theorem dX10_behind_47 : decode cX10_behind 47 = .ok (.getfield 98, 3) := by decide +kernel
theorem dX10_behind_50 : decode cX10_behind 50 = .ok (.ireturn, 1) := by decide +kernel
theorem dX10_owes_0 : decode cX10_owes 0 = .ok (.iload_n 1, 1) := by decide +kernel
theorem dX10_owes_1 : decode cX10_owes 1 = .ok (.iload_n 2, 1) := by decide +kernel
theorem dX10_owes_2 : decode cX10_owes 2 = .ok (.invokestatic 131, 3) := by decide +kernel
theorem dX10_owes_5 : decode cX10_owes 5 = .ok (.ifCond .ne 9, 3) := by decide +kernel
theorem dX10_owes_8 : decode cX10_owes 8 = .ok (.aload_n 0, 1) := by decide +kernel
theorem dX10_owes_9 : decode cX10_owes 9 = .ok (.iconst (-1), 1) := by decide +kernel
theorem dX10_owes_10 : decode cX10_owes 10 = .ok (.invokevirtual 67, 3) := by decide +kernel
theorem dX10_owes_13 : decode cX10_owes 13 = .ok (.ireturn, 1) := by decide +kernel
theorem dX10_owes_14 : decode cX10_owes 14 = .ok (.iload_n 3, 1) := by decide +kernel
theorem dX10_owes_15 : decode cX10_owes 15 = .ok (.iconst 0, 1) := by decide +kernel
theorem dX10_owes_16 : decode cX10_owes 16 = .ok (.sipush 300, 3) := by decide +kernel
theorem dX10_owes_19 : decode cX10_owes 19 = .ok (.invokestatic 124, 3) := by decide +kernel
theorem dX10_owes_22 : decode cX10_owes 22 = .ok (.istore 4, 2) := by decide +kernel
theorem dX10_owes_24 : decode cX10_owes 24 = .ok (.iload 4, 2) := by decide +kernel
theorem dX10_owes_26 : decode cX10_owes 26 = .ok (.ifCond .eq 10, 3) := by decide +kernel
theorem dX10_owes_29 : decode cX10_owes 29 = .ok (.aload_n 0, 1) := by decide +kernel
theorem dX10_owes_30 : decode cX10_owes 30 = .ok (.iload 4, 2) := by decide +kernel
theorem dX10_owes_32 : decode cX10_owes 32 = .ok (.invokevirtual 67, 3) := by decide +kernel
theorem dX10_owes_35 : decode cX10_owes 35 = .ok (.ireturn, 1) := by decide +kernel
theorem dX10_owes_36 : decode cX10_owes 36 = .ok (.aload_n 0, 1) := by decide +kernel
theorem dX10_owes_37 : decode cX10_owes 37 = .ok (.iload_n 3, 1) := by decide +kernel
theorem dX10_owes_38 : decode cX10_owes 38 = .ok (.invokevirtual 156, 3) := by decide +kernel
theorem dX10_owes_41 : decode cX10_owes 41 = .ok (.aload_n 0, 1) := by decide +kernel
theorem dX10_owes_42 : decode cX10_owes 42 = .ok (.getfield 40, 3) := by decide +kernel
theorem dX10_owes_45 : decode cX10_owes 45 = .ok (.getfield 135, 3) := by decide +kernel
theorem dX10_owes_48 : decode cX10_owes 48 = .ok (.iload_n 1, 1) := by decide +kernel
theorem dX10_owes_49 : decode cX10_owes 49 = .ok (.iload_n 2, 1) := by decide +kernel
theorem dX10_owes_50 : decode cX10_owes 50 = .ok (.invokestatic 138, 3) := by decide +kernel
theorem dX10_owes_53 : decode cX10_owes 53 = .ok (.iaload, 1) := by decide +kernel
theorem dX10_owes_54 : decode cX10_owes 54 = .ok (.ireturn, 1) := by decide +kernel
theorem dX10_reads_0 : decode cX10_reads 0 = .ok (.iload_n 1, 1) := by decide +kernel
theorem dX10_reads_1 : decode cX10_reads 1 = .ok (.invokestatic 121, 3) := by decide +kernel
theorem dX10_reads_4 : decode cX10_reads 4 = .ok (.ifCond .ne 9, 3) := by decide +kernel
theorem dX10_reads_7 : decode cX10_reads 7 = .ok (.aload_n 0, 1) := by decide +kernel
theorem dX10_reads_8 : decode cX10_reads 8 = .ok (.iconst (-1), 1) := by decide +kernel
theorem dX10_reads_9 : decode cX10_reads 9 = .ok (.invokevirtual 67, 3) := by decide +kernel
theorem dX10_reads_12 : decode cX10_reads 12 = .ok (.ireturn, 1) := by decide +kernel
theorem dX10_reads_13 : decode cX10_reads 13 = .ok (.iload_n 2, 1) := by decide +kernel
theorem dX10_reads_14 : decode cX10_reads 14 = .ok (.iconst 0, 1) := by decide +kernel
theorem dX10_reads_15 : decode cX10_reads 15 = .ok (.sipush 300, 3) := by decide +kernel
theorem dX10_reads_18 : decode cX10_reads 18 = .ok (.invokestatic 124, 3) := by decide +kernel
theorem dX10_reads_21 : decode cX10_reads 21 = .ok (.istore_n 3, 1) := by decide +kernel
theorem dX10_reads_22 : decode cX10_reads 22 = .ok (.iload_n 3, 1) := by decide +kernel
theorem dX10_reads_23 : decode cX10_reads 23 = .ok (.ifCond .eq 9, 3) := by decide +kernel
theorem dX10_reads_26 : decode cX10_reads 26 = .ok (.aload_n 0, 1) := by decide +kernel
theorem dX10_reads_27 : decode cX10_reads 27 = .ok (.iload_n 3, 1) := by decide +kernel
theorem dX10_reads_28 : decode cX10_reads 28 = .ok (.invokevirtual 67, 3) := by decide +kernel
theorem dX10_reads_31 : decode cX10_reads 31 = .ok (.ireturn, 1) := by decide +kernel
theorem dX10_reads_32 : decode cX10_reads 32 = .ok (.aload_n 0, 1) := by decide +kernel
theorem dX10_reads_33 : decode cX10_reads 33 = .ok (.getfield 40, 3) := by decide +kernel
theorem dX10_reads_36 : decode cX10_reads 36 = .ok (.aload_n 0, 1) := by decide +kernel
theorem dX10_reads_37 : decode cX10_reads 37 = .ok (.getfield 36, 3) := by decide +kernel
theorem dX10_reads_40 : decode cX10_reads 40 = .ok (.invokevirtual 160, 3) := by decide +kernel
theorem dX10_reads_43 : decode cX10_reads 43 = .ok (.iconst 0, 1) := by decide +kernel
theorem dX10_reads_44 : decode cX10_reads 44 = .ok (.istore 4, 2) := by decide +kernel
theorem dX10_reads_46 : decode cX10_reads 46 = .ok (.iload 4, 2) := by decide +kernel
theorem dX10_reads_48 : decode cX10_reads 48 = .ok (.iload_n 2, 1) := by decide +kernel
theorem dX10_reads_49 : decode cX10_reads 49 = .ok (.if_icmp .ge 27, 3) := by decide +kernel
theorem dX10_reads_52 : decode cX10_reads 52 = .ok (.aload_n 0, 1) := by decide +kernel
theorem dX10_reads_53 : decode cX10_reads 53 = .ok (.getfield 40, 3) := by decide +kernel
theorem dX10_reads_56 : decode cX10_reads 56 = .ok (.iload_n 1, 1) := by decide +kernel
theorem dX10_reads_57 : decode cX10_reads 57 = .ok (.invokevirtual 164, 3) := by decide +kernel
theorem dX10_reads_60 : decode cX10_reads 60 = .ok (.ifCond .eq 16, 3) := by decide +kernel
theorem dX10_reads_63 : decode cX10_reads 63 = .ok (.iinc 4 1, 3) := by decide +kernel
theorem dX10_reads_66 : decode cX10_reads 66 = .ok (.aload_n 0, 1) := by decide +kernel
theorem dX10_reads_67 : decode cX10_reads 67 = .ok (.getfield 40, 3) := by decide +kernel
theorem dX10_reads_70 : decode cX10_reads 70 = .ok (.invokevirtual 153, 3) := by decide +kernel
theorem dX10_reads_73 : decode cX10_reads 73 = .ok (.goto (-27), 3) := by decide +kernel
theorem dX10_reads_76 : decode cX10_reads 76 = .ok (.iload 4, 2) := by decide +kernel
theorem dX10_reads_78 : decode cX10_reads 78 = .ok (.ireturn, 1) := by decide +kernel
theorem dX10_ends_0 : decode cX10_ends 0 = .ok (.aload_n 0, 1) := by decide +kernel
theorem dX10_ends_1 : decode cX10_ends 1 = .ok (.iload_n 1, 1) := by decide +kernel
theorem dX10_ends_2 : decode cX10_ends 2 = .ok (.invokevirtual 82, 3) := by decide +kernel
theorem dX10_ends_5 : decode cX10_ends 5 = .ok (.ifCond .ne 9, 3) := by decide +kernel
theorem dX10_ends_8 : decode cX10_ends 8 = .ok (.aload_n 0, 1) := by decide +kernel
theorem dX10_ends_9 : decode cX10_ends 9 = .ok (.iconst (-1), 1) := by decide +kernel
theorem dX10_ends_10 : decode cX10_ends 10 = .ok (.invokevirtual 67, 3) := by decide +kernel
theorem dX10_ends_13 : decode cX10_ends 13 = .ok (.ireturn, 1) := by decide +kernel
theorem dX10_ends_14 : decode cX10_ends 14 = .ok (.aload_n 0, 1) := by decide +kernel
theorem dX10_ends_15 : decode cX10_ends 15 = .ok (.getfield 40, 3) := by decide +kernel
theorem dX10_ends_18 : decode cX10_ends 18 = .ok (.aload_n 0, 1) := by decide +kernel
theorem dX10_ends_19 : decode cX10_ends 19 = .ok (.getfield 36, 3) := by decide +kernel
theorem dX10_ends_22 : decode cX10_ends 22 = .ok (.invokevirtual 160, 3) := by decide +kernel
theorem dX10_ends_25 : decode cX10_ends 25 = .ok (.aload_n 0, 1) := by decide +kernel
theorem dX10_ends_26 : decode cX10_ends 26 = .ok (.getfield 40, 3) := by decide +kernel
theorem dX10_ends_29 : decode cX10_ends 29 = .ok (.getfield 86, 3) := by decide +kernel
theorem dX10_ends_32 : decode cX10_ends 32 = .ok (.iload_n 1, 1) := by decide +kernel
theorem dX10_ends_33 : decode cX10_ends 33 = .ok (.aaload, 1) := by decide +kernel
theorem dX10_ends_34 : decode cX10_ends 34 = .ok (.astore_n 2, 1) := by decide +kernel
theorem dX10_ends_35 : decode cX10_ends 35 = .ok (.iconst 0, 1) := by decide +kernel
theorem dX10_ends_36 : decode cX10_ends 36 = .ok (.istore_n 3, 1) := by decide +kernel
theorem dX10_ends_37 : decode cX10_ends 37 = .ok (.iload_n 3, 1) := by decide +kernel
theorem dX10_ends_38 : decode cX10_ends 38 = .ok (.sipush 999, 3) := by decide +kernel
theorem dX10_ends_41 : decode cX10_ends 41 = .ok (.if_icmp .gt 35, 3) := by decide +kernel
theorem dX10_ends_44 : decode cX10_ends 44 = .ok (.aload_n 2, 1) := by decide +kernel
theorem dX10_ends_45 : decode cX10_ends 45 = .ok (.getfield 98, 3) := by decide +kernel
theorem dX10_ends_48 : decode cX10_ends 48 = .ok (.ifCond .ne 5, 3) := by decide +kernel
theorem dX10_ends_51 : decode cX10_ends 51 = .ok (.iload_n 3, 1) := by decide +kernel
theorem dX10_ends_52 : decode cX10_ends 52 = .ok (.ireturn, 1) := by decide +kernel
theorem dX10_ends_53 : decode cX10_ends 53 = .ok (.aload_n 2, 1) := by decide +kernel
theorem dX10_ends_54 : decode cX10_ends 54 = .ok (.getfield 107, 3) := by decide +kernel
theorem dX10_ends_57 : decode cX10_ends 57 = .ok (.ifCond .ne 6, 3) := by decide +kernel
theorem dX10_ends_60 : decode cX10_ends 60 = .ok (.bipush (-9), 2) := by decide +kernel
theorem dX10_ends_62 : decode cX10_ends 62 = .ok (.ireturn, 1) := by decide +kernel
theorem dX10_ends_63 : decode cX10_ends 63 = .ok (.aload_n 0, 1) := by decide +kernel
theorem dX10_ends_64 : decode cX10_ends 64 = .ok (.getfield 40, 3) := by decide +kernel
theorem dX10_ends_67 : decode cX10_ends 67 = .ok (.invokevirtual 153, 3) := by decide +kernel
theorem dX10_ends_70 : decode cX10_ends 70 = .ok (.iinc 3 1, 3) := by decide +kernel
theorem dX10_ends_73 : decode cX10_ends 73 = .ok (.goto (-36), 3) := by decide +kernel
theorem dX10_ends_76 : decode cX10_ends 76 = .ok (.bipush (-9), 2) := by decide +kernel
theorem dX10_ends_78 : decode cX10_ends 78 = .ok (.ireturn, 1) := by decide +kernel
theorem dX10_clearBy_0 : decode cX10_clearBy 0 = .ok (.aload_n 0, 1) := by decide +kernel
theorem dX10_clearBy_1 : decode cX10_clearBy 1 = .ok (.getfield 40, 3) := by decide +kernel
theorem dX10_clearBy_4 : decode cX10_clearBy 4 = .ok (.aload_n 0, 1) := by decide +kernel
theorem dX10_clearBy_5 : decode cX10_clearBy 5 = .ok (.getfield 36, 3) := by decide +kernel
theorem dX10_clearBy_8 : decode cX10_clearBy 8 = .ok (.invokevirtual 160, 3) := by decide +kernel
theorem dX10_clearBy_11 : decode cX10_clearBy 11 = .ok (.iconst 0, 1) := by decide +kernel
theorem dX10_clearBy_12 : decode cX10_clearBy 12 = .ok (.istore_n 1, 1) := by decide +kernel
theorem dX10_clearBy_13 : decode cX10_clearBy 13 = .ok (.iload_n 1, 1) := by decide +kernel
theorem dX10_clearBy_14 : decode cX10_clearBy 14 = .ok (.sipush 999, 3) := by decide +kernel
theorem dX10_clearBy_17 : decode cX10_clearBy 17 = .ok (.if_icmp .gt 41, 3) := by decide +kernel
theorem dX10_clearBy_20 : decode cX10_clearBy 20 = .ok (.aload_n 0, 1) := by decide +kernel
theorem dX10_clearBy_21 : decode cX10_clearBy 21 = .ok (.getfield 40, 3) := by decide +kernel
theorem dX10_clearBy_24 : decode cX10_clearBy 24 = .ok (.invokevirtual 167, 3) := by decide +kernel
theorem dX10_clearBy_27 : decode cX10_clearBy 27 = .ok (.ifCond .ne 5, 3) := by decide +kernel
theorem dX10_clearBy_30 : decode cX10_clearBy 30 = .ok (.iload_n 1, 1) := by decide +kernel
theorem dX10_clearBy_31 : decode cX10_clearBy 31 = .ok (.ireturn, 1) := by decide +kernel
theorem dX10_clearBy_32 : decode cX10_clearBy 32 = .ok (.aload_n 0, 1) := by decide +kernel
theorem dX10_clearBy_33 : decode cX10_clearBy 33 = .ok (.getfield 40, 3) := by decide +kernel
theorem dX10_clearBy_36 : decode cX10_clearBy 36 = .ok (.invokevirtual 170, 3) := by decide +kernel
theorem dX10_clearBy_39 : decode cX10_clearBy 39 = .ok (.ifCond .ne 6, 3) := by decide +kernel
theorem dX10_clearBy_42 : decode cX10_clearBy 42 = .ok (.bipush (-9), 2) := by decide +kernel
theorem dX10_clearBy_44 : decode cX10_clearBy 44 = .ok (.ireturn, 1) := by decide +kernel
theorem dX10_clearBy_45 : decode cX10_clearBy 45 = .ok (.aload_n 0, 1) := by decide +kernel
theorem dX10_clearBy_46 : decode cX10_clearBy 46 = .ok (.getfield 40, 3) := by decide +kernel
theorem dX10_clearBy_49 : decode cX10_clearBy 49 = .ok (.invokevirtual 153, 3) := by decide +kernel
theorem dX10_clearBy_52 : decode cX10_clearBy 52 = .ok (.iinc 1 1, 3) := by decide +kernel
theorem dX10_clearBy_55 : decode cX10_clearBy 55 = .ok (.goto (-42), 3) := by decide +kernel
theorem dX10_clearBy_58 : decode cX10_clearBy 58 = .ok (.bipush (-9), 2) := by decide +kernel
theorem dX10_clearBy_60 : decode cX10_clearBy 60 = .ok (.ireturn, 1) := by decide +kernel
theorem dX10_dark_0 : decode cX10_dark 0 = .ok (.iload_n 1, 1) := by decide +kernel
theorem dX10_dark_1 : decode cX10_dark 1 = .ok (.iconst 0, 1) := by decide +kernel
theorem dX10_dark_2 : decode cX10_dark 2 = .ok (.sipush 300, 3) := by decide +kernel
theorem dX10_dark_5 : decode cX10_dark 5 = .ok (.invokestatic 124, 3) := by decide +kernel
theorem dX10_dark_8 : decode cX10_dark 8 = .ok (.istore_n 2, 1) := by decide +kernel
theorem dX10_dark_9 : decode cX10_dark 9 = .ok (.iload_n 2, 1) := by decide +kernel
theorem dX10_dark_10 : decode cX10_dark 10 = .ok (.ifCond .eq 9, 3) := by decide +kernel
theorem dX10_dark_13 : decode cX10_dark 13 = .ok (.aload_n 0, 1) := by decide +kernel
theorem dX10_dark_14 : decode cX10_dark 14 = .ok (.iload_n 2, 1) := by decide +kernel
theorem dX10_dark_15 : decode cX10_dark 15 = .ok (.invokevirtual 67, 3) := by decide +kernel
theorem dX10_dark_18 : decode cX10_dark 18 = .ok (.ireturn, 1) := by decide +kernel
theorem dX10_dark_19 : decode cX10_dark 19 = .ok (.aload_n 0, 1) := by decide +kernel
theorem dX10_dark_20 : decode cX10_dark 20 = .ok (.iload_n 1, 1) := by decide +kernel
theorem dX10_dark_21 : decode cX10_dark 21 = .ok (.invokevirtual 156, 3) := by decide +kernel
theorem dX10_dark_24 : decode cX10_dark 24 = .ok (.iconst 0, 1) := by decide +kernel
theorem dX10_dark_25 : decode cX10_dark 25 = .ok (.istore_n 3, 1) := by decide +kernel
theorem dX10_dark_26 : decode cX10_dark 26 = .ok (.iconst 0, 1) := by decide +kernel
theorem dX10_dark_27 : decode cX10_dark 27 = .ok (.istore 4, 2) := by decide +kernel
theorem dX10_dark_29 : decode cX10_dark 29 = .ok (.iload 4, 2) := by decide +kernel
theorem dX10_dark_31 : decode cX10_dark 31 = .ok (.iconst 4, 1) := by decide +kernel
theorem dX10_dark_32 : decode cX10_dark 32 = .ok (.if_icmp .ge 56, 3) := by decide +kernel
theorem dX10_dark_35 : decode cX10_dark 35 = .ok (.iload_n 1, 1) := by decide +kernel
theorem dX10_dark_36 : decode cX10_dark 36 = .ok (.ifCond .le 19, 3) := by decide +kernel
theorem dX10_dark_39 : decode cX10_dark 39 = .ok (.aload_n 0, 1) := by decide +kernel
theorem dX10_dark_40 : decode cX10_dark 40 = .ok (.getfield 36, 3) := by decide +kernel
theorem dX10_dark_43 : decode cX10_dark 43 = .ok (.iload 4, 2) := by decide +kernel
theorem dX10_dark_45 : decode cX10_dark 45 = .ok (.invokevirtual 164, 3) := by decide +kernel
theorem dX10_dark_48 : decode cX10_dark 48 = .ok (.ifCond .eq 7, 3) := by decide +kernel
theorem dX10_dark_51 : decode cX10_dark 51 = .ok (.iconst 1, 1) := by decide +kernel
theorem dX10_dark_52 : decode cX10_dark 52 = .ok (.goto 4, 3) := by decide +kernel
theorem dX10_dark_55 : decode cX10_dark 55 = .ok (.iconst 0, 1) := by decide +kernel
theorem dX10_dark_56 : decode cX10_dark 56 = .ok (.istore 5, 2) := by decide +kernel
theorem dX10_dark_58 : decode cX10_dark 58 = .ok (.iload 5, 2) := by decide +kernel
theorem dX10_dark_60 : decode cX10_dark 60 = .ok (.ifCond .ne 22, 3) := by decide +kernel
theorem dX10_dark_63 : decode cX10_dark 63 = .ok (.aload_n 0, 1) := by decide +kernel
theorem dX10_dark_64 : decode cX10_dark 64 = .ok (.getfield 40, 3) := by decide +kernel
theorem dX10_dark_67 : decode cX10_dark 67 = .ok (.iload 4, 2) := by decide +kernel
theorem dX10_dark_69 : decode cX10_dark 69 = .ok (.invokevirtual 173, 3) := by decide +kernel
theorem dX10_dark_72 : decode cX10_dark 72 = .ok (.ifCond .le 10, 3) := by decide +kernel
theorem dX10_dark_75 : decode cX10_dark 75 = .ok (.iload_n 3, 1) := by decide +kernel
theorem dX10_dark_76 : decode cX10_dark 76 = .ok (.iconst 1, 1) := by decide +kernel
theorem dX10_dark_77 : decode cX10_dark 77 = .ok (.iload 4, 2) := by decide +kernel
theorem dX10_dark_79 : decode cX10_dark 79 = .ok (.ishl, 1) := by decide +kernel
theorem dX10_dark_80 : decode cX10_dark 80 = .ok (.ior, 1) := by decide +kernel
theorem dX10_dark_81 : decode cX10_dark 81 = .ok (.istore_n 3, 1) := by decide +kernel
theorem dX10_dark_82 : decode cX10_dark 82 = .ok (.iinc 4 1, 3) := by decide +kernel
theorem dX10_dark_85 : decode cX10_dark 85 = .ok (.goto (-56), 3) := by decide +kernel
theorem dX10_dark_88 : decode cX10_dark 88 = .ok (.iload_n 3, 1) := by decide +kernel
theorem dX10_dark_89 : decode cX10_dark 89 = .ok (.ireturn, 1) := by decide +kernel
theorem dX10_best_0 : decode cX10_best 0 = .ok (.iload_n 2, 1) := by decide +kernel
theorem dX10_best_1 : decode cX10_best 1 = .ok (.iconst (-1), 1) := by decide +kernel
theorem dX10_best_2 : decode cX10_best 2 = .ok (.if_icmp .eq 17, 3) := by decide +kernel
theorem dX10_best_5 : decode cX10_best 5 = .ok (.aload_n 0, 1) := by decide +kernel
theorem dX10_best_6 : decode cX10_best 6 = .ok (.iload_n 2, 1) := by decide +kernel
theorem dX10_best_7 : decode cX10_best 7 = .ok (.invokevirtual 82, 3) := by decide +kernel
theorem dX10_best_10 : decode cX10_best 10 = .ok (.ifCond .ne 9, 3) := by decide +kernel
theorem dX10_best_13 : decode cX10_best 13 = .ok (.aload_n 0, 1) := by decide +kernel
theorem dX10_best_14 : decode cX10_best 14 = .ok (.iconst (-1), 1) := by decide +kernel
theorem dX10_best_15 : decode cX10_best 15 = .ok (.invokevirtual 67, 3) := by decide +kernel
theorem dX10_best_18 : decode cX10_best 18 = .ok (.ireturn, 1) := by decide +kernel
theorem dX10_best_19 : decode cX10_best 19 = .ok (.iload_n 1, 1) := by decide +kernel
theorem dX10_best_20 : decode cX10_best 20 = .ok (.iconst 0, 1) := by decide +kernel
theorem dX10_best_21 : decode cX10_best 21 = .ok (.bipush 20, 2) := by decide +kernel
theorem dX10_best_23 : decode cX10_best 23 = .ok (.invokestatic 124, 3) := by decide +kernel
theorem dX10_best_26 : decode cX10_best 26 = .ok (.istore_n 3, 1) := by decide +kernel
theorem dX10_best_27 : decode cX10_best 27 = .ok (.iload_n 3, 1) := by decide +kernel
theorem dX10_best_28 : decode cX10_best 28 = .ok (.ifCond .eq 9, 3) := by decide +kernel
theorem dX10_best_31 : decode cX10_best 31 = .ok (.aload_n 0, 1) := by decide +kernel
theorem dX10_best_32 : decode cX10_best 32 = .ok (.iload_n 3, 1) := by decide +kernel
theorem dX10_best_33 : decode cX10_best 33 = .ok (.invokevirtual 67, 3) := by decide +kernel
theorem dX10_best_36 : decode cX10_best 36 = .ok (.ireturn, 1) := by decide +kernel
theorem dX10_best_37 : decode cX10_best 37 = .ok (.aload_n 0, 1) := by decide +kernel
theorem dX10_best_38 : decode cX10_best 38 = .ok (.getfield 56, 3) := by decide +kernel
theorem dX10_best_41 : decode cX10_best 41 = .ok (.aload_n 0, 1) := by decide +kernel
theorem dX10_best_42 : decode cX10_best 42 = .ok (.getfield 36, 3) := by decide +kernel
theorem dX10_best_45 : decode cX10_best 45 = .ok (.iload_n 1, 1) := by decide +kernel
theorem dX10_best_46 : decode cX10_best 46 = .ok (.invokevirtual 176, 3) := by decide +kernel
theorem dX10_best_49 : decode cX10_best 49 = .ok (.iload_n 2, 1) := by decide +kernel
theorem dX10_best_50 : decode cX10_best 50 = .ok (.iconst (-1), 1) := by decide +kernel
theorem dX10_best_51 : decode cX10_best 51 = .ok (.if_icmp .ne 13, 3) := by decide +kernel
theorem dX10_best_54 : decode cX10_best 54 = .ok (.aload_n 0, 1) := by decide +kernel
theorem dX10_best_55 : decode cX10_best 55 = .ok (.getfield 56, 3) := by decide +kernel
theorem dX10_best_58 : decode cX10_best 58 = .ok (.getfield 180, 3) := by decide +kernel
theorem dX10_best_61 : decode cX10_best 61 = .ok (.goto 12, 3) := by decide +kernel
theorem dX10_best_64 : decode cX10_best 64 = .ok (.aload_n 0, 1) := by decide +kernel
theorem dX10_best_65 : decode cX10_best 65 = .ok (.getfield 56, 3) := by decide +kernel
theorem dX10_best_68 : decode cX10_best 68 = .ok (.getfield 183, 3) := by decide +kernel
theorem dX10_best_71 : decode cX10_best 71 = .ok (.iload_n 2, 1) := by decide +kernel
theorem dX10_best_72 : decode cX10_best 72 = .ok (.iaload, 1) := by decide +kernel
theorem dX10_best_73 : decode cX10_best 73 = .ok (.ireturn, 1) := by decide +kernel
theorem dX10_pour_0 : decode cX10_pour 0 = .ok (.iload_n 1, 1) := by decide +kernel
theorem dX10_pour_1 : decode cX10_pour 1 = .ok (.invokestatic 186, 3) := by decide +kernel
theorem dX10_pour_4 : decode cX10_pour 4 = .ok (.ifCond .ne 10, 3) := by decide +kernel
theorem dX10_pour_7 : decode cX10_pour 7 = .ok (.aload_n 0, 1) := by decide +kernel
theorem dX10_pour_8 : decode cX10_pour 8 = .ok (.bipush (-2), 2) := by decide +kernel
theorem dX10_pour_10 : decode cX10_pour 10 = .ok (.invokevirtual 67, 3) := by decide +kernel
theorem dX10_pour_13 : decode cX10_pour 13 = .ok (.ireturn, 1) := by decide +kernel
theorem dX10_pour_14 : decode cX10_pour 14 = .ok (.iload_n 2, 1) := by decide +kernel
theorem dX10_pour_15 : decode cX10_pour 15 = .ok (.iconst 0, 1) := by decide +kernel
theorem dX10_pour_16 : decode cX10_pour 16 = .ok (.bipush 9, 2) := by decide +kernel
theorem dX10_pour_18 : decode cX10_pour 18 = .ok (.invokestatic 124, 3) := by decide +kernel
theorem dX10_pour_21 : decode cX10_pour 21 = .ok (.istore 5, 2) := by decide +kernel
theorem dX10_pour_23 : decode cX10_pour 23 = .ok (.iload 5, 2) := by decide +kernel
theorem dX10_pour_25 : decode cX10_pour 25 = .ok (.ifCond .eq 10, 3) := by decide +kernel
theorem dX10_pour_28 : decode cX10_pour 28 = .ok (.aload_n 0, 1) := by decide +kernel
theorem dX10_pour_29 : decode cX10_pour 29 = .ok (.iload 5, 2) := by decide +kernel
theorem dX10_pour_31 : decode cX10_pour 31 = .ok (.invokevirtual 67, 3) := by decide +kernel
theorem dX10_pour_34 : decode cX10_pour 34 = .ok (.ireturn, 1) := by decide +kernel
theorem dX10_pour_35 : decode cX10_pour 35 = .ok (.iload_n 3, 1) := by decide +kernel
theorem dX10_pour_36 : decode cX10_pour 36 = .ok (.iload 4, 2) := by decide +kernel
theorem dX10_pour_38 : decode cX10_pour 38 = .ok (.invokestatic 131, 3) := by decide +kernel
theorem dX10_pour_41 : decode cX10_pour 41 = .ok (.ifCond .ne 9, 3) := by decide +kernel
theorem dX10_pour_44 : decode cX10_pour 44 = .ok (.aload_n 0, 1) := by decide +kernel
theorem dX10_pour_45 : decode cX10_pour 45 = .ok (.iconst (-1), 1) := by decide +kernel
theorem dX10_pour_46 : decode cX10_pour 46 = .ok (.invokevirtual 67, 3) := by decide +kernel
theorem dX10_pour_49 : decode cX10_pour 49 = .ok (.ireturn, 1) := by decide +kernel
theorem dX10_pour_50 : decode cX10_pour 50 = .ok (.aload_n 0, 1) := by decide +kernel
theorem dX10_pour_51 : decode cX10_pour 51 = .ok (.getfield 36, 3) := by decide +kernel
theorem dX10_pour_54 : decode cX10_pour 54 = .ok (.getfield 135, 3) := by decide +kernel
theorem dX10_pour_57 : decode cX10_pour 57 = .ok (.iload_n 3, 1) := by decide +kernel
theorem dX10_pour_58 : decode cX10_pour 58 = .ok (.iload 4, 2) := by decide +kernel
theorem dX10_pour_60 : decode cX10_pour 60 = .ok (.invokestatic 138, 3) := by decide +kernel
theorem dX10_pour_63 : decode cX10_pour 63 = .ok (.iaload, 1) := by decide +kernel
theorem dX10_pour_64 : decode cX10_pour 64 = .ok (.istore 6, 2) := by decide +kernel
theorem dX10_pour_66 : decode cX10_pour 66 = .ok (.iload 6, 2) := by decide +kernel
theorem dX10_pour_68 : decode cX10_pour 68 = .ok (.ifCond .ne 7, 3) := by decide +kernel
theorem dX10_pour_71 : decode cX10_pour 71 = .ok (.iconst 0, 1) := by decide +kernel
theorem dX10_pour_72 : decode cX10_pour 72 = .ok (.goto 25, 3) := by decide +kernel
theorem dX10_pour_75 : decode cX10_pour 75 = .ok (.aload_n 0, 1) := by decide +kernel
theorem dX10_pour_76 : decode cX10_pour 76 = .ok (.getfield 25, 3) := by decide +kernel
theorem dX10_pour_79 : decode cX10_pour 79 = .ok (.iload_n 1, 1) := by decide +kernel
theorem dX10_pour_80 : decode cX10_pour 80 = .ok (.aaload, 1) := by decide +kernel
theorem dX10_pour_81 : decode cX10_pour 81 = .ok (.iload_n 2, 1) := by decide +kernel
theorem dX10_pour_82 : decode cX10_pour 82 = .ok (.aload_n 0, 1) := by decide +kernel
theorem dX10_pour_83 : decode cX10_pour 83 = .ok (.getfield 36, 3) := by decide +kernel
theorem dX10_pour_86 : decode cX10_pour 86 = .ok (.getfield 128, 3) := by decide +kernel
theorem dX10_pour_89 : decode cX10_pour 89 = .ok (.iload 4, 2) := by decide +kernel
theorem dX10_pour_91 : decode cX10_pour 91 = .ok (.iaload, 1) := by decide +kernel
theorem dX10_pour_92 : decode cX10_pour 92 = .ok (.iload 6, 2) := by decide +kernel
theorem dX10_pour_94 : decode cX10_pour 94 = .ok (.invokestatic 189, 3) := by decide +kernel
theorem dX10_pour_97 : decode cX10_pour 97 = .ok (.ireturn, 1) := by decide +kernel
theorem dX10_strike_0 : decode cX10_strike 0 = .ok (.aload_n 0, 1) := by decide +kernel
theorem dX10_strike_1 : decode cX10_strike 1 = .ok (.getfield 36, 3) := by decide +kernel
theorem dX10_strike_4 : decode cX10_strike 4 = .ok (.invokevirtual 193, 3) := by decide +kernel
theorem dX10_strike_7 : decode cX10_strike 7 = .ok (.aload_n 0, 1) := by decide +kernel
theorem dX10_strike_8 : decode cX10_strike 8 = .ok (.getfield 36, 3) := by decide +kernel
theorem dX10_strike_11 : decode cX10_strike 11 = .ok (.invokevirtual 196, 3) := by decide +kernel
theorem dX10_strike_14 : decode cX10_strike 14 = .ok (.iadd, 1) := by decide +kernel
theorem dX10_strike_15 : decode cX10_strike 15 = .ok (.ireturn, 1) := by decide +kernel
theorem dX10_owed_0 : decode cX10_owed 0 = .ok (.iload_n 1, 1) := by decide +kernel
theorem dX10_owed_1 : decode cX10_owed 1 = .ok (.invokestatic 121, 3) := by decide +kernel
theorem dX10_owed_4 : decode cX10_owed 4 = .ok (.ifCond .ne 12, 3) := by decide +kernel
theorem dX10_owed_7 : decode cX10_owed 7 = .ok (.ldc 199, 2) := by decide +kernel
theorem dX10_owed_9 : decode cX10_owed 9 = .ok (.aload_n 0, 1) := by decide +kernel
theorem dX10_owed_10 : decode cX10_owed 10 = .ok (.iconst (-1), 1) := by decide +kernel
theorem dX10_owed_11 : decode cX10_owed 11 = .ok (.invokevirtual 67, 3) := by decide +kernel
theorem dX10_owed_14 : decode cX10_owed 14 = .ok (.isub, 1) := by decide +kernel
theorem dX10_owed_15 : decode cX10_owed 15 = .ok (.ireturn, 1) := by decide +kernel
theorem dX10_owed_16 : decode cX10_owed 16 = .ok (.aload_n 0, 1) := by decide +kernel
theorem dX10_owed_17 : decode cX10_owed 17 = .ok (.getfield 36, 3) := by decide +kernel
theorem dX10_owed_20 : decode cX10_owed 20 = .ok (.iload_n 1, 1) := by decide +kernel
theorem dX10_owed_21 : decode cX10_owed 21 = .ok (.invokevirtual 173, 3) := by decide +kernel
theorem dX10_owed_24 : decode cX10_owed 24 = .ok (.aload_n 0, 1) := by decide +kernel
theorem dX10_owed_25 : decode cX10_owed 25 = .ok (.getfield 36, 3) := by decide +kernel
theorem dX10_owed_28 : decode cX10_owed 28 = .ok (.iload_n 1, 1) := by decide +kernel
theorem dX10_owed_29 : decode cX10_owed 29 = .ok (.invokevirtual 200, 3) := by decide +kernel
theorem dX10_owed_32 : decode cX10_owed 32 = .ok (.isub, 1) := by decide +kernel
theorem dX10_owed_33 : decode cX10_owed 33 = .ok (.ireturn, 1) := by decide +kernel
theorem dX10_cheat_0 : decode cX10_cheat 0 = .ok (.iload_n 1, 1) := by decide +kernel
theorem dX10_cheat_1 : decode cX10_cheat 1 = .ok (.invokestatic 121, 3) := by decide +kernel
theorem dX10_cheat_4 : decode cX10_cheat 4 = .ok (.ifCond .ne 9, 3) := by decide +kernel
theorem dX10_cheat_7 : decode cX10_cheat 7 = .ok (.aload_n 0, 1) := by decide +kernel
theorem dX10_cheat_8 : decode cX10_cheat 8 = .ok (.iconst (-1), 1) := by decide +kernel
theorem dX10_cheat_9 : decode cX10_cheat 9 = .ok (.invokevirtual 67, 3) := by decide +kernel
theorem dX10_cheat_12 : decode cX10_cheat 12 = .ok (.ireturn, 1) := by decide +kernel
theorem dX10_cheat_13 : decode cX10_cheat 13 = .ok (.iload_n 2, 1) := by decide +kernel
theorem dX10_cheat_14 : decode cX10_cheat 14 = .ok (.ifCond .lt 17, 3) := by decide +kernel
theorem dX10_cheat_17 : decode cX10_cheat 17 = .ok (.iload_n 3, 1) := by decide +kernel
theorem dX10_cheat_18 : decode cX10_cheat 18 = .ok (.ifCond .lt 13, 3) := by decide +kernel
theorem dX10_cheat_21 : decode cX10_cheat 21 = .ok (.iload 4, 2) := by decide +kernel
theorem dX10_cheat_23 : decode cX10_cheat 23 = .ok (.ifCond .lt 8, 3) := by decide +kernel
theorem dX10_cheat_26 : decode cX10_cheat 26 = .ok (.iload 5, 2) := by decide +kernel
theorem dX10_cheat_28 : decode cX10_cheat 28 = .ok (.ifCond .ge 10, 3) := by decide +kernel
theorem dX10_cheat_31 : decode cX10_cheat 31 = .ok (.aload_n 0, 1) := by decide +kernel
theorem dX10_cheat_32 : decode cX10_cheat 32 = .ok (.bipush (-4), 2) := by decide +kernel
theorem dX10_cheat_34 : decode cX10_cheat 34 = .ok (.invokevirtual 67, 3) := by decide +kernel
theorem dX10_cheat_37 : decode cX10_cheat 37 = .ok (.ireturn, 1) := by decide +kernel
theorem dX10_cheat_38 : decode cX10_cheat 38 = .ok (.iload_n 2, 1) := by decide +kernel
theorem dX10_cheat_39 : decode cX10_cheat 39 = .ok (.bipush 9, 2) := by decide +kernel
theorem dX10_cheat_41 : decode cX10_cheat 41 = .ok (.if_icmp .gt 26, 3) := by decide +kernel
theorem dX10_cheat_44 : decode cX10_cheat 44 = .ok (.iload_n 3, 1) := by decide +kernel
theorem dX10_cheat_45 : decode cX10_cheat 45 = .ok (.sipush 999, 3) := by decide +kernel
theorem dX10_cheat_48 : decode cX10_cheat 48 = .ok (.if_icmp .gt 19, 3) := by decide +kernel
theorem dX10_cheat_51 : decode cX10_cheat 51 = .ok (.iload 4, 2) := by decide +kernel
theorem dX10_cheat_53 : decode cX10_cheat 53 = .ok (.sipush 999, 3) := by decide +kernel
theorem dX10_cheat_56 : decode cX10_cheat 56 = .ok (.if_icmp .gt 11, 3) := by decide +kernel
theorem dX10_cheat_59 : decode cX10_cheat 59 = .ok (.iload 5, 2) := by decide +kernel
theorem dX10_cheat_61 : decode cX10_cheat 61 = .ok (.sipush 300, 3) := by decide +kernel
theorem dX10_cheat_64 : decode cX10_cheat 64 = .ok (.if_icmp .le 10, 3) := by decide +kernel
theorem dX10_cheat_67 : decode cX10_cheat 67 = .ok (.aload_n 0, 1) := by decide +kernel
theorem dX10_cheat_68 : decode cX10_cheat 68 = .ok (.bipush (-6), 2) := by decide +kernel
theorem dX10_cheat_70 : decode cX10_cheat 70 = .ok (.invokevirtual 67, 3) := by decide +kernel
theorem dX10_cheat_73 : decode cX10_cheat 73 = .ok (.ireturn, 1) := by decide +kernel
theorem dX10_cheat_74 : decode cX10_cheat 74 = .ok (.iconst 0, 1) := by decide +kernel
theorem dX10_cheat_75 : decode cX10_cheat 75 = .ok (.istore 6, 2) := by decide +kernel
theorem dX10_cheat_77 : decode cX10_cheat 77 = .ok (.iconst 0, 1) := by decide +kernel
theorem dX10_cheat_78 : decode cX10_cheat 78 = .ok (.istore 7, 2) := by decide +kernel
theorem dX10_cheat_80 : decode cX10_cheat 80 = .ok (.iload 7, 2) := by decide +kernel
theorem dX10_cheat_82 : decode cX10_cheat 82 = .ok (.bipush 6, 2) := by decide +kernel
theorem dX10_cheat_84 : decode cX10_cheat 84 = .ok (.if_icmp .ge 56, 3) := by decide +kernel
theorem dX10_cheat_87 : decode cX10_cheat 87 = .ok (.aload_n 0, 1) := by decide +kernel
theorem dX10_cheat_88 : decode cX10_cheat 88 = .ok (.getfield 25, 3) := by decide +kernel
theorem dX10_cheat_91 : decode cX10_cheat 91 = .ok (.iload 7, 2) := by decide +kernel
theorem dX10_cheat_93 : decode cX10_cheat 93 = .ok (.aaload, 1) := by decide +kernel
theorem dX10_cheat_94 : decode cX10_cheat 94 = .ok (.iload_n 2, 1) := by decide +kernel
theorem dX10_cheat_95 : decode cX10_cheat 95 = .ok (.aload_n 0, 1) := by decide +kernel
theorem dX10_cheat_96 : decode cX10_cheat 96 = .ok (.getfield 36, 3) := by decide +kernel
theorem dX10_cheat_99 : decode cX10_cheat 99 = .ok (.getfield 128, 3) := by decide +kernel
theorem dX10_cheat_102 : decode cX10_cheat 102 = .ok (.iload_n 1, 1) := by decide +kernel
theorem dX10_cheat_103 : decode cX10_cheat 103 = .ok (.iaload, 1) := by decide +kernel
theorem dX10_cheat_104 : decode cX10_cheat 104 = .ok (.invokevirtual 203, 3) := by decide +kernel
theorem dX10_cheat_107 : decode cX10_cheat 107 = .ok (.istore 8, 2) := by decide +kernel
theorem dX10_cheat_109 : decode cX10_cheat 109 = .ok (.iconst 0, 1) := by decide +kernel
theorem dX10_cheat_110 : decode cX10_cheat 110 = .ok (.iload_n 3, 1) := by decide +kernel
theorem dX10_cheat_111 : decode cX10_cheat 111 = .ok (.iload 5, 2) := by decide +kernel
theorem dX10_cheat_113 : decode cX10_cheat 113 = .ok (.iload 8, 2) := by decide +kernel
theorem dX10_cheat_115 : decode cX10_cheat 115 = .ok (.imul, 1) := by decide +kernel
theorem dX10_cheat_116 : decode cX10_cheat 116 = .ok (.isub, 1) := by decide +kernel
theorem dX10_cheat_117 : decode cX10_cheat 117 = .ok (.invokestatic 206, 3) := by decide +kernel
theorem dX10_cheat_120 : decode cX10_cheat 120 = .ok (.iload 4, 2) := by decide +kernel
theorem dX10_cheat_122 : decode cX10_cheat 122 = .ok (.if_icmp .ne 12, 3) := by decide +kernel
theorem dX10_cheat_125 : decode cX10_cheat 125 = .ok (.iload 6, 2) := by decide +kernel
theorem dX10_cheat_127 : decode cX10_cheat 127 = .ok (.iconst 1, 1) := by decide +kernel
theorem dX10_cheat_128 : decode cX10_cheat 128 = .ok (.iload 7, 2) := by decide +kernel
theorem dX10_cheat_130 : decode cX10_cheat 130 = .ok (.ishl, 1) := by decide +kernel
theorem dX10_cheat_131 : decode cX10_cheat 131 = .ok (.ior, 1) := by decide +kernel
theorem dX10_cheat_132 : decode cX10_cheat 132 = .ok (.istore 6, 2) := by decide +kernel
theorem dX10_cheat_134 : decode cX10_cheat 134 = .ok (.iinc 7 1, 3) := by decide +kernel
theorem dX10_cheat_137 : decode cX10_cheat 137 = .ok (.goto (-57), 3) := by decide +kernel
theorem dX10_cheat_140 : decode cX10_cheat 140 = .ok (.iload 6, 2) := by decide +kernel
theorem dX10_cheat_142 : decode cX10_cheat 142 = .ok (.ireturn, 1) := by decide +kernel
theorem dX10_dripped_0 : decode cX10_dripped 0 = .ok (.aload_n 0, 1) := by decide +kernel
theorem dX10_dripped_1 : decode cX10_dripped 1 = .ok (.iload_n 1, 1) := by decide +kernel
theorem dX10_dripped_2 : decode cX10_dripped 2 = .ok (.invokevirtual 82, 3) := by decide +kernel
theorem dX10_dripped_5 : decode cX10_dripped 5 = .ok (.ifCond .eq 10, 3) := by decide +kernel
theorem dX10_dripped_8 : decode cX10_dripped 8 = .ok (.iload_n 2, 1) := by decide +kernel
theorem dX10_dripped_9 : decode cX10_dripped 9 = .ok (.invokestatic 121, 3) := by decide +kernel
theorem dX10_dripped_12 : decode cX10_dripped 12 = .ok (.ifCond .ne 9, 3) := by decide +kernel
theorem dX10_dripped_15 : decode cX10_dripped 15 = .ok (.aload_n 0, 1) := by decide +kernel
theorem dX10_dripped_16 : decode cX10_dripped 16 = .ok (.iconst (-1), 1) := by decide +kernel
theorem dX10_dripped_17 : decode cX10_dripped 17 = .ok (.invokevirtual 67, 3) := by decide +kernel
theorem dX10_dripped_20 : decode cX10_dripped 20 = .ok (.ireturn, 1) := by decide +kernel
theorem dX10_dripped_21 : decode cX10_dripped 21 = .ok (.iload 4, 2) := by decide +kernel
theorem dX10_dripped_23 : decode cX10_dripped 23 = .ok (.ifCond .eq 16, 3) := by decide +kernel
theorem dX10_dripped_26 : decode cX10_dripped 26 = .ok (.iload 4, 2) := by decide +kernel
theorem dX10_dripped_28 : decode cX10_dripped 28 = .ok (.iconst 1, 1) := by decide +kernel
theorem dX10_dripped_29 : decode cX10_dripped 29 = .ok (.if_icmp .eq 10, 3) := by decide +kernel
theorem dX10_dripped_32 : decode cX10_dripped 32 = .ok (.aload_n 0, 1) := by decide +kernel
theorem dX10_dripped_33 : decode cX10_dripped 33 = .ok (.bipush (-2), 2) := by decide +kernel
theorem dX10_dripped_35 : decode cX10_dripped 35 = .ok (.invokevirtual 67, 3) := by decide +kernel
theorem dX10_dripped_38 : decode cX10_dripped 38 = .ok (.ireturn, 1) := by decide +kernel
theorem dX10_dripped_39 : decode cX10_dripped 39 = .ok (.iload_n 3, 1) := by decide +kernel
theorem dX10_dripped_40 : decode cX10_dripped 40 = .ok (.ifCond .ge 10, 3) := by decide +kernel
theorem dX10_dripped_43 : decode cX10_dripped 43 = .ok (.aload_n 0, 1) := by decide +kernel
theorem dX10_dripped_44 : decode cX10_dripped 44 = .ok (.bipush (-4), 2) := by decide +kernel
theorem dX10_dripped_46 : decode cX10_dripped 46 = .ok (.invokevirtual 67, 3) := by decide +kernel
theorem dX10_dripped_49 : decode cX10_dripped 49 = .ok (.ireturn, 1) := by decide +kernel
theorem dX10_dripped_50 : decode cX10_dripped 50 = .ok (.aload_n 0, 1) := by decide +kernel
theorem dX10_dripped_51 : decode cX10_dripped 51 = .ok (.getfield 36, 3) := by decide +kernel
theorem dX10_dripped_54 : decode cX10_dripped 54 = .ok (.getfield 86, 3) := by decide +kernel
theorem dX10_dripped_57 : decode cX10_dripped 57 = .ok (.iload_n 1, 1) := by decide +kernel
theorem dX10_dripped_58 : decode cX10_dripped 58 = .ok (.aaload, 1) := by decide +kernel
theorem dX10_dripped_59 : decode cX10_dripped 59 = .ok (.astore 5, 2) := by decide +kernel
theorem dX10_dripped_61 : decode cX10_dripped 61 = .ok (.aload_n 0, 1) := by decide +kernel
theorem dX10_dripped_62 : decode cX10_dripped 62 = .ok (.getfield 36, 3) := by decide +kernel
theorem dX10_dripped_65 : decode cX10_dripped 65 = .ok (.getfield 128, 3) := by decide +kernel
theorem dX10_dripped_68 : decode cX10_dripped 68 = .ok (.iload_n 2, 1) := by decide +kernel
theorem dX10_dripped_69 : decode cX10_dripped 69 = .ok (.iaload, 1) := by decide +kernel
theorem dX10_dripped_70 : decode cX10_dripped 70 = .ok (.istore 6, 2) := by decide +kernel
theorem dX10_dripped_72 : decode cX10_dripped 72 = .ok (.aload 5, 2) := by decide +kernel
theorem dX10_dripped_74 : decode cX10_dripped 74 = .ok (.getfield 98, 3) := by decide +kernel
theorem dX10_dripped_77 : decode cX10_dripped 77 = .ok (.istore 7, 2) := by decide +kernel
theorem dX10_dripped_79 : decode cX10_dripped 79 = .ok (.iconst 0, 1) := by decide +kernel
theorem dX10_dripped_80 : decode cX10_dripped 80 = .ok (.istore 8, 2) := by decide +kernel
theorem dX10_dripped_82 : decode cX10_dripped 82 = .ok (.iconst 0, 1) := by decide +kernel
theorem dX10_dripped_83 : decode cX10_dripped 83 = .ok (.istore 9, 2) := by decide +kernel
theorem dX10_dripped_85 : decode cX10_dripped 85 = .ok (.bipush (-9), 2) := by decide +kernel
theorem dX10_dripped_87 : decode cX10_dripped 87 = .ok (.istore 10, 2) := by decide +kernel
theorem dX10_dripped_89 : decode cX10_dripped 89 = .ok (.iconst 0, 1) := by decide +kernel
theorem dX10_dripped_90 : decode cX10_dripped 90 = .ok (.istore 11, 2) := by decide +kernel
theorem dX10_dripped_92 : decode cX10_dripped 92 = .ok (.iload 11, 2) := by decide +kernel
theorem dX10_dripped_94 : decode cX10_dripped 94 = .ok (.bipush 99, 2) := by decide +kernel
theorem dX10_dripped_96 : decode cX10_dripped 96 = .ok (.if_icmp .gt 94, 3) := by decide +kernel
theorem dX10_dripped_99 : decode cX10_dripped 99 = .ok (.iload 8, 2) := by decide +kernel
theorem dX10_dripped_101 : decode cX10_dripped 101 = .ok (.iload_n 3, 1) := by decide +kernel
theorem dX10_dripped_102 : decode cX10_dripped 102 = .ok (.if_icmp .ne 21, 3) := by decide +kernel
theorem dX10_dripped_105 : decode cX10_dripped 105 = .ok (.iinc 9 1, 3) := by decide +kernel
theorem dX10_dripped_108 : decode cX10_dripped 108 = .ok (.iload 9, 2) := by decide +kernel
theorem dX10_dripped_110 : decode cX10_dripped 110 = .ok (.iconst 1, 1) := by decide +kernel
theorem dX10_dripped_111 : decode cX10_dripped 111 = .ok (.if_icmp .ne 8, 3) := by decide +kernel
theorem dX10_dripped_114 : decode cX10_dripped 114 = .ok (.iload 11, 2) := by decide +kernel
theorem dX10_dripped_116 : decode cX10_dripped 116 = .ok (.goto 5, 3) := by decide +kernel
theorem dX10_dripped_119 : decode cX10_dripped 119 = .ok (.iload 10, 2) := by decide +kernel
theorem dX10_dripped_121 : decode cX10_dripped 121 = .ok (.istore 10, 2) := by decide +kernel
theorem dX10_dripped_123 : decode cX10_dripped 123 = .ok (.aload_n 0, 1) := by decide +kernel
theorem dX10_dripped_124 : decode cX10_dripped 124 = .ok (.getfield 25, 3) := by decide +kernel
theorem dX10_dripped_127 : decode cX10_dripped 127 = .ok (.aload 5, 2) := by decide +kernel
theorem dX10_dripped_129 : decode cX10_dripped 129 = .ok (.getfield 90, 3) := by decide +kernel
theorem dX10_dripped_132 : decode cX10_dripped 132 = .ok (.aaload, 1) := by decide +kernel
theorem dX10_dripped_133 : decode cX10_dripped 133 = .ok (.aload 5, 2) := by decide +kernel
theorem dX10_dripped_135 : decode cX10_dripped 135 = .ok (.getfield 95, 3) := by decide +kernel
theorem dX10_dripped_138 : decode cX10_dripped 138 = .ok (.iload 6, 2) := by decide +kernel
theorem dX10_dripped_140 : decode cX10_dripped 140 = .ok (.invokevirtual 203, 3) := by decide +kernel
theorem dX10_dripped_143 : decode cX10_dripped 143 = .ok (.iload 7, 2) := by decide +kernel
theorem dX10_dripped_145 : decode cX10_dripped 145 = .ok (.invokestatic 145, 3) := by decide +kernel
theorem dX10_dripped_148 : decode cX10_dripped 148 = .ok (.istore 12, 2) := by decide +kernel
theorem dX10_dripped_150 : decode cX10_dripped 150 = .ok (.iload 8, 2) := by decide +kernel
theorem dX10_dripped_152 : decode cX10_dripped 152 = .ok (.aload_n 0, 1) := by decide +kernel
theorem dX10_dripped_153 : decode cX10_dripped 153 = .ok (.getfield 25, 3) := by decide +kernel
theorem dX10_dripped_156 : decode cX10_dripped 156 = .ok (.aload 5, 2) := by decide +kernel
theorem dX10_dripped_158 : decode cX10_dripped 158 = .ok (.getfield 90, 3) := by decide +kernel
theorem dX10_dripped_161 : decode cX10_dripped 161 = .ok (.aaload, 1) := by decide +kernel
theorem dX10_dripped_162 : decode cX10_dripped 162 = .ok (.iload 12, 2) := by decide +kernel
theorem dX10_dripped_164 : decode cX10_dripped 164 = .ok (.aload 5, 2) := by decide +kernel
theorem dX10_dripped_166 : decode cX10_dripped 166 = .ok (.getfield 95, 3) := by decide +kernel
theorem dX10_dripped_169 : decode cX10_dripped 169 = .ok (.iload 6, 2) := by decide +kernel
theorem dX10_dripped_171 : decode cX10_dripped 171 = .ok (.invokevirtual 209, 3) := by decide +kernel
theorem dX10_dripped_174 : decode cX10_dripped 174 = .ok (.iadd, 1) := by decide +kernel
theorem dX10_dripped_175 : decode cX10_dripped 175 = .ok (.istore 8, 2) := by decide +kernel
theorem dX10_dripped_177 : decode cX10_dripped 177 = .ok (.iload 7, 2) := by decide +kernel
theorem dX10_dripped_179 : decode cX10_dripped 179 = .ok (.iload 12, 2) := by decide +kernel
theorem dX10_dripped_181 : decode cX10_dripped 181 = .ok (.isub, 1) := by decide +kernel
theorem dX10_dripped_182 : decode cX10_dripped 182 = .ok (.istore 7, 2) := by decide +kernel
theorem dX10_dripped_184 : decode cX10_dripped 184 = .ok (.iinc 11 1, 3) := by decide +kernel
theorem dX10_dripped_187 : decode cX10_dripped 187 = .ok (.goto (-95), 3) := by decide +kernel
theorem dX10_dripped_190 : decode cX10_dripped 190 = .ok (.iload 4, 2) := by decide +kernel
theorem dX10_dripped_192 : decode cX10_dripped 192 = .ok (.ifCond .ne 8, 3) := by decide +kernel
theorem dX10_dripped_195 : decode cX10_dripped 195 = .ok (.iload 9, 2) := by decide +kernel
theorem dX10_dripped_197 : decode cX10_dripped 197 = .ok (.goto 5, 3) := by decide +kernel
theorem dX10_dripped_200 : decode cX10_dripped 200 = .ok (.iload 10, 2) := by decide +kernel
theorem dX10_dripped_202 : decode cX10_dripped 202 = .ok (.ireturn, 1) := by decide +kernel
theorem dX10_row_0 : decode cX10_row 0 = .ok (.iload_n 1, 1) := by decide +kernel
theorem dX10_row_1 : decode cX10_row 1 = .ok (.ifCond .ge 10, 3) := by decide +kernel
theorem dX10_row_4 : decode cX10_row 4 = .ok (.aload_n 0, 1) := by decide +kernel
theorem dX10_row_5 : decode cX10_row 5 = .ok (.bipush (-4), 2) := by decide +kernel
theorem dX10_row_7 : decode cX10_row 7 = .ok (.invokevirtual 67, 3) := by decide +kernel
theorem dX10_row_10 : decode cX10_row 10 = .ok (.ireturn, 1) := by decide +kernel
theorem dX10_row_11 : decode cX10_row 11 = .ok (.iload_n 1, 1) := by decide +kernel
theorem dX10_row_12 : decode cX10_row 12 = .ok (.sipush 999, 3) := by decide +kernel
theorem dX10_row_15 : decode cX10_row 15 = .ok (.if_icmp .gt 12, 3) := by decide +kernel
theorem dX10_row_18 : decode cX10_row 18 = .ok (.aload_n 0, 1) := by decide +kernel
theorem dX10_row_19 : decode cX10_row 19 = .ok (.getfield 212, 3) := by decide +kernel
theorem dX10_row_22 : decode cX10_row 22 = .ok (.bipush 6, 2) := by decide +kernel
theorem dX10_row_24 : decode cX10_row 24 = .ok (.if_icmp .lt 10, 3) := by decide +kernel
theorem dX10_row_27 : decode cX10_row 27 = .ok (.aload_n 0, 1) := by decide +kernel
theorem dX10_row_28 : decode cX10_row 28 = .ok (.bipush (-6), 2) := by decide +kernel
theorem dX10_row_30 : decode cX10_row 30 = .ok (.invokevirtual 67, 3) := by decide +kernel
theorem dX10_row_33 : decode cX10_row 33 = .ok (.ireturn, 1) := by decide +kernel
theorem dX10_row_34 : decode cX10_row 34 = .ok (.aload_n 0, 1) := by decide +kernel
theorem dX10_row_35 : decode cX10_row 35 = .ok (.getfield 60, 3) := by decide +kernel
theorem dX10_row_38 : decode cX10_row 38 = .ok (.aload_n 0, 1) := by decide +kernel
theorem dX10_row_39 : decode cX10_row 39 = .ok (.getfield 212, 3) := by decide +kernel
theorem dX10_row_42 : decode cX10_row 42 = .ok (.iload_n 1, 1) := by decide +kernel
theorem dX10_row_43 : decode cX10_row 43 = .ok (.iastore, 1) := by decide +kernel
theorem dX10_row_44 : decode cX10_row 44 = .ok (.aload_n 0, 1) := by decide +kernel
theorem dX10_row_45 : decode cX10_row 45 = .ok (.dup, 1) := by decide +kernel
theorem dX10_row_46 : decode cX10_row 46 = .ok (.getfield 212, 3) := by decide +kernel
theorem dX10_row_49 : decode cX10_row 49 = .ok (.iconst 1, 1) := by decide +kernel
theorem dX10_row_50 : decode cX10_row 50 = .ok (.iadd, 1) := by decide +kernel
theorem dX10_row_51 : decode cX10_row 51 = .ok (.putfield 212, 3) := by decide +kernel
theorem dX10_row_54 : decode cX10_row 54 = .ok (.aload_n 0, 1) := by decide +kernel
theorem dX10_row_55 : decode cX10_row 55 = .ok (.getfield 212, 3) := by decide +kernel
theorem dX10_row_58 : decode cX10_row 58 = .ok (.ireturn, 1) := by decide +kernel
theorem dX10_judge_0 : decode cX10_judge 0 = .ok (.aload_n 0, 1) := by decide +kernel
theorem dX10_judge_1 : decode cX10_judge 1 = .ok (.invokevirtual 215, 3) := by decide +kernel
theorem dX10_judge_4 : decode cX10_judge 4 = .ok (.istore_n 1, 1) := by decide +kernel
theorem dX10_judge_5 : decode cX10_judge 5 = .ok (.aload_n 0, 1) := by decide +kernel
theorem dX10_judge_6 : decode cX10_judge 6 = .ok (.iconst 0, 1) := by decide +kernel
theorem dX10_judge_7 : decode cX10_judge 7 = .ok (.putfield 212, 3) := by decide +kernel
theorem dX10_judge_10 : decode cX10_judge 10 = .ok (.iload_n 1, 1) := by decide +kernel
theorem dX10_judge_11 : decode cX10_judge 11 = .ok (.ireturn, 1) := by decide +kernel
theorem dX10_seeds_0 : decode cX10_seeds 0 = .ok (.iload_n 1, 1) := by decide +kernel
theorem dX10_seeds_1 : decode cX10_seeds 1 = .ok (.iconst 1, 1) := by decide +kernel
theorem dX10_seeds_2 : decode cX10_seeds 2 = .ok (.bipush 60, 2) := by decide +kernel
theorem dX10_seeds_4 : decode cX10_seeds 4 = .ok (.invokestatic 124, 3) := by decide +kernel
theorem dX10_seeds_7 : decode cX10_seeds 7 = .ok (.istore_n 3, 1) := by decide +kernel
theorem dX10_seeds_8 : decode cX10_seeds 8 = .ok (.iload_n 3, 1) := by decide +kernel
theorem dX10_seeds_9 : decode cX10_seeds 9 = .ok (.ifCond .eq 9, 3) := by decide +kernel
theorem dX10_seeds_12 : decode cX10_seeds 12 = .ok (.aload_n 0, 1) := by decide +kernel
theorem dX10_seeds_13 : decode cX10_seeds 13 = .ok (.iload_n 3, 1) := by decide +kernel
theorem dX10_seeds_14 : decode cX10_seeds 14 = .ok (.invokevirtual 67, 3) := by decide +kernel
theorem dX10_seeds_17 : decode cX10_seeds 17 = .ok (.ireturn, 1) := by decide +kernel
theorem dX10_seeds_18 : decode cX10_seeds 18 = .ok (.aload_n 0, 1) := by decide +kernel
theorem dX10_seeds_19 : decode cX10_seeds 19 = .ok (.getfield 36, 3) := by decide +kernel
theorem dX10_seeds_22 : decode cX10_seeds 22 = .ok (.getfield 218, 3) := by decide +kernel
theorem dX10_seeds_25 : decode cX10_seeds 25 = .ok (.ifCond .ne 10, 3) := by decide +kernel
theorem dX10_seeds_28 : decode cX10_seeds 28 = .ok (.aload_n 0, 1) := by decide +kernel
theorem dX10_seeds_29 : decode cX10_seeds 29 = .ok (.bipush (-3), 2) := by decide +kernel
theorem dX10_seeds_31 : decode cX10_seeds 31 = .ok (.invokevirtual 67, 3) := by decide +kernel
theorem dX10_seeds_34 : decode cX10_seeds 34 = .ok (.ireturn, 1) := by decide +kernel
theorem dX10_seeds_35 : decode cX10_seeds 35 = .ok (.aload_n 0, 1) := by decide +kernel
theorem dX10_seeds_36 : decode cX10_seeds 36 = .ok (.getfield 40, 3) := by decide +kernel
theorem dX10_seeds_39 : decode cX10_seeds 39 = .ok (.aload_n 0, 1) := by decide +kernel
theorem dX10_seeds_40 : decode cX10_seeds 40 = .ok (.getfield 36, 3) := by decide +kernel
theorem dX10_seeds_43 : decode cX10_seeds 43 = .ok (.invokevirtual 160, 3) := by decide +kernel
theorem dX10_seeds_46 : decode cX10_seeds 46 = .ok (.iload_n 2, 1) := by decide +kernel
theorem dX10_seeds_47 : decode cX10_seeds 47 = .ok (.istore 4, 2) := by decide +kernel
theorem dX10_seeds_49 : decode cX10_seeds 49 = .ok (.iconst 0, 1) := by decide +kernel
theorem dX10_seeds_50 : decode cX10_seeds 50 = .ok (.istore 5, 2) := by decide +kernel
theorem dX10_seeds_52 : decode cX10_seeds 52 = .ok (.iload 5, 2) := by decide +kernel
theorem dX10_seeds_54 : decode cX10_seeds 54 = .ok (.iload_n 1, 1) := by decide +kernel
theorem dX10_seeds_55 : decode cX10_seeds 55 = .ok (.if_icmp .ge 71, 3) := by decide +kernel
theorem dX10_seeds_58 : decode cX10_seeds 58 = .ok (.iload 4, 2) := by decide +kernel
theorem dX10_seeds_60 : decode cX10_seeds 60 = .ok (.ldc 221, 2) := by decide +kernel
theorem dX10_seeds_62 : decode cX10_seeds 62 = .ok (.imul, 1) := by decide +kernel
theorem dX10_seeds_63 : decode cX10_seeds 63 = .ok (.sipush 12345, 3) := by decide +kernel
theorem dX10_seeds_66 : decode cX10_seeds 66 = .ok (.iadd, 1) := by decide +kernel
theorem dX10_seeds_67 : decode cX10_seeds 67 = .ok (.istore 4, 2) := by decide +kernel
theorem dX10_seeds_69 : decode cX10_seeds 69 = .ok (.aload_n 0, 1) := by decide +kernel
theorem dX10_seeds_70 : decode cX10_seeds 70 = .ok (.getfield 40, 3) := by decide +kernel
theorem dX10_seeds_73 : decode cX10_seeds 73 = .ok (.getfield 86, 3) := by decide +kernel
theorem dX10_seeds_76 : decode cX10_seeds 76 = .ok (.iload 4, 2) := by decide +kernel
theorem dX10_seeds_78 : decode cX10_seeds 78 = .ok (.ldc 222, 2) := by decide +kernel
theorem dX10_seeds_80 : decode cX10_seeds 80 = .ok (.iand, 1) := by decide +kernel
theorem dX10_seeds_81 : decode cX10_seeds 81 = .ok (.ldc 223, 2) := by decide +kernel
theorem dX10_seeds_83 : decode cX10_seeds 83 = .ok (.idiv, 1) := by decide +kernel
theorem dX10_seeds_84 : decode cX10_seeds 84 = .ok (.aload_n 0, 1) := by decide +kernel
theorem dX10_seeds_85 : decode cX10_seeds 85 = .ok (.getfield 36, 3) := by decide +kernel
theorem dX10_seeds_88 : decode cX10_seeds 88 = .ok (.getfield 218, 3) := by decide +kernel
theorem dX10_seeds_91 : decode cX10_seeds 91 = .ok (.irem, 1) := by decide +kernel
theorem dX10_seeds_92 : decode cX10_seeds 92 = .ok (.aaload, 1) := by decide +kernel
theorem dX10_seeds_93 : decode cX10_seeds 93 = .ok (.astore 6, 2) := by decide +kernel
theorem dX10_seeds_95 : decode cX10_seeds 95 = .ok (.aload 6, 2) := by decide +kernel
theorem dX10_seeds_97 : decode cX10_seeds 97 = .ok (.aload 6, 2) := by decide +kernel
theorem dX10_seeds_99 : decode cX10_seeds 99 = .ok (.getfield 107, 3) := by decide +kernel
theorem dX10_seeds_102 : decode cX10_seeds 102 = .ok (.ifCond .ne 7, 3) := by decide +kernel
theorem dX10_seeds_105 : decode cX10_seeds 105 = .ok (.iconst 1, 1) := by decide +kernel
theorem dX10_seeds_106 : decode cX10_seeds 106 = .ok (.goto 4, 3) := by decide +kernel
theorem dX10_seeds_109 : decode cX10_seeds 109 = .ok (.iconst 0, 1) := by decide +kernel
theorem dX10_seeds_110 : decode cX10_seeds 110 = .ok (.putfield 107, 3) := by decide +kernel
theorem dX10_seeds_113 : decode cX10_seeds 113 = .ok (.aload_n 0, 1) := by decide +kernel
theorem dX10_seeds_114 : decode cX10_seeds 114 = .ok (.getfield 40, 3) := by decide +kernel
theorem dX10_seeds_117 : decode cX10_seeds 117 = .ok (.invokevirtual 153, 3) := by decide +kernel
theorem dX10_seeds_120 : decode cX10_seeds 120 = .ok (.iinc 5 1, 3) := by decide +kernel
theorem dX10_seeds_123 : decode cX10_seeds 123 = .ok (.goto (-71), 3) := by decide +kernel
theorem dX10_seeds_126 : decode cX10_seeds 126 = .ok (.aload_n 0, 1) := by decide +kernel
theorem dX10_seeds_127 : decode cX10_seeds 127 = .ok (.getfield 40, 3) := by decide +kernel
theorem dX10_seeds_130 : decode cX10_seeds 130 = .ok (.invokevirtual 224, 3) := by decide +kernel
theorem dX10_seeds_133 : decode cX10_seeds 133 = .ok (.ireturn, 1) := by decide +kernel
theorem dX10_image_0 : decode cX10_image 0 = .ok (.aload_n 0, 1) := by decide +kernel
theorem dX10_image_1 : decode cX10_image 1 = .ok (.getfield 43, 3) := by decide +kernel
theorem dX10_image_4 : decode cX10_image 4 = .ok (.aload_n 0, 1) := by decide +kernel
theorem dX10_image_5 : decode cX10_image 5 = .ok (.getfield 36, 3) := by decide +kernel
theorem dX10_image_8 : decode cX10_image 8 = .ok (.invokevirtual 160, 3) := by decide +kernel
theorem dX10_image_11 : decode cX10_image 11 = .ok (.aload_n 0, 1) := by decide +kernel
theorem dX10_image_12 : decode cX10_image 12 = .ok (.iconst 1, 1) := by decide +kernel
theorem dX10_image_13 : decode cX10_image 13 = .ok (.putfield 227, 3) := by decide +kernel
theorem dX10_image_16 : decode cX10_image 16 = .ok (.aload_n 0, 1) := by decide +kernel
theorem dX10_image_17 : decode cX10_image 17 = .ok (.getfield 36, 3) := by decide +kernel
theorem dX10_image_20 : decode cX10_image 20 = .ok (.getfield 142, 3) := by decide +kernel
theorem dX10_image_23 : decode cX10_image 23 = .ok (.ireturn, 1) := by decide +kernel
theorem dX10_restore_0 : decode cX10_restore 0 = .ok (.aload_n 0, 1) := by decide +kernel
theorem dX10_restore_1 : decode cX10_restore 1 = .ok (.getfield 227, 3) := by decide +kernel
theorem dX10_restore_4 : decode cX10_restore 4 = .ok (.ifCond .ne 10, 3) := by decide +kernel
theorem dX10_restore_7 : decode cX10_restore 7 = .ok (.aload_n 0, 1) := by decide +kernel
theorem dX10_restore_8 : decode cX10_restore 8 = .ok (.bipush (-3), 2) := by decide +kernel
theorem dX10_restore_10 : decode cX10_restore 10 = .ok (.invokevirtual 67, 3) := by decide +kernel
theorem dX10_restore_13 : decode cX10_restore 13 = .ok (.ireturn, 1) := by decide +kernel
theorem dX10_restore_14 : decode cX10_restore 14 = .ok (.aload_n 0, 1) := by decide +kernel
theorem dX10_restore_15 : decode cX10_restore 15 = .ok (.getfield 36, 3) := by decide +kernel
theorem dX10_restore_18 : decode cX10_restore 18 = .ok (.aload_n 0, 1) := by decide +kernel
theorem dX10_restore_19 : decode cX10_restore 19 = .ok (.getfield 43, 3) := by decide +kernel
theorem dX10_restore_22 : decode cX10_restore 22 = .ok (.invokevirtual 160, 3) := by decide +kernel
theorem dX10_restore_25 : decode cX10_restore 25 = .ok (.aload_n 0, 1) := by decide +kernel
theorem dX10_restore_26 : decode cX10_restore 26 = .ok (.getfield 36, 3) := by decide +kernel
theorem dX10_restore_29 : decode cX10_restore 29 = .ok (.getfield 142, 3) := by decide +kernel
theorem dX10_restore_32 : decode cX10_restore 32 = .ok (.ireturn, 1) := by decide +kernel
theorem dX10_count_0 : decode cX10_count 0 = .ok (.iload_n 1, 1) := by decide +kernel
theorem dX10_count_1 : decode cX10_count 1 = .ok (.bipush 11, 2) := by decide +kernel
theorem dX10_count_3 : decode cX10_count 3 = .ok (.if_icmp .lt 19, 3) := by decide +kernel
theorem dX10_count_6 : decode cX10_count 6 = .ok (.iload_n 1, 1) := by decide +kernel
theorem dX10_count_7 : decode cX10_count 7 = .ok (.bipush 16, 2) := by decide +kernel
theorem dX10_count_9 : decode cX10_count 9 = .ok (.if_icmp .gt 13, 3) := by decide +kernel
theorem dX10_count_12 : decode cX10_count 12 = .ok (.aload_n 0, 1) := by decide +kernel
theorem dX10_count_13 : decode cX10_count 13 = .ok (.getfield 64, 3) := by decide +kernel
theorem dX10_count_16 : decode cX10_count 16 = .ok (.iload_n 1, 1) := by decide +kernel
theorem dX10_count_17 : decode cX10_count 17 = .ok (.bipush 10, 2) := by decide +kernel
theorem dX10_count_19 : decode cX10_count 19 = .ok (.isub, 1) := by decide +kernel
theorem dX10_count_20 : decode cX10_count 20 = .ok (.iaload, 1) := by decide +kernel
theorem dX10_count_21 : decode cX10_count 21 = .ok (.ireturn, 1) := by decide +kernel
theorem dX10_count_22 : decode cX10_count 22 = .ok (.iload_n 1, 1) := by decide +kernel
theorem dX10_count_23 : decode cX10_count 23 = .ok (.tableswitch 130 0 9 #[53, 61, 69, 77, 85, 93, 101, 109, 117, 125], 53) := by decide +kernel
theorem dX10_count_76 : decode cX10_count 76 = .ok (.aload_n 0, 1) := by decide +kernel
theorem dX10_count_77 : decode cX10_count 77 = .ok (.getfield 36, 3) := by decide +kernel
theorem dX10_count_80 : decode cX10_count 80 = .ok (.getfield 218, 3) := by decide +kernel
theorem dX10_count_83 : decode cX10_count 83 = .ok (.ireturn, 1) := by decide +kernel
theorem dX10_count_84 : decode cX10_count 84 = .ok (.aload_n 0, 1) := by decide +kernel
theorem dX10_count_85 : decode cX10_count 85 = .ok (.getfield 36, 3) := by decide +kernel
theorem dX10_count_88 : decode cX10_count 88 = .ok (.getfield 142, 3) := by decide +kernel
theorem dX10_count_91 : decode cX10_count 91 = .ok (.ireturn, 1) := by decide +kernel
theorem dX10_count_92 : decode cX10_count 92 = .ok (.aload_n 0, 1) := by decide +kernel
theorem dX10_count_93 : decode cX10_count 93 = .ok (.getfield 36, 3) := by decide +kernel
theorem dX10_count_96 : decode cX10_count 96 = .ok (.invokevirtual 224, 3) := by decide +kernel
theorem dX10_count_99 : decode cX10_count 99 = .ok (.ireturn, 1) := by decide +kernel
theorem dX10_count_100 : decode cX10_count 100 = .ok (.aload_n 0, 1) := by decide +kernel
theorem dX10_count_101 : decode cX10_count 101 = .ok (.getfield 36, 3) := by decide +kernel
theorem dX10_count_104 : decode cX10_count 104 = .ok (.invokevirtual 167, 3) := by decide +kernel
theorem dX10_count_107 : decode cX10_count 107 = .ok (.ireturn, 1) := by decide +kernel
theorem dX10_count_108 : decode cX10_count 108 = .ok (.aload_n 0, 1) := by decide +kernel
theorem dX10_count_109 : decode cX10_count 109 = .ok (.getfield 36, 3) := by decide +kernel
theorem dX10_count_112 : decode cX10_count 112 = .ok (.invokevirtual 170, 3) := by decide +kernel
theorem dX10_count_115 : decode cX10_count 115 = .ok (.ireturn, 1) := by decide +kernel
theorem dX10_count_116 : decode cX10_count 116 = .ok (.aload_n 0, 1) := by decide +kernel
theorem dX10_count_117 : decode cX10_count 117 = .ok (.getfield 36, 3) := by decide +kernel
theorem dX10_count_120 : decode cX10_count 120 = .ok (.getfield 150, 3) := by decide +kernel
theorem dX10_count_123 : decode cX10_count 123 = .ok (.ireturn, 1) := by decide +kernel
theorem dX10_count_124 : decode cX10_count 124 = .ok (.aload_n 0, 1) := by decide +kernel
theorem dX10_count_125 : decode cX10_count 125 = .ok (.getfield 36, 3) := by decide +kernel
theorem dX10_count_128 : decode cX10_count 128 = .ok (.getfield 230, 3) := by decide +kernel
theorem dX10_count_131 : decode cX10_count 131 = .ok (.ireturn, 1) := by decide +kernel
theorem dX10_count_132 : decode cX10_count 132 = .ok (.aload_n 0, 1) := by decide +kernel
theorem dX10_count_133 : decode cX10_count 133 = .ok (.getfield 36, 3) := by decide +kernel
theorem dX10_count_136 : decode cX10_count 136 = .ok (.getfield 233, 3) := by decide +kernel
theorem dX10_count_139 : decode cX10_count 139 = .ok (.ireturn, 1) := by decide +kernel
theorem dX10_count_140 : decode cX10_count 140 = .ok (.aload_n 0, 1) := by decide +kernel
theorem dX10_count_141 : decode cX10_count 141 = .ok (.getfield 49, 3) := by decide +kernel
theorem dX10_count_144 : decode cX10_count 144 = .ok (.getfield 71, 3) := by decide +kernel
theorem dX10_count_147 : decode cX10_count 147 = .ok (.ireturn, 1) := by decide +kernel
theorem dX10_count_148 : decode cX10_count 148 = .ok (.aload_n 0, 1) := by decide +kernel
theorem dX10_count_149 : decode cX10_count 149 = .ok (.getfield 212, 3) := by decide +kernel
theorem dX10_count_152 : decode cX10_count 152 = .ok (.ireturn, 1) := by decide +kernel
theorem dX10_count_153 : decode cX10_count 153 = .ok (.bipush (-9), 2) := by decide +kernel
theorem dX10_count_155 : decode cX10_count 155 = .ok (.ireturn, 1) := by decide +kernel
theorem dX10_refuse_0 : decode cX10_refuse 0 = .ok (.iload_n 1, 1) := by decide +kernel
theorem dX10_refuse_1 : decode cX10_refuse 1 = .ok (.ineg, 1) := by decide +kernel
theorem dX10_refuse_2 : decode cX10_refuse 2 = .ok (.istore_n 2, 1) := by decide +kernel
theorem dX10_refuse_3 : decode cX10_refuse 3 = .ok (.iload_n 2, 1) := by decide +kernel
theorem dX10_refuse_4 : decode cX10_refuse 4 = .ok (.ifCond .le 22, 3) := by decide +kernel
theorem dX10_refuse_7 : decode cX10_refuse 7 = .ok (.iload_n 2, 1) := by decide +kernel
theorem dX10_refuse_8 : decode cX10_refuse 8 = .ok (.aload_n 0, 1) := by decide +kernel
theorem dX10_refuse_9 : decode cX10_refuse 9 = .ok (.getfield 64, 3) := by decide +kernel
theorem dX10_refuse_12 : decode cX10_refuse 12 = .ok (.arraylength, 1) := by decide +kernel
theorem dX10_refuse_13 : decode cX10_refuse 13 = .ok (.if_icmp .ge 13, 3) := by decide +kernel
theorem dX10_refuse_16 : decode cX10_refuse 16 = .ok (.aload_n 0, 1) := by decide +kernel
theorem dX10_refuse_17 : decode cX10_refuse 17 = .ok (.getfield 64, 3) := by decide +kernel
theorem dX10_refuse_20 : decode cX10_refuse 20 = .ok (.iload_n 2, 1) := by decide +kernel
theorem dX10_refuse_21 : decode cX10_refuse 21 = .ok (.dup2, 1) := by decide +kernel
theorem dX10_refuse_22 : decode cX10_refuse 22 = .ok (.iaload, 1) := by decide +kernel
theorem dX10_refuse_23 : decode cX10_refuse 23 = .ok (.iconst 1, 1) := by decide +kernel
theorem dX10_refuse_24 : decode cX10_refuse 24 = .ok (.iadd, 1) := by decide +kernel
theorem dX10_refuse_25 : decode cX10_refuse 25 = .ok (.iastore, 1) := by decide +kernel
theorem dX10_refuse_26 : decode cX10_refuse 26 = .ok (.iload_n 1, 1) := by decide +kernel
theorem dX10_refuse_27 : decode cX10_refuse 27 = .ok (.ireturn, 1) := by decide +kernel
theorem dX10_isCandle_0 : decode cX10_isCandle 0 = .ok (.iload_n 1, 1) := by decide +kernel
theorem dX10_isCandle_1 : decode cX10_isCandle 1 = .ok (.ifCond .lt 18, 3) := by decide +kernel
theorem dX10_isCandle_4 : decode cX10_isCandle 4 = .ok (.iload_n 1, 1) := by decide +kernel
theorem dX10_isCandle_5 : decode cX10_isCandle 5 = .ok (.aload_n 0, 1) := by decide +kernel
theorem dX10_isCandle_6 : decode cX10_isCandle 6 = .ok (.getfield 36, 3) := by decide +kernel
theorem dX10_isCandle_9 : decode cX10_isCandle 9 = .ok (.getfield 218, 3) := by decide +kernel
theorem dX10_isCandle_12 : decode cX10_isCandle 12 = .ok (.if_icmp .ge 7, 3) := by decide +kernel
theorem dX10_isCandle_15 : decode cX10_isCandle 15 = .ok (.iconst 1, 1) := by decide +kernel
theorem dX10_isCandle_16 : decode cX10_isCandle 16 = .ok (.goto 4, 3) := by decide +kernel
theorem dX10_isCandle_19 : decode cX10_isCandle 19 = .ok (.iconst 0, 1) := by decide +kernel
theorem dX10_isCandle_20 : decode cX10_isCandle 20 = .ok (.ireturn, 1) := by decide +kernel
theorem dX10_isPerson_0 : decode cX10_isPerson 0 = .ok (.iload_n 0, 1) := by decide +kernel
theorem dX10_isPerson_1 : decode cX10_isPerson 1 = .ok (.ifCond .lt 12, 3) := by decide +kernel
theorem dX10_isPerson_4 : decode cX10_isPerson 4 = .ok (.iload_n 0, 1) := by decide +kernel
theorem dX10_isPerson_5 : decode cX10_isPerson 5 = .ok (.iconst 4, 1) := by decide +kernel
theorem dX10_isPerson_6 : decode cX10_isPerson 6 = .ok (.if_icmp .ge 7, 3) := by decide +kernel
theorem dX10_isPerson_9 : decode cX10_isPerson 9 = .ok (.iconst 1, 1) := by decide +kernel
theorem dX10_isPerson_10 : decode cX10_isPerson 10 = .ok (.goto 4, 3) := by decide +kernel
theorem dX10_isPerson_13 : decode cX10_isPerson 13 = .ok (.iconst 0, 1) := by decide +kernel
theorem dX10_isPerson_14 : decode cX10_isPerson 14 = .ok (.ireturn, 1) := by decide +kernel
theorem dX10_areTwo_0 : decode cX10_areTwo 0 = .ok (.iload_n 0, 1) := by decide +kernel
theorem dX10_areTwo_1 : decode cX10_areTwo 1 = .ok (.invokestatic 121, 3) := by decide +kernel
theorem dX10_areTwo_4 : decode cX10_areTwo 4 = .ok (.ifCond .eq 19, 3) := by decide +kernel
theorem dX10_areTwo_7 : decode cX10_areTwo 7 = .ok (.iload_n 1, 1) := by decide +kernel
theorem dX10_areTwo_8 : decode cX10_areTwo 8 = .ok (.invokestatic 121, 3) := by decide +kernel
theorem dX10_areTwo_11 : decode cX10_areTwo 11 = .ok (.ifCond .eq 12, 3) := by decide +kernel
theorem dX10_areTwo_14 : decode cX10_areTwo 14 = .ok (.iload_n 0, 1) := by decide +kernel
theorem dX10_areTwo_15 : decode cX10_areTwo 15 = .ok (.iload_n 1, 1) := by decide +kernel
theorem dX10_areTwo_16 : decode cX10_areTwo 16 = .ok (.if_icmp .eq 7, 3) := by decide +kernel
theorem dX10_areTwo_19 : decode cX10_areTwo 19 = .ok (.iconst 1, 1) := by decide +kernel
theorem dX10_areTwo_20 : decode cX10_areTwo 20 = .ok (.goto 4, 3) := by decide +kernel
theorem dX10_areTwo_23 : decode cX10_areTwo 23 = .ok (.iconst 0, 1) := by decide +kernel
theorem dX10_areTwo_24 : decode cX10_areTwo 24 = .ok (.ireturn, 1) := by decide +kernel
theorem dX10_isKind_0 : decode cX10_isKind 0 = .ok (.iload_n 0, 1) := by decide +kernel
theorem dX10_isKind_1 : decode cX10_isKind 1 = .ok (.ifCond .lt 13, 3) := by decide +kernel
theorem dX10_isKind_4 : decode cX10_isKind 4 = .ok (.iload_n 0, 1) := by decide +kernel
theorem dX10_isKind_5 : decode cX10_isKind 5 = .ok (.bipush 6, 2) := by decide +kernel
theorem dX10_isKind_7 : decode cX10_isKind 7 = .ok (.if_icmp .ge 7, 3) := by decide +kernel
theorem dX10_isKind_10 : decode cX10_isKind 10 = .ok (.iconst 1, 1) := by decide +kernel
theorem dX10_isKind_11 : decode cX10_isKind 11 = .ok (.goto 4, 3) := by decide +kernel
theorem dX10_isKind_14 : decode cX10_isKind 14 = .ok (.iconst 0, 1) := by decide +kernel
theorem dX10_isKind_15 : decode cX10_isKind 15 = .ok (.ireturn, 1) := by decide +kernel
theorem dX10_pair_0 : decode cX10_pair 0 = .ok (.iload_n 0, 1) := by decide +kernel
theorem dX10_pair_1 : decode cX10_pair 1 = .ok (.iconst 4, 1) := by decide +kernel
theorem dX10_pair_2 : decode cX10_pair 2 = .ok (.imul, 1) := by decide +kernel
theorem dX10_pair_3 : decode cX10_pair 3 = .ok (.iload_n 1, 1) := by decide +kernel
theorem dX10_pair_4 : decode cX10_pair 4 = .ok (.iadd, 1) := by decide +kernel
theorem dX10_pair_5 : decode cX10_pair 5 = .ok (.ireturn, 1) := by decide +kernel
theorem dX10_outside_0 : decode cX10_outside 0 = .ok (.iload_n 0, 1) := by decide +kernel
theorem dX10_outside_1 : decode cX10_outside 1 = .ok (.iload_n 1, 1) := by decide +kernel
theorem dX10_outside_2 : decode cX10_outside 2 = .ok (.if_icmp .ge 6, 3) := by decide +kernel
theorem dX10_outside_5 : decode cX10_outside 5 = .ok (.bipush (-4), 2) := by decide +kernel
theorem dX10_outside_7 : decode cX10_outside 7 = .ok (.ireturn, 1) := by decide +kernel
theorem dX10_outside_8 : decode cX10_outside 8 = .ok (.iload_n 0, 1) := by decide +kernel
theorem dX10_outside_9 : decode cX10_outside 9 = .ok (.iload_n 2, 1) := by decide +kernel
theorem dX10_outside_10 : decode cX10_outside 10 = .ok (.if_icmp .le 8, 3) := by decide +kernel
theorem dX10_outside_13 : decode cX10_outside 13 = .ok (.bipush (-6), 2) := by decide +kernel
theorem dX10_outside_15 : decode cX10_outside 15 = .ok (.goto 4, 3) := by decide +kernel
theorem dX10_outside_18 : decode cX10_outside 18 = .ok (.iconst 0, 1) := by decide +kernel
theorem dX10_outside_19 : decode cX10_outside 19 = .ok (.ireturn, 1) := by decide +kernel
theorem dX10_thinkAhead_0 : decode cX10_thinkAhead 0 = .ok (.aload_n 0, 1) := by decide +kernel
theorem dX10_thinkAhead_1 : decode cX10_thinkAhead 1 = .ok (.getfield 40, 3) := by decide +kernel
theorem dX10_thinkAhead_4 : decode cX10_thinkAhead 4 = .ok (.aload_n 0, 1) := by decide +kernel
theorem dX10_thinkAhead_5 : decode cX10_thinkAhead 5 = .ok (.getfield 36, 3) := by decide +kernel
theorem dX10_thinkAhead_8 : decode cX10_thinkAhead 8 = .ok (.invokevirtual 160, 3) := by decide +kernel
theorem dX10_thinkAhead_11 : decode cX10_thinkAhead 11 = .ok (.iconst 0, 1) := by decide +kernel
theorem dX10_thinkAhead_12 : decode cX10_thinkAhead 12 = .ok (.istore_n 2, 1) := by decide +kernel
theorem dX10_thinkAhead_13 : decode cX10_thinkAhead 13 = .ok (.iload_n 2, 1) := by decide +kernel
theorem dX10_thinkAhead_14 : decode cX10_thinkAhead 14 = .ok (.iload_n 1, 1) := by decide +kernel
theorem dX10_thinkAhead_15 : decode cX10_thinkAhead 15 = .ok (.if_icmp .ge 26, 3) := by decide +kernel
theorem dX10_thinkAhead_18 : decode cX10_thinkAhead 18 = .ok (.aload_n 0, 1) := by decide +kernel
theorem dX10_thinkAhead_19 : decode cX10_thinkAhead 19 = .ok (.getfield 40, 3) := by decide +kernel
theorem dX10_thinkAhead_22 : decode cX10_thinkAhead 22 = .ok (.invokevirtual 170, 3) := by decide +kernel
theorem dX10_thinkAhead_25 : decode cX10_thinkAhead 25 = .ok (.ifCond .le 16, 3) := by decide +kernel
theorem dX10_thinkAhead_28 : decode cX10_thinkAhead 28 = .ok (.aload_n 0, 1) := by decide +kernel
theorem dX10_thinkAhead_29 : decode cX10_thinkAhead 29 = .ok (.getfield 40, 3) := by decide +kernel
theorem dX10_thinkAhead_32 : decode cX10_thinkAhead 32 = .ok (.invokevirtual 153, 3) := by decide +kernel
theorem dX10_thinkAhead_35 : decode cX10_thinkAhead 35 = .ok (.iinc 2 1, 3) := by decide +kernel
theorem dX10_thinkAhead_38 : decode cX10_thinkAhead 38 = .ok (.goto (-25), 3) := by decide +kernel
theorem dX10_thinkAhead_41 : decode cX10_thinkAhead 41 = .ok (.return_, 1) := by decide +kernel
theorem dX10_leastGrains_0 : decode cX10_leastGrains 0 = .ok (.aload_n 0, 1) := by decide +kernel
theorem dX10_leastGrains_1 : decode cX10_leastGrains 1 = .ok (.iload_n 1, 1) := by decide +kernel
theorem dX10_leastGrains_2 : decode cX10_leastGrains 2 = .ok (.iload_n 2, 1) := by decide +kernel
theorem dX10_leastGrains_3 : decode cX10_leastGrains 3 = .ok (.invokevirtual 203, 3) := by decide +kernel
theorem dX10_leastGrains_6 : decode cX10_leastGrains 6 = .ok (.istore 4, 2) := by decide +kernel
theorem dX10_leastGrains_8 : decode cX10_leastGrains 8 = .ok (.iconst 0, 1) := by decide +kernel
theorem dX10_leastGrains_9 : decode cX10_leastGrains 9 = .ok (.istore 5, 2) := by decide +kernel
theorem dX10_leastGrains_11 : decode cX10_leastGrains 11 = .ok (.iconst 0, 1) := by decide +kernel
theorem dX10_leastGrains_12 : decode cX10_leastGrains 12 = .ok (.istore 6, 2) := by decide +kernel
theorem dX10_leastGrains_14 : decode cX10_leastGrains 14 = .ok (.iconst 1, 1) := by decide +kernel
theorem dX10_leastGrains_15 : decode cX10_leastGrains 15 = .ok (.istore 7, 2) := by decide +kernel
theorem dX10_leastGrains_17 : decode cX10_leastGrains 17 = .ok (.iload 7, 2) := by decide +kernel
theorem dX10_leastGrains_19 : decode cX10_leastGrains 19 = .ok (.sipush 999, 3) := by decide +kernel
theorem dX10_leastGrains_22 : decode cX10_leastGrains 22 = .ok (.if_icmp .gt 48, 3) := by decide +kernel
theorem dX10_leastGrains_25 : decode cX10_leastGrains 25 = .ok (.iinc 6 1, 3) := by decide +kernel
theorem dX10_leastGrains_28 : decode cX10_leastGrains 28 = .ok (.iload 5, 2) := by decide +kernel
theorem dX10_leastGrains_30 : decode cX10_leastGrains 30 = .ok (.aload_n 0, 1) := by decide +kernel
theorem dX10_leastGrains_31 : decode cX10_leastGrains 31 = .ok (.iload 6, 2) := by decide +kernel
theorem dX10_leastGrains_33 : decode cX10_leastGrains 33 = .ok (.iload_n 1, 1) := by decide +kernel
theorem dX10_leastGrains_34 : decode cX10_leastGrains 34 = .ok (.iload_n 2, 1) := by decide +kernel
theorem dX10_leastGrains_35 : decode cX10_leastGrains 35 = .ok (.invokevirtual 236, 3) := by decide +kernel
theorem dX10_leastGrains_38 : decode cX10_leastGrains 38 = .ok (.iadd, 1) := by decide +kernel
theorem dX10_leastGrains_39 : decode cX10_leastGrains 39 = .ok (.istore 8, 2) := by decide +kernel
theorem dX10_leastGrains_41 : decode cX10_leastGrains 41 = .ok (.iload 8, 2) := by decide +kernel
theorem dX10_leastGrains_43 : decode cX10_leastGrains 43 = .ok (.iload_n 3, 1) := by decide +kernel
theorem dX10_leastGrains_44 : decode cX10_leastGrains 44 = .ok (.if_icmp .lt 6, 3) := by decide +kernel
theorem dX10_leastGrains_47 : decode cX10_leastGrains 47 = .ok (.iload 7, 2) := by decide +kernel
theorem dX10_leastGrains_49 : decode cX10_leastGrains 49 = .ok (.ireturn, 1) := by decide +kernel
theorem dX10_leastGrains_50 : decode cX10_leastGrains 50 = .ok (.iload 6, 2) := by decide +kernel
theorem dX10_leastGrains_52 : decode cX10_leastGrains 52 = .ok (.iload 4, 2) := by decide +kernel
theorem dX10_leastGrains_54 : decode cX10_leastGrains 54 = .ok (.if_icmp .ne 10, 3) := by decide +kernel
theorem dX10_leastGrains_57 : decode cX10_leastGrains 57 = .ok (.iload 8, 2) := by decide +kernel
theorem dX10_leastGrains_59 : decode cX10_leastGrains 59 = .ok (.istore 5, 2) := by decide +kernel
theorem dX10_leastGrains_61 : decode cX10_leastGrains 61 = .ok (.iconst 0, 1) := by decide +kernel
theorem dX10_leastGrains_62 : decode cX10_leastGrains 62 = .ok (.istore 6, 2) := by decide +kernel
theorem dX10_leastGrains_64 : decode cX10_leastGrains 64 = .ok (.iinc 7 1, 3) := by decide +kernel
theorem dX10_leastGrains_67 : decode cX10_leastGrains 67 = .ok (.goto (-50), 3) := by decide +kernel
theorem dX10_leastGrains_70 : decode cX10_leastGrains 70 = .ok (.bipush (-9), 2) := by decide +kernel
theorem dX10_leastGrains_72 : decode cX10_leastGrains 72 = .ok (.ireturn, 1) := by decide +kernel
theorem dX10_firstWrong_0 : decode cX10_firstWrong 0 = .ok (.aload_n 0, 1) := by decide +kernel
theorem dX10_firstWrong_1 : decode cX10_firstWrong 1 = .ok (.getfield 212, 3) := by decide +kernel
theorem dX10_firstWrong_4 : decode cX10_firstWrong 4 = .ok (.aload_n 0, 1) := by decide +kernel
theorem dX10_firstWrong_5 : decode cX10_firstWrong 5 = .ok (.getfield 36, 3) := by decide +kernel
theorem dX10_firstWrong_8 : decode cX10_firstWrong 8 = .ok (.getfield 218, 3) := by decide +kernel
theorem dX10_firstWrong_11 : decode cX10_firstWrong 11 = .ok (.invokestatic 145, 3) := by decide +kernel
theorem dX10_firstWrong_14 : decode cX10_firstWrong 14 = .ok (.istore_n 1, 1) := by decide +kernel
theorem dX10_firstWrong_15 : decode cX10_firstWrong 15 = .ok (.iconst 0, 1) := by decide +kernel
theorem dX10_firstWrong_16 : decode cX10_firstWrong 16 = .ok (.istore_n 2, 1) := by decide +kernel
theorem dX10_firstWrong_17 : decode cX10_firstWrong 17 = .ok (.iload_n 2, 1) := by decide +kernel
theorem dX10_firstWrong_18 : decode cX10_firstWrong 18 = .ok (.iload_n 1, 1) := by decide +kernel
theorem dX10_firstWrong_19 : decode cX10_firstWrong 19 = .ok (.if_icmp .ge 32, 3) := by decide +kernel
theorem dX10_firstWrong_22 : decode cX10_firstWrong 22 = .ok (.aload_n 0, 1) := by decide +kernel
theorem dX10_firstWrong_23 : decode cX10_firstWrong 23 = .ok (.getfield 60, 3) := by decide +kernel
theorem dX10_firstWrong_26 : decode cX10_firstWrong 26 = .ok (.iload_n 2, 1) := by decide +kernel
theorem dX10_firstWrong_27 : decode cX10_firstWrong 27 = .ok (.iaload, 1) := by decide +kernel
theorem dX10_firstWrong_28 : decode cX10_firstWrong 28 = .ok (.aload_n 0, 1) := by decide +kernel
theorem dX10_firstWrong_29 : decode cX10_firstWrong 29 = .ok (.getfield 36, 3) := by decide +kernel
theorem dX10_firstWrong_32 : decode cX10_firstWrong 32 = .ok (.getfield 86, 3) := by decide +kernel
theorem dX10_firstWrong_35 : decode cX10_firstWrong 35 = .ok (.iload_n 2, 1) := by decide +kernel
theorem dX10_firstWrong_36 : decode cX10_firstWrong 36 = .ok (.aaload, 1) := by decide +kernel
theorem dX10_firstWrong_37 : decode cX10_firstWrong 37 = .ok (.getfield 98, 3) := by decide +kernel
theorem dX10_firstWrong_40 : decode cX10_firstWrong 40 = .ok (.if_icmp .eq 5, 3) := by decide +kernel
theorem dX10_firstWrong_43 : decode cX10_firstWrong 43 = .ok (.iload_n 2, 1) := by decide +kernel
theorem dX10_firstWrong_44 : decode cX10_firstWrong 44 = .ok (.ireturn, 1) := by decide +kernel
theorem dX10_firstWrong_45 : decode cX10_firstWrong 45 = .ok (.iinc 2 1, 3) := by decide +kernel
theorem dX10_firstWrong_48 : decode cX10_firstWrong 48 = .ok (.goto (-31), 3) := by decide +kernel
theorem dX10_firstWrong_51 : decode cX10_firstWrong 51 = .ok (.aload_n 0, 1) := by decide +kernel
theorem dX10_firstWrong_52 : decode cX10_firstWrong 52 = .ok (.getfield 212, 3) := by decide +kernel
theorem dX10_firstWrong_55 : decode cX10_firstWrong 55 = .ok (.aload_n 0, 1) := by decide +kernel
theorem dX10_firstWrong_56 : decode cX10_firstWrong 56 = .ok (.getfield 36, 3) := by decide +kernel
theorem dX10_firstWrong_59 : decode cX10_firstWrong 59 = .ok (.getfield 218, 3) := by decide +kernel
theorem dX10_firstWrong_62 : decode cX10_firstWrong 62 = .ok (.if_icmp .ne 8, 3) := by decide +kernel
theorem dX10_firstWrong_65 : decode cX10_firstWrong 65 = .ok (.bipush (-9), 2) := by decide +kernel
theorem dX10_firstWrong_67 : decode cX10_firstWrong 67 = .ok (.goto 4, 3) := by decide +kernel
theorem dX10_firstWrong_70 : decode cX10_firstWrong 70 = .ok (.iload_n 1, 1) := by decide +kernel
theorem dX10_firstWrong_71 : decode cX10_firstWrong 71 = .ok (.ireturn, 1) := by decide +kernel
theorem dX10_readNight_0 : decode cX10_readNight 0 = .ok (.aload_n 0, 1) := by decide +kernel
theorem dX10_readNight_1 : decode cX10_readNight 1 = .ok (.getfield 49, 3) := by decide +kernel
theorem dX10_readNight_4 : decode cX10_readNight 4 = .ok (.invokevirtual 239, 3) := by decide +kernel
theorem dX10_readNight_7 : decode cX10_readNight 7 = .ok (.istore_n 1, 1) := by decide +kernel
theorem dX10_readNight_8 : decode cX10_readNight 8 = .ok (.iload_n 1, 1) := by decide +kernel
theorem dX10_readNight_9 : decode cX10_readNight 9 = .ok (.ifCond .eq 5, 3) := by decide +kernel
theorem dX10_readNight_12 : decode cX10_readNight 12 = .ok (.iload_n 1, 1) := by decide +kernel
theorem dX10_readNight_13 : decode cX10_readNight 13 = .ok (.ireturn, 1) := by decide +kernel
theorem dX10_readNight_14 : decode cX10_readNight 14 = .ok (.aload_n 0, 1) := by decide +kernel
theorem dX10_readNight_15 : decode cX10_readNight 15 = .ok (.getfield 40, 3) := by decide +kernel
theorem dX10_readNight_18 : decode cX10_readNight 18 = .ok (.aload_n 0, 1) := by decide +kernel
theorem dX10_readNight_19 : decode cX10_readNight 19 = .ok (.getfield 36, 3) := by decide +kernel
theorem dX10_readNight_22 : decode cX10_readNight 22 = .ok (.invokevirtual 160, 3) := by decide +kernel
theorem dX10_readNight_25 : decode cX10_readNight 25 = .ok (.iconst 0, 1) := by decide +kernel
theorem dX10_readNight_26 : decode cX10_readNight 26 = .ok (.istore_n 2, 1) := by decide +kernel
theorem dX10_readNight_27 : decode cX10_readNight 27 = .ok (.iconst 0, 1) := by decide +kernel
theorem dX10_readNight_28 : decode cX10_readNight 28 = .ok (.istore_n 3, 1) := by decide +kernel
theorem dX10_readNight_29 : decode cX10_readNight 29 = .ok (.iload_n 2, 1) := by decide +kernel
theorem dX10_readNight_30 : decode cX10_readNight 30 = .ok (.aload_n 0, 1) := by decide +kernel
theorem dX10_readNight_31 : decode cX10_readNight 31 = .ok (.getfield 49, 3) := by decide +kernel
theorem dX10_readNight_34 : decode cX10_readNight 34 = .ok (.getfield 71, 3) := by decide +kernel
theorem dX10_readNight_37 : decode cX10_readNight 37 = .ok (.if_icmp .ge 38, 3) := by decide +kernel
theorem dX10_readNight_40 : decode cX10_readNight 40 = .ok (.iload_n 3, 1) := by decide +kernel
theorem dX10_readNight_41 : decode cX10_readNight 41 = .ok (.bipush 80, 2) := by decide +kernel
theorem dX10_readNight_43 : decode cX10_readNight 43 = .ok (.if_icmp .ge 32, 3) := by decide +kernel
theorem dX10_readNight_46 : decode cX10_readNight 46 = .ok (.aload_n 0, 1) := by decide +kernel
theorem dX10_readNight_47 : decode cX10_readNight 47 = .ok (.iload_n 2, 1) := by decide +kernel
theorem dX10_readNight_48 : decode cX10_readNight 48 = .ok (.invokevirtual 242, 3) := by decide +kernel
theorem dX10_readNight_51 : decode cX10_readNight 51 = .ok (.ifCond .ne 9, 3) := by decide +kernel
theorem dX10_readNight_54 : decode cX10_readNight 54 = .ok (.sipush (-2000), 3) := by decide +kernel
theorem dX10_readNight_57 : decode cX10_readNight 57 = .ok (.iload_n 2, 1) := by decide +kernel
theorem dX10_readNight_58 : decode cX10_readNight 58 = .ok (.isub, 1) := by decide +kernel
theorem dX10_readNight_59 : decode cX10_readNight 59 = .ok (.ireturn, 1) := by decide +kernel
theorem dX10_readNight_60 : decode cX10_readNight 60 = .ok (.aload_n 0, 1) := by decide +kernel
theorem dX10_readNight_61 : decode cX10_readNight 61 = .ok (.getfield 49, 3) := by decide +kernel
theorem dX10_readNight_64 : decode cX10_readNight 64 = .ok (.iload_n 2, 1) := by decide +kernel
theorem dX10_readNight_65 : decode cX10_readNight 65 = .ok (.invokevirtual 245, 3) := by decide +kernel
theorem dX10_readNight_68 : decode cX10_readNight 68 = .ok (.istore_n 2, 1) := by decide +kernel
theorem dX10_readNight_69 : decode cX10_readNight 69 = .ok (.iinc 3 1, 3) := by decide +kernel
theorem dX10_readNight_72 : decode cX10_readNight 72 = .ok (.goto (-43), 3) := by decide +kernel
theorem dX10_readNight_75 : decode cX10_readNight 75 = .ok (.aload_n 0, 1) := by decide +kernel
theorem dX10_readNight_76 : decode cX10_readNight 76 = .ok (.getfield 36, 3) := by decide +kernel
theorem dX10_readNight_79 : decode cX10_readNight 79 = .ok (.aload_n 0, 1) := by decide +kernel
theorem dX10_readNight_80 : decode cX10_readNight 80 = .ok (.getfield 40, 3) := by decide +kernel
theorem dX10_readNight_83 : decode cX10_readNight 83 = .ok (.invokevirtual 160, 3) := by decide +kernel
theorem dX10_readNight_86 : decode cX10_readNight 86 = .ok (.iload_n 3, 1) := by decide +kernel
theorem dX10_readNight_87 : decode cX10_readNight 87 = .ok (.ireturn, 1) := by decide +kernel
theorem dX10_tellMind_0 : decode cX10_tellMind 0 = .ok (.aload_n 0, 1) := by decide +kernel
theorem dX10_tellMind_1 : decode cX10_tellMind 1 = .ok (.getfield 49, 3) := by decide +kernel
theorem dX10_tellMind_4 : decode cX10_tellMind 4 = .ok (.iload_n 1, 1) := by decide +kernel
theorem dX10_tellMind_5 : decode cX10_tellMind 5 = .ok (.iconst 1, 1) := by decide +kernel
theorem dX10_tellMind_6 : decode cX10_tellMind 6 = .ok (.iadd, 1) := by decide +kernel
theorem dX10_tellMind_7 : decode cX10_tellMind 7 = .ok (.invokevirtual 248, 3) := by decide +kernel
theorem dX10_tellMind_10 : decode cX10_tellMind 10 = .ok (.istore_n 2, 1) := by decide +kernel
theorem dX10_tellMind_11 : decode cX10_tellMind 11 = .ok (.aload_n 0, 1) := by decide +kernel
theorem dX10_tellMind_12 : decode cX10_tellMind 12 = .ok (.getfield 49, 3) := by decide +kernel
theorem dX10_tellMind_15 : decode cX10_tellMind 15 = .ok (.iload_n 1, 1) := by decide +kernel
theorem dX10_tellMind_16 : decode cX10_tellMind 16 = .ok (.iconst 2, 1) := by decide +kernel
theorem dX10_tellMind_17 : decode cX10_tellMind 17 = .ok (.iadd, 1) := by decide +kernel
theorem dX10_tellMind_18 : decode cX10_tellMind 18 = .ok (.invokevirtual 248, 3) := by decide +kernel
theorem dX10_tellMind_21 : decode cX10_tellMind 21 = .ok (.istore_n 3, 1) := by decide +kernel
theorem dX10_tellMind_22 : decode cX10_tellMind 22 = .ok (.aload_n 0, 1) := by decide +kernel
theorem dX10_tellMind_23 : decode cX10_tellMind 23 = .ok (.getfield 49, 3) := by decide +kernel
theorem dX10_tellMind_26 : decode cX10_tellMind 26 = .ok (.iload_n 1, 1) := by decide +kernel
theorem dX10_tellMind_27 : decode cX10_tellMind 27 = .ok (.invokevirtual 251, 3) := by decide +kernel
theorem dX10_tellMind_30 : decode cX10_tellMind 30 = .ok (.lookupswitch 94 #[(99, 34), (100, 64), (114, 84)], 34) := by decide +kernel
theorem dX10_tellMind_64 : decode cX10_tellMind 64 = .ok (.aload_n 0, 1) := by decide +kernel
theorem dX10_tellMind_65 : decode cX10_tellMind 65 = .ok (.getfield 40, 3) := by decide +kernel
theorem dX10_tellMind_68 : decode cX10_tellMind 68 = .ok (.iload_n 2, 1) := by decide +kernel
theorem dX10_tellMind_69 : decode cX10_tellMind 69 = .ok (.iload_n 3, 1) := by decide +kernel
theorem dX10_tellMind_70 : decode cX10_tellMind 70 = .ok (.aload_n 0, 1) := by decide +kernel
theorem dX10_tellMind_71 : decode cX10_tellMind 71 = .ok (.getfield 49, 3) := by decide +kernel
theorem dX10_tellMind_74 : decode cX10_tellMind 74 = .ok (.iload_n 1, 1) := by decide +kernel
theorem dX10_tellMind_75 : decode cX10_tellMind 75 = .ok (.iconst 3, 1) := by decide +kernel
theorem dX10_tellMind_76 : decode cX10_tellMind 76 = .ok (.iadd, 1) := by decide +kernel
theorem dX10_tellMind_77 : decode cX10_tellMind 77 = .ok (.invokevirtual 248, 3) := by decide +kernel
theorem dX10_tellMind_80 : decode cX10_tellMind 80 = .ok (.aload_n 0, 1) := by decide +kernel
theorem dX10_tellMind_81 : decode cX10_tellMind 81 = .ok (.getfield 49, 3) := by decide +kernel
theorem dX10_tellMind_84 : decode cX10_tellMind 84 = .ok (.iload_n 1, 1) := by decide +kernel
theorem dX10_tellMind_85 : decode cX10_tellMind 85 = .ok (.iconst 4, 1) := by decide +kernel
theorem dX10_tellMind_86 : decode cX10_tellMind 86 = .ok (.iadd, 1) := by decide +kernel
theorem dX10_tellMind_87 : decode cX10_tellMind 87 = .ok (.invokevirtual 254, 3) := by decide +kernel
theorem dX10_tellMind_90 : decode cX10_tellMind 90 = .ok (.invokevirtual 257, 3) := by decide +kernel
theorem dX10_tellMind_93 : decode cX10_tellMind 93 = .ok (.ireturn, 1) := by decide +kernel
theorem dX10_tellMind_94 : decode cX10_tellMind 94 = .ok (.aload_n 0, 1) := by decide +kernel
theorem dX10_tellMind_95 : decode cX10_tellMind 95 = .ok (.getfield 40, 3) := by decide +kernel
theorem dX10_tellMind_98 : decode cX10_tellMind 98 = .ok (.iload_n 2, 1) := by decide +kernel
theorem dX10_tellMind_99 : decode cX10_tellMind 99 = .ok (.iload_n 3, 1) := by decide +kernel
theorem dX10_tellMind_100 : decode cX10_tellMind 100 = .ok (.aload_n 0, 1) := by decide +kernel
theorem dX10_tellMind_101 : decode cX10_tellMind 101 = .ok (.getfield 49, 3) := by decide +kernel
theorem dX10_tellMind_104 : decode cX10_tellMind 104 = .ok (.iload_n 1, 1) := by decide +kernel
theorem dX10_tellMind_105 : decode cX10_tellMind 105 = .ok (.iconst 3, 1) := by decide +kernel
theorem dX10_tellMind_106 : decode cX10_tellMind 106 = .ok (.iadd, 1) := by decide +kernel
theorem dX10_tellMind_107 : decode cX10_tellMind 107 = .ok (.invokevirtual 254, 3) := by decide +kernel
theorem dX10_tellMind_110 : decode cX10_tellMind 110 = .ok (.invokevirtual 261, 3) := by decide +kernel
theorem dX10_tellMind_113 : decode cX10_tellMind 113 = .ok (.ireturn, 1) := by decide +kernel
theorem dX10_tellMind_114 : decode cX10_tellMind 114 = .ok (.aload_n 0, 1) := by decide +kernel
theorem dX10_tellMind_115 : decode cX10_tellMind 115 = .ok (.getfield 40, 3) := by decide +kernel
theorem dX10_tellMind_118 : decode cX10_tellMind 118 = .ok (.iload_n 2, 1) := by decide +kernel
theorem dX10_tellMind_119 : decode cX10_tellMind 119 = .ok (.iload_n 3, 1) := by decide +kernel
theorem dX10_tellMind_120 : decode cX10_tellMind 120 = .ok (.invokevirtual 265, 3) := by decide +kernel
theorem dX10_tellMind_123 : decode cX10_tellMind 123 = .ok (.ireturn, 1) := by decide +kernel
theorem dX10_tellMind_124 : decode cX10_tellMind 124 = .ok (.aload_n 0, 1) := by decide +kernel
theorem dX10_tellMind_125 : decode cX10_tellMind 125 = .ok (.getfield 40, 3) := by decide +kernel
theorem dX10_tellMind_128 : decode cX10_tellMind 128 = .ok (.iload_n 2, 1) := by decide +kernel
theorem dX10_tellMind_129 : decode cX10_tellMind 129 = .ok (.iload_n 3, 1) := by decide +kernel
theorem dX10_tellMind_130 : decode cX10_tellMind 130 = .ok (.invokevirtual 268, 3) := by decide +kernel
theorem dX10_tellMind_133 : decode cX10_tellMind 133 = .ok (.ireturn, 1) := by decide +kernel
