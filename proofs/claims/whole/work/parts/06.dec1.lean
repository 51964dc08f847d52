theorem dX0_init_0 : decode cX0_init 0 = .ok (.aload_n 0, 1) := by decide +kernel
theorem dX0_init_1 : decode cX0_init 1 = .ok (.invokespecial 1, 3) := by decide +kernel
theorem dX0_init_4 : decode cX0_init 4 = .ok (.return_, 1) := by decide +kernel
theorem dX0_rate_0 : decode cX0_rate 0 = .ok (.aload_n 0, 1) := by decide +kernel
theorem dX0_rate_1 : decode cX0_rate 1 = .ok (.iload_n 1, 1) := by decide +kernel
theorem dX0_rate_2 : decode cX0_rate 2 = .ok (.iload_n 2, 1) := by decide +kernel
theorem dX0_rate_3 : decode cX0_rate 3 = .ok (.invokespecial 7, 3) := by decide +kernel
theorem dX0_rate_6 : decode cX0_rate 6 = .ok (.iconst 1, 1) := by decide +kernel
theorem dX0_rate_7 : decode cX0_rate 7 = .ok (.isub, 1) := by decide +kernel
theorem dX0_rate_8 : decode cX0_rate 8 = .ok (.ireturn, 1) := by decide +kernel
theorem dX0_drips_0 : decode cX0_drips 0 = .ok (.iconst 0, 1) := by decide +kernel
theorem dX0_drips_1 : decode cX0_drips 1 = .ok (.ireturn, 1) := by decide +kernel
theorem dX0_worthOfClean_0 : decode cX0_worthOfClean 0 = .ok (.iconst 2, 1) := by decide +kernel
theorem dX0_worthOfClean_1 : decode cX0_worthOfClean 1 = .ok (.iload_n 1, 1) := by decide +kernel
theorem dX0_worthOfClean_2 : decode cX0_worthOfClean 2 = .ok (.imul, 1) := by decide +kernel
theorem dX0_worthOfClean_3 : decode cX0_worthOfClean 3 = .ok (.ireturn, 1) := by decide +kernel
theorem dX1_init_0 : decode cX1_init 0 = .ok (.aload_n 0, 1) := by decide +kernel
theorem dX1_init_1 : decode cX1_init 1 = .ok (.invokespecial 1, 3) := by decide +kernel
theorem dX1_init_4 : decode cX1_init 4 = .ok (.return_, 1) := by decide +kernel
theorem dX1_become_0 : decode cX1_become 0 = .ok (.aload_n 0, 1) := by decide +kernel
theorem dX1_become_1 : decode cX1_become 1 = .ok (.aload_n 1, 1) := by decide +kernel
theorem dX1_become_2 : decode cX1_become 2 = .ok (.getfield 7, 3) := by decide +kernel
theorem dX1_become_5 : decode cX1_become 5 = .ok (.putfield 7, 3) := by decide +kernel
theorem dX1_become_8 : decode cX1_become 8 = .ok (.aload_n 0, 1) := by decide +kernel
theorem dX1_become_9 : decode cX1_become 9 = .ok (.aload_n 1, 1) := by decide +kernel
theorem dX1_become_10 : decode cX1_become 10 = .ok (.getfield 13, 3) := by decide +kernel
theorem dX1_become_13 : decode cX1_become 13 = .ok (.putfield 13, 3) := by decide +kernel
theorem dX1_become_16 : decode cX1_become 16 = .ok (.aload_n 0, 1) := by decide +kernel
theorem dX1_become_17 : decode cX1_become 17 = .ok (.aload_n 1, 1) := by decide +kernel
theorem dX1_become_18 : decode cX1_become 18 = .ok (.getfield 16, 3) := by decide +kernel
theorem dX1_become_21 : decode cX1_become 21 = .ok (.putfield 16, 3) := by decide +kernel
theorem dX1_become_24 : decode cX1_become 24 = .ok (.aload_n 0, 1) := by decide +kernel
theorem dX1_become_25 : decode cX1_become 25 = .ok (.aload_n 1, 1) := by decide +kernel
theorem dX1_become_26 : decode cX1_become 26 = .ok (.getfield 19, 3) := by decide +kernel
theorem dX1_become_29 : decode cX1_become 29 = .ok (.putfield 19, 3) := by decide +kernel
theorem dX1_become_32 : decode cX1_become 32 = .ok (.aload_n 0, 1) := by decide +kernel
theorem dX1_become_33 : decode cX1_become 33 = .ok (.aload_n 1, 1) := by decide +kernel
theorem dX1_become_34 : decode cX1_become 34 = .ok (.getfield 22, 3) := by decide +kernel
theorem dX1_become_37 : decode cX1_become 37 = .ok (.putfield 22, 3) := by decide +kernel
theorem dX1_become_40 : decode cX1_become 40 = .ok (.aload_n 0, 1) := by decide +kernel
theorem dX1_become_41 : decode cX1_become 41 = .ok (.aload_n 1, 1) := by decide +kernel
theorem dX1_become_42 : decode cX1_become 42 = .ok (.getfield 25, 3) := by decide +kernel
theorem dX1_become_45 : decode cX1_become 45 = .ok (.putfield 25, 3) := by decide +kernel
theorem dX1_become_48 : decode cX1_become 48 = .ok (.return_, 1) := by decide +kernel
theorem dX2_init_0 : decode cX2_init 0 = .ok (.aload_n 0, 1) := by decide +kernel
theorem dX2_init_1 : decode cX2_init 1 = .ok (.invokespecial 1, 3) := by decide +kernel
theorem dX2_init_4 : decode cX2_init 4 = .ok (.return_, 1) := by decide +kernel
theorem dX2_rate_0 : decode cX2_rate 0 = .ok (.iconst 2, 1) := by decide +kernel
theorem dX2_rate_1 : decode cX2_rate 1 = .ok (.aload_n 0, 1) := by decide +kernel
theorem dX2_rate_2 : decode cX2_rate 2 = .ok (.iload_n 1, 1) := by decide +kernel
theorem dX2_rate_3 : decode cX2_rate 3 = .ok (.iload_n 2, 1) := by decide +kernel
theorem dX2_rate_4 : decode cX2_rate 4 = .ok (.invokespecial 7, 3) := by decide +kernel
theorem dX2_rate_7 : decode cX2_rate 7 = .ok (.imul, 1) := by decide +kernel
theorem dX2_rate_8 : decode cX2_rate 8 = .ok (.ireturn, 1) := by decide +kernel
theorem dX2_drips_0 : decode cX2_drips 0 = .ok (.iload_n 1, 1) := by decide +kernel
theorem dX2_drips_1 : decode cX2_drips 1 = .ok (.iconst 2, 1) := by decide +kernel
theorem dX2_drips_2 : decode cX2_drips 2 = .ok (.idiv, 1) := by decide +kernel
theorem dX2_drips_3 : decode cX2_drips 3 = .ok (.ireturn, 1) := by decide +kernel
theorem dX2_worthOfClean_0 : decode cX2_worthOfClean 0 = .ok (.iload_n 1, 1) := by decide +kernel
theorem dX2_worthOfClean_1 : decode cX2_worthOfClean 1 = .ok (.iconst 2, 1) := by decide +kernel
theorem dX2_worthOfClean_2 : decode cX2_worthOfClean 2 = .ok (.idiv, 1) := by decide +kernel
theorem dX2_worthOfClean_3 : decode cX2_worthOfClean 3 = .ok (.ireturn, 1) := by decide +kernel
theorem dX3_init_0 : decode cX3_init 0 = .ok (.aload_n 0, 1) := by decide +kernel
theorem dX3_init_1 : decode cX3_init 1 = .ok (.invokespecial 1, 3) := by decide +kernel
theorem dX3_init_4 : decode cX3_init 4 = .ok (.return_, 1) := by decide +kernel
theorem dX3_rate_0 : decode cX3_rate 0 = .ok (.aload_n 0, 1) := by decide +kernel
theorem dX3_rate_1 : decode cX3_rate 1 = .ok (.iload_n 1, 1) := by decide +kernel
theorem dX3_rate_2 : decode cX3_rate 2 = .ok (.iload_n 2, 1) := by decide +kernel
theorem dX3_rate_3 : decode cX3_rate 3 = .ok (.invokespecial 7, 3) := by decide +kernel
theorem dX3_rate_6 : decode cX3_rate 6 = .ok (.iload_n 2, 1) := by decide +kernel
theorem dX3_rate_7 : decode cX3_rate 7 = .ok (.iadd, 1) := by decide +kernel
theorem dX3_rate_8 : decode cX3_rate 8 = .ok (.ireturn, 1) := by decide +kernel
theorem dX3_drips_0 : decode cX3_drips 0 = .ok (.iload_n 1, 1) := by decide +kernel
theorem dX3_drips_1 : decode cX3_drips 1 = .ok (.iconst 2, 1) := by decide +kernel
theorem dX3_drips_2 : decode cX3_drips 2 = .ok (.aload_n 0, 1) := by decide +kernel
theorem dX3_drips_3 : decode cX3_drips 3 = .ok (.iload_n 1, 1) := by decide +kernel
theorem dX3_drips_4 : decode cX3_drips 4 = .ok (.iload_n 2, 1) := by decide +kernel
theorem dX3_drips_5 : decode cX3_drips 5 = .ok (.iload_n 3, 1) := by decide +kernel
theorem dX3_drips_6 : decode cX3_drips 6 = .ok (.invokespecial 11, 3) := by decide +kernel
theorem dX3_drips_9 : decode cX3_drips 9 = .ok (.imul, 1) := by decide +kernel
theorem dX3_drips_10 : decode cX3_drips 10 = .ok (.invokestatic 15, 3) := by decide +kernel
theorem dX3_drips_13 : decode cX3_drips 13 = .ok (.ireturn, 1) := by decide +kernel
theorem dX4_init_0 : decode cX4_init 0 = .ok (.aload_n 0, 1) := by decide +kernel
theorem dX4_init_1 : decode cX4_init 1 = .ok (.invokespecial 3, 3) := by decide +kernel
theorem dX4_init_4 : decode cX4_init 4 = .ok (.aload_n 0, 1) := by decide +kernel
theorem dX4_init_5 : decode cX4_init 5 = .ok (.aload_n 1, 1) := by decide +kernel
theorem dX4_init_6 : decode cX4_init 6 = .ok (.putfield 9, 3) := by decide +kernel
theorem dX4_init_9 : decode cX4_init 9 = .ok (.aload_n 0, 1) := by decide +kernel
theorem dX4_init_10 : decode cX4_init 10 = .ok (.bipush 6, 2) := by decide +kernel
theorem dX4_init_12 : decode cX4_init 12 = .ok (.anewarray 15, 3) := by decide +kernel
theorem dX4_init_15 : decode cX4_init 15 = .ok (.putfield 17, 3) := by decide +kernel
theorem dX4_init_18 : decode cX4_init 18 = .ok (.iconst 0, 1) := by decide +kernel
theorem dX4_init_19 : decode cX4_init 19 = .ok (.istore_n 2, 1) := by decide +kernel
theorem dX4_init_20 : decode cX4_init 20 = .ok (.iload_n 2, 1) := by decide +kernel
theorem dX4_init_21 : decode cX4_init 21 = .ok (.bipush 6, 2) := by decide +kernel
theorem dX4_init_23 : decode cX4_init 23 = .ok (.if_icmp .ge 22, 3) := by decide +kernel
theorem dX4_init_26 : decode cX4_init 26 = .ok (.aload_n 0, 1) := by decide +kernel
theorem dX4_init_27 : decode cX4_init 27 = .ok (.getfield 17, 3) := by decide +kernel
theorem dX4_init_30 : decode cX4_init 30 = .ok (.iload_n 2, 1) := by decide +kernel
theorem dX4_init_31 : decode cX4_init 31 = .ok (.new 15, 3) := by decide +kernel
theorem dX4_init_34 : decode cX4_init 34 = .ok (.dup, 1) := by decide +kernel
theorem dX4_init_35 : decode cX4_init 35 = .ok (.invokespecial 21, 3) := by decide +kernel
theorem dX4_init_38 : decode cX4_init 38 = .ok (.aastore, 1) := by decide +kernel
theorem dX4_init_39 : decode cX4_init 39 = .ok (.iinc 2 1, 3) := by decide +kernel
theorem dX4_init_42 : decode cX4_init 42 = .ok (.goto (-22), 3) := by decide +kernel
theorem dX4_init_45 : decode cX4_init 45 = .ok (.aload_n 0, 1) := by decide +kernel
theorem dX4_init_46 : decode cX4_init 46 = .ok (.iconst 4, 1) := by decide +kernel
theorem dX4_init_47 : decode cX4_init 47 = .ok (.newarray .int, 2) := by decide +kernel
theorem dX4_init_49 : decode cX4_init 49 = .ok (.putfield 22, 3) := by decide +kernel
theorem dX4_init_52 : decode cX4_init 52 = .ok (.aload_n 0, 1) := by decide +kernel
theorem dX4_init_53 : decode cX4_init 53 = .ok (.bipush 16, 2) := by decide +kernel
theorem dX4_init_55 : decode cX4_init 55 = .ok (.newarray .int, 2) := by decide +kernel
theorem dX4_init_57 : decode cX4_init 57 = .ok (.putfield 26, 3) := by decide +kernel
theorem dX4_init_60 : decode cX4_init 60 = .ok (.return_, 1) := by decide +kernel
theorem dX4_become_0 : decode cX4_become 0 = .ok (.aload_n 0, 1) := by decide +kernel
theorem dX4_become_1 : decode cX4_become 1 = .ok (.aload_n 1, 1) := by decide +kernel
theorem dX4_become_2 : decode cX4_become 2 = .ok (.getfield 29, 3) := by decide +kernel
theorem dX4_become_5 : decode cX4_become 5 = .ok (.putfield 29, 3) := by decide +kernel
theorem dX4_become_8 : decode cX4_become 8 = .ok (.iconst 0, 1) := by decide +kernel
theorem dX4_become_9 : decode cX4_become 9 = .ok (.istore_n 2, 1) := by decide +kernel
theorem dX4_become_10 : decode cX4_become 10 = .ok (.iload_n 2, 1) := by decide +kernel
theorem dX4_become_11 : decode cX4_become 11 = .ok (.aload_n 0, 1) := by decide +kernel
theorem dX4_become_12 : decode cX4_become 12 = .ok (.getfield 29, 3) := by decide +kernel
theorem dX4_become_15 : decode cX4_become 15 = .ok (.if_icmp .ge 24, 3) := by decide +kernel
theorem dX4_become_18 : decode cX4_become 18 = .ok (.aload_n 0, 1) := by decide +kernel
theorem dX4_become_19 : decode cX4_become 19 = .ok (.getfield 17, 3) := by decide +kernel
theorem dX4_become_22 : decode cX4_become 22 = .ok (.iload_n 2, 1) := by decide +kernel
theorem dX4_become_23 : decode cX4_become 23 = .ok (.aaload, 1) := by decide +kernel
theorem dX4_become_24 : decode cX4_become 24 = .ok (.aload_n 1, 1) := by decide +kernel
theorem dX4_become_25 : decode cX4_become 25 = .ok (.getfield 17, 3) := by decide +kernel
theorem dX4_become_28 : decode cX4_become 28 = .ok (.iload_n 2, 1) := by decide +kernel
theorem dX4_become_29 : decode cX4_become 29 = .ok (.aaload, 1) := by decide +kernel
theorem dX4_become_30 : decode cX4_become 30 = .ok (.invokevirtual 33, 3) := by decide +kernel
theorem dX4_become_33 : decode cX4_become 33 = .ok (.iinc 2 1, 3) := by decide +kernel
theorem dX4_become_36 : decode cX4_become 36 = .ok (.goto (-26), 3) := by decide +kernel
theorem dX4_become_39 : decode cX4_become 39 = .ok (.aload_n 1, 1) := by decide +kernel
theorem dX4_become_40 : decode cX4_become 40 = .ok (.getfield 22, 3) := by decide +kernel
theorem dX4_become_43 : decode cX4_become 43 = .ok (.iconst 0, 1) := by decide +kernel
theorem dX4_become_44 : decode cX4_become 44 = .ok (.aload_n 0, 1) := by decide +kernel
theorem dX4_become_45 : decode cX4_become 45 = .ok (.getfield 22, 3) := by decide +kernel
theorem dX4_become_48 : decode cX4_become 48 = .ok (.iconst 0, 1) := by decide +kernel
theorem dX4_become_49 : decode cX4_become 49 = .ok (.iconst 4, 1) := by decide +kernel
theorem dX4_become_50 : decode cX4_become 50 = .ok (.invokestatic 37, 3) := by decide +kernel
theorem dX4_become_53 : decode cX4_become 53 = .ok (.aload_n 1, 1) := by decide +kernel
theorem dX4_become_54 : decode cX4_become 54 = .ok (.getfield 26, 3) := by decide +kernel
theorem dX4_become_57 : decode cX4_become 57 = .ok (.iconst 0, 1) := by decide +kernel
theorem dX4_become_58 : decode cX4_become 58 = .ok (.aload_n 0, 1) := by decide +kernel
theorem dX4_become_59 : decode cX4_become 59 = .ok (.getfield 26, 3) := by decide +kernel
theorem dX4_become_62 : decode cX4_become 62 = .ok (.iconst 0, 1) := by decide +kernel
theorem dX4_become_63 : decode cX4_become 63 = .ok (.bipush 16, 2) := by decide +kernel
theorem dX4_become_65 : decode cX4_become 65 = .ok (.invokestatic 37, 3) := by decide +kernel
theorem dX4_become_68 : decode cX4_become 68 = .ok (.aload_n 0, 1) := by decide +kernel
theorem dX4_become_69 : decode cX4_become 69 = .ok (.aload_n 1, 1) := by decide +kernel
theorem dX4_become_70 : decode cX4_become 70 = .ok (.getfield 43, 3) := by decide +kernel
theorem dX4_become_73 : decode cX4_become 73 = .ok (.putfield 43, 3) := by decide +kernel
theorem dX4_become_76 : decode cX4_become 76 = .ok (.aload_n 0, 1) := by decide +kernel
theorem dX4_become_77 : decode cX4_become 77 = .ok (.aload_n 1, 1) := by decide +kernel
theorem dX4_become_78 : decode cX4_become 78 = .ok (.getfield 46, 3) := by decide +kernel
theorem dX4_become_81 : decode cX4_become 81 = .ok (.putfield 46, 3) := by decide +kernel
theorem dX4_become_84 : decode cX4_become 84 = .ok (.aload_n 0, 1) := by decide +kernel
theorem dX4_become_85 : decode cX4_become 85 = .ok (.aload_n 1, 1) := by decide +kernel
theorem dX4_become_86 : decode cX4_become 86 = .ok (.getfield 49, 3) := by decide +kernel
theorem dX4_become_89 : decode cX4_become 89 = .ok (.putfield 49, 3) := by decide +kernel
theorem dX4_become_92 : decode cX4_become 92 = .ok (.aload_n 0, 1) := by decide +kernel
theorem dX4_become_93 : decode cX4_become 93 = .ok (.aload_n 1, 1) := by decide +kernel
theorem dX4_become_94 : decode cX4_become 94 = .ok (.getfield 52, 3) := by decide +kernel
theorem dX4_become_97 : decode cX4_become 97 = .ok (.putfield 52, 3) := by decide +kernel
theorem dX4_become_100 : decode cX4_become 100 = .ok (.return_, 1) := by decide +kernel
theorem dX4_burnsOf_0 : decode cX4_burnsOf 0 = .ok (.aload_n 0, 1) := by decide +kernel
theorem dX4_burnsOf_1 : decode cX4_burnsOf 1 = .ok (.getfield 9, 3) := by decide +kernel
theorem dX4_burnsOf_4 : decode cX4_burnsOf 4 = .ok (.aload_n 1, 1) := by decide +kernel
theorem dX4_burnsOf_5 : decode cX4_burnsOf 5 = .ok (.getfield 55, 3) := by decide +kernel
theorem dX4_burnsOf_8 : decode cX4_burnsOf 8 = .ok (.aaload, 1) := by decide +kernel
theorem dX4_burnsOf_9 : decode cX4_burnsOf 9 = .ok (.aload_n 1, 1) := by decide +kernel
theorem dX4_burnsOf_10 : decode cX4_burnsOf 10 = .ok (.getfield 58, 3) := by decide +kernel
theorem dX4_burnsOf_13 : decode cX4_burnsOf 13 = .ok (.aload_n 0, 1) := by decide +kernel
theorem dX4_burnsOf_14 : decode cX4_burnsOf 14 = .ok (.getfield 22, 3) := by decide +kernel
theorem dX4_burnsOf_17 : decode cX4_burnsOf 17 = .ok (.aload_n 1, 1) := by decide +kernel
theorem dX4_burnsOf_18 : decode cX4_burnsOf 18 = .ok (.getfield 61, 3) := by decide +kernel
theorem dX4_burnsOf_21 : decode cX4_burnsOf 21 = .ok (.iaload, 1) := by decide +kernel
theorem dX4_burnsOf_22 : decode cX4_burnsOf 22 = .ok (.invokevirtual 64, 3) := by decide +kernel
theorem dX4_burnsOf_25 : decode cX4_burnsOf 25 = .ok (.aload_n 1, 1) := by decide +kernel
theorem dX4_burnsOf_26 : decode cX4_burnsOf 26 = .ok (.getfield 70, 3) := by decide +kernel
theorem dX4_burnsOf_29 : decode cX4_burnsOf 29 = .ok (.invokestatic 73, 3) := by decide +kernel
theorem dX4_burnsOf_32 : decode cX4_burnsOf 32 = .ok (.ireturn, 1) := by decide +kernel
theorem dX4_dripsOf_0 : decode cX4_dripsOf 0 = .ok (.aload_n 0, 1) := by decide +kernel
theorem dX4_dripsOf_1 : decode cX4_dripsOf 1 = .ok (.getfield 9, 3) := by decide +kernel
theorem dX4_dripsOf_4 : decode cX4_dripsOf 4 = .ok (.aload_n 1, 1) := by decide +kernel
theorem dX4_dripsOf_5 : decode cX4_dripsOf 5 = .ok (.getfield 55, 3) := by decide +kernel
theorem dX4_dripsOf_8 : decode cX4_dripsOf 8 = .ok (.aaload, 1) := by decide +kernel
theorem dX4_dripsOf_9 : decode cX4_dripsOf 9 = .ok (.aload_n 0, 1) := by decide +kernel
theorem dX4_dripsOf_10 : decode cX4_dripsOf 10 = .ok (.aload_n 1, 1) := by decide +kernel
theorem dX4_dripsOf_11 : decode cX4_dripsOf 11 = .ok (.invokevirtual 78, 3) := by decide +kernel
theorem dX4_dripsOf_14 : decode cX4_dripsOf 14 = .ok (.aload_n 1, 1) := by decide +kernel
theorem dX4_dripsOf_15 : decode cX4_dripsOf 15 = .ok (.getfield 58, 3) := by decide +kernel
theorem dX4_dripsOf_18 : decode cX4_dripsOf 18 = .ok (.aload_n 0, 1) := by decide +kernel
theorem dX4_dripsOf_19 : decode cX4_dripsOf 19 = .ok (.getfield 22, 3) := by decide +kernel
theorem dX4_dripsOf_22 : decode cX4_dripsOf 22 = .ok (.aload_n 1, 1) := by decide +kernel
theorem dX4_dripsOf_23 : decode cX4_dripsOf 23 = .ok (.getfield 61, 3) := by decide +kernel
theorem dX4_dripsOf_26 : decode cX4_dripsOf 26 = .ok (.iaload, 1) := by decide +kernel
theorem dX4_dripsOf_27 : decode cX4_dripsOf 27 = .ok (.invokevirtual 82, 3) := by decide +kernel
theorem dX4_dripsOf_30 : decode cX4_dripsOf 30 = .ok (.ireturn, 1) := by decide +kernel
theorem dX4_worthOf_0 : decode cX4_worthOf 0 = .ok (.aload_n 0, 1) := by decide +kernel
theorem dX4_worthOf_1 : decode cX4_worthOf 1 = .ok (.getfield 9, 3) := by decide +kernel
theorem dX4_worthOf_4 : decode cX4_worthOf 4 = .ok (.aload_n 1, 1) := by decide +kernel
theorem dX4_worthOf_5 : decode cX4_worthOf 5 = .ok (.getfield 55, 3) := by decide +kernel
theorem dX4_worthOf_8 : decode cX4_worthOf 8 = .ok (.aaload, 1) := by decide +kernel
theorem dX4_worthOf_9 : decode cX4_worthOf 9 = .ok (.aload_n 0, 1) := by decide +kernel
theorem dX4_worthOf_10 : decode cX4_worthOf 10 = .ok (.aload_n 1, 1) := by decide +kernel
theorem dX4_worthOf_11 : decode cX4_worthOf 11 = .ok (.invokevirtual 78, 3) := by decide +kernel
theorem dX4_worthOf_14 : decode cX4_worthOf 14 = .ok (.aload_n 1, 1) := by decide +kernel
theorem dX4_worthOf_15 : decode cX4_worthOf 15 = .ok (.getfield 58, 3) := by decide +kernel
theorem dX4_worthOf_18 : decode cX4_worthOf 18 = .ok (.aload_n 0, 1) := by decide +kernel
theorem dX4_worthOf_19 : decode cX4_worthOf 19 = .ok (.getfield 22, 3) := by decide +kernel
theorem dX4_worthOf_22 : decode cX4_worthOf 22 = .ok (.aload_n 1, 1) := by decide +kernel
theorem dX4_worthOf_23 : decode cX4_worthOf 23 = .ok (.getfield 61, 3) := by decide +kernel
theorem dX4_worthOf_26 : decode cX4_worthOf 26 = .ok (.iaload, 1) := by decide +kernel
theorem dX4_worthOf_27 : decode cX4_worthOf 27 = .ok (.invokevirtual 86, 3) := by decide +kernel
theorem dX4_worthOf_30 : decode cX4_worthOf 30 = .ok (.ireturn, 1) := by decide +kernel
theorem dX4_passMinute_0 : decode cX4_passMinute 0 = .ok (.iconst 0, 1) := by decide +kernel
theorem dX4_passMinute_1 : decode cX4_passMinute 1 = .ok (.istore_n 1, 1) := by decide +kernel
theorem dX4_passMinute_2 : decode cX4_passMinute 2 = .ok (.iload_n 1, 1) := by decide +kernel
theorem dX4_passMinute_3 : decode cX4_passMinute 3 = .ok (.aload_n 0, 1) := by decide +kernel
theorem dX4_passMinute_4 : decode cX4_passMinute 4 = .ok (.getfield 29, 3) := by decide +kernel
theorem dX4_passMinute_7 : decode cX4_passMinute 7 = .ok (.if_icmp .ge 31, 3) := by decide +kernel
theorem dX4_passMinute_10 : decode cX4_passMinute 10 = .ok (.aload_n 0, 1) := by decide +kernel
theorem dX4_passMinute_11 : decode cX4_passMinute 11 = .ok (.getfield 17, 3) := by decide +kernel
theorem dX4_passMinute_14 : decode cX4_passMinute 14 = .ok (.iload_n 1, 1) := by decide +kernel
theorem dX4_passMinute_15 : decode cX4_passMinute 15 = .ok (.aaload, 1) := by decide +kernel
theorem dX4_passMinute_16 : decode cX4_passMinute 16 = .ok (.invokestatic 89, 3) := by decide +kernel
theorem dX4_passMinute_19 : decode cX4_passMinute 19 = .ok (.ifCond .eq 13, 3) := by decide +kernel
theorem dX4_passMinute_22 : decode cX4_passMinute 22 = .ok (.aload_n 0, 1) := by decide +kernel
theorem dX4_passMinute_23 : decode cX4_passMinute 23 = .ok (.aload_n 0, 1) := by decide +kernel
theorem dX4_passMinute_24 : decode cX4_passMinute 24 = .ok (.getfield 17, 3) := by decide +kernel
theorem dX4_passMinute_27 : decode cX4_passMinute 27 = .ok (.iload_n 1, 1) := by decide +kernel
theorem dX4_passMinute_28 : decode cX4_passMinute 28 = .ok (.aaload, 1) := by decide +kernel
theorem dX4_passMinute_29 : decode cX4_passMinute 29 = .ok (.invokevirtual 93, 3) := by decide +kernel
theorem dX4_passMinute_32 : decode cX4_passMinute 32 = .ok (.iinc 1 1, 3) := by decide +kernel
theorem dX4_passMinute_35 : decode cX4_passMinute 35 = .ok (.goto (-33), 3) := by decide +kernel
theorem dX4_passMinute_38 : decode cX4_passMinute 38 = .ok (.aload_n 0, 1) := by decide +kernel
theorem dX4_passMinute_39 : decode cX4_passMinute 39 = .ok (.dup, 1) := by decide +kernel
theorem dX4_passMinute_40 : decode cX4_passMinute 40 = .ok (.getfield 43, 3) := by decide +kernel
theorem dX4_passMinute_43 : decode cX4_passMinute 43 = .ok (.iconst 1, 1) := by decide +kernel
theorem dX4_passMinute_44 : decode cX4_passMinute 44 = .ok (.iadd, 1) := by decide +kernel
theorem dX4_passMinute_45 : decode cX4_passMinute 45 = .ok (.putfield 43, 3) := by decide +kernel
theorem dX4_passMinute_48 : decode cX4_passMinute 48 = .ok (.return_, 1) := by decide +kernel
theorem dX4_burnMinute_0 : decode cX4_burnMinute 0 = .ok (.aload_n 0, 1) := by decide +kernel
theorem dX4_burnMinute_1 : decode cX4_burnMinute 1 = .ok (.aload_n 1, 1) := by decide +kernel
theorem dX4_burnMinute_2 : decode cX4_burnMinute 2 = .ok (.invokevirtual 78, 3) := by decide +kernel
theorem dX4_burnMinute_5 : decode cX4_burnMinute 5 = .ok (.istore_n 2, 1) := by decide +kernel
theorem dX4_burnMinute_6 : decode cX4_burnMinute 6 = .ok (.aload_n 0, 1) := by decide +kernel
theorem dX4_burnMinute_7 : decode cX4_burnMinute 7 = .ok (.getfield 9, 3) := by decide +kernel
theorem dX4_burnMinute_10 : decode cX4_burnMinute 10 = .ok (.aload_n 1, 1) := by decide +kernel
theorem dX4_burnMinute_11 : decode cX4_burnMinute 11 = .ok (.getfield 55, 3) := by decide +kernel
theorem dX4_burnMinute_14 : decode cX4_burnMinute 14 = .ok (.aaload, 1) := by decide +kernel
theorem dX4_burnMinute_15 : decode cX4_burnMinute 15 = .ok (.iload_n 2, 1) := by decide +kernel
theorem dX4_burnMinute_16 : decode cX4_burnMinute 16 = .ok (.aload_n 1, 1) := by decide +kernel
theorem dX4_burnMinute_17 : decode cX4_burnMinute 17 = .ok (.getfield 58, 3) := by decide +kernel
theorem dX4_burnMinute_20 : decode cX4_burnMinute 20 = .ok (.aload_n 0, 1) := by decide +kernel
theorem dX4_burnMinute_21 : decode cX4_burnMinute 21 = .ok (.getfield 22, 3) := by decide +kernel
theorem dX4_burnMinute_24 : decode cX4_burnMinute 24 = .ok (.aload_n 1, 1) := by decide +kernel
theorem dX4_burnMinute_25 : decode cX4_burnMinute 25 = .ok (.getfield 61, 3) := by decide +kernel
theorem dX4_burnMinute_28 : decode cX4_burnMinute 28 = .ok (.iaload, 1) := by decide +kernel
theorem dX4_burnMinute_29 : decode cX4_burnMinute 29 = .ok (.invokevirtual 82, 3) := by decide +kernel
theorem dX4_burnMinute_32 : decode cX4_burnMinute 32 = .ok (.istore_n 3, 1) := by decide +kernel
theorem dX4_burnMinute_33 : decode cX4_burnMinute 33 = .ok (.aload_n 1, 1) := by decide +kernel
theorem dX4_burnMinute_34 : decode cX4_burnMinute 34 = .ok (.getfield 96, 3) := by decide +kernel
theorem dX4_burnMinute_37 : decode cX4_burnMinute 37 = .ok (.aload_n 1, 1) := by decide +kernel
theorem dX4_burnMinute_38 : decode cX4_burnMinute 38 = .ok (.getfield 61, 3) := by decide +kernel
theorem dX4_burnMinute_41 : decode cX4_burnMinute 41 = .ok (.invokestatic 99, 3) := by decide +kernel
theorem dX4_burnMinute_44 : decode cX4_burnMinute 44 = .ok (.istore 4, 2) := by decide +kernel
theorem dX4_burnMinute_46 : decode cX4_burnMinute 46 = .ok (.aload_n 0, 1) := by decide +kernel
theorem dX4_burnMinute_47 : decode cX4_burnMinute 47 = .ok (.getfield 26, 3) := by decide +kernel
theorem dX4_burnMinute_50 : decode cX4_burnMinute 50 = .ok (.iload 4, 2) := by decide +kernel
theorem dX4_burnMinute_52 : decode cX4_burnMinute 52 = .ok (.iaload, 1) := by decide +kernel
theorem dX4_burnMinute_53 : decode cX4_burnMinute 53 = .ok (.aload_n 0, 1) := by decide +kernel
theorem dX4_burnMinute_54 : decode cX4_burnMinute 54 = .ok (.getfield 9, 3) := by decide +kernel
theorem dX4_burnMinute_57 : decode cX4_burnMinute 57 = .ok (.aload_n 1, 1) := by decide +kernel
theorem dX4_burnMinute_58 : decode cX4_burnMinute 58 = .ok (.getfield 55, 3) := by decide +kernel
theorem dX4_burnMinute_61 : decode cX4_burnMinute 61 = .ok (.aaload, 1) := by decide +kernel
theorem dX4_burnMinute_62 : decode cX4_burnMinute 62 = .ok (.iload_n 2, 1) := by decide +kernel
theorem dX4_burnMinute_63 : decode cX4_burnMinute 63 = .ok (.iload_n 3, 1) := by decide +kernel
theorem dX4_burnMinute_64 : decode cX4_burnMinute 64 = .ok (.isub, 1) := by decide +kernel
theorem dX4_burnMinute_65 : decode cX4_burnMinute 65 = .ok (.invokevirtual 102, 3) := by decide +kernel
theorem dX4_burnMinute_68 : decode cX4_burnMinute 68 = .ok (.invokestatic 73, 3) := by decide +kernel
theorem dX4_burnMinute_71 : decode cX4_burnMinute 71 = .ok (.istore 5, 2) := by decide +kernel
theorem dX4_burnMinute_73 : decode cX4_burnMinute 73 = .ok (.aload_n 0, 1) := by decide +kernel
theorem dX4_burnMinute_74 : decode cX4_burnMinute 74 = .ok (.getfield 26, 3) := by decide +kernel
theorem dX4_burnMinute_77 : decode cX4_burnMinute 77 = .ok (.iload 4, 2) := by decide +kernel
theorem dX4_burnMinute_79 : decode cX4_burnMinute 79 = .ok (.dup2, 1) := by decide +kernel
theorem dX4_burnMinute_80 : decode cX4_burnMinute 80 = .ok (.iaload, 1) := by decide +kernel
theorem dX4_burnMinute_81 : decode cX4_burnMinute 81 = .ok (.iload 5, 2) := by decide +kernel
theorem dX4_burnMinute_83 : decode cX4_burnMinute 83 = .ok (.isub, 1) := by decide +kernel
theorem dX4_burnMinute_84 : decode cX4_burnMinute 84 = .ok (.iastore, 1) := by decide +kernel
theorem dX4_burnMinute_85 : decode cX4_burnMinute 85 = .ok (.aload_n 1, 1) := by decide +kernel
theorem dX4_burnMinute_86 : decode cX4_burnMinute 86 = .ok (.dup, 1) := by decide +kernel
theorem dX4_burnMinute_87 : decode cX4_burnMinute 87 = .ok (.getfield 70, 3) := by decide +kernel
theorem dX4_burnMinute_90 : decode cX4_burnMinute 90 = .ok (.iload_n 2, 1) := by decide +kernel
theorem dX4_burnMinute_91 : decode cX4_burnMinute 91 = .ok (.isub, 1) := by decide +kernel
theorem dX4_burnMinute_92 : decode cX4_burnMinute 92 = .ok (.putfield 70, 3) := by decide +kernel
theorem dX4_burnMinute_95 : decode cX4_burnMinute 95 = .ok (.aload_n 1, 1) := by decide +kernel
theorem dX4_burnMinute_96 : decode cX4_burnMinute 96 = .ok (.aload_n 1, 1) := by decide +kernel
theorem dX4_burnMinute_97 : decode cX4_burnMinute 97 = .ok (.getfield 70, 3) := by decide +kernel
theorem dX4_burnMinute_100 : decode cX4_burnMinute 100 = .ok (.ifCond .le 7, 3) := by decide +kernel
theorem dX4_burnMinute_103 : decode cX4_burnMinute 103 = .ok (.iconst 1, 1) := by decide +kernel
theorem dX4_burnMinute_104 : decode cX4_burnMinute 104 = .ok (.goto 4, 3) := by decide +kernel
theorem dX4_burnMinute_107 : decode cX4_burnMinute 107 = .ok (.iconst 0, 1) := by decide +kernel
theorem dX4_burnMinute_108 : decode cX4_burnMinute 108 = .ok (.putfield 106, 3) := by decide +kernel
theorem dX4_burnMinute_111 : decode cX4_burnMinute 111 = .ok (.aload_n 0, 1) := by decide +kernel
theorem dX4_burnMinute_112 : decode cX4_burnMinute 112 = .ok (.dup, 1) := by decide +kernel
theorem dX4_burnMinute_113 : decode cX4_burnMinute 113 = .ok (.getfield 46, 3) := by decide +kernel
theorem dX4_burnMinute_116 : decode cX4_burnMinute 116 = .ok (.iload_n 2, 1) := by decide +kernel
theorem dX4_burnMinute_117 : decode cX4_burnMinute 117 = .ok (.iadd, 1) := by decide +kernel
theorem dX4_burnMinute_118 : decode cX4_burnMinute 118 = .ok (.putfield 46, 3) := by decide +kernel
theorem dX4_burnMinute_121 : decode cX4_burnMinute 121 = .ok (.aload_n 0, 1) := by decide +kernel
theorem dX4_burnMinute_122 : decode cX4_burnMinute 122 = .ok (.dup, 1) := by decide +kernel
theorem dX4_burnMinute_123 : decode cX4_burnMinute 123 = .ok (.getfield 49, 3) := by decide +kernel
theorem dX4_burnMinute_126 : decode cX4_burnMinute 126 = .ok (.iload_n 3, 1) := by decide +kernel
theorem dX4_burnMinute_127 : decode cX4_burnMinute 127 = .ok (.iadd, 1) := by decide +kernel
theorem dX4_burnMinute_128 : decode cX4_burnMinute 128 = .ok (.putfield 49, 3) := by decide +kernel
theorem dX4_burnMinute_131 : decode cX4_burnMinute 131 = .ok (.aload_n 0, 1) := by decide +kernel
theorem dX4_burnMinute_132 : decode cX4_burnMinute 132 = .ok (.dup, 1) := by decide +kernel
theorem dX4_burnMinute_133 : decode cX4_burnMinute 133 = .ok (.getfield 52, 3) := by decide +kernel
theorem dX4_burnMinute_136 : decode cX4_burnMinute 136 = .ok (.iload 5, 2) := by decide +kernel
theorem dX4_burnMinute_138 : decode cX4_burnMinute 138 = .ok (.iadd, 1) := by decide +kernel
theorem dX4_burnMinute_139 : decode cX4_burnMinute 139 = .ok (.putfield 52, 3) := by decide +kernel
theorem dX4_burnMinute_142 : decode cX4_burnMinute 142 = .ok (.return_, 1) := by decide +kernel
theorem dX4_isBurning_0 : decode cX4_isBurning 0 = .ok (.aload_n 0, 1) := by decide +kernel
theorem dX4_isBurning_1 : decode cX4_isBurning 1 = .ok (.getfield 106, 3) := by decide +kernel
theorem dX4_isBurning_4 : decode cX4_isBurning 4 = .ok (.ifCond .eq 14, 3) := by decide +kernel
theorem dX4_isBurning_7 : decode cX4_isBurning 7 = .ok (.aload_n 0, 1) := by decide +kernel
theorem dX4_isBurning_8 : decode cX4_isBurning 8 = .ok (.getfield 70, 3) := by decide +kernel
theorem dX4_isBurning_11 : decode cX4_isBurning 11 = .ok (.ifCond .le 7, 3) := by decide +kernel
theorem dX4_isBurning_14 : decode cX4_isBurning 14 = .ok (.iconst 1, 1) := by decide +kernel
theorem dX4_isBurning_15 : decode cX4_isBurning 15 = .ok (.goto 4, 3) := by decide +kernel
theorem dX4_isBurning_18 : decode cX4_isBurning 18 = .ok (.iconst 0, 1) := by decide +kernel
theorem dX4_isBurning_19 : decode cX4_isBurning 19 = .ok (.ireturn, 1) := by decide +kernel
theorem dX4_isBright_0 : decode cX4_isBright 0 = .ok (.iconst 0, 1) := by decide +kernel
theorem dX4_isBright_1 : decode cX4_isBright 1 = .ok (.istore_n 2, 1) := by decide +kernel
theorem dX4_isBright_2 : decode cX4_isBright 2 = .ok (.iload_n 2, 1) := by decide +kernel
theorem dX4_isBright_3 : decode cX4_isBright 3 = .ok (.aload_n 0, 1) := by decide +kernel
theorem dX4_isBright_4 : decode cX4_isBright 4 = .ok (.getfield 29, 3) := by decide +kernel
theorem dX4_isBright_7 : decode cX4_isBright 7 = .ok (.if_icmp .ge 36, 3) := by decide +kernel
theorem dX4_isBright_10 : decode cX4_isBright 10 = .ok (.aload_n 0, 1) := by decide +kernel
theorem dX4_isBright_11 : decode cX4_isBright 11 = .ok (.getfield 17, 3) := by decide +kernel
theorem dX4_isBright_14 : decode cX4_isBright 14 = .ok (.iload_n 2, 1) := by decide +kernel
theorem dX4_isBright_15 : decode cX4_isBright 15 = .ok (.aaload, 1) := by decide +kernel
theorem dX4_isBright_16 : decode cX4_isBright 16 = .ok (.getfield 61, 3) := by decide +kernel
theorem dX4_isBright_19 : decode cX4_isBright 19 = .ok (.iload_n 1, 1) := by decide +kernel
theorem dX4_isBright_20 : decode cX4_isBright 20 = .ok (.if_icmp .ne 17, 3) := by decide +kernel
theorem dX4_isBright_23 : decode cX4_isBright 23 = .ok (.aload_n 0, 1) := by decide +kernel
theorem dX4_isBright_24 : decode cX4_isBright 24 = .ok (.getfield 17, 3) := by decide +kernel
theorem dX4_isBright_27 : decode cX4_isBright 27 = .ok (.iload_n 2, 1) := by decide +kernel
theorem dX4_isBright_28 : decode cX4_isBright 28 = .ok (.aaload, 1) := by decide +kernel
theorem dX4_isBright_29 : decode cX4_isBright 29 = .ok (.invokestatic 89, 3) := by decide +kernel
theorem dX4_isBright_32 : decode cX4_isBright 32 = .ok (.ifCond .eq 5, 3) := by decide +kernel
theorem dX4_isBright_35 : decode cX4_isBright 35 = .ok (.iconst 1, 1) := by decide +kernel
theorem dX4_isBright_36 : decode cX4_isBright 36 = .ok (.ireturn, 1) := by decide +kernel
theorem dX4_isBright_37 : decode cX4_isBright 37 = .ok (.iinc 2 1, 3) := by decide +kernel
theorem dX4_isBright_40 : decode cX4_isBright 40 = .ok (.goto (-38), 3) := by decide +kernel
theorem dX4_isBright_43 : decode cX4_isBright 43 = .ok (.iconst 0, 1) := by decide +kernel
theorem dX4_isBright_44 : decode cX4_isBright 44 = .ok (.ireturn, 1) := by decide +kernel
theorem dX4_litCandles_0 : decode cX4_litCandles 0 = .ok (.iconst 0, 1) := by decide +kernel
theorem dX4_litCandles_1 : decode cX4_litCandles 1 = .ok (.istore_n 1, 1) := by decide +kernel
theorem dX4_litCandles_2 : decode cX4_litCandles 2 = .ok (.iconst 0, 1) := by decide +kernel
theorem dX4_litCandles_3 : decode cX4_litCandles 3 = .ok (.istore_n 2, 1) := by decide +kernel
theorem dX4_litCandles_4 : decode cX4_litCandles 4 = .ok (.iload_n 2, 1) := by decide +kernel
theorem dX4_litCandles_5 : decode cX4_litCandles 5 = .ok (.aload_n 0, 1) := by decide +kernel
theorem dX4_litCandles_6 : decode cX4_litCandles 6 = .ok (.getfield 29, 3) := by decide +kernel
theorem dX4_litCandles_9 : decode cX4_litCandles 9 = .ok (.if_icmp .ge 29, 3) := by decide +kernel
theorem dX4_litCandles_12 : decode cX4_litCandles 12 = .ok (.iload_n 1, 1) := by decide +kernel
theorem dX4_litCandles_13 : decode cX4_litCandles 13 = .ok (.aload_n 0, 1) := by decide +kernel
theorem dX4_litCandles_14 : decode cX4_litCandles 14 = .ok (.getfield 17, 3) := by decide +kernel
theorem dX4_litCandles_17 : decode cX4_litCandles 17 = .ok (.iload_n 2, 1) := by decide +kernel
theorem dX4_litCandles_18 : decode cX4_litCandles 18 = .ok (.aaload, 1) := by decide +kernel
theorem dX4_litCandles_19 : decode cX4_litCandles 19 = .ok (.getfield 106, 3) := by decide +kernel
theorem dX4_litCandles_22 : decode cX4_litCandles 22 = .ok (.ifCond .eq 7, 3) := by decide +kernel
theorem dX4_litCandles_25 : decode cX4_litCandles 25 = .ok (.iconst 1, 1) := by decide +kernel
theorem dX4_litCandles_26 : decode cX4_litCandles 26 = .ok (.goto 4, 3) := by decide +kernel
theorem dX4_litCandles_29 : decode cX4_litCandles 29 = .ok (.iconst 0, 1) := by decide +kernel
theorem dX4_litCandles_30 : decode cX4_litCandles 30 = .ok (.iadd, 1) := by decide +kernel
theorem dX4_litCandles_31 : decode cX4_litCandles 31 = .ok (.istore_n 1, 1) := by decide +kernel
theorem dX4_litCandles_32 : decode cX4_litCandles 32 = .ok (.iinc 2 1, 3) := by decide +kernel
theorem dX4_litCandles_35 : decode cX4_litCandles 35 = .ok (.goto (-31), 3) := by decide +kernel
theorem dX4_litCandles_38 : decode cX4_litCandles 38 = .ok (.iload_n 1, 1) := by decide +kernel
theorem dX4_litCandles_39 : decode cX4_litCandles 39 = .ok (.ireturn, 1) := by decide +kernel
theorem dX4_allGrains_0 : decode cX4_allGrains 0 = .ok (.iconst 0, 1) := by decide +kernel
theorem dX4_allGrains_1 : decode cX4_allGrains 1 = .ok (.istore_n 1, 1) := by decide +kernel
theorem dX4_allGrains_2 : decode cX4_allGrains 2 = .ok (.iconst 0, 1) := by decide +kernel
theorem dX4_allGrains_3 : decode cX4_allGrains 3 = .ok (.istore_n 2, 1) := by decide +kernel
theorem dX4_allGrains_4 : decode cX4_allGrains 4 = .ok (.iload_n 2, 1) := by decide +kernel
theorem dX4_allGrains_5 : decode cX4_allGrains 5 = .ok (.aload_n 0, 1) := by decide +kernel
theorem dX4_allGrains_6 : decode cX4_allGrains 6 = .ok (.getfield 29, 3) := by decide +kernel
theorem dX4_allGrains_9 : decode cX4_allGrains 9 = .ok (.if_icmp .ge 21, 3) := by decide +kernel
theorem dX4_allGrains_12 : decode cX4_allGrains 12 = .ok (.iload_n 1, 1) := by decide +kernel
theorem dX4_allGrains_13 : decode cX4_allGrains 13 = .ok (.aload_n 0, 1) := by decide +kernel
theorem dX4_allGrains_14 : decode cX4_allGrains 14 = .ok (.getfield 17, 3) := by decide +kernel
theorem dX4_allGrains_17 : decode cX4_allGrains 17 = .ok (.iload_n 2, 1) := by decide +kernel
theorem dX4_allGrains_18 : decode cX4_allGrains 18 = .ok (.aaload, 1) := by decide +kernel
theorem dX4_allGrains_19 : decode cX4_allGrains 19 = .ok (.getfield 70, 3) := by decide +kernel
theorem dX4_allGrains_22 : decode cX4_allGrains 22 = .ok (.iadd, 1) := by decide +kernel
theorem dX4_allGrains_23 : decode cX4_allGrains 23 = .ok (.istore_n 1, 1) := by decide +kernel
theorem dX4_allGrains_24 : decode cX4_allGrains 24 = .ok (.iinc 2 1, 3) := by decide +kernel
theorem dX4_allGrains_27 : decode cX4_allGrains 27 = .ok (.goto (-23), 3) := by decide +kernel
theorem dX4_allGrains_30 : decode cX4_allGrains 30 = .ok (.iload_n 1, 1) := by decide +kernel
theorem dX4_allGrains_31 : decode cX4_allGrains 31 = .ok (.ireturn, 1) := by decide +kernel
theorem dX4_allDebts_0 : decode cX4_allDebts 0 = .ok (.iconst 0, 1) := by decide +kernel
theorem dX4_allDebts_1 : decode cX4_allDebts 1 = .ok (.istore_n 1, 1) := by decide +kernel
theorem dX4_allDebts_2 : decode cX4_allDebts 2 = .ok (.iconst 0, 1) := by decide +kernel
theorem dX4_allDebts_3 : decode cX4_allDebts 3 = .ok (.istore_n 2, 1) := by decide +kernel
theorem dX4_allDebts_4 : decode cX4_allDebts 4 = .ok (.iload_n 2, 1) := by decide +kernel
theorem dX4_allDebts_5 : decode cX4_allDebts 5 = .ok (.aload_n 0, 1) := by decide +kernel
theorem dX4_allDebts_6 : decode cX4_allDebts 6 = .ok (.getfield 26, 3) := by decide +kernel
theorem dX4_allDebts_9 : decode cX4_allDebts 9 = .ok (.arraylength, 1) := by decide +kernel
theorem dX4_allDebts_10 : decode cX4_allDebts 10 = .ok (.if_icmp .ge 18, 3) := by decide +kernel
theorem dX4_allDebts_13 : decode cX4_allDebts 13 = .ok (.iload_n 1, 1) := by decide +kernel
theorem dX4_allDebts_14 : decode cX4_allDebts 14 = .ok (.aload_n 0, 1) := by decide +kernel
theorem dX4_allDebts_15 : decode cX4_allDebts 15 = .ok (.getfield 26, 3) := by decide +kernel
theorem dX4_allDebts_18 : decode cX4_allDebts 18 = .ok (.iload_n 2, 1) := by decide +kernel
theorem dX4_allDebts_19 : decode cX4_allDebts 19 = .ok (.iaload, 1) := by decide +kernel
theorem dX4_allDebts_20 : decode cX4_allDebts 20 = .ok (.iadd, 1) := by decide +kernel
theorem dX4_allDebts_21 : decode cX4_allDebts 21 = .ok (.istore_n 1, 1) := by decide +kernel
theorem dX4_allDebts_22 : decode cX4_allDebts 22 = .ok (.iinc 2 1, 3) := by decide +kernel
theorem dX4_allDebts_25 : decode cX4_allDebts 25 = .ok (.goto (-21), 3) := by decide +kernel
theorem dX4_allDebts_28 : decode cX4_allDebts 28 = .ok (.iload_n 1, 1) := by decide +kernel
theorem dX4_allDebts_29 : decode cX4_allDebts 29 = .ok (.ireturn, 1) := by decide +kernel
theorem dX4_owedTo_0 : decode cX4_owedTo 0 = .ok (.iconst 0, 1) := by decide +kernel
theorem dX4_owedTo_1 : decode cX4_owedTo 1 = .ok (.istore_n 2, 1) := by decide +kernel
theorem dX4_owedTo_2 : decode cX4_owedTo 2 = .ok (.iconst 0, 1) := by decide +kernel
theorem dX4_owedTo_3 : decode cX4_owedTo 3 = .ok (.istore_n 3, 1) := by decide +kernel
theorem dX4_owedTo_4 : decode cX4_owedTo 4 = .ok (.iload_n 3, 1) := by decide +kernel
theorem dX4_owedTo_5 : decode cX4_owedTo 5 = .ok (.iconst 4, 1) := by decide +kernel
theorem dX4_owedTo_6 : decode cX4_owedTo 6 = .ok (.if_icmp .ge 22, 3) := by decide +kernel
theorem dX4_owedTo_9 : decode cX4_owedTo 9 = .ok (.iload_n 2, 1) := by decide +kernel
theorem dX4_owedTo_10 : decode cX4_owedTo 10 = .ok (.aload_n 0, 1) := by decide +kernel
theorem dX4_owedTo_11 : decode cX4_owedTo 11 = .ok (.getfield 26, 3) := by decide +kernel
theorem dX4_owedTo_14 : decode cX4_owedTo 14 = .ok (.iload_n 3, 1) := by decide +kernel
theorem dX4_owedTo_15 : decode cX4_owedTo 15 = .ok (.iload_n 1, 1) := by decide +kernel
theorem dX4_owedTo_16 : decode cX4_owedTo 16 = .ok (.invokestatic 99, 3) := by decide +kernel
theorem dX4_owedTo_19 : decode cX4_owedTo 19 = .ok (.iaload, 1) := by decide +kernel
theorem dX4_owedTo_20 : decode cX4_owedTo 20 = .ok (.iadd, 1) := by decide +kernel
theorem dX4_owedTo_21 : decode cX4_owedTo 21 = .ok (.istore_n 2, 1) := by decide +kernel
theorem dX4_owedTo_22 : decode cX4_owedTo 22 = .ok (.iinc 3 1, 3) := by decide +kernel
theorem dX4_owedTo_25 : decode cX4_owedTo 25 = .ok (.goto (-21), 3) := by decide +kernel
theorem dX4_owedTo_28 : decode cX4_owedTo 28 = .ok (.iload_n 2, 1) := by decide +kernel
theorem dX4_owedTo_29 : decode cX4_owedTo 29 = .ok (.ireturn, 1) := by decide +kernel
theorem dX4_owedBy_0 : decode cX4_owedBy 0 = .ok (.iconst 0, 1) := by decide +kernel
theorem dX4_owedBy_1 : decode cX4_owedBy 1 = .ok (.istore_n 2, 1) := by decide +kernel
theorem dX4_owedBy_2 : decode cX4_owedBy 2 = .ok (.iconst 0, 1) := by decide +kernel
theorem dX4_owedBy_3 : decode cX4_owedBy 3 = .ok (.istore_n 3, 1) := by decide +kernel
theorem dX4_owedBy_4 : decode cX4_owedBy 4 = .ok (.iload_n 3, 1) := by decide +kernel
theorem dX4_owedBy_5 : decode cX4_owedBy 5 = .ok (.iconst 4, 1) := by decide +kernel
theorem dX4_owedBy_6 : decode cX4_owedBy 6 = .ok (.if_icmp .ge 22, 3) := by decide +kernel
theorem dX4_owedBy_9 : decode cX4_owedBy 9 = .ok (.iload_n 2, 1) := by decide +kernel
theorem dX4_owedBy_10 : decode cX4_owedBy 10 = .ok (.aload_n 0, 1) := by decide +kernel
theorem dX4_owedBy_11 : decode cX4_owedBy 11 = .ok (.getfield 26, 3) := by decide +kernel
theorem dX4_owedBy_14 : decode cX4_owedBy 14 = .ok (.iload_n 1, 1) := by decide +kernel
theorem dX4_owedBy_15 : decode cX4_owedBy 15 = .ok (.iload_n 3, 1) := by decide +kernel
theorem dX4_owedBy_16 : decode cX4_owedBy 16 = .ok (.invokestatic 99, 3) := by decide +kernel
theorem dX4_owedBy_19 : decode cX4_owedBy 19 = .ok (.iaload, 1) := by decide +kernel
theorem dX4_owedBy_20 : decode cX4_owedBy 20 = .ok (.iadd, 1) := by decide +kernel
theorem dX4_owedBy_21 : decode cX4_owedBy 21 = .ok (.istore_n 2, 1) := by decide +kernel
theorem dX4_owedBy_22 : decode cX4_owedBy 22 = .ok (.iinc 3 1, 3) := by decide +kernel
theorem dX4_owedBy_25 : decode cX4_owedBy 25 = .ok (.goto (-21), 3) := by decide +kernel
theorem dX4_owedBy_28 : decode cX4_owedBy 28 = .ok (.iload_n 2, 1) := by decide +kernel
theorem dX4_owedBy_29 : decode cX4_owedBy 29 = .ok (.ireturn, 1) := by decide +kernel
theorem dX4_strikePairs_0 : decode cX4_strikePairs 0 = .ok (.iconst 0, 1) := by decide +kernel
theorem dX4_strikePairs_1 : decode cX4_strikePairs 1 = .ok (.istore_n 1, 1) := by decide +kernel
theorem dX4_strikePairs_2 : decode cX4_strikePairs 2 = .ok (.iconst 0, 1) := by decide +kernel
theorem dX4_strikePairs_3 : decode cX4_strikePairs 3 = .ok (.istore_n 2, 1) := by decide +kernel
theorem dX4_strikePairs_4 : decode cX4_strikePairs 4 = .ok (.iload_n 2, 1) := by decide +kernel
theorem dX4_strikePairs_5 : decode cX4_strikePairs 5 = .ok (.iconst 4, 1) := by decide +kernel
theorem dX4_strikePairs_6 : decode cX4_strikePairs 6 = .ok (.if_icmp .ge 92, 3) := by decide +kernel
theorem dX4_strikePairs_9 : decode cX4_strikePairs 9 = .ok (.iload_n 2, 1) := by decide +kernel
theorem dX4_strikePairs_10 : decode cX4_strikePairs 10 = .ok (.iconst 1, 1) := by decide +kernel
theorem dX4_strikePairs_11 : decode cX4_strikePairs 11 = .ok (.iadd, 1) := by decide +kernel
theorem dX4_strikePairs_12 : decode cX4_strikePairs 12 = .ok (.istore_n 3, 1) := by decide +kernel
theorem dX4_strikePairs_13 : decode cX4_strikePairs 13 = .ok (.iload_n 3, 1) := by decide +kernel
theorem dX4_strikePairs_14 : decode cX4_strikePairs 14 = .ok (.iconst 4, 1) := by decide +kernel
theorem dX4_strikePairs_15 : decode cX4_strikePairs 15 = .ok (.if_icmp .ge 77, 3) := by decide +kernel
theorem dX4_strikePairs_18 : decode cX4_strikePairs 18 = .ok (.aload_n 0, 1) := by decide +kernel
theorem dX4_strikePairs_19 : decode cX4_strikePairs 19 = .ok (.getfield 26, 3) := by decide +kernel
theorem dX4_strikePairs_22 : decode cX4_strikePairs 22 = .ok (.iload_n 2, 1) := by decide +kernel
theorem dX4_strikePairs_23 : decode cX4_strikePairs 23 = .ok (.iload_n 3, 1) := by decide +kernel
theorem dX4_strikePairs_24 : decode cX4_strikePairs 24 = .ok (.invokestatic 99, 3) := by decide +kernel
theorem dX4_strikePairs_27 : decode cX4_strikePairs 27 = .ok (.iaload, 1) := by decide +kernel
theorem dX4_strikePairs_28 : decode cX4_strikePairs 28 = .ok (.aload_n 0, 1) := by decide +kernel
theorem dX4_strikePairs_29 : decode cX4_strikePairs 29 = .ok (.getfield 26, 3) := by decide +kernel
theorem dX4_strikePairs_32 : decode cX4_strikePairs 32 = .ok (.iload_n 3, 1) := by decide +kernel
theorem dX4_strikePairs_33 : decode cX4_strikePairs 33 = .ok (.iload_n 2, 1) := by decide +kernel
theorem dX4_strikePairs_34 : decode cX4_strikePairs 34 = .ok (.invokestatic 99, 3) := by decide +kernel
theorem dX4_strikePairs_37 : decode cX4_strikePairs 37 = .ok (.iaload, 1) := by decide +kernel
theorem dX4_strikePairs_38 : decode cX4_strikePairs 38 = .ok (.invokestatic 73, 3) := by decide +kernel
theorem dX4_strikePairs_41 : decode cX4_strikePairs 41 = .ok (.istore 4, 2) := by decide +kernel
theorem dX4_strikePairs_43 : decode cX4_strikePairs 43 = .ok (.aload_n 0, 1) := by decide +kernel
theorem dX4_strikePairs_44 : decode cX4_strikePairs 44 = .ok (.getfield 26, 3) := by decide +kernel
theorem dX4_strikePairs_47 : decode cX4_strikePairs 47 = .ok (.iload_n 2, 1) := by decide +kernel
theorem dX4_strikePairs_48 : decode cX4_strikePairs 48 = .ok (.iload_n 3, 1) := by decide +kernel
theorem dX4_strikePairs_49 : decode cX4_strikePairs 49 = .ok (.invokestatic 99, 3) := by decide +kernel
theorem dX4_strikePairs_52 : decode cX4_strikePairs 52 = .ok (.dup2, 1) := by decide +kernel
theorem dX4_strikePairs_53 : decode cX4_strikePairs 53 = .ok (.iaload, 1) := by decide +kernel
theorem dX4_strikePairs_54 : decode cX4_strikePairs 54 = .ok (.iload 4, 2) := by decide +kernel
theorem dX4_strikePairs_56 : decode cX4_strikePairs 56 = .ok (.isub, 1) := by decide +kernel
theorem dX4_strikePairs_57 : decode cX4_strikePairs 57 = .ok (.iastore, 1) := by decide +kernel
theorem dX4_strikePairs_58 : decode cX4_strikePairs 58 = .ok (.aload_n 0, 1) := by decide +kernel
theorem dX4_strikePairs_59 : decode cX4_strikePairs 59 = .ok (.getfield 26, 3) := by decide +kernel
theorem dX4_strikePairs_62 : decode cX4_strikePairs 62 = .ok (.iload_n 3, 1) := by decide +kernel
theorem dX4_strikePairs_63 : decode cX4_strikePairs 63 = .ok (.iload_n 2, 1) := by decide +kernel
theorem dX4_strikePairs_64 : decode cX4_strikePairs 64 = .ok (.invokestatic 99, 3) := by decide +kernel
theorem dX4_strikePairs_67 : decode cX4_strikePairs 67 = .ok (.dup2, 1) := by decide +kernel
theorem dX4_strikePairs_68 : decode cX4_strikePairs 68 = .ok (.iaload, 1) := by decide +kernel
theorem dX4_strikePairs_69 : decode cX4_strikePairs 69 = .ok (.iload 4, 2) := by decide +kernel
theorem dX4_strikePairs_71 : decode cX4_strikePairs 71 = .ok (.isub, 1) := by decide +kernel
theorem dX4_strikePairs_72 : decode cX4_strikePairs 72 = .ok (.iastore, 1) := by decide +kernel
theorem dX4_strikePairs_73 : decode cX4_strikePairs 73 = .ok (.iload_n 1, 1) := by decide +kernel
theorem dX4_strikePairs_74 : decode cX4_strikePairs 74 = .ok (.iload 4, 2) := by decide +kernel
theorem dX4_strikePairs_76 : decode cX4_strikePairs 76 = .ok (.ifCond .le 7, 3) := by decide +kernel
theorem dX4_strikePairs_79 : decode cX4_strikePairs 79 = .ok (.iconst 1, 1) := by decide +kernel
theorem dX4_strikePairs_80 : decode cX4_strikePairs 80 = .ok (.goto 4, 3) := by decide +kernel
theorem dX4_strikePairs_83 : decode cX4_strikePairs 83 = .ok (.iconst 0, 1) := by decide +kernel
theorem dX4_strikePairs_84 : decode cX4_strikePairs 84 = .ok (.iadd, 1) := by decide +kernel
theorem dX4_strikePairs_85 : decode cX4_strikePairs 85 = .ok (.istore_n 1, 1) := by decide +kernel
theorem dX4_strikePairs_86 : decode cX4_strikePairs 86 = .ok (.iinc 3 1, 3) := by decide +kernel
theorem dX4_strikePairs_89 : decode cX4_strikePairs 89 = .ok (.goto (-76), 3) := by decide +kernel
theorem dX4_strikePairs_92 : decode cX4_strikePairs 92 = .ok (.iinc 2 1, 3) := by decide +kernel
theorem dX4_strikePairs_95 : decode cX4_strikePairs 95 = .ok (.goto (-91), 3) := by decide +kernel
theorem dX4_strikePairs_98 : decode cX4_strikePairs 98 = .ok (.iload_n 1, 1) := by decide +kernel
theorem dX4_strikePairs_99 : decode cX4_strikePairs 99 = .ok (.ireturn, 1) := by decide +kernel
theorem dX4_strikeTriples_0 : decode cX4_strikeTriples 0 = .ok (.iconst 0, 1) := by decide +kernel
theorem dX4_strikeTriples_1 : decode cX4_strikeTriples 1 = .ok (.istore_n 1, 1) := by decide +kernel
theorem dX4_strikeTriples_2 : decode cX4_strikeTriples 2 = .ok (.iconst 0, 1) := by decide +kernel
theorem dX4_strikeTriples_3 : decode cX4_strikeTriples 3 = .ok (.istore_n 2, 1) := by decide +kernel
theorem dX4_strikeTriples_4 : decode cX4_strikeTriples 4 = .ok (.iload_n 2, 1) := by decide +kernel
theorem dX4_strikeTriples_5 : decode cX4_strikeTriples 5 = .ok (.iconst 4, 1) := by decide +kernel
theorem dX4_strikeTriples_6 : decode cX4_strikeTriples 6 = .ok (.if_icmp .ge 66, 3) := by decide +kernel
theorem dX4_strikeTriples_9 : decode cX4_strikeTriples 9 = .ok (.iload_n 2, 1) := by decide +kernel
theorem dX4_strikeTriples_10 : decode cX4_strikeTriples 10 = .ok (.iconst 1, 1) := by decide +kernel
theorem dX4_strikeTriples_11 : decode cX4_strikeTriples 11 = .ok (.iadd, 1) := by decide +kernel
theorem dX4_strikeTriples_12 : decode cX4_strikeTriples 12 = .ok (.istore_n 3, 1) := by decide +kernel
theorem dX4_strikeTriples_13 : decode cX4_strikeTriples 13 = .ok (.iload_n 3, 1) := by decide +kernel
theorem dX4_strikeTriples_14 : decode cX4_strikeTriples 14 = .ok (.iconst 4, 1) := by decide +kernel
theorem dX4_strikeTriples_15 : decode cX4_strikeTriples 15 = .ok (.if_icmp .ge 51, 3) := by decide +kernel
theorem dX4_strikeTriples_18 : decode cX4_strikeTriples 18 = .ok (.iload_n 2, 1) := by decide +kernel
theorem dX4_strikeTriples_19 : decode cX4_strikeTriples 19 = .ok (.iconst 1, 1) := by decide +kernel
theorem dX4_strikeTriples_20 : decode cX4_strikeTriples 20 = .ok (.iadd, 1) := by decide +kernel
theorem dX4_strikeTriples_21 : decode cX4_strikeTriples 21 = .ok (.istore 4, 2) := by decide +kernel
theorem dX4_strikeTriples_23 : decode cX4_strikeTriples 23 = .ok (.iload 4, 2) := by decide +kernel
theorem dX4_strikeTriples_25 : decode cX4_strikeTriples 25 = .ok (.iconst 4, 1) := by decide +kernel
theorem dX4_strikeTriples_26 : decode cX4_strikeTriples 26 = .ok (.if_icmp .ge 34, 3) := by decide +kernel
theorem dX4_strikeTriples_29 : decode cX4_strikeTriples 29 = .ok (.iload_n 1, 1) := by decide +kernel
theorem dX4_strikeTriples_30 : decode cX4_strikeTriples 30 = .ok (.iload 4, 2) := by decide +kernel
theorem dX4_strikeTriples_32 : decode cX4_strikeTriples 32 = .ok (.iload_n 3, 1) := by decide +kernel
theorem dX4_strikeTriples_33 : decode cX4_strikeTriples 33 = .ok (.if_icmp .eq 18, 3) := by decide +kernel
theorem dX4_strikeTriples_36 : decode cX4_strikeTriples 36 = .ok (.aload_n 0, 1) := by decide +kernel
theorem dX4_strikeTriples_37 : decode cX4_strikeTriples 37 = .ok (.iload_n 2, 1) := by decide +kernel
theorem dX4_strikeTriples_38 : decode cX4_strikeTriples 38 = .ok (.iload_n 3, 1) := by decide +kernel
theorem dX4_strikeTriples_39 : decode cX4_strikeTriples 39 = .ok (.iload 4, 2) := by decide +kernel
theorem dX4_strikeTriples_41 : decode cX4_strikeTriples 41 = .ok (.invokevirtual 110, 3) := by decide +kernel
theorem dX4_strikeTriples_44 : decode cX4_strikeTriples 44 = .ok (.ifCond .eq 7, 3) := by decide +kernel
theorem dX4_strikeTriples_47 : decode cX4_strikeTriples 47 = .ok (.iconst 1, 1) := by decide +kernel
theorem dX4_strikeTriples_48 : decode cX4_strikeTriples 48 = .ok (.goto 4, 3) := by decide +kernel
theorem dX4_strikeTriples_51 : decode cX4_strikeTriples 51 = .ok (.iconst 0, 1) := by decide +kernel
theorem dX4_strikeTriples_52 : decode cX4_strikeTriples 52 = .ok (.iadd, 1) := by decide +kernel
theorem dX4_strikeTriples_53 : decode cX4_strikeTriples 53 = .ok (.istore_n 1, 1) := by decide +kernel
theorem dX4_strikeTriples_54 : decode cX4_strikeTriples 54 = .ok (.iinc 4 1, 3) := by decide +kernel
theorem dX4_strikeTriples_57 : decode cX4_strikeTriples 57 = .ok (.goto (-34), 3) := by decide +kernel
theorem dX4_strikeTriples_60 : decode cX4_strikeTriples 60 = .ok (.iinc 3 1, 3) := by decide +kernel
theorem dX4_strikeTriples_63 : decode cX4_strikeTriples 63 = .ok (.goto (-50), 3) := by decide +kernel
theorem dX4_strikeTriples_66 : decode cX4_strikeTriples 66 = .ok (.iinc 2 1, 3) := by decide +kernel
theorem dX4_strikeTriples_69 : decode cX4_strikeTriples 69 = .ok (.goto (-65), 3) := by decide +kernel
theorem dX4_strikeTriples_72 : decode cX4_strikeTriples 72 = .ok (.iload_n 1, 1) := by decide +kernel
theorem dX4_strikeTriples_73 : decode cX4_strikeTriples 73 = .ok (.ireturn, 1) := by decide +kernel
theorem dX4_strikeTriple_0 : decode cX4_strikeTriple 0 = .ok (.aload_n 0, 1) := by decide +kernel
theorem dX4_strikeTriple_1 : decode cX4_strikeTriple 1 = .ok (.getfield 26, 3) := by decide +kernel
theorem dX4_strikeTriple_4 : decode cX4_strikeTriple 4 = .ok (.iload_n 1, 1) := by decide +kernel
theorem dX4_strikeTriple_5 : decode cX4_strikeTriple 5 = .ok (.iload_n 2, 1) := by decide +kernel
theorem dX4_strikeTriple_6 : decode cX4_strikeTriple 6 = .ok (.invokestatic 99, 3) := by decide +kernel
theorem dX4_strikeTriple_9 : decode cX4_strikeTriple 9 = .ok (.iaload, 1) := by decide +kernel
theorem dX4_strikeTriple_10 : decode cX4_strikeTriple 10 = .ok (.aload_n 0, 1) := by decide +kernel
theorem dX4_strikeTriple_11 : decode cX4_strikeTriple 11 = .ok (.getfield 26, 3) := by decide +kernel
theorem dX4_strikeTriple_14 : decode cX4_strikeTriple 14 = .ok (.iload_n 2, 1) := by decide +kernel
theorem dX4_strikeTriple_15 : decode cX4_strikeTriple 15 = .ok (.iload_n 3, 1) := by decide +kernel
theorem dX4_strikeTriple_16 : decode cX4_strikeTriple 16 = .ok (.invokestatic 99, 3) := by decide +kernel
theorem dX4_strikeTriple_19 : decode cX4_strikeTriple 19 = .ok (.iaload, 1) := by decide +kernel
theorem dX4_strikeTriple_20 : decode cX4_strikeTriple 20 = .ok (.aload_n 0, 1) := by decide +kernel
theorem dX4_strikeTriple_21 : decode cX4_strikeTriple 21 = .ok (.getfield 26, 3) := by decide +kernel
theorem dX4_strikeTriple_24 : decode cX4_strikeTriple 24 = .ok (.iload_n 3, 1) := by decide +kernel
theorem dX4_strikeTriple_25 : decode cX4_strikeTriple 25 = .ok (.iload_n 1, 1) := by decide +kernel
theorem dX4_strikeTriple_26 : decode cX4_strikeTriple 26 = .ok (.invokestatic 99, 3) := by decide +kernel
theorem dX4_strikeTriple_29 : decode cX4_strikeTriple 29 = .ok (.iaload, 1) := by decide +kernel
theorem dX4_strikeTriple_30 : decode cX4_strikeTriple 30 = .ok (.invokestatic 73, 3) := by decide +kernel
theorem dX4_strikeTriple_33 : decode cX4_strikeTriple 33 = .ok (.invokestatic 73, 3) := by decide +kernel
theorem dX4_strikeTriple_36 : decode cX4_strikeTriple 36 = .ok (.istore 4, 2) := by decide +kernel
theorem dX4_strikeTriple_38 : decode cX4_strikeTriple 38 = .ok (.aload_n 0, 1) := by decide +kernel
theorem dX4_strikeTriple_39 : decode cX4_strikeTriple 39 = .ok (.getfield 26, 3) := by decide +kernel
theorem dX4_strikeTriple_42 : decode cX4_strikeTriple 42 = .ok (.iload_n 1, 1) := by decide +kernel
theorem dX4_strikeTriple_43 : decode cX4_strikeTriple 43 = .ok (.iload_n 2, 1) := by decide +kernel
theorem dX4_strikeTriple_44 : decode cX4_strikeTriple 44 = .ok (.invokestatic 99, 3) := by decide +kernel
theorem dX4_strikeTriple_47 : decode cX4_strikeTriple 47 = .ok (.dup2, 1) := by decide +kernel
theorem dX4_strikeTriple_48 : decode cX4_strikeTriple 48 = .ok (.iaload, 1) := by decide +kernel
theorem dX4_strikeTriple_49 : decode cX4_strikeTriple 49 = .ok (.iload 4, 2) := by decide +kernel
theorem dX4_strikeTriple_51 : decode cX4_strikeTriple 51 = .ok (.isub, 1) := by decide +kernel
theorem dX4_strikeTriple_52 : decode cX4_strikeTriple 52 = .ok (.iastore, 1) := by decide +kernel
theorem dX4_strikeTriple_53 : decode cX4_strikeTriple 53 = .ok (.aload_n 0, 1) := by decide +kernel
theorem dX4_strikeTriple_54 : decode cX4_strikeTriple 54 = .ok (.getfield 26, 3) := by decide +kernel
theorem dX4_strikeTriple_57 : decode cX4_strikeTriple 57 = .ok (.iload_n 2, 1) := by decide +kernel
theorem dX4_strikeTriple_58 : decode cX4_strikeTriple 58 = .ok (.iload_n 3, 1) := by decide +kernel
theorem dX4_strikeTriple_59 : decode cX4_strikeTriple 59 = .ok (.invokestatic 99, 3) := by decide +kernel
theorem dX4_strikeTriple_62 : decode cX4_strikeTriple 62 = .ok (.dup2, 1) := by decide +kernel
theorem dX4_strikeTriple_63 : decode cX4_strikeTriple 63 = .ok (.iaload, 1) := by decide +kernel
theorem dX4_strikeTriple_64 : decode cX4_strikeTriple 64 = .ok (.iload 4, 2) := by decide +kernel
theorem dX4_strikeTriple_66 : decode cX4_strikeTriple 66 = .ok (.isub, 1) := by decide +kernel
theorem dX4_strikeTriple_67 : decode cX4_strikeTriple 67 = .ok (.iastore, 1) := by decide +kernel
theorem dX4_strikeTriple_68 : decode cX4_strikeTriple 68 = .ok (.aload_n 0, 1) := by decide +kernel
theorem dX4_strikeTriple_69 : decode cX4_strikeTriple 69 = .ok (.getfield 26, 3) := by decide +kernel
theorem dX4_strikeTriple_72 : decode cX4_strikeTriple 72 = .ok (.iload_n 3, 1) := by decide +kernel
theorem dX4_strikeTriple_73 : decode cX4_strikeTriple 73 = .ok (.iload_n 1, 1) := by decide +kernel
theorem dX4_strikeTriple_74 : decode cX4_strikeTriple 74 = .ok (.invokestatic 99, 3) := by decide +kernel
theorem dX4_strikeTriple_77 : decode cX4_strikeTriple 77 = .ok (.dup2, 1) := by decide +kernel
theorem dX4_strikeTriple_78 : decode cX4_strikeTriple 78 = .ok (.iaload, 1) := by decide +kernel
theorem dX4_strikeTriple_79 : decode cX4_strikeTriple 79 = .ok (.iload 4, 2) := by decide +kernel
theorem dX4_strikeTriple_81 : decode cX4_strikeTriple 81 = .ok (.isub, 1) := by decide +kernel
theorem dX4_strikeTriple_82 : decode cX4_strikeTriple 82 = .ok (.iastore, 1) := by decide +kernel
theorem dX4_strikeTriple_83 : decode cX4_strikeTriple 83 = .ok (.iload 4, 2) := by decide +kernel
theorem dX4_strikeTriple_85 : decode cX4_strikeTriple 85 = .ok (.ifCond .le 7, 3) := by decide +kernel
theorem dX4_strikeTriple_88 : decode cX4_strikeTriple 88 = .ok (.iconst 1, 1) := by decide +kernel
theorem dX4_strikeTriple_89 : decode cX4_strikeTriple 89 = .ok (.goto 4, 3) := by decide +kernel
theorem dX4_strikeTriple_92 : decode cX4_strikeTriple 92 = .ok (.iconst 0, 1) := by decide +kernel
theorem dX4_strikeTriple_93 : decode cX4_strikeTriple 93 = .ok (.ireturn, 1) := by decide +kernel
theorem dX4_takeCandle_0 : decode cX4_takeCandle 0 = .ok (.iload_n 1, 1) := by decide +kernel
theorem dX4_takeCandle_1 : decode cX4_takeCandle 1 = .ok (.invokestatic 114, 3) := by decide +kernel
theorem dX4_takeCandle_4 : decode cX4_takeCandle 4 = .ok (.ifCond .eq 19, 3) := by decide +kernel
theorem dX4_takeCandle_7 : decode cX4_takeCandle 7 = .ok (.iload_n 3, 1) := by decide +kernel
theorem dX4_takeCandle_8 : decode cX4_takeCandle 8 = .ok (.invokestatic 118, 3) := by decide +kernel
theorem dX4_takeCandle_11 : decode cX4_takeCandle 11 = .ok (.ifCond .eq 12, 3) := by decide +kernel
theorem dX4_takeCandle_14 : decode cX4_takeCandle 14 = .ok (.aload_n 0, 1) := by decide +kernel
theorem dX4_takeCandle_15 : decode cX4_takeCandle 15 = .ok (.getfield 29, 3) := by decide +kernel
theorem dX4_takeCandle_18 : decode cX4_takeCandle 18 = .ok (.bipush 6, 2) := by decide +kernel
theorem dX4_takeCandle_20 : decode cX4_takeCandle 20 = .ok (.if_icmp .lt 5, 3) := by decide +kernel
theorem dX4_takeCandle_23 : decode cX4_takeCandle 23 = .ok (.iconst 0, 1) := by decide +kernel
theorem dX4_takeCandle_24 : decode cX4_takeCandle 24 = .ok (.ireturn, 1) := by decide +kernel
theorem dX4_takeCandle_25 : decode cX4_takeCandle 25 = .ok (.aload_n 0, 1) := by decide +kernel
theorem dX4_takeCandle_26 : decode cX4_takeCandle 26 = .ok (.getfield 17, 3) := by decide +kernel
theorem dX4_takeCandle_29 : decode cX4_takeCandle 29 = .ok (.aload_n 0, 1) := by decide +kernel
theorem dX4_takeCandle_30 : decode cX4_takeCandle 30 = .ok (.getfield 29, 3) := by decide +kernel
theorem dX4_takeCandle_33 : decode cX4_takeCandle 33 = .ok (.aaload, 1) := by decide +kernel
theorem dX4_takeCandle_34 : decode cX4_takeCandle 34 = .ok (.astore 5, 2) := by decide +kernel
theorem dX4_takeCandle_36 : decode cX4_takeCandle 36 = .ok (.aload 5, 2) := by decide +kernel
theorem dX4_takeCandle_38 : decode cX4_takeCandle 38 = .ok (.iload_n 1, 1) := by decide +kernel
theorem dX4_takeCandle_39 : decode cX4_takeCandle 39 = .ok (.putfield 55, 3) := by decide +kernel
theorem dX4_takeCandle_42 : decode cX4_takeCandle 42 = .ok (.aload 5, 2) := by decide +kernel
theorem dX4_takeCandle_44 : decode cX4_takeCandle 44 = .ok (.iload_n 2, 1) := by decide +kernel
theorem dX4_takeCandle_45 : decode cX4_takeCandle 45 = .ok (.putfield 58, 3) := by decide +kernel
theorem dX4_takeCandle_48 : decode cX4_takeCandle 48 = .ok (.aload 5, 2) := by decide +kernel
theorem dX4_takeCandle_50 : decode cX4_takeCandle 50 = .ok (.iload 4, 2) := by decide +kernel
theorem dX4_takeCandle_52 : decode cX4_takeCandle 52 = .ok (.putfield 70, 3) := by decide +kernel
theorem dX4_takeCandle_55 : decode cX4_takeCandle 55 = .ok (.aload 5, 2) := by decide +kernel
theorem dX4_takeCandle_57 : decode cX4_takeCandle 57 = .ok (.iload_n 3, 1) := by decide +kernel
theorem dX4_takeCandle_58 : decode cX4_takeCandle 58 = .ok (.putfield 96, 3) := by decide +kernel
theorem dX4_takeCandle_61 : decode cX4_takeCandle 61 = .ok (.aload 5, 2) := by decide +kernel
theorem dX4_takeCandle_63 : decode cX4_takeCandle 63 = .ok (.iload_n 3, 1) := by decide +kernel
theorem dX4_takeCandle_64 : decode cX4_takeCandle 64 = .ok (.putfield 61, 3) := by decide +kernel
theorem dX4_takeCandle_67 : decode cX4_takeCandle 67 = .ok (.aload 5, 2) := by decide +kernel
theorem dX4_takeCandle_69 : decode cX4_takeCandle 69 = .ok (.iconst 0, 1) := by decide +kernel
theorem dX4_takeCandle_70 : decode cX4_takeCandle 70 = .ok (.putfield 106, 3) := by decide +kernel
theorem dX4_takeCandle_73 : decode cX4_takeCandle 73 = .ok (.aload_n 0, 1) := by decide +kernel
theorem dX4_takeCandle_74 : decode cX4_takeCandle 74 = .ok (.dup, 1) := by decide +kernel
theorem dX4_takeCandle_75 : decode cX4_takeCandle 75 = .ok (.getfield 29, 3) := by decide +kernel
theorem dX4_takeCandle_78 : decode cX4_takeCandle 78 = .ok (.iconst 1, 1) := by decide +kernel
theorem dX4_takeCandle_79 : decode cX4_takeCandle 79 = .ok (.iadd, 1) := by decide +kernel
theorem dX4_takeCandle_80 : decode cX4_takeCandle 80 = .ok (.putfield 29, 3) := by decide +kernel
theorem dX4_takeCandle_83 : decode cX4_takeCandle 83 = .ok (.iconst 1, 1) := by decide +kernel
theorem dX4_takeCandle_84 : decode cX4_takeCandle 84 = .ok (.ireturn, 1) := by decide +kernel
theorem dX4_takeDebt_0 : decode cX4_takeDebt 0 = .ok (.iload_n 1, 1) := by decide +kernel
theorem dX4_takeDebt_1 : decode cX4_takeDebt 1 = .ok (.iload_n 2, 1) := by decide +kernel
theorem dX4_takeDebt_2 : decode cX4_takeDebt 2 = .ok (.invokestatic 121, 3) := by decide +kernel
theorem dX4_takeDebt_5 : decode cX4_takeDebt 5 = .ok (.ifCond .ne 5, 3) := by decide +kernel
theorem dX4_takeDebt_8 : decode cX4_takeDebt 8 = .ok (.iconst 0, 1) := by decide +kernel
theorem dX4_takeDebt_9 : decode cX4_takeDebt 9 = .ok (.ireturn, 1) := by decide +kernel
theorem dX4_takeDebt_10 : decode cX4_takeDebt 10 = .ok (.aload_n 0, 1) := by decide +kernel
theorem dX4_takeDebt_11 : decode cX4_takeDebt 11 = .ok (.getfield 26, 3) := by decide +kernel
theorem dX4_takeDebt_14 : decode cX4_takeDebt 14 = .ok (.iload_n 1, 1) := by decide +kernel
theorem dX4_takeDebt_15 : decode cX4_takeDebt 15 = .ok (.iload_n 2, 1) := by decide +kernel
theorem dX4_takeDebt_16 : decode cX4_takeDebt 16 = .ok (.invokestatic 99, 3) := by decide +kernel
theorem dX4_takeDebt_19 : decode cX4_takeDebt 19 = .ok (.iload_n 3, 1) := by decide +kernel
theorem dX4_takeDebt_20 : decode cX4_takeDebt 20 = .ok (.iastore, 1) := by decide +kernel
theorem dX4_takeDebt_21 : decode cX4_takeDebt 21 = .ok (.iconst 1, 1) := by decide +kernel
theorem dX4_takeDebt_22 : decode cX4_takeDebt 22 = .ok (.ireturn, 1) := by decide +kernel
theorem dX4_takeDraught_0 : decode cX4_takeDraught 0 = .ok (.iload_n 1, 1) := by decide +kernel
theorem dX4_takeDraught_1 : decode cX4_takeDraught 1 = .ok (.invokestatic 118, 3) := by decide +kernel
theorem dX4_takeDraught_4 : decode cX4_takeDraught 4 = .ok (.ifCond .ne 5, 3) := by decide +kernel
theorem dX4_takeDraught_7 : decode cX4_takeDraught 7 = .ok (.iconst 0, 1) := by decide +kernel
theorem dX4_takeDraught_8 : decode cX4_takeDraught 8 = .ok (.ireturn, 1) := by decide +kernel
theorem dX4_takeDraught_9 : decode cX4_takeDraught 9 = .ok (.aload_n 0, 1) := by decide +kernel
theorem dX4_takeDraught_10 : decode cX4_takeDraught 10 = .ok (.getfield 22, 3) := by decide +kernel
theorem dX4_takeDraught_13 : decode cX4_takeDraught 13 = .ok (.iload_n 1, 1) := by decide +kernel
theorem dX4_takeDraught_14 : decode cX4_takeDraught 14 = .ok (.iload_n 2, 1) := by decide +kernel
theorem dX4_takeDraught_15 : decode cX4_takeDraught 15 = .ok (.iastore, 1) := by decide +kernel
theorem dX4_takeDraught_16 : decode cX4_takeDraught 16 = .ok (.iconst 1, 1) := by decide +kernel
theorem dX4_takeDraught_17 : decode cX4_takeDraught 17 = .ok (.ireturn, 1) := by decide +kernel
theorem dX4_takePlace_0 : decode cX4_takePlace 0 = .ok (.iload_n 1, 1) := by decide +kernel
theorem dX4_takePlace_1 : decode cX4_takePlace 1 = .ok (.ifCond .lt 18, 3) := by decide +kernel
theorem dX4_takePlace_4 : decode cX4_takePlace 4 = .ok (.iload_n 1, 1) := by decide +kernel
theorem dX4_takePlace_5 : decode cX4_takePlace 5 = .ok (.aload_n 0, 1) := by decide +kernel
theorem dX4_takePlace_6 : decode cX4_takePlace 6 = .ok (.getfield 29, 3) := by decide +kernel
theorem dX4_takePlace_9 : decode cX4_takePlace 9 = .ok (.if_icmp .ge 10, 3) := by decide +kernel
theorem dX4_takePlace_12 : decode cX4_takePlace 12 = .ok (.iload_n 2, 1) := by decide +kernel
theorem dX4_takePlace_13 : decode cX4_takePlace 13 = .ok (.invokestatic 118, 3) := by decide +kernel
theorem dX4_takePlace_16 : decode cX4_takePlace 16 = .ok (.ifCond .ne 5, 3) := by decide +kernel
theorem dX4_takePlace_19 : decode cX4_takePlace 19 = .ok (.iconst 0, 1) := by decide +kernel
theorem dX4_takePlace_20 : decode cX4_takePlace 20 = .ok (.ireturn, 1) := by decide +kernel
theorem dX4_takePlace_21 : decode cX4_takePlace 21 = .ok (.aload_n 0, 1) := by decide +kernel
theorem dX4_takePlace_22 : decode cX4_takePlace 22 = .ok (.getfield 17, 3) := by decide +kernel
theorem dX4_takePlace_25 : decode cX4_takePlace 25 = .ok (.iload_n 1, 1) := by decide +kernel
theorem dX4_takePlace_26 : decode cX4_takePlace 26 = .ok (.aaload, 1) := by decide +kernel
theorem dX4_takePlace_27 : decode cX4_takePlace 27 = .ok (.iload_n 2, 1) := by decide +kernel
theorem dX4_takePlace_28 : decode cX4_takePlace 28 = .ok (.putfield 61, 3) := by decide +kernel
theorem dX4_takePlace_31 : decode cX4_takePlace 31 = .ok (.aload_n 0, 1) := by decide +kernel
theorem dX4_takePlace_32 : decode cX4_takePlace 32 = .ok (.getfield 17, 3) := by decide +kernel
theorem dX4_takePlace_35 : decode cX4_takePlace 35 = .ok (.iload_n 1, 1) := by decide +kernel
theorem dX4_takePlace_36 : decode cX4_takePlace 36 = .ok (.aaload, 1) := by decide +kernel
theorem dX4_takePlace_37 : decode cX4_takePlace 37 = .ok (.aload_n 0, 1) := by decide +kernel
theorem dX4_takePlace_38 : decode cX4_takePlace 38 = .ok (.getfield 17, 3) := by decide +kernel
theorem dX4_takePlace_41 : decode cX4_takePlace 41 = .ok (.iload_n 1, 1) := by decide +kernel
theorem dX4_takePlace_42 : decode cX4_takePlace 42 = .ok (.aaload, 1) := by decide +kernel
theorem dX4_takePlace_43 : decode cX4_takePlace 43 = .ok (.getfield 70, 3) := by decide +kernel
theorem dX4_takePlace_46 : decode cX4_takePlace 46 = .ok (.ifCond .le 7, 3) := by decide +kernel
theorem dX4_takePlace_49 : decode cX4_takePlace 49 = .ok (.iconst 1, 1) := by decide +kernel
theorem dX4_takePlace_50 : decode cX4_takePlace 50 = .ok (.goto 4, 3) := by decide +kernel
theorem dX4_takePlace_53 : decode cX4_takePlace 53 = .ok (.iconst 0, 1) := by decide +kernel
theorem dX4_takePlace_54 : decode cX4_takePlace 54 = .ok (.putfield 106, 3) := by decide +kernel
theorem dX4_takePlace_57 : decode cX4_takePlace 57 = .ok (.iconst 1, 1) := by decide +kernel
theorem dX4_takePlace_58 : decode cX4_takePlace 58 = .ok (.ireturn, 1) := by decide +kernel
theorem dX5_init_0 : decode cX5_init 0 = .ok (.aload_n 0, 1) := by decide +kernel
theorem dX5_init_1 : decode cX5_init 1 = .ok (.invokespecial 3, 3) := by decide +kernel
theorem dX5_init_4 : decode cX5_init 4 = .ok (.aload_n 0, 1) := by decide +kernel
theorem dX5_init_5 : decode cX5_init 5 = .ok (.bipush 80, 2) := by decide +kernel
theorem dX5_init_7 : decode cX5_init 7 = .ok (.newarray .int, 2) := by decide +kernel
theorem dX5_init_9 : decode cX5_init 9 = .ok (.putfield 9, 3) := by decide +kernel
theorem dX5_init_12 : decode cX5_init 12 = .ok (.return_, 1) := by decide +kernel
theorem dX5_signAt_0 : decode cX5_signAt 0 = .ok (.iload_n 1, 1) := by decide +kernel
theorem dX5_signAt_1 : decode cX5_signAt 1 = .ok (.ifCond .lt 20, 3) := by decide +kernel
theorem dX5_signAt_4 : decode cX5_signAt 4 = .ok (.iload_n 1, 1) := by decide +kernel
theorem dX5_signAt_5 : decode cX5_signAt 5 = .ok (.aload_n 0, 1) := by decide +kernel
theorem dX5_signAt_6 : decode cX5_signAt 6 = .ok (.getfield 15, 3) := by decide +kernel
theorem dX5_signAt_9 : decode cX5_signAt 9 = .ok (.if_icmp .ge 12, 3) := by decide +kernel
theorem dX5_signAt_12 : decode cX5_signAt 12 = .ok (.aload_n 0, 1) := by decide +kernel
theorem dX5_signAt_13 : decode cX5_signAt 13 = .ok (.getfield 9, 3) := by decide +kernel
theorem dX5_signAt_16 : decode cX5_signAt 16 = .ok (.iload_n 1, 1) := by decide +kernel
theorem dX5_signAt_17 : decode cX5_signAt 17 = .ok (.iaload, 1) := by decide +kernel
theorem dX5_signAt_18 : decode cX5_signAt 18 = .ok (.goto 4, 3) := by decide +kernel
theorem dX5_signAt_21 : decode cX5_signAt 21 = .ok (.iconst (-1), 1) := by decide +kernel
theorem dX5_signAt_22 : decode cX5_signAt 22 = .ok (.ireturn, 1) := by decide +kernel
theorem dX5_digitAt_0 : decode cX5_digitAt 0 = .ok (.aload_n 0, 1) := by decide +kernel
theorem dX5_digitAt_1 : decode cX5_digitAt 1 = .ok (.iload_n 1, 1) := by decide +kernel
theorem dX5_digitAt_2 : decode cX5_digitAt 2 = .ok (.invokevirtual 19, 3) := by decide +kernel
theorem dX5_digitAt_5 : decode cX5_digitAt 5 = .ok (.bipush 48, 2) := by decide +kernel
theorem dX5_digitAt_7 : decode cX5_digitAt 7 = .ok (.isub, 1) := by decide +kernel
theorem dX5_digitAt_8 : decode cX5_digitAt 8 = .ok (.ireturn, 1) := by decide +kernel
theorem dX5_isDigitAt_0 : decode cX5_isDigitAt 0 = .ok (.aload_n 0, 1) := by decide +kernel
theorem dX5_isDigitAt_1 : decode cX5_isDigitAt 1 = .ok (.iload_n 1, 1) := by decide +kernel
theorem dX5_isDigitAt_2 : decode cX5_isDigitAt 2 = .ok (.invokevirtual 19, 3) := by decide +kernel
theorem dX5_isDigitAt_5 : decode cX5_isDigitAt 5 = .ok (.bipush 48, 2) := by decide +kernel
theorem dX5_isDigitAt_7 : decode cX5_isDigitAt 7 = .ok (.if_icmp .lt 17, 3) := by decide +kernel
theorem dX5_isDigitAt_10 : decode cX5_isDigitAt 10 = .ok (.aload_n 0, 1) := by decide +kernel
theorem dX5_isDigitAt_11 : decode cX5_isDigitAt 11 = .ok (.iload_n 1, 1) := by decide +kernel
theorem dX5_isDigitAt_12 : decode cX5_isDigitAt 12 = .ok (.invokevirtual 19, 3) := by decide +kernel
theorem dX5_isDigitAt_15 : decode cX5_isDigitAt 15 = .ok (.bipush 57, 2) := by decide +kernel
theorem dX5_isDigitAt_17 : decode cX5_isDigitAt 17 = .ok (.if_icmp .gt 7, 3) := by decide +kernel
theorem dX5_isDigitAt_20 : decode cX5_isDigitAt 20 = .ok (.iconst 1, 1) := by decide +kernel
theorem dX5_isDigitAt_21 : decode cX5_isDigitAt 21 = .ok (.goto 4, 3) := by decide +kernel
theorem dX5_isDigitAt_24 : decode cX5_isDigitAt 24 = .ok (.iconst 0, 1) := by decide +kernel
theorem dX5_isDigitAt_25 : decode cX5_isDigitAt 25 = .ok (.ireturn, 1) := by decide +kernel
theorem dX5_numberAt_0 : decode cX5_numberAt 0 = .ok (.iconst 0, 1) := by decide +kernel
theorem dX5_numberAt_1 : decode cX5_numberAt 1 = .ok (.istore_n 2, 1) := by decide +kernel
theorem dX5_numberAt_2 : decode cX5_numberAt 2 = .ok (.iconst 0, 1) := by decide +kernel
theorem dX5_numberAt_3 : decode cX5_numberAt 3 = .ok (.istore_n 3, 1) := by decide +kernel
theorem dX5_numberAt_4 : decode cX5_numberAt 4 = .ok (.iload_n 3, 1) := by decide +kernel
theorem dX5_numberAt_5 : decode cX5_numberAt 5 = .ok (.iconst 3, 1) := by decide +kernel
theorem dX5_numberAt_6 : decode cX5_numberAt 6 = .ok (.if_icmp .ge 32, 3) := by decide +kernel
theorem dX5_numberAt_9 : decode cX5_numberAt 9 = .ok (.aload_n 0, 1) := by decide +kernel
theorem dX5_numberAt_10 : decode cX5_numberAt 10 = .ok (.iload_n 1, 1) := by decide +kernel
theorem dX5_numberAt_11 : decode cX5_numberAt 11 = .ok (.iload_n 3, 1) := by decide +kernel
theorem dX5_numberAt_12 : decode cX5_numberAt 12 = .ok (.iadd, 1) := by decide +kernel
theorem dX5_numberAt_13 : decode cX5_numberAt 13 = .ok (.invokevirtual 23, 3) := by decide +kernel
theorem dX5_numberAt_16 : decode cX5_numberAt 16 = .ok (.ifCond .eq 22, 3) := by decide +kernel
theorem dX5_numberAt_19 : decode cX5_numberAt 19 = .ok (.iload_n 2, 1) := by decide +kernel
theorem dX5_numberAt_20 : decode cX5_numberAt 20 = .ok (.bipush 10, 2) := by decide +kernel
theorem dX5_numberAt_22 : decode cX5_numberAt 22 = .ok (.imul, 1) := by decide +kernel
theorem dX5_numberAt_23 : decode cX5_numberAt 23 = .ok (.aload_n 0, 1) := by decide +kernel
theorem dX5_numberAt_24 : decode cX5_numberAt 24 = .ok (.iload_n 1, 1) := by decide +kernel
theorem dX5_numberAt_25 : decode cX5_numberAt 25 = .ok (.iload_n 3, 1) := by decide +kernel
theorem dX5_numberAt_26 : decode cX5_numberAt 26 = .ok (.iadd, 1) := by decide +kernel
theorem dX5_numberAt_27 : decode cX5_numberAt 27 = .ok (.invokevirtual 27, 3) := by decide +kernel
theorem dX5_numberAt_30 : decode cX5_numberAt 30 = .ok (.iadd, 1) := by decide +kernel
theorem dX5_numberAt_31 : decode cX5_numberAt 31 = .ok (.istore_n 2, 1) := by decide +kernel
theorem dX5_numberAt_32 : decode cX5_numberAt 32 = .ok (.iinc 3 1, 3) := by decide +kernel
theorem dX5_numberAt_35 : decode cX5_numberAt 35 = .ok (.goto (-31), 3) := by decide +kernel
theorem dX5_numberAt_38 : decode cX5_numberAt 38 = .ok (.iload_n 2, 1) := by decide +kernel
theorem dX5_numberAt_39 : decode cX5_numberAt 39 = .ok (.ireturn, 1) := by decide +kernel
theorem dX5_formFault_0 : decode cX5_formFault 0 = .ok (.iconst 0, 1) := by decide +kernel
theorem dX5_formFault_1 : decode cX5_formFault 1 = .ok (.istore_n 1, 1) := by decide +kernel
theorem dX5_formFault_2 : decode cX5_formFault 2 = .ok (.iconst 0, 1) := by decide +kernel
theorem dX5_formFault_3 : decode cX5_formFault 3 = .ok (.istore_n 2, 1) := by decide +kernel
theorem dX5_formFault_4 : decode cX5_formFault 4 = .ok (.iload_n 2, 1) := by decide +kernel
theorem dX5_formFault_5 : decode cX5_formFault 5 = .ok (.bipush 80, 2) := by decide +kernel
theorem dX5_formFault_7 : decode cX5_formFault 7 = .ok (.if_icmp .ge 31, 3) := by decide +kernel
theorem dX5_formFault_10 : decode cX5_formFault 10 = .ok (.aload_n 0, 1) := by decide +kernel
theorem dX5_formFault_11 : decode cX5_formFault 11 = .ok (.iload_n 1, 1) := by decide +kernel
theorem dX5_formFault_12 : decode cX5_formFault 12 = .ok (.invokevirtual 30, 3) := by decide +kernel
theorem dX5_formFault_15 : decode cX5_formFault 15 = .ok (.istore_n 1, 1) := by decide +kernel
theorem dX5_formFault_16 : decode cX5_formFault 16 = .ok (.iload_n 1, 1) := by decide +kernel
theorem dX5_formFault_17 : decode cX5_formFault 17 = .ok (.ifCond .ge 5, 3) := by decide +kernel
theorem dX5_formFault_20 : decode cX5_formFault 20 = .ok (.iload_n 1, 1) := by decide +kernel
theorem dX5_formFault_21 : decode cX5_formFault 21 = .ok (.ireturn, 1) := by decide +kernel
theorem dX5_formFault_22 : decode cX5_formFault 22 = .ok (.iload_n 1, 1) := by decide +kernel
theorem dX5_formFault_23 : decode cX5_formFault 23 = .ok (.aload_n 0, 1) := by decide +kernel
theorem dX5_formFault_24 : decode cX5_formFault 24 = .ok (.getfield 15, 3) := by decide +kernel
theorem dX5_formFault_27 : decode cX5_formFault 27 = .ok (.if_icmp .lt 5, 3) := by decide +kernel
theorem dX5_formFault_30 : decode cX5_formFault 30 = .ok (.iconst 0, 1) := by decide +kernel
theorem dX5_formFault_31 : decode cX5_formFault 31 = .ok (.ireturn, 1) := by decide +kernel
theorem dX5_formFault_32 : decode cX5_formFault 32 = .ok (.iinc 2 1, 3) := by decide +kernel
theorem dX5_formFault_35 : decode cX5_formFault 35 = .ok (.goto (-31), 3) := by decide +kernel
theorem dX5_formFault_38 : decode cX5_formFault 38 = .ok (.iconst 0, 1) := by decide +kernel
theorem dX5_formFault_39 : decode cX5_formFault 39 = .ok (.ireturn, 1) := by decide +kernel
theorem dX5_behindStatement_0 : decode cX5_behindStatement 0 = .ok (.aload_n 0, 1) := by decide +kernel
theorem dX5_behindStatement_1 : decode cX5_behindStatement 1 = .ok (.iload_n 1, 1) := by decide +kernel
theorem dX5_behindStatement_2 : decode cX5_behindStatement 2 = .ok (.invokevirtual 19, 3) := by decide +kernel
theorem dX5_behindStatement_5 : decode cX5_behindStatement 5 = .ok (.invokestatic 33, 3) := by decide +kernel
theorem dX5_behindStatement_8 : decode cX5_behindStatement 8 = .ok (.istore_n 2, 1) := by decide +kernel
theorem dX5_behindStatement_9 : decode cX5_behindStatement 9 = .ok (.iload_n 2, 1) := by decide +kernel
theorem dX5_behindStatement_10 : decode cX5_behindStatement 10 = .ok (.ifCond .ne 9, 3) := by decide +kernel
theorem dX5_behindStatement_13 : decode cX5_behindStatement 13 = .ok (.sipush (-1000), 3) := by decide +kernel
theorem dX5_behindStatement_16 : decode cX5_behindStatement 16 = .ok (.iload_n 1, 1) := by decide +kernel
theorem dX5_behindStatement_17 : decode cX5_behindStatement 17 = .ok (.isub, 1) := by decide +kernel
theorem dX5_behindStatement_18 : decode cX5_behindStatement 18 = .ok (.ireturn, 1) := by decide +kernel
theorem dX5_behindStatement_19 : decode cX5_behindStatement 19 = .ok (.aload_n 0, 1) := by decide +kernel
theorem dX5_behindStatement_20 : decode cX5_behindStatement 20 = .ok (.iload_n 1, 1) := by decide +kernel
theorem dX5_behindStatement_21 : decode cX5_behindStatement 21 = .ok (.invokevirtual 19, 3) := by decide +kernel
theorem dX5_behindStatement_24 : decode cX5_behindStatement 24 = .ok (.invokestatic 36, 3) := by decide +kernel
theorem dX5_behindStatement_27 : decode cX5_behindStatement 27 = .ok (.istore_n 3, 1) := by decide +kernel
theorem dX5_behindStatement_28 : decode cX5_behindStatement 28 = .ok (.iconst 0, 1) := by decide +kernel
theorem dX5_behindStatement_29 : decode cX5_behindStatement 29 = .ok (.istore 4, 2) := by decide +kernel
theorem dX5_behindStatement_31 : decode cX5_behindStatement 31 = .ok (.iload 4, 2) := by decide +kernel
theorem dX5_behindStatement_33 : decode cX5_behindStatement 33 = .ok (.iload_n 3, 1) := by decide +kernel
theorem dX5_behindStatement_34 : decode cX5_behindStatement 34 = .ok (.if_icmp .ge 22, 3) := by decide +kernel
theorem dX5_behindStatement_37 : decode cX5_behindStatement 37 = .ok (.aload_n 0, 1) := by decide +kernel
theorem dX5_behindStatement_38 : decode cX5_behindStatement 38 = .ok (.iload_n 1, 1) := by decide +kernel
theorem dX5_behindStatement_39 : decode cX5_behindStatement 39 = .ok (.iconst 1, 1) := by decide +kernel
theorem dX5_behindStatement_40 : decode cX5_behindStatement 40 = .ok (.iadd, 1) := by decide +kernel
theorem dX5_behindStatement_41 : decode cX5_behindStatement 41 = .ok (.iload 4, 2) := by decide +kernel
theorem dX5_behindStatement_43 : decode cX5_behindStatement 43 = .ok (.iadd, 1) := by decide +kernel
theorem dX5_behindStatement_44 : decode cX5_behindStatement 44 = .ok (.invokevirtual 23, 3) := by decide +kernel
theorem dX5_behindStatement_47 : decode cX5_behindStatement 47 = .ok (.ifCond .eq 9, 3) := by decide +kernel
theorem dX5_behindStatement_50 : decode cX5_behindStatement 50 = .ok (.iinc 4 1, 3) := by decide +kernel
theorem dX5_behindStatement_53 : decode cX5_behindStatement 53 = .ok (.goto (-22), 3) := by decide +kernel
theorem dX5_behindStatement_56 : decode cX5_behindStatement 56 = .ok (.iload_n 1, 1) := by decide +kernel
theorem dX5_behindStatement_57 : decode cX5_behindStatement 57 = .ok (.iconst 1, 1) := by decide +kernel
theorem dX5_behindStatement_58 : decode cX5_behindStatement 58 = .ok (.iadd, 1) := by decide +kernel
theorem dX5_behindStatement_59 : decode cX5_behindStatement 59 = .ok (.iload 4, 2) := by decide +kernel
theorem dX5_behindStatement_61 : decode cX5_behindStatement 61 = .ok (.iadd, 1) := by decide +kernel
theorem dX5_behindStatement_62 : decode cX5_behindStatement 62 = .ok (.istore 5, 2) := by decide +kernel
theorem dX5_behindStatement_64 : decode cX5_behindStatement 64 = .ok (.iload 4, 2) := by decide +kernel
theorem dX5_behindStatement_66 : decode cX5_behindStatement 66 = .ok (.iload_n 2, 1) := by decide +kernel
theorem dX5_behindStatement_67 : decode cX5_behindStatement 67 = .ok (.if_icmp .lt 21, 3) := by decide +kernel
theorem dX5_behindStatement_70 : decode cX5_behindStatement 70 = .ok (.aload_n 0, 1) := by decide +kernel
theorem dX5_behindStatement_71 : decode cX5_behindStatement 71 = .ok (.iload 5, 2) := by decide +kernel
theorem dX5_behindStatement_73 : decode cX5_behindStatement 73 = .ok (.invokevirtual 19, 3) := by decide +kernel
theorem dX5_behindStatement_76 : decode cX5_behindStatement 76 = .ok (.bipush 59, 2) := by decide +kernel
theorem dX5_behindStatement_78 : decode cX5_behindStatement 78 = .ok (.if_icmp .ne 10, 3) := by decide +kernel
theorem dX5_behindStatement_81 : decode cX5_behindStatement 81 = .ok (.iload 5, 2) := by decide +kernel
theorem dX5_behindStatement_83 : decode cX5_behindStatement 83 = .ok (.iconst 1, 1) := by decide +kernel
theorem dX5_behindStatement_84 : decode cX5_behindStatement 84 = .ok (.iadd, 1) := by decide +kernel
theorem dX5_behindStatement_85 : decode cX5_behindStatement 85 = .ok (.goto 9, 3) := by decide +kernel
theorem dX5_behindStatement_88 : decode cX5_behindStatement 88 = .ok (.sipush (-1000), 3) := by decide +kernel
theorem dX5_behindStatement_91 : decode cX5_behindStatement 91 = .ok (.iload 5, 2) := by decide +kernel
theorem dX5_behindStatement_93 : decode cX5_behindStatement 93 = .ok (.isub, 1) := by decide +kernel
theorem dX5_behindStatement_94 : decode cX5_behindStatement 94 = .ok (.ireturn, 1) := by decide +kernel
theorem dX5_leastDigits_0 : decode cX5_leastDigits 0 = .ok (.iload_n 0, 1) := by decide +kernel
theorem dX5_leastDigits_1 : decode cX5_leastDigits 1 = .ok (.lookupswitch 51 #[(99, 43), (100, 45), (112, 49), (114, 47)], 43) := by decide +kernel
theorem dX5_leastDigits_44 : decode cX5_leastDigits 44 = .ok (.iconst 4, 1) := by decide +kernel
theorem dX5_leastDigits_45 : decode cX5_leastDigits 45 = .ok (.ireturn, 1) := by decide +kernel
theorem dX5_leastDigits_46 : decode cX5_leastDigits 46 = .ok (.iconst 3, 1) := by decide +kernel
theorem dX5_leastDigits_47 : decode cX5_leastDigits 47 = .ok (.ireturn, 1) := by decide +kernel
theorem dX5_leastDigits_48 : decode cX5_leastDigits 48 = .ok (.iconst 2, 1) := by decide +kernel
theorem dX5_leastDigits_49 : decode cX5_leastDigits 49 = .ok (.ireturn, 1) := by decide +kernel
theorem dX5_leastDigits_50 : decode cX5_leastDigits 50 = .ok (.iconst 2, 1) := by decide +kernel
theorem dX5_leastDigits_51 : decode cX5_leastDigits 51 = .ok (.ireturn, 1) := by decide +kernel
theorem dX5_leastDigits_52 : decode cX5_leastDigits 52 = .ok (.iconst 0, 1) := by decide +kernel
theorem dX5_leastDigits_53 : decode cX5_leastDigits 53 = .ok (.ireturn, 1) := by decide +kernel
theorem dX5_mostDigits_0 : decode cX5_mostDigits 0 = .ok (.iload_n 0, 1) := by decide +kernel
theorem dX5_mostDigits_1 : decode cX5_mostDigits 1 = .ok (.bipush 99, 2) := by decide +kernel
theorem dX5_mostDigits_3 : decode cX5_mostDigits 3 = .ok (.if_icmp .eq 9, 3) := by decide +kernel
theorem dX5_mostDigits_6 : decode cX5_mostDigits 6 = .ok (.iload_n 0, 1) := by decide +kernel
theorem dX5_mostDigits_7 : decode cX5_mostDigits 7 = .ok (.bipush 100, 2) := by decide +kernel
theorem dX5_mostDigits_9 : decode cX5_mostDigits 9 = .ok (.if_icmp .ne 7, 3) := by decide +kernel
theorem dX5_mostDigits_12 : decode cX5_mostDigits 12 = .ok (.iconst 1, 1) := by decide +kernel
theorem dX5_mostDigits_13 : decode cX5_mostDigits 13 = .ok (.goto 4, 3) := by decide +kernel
theorem dX5_mostDigits_16 : decode cX5_mostDigits 16 = .ok (.iconst 0, 1) := by decide +kernel
theorem dX5_mostDigits_17 : decode cX5_mostDigits 17 = .ok (.istore_n 1, 1) := by decide +kernel
theorem dX5_mostDigits_18 : decode cX5_mostDigits 18 = .ok (.iload_n 0, 1) := by decide +kernel
theorem dX5_mostDigits_19 : decode cX5_mostDigits 19 = .ok (.invokestatic 33, 3) := by decide +kernel
theorem dX5_mostDigits_22 : decode cX5_mostDigits 22 = .ok (.iload_n 1, 1) := by decide +kernel
theorem dX5_mostDigits_23 : decode cX5_mostDigits 23 = .ok (.ifCond .eq 7, 3) := by decide +kernel
theorem dX5_mostDigits_26 : decode cX5_mostDigits 26 = .ok (.iconst 2, 1) := by decide +kernel
theorem dX5_mostDigits_27 : decode cX5_mostDigits 27 = .ok (.goto 4, 3) := by decide +kernel
theorem dX5_mostDigits_30 : decode cX5_mostDigits 30 = .ok (.iconst 0, 1) := by decide +kernel
theorem dX5_mostDigits_31 : decode cX5_mostDigits 31 = .ok (.iadd, 1) := by decide +kernel
theorem dX5_mostDigits_32 : decode cX5_mostDigits 32 = .ok (.ireturn, 1) := by decide +kernel
theorem dX6_init_0 : decode cX6_init 0 = .ok (.aload_n 0, 1) := by decide +kernel
theorem dX6_init_1 : decode cX6_init 1 = .ok (.invokespecial 1, 3) := by decide +kernel
theorem dX6_init_4 : decode cX6_init 4 = .ok (.return_, 1) := by decide +kernel
theorem dX6_rate_0 : decode cX6_rate 0 = .ok (.iconst 1, 1) := by decide +kernel
theorem dX6_rate_1 : decode cX6_rate 1 = .ok (.aload_n 0, 1) := by decide +kernel
theorem dX6_rate_2 : decode cX6_rate 2 = .ok (.iload_n 1, 1) := by decide +kernel
theorem dX6_rate_3 : decode cX6_rate 3 = .ok (.iload_n 2, 1) := by decide +kernel
theorem dX6_rate_4 : decode cX6_rate 4 = .ok (.invokespecial 7, 3) := by decide +kernel
theorem dX6_rate_7 : decode cX6_rate 7 = .ok (.iload_n 1, 1) := by decide +kernel
theorem dX6_rate_8 : decode cX6_rate 8 = .ok (.isub, 1) := by decide +kernel
theorem dX6_rate_9 : decode cX6_rate 9 = .ok (.invokestatic 11, 3) := by decide +kernel
theorem dX6_rate_12 : decode cX6_rate 12 = .ok (.ireturn, 1) := by decide +kernel
theorem dX6_drips_0 : decode cX6_drips 0 = .ok (.iconst 0, 1) := by decide +kernel
theorem dX6_drips_1 : decode cX6_drips 1 = .ok (.aload_n 0, 1) := by decide +kernel
theorem dX6_drips_2 : decode cX6_drips 2 = .ok (.iload_n 1, 1) := by decide +kernel
theorem dX6_drips_3 : decode cX6_drips 3 = .ok (.iload_n 2, 1) := by decide +kernel
theorem dX6_drips_4 : decode cX6_drips 4 = .ok (.iload_n 3, 1) := by decide +kernel
theorem dX6_drips_5 : decode cX6_drips 5 = .ok (.invokespecial 16, 3) := by decide +kernel
theorem dX6_drips_8 : decode cX6_drips 8 = .ok (.iload_n 2, 1) := by decide +kernel
theorem dX6_drips_9 : decode cX6_drips 9 = .ok (.isub, 1) := by decide +kernel
theorem dX6_drips_10 : decode cX6_drips 10 = .ok (.invokestatic 11, 3) := by decide +kernel
theorem dX6_drips_13 : decode cX6_drips 13 = .ok (.ireturn, 1) := by decide +kernel
theorem dX7_init_0 : decode cX7_init 0 = .ok (.aload_n 0, 1) := by decide +kernel
theorem dX7_init_1 : decode cX7_init 1 = .ok (.invokespecial 1, 3) := by decide +kernel
theorem dX7_init_4 : decode cX7_init 4 = .ok (.return_, 1) := by decide +kernel
theorem dX7_rate_0 : decode cX7_rate 0 = .ok (.aload_n 0, 1) := by decide +kernel
theorem dX7_rate_1 : decode cX7_rate 1 = .ok (.iload_n 1, 1) := by decide +kernel
theorem dX7_rate_2 : decode cX7_rate 2 = .ok (.iload_n 2, 1) := by decide +kernel
theorem dX7_rate_3 : decode cX7_rate 3 = .ok (.invokespecial 7, 3) := by decide +kernel
theorem dX7_rate_6 : decode cX7_rate 6 = .ok (.iload_n 1, 1) := by decide +kernel
theorem dX7_rate_7 : decode cX7_rate 7 = .ok (.iadd, 1) := by decide +kernel
theorem dX7_rate_8 : decode cX7_rate 8 = .ok (.ireturn, 1) := by decide +kernel
theorem dX8_init_0 : decode cX8_init 0 = .ok (.aload_n 0, 1) := by decide +kernel
theorem dX8_init_1 : decode cX8_init 1 = .ok (.invokespecial 1, 3) := by decide +kernel
theorem dX8_init_4 : decode cX8_init 4 = .ok (.return_, 1) := by decide +kernel
theorem dX8_rate_0 : decode cX8_rate 0 = .ok (.iconst 3, 1) := by decide +kernel
theorem dX8_rate_1 : decode cX8_rate 1 = .ok (.iload_n 2, 1) := by decide +kernel
theorem dX8_rate_2 : decode cX8_rate 2 = .ok (.iconst 3, 1) := by decide +kernel
theorem dX8_rate_3 : decode cX8_rate 3 = .ok (.idiv, 1) := by decide +kernel
theorem dX8_rate_4 : decode cX8_rate 4 = .ok (.iadd, 1) := by decide +kernel
theorem dX8_rate_5 : decode cX8_rate 5 = .ok (.ireturn, 1) := by decide +kernel
theorem dX8_drips_0 : decode cX8_drips 0 = .ok (.iload_n 3, 1) := by decide +kernel
theorem dX8_drips_1 : decode cX8_drips 1 = .ok (.iload_n 1, 1) := by decide +kernel
theorem dX8_drips_2 : decode cX8_drips 2 = .ok (.imul, 1) := by decide +kernel
theorem dX8_drips_3 : decode cX8_drips 3 = .ok (.bipush 20, 2) := by decide +kernel
theorem dX8_drips_5 : decode cX8_drips 5 = .ok (.idiv, 1) := by decide +kernel
theorem dX8_drips_6 : decode cX8_drips 6 = .ok (.ireturn, 1) := by decide +kernel
theorem dX8_worthOfClean_0 : decode cX8_worthOfClean 0 = .ok (.iload_n 1, 1) := by decide +kernel
theorem dX8_worthOfClean_1 : decode cX8_worthOfClean 1 = .ok (.ireturn, 1) := by decide +kernel
theorem dX8_worth_0 : decode cX8_worth 0 = .ok (.aload_n 0, 1) := by decide +kernel
theorem dX8_worth_1 : decode cX8_worth 1 = .ok (.iload_n 1, 1) := by decide +kernel
theorem dX8_worth_2 : decode cX8_worth 2 = .ok (.aload_n 0, 1) := by decide +kernel
theorem dX8_worth_3 : decode cX8_worth 3 = .ok (.iload_n 1, 1) := by decide +kernel
theorem dX8_worth_4 : decode cX8_worth 4 = .ok (.iload_n 2, 1) := by decide +kernel
theorem dX8_worth_5 : decode cX8_worth 5 = .ok (.iload_n 3, 1) := by decide +kernel
theorem dX8_worth_6 : decode cX8_worth 6 = .ok (.invokevirtual 7, 3) := by decide +kernel
theorem dX8_worth_9 : decode cX8_worth 9 = .ok (.isub, 1) := by decide +kernel
theorem dX8_worth_10 : decode cX8_worth 10 = .ok (.invokevirtual 13, 3) := by decide +kernel
theorem dX8_worth_13 : decode cX8_worth 13 = .ok (.ireturn, 1) := by decide +kernel
theorem dX9_init_0 : decode cX9_init 0 = .ok (.aload_n 0, 1) := by decide +kernel
theorem dX9_init_1 : decode cX9_init 1 = .ok (.invokespecial 3, 3) := by decide +kernel
theorem dX9_init_4 : decode cX9_init 4 = .ok (.aload_n 0, 1) := by decide +kernel
theorem dX9_init_5 : decode cX9_init 5 = .ok (.bipush 16, 2) := by decide +kernel
theorem dX9_init_7 : decode cX9_init 7 = .ok (.newarray .int, 2) := by decide +kernel
theorem dX9_init_9 : decode cX9_init 9 = .ok (.putfield 9, 3) := by decide +kernel
theorem dX9_init_12 : decode cX9_init 12 = .ok (.aload_n 0, 1) := by decide +kernel
theorem dX9_init_13 : decode cX9_init 13 = .ok (.bipush 24, 2) := by decide +kernel
theorem dX9_init_15 : decode cX9_init 15 = .ok (.newarray .int, 2) := by decide +kernel
theorem dX9_init_17 : decode cX9_init 17 = .ok (.putfield 15, 3) := by decide +kernel
theorem dX9_init_20 : decode cX9_init 20 = .ok (.aload_n 0, 1) := by decide +kernel
theorem dX9_init_21 : decode cX9_init 21 = .ok (.bipush 7, 2) := by decide +kernel
theorem dX9_init_23 : decode cX9_init 23 = .ok (.newarray .int, 2) := by decide +kernel
theorem dX9_init_25 : decode cX9_init 25 = .ok (.putfield 18, 3) := by decide +kernel
theorem dX9_init_28 : decode cX9_init 28 = .ok (.aload_n 0, 1) := by decide +kernel
theorem dX9_init_29 : decode cX9_init 29 = .ok (.bipush 6, 2) := by decide +kernel
theorem dX9_init_31 : decode cX9_init 31 = .ok (.newarray .int, 2) := by decide +kernel
theorem dX9_init_33 : decode cX9_init 33 = .ok (.putfield 21, 3) := by decide +kernel
theorem dX9_init_36 : decode cX9_init 36 = .ok (.aload_n 0, 1) := by decide +kernel
theorem dX9_init_37 : decode cX9_init 37 = .ok (.bipush 6, 2) := by decide +kernel
theorem dX9_init_39 : decode cX9_init 39 = .ok (.newarray .int, 2) := by decide +kernel
theorem dX9_init_41 : decode cX9_init 41 = .ok (.putfield 24, 3) := by decide +kernel
theorem dX9_init_44 : decode cX9_init 44 = .ok (.return_, 1) := by decide +kernel
theorem dX9_find_0 : decode cX9_find 0 = .ok (.aload_n 1, 1) := by decide +kernel
theorem dX9_find_1 : decode cX9_find 1 = .ok (.getfield 27, 3) := by decide +kernel
theorem dX9_find_4 : decode cX9_find 4 = .ok (.iconst 0, 1) := by decide +kernel
theorem dX9_find_5 : decode cX9_find 5 = .ok (.aload_n 0, 1) := by decide +kernel
theorem dX9_find_6 : decode cX9_find 6 = .ok (.getfield 9, 3) := by decide +kernel
theorem dX9_find_9 : decode cX9_find 9 = .ok (.iconst 0, 1) := by decide +kernel
theorem dX9_find_10 : decode cX9_find 10 = .ok (.aload_n 0, 1) := by decide +kernel
theorem dX9_find_11 : decode cX9_find 11 = .ok (.getfield 9, 3) := by decide +kernel
theorem dX9_find_14 : decode cX9_find 14 = .ok (.arraylength, 1) := by decide +kernel
theorem dX9_find_15 : decode cX9_find 15 = .ok (.invokestatic 30, 3) := by decide +kernel
theorem dX9_find_18 : decode cX9_find 18 = .ok (.aload_n 0, 1) := by decide +kernel
theorem dX9_find_19 : decode cX9_find 19 = .ok (.getfield 18, 3) := by decide +kernel
theorem dX9_find_22 : decode cX9_find 22 = .ok (.aload_n 1, 1) := by decide +kernel
theorem dX9_find_23 : decode cX9_find 23 = .ok (.getfield 36, 3) := by decide +kernel
theorem dX9_find_26 : decode cX9_find 26 = .ok (.iconst 0, 1) := by decide +kernel
theorem dX9_find_27 : decode cX9_find 27 = .ok (.iastore, 1) := by decide +kernel
theorem dX9_find_28 : decode cX9_find 28 = .ok (.aload_n 1, 1) := by decide +kernel
theorem dX9_find_29 : decode cX9_find 29 = .ok (.getfield 36, 3) := by decide +kernel
theorem dX9_find_32 : decode cX9_find 32 = .ok (.iconst 1, 1) := by decide +kernel
theorem dX9_find_33 : decode cX9_find 33 = .ok (.isub, 1) := by decide +kernel
theorem dX9_find_34 : decode cX9_find 34 = .ok (.istore_n 3, 1) := by decide +kernel
theorem dX9_find_35 : decode cX9_find 35 = .ok (.iload_n 3, 1) := by decide +kernel
theorem dX9_find_36 : decode cX9_find 36 = .ok (.ifCond .lt 16, 3) := by decide +kernel
theorem dX9_find_39 : decode cX9_find 39 = .ok (.aload_n 0, 1) := by decide +kernel
theorem dX9_find_40 : decode cX9_find 40 = .ok (.aload_n 1, 1) := by decide +kernel
theorem dX9_find_41 : decode cX9_find 41 = .ok (.iload_n 3, 1) := by decide +kernel
theorem dX9_find_42 : decode cX9_find 42 = .ok (.iload_n 2, 1) := by decide +kernel
theorem dX9_find_43 : decode cX9_find 43 = .ok (.invokevirtual 40, 3) := by decide +kernel
theorem dX9_find_46 : decode cX9_find 46 = .ok (.iinc 3 (-1), 3) := by decide +kernel
theorem dX9_find_49 : decode cX9_find 49 = .ok (.goto (-14), 3) := by decide +kernel
theorem dX9_find_52 : decode cX9_find 52 = .ok (.aload_n 0, 1) := by decide +kernel
theorem dX9_find_53 : decode cX9_find 53 = .ok (.aload_n 1, 1) := by decide +kernel
theorem dX9_find_54 : decode cX9_find 54 = .ok (.invokevirtual 44, 3) := by decide +kernel
theorem dX9_find_57 : decode cX9_find 57 = .ok (.iconst 1, 1) := by decide +kernel
theorem dX9_find_58 : decode cX9_find 58 = .ok (.iadd, 1) := by decide +kernel
theorem dX9_find_59 : decode cX9_find 59 = .ok (.putfield 48, 3) := by decide +kernel
theorem dX9_find_62 : decode cX9_find 62 = .ok (.aload_n 0, 1) := by decide +kernel
theorem dX9_find_63 : decode cX9_find 63 = .ok (.aload_n 1, 1) := by decide +kernel
theorem dX9_find_64 : decode cX9_find 64 = .ok (.iconst 0, 1) := by decide +kernel
theorem dX9_find_65 : decode cX9_find 65 = .ok (.aload_n 1, 1) := by decide +kernel
theorem dX9_find_66 : decode cX9_find 66 = .ok (.invokevirtual 44, 3) := by decide +kernel
theorem dX9_find_69 : decode cX9_find 69 = .ok (.invokestatic 51, 3) := by decide +kernel
theorem dX9_find_72 : decode cX9_find 72 = .ok (.return_, 1) := by decide +kernel
theorem dX9_weigh_0 : decode cX9_weigh 0 = .ok (.iconst 0, 1) := by decide +kernel
theorem dX9_weigh_1 : decode cX9_weigh 1 = .ok (.istore 4, 2) := by decide +kernel
theorem dX9_weigh_3 : decode cX9_weigh 3 = .ok (.iconst 0, 1) := by decide +kernel
theorem dX9_weigh_4 : decode cX9_weigh 4 = .ok (.istore 5, 2) := by decide +kernel
theorem dX9_weigh_6 : decode cX9_weigh 6 = .ok (.iload 5, 2) := by decide +kernel
theorem dX9_weigh_8 : decode cX9_weigh 8 = .ok (.iconst 4, 1) := by decide +kernel
theorem dX9_weigh_9 : decode cX9_weigh 9 = .ok (.if_icmp .ge 41, 3) := by decide +kernel
theorem dX9_weigh_12 : decode cX9_weigh 12 = .ok (.aload_n 1, 1) := by decide +kernel
theorem dX9_weigh_13 : decode cX9_weigh 13 = .ok (.iload_n 2, 1) := by decide +kernel
theorem dX9_weigh_14 : decode cX9_weigh 14 = .ok (.iload 5, 2) := by decide +kernel
theorem dX9_weigh_16 : decode cX9_weigh 16 = .ok (.iload_n 3, 1) := by decide +kernel
theorem dX9_weigh_17 : decode cX9_weigh 17 = .ok (.invokestatic 55, 3) := by decide +kernel
theorem dX9_weigh_20 : decode cX9_weigh 20 = .ok (.istore 6, 2) := by decide +kernel
theorem dX9_weigh_22 : decode cX9_weigh 22 = .ok (.aload_n 0, 1) := by decide +kernel
theorem dX9_weigh_23 : decode cX9_weigh 23 = .ok (.getfield 15, 3) := by decide +kernel
theorem dX9_weigh_26 : decode cX9_weigh 26 = .ok (.iload_n 2, 1) := by decide +kernel
theorem dX9_weigh_27 : decode cX9_weigh 27 = .ok (.iload 5, 2) := by decide +kernel
theorem dX9_weigh_29 : decode cX9_weigh 29 = .ok (.invokestatic 59, 3) := by decide +kernel
theorem dX9_weigh_32 : decode cX9_weigh 32 = .ok (.iload 6, 2) := by decide +kernel
theorem dX9_weigh_34 : decode cX9_weigh 34 = .ok (.iastore, 1) := by decide +kernel
theorem dX9_weigh_35 : decode cX9_weigh 35 = .ok (.iload 4, 2) := by decide +kernel
theorem dX9_weigh_37 : decode cX9_weigh 37 = .ok (.iload 6, 2) := by decide +kernel
theorem dX9_weigh_39 : decode cX9_weigh 39 = .ok (.invokestatic 63, 3) := by decide +kernel
theorem dX9_weigh_42 : decode cX9_weigh 42 = .ok (.istore 4, 2) := by decide +kernel
theorem dX9_weigh_44 : decode cX9_weigh 44 = .ok (.iinc 5 1, 3) := by decide +kernel
theorem dX9_weigh_47 : decode cX9_weigh 47 = .ok (.goto (-41), 3) := by decide +kernel
theorem dX9_weigh_50 : decode cX9_weigh 50 = .ok (.aload_n 0, 1) := by decide +kernel
theorem dX9_weigh_51 : decode cX9_weigh 51 = .ok (.getfield 18, 3) := by decide +kernel
theorem dX9_weigh_54 : decode cX9_weigh 54 = .ok (.iload_n 2, 1) := by decide +kernel
theorem dX9_weigh_55 : decode cX9_weigh 55 = .ok (.aload_n 0, 1) := by decide +kernel
theorem dX9_weigh_56 : decode cX9_weigh 56 = .ok (.getfield 18, 3) := by decide +kernel
theorem dX9_weigh_59 : decode cX9_weigh 59 = .ok (.iload_n 2, 1) := by decide +kernel
theorem dX9_weigh_60 : decode cX9_weigh 60 = .ok (.iconst 1, 1) := by decide +kernel
theorem dX9_weigh_61 : decode cX9_weigh 61 = .ok (.iadd, 1) := by decide +kernel
theorem dX9_weigh_62 : decode cX9_weigh 62 = .ok (.iaload, 1) := by decide +kernel
theorem dX9_weigh_63 : decode cX9_weigh 63 = .ok (.iload 4, 2) := by decide +kernel
theorem dX9_weigh_65 : decode cX9_weigh 65 = .ok (.iadd, 1) := by decide +kernel
theorem dX9_weigh_66 : decode cX9_weigh 66 = .ok (.iastore, 1) := by decide +kernel
theorem dX9_weigh_67 : decode cX9_weigh 67 = .ok (.return_, 1) := by decide +kernel
theorem dX9_worthIn_0 : decode cX9_worthIn 0 = .ok (.aload_n 0, 1) := by decide +kernel
theorem dX9_worthIn_1 : decode cX9_worthIn 1 = .ok (.getfield 68, 3) := by decide +kernel
theorem dX9_worthIn_4 : decode cX9_worthIn 4 = .ok (.iload_n 1, 1) := by decide +kernel
theorem dX9_worthIn_5 : decode cX9_worthIn 5 = .ok (.aaload, 1) := by decide +kernel
theorem dX9_worthIn_6 : decode cX9_worthIn 6 = .ok (.astore 4, 2) := by decide +kernel
theorem dX9_worthIn_8 : decode cX9_worthIn 8 = .ok (.aload_n 0, 1) := by decide +kernel
theorem dX9_worthIn_9 : decode cX9_worthIn 9 = .ok (.getfield 72, 3) := by decide +kernel
theorem dX9_worthIn_12 : decode cX9_worthIn 12 = .ok (.aload 4, 2) := by decide +kernel
theorem dX9_worthIn_14 : decode cX9_worthIn 14 = .ok (.getfield 76, 3) := by decide +kernel
theorem dX9_worthIn_17 : decode cX9_worthIn 17 = .ok (.aaload, 1) := by decide +kernel
theorem dX9_worthIn_18 : decode cX9_worthIn 18 = .ok (.astore 5, 2) := by decide +kernel
theorem dX9_worthIn_20 : decode cX9_worthIn 20 = .ok (.aload_n 0, 1) := by decide +kernel
theorem dX9_worthIn_21 : decode cX9_worthIn 21 = .ok (.getfield 81, 3) := by decide +kernel
theorem dX9_worthIn_24 : decode cX9_worthIn 24 = .ok (.iload_n 2, 1) := by decide +kernel
theorem dX9_worthIn_25 : decode cX9_worthIn 25 = .ok (.iaload, 1) := by decide +kernel
theorem dX9_worthIn_26 : decode cX9_worthIn 26 = .ok (.istore 6, 2) := by decide +kernel
theorem dX9_worthIn_28 : decode cX9_worthIn 28 = .ok (.aload 5, 2) := by decide +kernel
theorem dX9_worthIn_30 : decode cX9_worthIn 30 = .ok (.aload 4, 2) := by decide +kernel
theorem dX9_worthIn_32 : decode cX9_worthIn 32 = .ok (.getfield 84, 3) := by decide +kernel
theorem dX9_worthIn_35 : decode cX9_worthIn 35 = .ok (.iload 6, 2) := by decide +kernel
theorem dX9_worthIn_37 : decode cX9_worthIn 37 = .ok (.invokevirtual 87, 3) := by decide +kernel
theorem dX9_worthIn_40 : decode cX9_worthIn 40 = .ok (.istore 7, 2) := by decide +kernel
theorem dX9_worthIn_42 : decode cX9_worthIn 42 = .ok (.aload 4, 2) := by decide +kernel
theorem dX9_worthIn_44 : decode cX9_worthIn 44 = .ok (.getfield 92, 3) := by decide +kernel
theorem dX9_worthIn_47 : decode cX9_worthIn 47 = .ok (.istore 8, 2) := by decide +kernel
theorem dX9_worthIn_49 : decode cX9_worthIn 49 = .ok (.iconst 0, 1) := by decide +kernel
theorem dX9_worthIn_50 : decode cX9_worthIn 50 = .ok (.istore 9, 2) := by decide +kernel
theorem dX9_worthIn_52 : decode cX9_worthIn 52 = .ok (.iconst 0, 1) := by decide +kernel
theorem dX9_worthIn_53 : decode cX9_worthIn 53 = .ok (.istore 10, 2) := by decide +kernel
theorem dX9_worthIn_55 : decode cX9_worthIn 55 = .ok (.iload 10, 2) := by decide +kernel
theorem dX9_worthIn_57 : decode cX9_worthIn 57 = .ok (.iload_n 3, 1) := by decide +kernel
theorem dX9_worthIn_58 : decode cX9_worthIn 58 = .ok (.if_icmp .ge 49, 3) := by decide +kernel
theorem dX9_worthIn_61 : decode cX9_worthIn 61 = .ok (.iload 8, 2) := by decide +kernel
theorem dX9_worthIn_63 : decode cX9_worthIn 63 = .ok (.ifCond .le 44, 3) := by decide +kernel
theorem dX9_worthIn_66 : decode cX9_worthIn 66 = .ok (.iload 7, 2) := by decide +kernel
theorem dX9_worthIn_68 : decode cX9_worthIn 68 = .ok (.iload 8, 2) := by decide +kernel
theorem dX9_worthIn_70 : decode cX9_worthIn 70 = .ok (.invokestatic 95, 3) := by decide +kernel
theorem dX9_worthIn_73 : decode cX9_worthIn 73 = .ok (.istore 11, 2) := by decide +kernel
theorem dX9_worthIn_75 : decode cX9_worthIn 75 = .ok (.iload 9, 2) := by decide +kernel
theorem dX9_worthIn_77 : decode cX9_worthIn 77 = .ok (.aload 5, 2) := by decide +kernel
theorem dX9_worthIn_79 : decode cX9_worthIn 79 = .ok (.iload 11, 2) := by decide +kernel
theorem dX9_worthIn_81 : decode cX9_worthIn 81 = .ok (.aload 4, 2) := by decide +kernel
theorem dX9_worthIn_83 : decode cX9_worthIn 83 = .ok (.getfield 84, 3) := by decide +kernel
theorem dX9_worthIn_86 : decode cX9_worthIn 86 = .ok (.iload 6, 2) := by decide +kernel
theorem dX9_worthIn_88 : decode cX9_worthIn 88 = .ok (.invokevirtual 98, 3) := by decide +kernel
theorem dX9_worthIn_91 : decode cX9_worthIn 91 = .ok (.iadd, 1) := by decide +kernel
theorem dX9_worthIn_92 : decode cX9_worthIn 92 = .ok (.istore 9, 2) := by decide +kernel
theorem dX9_worthIn_94 : decode cX9_worthIn 94 = .ok (.iload 8, 2) := by decide +kernel
theorem dX9_worthIn_96 : decode cX9_worthIn 96 = .ok (.iload 11, 2) := by decide +kernel
theorem dX9_worthIn_98 : decode cX9_worthIn 98 = .ok (.isub, 1) := by decide +kernel
theorem dX9_worthIn_99 : decode cX9_worthIn 99 = .ok (.istore 8, 2) := by decide +kernel
theorem dX9_worthIn_101 : decode cX9_worthIn 101 = .ok (.iinc 10 1, 3) := by decide +kernel
theorem dX9_worthIn_104 : decode cX9_worthIn 104 = .ok (.goto (-49), 3) := by decide +kernel
theorem dX9_worthIn_107 : decode cX9_worthIn 107 = .ok (.iload 9, 2) := by decide +kernel
theorem dX9_worthIn_109 : decode cX9_worthIn 109 = .ok (.ireturn, 1) := by decide +kernel
theorem dX9_tryRooms_0 : decode cX9_tryRooms 0 = .ok (.iload_n 2, 1) := by decide +kernel
theorem dX9_tryRooms_1 : decode cX9_tryRooms 1 = .ok (.aload_n 1, 1) := by decide +kernel
theorem dX9_tryRooms_2 : decode cX9_tryRooms 2 = .ok (.getfield 36, 3) := by decide +kernel
theorem dX9_tryRooms_5 : decode cX9_tryRooms 5 = .ok (.if_icmp .gt 18, 3) := by decide +kernel
theorem dX9_tryRooms_8 : decode cX9_tryRooms 8 = .ok (.iload_n 3, 1) := by decide +kernel
theorem dX9_tryRooms_9 : decode cX9_tryRooms 9 = .ok (.aload_n 0, 1) := by decide +kernel
theorem dX9_tryRooms_10 : decode cX9_tryRooms 10 = .ok (.getfield 18, 3) := by decide +kernel
theorem dX9_tryRooms_13 : decode cX9_tryRooms 13 = .ok (.iload_n 2, 1) := by decide +kernel
theorem dX9_tryRooms_14 : decode cX9_tryRooms 14 = .ok (.iaload, 1) := by decide +kernel
theorem dX9_tryRooms_15 : decode cX9_tryRooms 15 = .ok (.isub, 1) := by decide +kernel
theorem dX9_tryRooms_16 : decode cX9_tryRooms 16 = .ok (.aload_n 0, 1) := by decide +kernel
theorem dX9_tryRooms_17 : decode cX9_tryRooms 17 = .ok (.getfield 48, 3) := by decide +kernel
theorem dX9_tryRooms_20 : decode cX9_tryRooms 20 = .ok (.if_icmp .lt 4, 3) := by decide +kernel
theorem dX9_tryRooms_23 : decode cX9_tryRooms 23 = .ok (.return_, 1) := by decide +kernel
theorem dX9_tryRooms_24 : decode cX9_tryRooms 24 = .ok (.iload_n 2, 1) := by decide +kernel
theorem dX9_tryRooms_25 : decode cX9_tryRooms 25 = .ok (.aload_n 1, 1) := by decide +kernel
theorem dX9_tryRooms_26 : decode cX9_tryRooms 26 = .ok (.getfield 36, 3) := by decide +kernel
theorem dX9_tryRooms_29 : decode cX9_tryRooms 29 = .ok (.if_icmp .ne 24, 3) := by decide +kernel
theorem dX9_tryRooms_32 : decode cX9_tryRooms 32 = .ok (.aload_n 0, 1) := by decide +kernel
theorem dX9_tryRooms_33 : decode cX9_tryRooms 33 = .ok (.iload_n 3, 1) := by decide +kernel
theorem dX9_tryRooms_34 : decode cX9_tryRooms 34 = .ok (.putfield 48, 3) := by decide +kernel
theorem dX9_tryRooms_37 : decode cX9_tryRooms 37 = .ok (.aload_n 0, 1) := by decide +kernel
theorem dX9_tryRooms_38 : decode cX9_tryRooms 38 = .ok (.getfield 21, 3) := by decide +kernel
theorem dX9_tryRooms_41 : decode cX9_tryRooms 41 = .ok (.iconst 0, 1) := by decide +kernel
theorem dX9_tryRooms_42 : decode cX9_tryRooms 42 = .ok (.aload_n 0, 1) := by decide +kernel
theorem dX9_tryRooms_43 : decode cX9_tryRooms 43 = .ok (.getfield 24, 3) := by decide +kernel
theorem dX9_tryRooms_46 : decode cX9_tryRooms 46 = .ok (.iconst 0, 1) := by decide +kernel
theorem dX9_tryRooms_47 : decode cX9_tryRooms 47 = .ok (.bipush 6, 2) := by decide +kernel
theorem dX9_tryRooms_49 : decode cX9_tryRooms 49 = .ok (.invokestatic 30, 3) := by decide +kernel
theorem dX9_tryRooms_52 : decode cX9_tryRooms 52 = .ok (.return_, 1) := by decide +kernel
theorem dX9_tryRooms_53 : decode cX9_tryRooms 53 = .ok (.aload_n 1, 1) := by decide +kernel
theorem dX9_tryRooms_54 : decode cX9_tryRooms 54 = .ok (.getfield 68, 3) := by decide +kernel
theorem dX9_tryRooms_57 : decode cX9_tryRooms 57 = .ok (.iload_n 2, 1) := by decide +kernel
theorem dX9_tryRooms_58 : decode cX9_tryRooms 58 = .ok (.aaload, 1) := by decide +kernel
theorem dX9_tryRooms_59 : decode cX9_tryRooms 59 = .ok (.getfield 102, 3) := by decide +kernel
theorem dX9_tryRooms_62 : decode cX9_tryRooms 62 = .ok (.istore 4, 2) := by decide +kernel
theorem dX9_tryRooms_64 : decode cX9_tryRooms 64 = .ok (.iconst 0, 1) := by decide +kernel
theorem dX9_tryRooms_65 : decode cX9_tryRooms 65 = .ok (.istore 5, 2) := by decide +kernel
theorem dX9_tryRooms_67 : decode cX9_tryRooms 67 = .ok (.iload 5, 2) := by decide +kernel
theorem dX9_tryRooms_69 : decode cX9_tryRooms 69 = .ok (.iconst 4, 1) := by decide +kernel
theorem dX9_tryRooms_70 : decode cX9_tryRooms 70 = .ok (.if_icmp .ge 91, 3) := by decide +kernel
theorem dX9_tryRooms_73 : decode cX9_tryRooms 73 = .ok (.aload_n 0, 1) := by decide +kernel
theorem dX9_tryRooms_74 : decode cX9_tryRooms 74 = .ok (.getfield 9, 3) := by decide +kernel
theorem dX9_tryRooms_77 : decode cX9_tryRooms 77 = .ok (.iload 4, 2) := by decide +kernel
theorem dX9_tryRooms_79 : decode cX9_tryRooms 79 = .ok (.iload 5, 2) := by decide +kernel
theorem dX9_tryRooms_81 : decode cX9_tryRooms 81 = .ok (.invokestatic 59, 3) := by decide +kernel
theorem dX9_tryRooms_84 : decode cX9_tryRooms 84 = .ok (.iaload, 1) := by decide +kernel
theorem dX9_tryRooms_85 : decode cX9_tryRooms 85 = .ok (.aload_n 0, 1) := by decide +kernel
theorem dX9_tryRooms_86 : decode cX9_tryRooms 86 = .ok (.getfield 15, 3) := by decide +kernel
theorem dX9_tryRooms_89 : decode cX9_tryRooms 89 = .ok (.iload_n 2, 1) := by decide +kernel
theorem dX9_tryRooms_90 : decode cX9_tryRooms 90 = .ok (.iload 5, 2) := by decide +kernel
theorem dX9_tryRooms_92 : decode cX9_tryRooms 92 = .ok (.invokestatic 59, 3) := by decide +kernel
theorem dX9_tryRooms_95 : decode cX9_tryRooms 95 = .ok (.iaload, 1) := by decide +kernel
theorem dX9_tryRooms_96 : decode cX9_tryRooms 96 = .ok (.invokestatic 95, 3) := by decide +kernel
theorem dX9_tryRooms_99 : decode cX9_tryRooms 99 = .ok (.istore 6, 2) := by decide +kernel
theorem dX9_tryRooms_101 : decode cX9_tryRooms 101 = .ok (.aload_n 0, 1) := by decide +kernel
theorem dX9_tryRooms_102 : decode cX9_tryRooms 102 = .ok (.getfield 21, 3) := by decide +kernel
theorem dX9_tryRooms_105 : decode cX9_tryRooms 105 = .ok (.iload_n 2, 1) := by decide +kernel
theorem dX9_tryRooms_106 : decode cX9_tryRooms 106 = .ok (.iload 5, 2) := by decide +kernel
theorem dX9_tryRooms_108 : decode cX9_tryRooms 108 = .ok (.iastore, 1) := by decide +kernel
theorem dX9_tryRooms_109 : decode cX9_tryRooms 109 = .ok (.aload_n 0, 1) := by decide +kernel
theorem dX9_tryRooms_110 : decode cX9_tryRooms 110 = .ok (.getfield 9, 3) := by decide +kernel
theorem dX9_tryRooms_113 : decode cX9_tryRooms 113 = .ok (.iload 4, 2) := by decide +kernel
theorem dX9_tryRooms_115 : decode cX9_tryRooms 115 = .ok (.iload 5, 2) := by decide +kernel
theorem dX9_tryRooms_117 : decode cX9_tryRooms 117 = .ok (.invokestatic 59, 3) := by decide +kernel
theorem dX9_tryRooms_120 : decode cX9_tryRooms 120 = .ok (.dup2, 1) := by decide +kernel
theorem dX9_tryRooms_121 : decode cX9_tryRooms 121 = .ok (.iaload, 1) := by decide +kernel
theorem dX9_tryRooms_122 : decode cX9_tryRooms 122 = .ok (.iload 6, 2) := by decide +kernel
theorem dX9_tryRooms_124 : decode cX9_tryRooms 124 = .ok (.isub, 1) := by decide +kernel
theorem dX9_tryRooms_125 : decode cX9_tryRooms 125 = .ok (.iastore, 1) := by decide +kernel
theorem dX9_tryRooms_126 : decode cX9_tryRooms 126 = .ok (.aload_n 0, 1) := by decide +kernel
theorem dX9_tryRooms_127 : decode cX9_tryRooms 127 = .ok (.aload_n 1, 1) := by decide +kernel
theorem dX9_tryRooms_128 : decode cX9_tryRooms 128 = .ok (.iload_n 2, 1) := by decide +kernel
theorem dX9_tryRooms_129 : decode cX9_tryRooms 129 = .ok (.iconst 1, 1) := by decide +kernel
theorem dX9_tryRooms_130 : decode cX9_tryRooms 130 = .ok (.iadd, 1) := by decide +kernel
theorem dX9_tryRooms_131 : decode cX9_tryRooms 131 = .ok (.iload_n 3, 1) := by decide +kernel
theorem dX9_tryRooms_132 : decode cX9_tryRooms 132 = .ok (.iload 6, 2) := by decide +kernel
theorem dX9_tryRooms_134 : decode cX9_tryRooms 134 = .ok (.isub, 1) := by decide +kernel
theorem dX9_tryRooms_135 : decode cX9_tryRooms 135 = .ok (.invokestatic 51, 3) := by decide +kernel
theorem dX9_tryRooms_138 : decode cX9_tryRooms 138 = .ok (.aload_n 0, 1) := by decide +kernel
theorem dX9_tryRooms_139 : decode cX9_tryRooms 139 = .ok (.getfield 9, 3) := by decide +kernel
theorem dX9_tryRooms_142 : decode cX9_tryRooms 142 = .ok (.iload 4, 2) := by decide +kernel
theorem dX9_tryRooms_144 : decode cX9_tryRooms 144 = .ok (.iload 5, 2) := by decide +kernel
theorem dX9_tryRooms_146 : decode cX9_tryRooms 146 = .ok (.invokestatic 59, 3) := by decide +kernel
theorem dX9_tryRooms_149 : decode cX9_tryRooms 149 = .ok (.dup2, 1) := by decide +kernel
theorem dX9_tryRooms_150 : decode cX9_tryRooms 150 = .ok (.iaload, 1) := by decide +kernel
theorem dX9_tryRooms_151 : decode cX9_tryRooms 151 = .ok (.iload 6, 2) := by decide +kernel
theorem dX9_tryRooms_153 : decode cX9_tryRooms 153 = .ok (.iadd, 1) := by decide +kernel
theorem dX9_tryRooms_154 : decode cX9_tryRooms 154 = .ok (.iastore, 1) := by decide +kernel
theorem dX9_tryRooms_155 : decode cX9_tryRooms 155 = .ok (.iinc 5 1, 3) := by decide +kernel
theorem dX9_tryRooms_158 : decode cX9_tryRooms 158 = .ok (.goto (-91), 3) := by decide +kernel
theorem dX9_tryRooms_161 : decode cX9_tryRooms 161 = .ok (.return_, 1) := by decide +kernel
