theorem dX11_owe_0 : decode cX11_owe 0 = .ok (.iload_n 1, 1) := by decide +kernel
theorem dX11_owe_1 : decode cX11_owe 1 = .ok (.iload_n 2, 1) := by decide +kernel
theorem dX11_owe_2 : decode cX11_owe 2 = .ok (.invokestatic 96, 3) := by decide +kernel
theorem dX11_owe_5 : decode cX11_owe 5 = .ok (.ifCond .ne 9, 3) := by decide +kernel
theorem dX11_owe_8 : decode cX11_owe 8 = .ok (.aload_n 0, 1) := by decide +kernel
theorem dX11_owe_9 : decode cX11_owe 9 = .ok (.iconst (-1), 1) := by decide +kernel
theorem dX11_owe_10 : decode cX11_owe 10 = .ok (.invokevirtual 71, 3) := by decide +kernel
theorem dX11_owe_13 : decode cX11_owe 13 = .ok (.ireturn, 1) := by decide +kernel
theorem dX11_owe_14 : decode cX11_owe 14 = .ok (.iload_n 3, 1) := by decide +kernel
theorem dX11_owe_15 : decode cX11_owe 15 = .ok (.iconst 0, 1) := by decide +kernel
theorem dX11_owe_16 : decode cX11_owe 16 = .ok (.sipush 999, 3) := by decide +kernel
theorem dX11_owe_19 : decode cX11_owe 19 = .ok (.invokestatic 64, 3) := by decide +kernel
theorem dX11_owe_22 : decode cX11_owe 22 = .ok (.istore 4, 2) := by decide +kernel
theorem dX11_owe_24 : decode cX11_owe 24 = .ok (.iload 4, 2) := by decide +kernel
theorem dX11_owe_26 : decode cX11_owe 26 = .ok (.ifCond .eq 10, 3) := by decide +kernel
theorem dX11_owe_29 : decode cX11_owe 29 = .ok (.aload_n 0, 1) := by decide +kernel
theorem dX11_owe_30 : decode cX11_owe 30 = .ok (.iload 4, 2) := by decide +kernel
theorem dX11_owe_32 : decode cX11_owe 32 = .ok (.invokevirtual 71, 3) := by decide +kernel
theorem dX11_owe_35 : decode cX11_owe 35 = .ok (.ireturn, 1) := by decide +kernel
theorem dX11_owe_36 : decode cX11_owe 36 = .ok (.aload_n 0, 1) := by decide +kernel
theorem dX11_owe_37 : decode cX11_owe 37 = .ok (.getfield 34, 3) := by decide +kernel
theorem dX11_owe_40 : decode cX11_owe 40 = .ok (.iconst 4, 1) := by decide +kernel
theorem dX11_owe_41 : decode cX11_owe 41 = .ok (.iload_n 1, 1) := by decide +kernel
theorem dX11_owe_42 : decode cX11_owe 42 = .ok (.imul, 1) := by decide +kernel
theorem dX11_owe_43 : decode cX11_owe 43 = .ok (.iload_n 2, 1) := by decide +kernel
theorem dX11_owe_44 : decode cX11_owe 44 = .ok (.iadd, 1) := by decide +kernel
theorem dX11_owe_45 : decode cX11_owe 45 = .ok (.iaload, 1) := by decide +kernel
theorem dX11_owe_46 : decode cX11_owe 46 = .ok (.istore 5, 2) := by decide +kernel
theorem dX11_owe_48 : decode cX11_owe 48 = .ok (.aload_n 0, 1) := by decide +kernel
theorem dX11_owe_49 : decode cX11_owe 49 = .ok (.getfield 34, 3) := by decide +kernel
theorem dX11_owe_52 : decode cX11_owe 52 = .ok (.iconst 4, 1) := by decide +kernel
theorem dX11_owe_53 : decode cX11_owe 53 = .ok (.iload_n 1, 1) := by decide +kernel
theorem dX11_owe_54 : decode cX11_owe 54 = .ok (.imul, 1) := by decide +kernel
theorem dX11_owe_55 : decode cX11_owe 55 = .ok (.iload_n 2, 1) := by decide +kernel
theorem dX11_owe_56 : decode cX11_owe 56 = .ok (.iadd, 1) := by decide +kernel
theorem dX11_owe_57 : decode cX11_owe 57 = .ok (.iload_n 3, 1) := by decide +kernel
theorem dX11_owe_58 : decode cX11_owe 58 = .ok (.iastore, 1) := by decide +kernel
theorem dX11_owe_59 : decode cX11_owe 59 = .ok (.iload 5, 2) := by decide +kernel
theorem dX11_owe_61 : decode cX11_owe 61 = .ok (.ireturn, 1) := by decide +kernel
theorem dX11_debt_0 : decode cX11_debt 0 = .ok (.iload_n 1, 1) := by decide +kernel
theorem dX11_debt_1 : decode cX11_debt 1 = .ok (.iload_n 2, 1) := by decide +kernel
theorem dX11_debt_2 : decode cX11_debt 2 = .ok (.invokestatic 96, 3) := by decide +kernel
theorem dX11_debt_5 : decode cX11_debt 5 = .ok (.ifCond .eq 16, 3) := by decide +kernel
theorem dX11_debt_8 : decode cX11_debt 8 = .ok (.aload_n 0, 1) := by decide +kernel
theorem dX11_debt_9 : decode cX11_debt 9 = .ok (.getfield 34, 3) := by decide +kernel
theorem dX11_debt_12 : decode cX11_debt 12 = .ok (.iconst 4, 1) := by decide +kernel
theorem dX11_debt_13 : decode cX11_debt 13 = .ok (.iload_n 1, 1) := by decide +kernel
theorem dX11_debt_14 : decode cX11_debt 14 = .ok (.imul, 1) := by decide +kernel
theorem dX11_debt_15 : decode cX11_debt 15 = .ok (.iload_n 2, 1) := by decide +kernel
theorem dX11_debt_16 : decode cX11_debt 16 = .ok (.iadd, 1) := by decide +kernel
theorem dX11_debt_17 : decode cX11_debt 17 = .ok (.iaload, 1) := by decide +kernel
theorem dX11_debt_18 : decode cX11_debt 18 = .ok (.goto 8, 3) := by decide +kernel
theorem dX11_debt_21 : decode cX11_debt 21 = .ok (.aload_n 0, 1) := by decide +kernel
theorem dX11_debt_22 : decode cX11_debt 22 = .ok (.iconst (-1), 1) := by decide +kernel
theorem dX11_debt_23 : decode cX11_debt 23 = .ok (.invokevirtual 71, 3) := by decide +kernel
theorem dX11_debt_26 : decode cX11_debt 26 = .ok (.ireturn, 1) := by decide +kernel
theorem dX11_pays_0 : decode cX11_pays 0 = .ok (.aload_n 0, 1) := by decide +kernel
theorem dX11_pays_1 : decode cX11_pays 1 = .ok (.getfield 25, 3) := by decide +kernel
theorem dX11_pays_4 : decode cX11_pays 4 = .ok (.iload_n 1, 1) := by decide +kernel
theorem dX11_pays_5 : decode cX11_pays 5 = .ok (.iaload, 1) := by decide +kernel
theorem dX11_pays_6 : decode cX11_pays 6 = .ok (.aload_n 0, 1) := by decide +kernel
theorem dX11_pays_7 : decode cX11_pays 7 = .ok (.getfield 22, 3) := by decide +kernel
theorem dX11_pays_10 : decode cX11_pays 10 = .ok (.iload_n 1, 1) := by decide +kernel
theorem dX11_pays_11 : decode cX11_pays 11 = .ok (.iaload, 1) := by decide +kernel
theorem dX11_pays_12 : decode cX11_pays 12 = .ok (.if_icmp .ne 4, 3) := by decide +kernel
theorem dX11_pays_15 : decode cX11_pays 15 = .ok (.return_, 1) := by decide +kernel
theorem dX11_pays_16 : decode cX11_pays 16 = .ok (.iconst 4, 1) := by decide +kernel
theorem dX11_pays_17 : decode cX11_pays 17 = .ok (.aload_n 0, 1) := by decide +kernel
theorem dX11_pays_18 : decode cX11_pays 18 = .ok (.getfield 22, 3) := by decide +kernel
theorem dX11_pays_21 : decode cX11_pays 21 = .ok (.iload_n 1, 1) := by decide +kernel
theorem dX11_pays_22 : decode cX11_pays 22 = .ok (.iaload, 1) := by decide +kernel
theorem dX11_pays_23 : decode cX11_pays 23 = .ok (.imul, 1) := by decide +kernel
theorem dX11_pays_24 : decode cX11_pays 24 = .ok (.aload_n 0, 1) := by decide +kernel
theorem dX11_pays_25 : decode cX11_pays 25 = .ok (.getfield 25, 3) := by decide +kernel
theorem dX11_pays_28 : decode cX11_pays 28 = .ok (.iload_n 1, 1) := by decide +kernel
theorem dX11_pays_29 : decode cX11_pays 29 = .ok (.iaload, 1) := by decide +kernel
theorem dX11_pays_30 : decode cX11_pays 30 = .ok (.iadd, 1) := by decide +kernel
theorem dX11_pays_31 : decode cX11_pays 31 = .ok (.istore_n 3, 1) := by decide +kernel
theorem dX11_pays_32 : decode cX11_pays 32 = .ok (.iload_n 2, 1) := by decide +kernel
theorem dX11_pays_33 : decode cX11_pays 33 = .ok (.aload_n 0, 1) := by decide +kernel
theorem dX11_pays_34 : decode cX11_pays 34 = .ok (.getfield 34, 3) := by decide +kernel
theorem dX11_pays_37 : decode cX11_pays 37 = .ok (.iload_n 3, 1) := by decide +kernel
theorem dX11_pays_38 : decode cX11_pays 38 = .ok (.iaload, 1) := by decide +kernel
theorem dX11_pays_39 : decode cX11_pays 39 = .ok (.invokestatic 142, 3) := by decide +kernel
theorem dX11_pays_42 : decode cX11_pays 42 = .ok (.istore 4, 2) := by decide +kernel
theorem dX11_pays_44 : decode cX11_pays 44 = .ok (.aload_n 0, 1) := by decide +kernel
theorem dX11_pays_45 : decode cX11_pays 45 = .ok (.getfield 34, 3) := by decide +kernel
theorem dX11_pays_48 : decode cX11_pays 48 = .ok (.iload_n 3, 1) := by decide +kernel
theorem dX11_pays_49 : decode cX11_pays 49 = .ok (.dup2, 1) := by decide +kernel
theorem dX11_pays_50 : decode cX11_pays 50 = .ok (.iaload, 1) := by decide +kernel
theorem dX11_pays_51 : decode cX11_pays 51 = .ok (.iload 4, 2) := by decide +kernel
theorem dX11_pays_53 : decode cX11_pays 53 = .ok (.isub, 1) := by decide +kernel
theorem dX11_pays_54 : decode cX11_pays 54 = .ok (.iastore, 1) := by decide +kernel
theorem dX11_pays_55 : decode cX11_pays 55 = .ok (.aload_n 0, 1) := by decide +kernel
theorem dX11_pays_56 : decode cX11_pays 56 = .ok (.dup, 1) := by decide +kernel
theorem dX11_pays_57 : decode cX11_pays 57 = .ok (.getfield 136, 3) := by decide +kernel
theorem dX11_pays_60 : decode cX11_pays 60 = .ok (.iload 4, 2) := by decide +kernel
theorem dX11_pays_62 : decode cX11_pays 62 = .ok (.iadd, 1) := by decide +kernel
theorem dX11_pays_63 : decode cX11_pays 63 = .ok (.putfield 136, 3) := by decide +kernel
theorem dX11_pays_66 : decode cX11_pays 66 = .ok (.return_, 1) := by decide +kernel
theorem dX11_goesMinute_0 : decode cX11_goesMinute 0 = .ok (.iconst 0, 1) := by decide +kernel
theorem dX11_goesMinute_1 : decode cX11_goesMinute 1 = .ok (.istore_n 1, 1) := by decide +kernel
theorem dX11_goesMinute_2 : decode cX11_goesMinute 2 = .ok (.iload_n 1, 1) := by decide +kernel
theorem dX11_goesMinute_3 : decode cX11_goesMinute 3 = .ok (.aload_n 0, 1) := by decide +kernel
theorem dX11_goesMinute_4 : decode cX11_goesMinute 4 = .ok (.getfield 56, 3) := by decide +kernel
theorem dX11_goesMinute_7 : decode cX11_goesMinute 7 = .ok (.if_icmp .ge 96, 3) := by decide +kernel
theorem dX11_goesMinute_10 : decode cX11_goesMinute 10 = .ok (.aload_n 0, 1) := by decide +kernel
theorem dX11_goesMinute_11 : decode cX11_goesMinute 11 = .ok (.getfield 28, 3) := by decide +kernel
theorem dX11_goesMinute_14 : decode cX11_goesMinute 14 = .ok (.iload_n 1, 1) := by decide +kernel
theorem dX11_goesMinute_15 : decode cX11_goesMinute 15 = .ok (.iaload, 1) := by decide +kernel
theorem dX11_goesMinute_16 : decode cX11_goesMinute 16 = .ok (.ifCond .eq 81, 3) := by decide +kernel
theorem dX11_goesMinute_19 : decode cX11_goesMinute 19 = .ok (.aload_n 0, 1) := by decide +kernel
theorem dX11_goesMinute_20 : decode cX11_goesMinute 20 = .ok (.getfield 19, 3) := by decide +kernel
theorem dX11_goesMinute_23 : decode cX11_goesMinute 23 = .ok (.iload_n 1, 1) := by decide +kernel
theorem dX11_goesMinute_24 : decode cX11_goesMinute 24 = .ok (.iaload, 1) := by decide +kernel
theorem dX11_goesMinute_25 : decode cX11_goesMinute 25 = .ok (.ifCond .ne 6, 3) := by decide +kernel
theorem dX11_goesMinute_28 : decode cX11_goesMinute 28 = .ok (.goto 69, 3) := by decide +kernel
theorem dX11_goesMinute_31 : decode cX11_goesMinute 31 = .ok (.aload_n 0, 1) := by decide +kernel
theorem dX11_goesMinute_32 : decode cX11_goesMinute 32 = .ok (.iload_n 1, 1) := by decide +kernel
theorem dX11_goesMinute_33 : decode cX11_goesMinute 33 = .ok (.invokevirtual 150, 3) := by decide +kernel
theorem dX11_goesMinute_36 : decode cX11_goesMinute 36 = .ok (.istore_n 2, 1) := by decide +kernel
theorem dX11_goesMinute_37 : decode cX11_goesMinute 37 = .ok (.aload_n 0, 1) := by decide +kernel
theorem dX11_goesMinute_38 : decode cX11_goesMinute 38 = .ok (.dup, 1) := by decide +kernel
theorem dX11_goesMinute_39 : decode cX11_goesMinute 39 = .ok (.getfield 130, 3) := by decide +kernel
theorem dX11_goesMinute_42 : decode cX11_goesMinute 42 = .ok (.iload_n 2, 1) := by decide +kernel
theorem dX11_goesMinute_43 : decode cX11_goesMinute 43 = .ok (.iadd, 1) := by decide +kernel
theorem dX11_goesMinute_44 : decode cX11_goesMinute 44 = .ok (.putfield 130, 3) := by decide +kernel
theorem dX11_goesMinute_47 : decode cX11_goesMinute 47 = .ok (.aload_n 0, 1) := by decide +kernel
theorem dX11_goesMinute_48 : decode cX11_goesMinute 48 = .ok (.dup, 1) := by decide +kernel
theorem dX11_goesMinute_49 : decode cX11_goesMinute 49 = .ok (.getfield 133, 3) := by decide +kernel
theorem dX11_goesMinute_52 : decode cX11_goesMinute 52 = .ok (.aload_n 0, 1) := by decide +kernel
theorem dX11_goesMinute_53 : decode cX11_goesMinute 53 = .ok (.iload_n 1, 1) := by decide +kernel
theorem dX11_goesMinute_54 : decode cX11_goesMinute 54 = .ok (.invokevirtual 156, 3) := by decide +kernel
theorem dX11_goesMinute_57 : decode cX11_goesMinute 57 = .ok (.iadd, 1) := by decide +kernel
theorem dX11_goesMinute_58 : decode cX11_goesMinute 58 = .ok (.putfield 133, 3) := by decide +kernel
theorem dX11_goesMinute_61 : decode cX11_goesMinute 61 = .ok (.aload_n 0, 1) := by decide +kernel
theorem dX11_goesMinute_62 : decode cX11_goesMinute 62 = .ok (.iload_n 1, 1) := by decide +kernel
theorem dX11_goesMinute_63 : decode cX11_goesMinute 63 = .ok (.aload_n 0, 1) := by decide +kernel
theorem dX11_goesMinute_64 : decode cX11_goesMinute 64 = .ok (.iload_n 1, 1) := by decide +kernel
theorem dX11_goesMinute_65 : decode cX11_goesMinute 65 = .ok (.invokevirtual 162, 3) := by decide +kernel
theorem dX11_goesMinute_68 : decode cX11_goesMinute 68 = .ok (.invokevirtual 165, 3) := by decide +kernel
theorem dX11_goesMinute_71 : decode cX11_goesMinute 71 = .ok (.aload_n 0, 1) := by decide +kernel
theorem dX11_goesMinute_72 : decode cX11_goesMinute 72 = .ok (.getfield 19, 3) := by decide +kernel
theorem dX11_goesMinute_75 : decode cX11_goesMinute 75 = .ok (.iload_n 1, 1) := by decide +kernel
theorem dX11_goesMinute_76 : decode cX11_goesMinute 76 = .ok (.dup2, 1) := by decide +kernel
theorem dX11_goesMinute_77 : decode cX11_goesMinute 77 = .ok (.iaload, 1) := by decide +kernel
theorem dX11_goesMinute_78 : decode cX11_goesMinute 78 = .ok (.iload_n 2, 1) := by decide +kernel
theorem dX11_goesMinute_79 : decode cX11_goesMinute 79 = .ok (.isub, 1) := by decide +kernel
theorem dX11_goesMinute_80 : decode cX11_goesMinute 80 = .ok (.iastore, 1) := by decide +kernel
theorem dX11_goesMinute_81 : decode cX11_goesMinute 81 = .ok (.aload_n 0, 1) := by decide +kernel
theorem dX11_goesMinute_82 : decode cX11_goesMinute 82 = .ok (.getfield 19, 3) := by decide +kernel
theorem dX11_goesMinute_85 : decode cX11_goesMinute 85 = .ok (.iload_n 1, 1) := by decide +kernel
theorem dX11_goesMinute_86 : decode cX11_goesMinute 86 = .ok (.iaload, 1) := by decide +kernel
theorem dX11_goesMinute_87 : decode cX11_goesMinute 87 = .ok (.ifCond .ne 10, 3) := by decide +kernel
theorem dX11_goesMinute_90 : decode cX11_goesMinute 90 = .ok (.aload_n 0, 1) := by decide +kernel
theorem dX11_goesMinute_91 : decode cX11_goesMinute 91 = .ok (.getfield 28, 3) := by decide +kernel
theorem dX11_goesMinute_94 : decode cX11_goesMinute 94 = .ok (.iload_n 1, 1) := by decide +kernel
theorem dX11_goesMinute_95 : decode cX11_goesMinute 95 = .ok (.iconst 0, 1) := by decide +kernel
theorem dX11_goesMinute_96 : decode cX11_goesMinute 96 = .ok (.iastore, 1) := by decide +kernel
theorem dX11_goesMinute_97 : decode cX11_goesMinute 97 = .ok (.iinc 1 1, 3) := by decide +kernel
theorem dX11_goesMinute_100 : decode cX11_goesMinute 100 = .ok (.goto (-98), 3) := by decide +kernel
theorem dX11_goesMinute_103 : decode cX11_goesMinute 103 = .ok (.aload_n 0, 1) := by decide +kernel
theorem dX11_goesMinute_104 : decode cX11_goesMinute 104 = .ok (.dup, 1) := by decide +kernel
theorem dX11_goesMinute_105 : decode cX11_goesMinute 105 = .ok (.getfield 127, 3) := by decide +kernel
theorem dX11_goesMinute_108 : decode cX11_goesMinute 108 = .ok (.iconst 1, 1) := by decide +kernel
theorem dX11_goesMinute_109 : decode cX11_goesMinute 109 = .ok (.iadd, 1) := by decide +kernel
theorem dX11_goesMinute_110 : decode cX11_goesMinute 110 = .ok (.putfield 127, 3) := by decide +kernel
theorem dX11_goesMinute_113 : decode cX11_goesMinute 113 = .ok (.return_, 1) := by decide +kernel
theorem dX11_goesMinutes_0 : decode cX11_goesMinutes 0 = .ok (.iconst 0, 1) := by decide +kernel
theorem dX11_goesMinutes_1 : decode cX11_goesMinutes 1 = .ok (.istore_n 2, 1) := by decide +kernel
theorem dX11_goesMinutes_2 : decode cX11_goesMinutes 2 = .ok (.iload_n 2, 1) := by decide +kernel
theorem dX11_goesMinutes_3 : decode cX11_goesMinutes 3 = .ok (.iload_n 1, 1) := by decide +kernel
theorem dX11_goesMinutes_4 : decode cX11_goesMinutes 4 = .ok (.if_icmp .ge 13, 3) := by decide +kernel
theorem dX11_goesMinutes_7 : decode cX11_goesMinutes 7 = .ok (.aload_n 0, 1) := by decide +kernel
theorem dX11_goesMinutes_8 : decode cX11_goesMinutes 8 = .ok (.invokevirtual 169, 3) := by decide +kernel
theorem dX11_goesMinutes_11 : decode cX11_goesMinutes 11 = .ok (.iinc 2 1, 3) := by decide +kernel
theorem dX11_goesMinutes_14 : decode cX11_goesMinutes 14 = .ok (.goto (-12), 3) := by decide +kernel
theorem dX11_goesMinutes_17 : decode cX11_goesMinutes 17 = .ok (.return_, 1) := by decide +kernel
theorem dX11_go_0 : decode cX11_go 0 = .ok (.iload_n 1, 1) := by decide +kernel
theorem dX11_go_1 : decode cX11_go 1 = .ok (.iconst 1, 1) := by decide +kernel
theorem dX11_go_2 : decode cX11_go 2 = .ok (.bipush 99, 2) := by decide +kernel
theorem dX11_go_4 : decode cX11_go 4 = .ok (.invokestatic 64, 3) := by decide +kernel
theorem dX11_go_7 : decode cX11_go 7 = .ok (.istore_n 2, 1) := by decide +kernel
theorem dX11_go_8 : decode cX11_go 8 = .ok (.iload_n 2, 1) := by decide +kernel
theorem dX11_go_9 : decode cX11_go 9 = .ok (.ifCond .ne 18, 3) := by decide +kernel
theorem dX11_go_12 : decode cX11_go 12 = .ok (.aload_n 0, 1) := by decide +kernel
theorem dX11_go_13 : decode cX11_go 13 = .ok (.getfield 127, 3) := by decide +kernel
theorem dX11_go_16 : decode cX11_go 16 = .ok (.iload_n 1, 1) := by decide +kernel
theorem dX11_go_17 : decode cX11_go 17 = .ok (.iadd, 1) := by decide +kernel
theorem dX11_go_18 : decode cX11_go 18 = .ok (.sipush 9999, 3) := by decide +kernel
theorem dX11_go_21 : decode cX11_go 21 = .ok (.if_icmp .le 6, 3) := by decide +kernel
theorem dX11_go_24 : decode cX11_go 24 = .ok (.bipush (-6), 2) := by decide +kernel
theorem dX11_go_26 : decode cX11_go 26 = .ok (.istore_n 2, 1) := by decide +kernel
theorem dX11_go_27 : decode cX11_go 27 = .ok (.iload_n 2, 1) := by decide +kernel
theorem dX11_go_28 : decode cX11_go 28 = .ok (.ifCond .eq 9, 3) := by decide +kernel
theorem dX11_go_31 : decode cX11_go 31 = .ok (.aload_n 0, 1) := by decide +kernel
theorem dX11_go_32 : decode cX11_go 32 = .ok (.iload_n 2, 1) := by decide +kernel
theorem dX11_go_33 : decode cX11_go 33 = .ok (.invokevirtual 71, 3) := by decide +kernel
theorem dX11_go_36 : decode cX11_go 36 = .ok (.ireturn, 1) := by decide +kernel
theorem dX11_go_37 : decode cX11_go 37 = .ok (.aload_n 0, 1) := by decide +kernel
theorem dX11_go_38 : decode cX11_go 38 = .ok (.getfield 130, 3) := by decide +kernel
theorem dX11_go_41 : decode cX11_go 41 = .ok (.istore_n 3, 1) := by decide +kernel
theorem dX11_go_42 : decode cX11_go 42 = .ok (.aload_n 0, 1) := by decide +kernel
theorem dX11_go_43 : decode cX11_go 43 = .ok (.iload_n 1, 1) := by decide +kernel
theorem dX11_go_44 : decode cX11_go 44 = .ok (.invokevirtual 172, 3) := by decide +kernel
theorem dX11_go_47 : decode cX11_go 47 = .ok (.aload_n 0, 1) := by decide +kernel
theorem dX11_go_48 : decode cX11_go 48 = .ok (.getfield 130, 3) := by decide +kernel
theorem dX11_go_51 : decode cX11_go 51 = .ok (.iload_n 3, 1) := by decide +kernel
theorem dX11_go_52 : decode cX11_go 52 = .ok (.isub, 1) := by decide +kernel
theorem dX11_go_53 : decode cX11_go 53 = .ok (.ireturn, 1) := by decide +kernel
theorem dX11_behind_0 : decode cX11_behind 0 = .ok (.aload_n 0, 1) := by decide +kernel
theorem dX11_behind_1 : decode cX11_behind 1 = .ok (.iload_n 1, 1) := by decide +kernel
theorem dX11_behind_2 : decode cX11_behind 2 = .ok (.invokevirtual 99, 3) := by decide +kernel
theorem dX11_behind_5 : decode cX11_behind 5 = .ok (.ifCond .ne 7, 3) := by decide +kernel
theorem dX11_behind_8 : decode cX11_behind 8 = .ok (.iconst (-1), 1) := by decide +kernel
theorem dX11_behind_9 : decode cX11_behind 9 = .ok (.goto 11, 3) := by decide +kernel
theorem dX11_behind_12 : decode cX11_behind 12 = .ok (.iload_n 2, 1) := by decide +kernel
theorem dX11_behind_13 : decode cX11_behind 13 = .ok (.iconst 0, 1) := by decide +kernel
theorem dX11_behind_14 : decode cX11_behind 14 = .ok (.sipush 300, 3) := by decide +kernel
theorem dX11_behind_17 : decode cX11_behind 17 = .ok (.invokestatic 64, 3) := by decide +kernel
theorem dX11_behind_20 : decode cX11_behind 20 = .ok (.istore_n 3, 1) := by decide +kernel
theorem dX11_behind_21 : decode cX11_behind 21 = .ok (.iload_n 3, 1) := by decide +kernel
theorem dX11_behind_22 : decode cX11_behind 22 = .ok (.ifCond .eq 9, 3) := by decide +kernel
theorem dX11_behind_25 : decode cX11_behind 25 = .ok (.aload_n 0, 1) := by decide +kernel
theorem dX11_behind_26 : decode cX11_behind 26 = .ok (.iload_n 3, 1) := by decide +kernel
theorem dX11_behind_27 : decode cX11_behind 27 = .ok (.invokevirtual 71, 3) := by decide +kernel
theorem dX11_behind_30 : decode cX11_behind 30 = .ok (.ireturn, 1) := by decide +kernel
theorem dX11_behind_31 : decode cX11_behind 31 = .ok (.aload_n 0, 1) := by decide +kernel
theorem dX11_behind_32 : decode cX11_behind 32 = .ok (.iconst 1, 1) := by decide +kernel
theorem dX11_behind_33 : decode cX11_behind 33 = .ok (.iconst 1, 1) := by decide +kernel
theorem dX11_behind_34 : decode cX11_behind 34 = .ok (.invokevirtual 106, 3) := by decide +kernel
theorem dX11_behind_37 : decode cX11_behind 37 = .ok (.aload_n 0, 1) := by decide +kernel
theorem dX11_behind_38 : decode cX11_behind 38 = .ok (.iload_n 2, 1) := by decide +kernel
theorem dX11_behind_39 : decode cX11_behind 39 = .ok (.invokevirtual 172, 3) := by decide +kernel
theorem dX11_behind_42 : decode cX11_behind 42 = .ok (.aload_n 0, 1) := by decide +kernel
theorem dX11_behind_43 : decode cX11_behind 43 = .ok (.getfield 19, 3) := by decide +kernel
theorem dX11_behind_46 : decode cX11_behind 46 = .ok (.iload_n 1, 1) := by decide +kernel
theorem dX11_behind_47 : decode cX11_behind 47 = .ok (.iaload, 1) := by decide +kernel
theorem dX11_behind_48 : decode cX11_behind 48 = .ok (.istore 4, 2) := by decide +kernel
theorem dX11_behind_50 : decode cX11_behind 50 = .ok (.aload_n 0, 1) := by decide +kernel
theorem dX11_behind_51 : decode cX11_behind 51 = .ok (.iconst 1, 1) := by decide +kernel
theorem dX11_behind_52 : decode cX11_behind 52 = .ok (.iconst 0, 1) := by decide +kernel
theorem dX11_behind_53 : decode cX11_behind 53 = .ok (.invokevirtual 106, 3) := by decide +kernel
theorem dX11_behind_56 : decode cX11_behind 56 = .ok (.iload 4, 2) := by decide +kernel
theorem dX11_behind_58 : decode cX11_behind 58 = .ok (.ireturn, 1) := by decide +kernel
theorem dX11_owes_0 : decode cX11_owes 0 = .ok (.iload_n 1, 1) := by decide +kernel
theorem dX11_owes_1 : decode cX11_owes 1 = .ok (.iload_n 2, 1) := by decide +kernel
theorem dX11_owes_2 : decode cX11_owes 2 = .ok (.invokestatic 96, 3) := by decide +kernel
theorem dX11_owes_5 : decode cX11_owes 5 = .ok (.ifCond .ne 7, 3) := by decide +kernel
theorem dX11_owes_8 : decode cX11_owes 8 = .ok (.iconst (-1), 1) := by decide +kernel
theorem dX11_owes_9 : decode cX11_owes 9 = .ok (.goto 11, 3) := by decide +kernel
theorem dX11_owes_12 : decode cX11_owes 12 = .ok (.iload_n 3, 1) := by decide +kernel
theorem dX11_owes_13 : decode cX11_owes 13 = .ok (.iconst 0, 1) := by decide +kernel
theorem dX11_owes_14 : decode cX11_owes 14 = .ok (.sipush 300, 3) := by decide +kernel
theorem dX11_owes_17 : decode cX11_owes 17 = .ok (.invokestatic 64, 3) := by decide +kernel
theorem dX11_owes_20 : decode cX11_owes 20 = .ok (.istore 4, 2) := by decide +kernel
theorem dX11_owes_22 : decode cX11_owes 22 = .ok (.iload 4, 2) := by decide +kernel
theorem dX11_owes_24 : decode cX11_owes 24 = .ok (.ifCond .eq 10, 3) := by decide +kernel
theorem dX11_owes_27 : decode cX11_owes 27 = .ok (.aload_n 0, 1) := by decide +kernel
theorem dX11_owes_28 : decode cX11_owes 28 = .ok (.iload 4, 2) := by decide +kernel
theorem dX11_owes_30 : decode cX11_owes 30 = .ok (.invokevirtual 71, 3) := by decide +kernel
theorem dX11_owes_33 : decode cX11_owes 33 = .ok (.ireturn, 1) := by decide +kernel
theorem dX11_owes_34 : decode cX11_owes 34 = .ok (.aload_n 0, 1) := by decide +kernel
theorem dX11_owes_35 : decode cX11_owes 35 = .ok (.iconst 1, 1) := by decide +kernel
theorem dX11_owes_36 : decode cX11_owes 36 = .ok (.iconst 1, 1) := by decide +kernel
theorem dX11_owes_37 : decode cX11_owes 37 = .ok (.invokevirtual 106, 3) := by decide +kernel
theorem dX11_owes_40 : decode cX11_owes 40 = .ok (.aload_n 0, 1) := by decide +kernel
theorem dX11_owes_41 : decode cX11_owes 41 = .ok (.iload_n 3, 1) := by decide +kernel
theorem dX11_owes_42 : decode cX11_owes 42 = .ok (.invokevirtual 172, 3) := by decide +kernel
theorem dX11_owes_45 : decode cX11_owes 45 = .ok (.aload_n 0, 1) := by decide +kernel
theorem dX11_owes_46 : decode cX11_owes 46 = .ok (.getfield 34, 3) := by decide +kernel
theorem dX11_owes_49 : decode cX11_owes 49 = .ok (.iconst 4, 1) := by decide +kernel
theorem dX11_owes_50 : decode cX11_owes 50 = .ok (.iload_n 1, 1) := by decide +kernel
theorem dX11_owes_51 : decode cX11_owes 51 = .ok (.imul, 1) := by decide +kernel
theorem dX11_owes_52 : decode cX11_owes 52 = .ok (.iload_n 2, 1) := by decide +kernel
theorem dX11_owes_53 : decode cX11_owes 53 = .ok (.iadd, 1) := by decide +kernel
theorem dX11_owes_54 : decode cX11_owes 54 = .ok (.iaload, 1) := by decide +kernel
theorem dX11_owes_55 : decode cX11_owes 55 = .ok (.istore 5, 2) := by decide +kernel
theorem dX11_owes_57 : decode cX11_owes 57 = .ok (.aload_n 0, 1) := by decide +kernel
theorem dX11_owes_58 : decode cX11_owes 58 = .ok (.iconst 1, 1) := by decide +kernel
theorem dX11_owes_59 : decode cX11_owes 59 = .ok (.iconst 0, 1) := by decide +kernel
theorem dX11_owes_60 : decode cX11_owes 60 = .ok (.invokevirtual 106, 3) := by decide +kernel
theorem dX11_owes_63 : decode cX11_owes 63 = .ok (.iload 5, 2) := by decide +kernel
theorem dX11_owes_65 : decode cX11_owes 65 = .ok (.ireturn, 1) := by decide +kernel
theorem dX11_isBright_0 : decode cX11_isBright 0 = .ok (.iconst 0, 1) := by decide +kernel
theorem dX11_isBright_1 : decode cX11_isBright 1 = .ok (.istore_n 2, 1) := by decide +kernel
theorem dX11_isBright_2 : decode cX11_isBright 2 = .ok (.iconst 0, 1) := by decide +kernel
theorem dX11_isBright_3 : decode cX11_isBright 3 = .ok (.istore_n 3, 1) := by decide +kernel
theorem dX11_isBright_4 : decode cX11_isBright 4 = .ok (.iload_n 3, 1) := by decide +kernel
theorem dX11_isBright_5 : decode cX11_isBright 5 = .ok (.aload_n 0, 1) := by decide +kernel
theorem dX11_isBright_6 : decode cX11_isBright 6 = .ok (.getfield 56, 3) := by decide +kernel
theorem dX11_isBright_9 : decode cX11_isBright 9 = .ok (.if_icmp .ge 48, 3) := by decide +kernel
theorem dX11_isBright_12 : decode cX11_isBright 12 = .ok (.iload_n 2, 1) := by decide +kernel
theorem dX11_isBright_13 : decode cX11_isBright 13 = .ok (.ifCond .ne 32, 3) := by decide +kernel
theorem dX11_isBright_16 : decode cX11_isBright 16 = .ok (.aload_n 0, 1) := by decide +kernel
theorem dX11_isBright_17 : decode cX11_isBright 17 = .ok (.getfield 25, 3) := by decide +kernel
theorem dX11_isBright_20 : decode cX11_isBright 20 = .ok (.iload_n 3, 1) := by decide +kernel
theorem dX11_isBright_21 : decode cX11_isBright 21 = .ok (.iaload, 1) := by decide +kernel
theorem dX11_isBright_22 : decode cX11_isBright 22 = .ok (.iload_n 1, 1) := by decide +kernel
theorem dX11_isBright_23 : decode cX11_isBright 23 = .ok (.if_icmp .ne 26, 3) := by decide +kernel
theorem dX11_isBright_26 : decode cX11_isBright 26 = .ok (.aload_n 0, 1) := by decide +kernel
theorem dX11_isBright_27 : decode cX11_isBright 27 = .ok (.getfield 28, 3) := by decide +kernel
theorem dX11_isBright_30 : decode cX11_isBright 30 = .ok (.iload_n 3, 1) := by decide +kernel
theorem dX11_isBright_31 : decode cX11_isBright 31 = .ok (.iaload, 1) := by decide +kernel
theorem dX11_isBright_32 : decode cX11_isBright 32 = .ok (.iconst 1, 1) := by decide +kernel
theorem dX11_isBright_33 : decode cX11_isBright 33 = .ok (.if_icmp .ne 16, 3) := by decide +kernel
theorem dX11_isBright_36 : decode cX11_isBright 36 = .ok (.aload_n 0, 1) := by decide +kernel
theorem dX11_isBright_37 : decode cX11_isBright 37 = .ok (.getfield 19, 3) := by decide +kernel
theorem dX11_isBright_40 : decode cX11_isBright 40 = .ok (.iload_n 3, 1) := by decide +kernel
theorem dX11_isBright_41 : decode cX11_isBright 41 = .ok (.iaload, 1) := by decide +kernel
theorem dX11_isBright_42 : decode cX11_isBright 42 = .ok (.ifCond .le 7, 3) := by decide +kernel
theorem dX11_isBright_45 : decode cX11_isBright 45 = .ok (.iconst 1, 1) := by decide +kernel
theorem dX11_isBright_46 : decode cX11_isBright 46 = .ok (.goto 4, 3) := by decide +kernel
theorem dX11_isBright_49 : decode cX11_isBright 49 = .ok (.iconst 0, 1) := by decide +kernel
theorem dX11_isBright_50 : decode cX11_isBright 50 = .ok (.istore_n 2, 1) := by decide +kernel
theorem dX11_isBright_51 : decode cX11_isBright 51 = .ok (.iinc 3 1, 3) := by decide +kernel
theorem dX11_isBright_54 : decode cX11_isBright 54 = .ok (.goto (-50), 3) := by decide +kernel
theorem dX11_isBright_57 : decode cX11_isBright 57 = .ok (.iload_n 2, 1) := by decide +kernel
theorem dX11_isBright_58 : decode cX11_isBright 58 = .ok (.ireturn, 1) := by decide +kernel
theorem dX11_reads_0 : decode cX11_reads 0 = .ok (.iload_n 1, 1) := by decide +kernel
theorem dX11_reads_1 : decode cX11_reads 1 = .ok (.invokestatic 60, 3) := by decide +kernel
theorem dX11_reads_4 : decode cX11_reads 4 = .ok (.ifCond .ne 7, 3) := by decide +kernel
theorem dX11_reads_7 : decode cX11_reads 7 = .ok (.iconst (-1), 1) := by decide +kernel
theorem dX11_reads_8 : decode cX11_reads 8 = .ok (.goto 11, 3) := by decide +kernel
theorem dX11_reads_11 : decode cX11_reads 11 = .ok (.iload_n 2, 1) := by decide +kernel
theorem dX11_reads_12 : decode cX11_reads 12 = .ok (.iconst 0, 1) := by decide +kernel
theorem dX11_reads_13 : decode cX11_reads 13 = .ok (.sipush 300, 3) := by decide +kernel
theorem dX11_reads_16 : decode cX11_reads 16 = .ok (.invokestatic 64, 3) := by decide +kernel
theorem dX11_reads_19 : decode cX11_reads 19 = .ok (.istore_n 3, 1) := by decide +kernel
theorem dX11_reads_20 : decode cX11_reads 20 = .ok (.iload_n 3, 1) := by decide +kernel
theorem dX11_reads_21 : decode cX11_reads 21 = .ok (.ifCond .eq 9, 3) := by decide +kernel
theorem dX11_reads_24 : decode cX11_reads 24 = .ok (.aload_n 0, 1) := by decide +kernel
theorem dX11_reads_25 : decode cX11_reads 25 = .ok (.iload_n 3, 1) := by decide +kernel
theorem dX11_reads_26 : decode cX11_reads 26 = .ok (.invokevirtual 71, 3) := by decide +kernel
theorem dX11_reads_29 : decode cX11_reads 29 = .ok (.ireturn, 1) := by decide +kernel
theorem dX11_reads_30 : decode cX11_reads 30 = .ok (.aload_n 0, 1) := by decide +kernel
theorem dX11_reads_31 : decode cX11_reads 31 = .ok (.iconst 1, 1) := by decide +kernel
theorem dX11_reads_32 : decode cX11_reads 32 = .ok (.iconst 1, 1) := by decide +kernel
theorem dX11_reads_33 : decode cX11_reads 33 = .ok (.invokevirtual 106, 3) := by decide +kernel
theorem dX11_reads_36 : decode cX11_reads 36 = .ok (.iconst 0, 1) := by decide +kernel
theorem dX11_reads_37 : decode cX11_reads 37 = .ok (.istore 4, 2) := by decide +kernel
theorem dX11_reads_39 : decode cX11_reads 39 = .ok (.iconst 0, 1) := by decide +kernel
theorem dX11_reads_40 : decode cX11_reads 40 = .ok (.istore 5, 2) := by decide +kernel
theorem dX11_reads_42 : decode cX11_reads 42 = .ok (.iload 5, 2) := by decide +kernel
theorem dX11_reads_44 : decode cX11_reads 44 = .ok (.iload_n 2, 1) := by decide +kernel
theorem dX11_reads_45 : decode cX11_reads 45 = .ok (.if_icmp .ge 31, 3) := by decide +kernel
theorem dX11_reads_48 : decode cX11_reads 48 = .ok (.iload 4, 2) := by decide +kernel
theorem dX11_reads_50 : decode cX11_reads 50 = .ok (.aload_n 0, 1) := by decide +kernel
theorem dX11_reads_51 : decode cX11_reads 51 = .ok (.iload_n 1, 1) := by decide +kernel
theorem dX11_reads_52 : decode cX11_reads 52 = .ok (.invokevirtual 176, 3) := by decide +kernel
theorem dX11_reads_55 : decode cX11_reads 55 = .ok (.ifCond .eq 7, 3) := by decide +kernel
theorem dX11_reads_58 : decode cX11_reads 58 = .ok (.iconst 1, 1) := by decide +kernel
theorem dX11_reads_59 : decode cX11_reads 59 = .ok (.goto 4, 3) := by decide +kernel
theorem dX11_reads_62 : decode cX11_reads 62 = .ok (.iconst 0, 1) := by decide +kernel
theorem dX11_reads_63 : decode cX11_reads 63 = .ok (.iadd, 1) := by decide +kernel
theorem dX11_reads_64 : decode cX11_reads 64 = .ok (.istore 4, 2) := by decide +kernel
theorem dX11_reads_66 : decode cX11_reads 66 = .ok (.aload_n 0, 1) := by decide +kernel
theorem dX11_reads_67 : decode cX11_reads 67 = .ok (.invokevirtual 169, 3) := by decide +kernel
theorem dX11_reads_70 : decode cX11_reads 70 = .ok (.iinc 5 1, 3) := by decide +kernel
theorem dX11_reads_73 : decode cX11_reads 73 = .ok (.goto (-31), 3) := by decide +kernel
theorem dX11_reads_76 : decode cX11_reads 76 = .ok (.aload_n 0, 1) := by decide +kernel
theorem dX11_reads_77 : decode cX11_reads 77 = .ok (.iconst 1, 1) := by decide +kernel
theorem dX11_reads_78 : decode cX11_reads 78 = .ok (.iconst 0, 1) := by decide +kernel
theorem dX11_reads_79 : decode cX11_reads 79 = .ok (.invokevirtual 106, 3) := by decide +kernel
theorem dX11_reads_82 : decode cX11_reads 82 = .ok (.iload 4, 2) := by decide +kernel
theorem dX11_reads_84 : decode cX11_reads 84 = .ok (.ireturn, 1) := by decide +kernel
theorem dX11_ends_0 : decode cX11_ends 0 = .ok (.aload_n 0, 1) := by decide +kernel
theorem dX11_ends_1 : decode cX11_ends 1 = .ok (.iload_n 1, 1) := by decide +kernel
theorem dX11_ends_2 : decode cX11_ends 2 = .ok (.invokevirtual 99, 3) := by decide +kernel
theorem dX11_ends_5 : decode cX11_ends 5 = .ok (.ifCond .ne 9, 3) := by decide +kernel
theorem dX11_ends_8 : decode cX11_ends 8 = .ok (.aload_n 0, 1) := by decide +kernel
theorem dX11_ends_9 : decode cX11_ends 9 = .ok (.iconst (-1), 1) := by decide +kernel
theorem dX11_ends_10 : decode cX11_ends 10 = .ok (.invokevirtual 71, 3) := by decide +kernel
theorem dX11_ends_13 : decode cX11_ends 13 = .ok (.ireturn, 1) := by decide +kernel
theorem dX11_ends_14 : decode cX11_ends 14 = .ok (.aload_n 0, 1) := by decide +kernel
theorem dX11_ends_15 : decode cX11_ends 15 = .ok (.iconst 1, 1) := by decide +kernel
theorem dX11_ends_16 : decode cX11_ends 16 = .ok (.iconst 1, 1) := by decide +kernel
theorem dX11_ends_17 : decode cX11_ends 17 = .ok (.invokevirtual 106, 3) := by decide +kernel
theorem dX11_ends_20 : decode cX11_ends 20 = .ok (.bipush (-9), 2) := by decide +kernel
theorem dX11_ends_22 : decode cX11_ends 22 = .ok (.istore_n 2, 1) := by decide +kernel
theorem dX11_ends_23 : decode cX11_ends 23 = .ok (.iconst 0, 1) := by decide +kernel
theorem dX11_ends_24 : decode cX11_ends 24 = .ok (.istore_n 3, 1) := by decide +kernel
theorem dX11_ends_25 : decode cX11_ends 25 = .ok (.iload_n 3, 1) := by decide +kernel
theorem dX11_ends_26 : decode cX11_ends 26 = .ok (.sipush 999, 3) := by decide +kernel
theorem dX11_ends_29 : decode cX11_ends 29 = .ok (.if_icmp .gt 28, 3) := by decide +kernel
theorem dX11_ends_32 : decode cX11_ends 32 = .ok (.iload_n 2, 1) := by decide +kernel
theorem dX11_ends_33 : decode cX11_ends 33 = .ok (.ifCond .ge 24, 3) := by decide +kernel
theorem dX11_ends_36 : decode cX11_ends 36 = .ok (.aload_n 0, 1) := by decide +kernel
theorem dX11_ends_37 : decode cX11_ends 37 = .ok (.getfield 19, 3) := by decide +kernel
theorem dX11_ends_40 : decode cX11_ends 40 = .ok (.iload_n 1, 1) := by decide +kernel
theorem dX11_ends_41 : decode cX11_ends 41 = .ok (.iaload, 1) := by decide +kernel
theorem dX11_ends_42 : decode cX11_ends 42 = .ok (.ifCond .ne 5, 3) := by decide +kernel
theorem dX11_ends_45 : decode cX11_ends 45 = .ok (.iload_n 3, 1) := by decide +kernel
theorem dX11_ends_46 : decode cX11_ends 46 = .ok (.istore_n 2, 1) := by decide +kernel
theorem dX11_ends_47 : decode cX11_ends 47 = .ok (.aload_n 0, 1) := by decide +kernel
theorem dX11_ends_48 : decode cX11_ends 48 = .ok (.invokevirtual 169, 3) := by decide +kernel
theorem dX11_ends_51 : decode cX11_ends 51 = .ok (.iinc 3 1, 3) := by decide +kernel
theorem dX11_ends_54 : decode cX11_ends 54 = .ok (.goto (-29), 3) := by decide +kernel
theorem dX11_ends_57 : decode cX11_ends 57 = .ok (.aload_n 0, 1) := by decide +kernel
theorem dX11_ends_58 : decode cX11_ends 58 = .ok (.iconst 1, 1) := by decide +kernel
theorem dX11_ends_59 : decode cX11_ends 59 = .ok (.iconst 0, 1) := by decide +kernel
theorem dX11_ends_60 : decode cX11_ends 60 = .ok (.invokevirtual 106, 3) := by decide +kernel
theorem dX11_ends_63 : decode cX11_ends 63 = .ok (.iload_n 2, 1) := by decide +kernel
theorem dX11_ends_64 : decode cX11_ends 64 = .ok (.ireturn, 1) := by decide +kernel
theorem dX11_debts_0 : decode cX11_debts 0 = .ok (.iconst 0, 1) := by decide +kernel
theorem dX11_debts_1 : decode cX11_debts 1 = .ok (.istore_n 1, 1) := by decide +kernel
theorem dX11_debts_2 : decode cX11_debts 2 = .ok (.iconst 0, 1) := by decide +kernel
theorem dX11_debts_3 : decode cX11_debts 3 = .ok (.istore_n 2, 1) := by decide +kernel
theorem dX11_debts_4 : decode cX11_debts 4 = .ok (.iload_n 2, 1) := by decide +kernel
theorem dX11_debts_5 : decode cX11_debts 5 = .ok (.bipush 16, 2) := by decide +kernel
theorem dX11_debts_7 : decode cX11_debts 7 = .ok (.if_icmp .ge 18, 3) := by decide +kernel
theorem dX11_debts_10 : decode cX11_debts 10 = .ok (.iload_n 1, 1) := by decide +kernel
theorem dX11_debts_11 : decode cX11_debts 11 = .ok (.aload_n 0, 1) := by decide +kernel
theorem dX11_debts_12 : decode cX11_debts 12 = .ok (.getfield 34, 3) := by decide +kernel
theorem dX11_debts_15 : decode cX11_debts 15 = .ok (.iload_n 2, 1) := by decide +kernel
theorem dX11_debts_16 : decode cX11_debts 16 = .ok (.iaload, 1) := by decide +kernel
theorem dX11_debts_17 : decode cX11_debts 17 = .ok (.iadd, 1) := by decide +kernel
theorem dX11_debts_18 : decode cX11_debts 18 = .ok (.istore_n 1, 1) := by decide +kernel
theorem dX11_debts_19 : decode cX11_debts 19 = .ok (.iinc 2 1, 3) := by decide +kernel
theorem dX11_debts_22 : decode cX11_debts 22 = .ok (.goto (-18), 3) := by decide +kernel
theorem dX11_debts_25 : decode cX11_debts 25 = .ok (.iload_n 1, 1) := by decide +kernel
theorem dX11_debts_26 : decode cX11_debts 26 = .ok (.ireturn, 1) := by decide +kernel
theorem dX11_clearBy_0 : decode cX11_clearBy 0 = .ok (.aload_n 0, 1) := by decide +kernel
theorem dX11_clearBy_1 : decode cX11_clearBy 1 = .ok (.iconst 1, 1) := by decide +kernel
theorem dX11_clearBy_2 : decode cX11_clearBy 2 = .ok (.iconst 1, 1) := by decide +kernel
theorem dX11_clearBy_3 : decode cX11_clearBy 3 = .ok (.invokevirtual 106, 3) := by decide +kernel
theorem dX11_clearBy_6 : decode cX11_clearBy 6 = .ok (.bipush (-9), 2) := by decide +kernel
theorem dX11_clearBy_8 : decode cX11_clearBy 8 = .ok (.istore_n 1, 1) := by decide +kernel
theorem dX11_clearBy_9 : decode cX11_clearBy 9 = .ok (.iconst 0, 1) := by decide +kernel
theorem dX11_clearBy_10 : decode cX11_clearBy 10 = .ok (.istore_n 2, 1) := by decide +kernel
theorem dX11_clearBy_11 : decode cX11_clearBy 11 = .ok (.iload_n 2, 1) := by decide +kernel
theorem dX11_clearBy_12 : decode cX11_clearBy 12 = .ok (.sipush 999, 3) := by decide +kernel
theorem dX11_clearBy_15 : decode cX11_clearBy 15 = .ok (.if_icmp .gt 26, 3) := by decide +kernel
theorem dX11_clearBy_18 : decode cX11_clearBy 18 = .ok (.iload_n 1, 1) := by decide +kernel
theorem dX11_clearBy_19 : decode cX11_clearBy 19 = .ok (.ifCond .ge 22, 3) := by decide +kernel
theorem dX11_clearBy_22 : decode cX11_clearBy 22 = .ok (.aload_n 0, 1) := by decide +kernel
theorem dX11_clearBy_23 : decode cX11_clearBy 23 = .ok (.invokevirtual 179, 3) := by decide +kernel
theorem dX11_clearBy_26 : decode cX11_clearBy 26 = .ok (.ifCond .ne 5, 3) := by decide +kernel
theorem dX11_clearBy_29 : decode cX11_clearBy 29 = .ok (.iload_n 2, 1) := by decide +kernel
theorem dX11_clearBy_30 : decode cX11_clearBy 30 = .ok (.istore_n 1, 1) := by decide +kernel
theorem dX11_clearBy_31 : decode cX11_clearBy 31 = .ok (.aload_n 0, 1) := by decide +kernel
theorem dX11_clearBy_32 : decode cX11_clearBy 32 = .ok (.invokevirtual 169, 3) := by decide +kernel
theorem dX11_clearBy_35 : decode cX11_clearBy 35 = .ok (.iinc 2 1, 3) := by decide +kernel
theorem dX11_clearBy_38 : decode cX11_clearBy 38 = .ok (.goto (-27), 3) := by decide +kernel
theorem dX11_clearBy_41 : decode cX11_clearBy 41 = .ok (.aload_n 0, 1) := by decide +kernel
theorem dX11_clearBy_42 : decode cX11_clearBy 42 = .ok (.iconst 1, 1) := by decide +kernel
theorem dX11_clearBy_43 : decode cX11_clearBy 43 = .ok (.iconst 0, 1) := by decide +kernel
theorem dX11_clearBy_44 : decode cX11_clearBy 44 = .ok (.invokevirtual 106, 3) := by decide +kernel
theorem dX11_clearBy_47 : decode cX11_clearBy 47 = .ok (.iload_n 1, 1) := by decide +kernel
theorem dX11_clearBy_48 : decode cX11_clearBy 48 = .ok (.ireturn, 1) := by decide +kernel
theorem dX11_dark_0 : decode cX11_dark 0 = .ok (.iload_n 1, 1) := by decide +kernel
theorem dX11_dark_1 : decode cX11_dark 1 = .ok (.iconst 0, 1) := by decide +kernel
theorem dX11_dark_2 : decode cX11_dark 2 = .ok (.sipush 300, 3) := by decide +kernel
theorem dX11_dark_5 : decode cX11_dark 5 = .ok (.invokestatic 64, 3) := by decide +kernel
theorem dX11_dark_8 : decode cX11_dark 8 = .ok (.istore_n 2, 1) := by decide +kernel
theorem dX11_dark_9 : decode cX11_dark 9 = .ok (.iload_n 2, 1) := by decide +kernel
theorem dX11_dark_10 : decode cX11_dark 10 = .ok (.ifCond .eq 9, 3) := by decide +kernel
theorem dX11_dark_13 : decode cX11_dark 13 = .ok (.aload_n 0, 1) := by decide +kernel
theorem dX11_dark_14 : decode cX11_dark 14 = .ok (.iload_n 2, 1) := by decide +kernel
theorem dX11_dark_15 : decode cX11_dark 15 = .ok (.invokevirtual 71, 3) := by decide +kernel
theorem dX11_dark_18 : decode cX11_dark 18 = .ok (.ireturn, 1) := by decide +kernel
theorem dX11_dark_19 : decode cX11_dark 19 = .ok (.aload_n 0, 1) := by decide +kernel
theorem dX11_dark_20 : decode cX11_dark 20 = .ok (.iconst 1, 1) := by decide +kernel
theorem dX11_dark_21 : decode cX11_dark 21 = .ok (.iconst 1, 1) := by decide +kernel
theorem dX11_dark_22 : decode cX11_dark 22 = .ok (.invokevirtual 106, 3) := by decide +kernel
theorem dX11_dark_25 : decode cX11_dark 25 = .ok (.iconst 0, 1) := by decide +kernel
theorem dX11_dark_26 : decode cX11_dark 26 = .ok (.istore_n 3, 1) := by decide +kernel
theorem dX11_dark_27 : decode cX11_dark 27 = .ok (.iconst 0, 1) := by decide +kernel
theorem dX11_dark_28 : decode cX11_dark 28 = .ok (.istore 4, 2) := by decide +kernel
theorem dX11_dark_30 : decode cX11_dark 30 = .ok (.iload 4, 2) := by decide +kernel
theorem dX11_dark_32 : decode cX11_dark 32 = .ok (.iload_n 1, 1) := by decide +kernel
theorem dX11_dark_33 : decode cX11_dark 33 = .ok (.if_icmp .ge 48, 3) := by decide +kernel
theorem dX11_dark_36 : decode cX11_dark 36 = .ok (.iconst 0, 1) := by decide +kernel
theorem dX11_dark_37 : decode cX11_dark 37 = .ok (.istore 5, 2) := by decide +kernel
theorem dX11_dark_39 : decode cX11_dark 39 = .ok (.iload 5, 2) := by decide +kernel
theorem dX11_dark_41 : decode cX11_dark 41 = .ok (.iconst 4, 1) := by decide +kernel
theorem dX11_dark_42 : decode cX11_dark 42 = .ok (.if_icmp .ge 29, 3) := by decide +kernel
theorem dX11_dark_45 : decode cX11_dark 45 = .ok (.iload_n 3, 1) := by decide +kernel
theorem dX11_dark_46 : decode cX11_dark 46 = .ok (.aload_n 0, 1) := by decide +kernel
theorem dX11_dark_47 : decode cX11_dark 47 = .ok (.iload 5, 2) := by decide +kernel
theorem dX11_dark_49 : decode cX11_dark 49 = .ok (.invokevirtual 176, 3) := by decide +kernel
theorem dX11_dark_52 : decode cX11_dark 52 = .ok (.ifCond .eq 10, 3) := by decide +kernel
theorem dX11_dark_55 : decode cX11_dark 55 = .ok (.iconst 1, 1) := by decide +kernel
theorem dX11_dark_56 : decode cX11_dark 56 = .ok (.iload 5, 2) := by decide +kernel
theorem dX11_dark_58 : decode cX11_dark 58 = .ok (.ishl, 1) := by decide +kernel
theorem dX11_dark_59 : decode cX11_dark 59 = .ok (.goto 4, 3) := by decide +kernel
theorem dX11_dark_62 : decode cX11_dark 62 = .ok (.iconst 0, 1) := by decide +kernel
theorem dX11_dark_63 : decode cX11_dark 63 = .ok (.ior, 1) := by decide +kernel
theorem dX11_dark_64 : decode cX11_dark 64 = .ok (.istore_n 3, 1) := by decide +kernel
theorem dX11_dark_65 : decode cX11_dark 65 = .ok (.iinc 5 1, 3) := by decide +kernel
theorem dX11_dark_68 : decode cX11_dark 68 = .ok (.goto (-29), 3) := by decide +kernel
theorem dX11_dark_71 : decode cX11_dark 71 = .ok (.aload_n 0, 1) := by decide +kernel
theorem dX11_dark_72 : decode cX11_dark 72 = .ok (.invokevirtual 169, 3) := by decide +kernel
theorem dX11_dark_75 : decode cX11_dark 75 = .ok (.iinc 4 1, 3) := by decide +kernel
theorem dX11_dark_78 : decode cX11_dark 78 = .ok (.goto (-48), 3) := by decide +kernel
theorem dX11_dark_81 : decode cX11_dark 81 = .ok (.iconst 0, 1) := by decide +kernel
theorem dX11_dark_82 : decode cX11_dark 82 = .ok (.istore 4, 2) := by decide +kernel
theorem dX11_dark_84 : decode cX11_dark 84 = .ok (.iconst 0, 1) := by decide +kernel
theorem dX11_dark_85 : decode cX11_dark 85 = .ok (.istore 5, 2) := by decide +kernel
theorem dX11_dark_87 : decode cX11_dark 87 = .ok (.iload 5, 2) := by decide +kernel
theorem dX11_dark_89 : decode cX11_dark 89 = .ok (.bipush 16, 2) := by decide +kernel
theorem dX11_dark_91 : decode cX11_dark 91 = .ok (.if_icmp .ge 34, 3) := by decide +kernel
theorem dX11_dark_94 : decode cX11_dark 94 = .ok (.iload 4, 2) := by decide +kernel
theorem dX11_dark_96 : decode cX11_dark 96 = .ok (.aload_n 0, 1) := by decide +kernel
theorem dX11_dark_97 : decode cX11_dark 97 = .ok (.getfield 34, 3) := by decide +kernel
theorem dX11_dark_100 : decode cX11_dark 100 = .ok (.iload 5, 2) := by decide +kernel
theorem dX11_dark_102 : decode cX11_dark 102 = .ok (.iaload, 1) := by decide +kernel
theorem dX11_dark_103 : decode cX11_dark 103 = .ok (.ifCond .le 12, 3) := by decide +kernel
theorem dX11_dark_106 : decode cX11_dark 106 = .ok (.iconst 1, 1) := by decide +kernel
theorem dX11_dark_107 : decode cX11_dark 107 = .ok (.iload 5, 2) := by decide +kernel
theorem dX11_dark_109 : decode cX11_dark 109 = .ok (.iconst 4, 1) := by decide +kernel
theorem dX11_dark_110 : decode cX11_dark 110 = .ok (.irem, 1) := by decide +kernel
theorem dX11_dark_111 : decode cX11_dark 111 = .ok (.ishl, 1) := by decide +kernel
theorem dX11_dark_112 : decode cX11_dark 112 = .ok (.goto 4, 3) := by decide +kernel
theorem dX11_dark_115 : decode cX11_dark 115 = .ok (.iconst 0, 1) := by decide +kernel
theorem dX11_dark_116 : decode cX11_dark 116 = .ok (.ior, 1) := by decide +kernel
theorem dX11_dark_117 : decode cX11_dark 117 = .ok (.istore 4, 2) := by decide +kernel
theorem dX11_dark_119 : decode cX11_dark 119 = .ok (.iinc 5 1, 3) := by decide +kernel
theorem dX11_dark_122 : decode cX11_dark 122 = .ok (.goto (-35), 3) := by decide +kernel
theorem dX11_dark_125 : decode cX11_dark 125 = .ok (.aload_n 0, 1) := by decide +kernel
theorem dX11_dark_126 : decode cX11_dark 126 = .ok (.iconst 1, 1) := by decide +kernel
theorem dX11_dark_127 : decode cX11_dark 127 = .ok (.iconst 0, 1) := by decide +kernel
theorem dX11_dark_128 : decode cX11_dark 128 = .ok (.invokevirtual 106, 3) := by decide +kernel
theorem dX11_dark_131 : decode cX11_dark 131 = .ok (.iload 4, 2) := by decide +kernel
theorem dX11_dark_133 : decode cX11_dark 133 = .ok (.iload_n 3, 1) := by decide +kernel
theorem dX11_dark_134 : decode cX11_dark 134 = .ok (.iconst (-1), 1) := by decide +kernel
theorem dX11_dark_135 : decode cX11_dark 135 = .ok (.ixor, 1) := by decide +kernel
theorem dX11_dark_136 : decode cX11_dark 136 = .ok (.iand, 1) := by decide +kernel
theorem dX11_dark_137 : decode cX11_dark 137 = .ok (.ireturn, 1) := by decide +kernel
theorem dX11_roomOf_0 : decode cX11_roomOf 0 = .ok (.iload_n 0, 1) := by decide +kernel
theorem dX11_roomOf_1 : decode cX11_roomOf 1 = .ok (.iconst 2, 1) := by decide +kernel
theorem dX11_roomOf_2 : decode cX11_roomOf 2 = .ok (.iload_n 1, 1) := by decide +kernel
theorem dX11_roomOf_3 : decode cX11_roomOf 3 = .ok (.iconst 1, 1) := by decide +kernel
theorem dX11_roomOf_4 : decode cX11_roomOf 4 = .ok (.isub, 1) := by decide +kernel
theorem dX11_roomOf_5 : decode cX11_roomOf 5 = .ok (.iload_n 2, 1) := by decide +kernel
theorem dX11_roomOf_6 : decode cX11_roomOf 6 = .ok (.isub, 1) := by decide +kernel
theorem dX11_roomOf_7 : decode cX11_roomOf 7 = .ok (.imul, 1) := by decide +kernel
theorem dX11_roomOf_8 : decode cX11_roomOf 8 = .ok (.ishr, 1) := by decide +kernel
theorem dX11_roomOf_9 : decode cX11_roomOf 9 = .ok (.iconst 3, 1) := by decide +kernel
theorem dX11_roomOf_10 : decode cX11_roomOf 10 = .ok (.iand, 1) := by decide +kernel
theorem dX11_roomOf_11 : decode cX11_roomOf 11 = .ok (.ireturn, 1) := by decide +kernel
theorem dX11_sumBy_0 : decode cX11_sumBy 0 = .ok (.aload_n 0, 1) := by decide +kernel
theorem dX11_sumBy_1 : decode cX11_sumBy 1 = .ok (.iconst 1, 1) := by decide +kernel
theorem dX11_sumBy_2 : decode cX11_sumBy 2 = .ok (.iconst 1, 1) := by decide +kernel
theorem dX11_sumBy_3 : decode cX11_sumBy 3 = .ok (.invokevirtual 106, 3) := by decide +kernel
theorem dX11_sumBy_6 : decode cX11_sumBy 6 = .ok (.iconst 0, 1) := by decide +kernel
theorem dX11_sumBy_7 : decode cX11_sumBy 7 = .ok (.istore_n 3, 1) := by decide +kernel
theorem dX11_sumBy_8 : decode cX11_sumBy 8 = .ok (.iload_n 3, 1) := by decide +kernel
theorem dX11_sumBy_9 : decode cX11_sumBy 9 = .ok (.aload_n 0, 1) := by decide +kernel
theorem dX11_sumBy_10 : decode cX11_sumBy 10 = .ok (.getfield 56, 3) := by decide +kernel
theorem dX11_sumBy_13 : decode cX11_sumBy 13 = .ok (.if_icmp .ge 44, 3) := by decide +kernel
theorem dX11_sumBy_16 : decode cX11_sumBy 16 = .ok (.aload_n 0, 1) := by decide +kernel
theorem dX11_sumBy_17 : decode cX11_sumBy 17 = .ok (.getfield 25, 3) := by decide +kernel
theorem dX11_sumBy_20 : decode cX11_sumBy 20 = .ok (.iload_n 3, 1) := by decide +kernel
theorem dX11_sumBy_21 : decode cX11_sumBy 21 = .ok (.iload_n 1, 1) := by decide +kernel
theorem dX11_sumBy_22 : decode cX11_sumBy 22 = .ok (.aload_n 0, 1) := by decide +kernel
theorem dX11_sumBy_23 : decode cX11_sumBy 23 = .ok (.getfield 56, 3) := by decide +kernel
theorem dX11_sumBy_26 : decode cX11_sumBy 26 = .ok (.iload_n 3, 1) := by decide +kernel
theorem dX11_sumBy_27 : decode cX11_sumBy 27 = .ok (.invokestatic 182, 3) := by decide +kernel
theorem dX11_sumBy_30 : decode cX11_sumBy 30 = .ok (.iastore, 1) := by decide +kernel
theorem dX11_sumBy_31 : decode cX11_sumBy 31 = .ok (.aload_n 0, 1) := by decide +kernel
theorem dX11_sumBy_32 : decode cX11_sumBy 32 = .ok (.getfield 28, 3) := by decide +kernel
theorem dX11_sumBy_35 : decode cX11_sumBy 35 = .ok (.iload_n 3, 1) := by decide +kernel
theorem dX11_sumBy_36 : decode cX11_sumBy 36 = .ok (.aload_n 0, 1) := by decide +kernel
theorem dX11_sumBy_37 : decode cX11_sumBy 37 = .ok (.getfield 19, 3) := by decide +kernel
theorem dX11_sumBy_40 : decode cX11_sumBy 40 = .ok (.iload_n 3, 1) := by decide +kernel
theorem dX11_sumBy_41 : decode cX11_sumBy 41 = .ok (.iaload, 1) := by decide +kernel
theorem dX11_sumBy_42 : decode cX11_sumBy 42 = .ok (.ifCond .le 7, 3) := by decide +kernel
theorem dX11_sumBy_45 : decode cX11_sumBy 45 = .ok (.iconst 1, 1) := by decide +kernel
theorem dX11_sumBy_46 : decode cX11_sumBy 46 = .ok (.goto 4, 3) := by decide +kernel
theorem dX11_sumBy_49 : decode cX11_sumBy 49 = .ok (.iconst 0, 1) := by decide +kernel
theorem dX11_sumBy_50 : decode cX11_sumBy 50 = .ok (.iastore, 1) := by decide +kernel
theorem dX11_sumBy_51 : decode cX11_sumBy 51 = .ok (.iinc 3 1, 3) := by decide +kernel
theorem dX11_sumBy_54 : decode cX11_sumBy 54 = .ok (.goto (-46), 3) := by decide +kernel
theorem dX11_sumBy_57 : decode cX11_sumBy 57 = .ok (.aload_n 0, 1) := by decide +kernel
theorem dX11_sumBy_58 : decode cX11_sumBy 58 = .ok (.iload_n 2, 1) := by decide +kernel
theorem dX11_sumBy_59 : decode cX11_sumBy 59 = .ok (.invokevirtual 172, 3) := by decide +kernel
theorem dX11_sumBy_62 : decode cX11_sumBy 62 = .ok (.aload_n 0, 1) := by decide +kernel
theorem dX11_sumBy_63 : decode cX11_sumBy 63 = .ok (.invokevirtual 179, 3) := by decide +kernel
theorem dX11_sumBy_66 : decode cX11_sumBy 66 = .ok (.istore_n 3, 1) := by decide +kernel
theorem dX11_sumBy_67 : decode cX11_sumBy 67 = .ok (.aload_n 0, 1) := by decide +kernel
theorem dX11_sumBy_68 : decode cX11_sumBy 68 = .ok (.iconst 1, 1) := by decide +kernel
theorem dX11_sumBy_69 : decode cX11_sumBy 69 = .ok (.iconst 0, 1) := by decide +kernel
theorem dX11_sumBy_70 : decode cX11_sumBy 70 = .ok (.invokevirtual 106, 3) := by decide +kernel
theorem dX11_sumBy_73 : decode cX11_sumBy 73 = .ok (.iload_n 3, 1) := by decide +kernel
theorem dX11_sumBy_74 : decode cX11_sumBy 74 = .ok (.ireturn, 1) := by decide +kernel
theorem dX11_findBest_0 : decode cX11_findBest 0 = .ok (.aload_n 0, 1) := by decide +kernel
theorem dX11_findBest_1 : decode cX11_findBest 1 = .ok (.bipush (-9), 2) := by decide +kernel
theorem dX11_findBest_3 : decode cX11_findBest 3 = .ok (.putfield 185, 3) := by decide +kernel
theorem dX11_findBest_6 : decode cX11_findBest 6 = .ok (.iconst 0, 1) := by decide +kernel
theorem dX11_findBest_7 : decode cX11_findBest 7 = .ok (.istore_n 2, 1) := by decide +kernel
theorem dX11_findBest_8 : decode cX11_findBest 8 = .ok (.iload_n 2, 1) := by decide +kernel
theorem dX11_findBest_9 : decode cX11_findBest 9 = .ok (.iconst 1, 1) := by decide +kernel
theorem dX11_findBest_10 : decode cX11_findBest 10 = .ok (.iconst 2, 1) := by decide +kernel
theorem dX11_findBest_11 : decode cX11_findBest 11 = .ok (.aload_n 0, 1) := by decide +kernel
theorem dX11_findBest_12 : decode cX11_findBest 12 = .ok (.getfield 56, 3) := by decide +kernel
theorem dX11_findBest_15 : decode cX11_findBest 15 = .ok (.imul, 1) := by decide +kernel
theorem dX11_findBest_16 : decode cX11_findBest 16 = .ok (.ishl, 1) := by decide +kernel
theorem dX11_findBest_17 : decode cX11_findBest 17 = .ok (.if_icmp .ge 44, 3) := by decide +kernel
theorem dX11_findBest_20 : decode cX11_findBest 20 = .ok (.aload_n 0, 1) := by decide +kernel
theorem dX11_findBest_21 : decode cX11_findBest 21 = .ok (.iload_n 2, 1) := by decide +kernel
theorem dX11_findBest_22 : decode cX11_findBest 22 = .ok (.iload_n 1, 1) := by decide +kernel
theorem dX11_findBest_23 : decode cX11_findBest 23 = .ok (.invokevirtual 188, 3) := by decide +kernel
theorem dX11_findBest_26 : decode cX11_findBest 26 = .ok (.istore_n 3, 1) := by decide +kernel
theorem dX11_findBest_27 : decode cX11_findBest 27 = .ok (.aload_n 0, 1) := by decide +kernel
theorem dX11_findBest_28 : decode cX11_findBest 28 = .ok (.getfield 185, 3) := by decide +kernel
theorem dX11_findBest_31 : decode cX11_findBest 31 = .ok (.ifCond .lt 14, 3) := by decide +kernel
theorem dX11_findBest_34 : decode cX11_findBest 34 = .ok (.iload_n 3, 1) := by decide +kernel
theorem dX11_findBest_35 : decode cX11_findBest 35 = .ok (.aload_n 0, 1) := by decide +kernel
theorem dX11_findBest_36 : decode cX11_findBest 36 = .ok (.getfield 185, 3) := by decide +kernel
theorem dX11_findBest_39 : decode cX11_findBest 39 = .ok (.if_icmp .lt 6, 3) := by decide +kernel
theorem dX11_findBest_42 : decode cX11_findBest 42 = .ok (.goto 13, 3) := by decide +kernel
theorem dX11_findBest_45 : decode cX11_findBest 45 = .ok (.aload_n 0, 1) := by decide +kernel
theorem dX11_findBest_46 : decode cX11_findBest 46 = .ok (.iload_n 3, 1) := by decide +kernel
theorem dX11_findBest_47 : decode cX11_findBest 47 = .ok (.putfield 185, 3) := by decide +kernel
theorem dX11_findBest_50 : decode cX11_findBest 50 = .ok (.aload_n 0, 1) := by decide +kernel
theorem dX11_findBest_51 : decode cX11_findBest 51 = .ok (.iload_n 2, 1) := by decide +kernel
theorem dX11_findBest_52 : decode cX11_findBest 52 = .ok (.putfield 191, 3) := by decide +kernel
theorem dX11_findBest_55 : decode cX11_findBest 55 = .ok (.iinc 2 1, 3) := by decide +kernel
theorem dX11_findBest_58 : decode cX11_findBest 58 = .ok (.goto (-50), 3) := by decide +kernel
theorem dX11_findBest_61 : decode cX11_findBest 61 = .ok (.return_, 1) := by decide +kernel
theorem dX11_best_0 : decode cX11_best 0 = .ok (.iload_n 2, 1) := by decide +kernel
theorem dX11_best_1 : decode cX11_best 1 = .ok (.iconst (-1), 1) := by decide +kernel
theorem dX11_best_2 : decode cX11_best 2 = .ok (.if_icmp .eq 15, 3) := by decide +kernel
theorem dX11_best_5 : decode cX11_best 5 = .ok (.aload_n 0, 1) := by decide +kernel
theorem dX11_best_6 : decode cX11_best 6 = .ok (.iload_n 2, 1) := by decide +kernel
theorem dX11_best_7 : decode cX11_best 7 = .ok (.invokevirtual 99, 3) := by decide +kernel
theorem dX11_best_10 : decode cX11_best 10 = .ok (.ifCond .ne 7, 3) := by decide +kernel
theorem dX11_best_13 : decode cX11_best 13 = .ok (.iconst (-1), 1) := by decide +kernel
theorem dX11_best_14 : decode cX11_best 14 = .ok (.goto 10, 3) := by decide +kernel
theorem dX11_best_17 : decode cX11_best 17 = .ok (.iload_n 1, 1) := by decide +kernel
theorem dX11_best_18 : decode cX11_best 18 = .ok (.iconst 0, 1) := by decide +kernel
theorem dX11_best_19 : decode cX11_best 19 = .ok (.bipush 20, 2) := by decide +kernel
theorem dX11_best_21 : decode cX11_best 21 = .ok (.invokestatic 64, 3) := by decide +kernel
theorem dX11_best_24 : decode cX11_best 24 = .ok (.istore_n 3, 1) := by decide +kernel
theorem dX11_best_25 : decode cX11_best 25 = .ok (.iload_n 3, 1) := by decide +kernel
theorem dX11_best_26 : decode cX11_best 26 = .ok (.ifCond .eq 9, 3) := by decide +kernel
theorem dX11_best_29 : decode cX11_best 29 = .ok (.aload_n 0, 1) := by decide +kernel
theorem dX11_best_30 : decode cX11_best 30 = .ok (.iload_n 3, 1) := by decide +kernel
theorem dX11_best_31 : decode cX11_best 31 = .ok (.invokevirtual 71, 3) := by decide +kernel
theorem dX11_best_34 : decode cX11_best 34 = .ok (.ireturn, 1) := by decide +kernel
theorem dX11_best_35 : decode cX11_best 35 = .ok (.aload_n 0, 1) := by decide +kernel
theorem dX11_best_36 : decode cX11_best 36 = .ok (.iload_n 1, 1) := by decide +kernel
theorem dX11_best_37 : decode cX11_best 37 = .ok (.invokevirtual 194, 3) := by decide +kernel
theorem dX11_best_40 : decode cX11_best 40 = .ok (.iload_n 2, 1) := by decide +kernel
theorem dX11_best_41 : decode cX11_best 41 = .ok (.iconst (-1), 1) := by decide +kernel
theorem dX11_best_42 : decode cX11_best 42 = .ok (.if_icmp .ne 10, 3) := by decide +kernel
theorem dX11_best_45 : decode cX11_best 45 = .ok (.aload_n 0, 1) := by decide +kernel
theorem dX11_best_46 : decode cX11_best 46 = .ok (.getfield 185, 3) := by decide +kernel
theorem dX11_best_49 : decode cX11_best 49 = .ok (.goto 15, 3) := by decide +kernel
theorem dX11_best_52 : decode cX11_best 52 = .ok (.aload_n 0, 1) := by decide +kernel
theorem dX11_best_53 : decode cX11_best 53 = .ok (.getfield 191, 3) := by decide +kernel
theorem dX11_best_56 : decode cX11_best 56 = .ok (.aload_n 0, 1) := by decide +kernel
theorem dX11_best_57 : decode cX11_best 57 = .ok (.getfield 56, 3) := by decide +kernel
theorem dX11_best_60 : decode cX11_best 60 = .ok (.iload_n 2, 1) := by decide +kernel
theorem dX11_best_61 : decode cX11_best 61 = .ok (.invokestatic 182, 3) := by decide +kernel
theorem dX11_best_64 : decode cX11_best 64 = .ok (.ireturn, 1) := by decide +kernel
theorem dX11_countsAll_0 : decode cX11_countsAll 0 = .ok (.iload_n 2, 1) := by decide +kernel
theorem dX11_countsAll_1 : decode cX11_countsAll 1 = .ok (.istore 4, 2) := by decide +kernel
theorem dX11_countsAll_3 : decode cX11_countsAll 3 = .ok (.iconst 0, 1) := by decide +kernel
theorem dX11_countsAll_4 : decode cX11_countsAll 4 = .ok (.istore 5, 2) := by decide +kernel
theorem dX11_countsAll_6 : decode cX11_countsAll 6 = .ok (.iload 4, 2) := by decide +kernel
theorem dX11_countsAll_8 : decode cX11_countsAll 8 = .ok (.ifCond .le 43, 3) := by decide +kernel
theorem dX11_countsAll_11 : decode cX11_countsAll 11 = .ok (.iload_n 0, 1) := by decide +kernel
theorem dX11_countsAll_12 : decode cX11_countsAll 12 = .ok (.iload_n 1, 1) := by decide +kernel
theorem dX11_countsAll_13 : decode cX11_countsAll 13 = .ok (.iload 4, 2) := by decide +kernel
theorem dX11_countsAll_15 : decode cX11_countsAll 15 = .ok (.iload_n 3, 1) := by decide +kernel
theorem dX11_countsAll_16 : decode cX11_countsAll 16 = .ok (.invokestatic 146, 3) := by decide +kernel
theorem dX11_countsAll_19 : decode cX11_countsAll 19 = .ok (.istore 6, 2) := by decide +kernel
theorem dX11_countsAll_21 : decode cX11_countsAll 21 = .ok (.iload 5, 2) := by decide +kernel
theorem dX11_countsAll_23 : decode cX11_countsAll 23 = .ok (.iload_n 0, 1) := by decide +kernel
theorem dX11_countsAll_24 : decode cX11_countsAll 24 = .ok (.iload 6, 2) := by decide +kernel
theorem dX11_countsAll_26 : decode cX11_countsAll 26 = .ok (.iload_n 0, 1) := by decide +kernel
theorem dX11_countsAll_27 : decode cX11_countsAll 27 = .ok (.iload_n 1, 1) := by decide +kernel
theorem dX11_countsAll_28 : decode cX11_countsAll 28 = .ok (.iload 6, 2) := by decide +kernel
theorem dX11_countsAll_30 : decode cX11_countsAll 30 = .ok (.iload_n 3, 1) := by decide +kernel
theorem dX11_countsAll_31 : decode cX11_countsAll 31 = .ok (.invokestatic 153, 3) := by decide +kernel
theorem dX11_countsAll_34 : decode cX11_countsAll 34 = .ok (.isub, 1) := by decide +kernel
theorem dX11_countsAll_35 : decode cX11_countsAll 35 = .ok (.invokestatic 159, 3) := by decide +kernel
theorem dX11_countsAll_38 : decode cX11_countsAll 38 = .ok (.iadd, 1) := by decide +kernel
theorem dX11_countsAll_39 : decode cX11_countsAll 39 = .ok (.istore 5, 2) := by decide +kernel
theorem dX11_countsAll_41 : decode cX11_countsAll 41 = .ok (.iload 4, 2) := by decide +kernel
theorem dX11_countsAll_43 : decode cX11_countsAll 43 = .ok (.iload 6, 2) := by decide +kernel
theorem dX11_countsAll_45 : decode cX11_countsAll 45 = .ok (.isub, 1) := by decide +kernel
theorem dX11_countsAll_46 : decode cX11_countsAll 46 = .ok (.istore 4, 2) := by decide +kernel
theorem dX11_countsAll_48 : decode cX11_countsAll 48 = .ok (.goto (-42), 3) := by decide +kernel
theorem dX11_countsAll_51 : decode cX11_countsAll 51 = .ok (.iload 5, 2) := by decide +kernel
theorem dX11_countsAll_53 : decode cX11_countsAll 53 = .ok (.ireturn, 1) := by decide +kernel
theorem dX11_pour_0 : decode cX11_pour 0 = .ok (.iload_n 1, 1) := by decide +kernel
theorem dX11_pour_1 : decode cX11_pour 1 = .ok (.iconst 0, 1) := by decide +kernel
theorem dX11_pour_2 : decode cX11_pour 2 = .ok (.iconst 5, 1) := by decide +kernel
theorem dX11_pour_3 : decode cX11_pour 3 = .ok (.invokestatic 82, 3) := by decide +kernel
theorem dX11_pour_6 : decode cX11_pour 6 = .ok (.ifCond .ne 8, 3) := by decide +kernel
theorem dX11_pour_9 : decode cX11_pour 9 = .ok (.bipush (-2), 2) := by decide +kernel
theorem dX11_pour_11 : decode cX11_pour 11 = .ok (.goto 10, 3) := by decide +kernel
theorem dX11_pour_14 : decode cX11_pour 14 = .ok (.iload_n 2, 1) := by decide +kernel
theorem dX11_pour_15 : decode cX11_pour 15 = .ok (.iconst 0, 1) := by decide +kernel
theorem dX11_pour_16 : decode cX11_pour 16 = .ok (.bipush 9, 2) := by decide +kernel
theorem dX11_pour_18 : decode cX11_pour 18 = .ok (.invokestatic 64, 3) := by decide +kernel
theorem dX11_pour_21 : decode cX11_pour 21 = .ok (.istore 5, 2) := by decide +kernel
theorem dX11_pour_23 : decode cX11_pour 23 = .ok (.iload 5, 2) := by decide +kernel
theorem dX11_pour_25 : decode cX11_pour 25 = .ok (.ifCond .ne 15, 3) := by decide +kernel
theorem dX11_pour_28 : decode cX11_pour 28 = .ok (.iload_n 3, 1) := by decide +kernel
theorem dX11_pour_29 : decode cX11_pour 29 = .ok (.iload 4, 2) := by decide +kernel
theorem dX11_pour_31 : decode cX11_pour 31 = .ok (.invokestatic 96, 3) := by decide +kernel
theorem dX11_pour_34 : decode cX11_pour 34 = .ok (.ifCond .ne 6, 3) := by decide +kernel
theorem dX11_pour_37 : decode cX11_pour 37 = .ok (.iconst (-1), 1) := by decide +kernel
theorem dX11_pour_38 : decode cX11_pour 38 = .ok (.istore 5, 2) := by decide +kernel
theorem dX11_pour_40 : decode cX11_pour 40 = .ok (.iload 5, 2) := by decide +kernel
theorem dX11_pour_42 : decode cX11_pour 42 = .ok (.ifCond .eq 10, 3) := by decide +kernel
theorem dX11_pour_45 : decode cX11_pour 45 = .ok (.aload_n 0, 1) := by decide +kernel
theorem dX11_pour_46 : decode cX11_pour 46 = .ok (.iload 5, 2) := by decide +kernel
theorem dX11_pour_48 : decode cX11_pour 48 = .ok (.invokevirtual 71, 3) := by decide +kernel
theorem dX11_pour_51 : decode cX11_pour 51 = .ok (.ireturn, 1) := by decide +kernel
theorem dX11_pour_52 : decode cX11_pour 52 = .ok (.aload_n 0, 1) := by decide +kernel
theorem dX11_pour_53 : decode cX11_pour 53 = .ok (.getfield 34, 3) := by decide +kernel
theorem dX11_pour_56 : decode cX11_pour 56 = .ok (.iconst 4, 1) := by decide +kernel
theorem dX11_pour_57 : decode cX11_pour 57 = .ok (.iload_n 3, 1) := by decide +kernel
theorem dX11_pour_58 : decode cX11_pour 58 = .ok (.imul, 1) := by decide +kernel
theorem dX11_pour_59 : decode cX11_pour 59 = .ok (.iload 4, 2) := by decide +kernel
theorem dX11_pour_61 : decode cX11_pour 61 = .ok (.iadd, 1) := by decide +kernel
theorem dX11_pour_62 : decode cX11_pour 62 = .ok (.iaload, 1) := by decide +kernel
theorem dX11_pour_63 : decode cX11_pour 63 = .ok (.istore 6, 2) := by decide +kernel
theorem dX11_pour_65 : decode cX11_pour 65 = .ok (.iload 6, 2) := by decide +kernel
theorem dX11_pour_67 : decode cX11_pour 67 = .ok (.ifCond .ne 5, 3) := by decide +kernel
theorem dX11_pour_70 : decode cX11_pour 70 = .ok (.iconst 0, 1) := by decide +kernel
theorem dX11_pour_71 : decode cX11_pour 71 = .ok (.ireturn, 1) := by decide +kernel
theorem dX11_pour_72 : decode cX11_pour 72 = .ok (.iconst 1, 1) := by decide +kernel
theorem dX11_pour_73 : decode cX11_pour 73 = .ok (.istore 7, 2) := by decide +kernel
theorem dX11_pour_75 : decode cX11_pour 75 = .ok (.iload 7, 2) := by decide +kernel
theorem dX11_pour_77 : decode cX11_pour 77 = .ok (.sipush 999, 3) := by decide +kernel
theorem dX11_pour_80 : decode cX11_pour 80 = .ok (.if_icmp .gt 31, 3) := by decide +kernel
theorem dX11_pour_83 : decode cX11_pour 83 = .ok (.iload_n 1, 1) := by decide +kernel
theorem dX11_pour_84 : decode cX11_pour 84 = .ok (.iload_n 2, 1) := by decide +kernel
theorem dX11_pour_85 : decode cX11_pour 85 = .ok (.iload 7, 2) := by decide +kernel
theorem dX11_pour_87 : decode cX11_pour 87 = .ok (.aload_n 0, 1) := by decide +kernel
theorem dX11_pour_88 : decode cX11_pour 88 = .ok (.getfield 31, 3) := by decide +kernel
theorem dX11_pour_91 : decode cX11_pour 91 = .ok (.iload 4, 2) := by decide +kernel
theorem dX11_pour_93 : decode cX11_pour 93 = .ok (.iaload, 1) := by decide +kernel
theorem dX11_pour_94 : decode cX11_pour 94 = .ok (.invokestatic 197, 3) := by decide +kernel
theorem dX11_pour_97 : decode cX11_pour 97 = .ok (.iload 6, 2) := by decide +kernel
theorem dX11_pour_99 : decode cX11_pour 99 = .ok (.if_icmp .lt 6, 3) := by decide +kernel
theorem dX11_pour_102 : decode cX11_pour 102 = .ok (.iload 7, 2) := by decide +kernel
theorem dX11_pour_104 : decode cX11_pour 104 = .ok (.ireturn, 1) := by decide +kernel
theorem dX11_pour_105 : decode cX11_pour 105 = .ok (.iinc 7 1, 3) := by decide +kernel
theorem dX11_pour_108 : decode cX11_pour 108 = .ok (.goto (-33), 3) := by decide +kernel
theorem dX11_pour_111 : decode cX11_pour 111 = .ok (.bipush (-9), 2) := by decide +kernel
theorem dX11_pour_113 : decode cX11_pour 113 = .ok (.ireturn, 1) := by decide +kernel
theorem dX11_doesOwe_0 : decode cX11_doesOwe 0 = .ok (.aload_n 0, 1) := by decide +kernel
theorem dX11_doesOwe_1 : decode cX11_doesOwe 1 = .ok (.getfield 34, 3) := by decide +kernel
theorem dX11_doesOwe_4 : decode cX11_doesOwe 4 = .ok (.iconst 4, 1) := by decide +kernel
theorem dX11_doesOwe_5 : decode cX11_doesOwe 5 = .ok (.iload_n 1, 1) := by decide +kernel
theorem dX11_doesOwe_6 : decode cX11_doesOwe 6 = .ok (.imul, 1) := by decide +kernel
theorem dX11_doesOwe_7 : decode cX11_doesOwe 7 = .ok (.iload_n 2, 1) := by decide +kernel
theorem dX11_doesOwe_8 : decode cX11_doesOwe 8 = .ok (.iadd, 1) := by decide +kernel
theorem dX11_doesOwe_9 : decode cX11_doesOwe 9 = .ok (.iaload, 1) := by decide +kernel
theorem dX11_doesOwe_10 : decode cX11_doesOwe 10 = .ok (.ifCond .le 7, 3) := by decide +kernel
theorem dX11_doesOwe_13 : decode cX11_doesOwe 13 = .ok (.iconst 1, 1) := by decide +kernel
theorem dX11_doesOwe_14 : decode cX11_doesOwe 14 = .ok (.goto 4, 3) := by decide +kernel
theorem dX11_doesOwe_17 : decode cX11_doesOwe 17 = .ok (.iconst 0, 1) := by decide +kernel
theorem dX11_doesOwe_18 : decode cX11_doesOwe 18 = .ok (.ireturn, 1) := by decide +kernel
theorem dX11_strikesTwo_0 : decode cX11_strikesTwo 0 = .ok (.iconst 0, 1) := by decide +kernel
theorem dX11_strikesTwo_1 : decode cX11_strikesTwo 1 = .ok (.istore_n 1, 1) := by decide +kernel
theorem dX11_strikesTwo_2 : decode cX11_strikesTwo 2 = .ok (.iload_n 1, 1) := by decide +kernel
theorem dX11_strikesTwo_3 : decode cX11_strikesTwo 3 = .ok (.iconst 4, 1) := by decide +kernel
theorem dX11_strikesTwo_4 : decode cX11_strikesTwo 4 = .ok (.if_icmp .ge 99, 3) := by decide +kernel
theorem dX11_strikesTwo_7 : decode cX11_strikesTwo 7 = .ok (.iload_n 1, 1) := by decide +kernel
theorem dX11_strikesTwo_8 : decode cX11_strikesTwo 8 = .ok (.iconst 1, 1) := by decide +kernel
theorem dX11_strikesTwo_9 : decode cX11_strikesTwo 9 = .ok (.iadd, 1) := by decide +kernel
theorem dX11_strikesTwo_10 : decode cX11_strikesTwo 10 = .ok (.istore_n 2, 1) := by decide +kernel
theorem dX11_strikesTwo_11 : decode cX11_strikesTwo 11 = .ok (.iload_n 2, 1) := by decide +kernel
theorem dX11_strikesTwo_12 : decode cX11_strikesTwo 12 = .ok (.iconst 4, 1) := by decide +kernel
theorem dX11_strikesTwo_13 : decode cX11_strikesTwo 13 = .ok (.if_icmp .ge 84, 3) := by decide +kernel
theorem dX11_strikesTwo_16 : decode cX11_strikesTwo 16 = .ok (.aload_n 0, 1) := by decide +kernel
theorem dX11_strikesTwo_17 : decode cX11_strikesTwo 17 = .ok (.iload_n 1, 1) := by decide +kernel
theorem dX11_strikesTwo_18 : decode cX11_strikesTwo 18 = .ok (.iload_n 2, 1) := by decide +kernel
theorem dX11_strikesTwo_19 : decode cX11_strikesTwo 19 = .ok (.invokevirtual 200, 3) := by decide +kernel
theorem dX11_strikesTwo_22 : decode cX11_strikesTwo 22 = .ok (.ifCond .eq 69, 3) := by decide +kernel
theorem dX11_strikesTwo_25 : decode cX11_strikesTwo 25 = .ok (.aload_n 0, 1) := by decide +kernel
theorem dX11_strikesTwo_26 : decode cX11_strikesTwo 26 = .ok (.iload_n 2, 1) := by decide +kernel
theorem dX11_strikesTwo_27 : decode cX11_strikesTwo 27 = .ok (.iload_n 1, 1) := by decide +kernel
theorem dX11_strikesTwo_28 : decode cX11_strikesTwo 28 = .ok (.invokevirtual 200, 3) := by decide +kernel
theorem dX11_strikesTwo_31 : decode cX11_strikesTwo 31 = .ok (.ifCond .ne 6, 3) := by decide +kernel
theorem dX11_strikesTwo_34 : decode cX11_strikesTwo 34 = .ok (.goto 57, 3) := by decide +kernel
theorem dX11_strikesTwo_37 : decode cX11_strikesTwo 37 = .ok (.aload_n 0, 1) := by decide +kernel
theorem dX11_strikesTwo_38 : decode cX11_strikesTwo 38 = .ok (.getfield 34, 3) := by decide +kernel
theorem dX11_strikesTwo_41 : decode cX11_strikesTwo 41 = .ok (.iconst 4, 1) := by decide +kernel
theorem dX11_strikesTwo_42 : decode cX11_strikesTwo 42 = .ok (.iload_n 1, 1) := by decide +kernel
theorem dX11_strikesTwo_43 : decode cX11_strikesTwo 43 = .ok (.imul, 1) := by decide +kernel
theorem dX11_strikesTwo_44 : decode cX11_strikesTwo 44 = .ok (.iload_n 2, 1) := by decide +kernel
theorem dX11_strikesTwo_45 : decode cX11_strikesTwo 45 = .ok (.iadd, 1) := by decide +kernel
theorem dX11_strikesTwo_46 : decode cX11_strikesTwo 46 = .ok (.iaload, 1) := by decide +kernel
theorem dX11_strikesTwo_47 : decode cX11_strikesTwo 47 = .ok (.aload_n 0, 1) := by decide +kernel
theorem dX11_strikesTwo_48 : decode cX11_strikesTwo 48 = .ok (.getfield 34, 3) := by decide +kernel
theorem dX11_strikesTwo_51 : decode cX11_strikesTwo 51 = .ok (.iconst 4, 1) := by decide +kernel
theorem dX11_strikesTwo_52 : decode cX11_strikesTwo 52 = .ok (.iload_n 2, 1) := by decide +kernel
theorem dX11_strikesTwo_53 : decode cX11_strikesTwo 53 = .ok (.imul, 1) := by decide +kernel
theorem dX11_strikesTwo_54 : decode cX11_strikesTwo 54 = .ok (.iload_n 1, 1) := by decide +kernel
theorem dX11_strikesTwo_55 : decode cX11_strikesTwo 55 = .ok (.iadd, 1) := by decide +kernel
theorem dX11_strikesTwo_56 : decode cX11_strikesTwo 56 = .ok (.iaload, 1) := by decide +kernel
theorem dX11_strikesTwo_57 : decode cX11_strikesTwo 57 = .ok (.invokestatic 142, 3) := by decide +kernel
theorem dX11_strikesTwo_60 : decode cX11_strikesTwo 60 = .ok (.istore_n 3, 1) := by decide +kernel
theorem dX11_strikesTwo_61 : decode cX11_strikesTwo 61 = .ok (.aload_n 0, 1) := by decide +kernel
theorem dX11_strikesTwo_62 : decode cX11_strikesTwo 62 = .ok (.getfield 34, 3) := by decide +kernel
theorem dX11_strikesTwo_65 : decode cX11_strikesTwo 65 = .ok (.iconst 4, 1) := by decide +kernel
theorem dX11_strikesTwo_66 : decode cX11_strikesTwo 66 = .ok (.iload_n 1, 1) := by decide +kernel
theorem dX11_strikesTwo_67 : decode cX11_strikesTwo 67 = .ok (.imul, 1) := by decide +kernel
theorem dX11_strikesTwo_68 : decode cX11_strikesTwo 68 = .ok (.iload_n 2, 1) := by decide +kernel
theorem dX11_strikesTwo_69 : decode cX11_strikesTwo 69 = .ok (.iadd, 1) := by decide +kernel
theorem dX11_strikesTwo_70 : decode cX11_strikesTwo 70 = .ok (.dup2, 1) := by decide +kernel
theorem dX11_strikesTwo_71 : decode cX11_strikesTwo 71 = .ok (.iaload, 1) := by decide +kernel
theorem dX11_strikesTwo_72 : decode cX11_strikesTwo 72 = .ok (.iload_n 3, 1) := by decide +kernel
theorem dX11_strikesTwo_73 : decode cX11_strikesTwo 73 = .ok (.isub, 1) := by decide +kernel
theorem dX11_strikesTwo_74 : decode cX11_strikesTwo 74 = .ok (.iastore, 1) := by decide +kernel
theorem dX11_strikesTwo_75 : decode cX11_strikesTwo 75 = .ok (.aload_n 0, 1) := by decide +kernel
theorem dX11_strikesTwo_76 : decode cX11_strikesTwo 76 = .ok (.getfield 34, 3) := by decide +kernel
theorem dX11_strikesTwo_79 : decode cX11_strikesTwo 79 = .ok (.iconst 4, 1) := by decide +kernel
theorem dX11_strikesTwo_80 : decode cX11_strikesTwo 80 = .ok (.iload_n 2, 1) := by decide +kernel
theorem dX11_strikesTwo_81 : decode cX11_strikesTwo 81 = .ok (.imul, 1) := by decide +kernel
theorem dX11_strikesTwo_82 : decode cX11_strikesTwo 82 = .ok (.iload_n 1, 1) := by decide +kernel
theorem dX11_strikesTwo_83 : decode cX11_strikesTwo 83 = .ok (.iadd, 1) := by decide +kernel
theorem dX11_strikesTwo_84 : decode cX11_strikesTwo 84 = .ok (.dup2, 1) := by decide +kernel
theorem dX11_strikesTwo_85 : decode cX11_strikesTwo 85 = .ok (.iaload, 1) := by decide +kernel
theorem dX11_strikesTwo_86 : decode cX11_strikesTwo 86 = .ok (.iload_n 3, 1) := by decide +kernel
theorem dX11_strikesTwo_87 : decode cX11_strikesTwo 87 = .ok (.isub, 1) := by decide +kernel
theorem dX11_strikesTwo_88 : decode cX11_strikesTwo 88 = .ok (.iastore, 1) := by decide +kernel
theorem dX11_strikesTwo_89 : decode cX11_strikesTwo 89 = .ok (.iconst 1, 1) := by decide +kernel
theorem dX11_strikesTwo_90 : decode cX11_strikesTwo 90 = .ok (.ireturn, 1) := by decide +kernel
theorem dX11_strikesTwo_91 : decode cX11_strikesTwo 91 = .ok (.iinc 2 1, 3) := by decide +kernel
theorem dX11_strikesTwo_94 : decode cX11_strikesTwo 94 = .ok (.goto (-83), 3) := by decide +kernel
theorem dX11_strikesTwo_97 : decode cX11_strikesTwo 97 = .ok (.iinc 1 1, 3) := by decide +kernel
theorem dX11_strikesTwo_100 : decode cX11_strikesTwo 100 = .ok (.goto (-98), 3) := by decide +kernel
theorem dX11_strikesTwo_103 : decode cX11_strikesTwo 103 = .ok (.iconst 0, 1) := by decide +kernel
theorem dX11_strikesTwo_104 : decode cX11_strikesTwo 104 = .ok (.ireturn, 1) := by decide +kernel
theorem dX11_strikesThree_0 : decode cX11_strikesThree 0 = .ok (.iconst 0, 1) := by decide +kernel
theorem dX11_strikesThree_1 : decode cX11_strikesThree 1 = .ok (.istore_n 1, 1) := by decide +kernel
theorem dX11_strikesThree_2 : decode cX11_strikesThree 2 = .ok (.iload_n 1, 1) := by decide +kernel
theorem dX11_strikesThree_3 : decode cX11_strikesThree 3 = .ok (.bipush 64, 2) := by decide +kernel
theorem dX11_strikesThree_5 : decode cX11_strikesThree 5 = .ok (.if_icmp .ge 163, 3) := by decide +kernel
theorem dX11_strikesThree_8 : decode cX11_strikesThree 8 = .ok (.iload_n 1, 1) := by decide +kernel
theorem dX11_strikesThree_9 : decode cX11_strikesThree 9 = .ok (.bipush 16, 2) := by decide +kernel
theorem dX11_strikesThree_11 : decode cX11_strikesThree 11 = .ok (.idiv, 1) := by decide +kernel
theorem dX11_strikesThree_12 : decode cX11_strikesThree 12 = .ok (.istore_n 2, 1) := by decide +kernel
theorem dX11_strikesThree_13 : decode cX11_strikesThree 13 = .ok (.iload_n 1, 1) := by decide +kernel
theorem dX11_strikesThree_14 : decode cX11_strikesThree 14 = .ok (.iconst 4, 1) := by decide +kernel
theorem dX11_strikesThree_15 : decode cX11_strikesThree 15 = .ok (.idiv, 1) := by decide +kernel
theorem dX11_strikesThree_16 : decode cX11_strikesThree 16 = .ok (.iconst 4, 1) := by decide +kernel
theorem dX11_strikesThree_17 : decode cX11_strikesThree 17 = .ok (.irem, 1) := by decide +kernel
theorem dX11_strikesThree_18 : decode cX11_strikesThree 18 = .ok (.istore_n 3, 1) := by decide +kernel
theorem dX11_strikesThree_19 : decode cX11_strikesThree 19 = .ok (.iload_n 1, 1) := by decide +kernel
theorem dX11_strikesThree_20 : decode cX11_strikesThree 20 = .ok (.iconst 4, 1) := by decide +kernel
theorem dX11_strikesThree_21 : decode cX11_strikesThree 21 = .ok (.irem, 1) := by decide +kernel
theorem dX11_strikesThree_22 : decode cX11_strikesThree 22 = .ok (.istore 4, 2) := by decide +kernel
theorem dX11_strikesThree_24 : decode cX11_strikesThree 24 = .ok (.iload_n 3, 1) := by decide +kernel
theorem dX11_strikesThree_25 : decode cX11_strikesThree 25 = .ok (.iload_n 2, 1) := by decide +kernel
theorem dX11_strikesThree_26 : decode cX11_strikesThree 26 = .ok (.if_icmp .le 136, 3) := by decide +kernel
theorem dX11_strikesThree_29 : decode cX11_strikesThree 29 = .ok (.iload 4, 2) := by decide +kernel
theorem dX11_strikesThree_31 : decode cX11_strikesThree 31 = .ok (.iload_n 2, 1) := by decide +kernel
theorem dX11_strikesThree_32 : decode cX11_strikesThree 32 = .ok (.if_icmp .le 130, 3) := by decide +kernel
theorem dX11_strikesThree_35 : decode cX11_strikesThree 35 = .ok (.iload_n 3, 1) := by decide +kernel
theorem dX11_strikesThree_36 : decode cX11_strikesThree 36 = .ok (.iload 4, 2) := by decide +kernel
theorem dX11_strikesThree_38 : decode cX11_strikesThree 38 = .ok (.if_icmp .eq 124, 3) := by decide +kernel
theorem dX11_strikesThree_41 : decode cX11_strikesThree 41 = .ok (.aload_n 0, 1) := by decide +kernel
theorem dX11_strikesThree_42 : decode cX11_strikesThree 42 = .ok (.iload_n 2, 1) := by decide +kernel
theorem dX11_strikesThree_43 : decode cX11_strikesThree 43 = .ok (.iload_n 3, 1) := by decide +kernel
theorem dX11_strikesThree_44 : decode cX11_strikesThree 44 = .ok (.invokevirtual 200, 3) := by decide +kernel
theorem dX11_strikesThree_47 : decode cX11_strikesThree 47 = .ok (.ifCond .eq 115, 3) := by decide +kernel
theorem dX11_strikesThree_50 : decode cX11_strikesThree 50 = .ok (.aload_n 0, 1) := by decide +kernel
theorem dX11_strikesThree_51 : decode cX11_strikesThree 51 = .ok (.iload_n 3, 1) := by decide +kernel
theorem dX11_strikesThree_52 : decode cX11_strikesThree 52 = .ok (.iload 4, 2) := by decide +kernel
theorem dX11_strikesThree_54 : decode cX11_strikesThree 54 = .ok (.invokevirtual 200, 3) := by decide +kernel
theorem dX11_strikesThree_57 : decode cX11_strikesThree 57 = .ok (.ifCond .eq 105, 3) := by decide +kernel
theorem dX11_strikesThree_60 : decode cX11_strikesThree 60 = .ok (.aload_n 0, 1) := by decide +kernel
theorem dX11_strikesThree_61 : decode cX11_strikesThree 61 = .ok (.iload 4, 2) := by decide +kernel
theorem dX11_strikesThree_63 : decode cX11_strikesThree 63 = .ok (.iload_n 2, 1) := by decide +kernel
theorem dX11_strikesThree_64 : decode cX11_strikesThree 64 = .ok (.invokevirtual 200, 3) := by decide +kernel
theorem dX11_strikesThree_67 : decode cX11_strikesThree 67 = .ok (.ifCond .ne 6, 3) := by decide +kernel
theorem dX11_strikesThree_70 : decode cX11_strikesThree 70 = .ok (.goto 92, 3) := by decide +kernel
theorem dX11_strikesThree_73 : decode cX11_strikesThree 73 = .ok (.aload_n 0, 1) := by decide +kernel
theorem dX11_strikesThree_74 : decode cX11_strikesThree 74 = .ok (.getfield 34, 3) := by decide +kernel
theorem dX11_strikesThree_77 : decode cX11_strikesThree 77 = .ok (.iconst 4, 1) := by decide +kernel
theorem dX11_strikesThree_78 : decode cX11_strikesThree 78 = .ok (.iload_n 2, 1) := by decide +kernel
theorem dX11_strikesThree_79 : decode cX11_strikesThree 79 = .ok (.imul, 1) := by decide +kernel
theorem dX11_strikesThree_80 : decode cX11_strikesThree 80 = .ok (.iload_n 3, 1) := by decide +kernel
theorem dX11_strikesThree_81 : decode cX11_strikesThree 81 = .ok (.iadd, 1) := by decide +kernel
theorem dX11_strikesThree_82 : decode cX11_strikesThree 82 = .ok (.iaload, 1) := by decide +kernel
theorem dX11_strikesThree_83 : decode cX11_strikesThree 83 = .ok (.aload_n 0, 1) := by decide +kernel
theorem dX11_strikesThree_84 : decode cX11_strikesThree 84 = .ok (.getfield 34, 3) := by decide +kernel
theorem dX11_strikesThree_87 : decode cX11_strikesThree 87 = .ok (.iconst 4, 1) := by decide +kernel
theorem dX11_strikesThree_88 : decode cX11_strikesThree 88 = .ok (.iload_n 3, 1) := by decide +kernel
theorem dX11_strikesThree_89 : decode cX11_strikesThree 89 = .ok (.imul, 1) := by decide +kernel
theorem dX11_strikesThree_90 : decode cX11_strikesThree 90 = .ok (.iload 4, 2) := by decide +kernel
theorem dX11_strikesThree_92 : decode cX11_strikesThree 92 = .ok (.iadd, 1) := by decide +kernel
theorem dX11_strikesThree_93 : decode cX11_strikesThree 93 = .ok (.iaload, 1) := by decide +kernel
theorem dX11_strikesThree_94 : decode cX11_strikesThree 94 = .ok (.aload_n 0, 1) := by decide +kernel
theorem dX11_strikesThree_95 : decode cX11_strikesThree 95 = .ok (.getfield 34, 3) := by decide +kernel
theorem dX11_strikesThree_98 : decode cX11_strikesThree 98 = .ok (.iconst 4, 1) := by decide +kernel
theorem dX11_strikesThree_99 : decode cX11_strikesThree 99 = .ok (.iload 4, 2) := by decide +kernel
theorem dX11_strikesThree_101 : decode cX11_strikesThree 101 = .ok (.imul, 1) := by decide +kernel
theorem dX11_strikesThree_102 : decode cX11_strikesThree 102 = .ok (.iload_n 2, 1) := by decide +kernel
theorem dX11_strikesThree_103 : decode cX11_strikesThree 103 = .ok (.iadd, 1) := by decide +kernel
theorem dX11_strikesThree_104 : decode cX11_strikesThree 104 = .ok (.iaload, 1) := by decide +kernel
theorem dX11_strikesThree_105 : decode cX11_strikesThree 105 = .ok (.invokestatic 142, 3) := by decide +kernel
theorem dX11_strikesThree_108 : decode cX11_strikesThree 108 = .ok (.invokestatic 142, 3) := by decide +kernel
theorem dX11_strikesThree_111 : decode cX11_strikesThree 111 = .ok (.istore 5, 2) := by decide +kernel
theorem dX11_strikesThree_113 : decode cX11_strikesThree 113 = .ok (.aload_n 0, 1) := by decide +kernel
theorem dX11_strikesThree_114 : decode cX11_strikesThree 114 = .ok (.getfield 34, 3) := by decide +kernel
theorem dX11_strikesThree_117 : decode cX11_strikesThree 117 = .ok (.iconst 4, 1) := by decide +kernel
theorem dX11_strikesThree_118 : decode cX11_strikesThree 118 = .ok (.iload_n 2, 1) := by decide +kernel
theorem dX11_strikesThree_119 : decode cX11_strikesThree 119 = .ok (.imul, 1) := by decide +kernel
theorem dX11_strikesThree_120 : decode cX11_strikesThree 120 = .ok (.iload_n 3, 1) := by decide +kernel
theorem dX11_strikesThree_121 : decode cX11_strikesThree 121 = .ok (.iadd, 1) := by decide +kernel
theorem dX11_strikesThree_122 : decode cX11_strikesThree 122 = .ok (.dup2, 1) := by decide +kernel
theorem dX11_strikesThree_123 : decode cX11_strikesThree 123 = .ok (.iaload, 1) := by decide +kernel
theorem dX11_strikesThree_124 : decode cX11_strikesThree 124 = .ok (.iload 5, 2) := by decide +kernel
theorem dX11_strikesThree_126 : decode cX11_strikesThree 126 = .ok (.isub, 1) := by decide +kernel
theorem dX11_strikesThree_127 : decode cX11_strikesThree 127 = .ok (.iastore, 1) := by decide +kernel
theorem dX11_strikesThree_128 : decode cX11_strikesThree 128 = .ok (.aload_n 0, 1) := by decide +kernel
theorem dX11_strikesThree_129 : decode cX11_strikesThree 129 = .ok (.getfield 34, 3) := by decide +kernel
theorem dX11_strikesThree_132 : decode cX11_strikesThree 132 = .ok (.iconst 4, 1) := by decide +kernel
theorem dX11_strikesThree_133 : decode cX11_strikesThree 133 = .ok (.iload_n 3, 1) := by decide +kernel
theorem dX11_strikesThree_134 : decode cX11_strikesThree 134 = .ok (.imul, 1) := by decide +kernel
theorem dX11_strikesThree_135 : decode cX11_strikesThree 135 = .ok (.iload 4, 2) := by decide +kernel
theorem dX11_strikesThree_137 : decode cX11_strikesThree 137 = .ok (.iadd, 1) := by decide +kernel
theorem dX11_strikesThree_138 : decode cX11_strikesThree 138 = .ok (.dup2, 1) := by decide +kernel
theorem dX11_strikesThree_139 : decode cX11_strikesThree 139 = .ok (.iaload, 1) := by decide +kernel
theorem dX11_strikesThree_140 : decode cX11_strikesThree 140 = .ok (.iload 5, 2) := by decide +kernel
theorem dX11_strikesThree_142 : decode cX11_strikesThree 142 = .ok (.isub, 1) := by decide +kernel
theorem dX11_strikesThree_143 : decode cX11_strikesThree 143 = .ok (.iastore, 1) := by decide +kernel
theorem dX11_strikesThree_144 : decode cX11_strikesThree 144 = .ok (.aload_n 0, 1) := by decide +kernel
theorem dX11_strikesThree_145 : decode cX11_strikesThree 145 = .ok (.getfield 34, 3) := by decide +kernel
theorem dX11_strikesThree_148 : decode cX11_strikesThree 148 = .ok (.iconst 4, 1) := by decide +kernel
theorem dX11_strikesThree_149 : decode cX11_strikesThree 149 = .ok (.iload 4, 2) := by decide +kernel
theorem dX11_strikesThree_151 : decode cX11_strikesThree 151 = .ok (.imul, 1) := by decide +kernel
theorem dX11_strikesThree_152 : decode cX11_strikesThree 152 = .ok (.iload_n 2, 1) := by decide +kernel
theorem dX11_strikesThree_153 : decode cX11_strikesThree 153 = .ok (.iadd, 1) := by decide +kernel
theorem dX11_strikesThree_154 : decode cX11_strikesThree 154 = .ok (.dup2, 1) := by decide +kernel
theorem dX11_strikesThree_155 : decode cX11_strikesThree 155 = .ok (.iaload, 1) := by decide +kernel
theorem dX11_strikesThree_156 : decode cX11_strikesThree 156 = .ok (.iload 5, 2) := by decide +kernel
theorem dX11_strikesThree_158 : decode cX11_strikesThree 158 = .ok (.isub, 1) := by decide +kernel
theorem dX11_strikesThree_159 : decode cX11_strikesThree 159 = .ok (.iastore, 1) := by decide +kernel
theorem dX11_strikesThree_160 : decode cX11_strikesThree 160 = .ok (.iconst 1, 1) := by decide +kernel
theorem dX11_strikesThree_161 : decode cX11_strikesThree 161 = .ok (.ireturn, 1) := by decide +kernel
theorem dX11_strikesThree_162 : decode cX11_strikesThree 162 = .ok (.iinc 1 1, 3) := by decide +kernel
theorem dX11_strikesThree_165 : decode cX11_strikesThree 165 = .ok (.goto (-163), 3) := by decide +kernel
theorem dX11_strikesThree_168 : decode cX11_strikesThree 168 = .ok (.iconst 0, 1) := by decide +kernel
theorem dX11_strikesThree_169 : decode cX11_strikesThree 169 = .ok (.ireturn, 1) := by decide +kernel
theorem dX11_strike_0 : decode cX11_strike 0 = .ok (.iconst 0, 1) := by decide +kernel
theorem dX11_strike_1 : decode cX11_strike 1 = .ok (.istore_n 1, 1) := by decide +kernel
theorem dX11_strike_2 : decode cX11_strike 2 = .ok (.aload_n 0, 1) := by decide +kernel
theorem dX11_strike_3 : decode cX11_strike 3 = .ok (.invokevirtual 203, 3) := by decide +kernel
theorem dX11_strike_6 : decode cX11_strike 6 = .ok (.ifCond .ne 10, 3) := by decide +kernel
theorem dX11_strike_9 : decode cX11_strike 9 = .ok (.aload_n 0, 1) := by decide +kernel
theorem dX11_strike_10 : decode cX11_strike 10 = .ok (.invokevirtual 206, 3) := by decide +kernel
theorem dX11_strike_13 : decode cX11_strike 13 = .ok (.ifCond .eq 9, 3) := by decide +kernel
theorem dX11_strike_16 : decode cX11_strike 16 = .ok (.iinc 1 1, 3) := by decide +kernel
theorem dX11_strike_19 : decode cX11_strike 19 = .ok (.goto (-17), 3) := by decide +kernel
theorem dX11_strike_22 : decode cX11_strike 22 = .ok (.iload_n 1, 1) := by decide +kernel
theorem dX11_strike_23 : decode cX11_strike 23 = .ok (.ireturn, 1) := by decide +kernel
theorem dX11_owed_0 : decode cX11_owed 0 = .ok (.iload_n 1, 1) := by decide +kernel
theorem dX11_owed_1 : decode cX11_owed 1 = .ok (.invokestatic 60, 3) := by decide +kernel
theorem dX11_owed_4 : decode cX11_owed 4 = .ok (.ifCond .ne 9, 3) := by decide +kernel
theorem dX11_owed_7 : decode cX11_owed 7 = .ok (.aload_n 0, 1) := by decide +kernel
theorem dX11_owed_8 : decode cX11_owed 8 = .ok (.iconst (-1), 1) := by decide +kernel
theorem dX11_owed_9 : decode cX11_owed 9 = .ok (.invokevirtual 209, 3) := by decide +kernel
theorem dX11_owed_12 : decode cX11_owed 12 = .ok (.ireturn, 1) := by decide +kernel
theorem dX11_owed_13 : decode cX11_owed 13 = .ok (.iconst 0, 1) := by decide +kernel
theorem dX11_owed_14 : decode cX11_owed 14 = .ok (.istore_n 2, 1) := by decide +kernel
theorem dX11_owed_15 : decode cX11_owed 15 = .ok (.iconst 0, 1) := by decide +kernel
theorem dX11_owed_16 : decode cX11_owed 16 = .ok (.istore_n 3, 1) := by decide +kernel
theorem dX11_owed_17 : decode cX11_owed 17 = .ok (.iload_n 3, 1) := by decide +kernel
theorem dX11_owed_18 : decode cX11_owed 18 = .ok (.iconst 4, 1) := by decide +kernel
theorem dX11_owed_19 : decode cX11_owed 19 = .ok (.if_icmp .ge 33, 3) := by decide +kernel
theorem dX11_owed_22 : decode cX11_owed 22 = .ok (.iload_n 2, 1) := by decide +kernel
theorem dX11_owed_23 : decode cX11_owed 23 = .ok (.aload_n 0, 1) := by decide +kernel
theorem dX11_owed_24 : decode cX11_owed 24 = .ok (.getfield 34, 3) := by decide +kernel
theorem dX11_owed_27 : decode cX11_owed 27 = .ok (.iconst 4, 1) := by decide +kernel
theorem dX11_owed_28 : decode cX11_owed 28 = .ok (.iload_n 3, 1) := by decide +kernel
theorem dX11_owed_29 : decode cX11_owed 29 = .ok (.imul, 1) := by decide +kernel
theorem dX11_owed_30 : decode cX11_owed 30 = .ok (.iload_n 1, 1) := by decide +kernel
theorem dX11_owed_31 : decode cX11_owed 31 = .ok (.iadd, 1) := by decide +kernel
theorem dX11_owed_32 : decode cX11_owed 32 = .ok (.iaload, 1) := by decide +kernel
theorem dX11_owed_33 : decode cX11_owed 33 = .ok (.aload_n 0, 1) := by decide +kernel
theorem dX11_owed_34 : decode cX11_owed 34 = .ok (.getfield 34, 3) := by decide +kernel
theorem dX11_owed_37 : decode cX11_owed 37 = .ok (.iconst 4, 1) := by decide +kernel
theorem dX11_owed_38 : decode cX11_owed 38 = .ok (.iload_n 1, 1) := by decide +kernel
theorem dX11_owed_39 : decode cX11_owed 39 = .ok (.imul, 1) := by decide +kernel
theorem dX11_owed_40 : decode cX11_owed 40 = .ok (.iload_n 3, 1) := by decide +kernel
theorem dX11_owed_41 : decode cX11_owed 41 = .ok (.iadd, 1) := by decide +kernel
theorem dX11_owed_42 : decode cX11_owed 42 = .ok (.iaload, 1) := by decide +kernel
theorem dX11_owed_43 : decode cX11_owed 43 = .ok (.isub, 1) := by decide +kernel
theorem dX11_owed_44 : decode cX11_owed 44 = .ok (.iadd, 1) := by decide +kernel
theorem dX11_owed_45 : decode cX11_owed 45 = .ok (.istore_n 2, 1) := by decide +kernel
theorem dX11_owed_46 : decode cX11_owed 46 = .ok (.iinc 3 1, 3) := by decide +kernel
theorem dX11_owed_49 : decode cX11_owed 49 = .ok (.goto (-32), 3) := by decide +kernel
theorem dX11_owed_52 : decode cX11_owed 52 = .ok (.iload_n 2, 1) := by decide +kernel
theorem dX11_owed_53 : decode cX11_owed 53 = .ok (.ireturn, 1) := by decide +kernel
theorem dX11_cheat_0 : decode cX11_cheat 0 = .ok (.iload_n 1, 1) := by decide +kernel
theorem dX11_cheat_1 : decode cX11_cheat 1 = .ok (.invokestatic 60, 3) := by decide +kernel
theorem dX11_cheat_4 : decode cX11_cheat 4 = .ok (.ifCond .ne 9, 3) := by decide +kernel
theorem dX11_cheat_7 : decode cX11_cheat 7 = .ok (.aload_n 0, 1) := by decide +kernel
theorem dX11_cheat_8 : decode cX11_cheat 8 = .ok (.iconst (-1), 1) := by decide +kernel
theorem dX11_cheat_9 : decode cX11_cheat 9 = .ok (.invokevirtual 71, 3) := by decide +kernel
theorem dX11_cheat_12 : decode cX11_cheat 12 = .ok (.ireturn, 1) := by decide +kernel
theorem dX11_cheat_13 : decode cX11_cheat 13 = .ok (.iload_n 2, 1) := by decide +kernel
theorem dX11_cheat_14 : decode cX11_cheat 14 = .ok (.ifCond .lt 17, 3) := by decide +kernel
theorem dX11_cheat_17 : decode cX11_cheat 17 = .ok (.iload_n 3, 1) := by decide +kernel
theorem dX11_cheat_18 : decode cX11_cheat 18 = .ok (.ifCond .lt 13, 3) := by decide +kernel
theorem dX11_cheat_21 : decode cX11_cheat 21 = .ok (.iload 4, 2) := by decide +kernel
theorem dX11_cheat_23 : decode cX11_cheat 23 = .ok (.ifCond .lt 8, 3) := by decide +kernel
theorem dX11_cheat_26 : decode cX11_cheat 26 = .ok (.iload 5, 2) := by decide +kernel
theorem dX11_cheat_28 : decode cX11_cheat 28 = .ok (.ifCond .ge 8, 3) := by decide +kernel
theorem dX11_cheat_31 : decode cX11_cheat 31 = .ok (.bipush (-4), 2) := by decide +kernel
theorem dX11_cheat_33 : decode cX11_cheat 33 = .ok (.goto 38, 3) := by decide +kernel
theorem dX11_cheat_36 : decode cX11_cheat 36 = .ok (.iload_n 2, 1) := by decide +kernel
theorem dX11_cheat_37 : decode cX11_cheat 37 = .ok (.bipush 9, 2) := by decide +kernel
theorem dX11_cheat_39 : decode cX11_cheat 39 = .ok (.if_icmp .gt 26, 3) := by decide +kernel
theorem dX11_cheat_42 : decode cX11_cheat 42 = .ok (.iload_n 3, 1) := by decide +kernel
theorem dX11_cheat_43 : decode cX11_cheat 43 = .ok (.sipush 999, 3) := by decide +kernel
theorem dX11_cheat_46 : decode cX11_cheat 46 = .ok (.if_icmp .gt 19, 3) := by decide +kernel
theorem dX11_cheat_49 : decode cX11_cheat 49 = .ok (.iload 4, 2) := by decide +kernel
theorem dX11_cheat_51 : decode cX11_cheat 51 = .ok (.sipush 999, 3) := by decide +kernel
theorem dX11_cheat_54 : decode cX11_cheat 54 = .ok (.if_icmp .gt 11, 3) := by decide +kernel
theorem dX11_cheat_57 : decode cX11_cheat 57 = .ok (.iload 5, 2) := by decide +kernel
theorem dX11_cheat_59 : decode cX11_cheat 59 = .ok (.sipush 300, 3) := by decide +kernel
theorem dX11_cheat_62 : decode cX11_cheat 62 = .ok (.if_icmp .le 8, 3) := by decide +kernel
theorem dX11_cheat_65 : decode cX11_cheat 65 = .ok (.bipush (-6), 2) := by decide +kernel
theorem dX11_cheat_67 : decode cX11_cheat 67 = .ok (.goto 4, 3) := by decide +kernel
theorem dX11_cheat_70 : decode cX11_cheat 70 = .ok (.iconst 0, 1) := by decide +kernel
theorem dX11_cheat_71 : decode cX11_cheat 71 = .ok (.istore 6, 2) := by decide +kernel
theorem dX11_cheat_73 : decode cX11_cheat 73 = .ok (.iload 6, 2) := by decide +kernel
theorem dX11_cheat_75 : decode cX11_cheat 75 = .ok (.ifCond .eq 10, 3) := by decide +kernel
theorem dX11_cheat_78 : decode cX11_cheat 78 = .ok (.aload_n 0, 1) := by decide +kernel
theorem dX11_cheat_79 : decode cX11_cheat 79 = .ok (.iload 6, 2) := by decide +kernel
theorem dX11_cheat_81 : decode cX11_cheat 81 = .ok (.invokevirtual 71, 3) := by decide +kernel
theorem dX11_cheat_84 : decode cX11_cheat 84 = .ok (.ireturn, 1) := by decide +kernel
theorem dX11_cheat_85 : decode cX11_cheat 85 = .ok (.iconst 0, 1) := by decide +kernel
theorem dX11_cheat_86 : decode cX11_cheat 86 = .ok (.istore 7, 2) := by decide +kernel
theorem dX11_cheat_88 : decode cX11_cheat 88 = .ok (.iconst 0, 1) := by decide +kernel
theorem dX11_cheat_89 : decode cX11_cheat 89 = .ok (.istore 8, 2) := by decide +kernel
theorem dX11_cheat_91 : decode cX11_cheat 91 = .ok (.iload 8, 2) := by decide +kernel
theorem dX11_cheat_93 : decode cX11_cheat 93 = .ok (.bipush 6, 2) := by decide +kernel
theorem dX11_cheat_95 : decode cX11_cheat 95 = .ok (.if_icmp .ge 67, 3) := by decide +kernel
theorem dX11_cheat_98 : decode cX11_cheat 98 = .ok (.iload_n 3, 1) := by decide +kernel
theorem dX11_cheat_99 : decode cX11_cheat 99 = .ok (.istore 9, 2) := by decide +kernel
theorem dX11_cheat_101 : decode cX11_cheat 101 = .ok (.iconst 0, 1) := by decide +kernel
theorem dX11_cheat_102 : decode cX11_cheat 102 = .ok (.istore 10, 2) := by decide +kernel
theorem dX11_cheat_104 : decode cX11_cheat 104 = .ok (.iload 10, 2) := by decide +kernel
theorem dX11_cheat_106 : decode cX11_cheat 106 = .ok (.iload 5, 2) := by decide +kernel
theorem dX11_cheat_108 : decode cX11_cheat 108 = .ok (.if_icmp .ge 28, 3) := by decide +kernel
theorem dX11_cheat_111 : decode cX11_cheat 111 = .ok (.iload 9, 2) := by decide +kernel
theorem dX11_cheat_113 : decode cX11_cheat 113 = .ok (.iload 8, 2) := by decide +kernel
theorem dX11_cheat_115 : decode cX11_cheat 115 = .ok (.iload_n 2, 1) := by decide +kernel
theorem dX11_cheat_116 : decode cX11_cheat 116 = .ok (.iload 9, 2) := by decide +kernel
theorem dX11_cheat_118 : decode cX11_cheat 118 = .ok (.aload_n 0, 1) := by decide +kernel
theorem dX11_cheat_119 : decode cX11_cheat 119 = .ok (.getfield 31, 3) := by decide +kernel
theorem dX11_cheat_122 : decode cX11_cheat 122 = .ok (.iload_n 1, 1) := by decide +kernel
theorem dX11_cheat_123 : decode cX11_cheat 123 = .ok (.iaload, 1) := by decide +kernel
theorem dX11_cheat_124 : decode cX11_cheat 124 = .ok (.invokestatic 146, 3) := by decide +kernel
theorem dX11_cheat_127 : decode cX11_cheat 127 = .ok (.isub, 1) := by decide +kernel
theorem dX11_cheat_128 : decode cX11_cheat 128 = .ok (.istore 9, 2) := by decide +kernel
theorem dX11_cheat_130 : decode cX11_cheat 130 = .ok (.iinc 10 1, 3) := by decide +kernel
theorem dX11_cheat_133 : decode cX11_cheat 133 = .ok (.goto (-29), 3) := by decide +kernel
theorem dX11_cheat_136 : decode cX11_cheat 136 = .ok (.iload 7, 2) := by decide +kernel
theorem dX11_cheat_138 : decode cX11_cheat 138 = .ok (.iload 9, 2) := by decide +kernel
theorem dX11_cheat_140 : decode cX11_cheat 140 = .ok (.iload 4, 2) := by decide +kernel
theorem dX11_cheat_142 : decode cX11_cheat 142 = .ok (.if_icmp .ne 10, 3) := by decide +kernel
theorem dX11_cheat_145 : decode cX11_cheat 145 = .ok (.iconst 1, 1) := by decide +kernel
theorem dX11_cheat_146 : decode cX11_cheat 146 = .ok (.iload 8, 2) := by decide +kernel
theorem dX11_cheat_148 : decode cX11_cheat 148 = .ok (.ishl, 1) := by decide +kernel
theorem dX11_cheat_149 : decode cX11_cheat 149 = .ok (.goto 4, 3) := by decide +kernel
theorem dX11_cheat_152 : decode cX11_cheat 152 = .ok (.iconst 0, 1) := by decide +kernel
theorem dX11_cheat_153 : decode cX11_cheat 153 = .ok (.ior, 1) := by decide +kernel
theorem dX11_cheat_154 : decode cX11_cheat 154 = .ok (.istore 7, 2) := by decide +kernel
theorem dX11_cheat_156 : decode cX11_cheat 156 = .ok (.iinc 8 1, 3) := by decide +kernel
theorem dX11_cheat_159 : decode cX11_cheat 159 = .ok (.goto (-68), 3) := by decide +kernel
theorem dX11_cheat_162 : decode cX11_cheat 162 = .ok (.iload 7, 2) := by decide +kernel
theorem dX11_cheat_164 : decode cX11_cheat 164 = .ok (.ireturn, 1) := by decide +kernel
theorem dX11_dripped_0 : decode cX11_dripped 0 = .ok (.aload_n 0, 1) := by decide +kernel
theorem dX11_dripped_1 : decode cX11_dripped 1 = .ok (.iload_n 1, 1) := by decide +kernel
theorem dX11_dripped_2 : decode cX11_dripped 2 = .ok (.invokevirtual 99, 3) := by decide +kernel
theorem dX11_dripped_5 : decode cX11_dripped 5 = .ok (.ifCond .eq 10, 3) := by decide +kernel
theorem dX11_dripped_8 : decode cX11_dripped 8 = .ok (.iload_n 2, 1) := by decide +kernel
theorem dX11_dripped_9 : decode cX11_dripped 9 = .ok (.invokestatic 60, 3) := by decide +kernel
theorem dX11_dripped_12 : decode cX11_dripped 12 = .ok (.ifCond .ne 9, 3) := by decide +kernel
theorem dX11_dripped_15 : decode cX11_dripped 15 = .ok (.aload_n 0, 1) := by decide +kernel
theorem dX11_dripped_16 : decode cX11_dripped 16 = .ok (.iconst (-1), 1) := by decide +kernel
theorem dX11_dripped_17 : decode cX11_dripped 17 = .ok (.invokevirtual 71, 3) := by decide +kernel
theorem dX11_dripped_20 : decode cX11_dripped 20 = .ok (.ireturn, 1) := by decide +kernel
theorem dX11_dripped_21 : decode cX11_dripped 21 = .ok (.iload 4, 2) := by decide +kernel
theorem dX11_dripped_23 : decode cX11_dripped 23 = .ok (.iconst 0, 1) := by decide +kernel
theorem dX11_dripped_24 : decode cX11_dripped 24 = .ok (.iconst 1, 1) := by decide +kernel
theorem dX11_dripped_25 : decode cX11_dripped 25 = .ok (.invokestatic 82, 3) := by decide +kernel
theorem dX11_dripped_28 : decode cX11_dripped 28 = .ok (.ifCond .ne 10, 3) := by decide +kernel
theorem dX11_dripped_31 : decode cX11_dripped 31 = .ok (.aload_n 0, 1) := by decide +kernel
theorem dX11_dripped_32 : decode cX11_dripped 32 = .ok (.bipush (-2), 2) := by decide +kernel
theorem dX11_dripped_34 : decode cX11_dripped 34 = .ok (.invokevirtual 71, 3) := by decide +kernel
theorem dX11_dripped_37 : decode cX11_dripped 37 = .ok (.ireturn, 1) := by decide +kernel
theorem dX11_dripped_38 : decode cX11_dripped 38 = .ok (.iload_n 3, 1) := by decide +kernel
theorem dX11_dripped_39 : decode cX11_dripped 39 = .ok (.ifCond .ge 10, 3) := by decide +kernel
theorem dX11_dripped_42 : decode cX11_dripped 42 = .ok (.aload_n 0, 1) := by decide +kernel
theorem dX11_dripped_43 : decode cX11_dripped 43 = .ok (.bipush (-4), 2) := by decide +kernel
theorem dX11_dripped_45 : decode cX11_dripped 45 = .ok (.invokevirtual 71, 3) := by decide +kernel
theorem dX11_dripped_48 : decode cX11_dripped 48 = .ok (.ireturn, 1) := by decide +kernel
theorem dX11_dripped_49 : decode cX11_dripped 49 = .ok (.aload_n 0, 1) := by decide +kernel
theorem dX11_dripped_50 : decode cX11_dripped 50 = .ok (.getfield 19, 3) := by decide +kernel
theorem dX11_dripped_53 : decode cX11_dripped 53 = .ok (.iload_n 1, 1) := by decide +kernel
theorem dX11_dripped_54 : decode cX11_dripped 54 = .ok (.iaload, 1) := by decide +kernel
theorem dX11_dripped_55 : decode cX11_dripped 55 = .ok (.istore 5, 2) := by decide +kernel
theorem dX11_dripped_57 : decode cX11_dripped 57 = .ok (.iconst 0, 1) := by decide +kernel
theorem dX11_dripped_58 : decode cX11_dripped 58 = .ok (.istore 6, 2) := by decide +kernel
theorem dX11_dripped_60 : decode cX11_dripped 60 = .ok (.iconst 0, 1) := by decide +kernel
theorem dX11_dripped_61 : decode cX11_dripped 61 = .ok (.istore 7, 2) := by decide +kernel
theorem dX11_dripped_63 : decode cX11_dripped 63 = .ok (.bipush (-9), 2) := by decide +kernel
theorem dX11_dripped_65 : decode cX11_dripped 65 = .ok (.istore 8, 2) := by decide +kernel
theorem dX11_dripped_67 : decode cX11_dripped 67 = .ok (.iconst 0, 1) := by decide +kernel
theorem dX11_dripped_68 : decode cX11_dripped 68 = .ok (.istore 9, 2) := by decide +kernel
theorem dX11_dripped_70 : decode cX11_dripped 70 = .ok (.iload 9, 2) := by decide +kernel
theorem dX11_dripped_72 : decode cX11_dripped 72 = .ok (.bipush 100, 2) := by decide +kernel
theorem dX11_dripped_74 : decode cX11_dripped 74 = .ok (.if_icmp .ge 92, 3) := by decide +kernel
theorem dX11_dripped_77 : decode cX11_dripped 77 = .ok (.iload 6, 2) := by decide +kernel
theorem dX11_dripped_79 : decode cX11_dripped 79 = .ok (.iload_n 3, 1) := by decide +kernel
theorem dX11_dripped_80 : decode cX11_dripped 80 = .ok (.if_icmp .ne 20, 3) := by decide +kernel
theorem dX11_dripped_83 : decode cX11_dripped 83 = .ok (.iload 7, 2) := by decide +kernel
theorem dX11_dripped_85 : decode cX11_dripped 85 = .ok (.ifCond .ne 8, 3) := by decide +kernel
theorem dX11_dripped_88 : decode cX11_dripped 88 = .ok (.iload 9, 2) := by decide +kernel
theorem dX11_dripped_90 : decode cX11_dripped 90 = .ok (.goto 5, 3) := by decide +kernel
theorem dX11_dripped_93 : decode cX11_dripped 93 = .ok (.iload 8, 2) := by decide +kernel
theorem dX11_dripped_95 : decode cX11_dripped 95 = .ok (.istore 8, 2) := by decide +kernel
theorem dX11_dripped_97 : decode cX11_dripped 97 = .ok (.iinc 7 1, 3) := by decide +kernel
theorem dX11_dripped_100 : decode cX11_dripped 100 = .ok (.aload_n 0, 1) := by decide +kernel
theorem dX11_dripped_101 : decode cX11_dripped 101 = .ok (.getfield 13, 3) := by decide +kernel
theorem dX11_dripped_104 : decode cX11_dripped 104 = .ok (.iload_n 1, 1) := by decide +kernel
theorem dX11_dripped_105 : decode cX11_dripped 105 = .ok (.iaload, 1) := by decide +kernel
theorem dX11_dripped_106 : decode cX11_dripped 106 = .ok (.aload_n 0, 1) := by decide +kernel
theorem dX11_dripped_107 : decode cX11_dripped 107 = .ok (.getfield 16, 3) := by decide +kernel
theorem dX11_dripped_110 : decode cX11_dripped 110 = .ok (.iload_n 1, 1) := by decide +kernel
theorem dX11_dripped_111 : decode cX11_dripped 111 = .ok (.iaload, 1) := by decide +kernel
theorem dX11_dripped_112 : decode cX11_dripped 112 = .ok (.iload 5, 2) := by decide +kernel
theorem dX11_dripped_114 : decode cX11_dripped 114 = .ok (.aload_n 0, 1) := by decide +kernel
theorem dX11_dripped_115 : decode cX11_dripped 115 = .ok (.getfield 31, 3) := by decide +kernel
theorem dX11_dripped_118 : decode cX11_dripped 118 = .ok (.iload_n 2, 1) := by decide +kernel
theorem dX11_dripped_119 : decode cX11_dripped 119 = .ok (.iaload, 1) := by decide +kernel
theorem dX11_dripped_120 : decode cX11_dripped 120 = .ok (.invokestatic 146, 3) := by decide +kernel
theorem dX11_dripped_123 : decode cX11_dripped 123 = .ok (.istore 10, 2) := by decide +kernel
theorem dX11_dripped_125 : decode cX11_dripped 125 = .ok (.iload 6, 2) := by decide +kernel
theorem dX11_dripped_127 : decode cX11_dripped 127 = .ok (.aload_n 0, 1) := by decide +kernel
theorem dX11_dripped_128 : decode cX11_dripped 128 = .ok (.getfield 13, 3) := by decide +kernel
theorem dX11_dripped_131 : decode cX11_dripped 131 = .ok (.iload_n 1, 1) := by decide +kernel
theorem dX11_dripped_132 : decode cX11_dripped 132 = .ok (.iaload, 1) := by decide +kernel
theorem dX11_dripped_133 : decode cX11_dripped 133 = .ok (.aload_n 0, 1) := by decide +kernel
theorem dX11_dripped_134 : decode cX11_dripped 134 = .ok (.getfield 16, 3) := by decide +kernel
theorem dX11_dripped_137 : decode cX11_dripped 137 = .ok (.iload_n 1, 1) := by decide +kernel
theorem dX11_dripped_138 : decode cX11_dripped 138 = .ok (.iaload, 1) := by decide +kernel
theorem dX11_dripped_139 : decode cX11_dripped 139 = .ok (.iload 10, 2) := by decide +kernel
theorem dX11_dripped_141 : decode cX11_dripped 141 = .ok (.aload_n 0, 1) := by decide +kernel
theorem dX11_dripped_142 : decode cX11_dripped 142 = .ok (.getfield 31, 3) := by decide +kernel
theorem dX11_dripped_145 : decode cX11_dripped 145 = .ok (.iload_n 2, 1) := by decide +kernel
theorem dX11_dripped_146 : decode cX11_dripped 146 = .ok (.iaload, 1) := by decide +kernel
theorem dX11_dripped_147 : decode cX11_dripped 147 = .ok (.invokestatic 153, 3) := by decide +kernel
theorem dX11_dripped_150 : decode cX11_dripped 150 = .ok (.iadd, 1) := by decide +kernel
theorem dX11_dripped_151 : decode cX11_dripped 151 = .ok (.istore 6, 2) := by decide +kernel
theorem dX11_dripped_153 : decode cX11_dripped 153 = .ok (.iload 5, 2) := by decide +kernel
theorem dX11_dripped_155 : decode cX11_dripped 155 = .ok (.iload 10, 2) := by decide +kernel
theorem dX11_dripped_157 : decode cX11_dripped 157 = .ok (.isub, 1) := by decide +kernel
theorem dX11_dripped_158 : decode cX11_dripped 158 = .ok (.istore 5, 2) := by decide +kernel
theorem dX11_dripped_160 : decode cX11_dripped 160 = .ok (.iinc 9 1, 3) := by decide +kernel
theorem dX11_dripped_163 : decode cX11_dripped 163 = .ok (.goto (-93), 3) := by decide +kernel
theorem dX11_dripped_166 : decode cX11_dripped 166 = .ok (.iload 4, 2) := by decide +kernel
theorem dX11_dripped_168 : decode cX11_dripped 168 = .ok (.ifCond .ne 8, 3) := by decide +kernel
theorem dX11_dripped_171 : decode cX11_dripped 171 = .ok (.iload 7, 2) := by decide +kernel
theorem dX11_dripped_173 : decode cX11_dripped 173 = .ok (.goto 5, 3) := by decide +kernel
theorem dX11_dripped_176 : decode cX11_dripped 176 = .ok (.iload 8, 2) := by decide +kernel
theorem dX11_dripped_178 : decode cX11_dripped 178 = .ok (.ireturn, 1) := by decide +kernel
theorem dX11_row_0 : decode cX11_row 0 = .ok (.iload_n 1, 1) := by decide +kernel
theorem dX11_row_1 : decode cX11_row 1 = .ok (.iconst 0, 1) := by decide +kernel
theorem dX11_row_2 : decode cX11_row 2 = .ok (.sipush 999, 3) := by decide +kernel
theorem dX11_row_5 : decode cX11_row 5 = .ok (.invokestatic 64, 3) := by decide +kernel
theorem dX11_row_8 : decode cX11_row 8 = .ok (.istore_n 2, 1) := by decide +kernel
theorem dX11_row_9 : decode cX11_row 9 = .ok (.iload_n 2, 1) := by decide +kernel
theorem dX11_row_10 : decode cX11_row 10 = .ok (.ifCond .ne 15, 3) := by decide +kernel
theorem dX11_row_13 : decode cX11_row 13 = .ok (.aload_n 0, 1) := by decide +kernel
theorem dX11_row_14 : decode cX11_row 14 = .ok (.getfield 212, 3) := by decide +kernel
theorem dX11_row_17 : decode cX11_row 17 = .ok (.bipush 6, 2) := by decide +kernel
theorem dX11_row_19 : decode cX11_row 19 = .ok (.if_icmp .ne 6, 3) := by decide +kernel
theorem dX11_row_22 : decode cX11_row 22 = .ok (.bipush (-6), 2) := by decide +kernel
theorem dX11_row_24 : decode cX11_row 24 = .ok (.istore_n 2, 1) := by decide +kernel
theorem dX11_row_25 : decode cX11_row 25 = .ok (.iload_n 2, 1) := by decide +kernel
theorem dX11_row_26 : decode cX11_row 26 = .ok (.ifCond .eq 9, 3) := by decide +kernel
theorem dX11_row_29 : decode cX11_row 29 = .ok (.aload_n 0, 1) := by decide +kernel
theorem dX11_row_30 : decode cX11_row 30 = .ok (.iload_n 2, 1) := by decide +kernel
theorem dX11_row_31 : decode cX11_row 31 = .ok (.invokevirtual 71, 3) := by decide +kernel
theorem dX11_row_34 : decode cX11_row 34 = .ok (.ireturn, 1) := by decide +kernel
theorem dX11_row_35 : decode cX11_row 35 = .ok (.aload_n 0, 1) := by decide +kernel
theorem dX11_row_36 : decode cX11_row 36 = .ok (.getfield 52, 3) := by decide +kernel
theorem dX11_row_39 : decode cX11_row 39 = .ok (.aload_n 0, 1) := by decide +kernel
theorem dX11_row_40 : decode cX11_row 40 = .ok (.getfield 212, 3) := by decide +kernel
theorem dX11_row_43 : decode cX11_row 43 = .ok (.iload_n 1, 1) := by decide +kernel
theorem dX11_row_44 : decode cX11_row 44 = .ok (.iastore, 1) := by decide +kernel
theorem dX11_row_45 : decode cX11_row 45 = .ok (.aload_n 0, 1) := by decide +kernel
theorem dX11_row_46 : decode cX11_row 46 = .ok (.dup, 1) := by decide +kernel
theorem dX11_row_47 : decode cX11_row 47 = .ok (.getfield 212, 3) := by decide +kernel
theorem dX11_row_50 : decode cX11_row 50 = .ok (.iconst 1, 1) := by decide +kernel
theorem dX11_row_51 : decode cX11_row 51 = .ok (.iadd, 1) := by decide +kernel
theorem dX11_row_52 : decode cX11_row 52 = .ok (.putfield 212, 3) := by decide +kernel
theorem dX11_row_55 : decode cX11_row 55 = .ok (.aload_n 0, 1) := by decide +kernel
theorem dX11_row_56 : decode cX11_row 56 = .ok (.getfield 212, 3) := by decide +kernel
theorem dX11_row_59 : decode cX11_row 59 = .ok (.ireturn, 1) := by decide +kernel
theorem dX11_judge_0 : decode cX11_judge 0 = .ok (.aload_n 0, 1) := by decide +kernel
theorem dX11_judge_1 : decode cX11_judge 1 = .ok (.getfield 212, 3) := by decide +kernel
theorem dX11_judge_4 : decode cX11_judge 4 = .ok (.istore_n 1, 1) := by decide +kernel
theorem dX11_judge_5 : decode cX11_judge 5 = .ok (.aload_n 0, 1) := by decide +kernel
theorem dX11_judge_6 : decode cX11_judge 6 = .ok (.iconst 0, 1) := by decide +kernel
theorem dX11_judge_7 : decode cX11_judge 7 = .ok (.putfield 212, 3) := by decide +kernel
theorem dX11_judge_10 : decode cX11_judge 10 = .ok (.iload_n 1, 1) := by decide +kernel
theorem dX11_judge_11 : decode cX11_judge 11 = .ok (.aload_n 0, 1) := by decide +kernel
theorem dX11_judge_12 : decode cX11_judge 12 = .ok (.getfield 56, 3) := by decide +kernel
theorem dX11_judge_15 : decode cX11_judge 15 = .ok (.invokestatic 142, 3) := by decide +kernel
theorem dX11_judge_18 : decode cX11_judge 18 = .ok (.istore_n 2, 1) := by decide +kernel
theorem dX11_judge_19 : decode cX11_judge 19 = .ok (.iconst 0, 1) := by decide +kernel
theorem dX11_judge_20 : decode cX11_judge 20 = .ok (.istore_n 3, 1) := by decide +kernel
theorem dX11_judge_21 : decode cX11_judge 21 = .ok (.iload_n 3, 1) := by decide +kernel
theorem dX11_judge_22 : decode cX11_judge 22 = .ok (.iload_n 2, 1) := by decide +kernel
theorem dX11_judge_23 : decode cX11_judge 23 = .ok (.if_icmp .ge 26, 3) := by decide +kernel
theorem dX11_judge_26 : decode cX11_judge 26 = .ok (.aload_n 0, 1) := by decide +kernel
theorem dX11_judge_27 : decode cX11_judge 27 = .ok (.getfield 52, 3) := by decide +kernel
theorem dX11_judge_30 : decode cX11_judge 30 = .ok (.iload_n 3, 1) := by decide +kernel
theorem dX11_judge_31 : decode cX11_judge 31 = .ok (.iaload, 1) := by decide +kernel
theorem dX11_judge_32 : decode cX11_judge 32 = .ok (.aload_n 0, 1) := by decide +kernel
theorem dX11_judge_33 : decode cX11_judge 33 = .ok (.getfield 19, 3) := by decide +kernel
theorem dX11_judge_36 : decode cX11_judge 36 = .ok (.iload_n 3, 1) := by decide +kernel
theorem dX11_judge_37 : decode cX11_judge 37 = .ok (.iaload, 1) := by decide +kernel
theorem dX11_judge_38 : decode cX11_judge 38 = .ok (.if_icmp .eq 5, 3) := by decide +kernel
theorem dX11_judge_41 : decode cX11_judge 41 = .ok (.iload_n 3, 1) := by decide +kernel
theorem dX11_judge_42 : decode cX11_judge 42 = .ok (.ireturn, 1) := by decide +kernel
theorem dX11_judge_43 : decode cX11_judge 43 = .ok (.iinc 3 1, 3) := by decide +kernel
theorem dX11_judge_46 : decode cX11_judge 46 = .ok (.goto (-25), 3) := by decide +kernel
theorem dX11_judge_49 : decode cX11_judge 49 = .ok (.iload_n 1, 1) := by decide +kernel
theorem dX11_judge_50 : decode cX11_judge 50 = .ok (.aload_n 0, 1) := by decide +kernel
theorem dX11_judge_51 : decode cX11_judge 51 = .ok (.getfield 56, 3) := by decide +kernel
theorem dX11_judge_54 : decode cX11_judge 54 = .ok (.if_icmp .ne 8, 3) := by decide +kernel
theorem dX11_judge_57 : decode cX11_judge 57 = .ok (.bipush (-9), 2) := by decide +kernel
theorem dX11_judge_59 : decode cX11_judge 59 = .ok (.goto 4, 3) := by decide +kernel
theorem dX11_judge_62 : decode cX11_judge 62 = .ok (.iload_n 2, 1) := by decide +kernel
theorem dX11_judge_63 : decode cX11_judge 63 = .ok (.ireturn, 1) := by decide +kernel
theorem dX11_grainsOfAll_0 : decode cX11_grainsOfAll 0 = .ok (.iconst 0, 1) := by decide +kernel
theorem dX11_grainsOfAll_1 : decode cX11_grainsOfAll 1 = .ok (.istore_n 1, 1) := by decide +kernel
theorem dX11_grainsOfAll_2 : decode cX11_grainsOfAll 2 = .ok (.iconst 0, 1) := by decide +kernel
theorem dX11_grainsOfAll_3 : decode cX11_grainsOfAll 3 = .ok (.istore_n 2, 1) := by decide +kernel
theorem dX11_grainsOfAll_4 : decode cX11_grainsOfAll 4 = .ok (.iload_n 2, 1) := by decide +kernel
theorem dX11_grainsOfAll_5 : decode cX11_grainsOfAll 5 = .ok (.aload_n 0, 1) := by decide +kernel
theorem dX11_grainsOfAll_6 : decode cX11_grainsOfAll 6 = .ok (.getfield 56, 3) := by decide +kernel
theorem dX11_grainsOfAll_9 : decode cX11_grainsOfAll 9 = .ok (.if_icmp .ge 18, 3) := by decide +kernel
theorem dX11_grainsOfAll_12 : decode cX11_grainsOfAll 12 = .ok (.iload_n 1, 1) := by decide +kernel
theorem dX11_grainsOfAll_13 : decode cX11_grainsOfAll 13 = .ok (.aload_n 0, 1) := by decide +kernel
theorem dX11_grainsOfAll_14 : decode cX11_grainsOfAll 14 = .ok (.getfield 19, 3) := by decide +kernel
theorem dX11_grainsOfAll_17 : decode cX11_grainsOfAll 17 = .ok (.iload_n 2, 1) := by decide +kernel
theorem dX11_grainsOfAll_18 : decode cX11_grainsOfAll 18 = .ok (.iaload, 1) := by decide +kernel
theorem dX11_grainsOfAll_19 : decode cX11_grainsOfAll 19 = .ok (.iadd, 1) := by decide +kernel
theorem dX11_grainsOfAll_20 : decode cX11_grainsOfAll 20 = .ok (.istore_n 1, 1) := by decide +kernel
theorem dX11_grainsOfAll_21 : decode cX11_grainsOfAll 21 = .ok (.iinc 2 1, 3) := by decide +kernel
theorem dX11_grainsOfAll_24 : decode cX11_grainsOfAll 24 = .ok (.goto (-20), 3) := by decide +kernel
theorem dX11_grainsOfAll_27 : decode cX11_grainsOfAll 27 = .ok (.iload_n 1, 1) := by decide +kernel
theorem dX11_grainsOfAll_28 : decode cX11_grainsOfAll 28 = .ok (.ireturn, 1) := by decide +kernel
theorem dX11_seeds_0 : decode cX11_seeds 0 = .ok (.iload_n 1, 1) := by decide +kernel
theorem dX11_seeds_1 : decode cX11_seeds 1 = .ok (.iconst 1, 1) := by decide +kernel
theorem dX11_seeds_2 : decode cX11_seeds 2 = .ok (.bipush 60, 2) := by decide +kernel
theorem dX11_seeds_4 : decode cX11_seeds 4 = .ok (.invokestatic 64, 3) := by decide +kernel
theorem dX11_seeds_7 : decode cX11_seeds 7 = .ok (.istore_n 3, 1) := by decide +kernel
theorem dX11_seeds_8 : decode cX11_seeds 8 = .ok (.iload_n 3, 1) := by decide +kernel
theorem dX11_seeds_9 : decode cX11_seeds 9 = .ok (.ifCond .ne 13, 3) := by decide +kernel
theorem dX11_seeds_12 : decode cX11_seeds 12 = .ok (.aload_n 0, 1) := by decide +kernel
theorem dX11_seeds_13 : decode cX11_seeds 13 = .ok (.getfield 56, 3) := by decide +kernel
theorem dX11_seeds_16 : decode cX11_seeds 16 = .ok (.ifCond .ne 6, 3) := by decide +kernel
theorem dX11_seeds_19 : decode cX11_seeds 19 = .ok (.bipush (-3), 2) := by decide +kernel
theorem dX11_seeds_21 : decode cX11_seeds 21 = .ok (.istore_n 3, 1) := by decide +kernel
theorem dX11_seeds_22 : decode cX11_seeds 22 = .ok (.iload_n 3, 1) := by decide +kernel
theorem dX11_seeds_23 : decode cX11_seeds 23 = .ok (.ifCond .eq 9, 3) := by decide +kernel
theorem dX11_seeds_26 : decode cX11_seeds 26 = .ok (.aload_n 0, 1) := by decide +kernel
theorem dX11_seeds_27 : decode cX11_seeds 27 = .ok (.iload_n 3, 1) := by decide +kernel
theorem dX11_seeds_28 : decode cX11_seeds 28 = .ok (.invokevirtual 71, 3) := by decide +kernel
theorem dX11_seeds_31 : decode cX11_seeds 31 = .ok (.ireturn, 1) := by decide +kernel
theorem dX11_seeds_32 : decode cX11_seeds 32 = .ok (.aload_n 0, 1) := by decide +kernel
theorem dX11_seeds_33 : decode cX11_seeds 33 = .ok (.iconst 1, 1) := by decide +kernel
theorem dX11_seeds_34 : decode cX11_seeds 34 = .ok (.iconst 1, 1) := by decide +kernel
theorem dX11_seeds_35 : decode cX11_seeds 35 = .ok (.invokevirtual 106, 3) := by decide +kernel
theorem dX11_seeds_38 : decode cX11_seeds 38 = .ok (.iload_n 2, 1) := by decide +kernel
theorem dX11_seeds_39 : decode cX11_seeds 39 = .ok (.istore 4, 2) := by decide +kernel
theorem dX11_seeds_41 : decode cX11_seeds 41 = .ok (.iconst 0, 1) := by decide +kernel
theorem dX11_seeds_42 : decode cX11_seeds 42 = .ok (.istore 5, 2) := by decide +kernel
theorem dX11_seeds_44 : decode cX11_seeds 44 = .ok (.iload 5, 2) := by decide +kernel
theorem dX11_seeds_46 : decode cX11_seeds 46 = .ok (.iload_n 1, 1) := by decide +kernel
theorem dX11_seeds_47 : decode cX11_seeds 47 = .ok (.if_icmp .ge 55, 3) := by decide +kernel
theorem dX11_seeds_50 : decode cX11_seeds 50 = .ok (.iload 4, 2) := by decide +kernel
theorem dX11_seeds_52 : decode cX11_seeds 52 = .ok (.ldc 215, 2) := by decide +kernel
theorem dX11_seeds_54 : decode cX11_seeds 54 = .ok (.imul, 1) := by decide +kernel
theorem dX11_seeds_55 : decode cX11_seeds 55 = .ok (.sipush 12345, 3) := by decide +kernel
theorem dX11_seeds_58 : decode cX11_seeds 58 = .ok (.iadd, 1) := by decide +kernel
theorem dX11_seeds_59 : decode cX11_seeds 59 = .ok (.istore 4, 2) := by decide +kernel
theorem dX11_seeds_61 : decode cX11_seeds 61 = .ok (.iload 4, 2) := by decide +kernel
theorem dX11_seeds_63 : decode cX11_seeds 63 = .ok (.ldc 216, 2) := by decide +kernel
theorem dX11_seeds_65 : decode cX11_seeds 65 = .ok (.iand, 1) := by decide +kernel
theorem dX11_seeds_66 : decode cX11_seeds 66 = .ok (.ldc 217, 2) := by decide +kernel
theorem dX11_seeds_68 : decode cX11_seeds 68 = .ok (.idiv, 1) := by decide +kernel
theorem dX11_seeds_69 : decode cX11_seeds 69 = .ok (.aload_n 0, 1) := by decide +kernel
theorem dX11_seeds_70 : decode cX11_seeds 70 = .ok (.getfield 56, 3) := by decide +kernel
theorem dX11_seeds_73 : decode cX11_seeds 73 = .ok (.irem, 1) := by decide +kernel
theorem dX11_seeds_74 : decode cX11_seeds 74 = .ok (.istore 6, 2) := by decide +kernel
theorem dX11_seeds_76 : decode cX11_seeds 76 = .ok (.aload_n 0, 1) := by decide +kernel
theorem dX11_seeds_77 : decode cX11_seeds 77 = .ok (.getfield 28, 3) := by decide +kernel
theorem dX11_seeds_80 : decode cX11_seeds 80 = .ok (.iload 6, 2) := by decide +kernel
theorem dX11_seeds_82 : decode cX11_seeds 82 = .ok (.iconst 1, 1) := by decide +kernel
theorem dX11_seeds_83 : decode cX11_seeds 83 = .ok (.aload_n 0, 1) := by decide +kernel
theorem dX11_seeds_84 : decode cX11_seeds 84 = .ok (.getfield 28, 3) := by decide +kernel
theorem dX11_seeds_87 : decode cX11_seeds 87 = .ok (.iload 6, 2) := by decide +kernel
theorem dX11_seeds_89 : decode cX11_seeds 89 = .ok (.iaload, 1) := by decide +kernel
theorem dX11_seeds_90 : decode cX11_seeds 90 = .ok (.isub, 1) := by decide +kernel
theorem dX11_seeds_91 : decode cX11_seeds 91 = .ok (.iastore, 1) := by decide +kernel
theorem dX11_seeds_92 : decode cX11_seeds 92 = .ok (.aload_n 0, 1) := by decide +kernel
theorem dX11_seeds_93 : decode cX11_seeds 93 = .ok (.invokevirtual 169, 3) := by decide +kernel
theorem dX11_seeds_96 : decode cX11_seeds 96 = .ok (.iinc 5 1, 3) := by decide +kernel
theorem dX11_seeds_99 : decode cX11_seeds 99 = .ok (.goto (-55), 3) := by decide +kernel
theorem dX11_seeds_102 : decode cX11_seeds 102 = .ok (.aload_n 0, 1) := by decide +kernel
theorem dX11_seeds_103 : decode cX11_seeds 103 = .ok (.invokevirtual 218, 3) := by decide +kernel
theorem dX11_seeds_106 : decode cX11_seeds 106 = .ok (.istore 5, 2) := by decide +kernel
theorem dX11_seeds_108 : decode cX11_seeds 108 = .ok (.aload_n 0, 1) := by decide +kernel
theorem dX11_seeds_109 : decode cX11_seeds 109 = .ok (.iconst 1, 1) := by decide +kernel
theorem dX11_seeds_110 : decode cX11_seeds 110 = .ok (.iconst 0, 1) := by decide +kernel
theorem dX11_seeds_111 : decode cX11_seeds 111 = .ok (.invokevirtual 106, 3) := by decide +kernel
theorem dX11_seeds_114 : decode cX11_seeds 114 = .ok (.iload 5, 2) := by decide +kernel
theorem dX11_seeds_116 : decode cX11_seeds 116 = .ok (.ireturn, 1) := by decide +kernel
theorem dX11_count_0 : decode cX11_count 0 = .ok (.iload_n 1, 1) := by decide +kernel
theorem dX11_count_1 : decode cX11_count 1 = .ok (.bipush 11, 2) := by decide +kernel
theorem dX11_count_3 : decode cX11_count 3 = .ok (.bipush 16, 2) := by decide +kernel
theorem dX11_count_5 : decode cX11_count 5 = .ok (.invokestatic 82, 3) := by decide +kernel
theorem dX11_count_8 : decode cX11_count 8 = .ok (.ifCond .eq 13, 3) := by decide +kernel
theorem dX11_count_11 : decode cX11_count 11 = .ok (.aload_n 0, 1) := by decide +kernel
theorem dX11_count_12 : decode cX11_count 12 = .ok (.getfield 7, 3) := by decide +kernel
theorem dX11_count_15 : decode cX11_count 15 = .ok (.iload_n 1, 1) := by decide +kernel
theorem dX11_count_16 : decode cX11_count 16 = .ok (.bipush 10, 2) := by decide +kernel
theorem dX11_count_18 : decode cX11_count 18 = .ok (.isub, 1) := by decide +kernel
theorem dX11_count_19 : decode cX11_count 19 = .ok (.iaload, 1) := by decide +kernel
theorem dX11_count_20 : decode cX11_count 20 = .ok (.ireturn, 1) := by decide +kernel
theorem dX11_count_21 : decode cX11_count 21 = .ok (.iconst 0, 1) := by decide +kernel
theorem dX11_count_22 : decode cX11_count 22 = .ok (.istore_n 2, 1) := by decide +kernel
theorem dX11_count_23 : decode cX11_count 23 = .ok (.iload_n 1, 1) := by decide +kernel
theorem dX11_count_24 : decode cX11_count 24 = .ok (.tableswitch 128 0 9 #[56, 61, 66, 71, 76, 103, 108, 113, 118, 123], 56) := by decide +kernel
theorem dX11_count_80 : decode cX11_count 80 = .ok (.aload_n 0, 1) := by decide +kernel
theorem dX11_count_81 : decode cX11_count 81 = .ok (.getfield 56, 3) := by decide +kernel
theorem dX11_count_84 : decode cX11_count 84 = .ok (.ireturn, 1) := by decide +kernel
theorem dX11_count_85 : decode cX11_count 85 = .ok (.aload_n 0, 1) := by decide +kernel
theorem dX11_count_86 : decode cX11_count 86 = .ok (.getfield 127, 3) := by decide +kernel
theorem dX11_count_89 : decode cX11_count 89 = .ok (.ireturn, 1) := by decide +kernel
theorem dX11_count_90 : decode cX11_count 90 = .ok (.aload_n 0, 1) := by decide +kernel
theorem dX11_count_91 : decode cX11_count 91 = .ok (.invokevirtual 218, 3) := by decide +kernel
theorem dX11_count_94 : decode cX11_count 94 = .ok (.ireturn, 1) := by decide +kernel
theorem dX11_count_95 : decode cX11_count 95 = .ok (.aload_n 0, 1) := by decide +kernel
theorem dX11_count_96 : decode cX11_count 96 = .ok (.invokevirtual 179, 3) := by decide +kernel
theorem dX11_count_99 : decode cX11_count 99 = .ok (.ireturn, 1) := by decide +kernel
theorem dX11_count_100 : decode cX11_count 100 = .ok (.iconst 0, 1) := by decide +kernel
theorem dX11_count_101 : decode cX11_count 101 = .ok (.istore_n 3, 1) := by decide +kernel
theorem dX11_count_102 : decode cX11_count 102 = .ok (.iload_n 3, 1) := by decide +kernel
theorem dX11_count_103 : decode cX11_count 103 = .ok (.aload_n 0, 1) := by decide +kernel
theorem dX11_count_104 : decode cX11_count 104 = .ok (.getfield 56, 3) := by decide +kernel
theorem dX11_count_107 : decode cX11_count 107 = .ok (.if_icmp .ge 18, 3) := by decide +kernel
theorem dX11_count_110 : decode cX11_count 110 = .ok (.iload_n 2, 1) := by decide +kernel
theorem dX11_count_111 : decode cX11_count 111 = .ok (.aload_n 0, 1) := by decide +kernel
theorem dX11_count_112 : decode cX11_count 112 = .ok (.getfield 28, 3) := by decide +kernel
theorem dX11_count_115 : decode cX11_count 115 = .ok (.iload_n 3, 1) := by decide +kernel
theorem dX11_count_116 : decode cX11_count 116 = .ok (.iaload, 1) := by decide +kernel
theorem dX11_count_117 : decode cX11_count 117 = .ok (.iadd, 1) := by decide +kernel
theorem dX11_count_118 : decode cX11_count 118 = .ok (.istore_n 2, 1) := by decide +kernel
theorem dX11_count_119 : decode cX11_count 119 = .ok (.iinc 3 1, 3) := by decide +kernel
theorem dX11_count_122 : decode cX11_count 122 = .ok (.goto (-20), 3) := by decide +kernel
theorem dX11_count_125 : decode cX11_count 125 = .ok (.iload_n 2, 1) := by decide +kernel
theorem dX11_count_126 : decode cX11_count 126 = .ok (.ireturn, 1) := by decide +kernel
theorem dX11_count_127 : decode cX11_count 127 = .ok (.aload_n 0, 1) := by decide +kernel
theorem dX11_count_128 : decode cX11_count 128 = .ok (.getfield 130, 3) := by decide +kernel
theorem dX11_count_131 : decode cX11_count 131 = .ok (.ireturn, 1) := by decide +kernel
theorem dX11_count_132 : decode cX11_count 132 = .ok (.aload_n 0, 1) := by decide +kernel
theorem dX11_count_133 : decode cX11_count 133 = .ok (.getfield 133, 3) := by decide +kernel
theorem dX11_count_136 : decode cX11_count 136 = .ok (.ireturn, 1) := by decide +kernel
theorem dX11_count_137 : decode cX11_count 137 = .ok (.aload_n 0, 1) := by decide +kernel
theorem dX11_count_138 : decode cX11_count 138 = .ok (.getfield 136, 3) := by decide +kernel
theorem dX11_count_141 : decode cX11_count 141 = .ok (.ireturn, 1) := by decide +kernel
theorem dX11_count_142 : decode cX11_count 142 = .ok (.aload_n 0, 1) := by decide +kernel
theorem dX11_count_143 : decode cX11_count 143 = .ok (.getfield 68, 3) := by decide +kernel
theorem dX11_count_146 : decode cX11_count 146 = .ok (.ireturn, 1) := by decide +kernel
theorem dX11_count_147 : decode cX11_count 147 = .ok (.aload_n 0, 1) := by decide +kernel
theorem dX11_count_148 : decode cX11_count 148 = .ok (.getfield 212, 3) := by decide +kernel
theorem dX11_count_151 : decode cX11_count 151 = .ok (.ireturn, 1) := by decide +kernel
theorem dX11_count_152 : decode cX11_count 152 = .ok (.bipush (-9), 2) := by decide +kernel
theorem dX11_count_154 : decode cX11_count 154 = .ok (.ireturn, 1) := by decide +kernel
