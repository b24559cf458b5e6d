theorem dX9_huntersBehind_6 : decode cX9_huntersBehind 6 = .ok (.if_icmp .eq 9, 3) := by decide +kernel
theorem dX9_huntersBehind_9 : decode cX9_huntersBehind 9 = .ok (.iload 4, 2) := by decide +kernel
theorem dX9_huntersBehind_11 : decode cX9_huntersBehind 11 = .ok (.iload_n 2, 1) := by decide +kernel
theorem dX9_huntersBehind_12 : decode cX9_huntersBehind 12 = .ok (.if_icmp .ne 9, 3) := by decide +kernel
theorem dX9_huntersBehind_15 : decode cX9_huntersBehind 15 = .ok (.iinc 4 1, 3) := by decide +kernel
theorem dX9_huntersBehind_18 : decode cX9_huntersBehind 18 = .ok (.goto (-15), 3) := by decide +kernel
theorem dX9_huntersBehind_21 : decode cX9_huntersBehind 21 = .ok (.aload_n 0, 1) := by decide +kernel
theorem dX9_huntersBehind_22 : decode cX9_huntersBehind 22 = .ok (.aload_n 0, 1) := by decide +kernel
theorem dX9_huntersBehind_23 : decode cX9_huntersBehind 23 = .ok (.iload_n 1, 1) := by decide +kernel
theorem dX9_huntersBehind_24 : decode cX9_huntersBehind 24 = .ok (.iload_n 2, 1) := by decide +kernel
theorem dX9_huntersBehind_25 : decode cX9_huntersBehind 25 = .ok (.iload 4, 2) := by decide +kernel
theorem dX9_huntersBehind_27 : decode cX9_huntersBehind 27 = .ok (.iconst 0, 1) := by decide +kernel
theorem dX9_huntersBehind_28 : decode cX9_huntersBehind 28 = .ok (.iconst 0, 1) := by decide +kernel
theorem dX9_huntersBehind_29 : decode cX9_huntersBehind 29 = .ok (.invokevirtual 180, 3) := by decide +kernel
theorem dX9_huntersBehind_32 : decode cX9_huntersBehind 32 = .ok (.iload_n 3, 1) := by decide +kernel
theorem dX9_huntersBehind_33 : decode cX9_huntersBehind 33 = .ok (.invokevirtual 220, 3) := by decide +kernel
theorem dX9_huntersBehind_36 : decode cX9_huntersBehind 36 = .ok (.istore 5, 2) := by decide +kernel
theorem dX9_huntersBehind_38 : decode cX9_huntersBehind 38 = .ok (.iload 5, 2) := by decide +kernel
theorem dX9_huntersBehind_40 : decode cX9_huntersBehind 40 = .ok (.ifCond .ge 7, 3) := by decide +kernel
theorem dX9_huntersBehind_43 : decode cX9_huntersBehind 43 = .ok (.iconst (-1), 1) := by decide +kernel
theorem dX9_huntersBehind_44 : decode cX9_huntersBehind 44 = .ok (.goto 19, 3) := by decide +kernel
theorem dX9_huntersBehind_47 : decode cX9_huntersBehind 47 = .ok (.bipush 8, 2) := by decide +kernel
theorem dX9_huntersBehind_49 : decode cX9_huntersBehind 49 = .ok (.aload_n 0, 1) := by decide +kernel
theorem dX9_huntersBehind_50 : decode cX9_huntersBehind 50 = .ok (.iload 5, 2) := by decide +kernel
theorem dX9_huntersBehind_52 : decode cX9_huntersBehind 52 = .ok (.invokevirtual 195, 3) := by decide +kernel
theorem dX9_huntersBehind_55 : decode cX9_huntersBehind 55 = .ok (.imul, 1) := by decide +kernel
theorem dX9_huntersBehind_56 : decode cX9_huntersBehind 56 = .ok (.aload_n 0, 1) := by decide +kernel
theorem dX9_huntersBehind_57 : decode cX9_huntersBehind 57 = .ok (.iload 5, 2) := by decide +kernel
theorem dX9_huntersBehind_59 : decode cX9_huntersBehind 59 = .ok (.invokevirtual 198, 3) := by decide +kernel
theorem dX9_huntersBehind_62 : decode cX9_huntersBehind 62 = .ok (.iadd, 1) := by decide +kernel
theorem dX9_huntersBehind_63 : decode cX9_huntersBehind 63 = .ok (.ireturn, 1) := by decide +kernel
theorem dX9_canIn_0 : decode cX9_canIn 0 = .ok (.iconst 0, 1) := by decide +kernel
theorem dX9_canIn_1 : decode cX9_canIn 1 = .ok (.istore 5, 2) := by decide +kernel
theorem dX9_canIn_3 : decode cX9_canIn 3 = .ok (.iload 5, 2) := by decide +kernel
theorem dX9_canIn_5 : decode cX9_canIn 5 = .ok (.bipush 32, 2) := by decide +kernel
theorem dX9_canIn_7 : decode cX9_canIn 7 = .ok (.if_icmp .gt 46, 3) := by decide +kernel
theorem dX9_canIn_10 : decode cX9_canIn 10 = .ok (.aload_n 0, 1) := by decide +kernel
theorem dX9_canIn_11 : decode cX9_canIn 11 = .ok (.iload_n 1, 1) := by decide +kernel
theorem dX9_canIn_12 : decode cX9_canIn 12 = .ok (.iload_n 2, 1) := by decide +kernel
theorem dX9_canIn_13 : decode cX9_canIn 13 = .ok (.iload 5, 2) := by decide +kernel
theorem dX9_canIn_15 : decode cX9_canIn 15 = .ok (.invokevirtual 297, 3) := by decide +kernel
theorem dX9_canIn_18 : decode cX9_canIn 18 = .ok (.istore 6, 2) := by decide +kernel
theorem dX9_canIn_20 : decode cX9_canIn 20 = .ok (.iload 6, 2) := by decide +kernel
theorem dX9_canIn_22 : decode cX9_canIn 22 = .ok (.ifCond .lt 25, 3) := by decide +kernel
theorem dX9_canIn_25 : decode cX9_canIn 25 = .ok (.aload_n 0, 1) := by decide +kernel
theorem dX9_canIn_26 : decode cX9_canIn 26 = .ok (.iload_n 3, 1) := by decide +kernel
theorem dX9_canIn_27 : decode cX9_canIn 27 = .ok (.iload 6, 2) := by decide +kernel
theorem dX9_canIn_29 : decode cX9_canIn 29 = .ok (.bipush 8, 2) := by decide +kernel
theorem dX9_canIn_31 : decode cX9_canIn 31 = .ok (.idiv, 1) := by decide +kernel
theorem dX9_canIn_32 : decode cX9_canIn 32 = .ok (.iload 6, 2) := by decide +kernel
theorem dX9_canIn_34 : decode cX9_canIn 34 = .ok (.bipush 8, 2) := by decide +kernel
theorem dX9_canIn_36 : decode cX9_canIn 36 = .ok (.irem, 1) := by decide +kernel
theorem dX9_canIn_37 : decode cX9_canIn 37 = .ok (.iload 4, 2) := by decide +kernel
theorem dX9_canIn_39 : decode cX9_canIn 39 = .ok (.invokevirtual 300, 3) := by decide +kernel
theorem dX9_canIn_42 : decode cX9_canIn 42 = .ok (.ifCond .eq 5, 3) := by decide +kernel
theorem dX9_canIn_45 : decode cX9_canIn 45 = .ok (.iconst 1, 1) := by decide +kernel
theorem dX9_canIn_46 : decode cX9_canIn 46 = .ok (.ireturn, 1) := by decide +kernel
theorem dX9_canIn_47 : decode cX9_canIn 47 = .ok (.iinc 5 1, 3) := by decide +kernel
theorem dX9_canIn_50 : decode cX9_canIn 50 = .ok (.goto (-47), 3) := by decide +kernel
theorem dX9_canIn_53 : decode cX9_canIn 53 = .ok (.iconst 0, 1) := by decide +kernel
theorem dX9_canIn_54 : decode cX9_canIn 54 = .ok (.ireturn, 1) := by decide +kernel
theorem dX9_prepare_0 : decode cX9_prepare 0 = .ok (.iconst 0, 1) := by decide +kernel
theorem dX9_prepare_1 : decode cX9_prepare 1 = .ok (.istore_n 1, 1) := by decide +kernel
theorem dX9_prepare_2 : decode cX9_prepare 2 = .ok (.iload_n 1, 1) := by decide +kernel
theorem dX9_prepare_3 : decode cX9_prepare 3 = .ok (.aload_n 0, 1) := by decide +kernel
theorem dX9_prepare_4 : decode cX9_prepare 4 = .ok (.getfield 149, 3) := by decide +kernel
theorem dX9_prepare_7 : decode cX9_prepare 7 = .ok (.if_icmp .ge 20, 3) := by decide +kernel
theorem dX9_prepare_10 : decode cX9_prepare 10 = .ok (.aload_n 0, 1) := by decide +kernel
theorem dX9_prepare_11 : decode cX9_prepare 11 = .ok (.getfield 58, 3) := by decide +kernel
theorem dX9_prepare_14 : decode cX9_prepare 14 = .ok (.iload_n 1, 1) := by decide +kernel
theorem dX9_prepare_15 : decode cX9_prepare 15 = .ok (.aload_n 0, 1) := by decide +kernel
theorem dX9_prepare_16 : decode cX9_prepare 16 = .ok (.iload_n 1, 1) := by decide +kernel
theorem dX9_prepare_17 : decode cX9_prepare 17 = .ok (.invokevirtual 280, 3) := by decide +kernel
theorem dX9_prepare_20 : decode cX9_prepare 20 = .ok (.iastore, 1) := by decide +kernel
theorem dX9_prepare_21 : decode cX9_prepare 21 = .ok (.iinc 1 1, 3) := by decide +kernel
theorem dX9_prepare_24 : decode cX9_prepare 24 = .ok (.goto (-22), 3) := by decide +kernel
theorem dX9_prepare_27 : decode cX9_prepare 27 = .ok (.iconst 0, 1) := by decide +kernel
theorem dX9_prepare_28 : decode cX9_prepare 28 = .ok (.istore_n 1, 1) := by decide +kernel
theorem dX9_prepare_29 : decode cX9_prepare 29 = .ok (.iload_n 1, 1) := by decide +kernel
theorem dX9_prepare_30 : decode cX9_prepare 30 = .ok (.aload_n 0, 1) := by decide +kernel
theorem dX9_prepare_31 : decode cX9_prepare 31 = .ok (.getfield 149, 3) := by decide +kernel
theorem dX9_prepare_34 : decode cX9_prepare 34 = .ok (.if_icmp .ge 67, 3) := by decide +kernel
theorem dX9_prepare_37 : decode cX9_prepare 37 = .ok (.iload_n 1, 1) := by decide +kernel
theorem dX9_prepare_38 : decode cX9_prepare 38 = .ok (.istore_n 2, 1) := by decide +kernel
theorem dX9_prepare_39 : decode cX9_prepare 39 = .ok (.iload_n 2, 1) := by decide +kernel
theorem dX9_prepare_40 : decode cX9_prepare 40 = .ok (.aload_n 0, 1) := by decide +kernel
theorem dX9_prepare_41 : decode cX9_prepare 41 = .ok (.getfield 149, 3) := by decide +kernel
theorem dX9_prepare_44 : decode cX9_prepare 44 = .ok (.if_icmp .ge 51, 3) := by decide +kernel
theorem dX9_prepare_47 : decode cX9_prepare 47 = .ok (.iconst 0, 1) := by decide +kernel
theorem dX9_prepare_48 : decode cX9_prepare 48 = .ok (.istore_n 3, 1) := by decide +kernel
theorem dX9_prepare_49 : decode cX9_prepare 49 = .ok (.iload_n 3, 1) := by decide +kernel
theorem dX9_prepare_50 : decode cX9_prepare 50 = .ok (.aload_n 0, 1) := by decide +kernel
theorem dX9_prepare_51 : decode cX9_prepare 51 = .ok (.getfield 149, 3) := by decide +kernel
theorem dX9_prepare_54 : decode cX9_prepare 54 = .ok (.if_icmp .ge 35, 3) := by decide +kernel
theorem dX9_prepare_57 : decode cX9_prepare 57 = .ok (.aload_n 0, 1) := by decide +kernel
theorem dX9_prepare_58 : decode cX9_prepare 58 = .ok (.getfield 61, 3) := by decide +kernel
theorem dX9_prepare_61 : decode cX9_prepare 61 = .ok (.bipush 64, 2) := by decide +kernel
theorem dX9_prepare_63 : decode cX9_prepare 63 = .ok (.iload_n 1, 1) := by decide +kernel
theorem dX9_prepare_64 : decode cX9_prepare 64 = .ok (.imul, 1) := by decide +kernel
theorem dX9_prepare_65 : decode cX9_prepare 65 = .ok (.bipush 8, 2) := by decide +kernel
theorem dX9_prepare_67 : decode cX9_prepare 67 = .ok (.iload_n 2, 1) := by decide +kernel
theorem dX9_prepare_68 : decode cX9_prepare 68 = .ok (.imul, 1) := by decide +kernel
theorem dX9_prepare_69 : decode cX9_prepare 69 = .ok (.iadd, 1) := by decide +kernel
theorem dX9_prepare_70 : decode cX9_prepare 70 = .ok (.iload_n 3, 1) := by decide +kernel
theorem dX9_prepare_71 : decode cX9_prepare 71 = .ok (.iadd, 1) := by decide +kernel
theorem dX9_prepare_72 : decode cX9_prepare 72 = .ok (.aload_n 0, 1) := by decide +kernel
theorem dX9_prepare_73 : decode cX9_prepare 73 = .ok (.iconst 1, 1) := by decide +kernel
theorem dX9_prepare_74 : decode cX9_prepare 74 = .ok (.iload_n 3, 1) := by decide +kernel
theorem dX9_prepare_75 : decode cX9_prepare 75 = .ok (.ishl, 1) := by decide +kernel
theorem dX9_prepare_76 : decode cX9_prepare 76 = .ok (.iload_n 1, 1) := by decide +kernel
theorem dX9_prepare_77 : decode cX9_prepare 77 = .ok (.iload_n 2, 1) := by decide +kernel
theorem dX9_prepare_78 : decode cX9_prepare 78 = .ok (.iconst 0, 1) := by decide +kernel
theorem dX9_prepare_79 : decode cX9_prepare 79 = .ok (.invokevirtual 303, 3) := by decide +kernel
theorem dX9_prepare_82 : decode cX9_prepare 82 = .ok (.iastore, 1) := by decide +kernel
theorem dX9_prepare_83 : decode cX9_prepare 83 = .ok (.iinc 3 1, 3) := by decide +kernel
theorem dX9_prepare_86 : decode cX9_prepare 86 = .ok (.goto (-37), 3) := by decide +kernel
theorem dX9_prepare_89 : decode cX9_prepare 89 = .ok (.iinc 2 1, 3) := by decide +kernel
theorem dX9_prepare_92 : decode cX9_prepare 92 = .ok (.goto (-53), 3) := by decide +kernel
theorem dX9_prepare_95 : decode cX9_prepare 95 = .ok (.iinc 1 1, 3) := by decide +kernel
theorem dX9_prepare_98 : decode cX9_prepare 98 = .ok (.goto (-69), 3) := by decide +kernel
theorem dX9_prepare_101 : decode cX9_prepare 101 = .ok (.return_, 1) := by decide +kernel
theorem dX9_findRounds_0 : decode cX9_findRounds 0 = .ok (.aload_n 0, 1) := by decide +kernel
theorem dX9_findRounds_1 : decode cX9_findRounds 1 = .ok (.getfield 55, 3) := by decide +kernel
theorem dX9_findRounds_4 : decode cX9_findRounds 4 = .ok (.ifCond .eq 4, 3) := by decide +kernel
theorem dX9_findRounds_7 : decode cX9_findRounds 7 = .ok (.return_, 1) := by decide +kernel
theorem dX9_findRounds_8 : decode cX9_findRounds 8 = .ok (.aload_n 0, 1) := by decide +kernel
theorem dX9_findRounds_9 : decode cX9_findRounds 9 = .ok (.iconst 1, 1) := by decide +kernel
theorem dX9_findRounds_10 : decode cX9_findRounds 10 = .ok (.putfield 55, 3) := by decide +kernel
theorem dX9_findRounds_13 : decode cX9_findRounds 13 = .ok (.aload_n 0, 1) := by decide +kernel
theorem dX9_findRounds_14 : decode cX9_findRounds 14 = .ok (.invokevirtual 307, 3) := by decide +kernel
theorem dX9_findRounds_17 : decode cX9_findRounds 17 = .ok (.iconst 0, 1) := by decide +kernel
theorem dX9_findRounds_18 : decode cX9_findRounds 18 = .ok (.istore_n 1, 1) := by decide +kernel
theorem dX9_findRounds_19 : decode cX9_findRounds 19 = .ok (.iload_n 1, 1) := by decide +kernel
theorem dX9_findRounds_20 : decode cX9_findRounds 20 = .ok (.sipush 4096, 3) := by decide +kernel
theorem dX9_findRounds_23 : decode cX9_findRounds 23 = .ok (.if_icmp .ge 28, 3) := by decide +kernel
theorem dX9_findRounds_26 : decode cX9_findRounds 26 = .ok (.aload_n 0, 1) := by decide +kernel
theorem dX9_findRounds_27 : decode cX9_findRounds 27 = .ok (.getfield 52, 3) := by decide +kernel
theorem dX9_findRounds_30 : decode cX9_findRounds 30 = .ok (.iload_n 1, 1) := by decide +kernel
theorem dX9_findRounds_31 : decode cX9_findRounds 31 = .ok (.iload_n 1, 1) := by decide +kernel
theorem dX9_findRounds_32 : decode cX9_findRounds 32 = .ok (.bipush 64, 2) := by decide +kernel
theorem dX9_findRounds_34 : decode cX9_findRounds 34 = .ok (.irem, 1) := by decide +kernel
theorem dX9_findRounds_35 : decode cX9_findRounds 35 = .ok (.ifCond .ne 7, 3) := by decide +kernel
theorem dX9_findRounds_38 : decode cX9_findRounds 38 = .ok (.iconst 0, 1) := by decide +kernel
theorem dX9_findRounds_39 : decode cX9_findRounds 39 = .ok (.goto 5, 3) := by decide +kernel
theorem dX9_findRounds_42 : decode cX9_findRounds 42 = .ok (.bipush 99, 2) := by decide +kernel
theorem dX9_findRounds_44 : decode cX9_findRounds 44 = .ok (.iastore, 1) := by decide +kernel
theorem dX9_findRounds_45 : decode cX9_findRounds 45 = .ok (.iinc 1 1, 3) := by decide +kernel
theorem dX9_findRounds_48 : decode cX9_findRounds 48 = .ok (.goto (-29), 3) := by decide +kernel
theorem dX9_findRounds_51 : decode cX9_findRounds 51 = .ok (.iconst 1, 1) := by decide +kernel
theorem dX9_findRounds_52 : decode cX9_findRounds 52 = .ok (.istore_n 1, 1) := by decide +kernel
theorem dX9_findRounds_53 : decode cX9_findRounds 53 = .ok (.iload_n 1, 1) := by decide +kernel
theorem dX9_findRounds_54 : decode cX9_findRounds 54 = .ok (.bipush 12, 2) := by decide +kernel
theorem dX9_findRounds_56 : decode cX9_findRounds 56 = .ok (.if_icmp .gt 166, 3) := by decide +kernel
theorem dX9_findRounds_59 : decode cX9_findRounds 59 = .ok (.iconst 0, 1) := by decide +kernel
theorem dX9_findRounds_60 : decode cX9_findRounds 60 = .ok (.istore_n 2, 1) := by decide +kernel
theorem dX9_findRounds_61 : decode cX9_findRounds 61 = .ok (.iload_n 2, 1) := by decide +kernel
theorem dX9_findRounds_62 : decode cX9_findRounds 62 = .ok (.aload_n 0, 1) := by decide +kernel
theorem dX9_findRounds_63 : decode cX9_findRounds 63 = .ok (.getfield 149, 3) := by decide +kernel
theorem dX9_findRounds_66 : decode cX9_findRounds 66 = .ok (.if_icmp .ge 109, 3) := by decide +kernel
theorem dX9_findRounds_69 : decode cX9_findRounds 69 = .ok (.iload_n 2, 1) := by decide +kernel
theorem dX9_findRounds_70 : decode cX9_findRounds 70 = .ok (.istore_n 3, 1) := by decide +kernel
theorem dX9_findRounds_71 : decode cX9_findRounds 71 = .ok (.iload_n 3, 1) := by decide +kernel
theorem dX9_findRounds_72 : decode cX9_findRounds 72 = .ok (.aload_n 0, 1) := by decide +kernel
theorem dX9_findRounds_73 : decode cX9_findRounds 73 = .ok (.getfield 149, 3) := by decide +kernel
theorem dX9_findRounds_76 : decode cX9_findRounds 76 = .ok (.if_icmp .ge 93, 3) := by decide +kernel
theorem dX9_findRounds_79 : decode cX9_findRounds 79 = .ok (.aload_n 0, 1) := by decide +kernel
theorem dX9_findRounds_80 : decode cX9_findRounds 80 = .ok (.getfield 13, 3) := by decide +kernel
theorem dX9_findRounds_83 : decode cX9_findRounds 83 = .ok (.iconst 1, 1) := by decide +kernel
theorem dX9_findRounds_84 : decode cX9_findRounds 84 = .ok (.if_icmp .ne 11, 3) := by decide +kernel
theorem dX9_findRounds_87 : decode cX9_findRounds 87 = .ok (.iload_n 3, 1) := by decide +kernel
theorem dX9_findRounds_88 : decode cX9_findRounds 88 = .ok (.iload_n 2, 1) := by decide +kernel
theorem dX9_findRounds_89 : decode cX9_findRounds 89 = .ok (.if_icmp .le 6, 3) := by decide +kernel
theorem dX9_findRounds_92 : decode cX9_findRounds 92 = .ok (.goto 71, 3) := by decide +kernel
theorem dX9_findRounds_95 : decode cX9_findRounds 95 = .ok (.iconst 1, 1) := by decide +kernel
theorem dX9_findRounds_96 : decode cX9_findRounds 96 = .ok (.istore 4, 2) := by decide +kernel
theorem dX9_findRounds_98 : decode cX9_findRounds 98 = .ok (.iload 4, 2) := by decide +kernel
theorem dX9_findRounds_100 : decode cX9_findRounds 100 = .ok (.iconst 1, 1) := by decide +kernel
theorem dX9_findRounds_101 : decode cX9_findRounds 101 = .ok (.aload_n 0, 1) := by decide +kernel
theorem dX9_findRounds_102 : decode cX9_findRounds 102 = .ok (.getfield 149, 3) := by decide +kernel
theorem dX9_findRounds_105 : decode cX9_findRounds 105 = .ok (.ishl, 1) := by decide +kernel
theorem dX9_findRounds_106 : decode cX9_findRounds 106 = .ok (.if_icmp .ge 57, 3) := by decide +kernel
theorem dX9_findRounds_109 : decode cX9_findRounds 109 = .ok (.aload_n 0, 1) := by decide +kernel
theorem dX9_findRounds_110 : decode cX9_findRounds 110 = .ok (.getfield 64, 3) := by decide +kernel
theorem dX9_findRounds_113 : decode cX9_findRounds 113 = .ok (.aload_n 0, 1) := by decide +kernel
theorem dX9_findRounds_114 : decode cX9_findRounds 114 = .ok (.iload_n 2, 1) := by decide +kernel
theorem dX9_findRounds_115 : decode cX9_findRounds 115 = .ok (.iload_n 3, 1) := by decide +kernel
theorem dX9_findRounds_116 : decode cX9_findRounds 116 = .ok (.iload 4, 2) := by decide +kernel
theorem dX9_findRounds_118 : decode cX9_findRounds 118 = .ok (.invokevirtual 286, 3) := by decide +kernel
theorem dX9_findRounds_121 : decode cX9_findRounds 121 = .ok (.aload_n 0, 1) := by decide +kernel
theorem dX9_findRounds_122 : decode cX9_findRounds 122 = .ok (.getfield 52, 3) := by decide +kernel
theorem dX9_findRounds_125 : decode cX9_findRounds 125 = .ok (.aload_n 0, 1) := by decide +kernel
theorem dX9_findRounds_126 : decode cX9_findRounds 126 = .ok (.iload_n 2, 1) := by decide +kernel
theorem dX9_findRounds_127 : decode cX9_findRounds 127 = .ok (.iload_n 3, 1) := by decide +kernel
theorem dX9_findRounds_128 : decode cX9_findRounds 128 = .ok (.iload 4, 2) := by decide +kernel
theorem dX9_findRounds_130 : decode cX9_findRounds 130 = .ok (.invokevirtual 286, 3) := by decide +kernel
theorem dX9_findRounds_133 : decode cX9_findRounds 133 = .ok (.iaload, 1) := by decide +kernel
theorem dX9_findRounds_134 : decode cX9_findRounds 134 = .ok (.bipush 99, 2) := by decide +kernel
theorem dX9_findRounds_136 : decode cX9_findRounds 136 = .ok (.if_icmp .ne 19, 3) := by decide +kernel
theorem dX9_findRounds_139 : decode cX9_findRounds 139 = .ok (.aload_n 0, 1) := by decide +kernel
theorem dX9_findRounds_140 : decode cX9_findRounds 140 = .ok (.iload_n 2, 1) := by decide +kernel
theorem dX9_findRounds_141 : decode cX9_findRounds 141 = .ok (.iload_n 3, 1) := by decide +kernel
theorem dX9_findRounds_142 : decode cX9_findRounds 142 = .ok (.iload 4, 2) := by decide +kernel
theorem dX9_findRounds_144 : decode cX9_findRounds 144 = .ok (.iload_n 1, 1) := by decide +kernel
theorem dX9_findRounds_145 : decode cX9_findRounds 145 = .ok (.invokevirtual 310, 3) := by decide +kernel
theorem dX9_findRounds_148 : decode cX9_findRounds 148 = .ok (.ifCond .eq 7, 3) := by decide +kernel
theorem dX9_findRounds_151 : decode cX9_findRounds 151 = .ok (.iconst 1, 1) := by decide +kernel
theorem dX9_findRounds_152 : decode cX9_findRounds 152 = .ok (.goto 4, 3) := by decide +kernel
theorem dX9_findRounds_155 : decode cX9_findRounds 155 = .ok (.iconst 0, 1) := by decide +kernel
theorem dX9_findRounds_156 : decode cX9_findRounds 156 = .ok (.bastore, 1) := by decide +kernel
theorem dX9_findRounds_157 : decode cX9_findRounds 157 = .ok (.iinc 4 1, 3) := by decide +kernel
theorem dX9_findRounds_160 : decode cX9_findRounds 160 = .ok (.goto (-62), 3) := by decide +kernel
theorem dX9_findRounds_163 : decode cX9_findRounds 163 = .ok (.iinc 3 1, 3) := by decide +kernel
theorem dX9_findRounds_166 : decode cX9_findRounds 166 = .ok (.goto (-95), 3) := by decide +kernel
theorem dX9_findRounds_169 : decode cX9_findRounds 169 = .ok (.iinc 2 1, 3) := by decide +kernel
theorem dX9_findRounds_172 : decode cX9_findRounds 172 = .ok (.goto (-111), 3) := by decide +kernel
theorem dX9_findRounds_175 : decode cX9_findRounds 175 = .ok (.iconst 0, 1) := by decide +kernel
theorem dX9_findRounds_176 : decode cX9_findRounds 176 = .ok (.istore_n 2, 1) := by decide +kernel
theorem dX9_findRounds_177 : decode cX9_findRounds 177 = .ok (.iload_n 2, 1) := by decide +kernel
theorem dX9_findRounds_178 : decode cX9_findRounds 178 = .ok (.sipush 4096, 3) := by decide +kernel
theorem dX9_findRounds_181 : decode cX9_findRounds 181 = .ok (.if_icmp .ge 35, 3) := by decide +kernel
theorem dX9_findRounds_184 : decode cX9_findRounds 184 = .ok (.aload_n 0, 1) := by decide +kernel
theorem dX9_findRounds_185 : decode cX9_findRounds 185 = .ok (.getfield 64, 3) := by decide +kernel
theorem dX9_findRounds_188 : decode cX9_findRounds 188 = .ok (.iload_n 2, 1) := by decide +kernel
theorem dX9_findRounds_189 : decode cX9_findRounds 189 = .ok (.baload, 1) := by decide +kernel
theorem dX9_findRounds_190 : decode cX9_findRounds 190 = .ok (.ifCond .ne 6, 3) := by decide +kernel
theorem dX9_findRounds_193 : decode cX9_findRounds 193 = .ok (.goto 17, 3) := by decide +kernel
theorem dX9_findRounds_196 : decode cX9_findRounds 196 = .ok (.aload_n 0, 1) := by decide +kernel
theorem dX9_findRounds_197 : decode cX9_findRounds 197 = .ok (.getfield 52, 3) := by decide +kernel
theorem dX9_findRounds_200 : decode cX9_findRounds 200 = .ok (.iload_n 2, 1) := by decide +kernel
theorem dX9_findRounds_201 : decode cX9_findRounds 201 = .ok (.iload_n 1, 1) := by decide +kernel
theorem dX9_findRounds_202 : decode cX9_findRounds 202 = .ok (.iastore, 1) := by decide +kernel
theorem dX9_findRounds_203 : decode cX9_findRounds 203 = .ok (.aload_n 0, 1) := by decide +kernel
theorem dX9_findRounds_204 : decode cX9_findRounds 204 = .ok (.getfield 64, 3) := by decide +kernel
theorem dX9_findRounds_207 : decode cX9_findRounds 207 = .ok (.iload_n 2, 1) := by decide +kernel
theorem dX9_findRounds_208 : decode cX9_findRounds 208 = .ok (.iconst 0, 1) := by decide +kernel
theorem dX9_findRounds_209 : decode cX9_findRounds 209 = .ok (.bastore, 1) := by decide +kernel
theorem dX9_findRounds_210 : decode cX9_findRounds 210 = .ok (.iinc 2 1, 3) := by decide +kernel
theorem dX9_findRounds_213 : decode cX9_findRounds 213 = .ok (.goto (-36), 3) := by decide +kernel
theorem dX9_findRounds_216 : decode cX9_findRounds 216 = .ok (.iinc 1 1, 3) := by decide +kernel
theorem dX9_findRounds_219 : decode cX9_findRounds 219 = .ok (.goto (-166), 3) := by decide +kernel
theorem dX9_findRounds_222 : decode cX9_findRounds 222 = .ok (.return_, 1) := by decide +kernel
theorem dX9_lacksHidden_0 : decode cX9_lacksHidden 0 = .ok (.aload_n 0, 1) := by decide +kernel
theorem dX9_lacksHidden_1 : decode cX9_lacksHidden 1 = .ok (.getfield 13, 3) := by decide +kernel
theorem dX9_lacksHidden_4 : decode cX9_lacksHidden 4 = .ok (.iconst 1, 1) := by decide +kernel
theorem dX9_lacksHidden_5 : decode cX9_lacksHidden 5 = .ok (.if_icmp .ne 7, 3) := by decide +kernel
theorem dX9_lacksHidden_8 : decode cX9_lacksHidden 8 = .ok (.iload_n 1, 1) := by decide +kernel
theorem dX9_lacksHidden_9 : decode cX9_lacksHidden 9 = .ok (.goto 4, 3) := by decide +kernel
theorem dX9_lacksHidden_12 : decode cX9_lacksHidden 12 = .ok (.iload_n 2, 1) := by decide +kernel
theorem dX9_lacksHidden_13 : decode cX9_lacksHidden 13 = .ok (.istore 4, 2) := by decide +kernel
theorem dX9_lacksHidden_15 : decode cX9_lacksHidden 15 = .ok (.aload_n 0, 1) := by decide +kernel
theorem dX9_lacksHidden_16 : decode cX9_lacksHidden 16 = .ok (.iload_n 1, 1) := by decide +kernel
theorem dX9_lacksHidden_17 : decode cX9_lacksHidden 17 = .ok (.invokevirtual 163, 3) := by decide +kernel
theorem dX9_lacksHidden_20 : decode cX9_lacksHidden 20 = .ok (.ifCond .eq 29, 3) := by decide +kernel
theorem dX9_lacksHidden_23 : decode cX9_lacksHidden 23 = .ok (.aload_n 0, 1) := by decide +kernel
theorem dX9_lacksHidden_24 : decode cX9_lacksHidden 24 = .ok (.iload 4, 2) := by decide +kernel
theorem dX9_lacksHidden_26 : decode cX9_lacksHidden 26 = .ok (.invokevirtual 163, 3) := by decide +kernel
theorem dX9_lacksHidden_29 : decode cX9_lacksHidden 29 = .ok (.ifCond .eq 20, 3) := by decide +kernel
theorem dX9_lacksHidden_32 : decode cX9_lacksHidden 32 = .ok (.aload_n 0, 1) := by decide +kernel
theorem dX9_lacksHidden_33 : decode cX9_lacksHidden 33 = .ok (.iload_n 3, 1) := by decide +kernel
theorem dX9_lacksHidden_34 : decode cX9_lacksHidden 34 = .ok (.iconst 0, 1) := by decide +kernel
theorem dX9_lacksHidden_35 : decode cX9_lacksHidden 35 = .ok (.iconst 1, 1) := by decide +kernel
theorem dX9_lacksHidden_36 : decode cX9_lacksHidden 36 = .ok (.aload_n 0, 1) := by decide +kernel
theorem dX9_lacksHidden_37 : decode cX9_lacksHidden 37 = .ok (.getfield 149, 3) := by decide +kernel
theorem dX9_lacksHidden_40 : decode cX9_lacksHidden 40 = .ok (.ishl, 1) := by decide +kernel
theorem dX9_lacksHidden_41 : decode cX9_lacksHidden 41 = .ok (.iconst 1, 1) := by decide +kernel
theorem dX9_lacksHidden_42 : decode cX9_lacksHidden 42 = .ok (.isub, 1) := by decide +kernel
theorem dX9_lacksHidden_43 : decode cX9_lacksHidden 43 = .ok (.invokevirtual 155, 3) := by decide +kernel
theorem dX9_lacksHidden_46 : decode cX9_lacksHidden 46 = .ok (.ifCond .ne 6, 3) := by decide +kernel
theorem dX9_lacksHidden_49 : decode cX9_lacksHidden 49 = .ok (.bipush (-2), 2) := by decide +kernel
theorem dX9_lacksHidden_51 : decode cX9_lacksHidden 51 = .ok (.ireturn, 1) := by decide +kernel
theorem dX9_lacksHidden_52 : decode cX9_lacksHidden 52 = .ok (.aload_n 0, 1) := by decide +kernel
theorem dX9_lacksHidden_53 : decode cX9_lacksHidden 53 = .ok (.invokevirtual 166, 3) := by decide +kernel
theorem dX9_lacksHidden_56 : decode cX9_lacksHidden 56 = .ok (.ifCond .gt 12, 3) := by decide +kernel
theorem dX9_lacksHidden_59 : decode cX9_lacksHidden 59 = .ok (.aload_n 0, 1) := by decide +kernel
theorem dX9_lacksHidden_60 : decode cX9_lacksHidden 60 = .ok (.getfield 149, 3) := by decide +kernel
theorem dX9_lacksHidden_63 : decode cX9_lacksHidden 63 = .ok (.bipush 6, 2) := by decide +kernel
theorem dX9_lacksHidden_65 : decode cX9_lacksHidden 65 = .ok (.if_icmp .le 8, 3) := by decide +kernel
theorem dX9_lacksHidden_68 : decode cX9_lacksHidden 68 = .ok (.bipush (-3), 2) := by decide +kernel
theorem dX9_lacksHidden_70 : decode cX9_lacksHidden 70 = .ok (.goto 4, 3) := by decide +kernel
theorem dX9_lacksHidden_73 : decode cX9_lacksHidden 73 = .ok (.iconst 0, 1) := by decide +kernel
theorem dX9_lacksHidden_74 : decode cX9_lacksHidden 74 = .ok (.ireturn, 1) := by decide +kernel
theorem dX9_leastRounds_0 : decode cX9_leastRounds 0 = .ok (.aload_n 0, 1) := by decide +kernel
theorem dX9_leastRounds_1 : decode cX9_leastRounds 1 = .ok (.invokevirtual 313, 3) := by decide +kernel
theorem dX9_leastRounds_4 : decode cX9_leastRounds 4 = .ok (.aload_n 0, 1) := by decide +kernel
theorem dX9_leastRounds_5 : decode cX9_leastRounds 5 = .ok (.getfield 13, 3) := by decide +kernel
theorem dX9_leastRounds_8 : decode cX9_leastRounds 8 = .ok (.iconst 1, 1) := by decide +kernel
theorem dX9_leastRounds_9 : decode cX9_leastRounds 9 = .ok (.if_icmp .ne 7, 3) := by decide +kernel
theorem dX9_leastRounds_12 : decode cX9_leastRounds 12 = .ok (.iload_n 1, 1) := by decide +kernel
theorem dX9_leastRounds_13 : decode cX9_leastRounds 13 = .ok (.goto 4, 3) := by decide +kernel
theorem dX9_leastRounds_16 : decode cX9_leastRounds 16 = .ok (.iload_n 2, 1) := by decide +kernel
theorem dX9_leastRounds_17 : decode cX9_leastRounds 17 = .ok (.istore 4, 2) := by decide +kernel
theorem dX9_leastRounds_19 : decode cX9_leastRounds 19 = .ok (.aload_n 0, 1) := by decide +kernel
theorem dX9_leastRounds_20 : decode cX9_leastRounds 20 = .ok (.getfield 52, 3) := by decide +kernel
theorem dX9_leastRounds_23 : decode cX9_leastRounds 23 = .ok (.iload_n 1, 1) := by decide +kernel
theorem dX9_leastRounds_24 : decode cX9_leastRounds 24 = .ok (.iload 4, 2) := by decide +kernel
theorem dX9_leastRounds_26 : decode cX9_leastRounds 26 = .ok (.if_icmp .ge 14, 3) := by decide +kernel
theorem dX9_leastRounds_29 : decode cX9_leastRounds 29 = .ok (.aload_n 0, 1) := by decide +kernel
theorem dX9_leastRounds_30 : decode cX9_leastRounds 30 = .ok (.iload_n 1, 1) := by decide +kernel
theorem dX9_leastRounds_31 : decode cX9_leastRounds 31 = .ok (.iload 4, 2) := by decide +kernel
theorem dX9_leastRounds_33 : decode cX9_leastRounds 33 = .ok (.iload_n 3, 1) := by decide +kernel
theorem dX9_leastRounds_34 : decode cX9_leastRounds 34 = .ok (.invokevirtual 286, 3) := by decide +kernel
theorem dX9_leastRounds_37 : decode cX9_leastRounds 37 = .ok (.goto 11, 3) := by decide +kernel
theorem dX9_leastRounds_40 : decode cX9_leastRounds 40 = .ok (.aload_n 0, 1) := by decide +kernel
theorem dX9_leastRounds_41 : decode cX9_leastRounds 41 = .ok (.iload 4, 2) := by decide +kernel
theorem dX9_leastRounds_43 : decode cX9_leastRounds 43 = .ok (.iload_n 1, 1) := by decide +kernel
theorem dX9_leastRounds_44 : decode cX9_leastRounds 44 = .ok (.iload_n 3, 1) := by decide +kernel
theorem dX9_leastRounds_45 : decode cX9_leastRounds 45 = .ok (.invokevirtual 286, 3) := by decide +kernel
theorem dX9_leastRounds_48 : decode cX9_leastRounds 48 = .ok (.iaload, 1) := by decide +kernel
theorem dX9_leastRounds_49 : decode cX9_leastRounds 49 = .ok (.istore 5, 2) := by decide +kernel
theorem dX9_leastRounds_51 : decode cX9_leastRounds 51 = .ok (.iload 5, 2) := by decide +kernel
theorem dX9_leastRounds_53 : decode cX9_leastRounds 53 = .ok (.bipush 99, 2) := by decide +kernel
theorem dX9_leastRounds_55 : decode cX9_leastRounds 55 = .ok (.if_icmp .ne 7, 3) := by decide +kernel
theorem dX9_leastRounds_58 : decode cX9_leastRounds 58 = .ok (.iconst (-1), 1) := by decide +kernel
theorem dX9_leastRounds_59 : decode cX9_leastRounds 59 = .ok (.goto 5, 3) := by decide +kernel
theorem dX9_leastRounds_62 : decode cX9_leastRounds 62 = .ok (.iload 5, 2) := by decide +kernel
theorem dX9_leastRounds_64 : decode cX9_leastRounds 64 = .ok (.ireturn, 1) := by decide +kernel
theorem dX9_sure_0 : decode cX9_sure 0 = .ok (.aload_n 0, 1) := by decide +kernel
theorem dX9_sure_1 : decode cX9_sure 1 = .ok (.iload_n 1, 1) := by decide +kernel
theorem dX9_sure_2 : decode cX9_sure 2 = .ok (.iload_n 2, 1) := by decide +kernel
theorem dX9_sure_3 : decode cX9_sure 3 = .ok (.iload_n 3, 1) := by decide +kernel
theorem dX9_sure_4 : decode cX9_sure 4 = .ok (.invokevirtual 316, 3) := by decide +kernel
theorem dX9_sure_7 : decode cX9_sure 7 = .ok (.ifCond .eq 13, 3) := by decide +kernel
theorem dX9_sure_10 : decode cX9_sure 10 = .ok (.aload_n 0, 1) := by decide +kernel
theorem dX9_sure_11 : decode cX9_sure 11 = .ok (.iload_n 1, 1) := by decide +kernel
theorem dX9_sure_12 : decode cX9_sure 12 = .ok (.iload_n 2, 1) := by decide +kernel
theorem dX9_sure_13 : decode cX9_sure 13 = .ok (.iload_n 3, 1) := by decide +kernel
theorem dX9_sure_14 : decode cX9_sure 14 = .ok (.invokevirtual 316, 3) := by decide +kernel
theorem dX9_sure_17 : decode cX9_sure 17 = .ok (.goto 10, 3) := by decide +kernel
theorem dX9_sure_20 : decode cX9_sure 20 = .ok (.aload_n 0, 1) := by decide +kernel
theorem dX9_sure_21 : decode cX9_sure 21 = .ok (.iload_n 1, 1) := by decide +kernel
theorem dX9_sure_22 : decode cX9_sure 22 = .ok (.iload_n 2, 1) := by decide +kernel
theorem dX9_sure_23 : decode cX9_sure 23 = .ok (.iload_n 3, 1) := by decide +kernel
theorem dX9_sure_24 : decode cX9_sure 24 = .ok (.invokevirtual 319, 3) := by decide +kernel
theorem dX9_sure_27 : decode cX9_sure 27 = .ok (.ireturn, 1) := by decide +kernel
theorem dX9_first_0 : decode cX9_first 0 = .ok (.aload_n 0, 1) := by decide +kernel
theorem dX9_first_1 : decode cX9_first 1 = .ok (.iload_n 1, 1) := by decide +kernel
theorem dX9_first_2 : decode cX9_first 2 = .ok (.iload_n 2, 1) := by decide +kernel
theorem dX9_first_3 : decode cX9_first 3 = .ok (.iload_n 3, 1) := by decide +kernel
theorem dX9_first_4 : decode cX9_first 4 = .ok (.invokevirtual 316, 3) := by decide +kernel
theorem dX9_first_7 : decode cX9_first 7 = .ok (.ifCond .eq 11, 3) := by decide +kernel
theorem dX9_first_10 : decode cX9_first 10 = .ok (.aload_n 0, 1) := by decide +kernel
theorem dX9_first_11 : decode cX9_first 11 = .ok (.iload_n 1, 1) := by decide +kernel
theorem dX9_first_12 : decode cX9_first 12 = .ok (.iload_n 2, 1) := by decide +kernel
theorem dX9_first_13 : decode cX9_first 13 = .ok (.iload_n 3, 1) := by decide +kernel
theorem dX9_first_14 : decode cX9_first 14 = .ok (.invokevirtual 316, 3) := by decide +kernel
theorem dX9_first_17 : decode cX9_first 17 = .ok (.ireturn, 1) := by decide +kernel
theorem dX9_first_18 : decode cX9_first 18 = .ok (.aload_n 0, 1) := by decide +kernel
theorem dX9_first_19 : decode cX9_first 19 = .ok (.iload_n 1, 1) := by decide +kernel
theorem dX9_first_20 : decode cX9_first 20 = .ok (.iload_n 2, 1) := by decide +kernel
theorem dX9_first_21 : decode cX9_first 21 = .ok (.iload_n 3, 1) := by decide +kernel
theorem dX9_first_22 : decode cX9_first 22 = .ok (.invokevirtual 319, 3) := by decide +kernel
theorem dX9_first_25 : decode cX9_first 25 = .ok (.istore 4, 2) := by decide +kernel
theorem dX9_first_27 : decode cX9_first 27 = .ok (.iload 4, 2) := by decide +kernel
theorem dX9_first_29 : decode cX9_first 29 = .ok (.ifCond .gt 5, 3) := by decide +kernel
theorem dX9_first_32 : decode cX9_first 32 = .ok (.iconst (-1), 1) := by decide +kernel
theorem dX9_first_33 : decode cX9_first 33 = .ok (.ireturn, 1) := by decide +kernel
theorem dX9_first_34 : decode cX9_first 34 = .ok (.aload_n 0, 1) := by decide +kernel
theorem dX9_first_35 : decode cX9_first 35 = .ok (.getfield 13, 3) := by decide +kernel
theorem dX9_first_38 : decode cX9_first 38 = .ok (.iconst 1, 1) := by decide +kernel
theorem dX9_first_39 : decode cX9_first 39 = .ok (.if_icmp .ne 7, 3) := by decide +kernel
theorem dX9_first_42 : decode cX9_first 42 = .ok (.iload_n 1, 1) := by decide +kernel
theorem dX9_first_43 : decode cX9_first 43 = .ok (.goto 4, 3) := by decide +kernel
theorem dX9_first_46 : decode cX9_first 46 = .ok (.iload_n 2, 1) := by decide +kernel
theorem dX9_first_47 : decode cX9_first 47 = .ok (.istore 5, 2) := by decide +kernel
theorem dX9_first_49 : decode cX9_first 49 = .ok (.iload_n 1, 1) := by decide +kernel
theorem dX9_first_50 : decode cX9_first 50 = .ok (.iload 5, 2) := by decide +kernel
theorem dX9_first_52 : decode cX9_first 52 = .ok (.if_icmp .ge 7, 3) := by decide +kernel
theorem dX9_first_55 : decode cX9_first 55 = .ok (.iload_n 1, 1) := by decide +kernel
theorem dX9_first_56 : decode cX9_first 56 = .ok (.goto 5, 3) := by decide +kernel
theorem dX9_first_59 : decode cX9_first 59 = .ok (.iload 5, 2) := by decide +kernel
theorem dX9_first_61 : decode cX9_first 61 = .ok (.istore 6, 2) := by decide +kernel
theorem dX9_first_63 : decode cX9_first 63 = .ok (.iload_n 1, 1) := by decide +kernel
theorem dX9_first_64 : decode cX9_first 64 = .ok (.iload 5, 2) := by decide +kernel
theorem dX9_first_66 : decode cX9_first 66 = .ok (.if_icmp .ge 8, 3) := by decide +kernel
theorem dX9_first_69 : decode cX9_first 69 = .ok (.iload 5, 2) := by decide +kernel
theorem dX9_first_71 : decode cX9_first 71 = .ok (.goto 4, 3) := by decide +kernel
theorem dX9_first_74 : decode cX9_first 74 = .ok (.iload_n 1, 1) := by decide +kernel
theorem dX9_first_75 : decode cX9_first 75 = .ok (.istore 7, 2) := by decide +kernel
theorem dX9_first_77 : decode cX9_first 77 = .ok (.iconst 0, 1) := by decide +kernel
theorem dX9_first_78 : decode cX9_first 78 = .ok (.istore 8, 2) := by decide +kernel
theorem dX9_first_80 : decode cX9_first 80 = .ok (.iload 8, 2) := by decide +kernel
theorem dX9_first_82 : decode cX9_first 82 = .ok (.bipush 32, 2) := by decide +kernel
theorem dX9_first_84 : decode cX9_first 84 = .ok (.if_icmp .gt 49, 3) := by decide +kernel
theorem dX9_first_87 : decode cX9_first 87 = .ok (.aload_n 0, 1) := by decide +kernel
theorem dX9_first_88 : decode cX9_first 88 = .ok (.iload 6, 2) := by decide +kernel
theorem dX9_first_90 : decode cX9_first 90 = .ok (.iload 7, 2) := by decide +kernel
theorem dX9_first_92 : decode cX9_first 92 = .ok (.iload 8, 2) := by decide +kernel
theorem dX9_first_94 : decode cX9_first 94 = .ok (.invokevirtual 297, 3) := by decide +kernel
theorem dX9_first_97 : decode cX9_first 97 = .ok (.istore 9, 2) := by decide +kernel
theorem dX9_first_99 : decode cX9_first 99 = .ok (.iload 9, 2) := by decide +kernel
theorem dX9_first_101 : decode cX9_first 101 = .ok (.ifCond .lt 26, 3) := by decide +kernel
theorem dX9_first_104 : decode cX9_first 104 = .ok (.aload_n 0, 1) := by decide +kernel
theorem dX9_first_105 : decode cX9_first 105 = .ok (.iload_n 3, 1) := by decide +kernel
theorem dX9_first_106 : decode cX9_first 106 = .ok (.iload 9, 2) := by decide +kernel
theorem dX9_first_108 : decode cX9_first 108 = .ok (.bipush 8, 2) := by decide +kernel
theorem dX9_first_110 : decode cX9_first 110 = .ok (.idiv, 1) := by decide +kernel
theorem dX9_first_111 : decode cX9_first 111 = .ok (.iload 9, 2) := by decide +kernel
theorem dX9_first_113 : decode cX9_first 113 = .ok (.bipush 8, 2) := by decide +kernel
theorem dX9_first_115 : decode cX9_first 115 = .ok (.irem, 1) := by decide +kernel
theorem dX9_first_116 : decode cX9_first 116 = .ok (.iload 4, 2) := by decide +kernel
theorem dX9_first_118 : decode cX9_first 118 = .ok (.invokevirtual 300, 3) := by decide +kernel
theorem dX9_first_121 : decode cX9_first 121 = .ok (.ifCond .eq 6, 3) := by decide +kernel
theorem dX9_first_124 : decode cX9_first 124 = .ok (.iload 8, 2) := by decide +kernel
theorem dX9_first_126 : decode cX9_first 126 = .ok (.ireturn, 1) := by decide +kernel
theorem dX9_first_127 : decode cX9_first 127 = .ok (.iinc 8 1, 3) := by decide +kernel
theorem dX9_first_130 : decode cX9_first 130 = .ok (.goto (-50), 3) := by decide +kernel
theorem dX9_first_133 : decode cX9_first 133 = .ok (.iconst (-1), 1) := by decide +kernel
theorem dX9_first_134 : decode cX9_first 134 = .ok (.ireturn, 1) := by decide +kernel
theorem dX9_look_0 : decode cX9_look 0 = .ok (.aload_n 0, 1) := by decide +kernel
theorem dX9_look_1 : decode cX9_look 1 = .ok (.aload_n 0, 1) := by decide +kernel
theorem dX9_look_2 : decode cX9_look 2 = .ok (.aload_n 0, 1) := by decide +kernel
theorem dX9_look_3 : decode cX9_look 3 = .ok (.getfield 70, 3) := by decide +kernel
theorem dX9_look_6 : decode cX9_look 6 = .ok (.invokevirtual 195, 3) := by decide +kernel
theorem dX9_look_9 : decode cX9_look 9 = .ok (.aload_n 0, 1) := by decide +kernel
theorem dX9_look_10 : decode cX9_look 10 = .ok (.aload_n 0, 1) := by decide +kernel
theorem dX9_look_11 : decode cX9_look 11 = .ok (.getfield 70, 3) := by decide +kernel
theorem dX9_look_14 : decode cX9_look 14 = .ok (.invokevirtual 198, 3) := by decide +kernel
theorem dX9_look_17 : decode cX9_look 17 = .ok (.invokevirtual 283, 3) := by decide +kernel
theorem dX9_look_20 : decode cX9_look 20 = .ok (.istore_n 1, 1) := by decide +kernel
theorem dX9_look_21 : decode cX9_look 21 = .ok (.aload_n 0, 1) := by decide +kernel
theorem dX9_look_22 : decode cX9_look 22 = .ok (.aload_n 0, 1) := by decide +kernel
theorem dX9_look_23 : decode cX9_look 23 = .ok (.getfield 70, 3) := by decide +kernel
theorem dX9_look_26 : decode cX9_look 26 = .ok (.invokevirtual 201, 3) := by decide +kernel
theorem dX9_look_29 : decode cX9_look 29 = .ok (.istore_n 2, 1) := by decide +kernel
theorem dX9_look_30 : decode cX9_look 30 = .ok (.aload_n 0, 1) := by decide +kernel
theorem dX9_look_31 : decode cX9_look 31 = .ok (.iload_n 1, 1) := by decide +kernel
theorem dX9_look_32 : decode cX9_look 32 = .ok (.iload_n 2, 1) := by decide +kernel
theorem dX9_look_33 : decode cX9_look 33 = .ok (.ishr, 1) := by decide +kernel
theorem dX9_look_34 : decode cX9_look 34 = .ok (.iconst 1, 1) := by decide +kernel
theorem dX9_look_35 : decode cX9_look 35 = .ok (.iand, 1) := by decide +kernel
theorem dX9_look_36 : decode cX9_look 36 = .ok (.iconst 1, 1) := by decide +kernel
theorem dX9_look_37 : decode cX9_look 37 = .ok (.if_icmp .ne 9, 3) := by decide +kernel
theorem dX9_look_40 : decode cX9_look 40 = .ok (.iconst 1, 1) := by decide +kernel
theorem dX9_look_41 : decode cX9_look 41 = .ok (.iload_n 2, 1) := by decide +kernel
theorem dX9_look_42 : decode cX9_look 42 = .ok (.ishl, 1) := by decide +kernel
theorem dX9_look_43 : decode cX9_look 43 = .ok (.goto 11, 3) := by decide +kernel
theorem dX9_look_46 : decode cX9_look 46 = .ok (.aload_n 0, 1) := by decide +kernel
theorem dX9_look_47 : decode cX9_look 47 = .ok (.getfield 73, 3) := by decide +kernel
theorem dX9_look_50 : decode cX9_look 50 = .ok (.iload_n 1, 1) := by decide +kernel
theorem dX9_look_51 : decode cX9_look 51 = .ok (.iconst (-1), 1) := by decide +kernel
theorem dX9_look_52 : decode cX9_look 52 = .ok (.ixor, 1) := by decide +kernel
theorem dX9_look_53 : decode cX9_look 53 = .ok (.iand, 1) := by decide +kernel
theorem dX9_look_54 : decode cX9_look 54 = .ok (.putfield 73, 3) := by decide +kernel
theorem dX9_look_57 : decode cX9_look 57 = .ok (.return_, 1) := by decide +kernel
theorem dX9_start_0 : decode cX9_start 0 = .ok (.aload_n 0, 1) := by decide +kernel
theorem dX9_start_1 : decode cX9_start 1 = .ok (.iload_n 1, 1) := by decide +kernel
theorem dX9_start_2 : decode cX9_start 2 = .ok (.iload_n 2, 1) := by decide +kernel
theorem dX9_start_3 : decode cX9_start 3 = .ok (.iload_n 3, 1) := by decide +kernel
theorem dX9_start_4 : decode cX9_start 4 = .ok (.iconst 0, 1) := by decide +kernel
theorem dX9_start_5 : decode cX9_start 5 = .ok (.iconst 0, 1) := by decide +kernel
theorem dX9_start_6 : decode cX9_start 6 = .ok (.invokevirtual 241, 3) := by decide +kernel
theorem dX9_start_9 : decode cX9_start 9 = .ok (.istore 4, 2) := by decide +kernel
theorem dX9_start_11 : decode cX9_start 11 = .ok (.iload 4, 2) := by decide +kernel
theorem dX9_start_13 : decode cX9_start 13 = .ok (.ifCond .ge 6, 3) := by decide +kernel
theorem dX9_start_16 : decode cX9_start 16 = .ok (.bipush (-2), 2) := by decide +kernel
theorem dX9_start_18 : decode cX9_start 18 = .ok (.ireturn, 1) := by decide +kernel
theorem dX9_start_19 : decode cX9_start 19 = .ok (.aload_n 0, 1) := by decide +kernel
theorem dX9_start_20 : decode cX9_start 20 = .ok (.iload 4, 2) := by decide +kernel
theorem dX9_start_22 : decode cX9_start 22 = .ok (.invokevirtual 235, 3) := by decide +kernel
theorem dX9_start_25 : decode cX9_start 25 = .ok (.ifCond .eq 6, 3) := by decide +kernel
theorem dX9_start_28 : decode cX9_start 28 = .ok (.bipush (-3), 2) := by decide +kernel
theorem dX9_start_30 : decode cX9_start 30 = .ok (.ireturn, 1) := by decide +kernel
theorem dX9_start_31 : decode cX9_start 31 = .ok (.aload_n 0, 1) := by decide +kernel
theorem dX9_start_32 : decode cX9_start 32 = .ok (.iconst 1, 1) := by decide +kernel
theorem dX9_start_33 : decode cX9_start 33 = .ok (.putfield 67, 3) := by decide +kernel
theorem dX9_start_36 : decode cX9_start 36 = .ok (.aload_n 0, 1) := by decide +kernel
theorem dX9_start_37 : decode cX9_start 37 = .ok (.iload 4, 2) := by decide +kernel
theorem dX9_start_39 : decode cX9_start 39 = .ok (.putfield 70, 3) := by decide +kernel
theorem dX9_start_42 : decode cX9_start 42 = .ok (.aload_n 0, 1) := by decide +kernel
theorem dX9_start_43 : decode cX9_start 43 = .ok (.iconst 0, 1) := by decide +kernel
theorem dX9_start_44 : decode cX9_start 44 = .ok (.putfield 76, 3) := by decide +kernel
theorem dX9_start_47 : decode cX9_start 47 = .ok (.aload_n 0, 1) := by decide +kernel
theorem dX9_start_48 : decode cX9_start 48 = .ok (.iconst 0, 1) := by decide +kernel
theorem dX9_start_49 : decode cX9_start 49 = .ok (.putfield 79, 3) := by decide +kernel
theorem dX9_start_52 : decode cX9_start 52 = .ok (.aload_n 0, 1) := by decide +kernel
theorem dX9_start_53 : decode cX9_start 53 = .ok (.iconst 1, 1) := by decide +kernel
theorem dX9_start_54 : decode cX9_start 54 = .ok (.aload_n 0, 1) := by decide +kernel
theorem dX9_start_55 : decode cX9_start 55 = .ok (.getfield 149, 3) := by decide +kernel
theorem dX9_start_58 : decode cX9_start 58 = .ok (.ishl, 1) := by decide +kernel
theorem dX9_start_59 : decode cX9_start 59 = .ok (.iconst 1, 1) := by decide +kernel
theorem dX9_start_60 : decode cX9_start 60 = .ok (.isub, 1) := by decide +kernel
theorem dX9_start_61 : decode cX9_start 61 = .ok (.iconst 1, 1) := by decide +kernel
theorem dX9_start_62 : decode cX9_start 62 = .ok (.aload_n 0, 1) := by decide +kernel
theorem dX9_start_63 : decode cX9_start 63 = .ok (.iload 4, 2) := by decide +kernel
theorem dX9_start_65 : decode cX9_start 65 = .ok (.invokevirtual 195, 3) := by decide +kernel
theorem dX9_start_68 : decode cX9_start 68 = .ok (.ishl, 1) := by decide +kernel
theorem dX9_start_69 : decode cX9_start 69 = .ok (.iconst 1, 1) := by decide +kernel
theorem dX9_start_70 : decode cX9_start 70 = .ok (.aload_n 0, 1) := by decide +kernel
theorem dX9_start_71 : decode cX9_start 71 = .ok (.iload 4, 2) := by decide +kernel
theorem dX9_start_73 : decode cX9_start 73 = .ok (.invokevirtual 198, 3) := by decide +kernel
theorem dX9_start_76 : decode cX9_start 76 = .ok (.ishl, 1) := by decide +kernel
theorem dX9_start_77 : decode cX9_start 77 = .ok (.ior, 1) := by decide +kernel
theorem dX9_start_78 : decode cX9_start 78 = .ok (.iconst (-1), 1) := by decide +kernel
theorem dX9_start_79 : decode cX9_start 79 = .ok (.ixor, 1) := by decide +kernel
theorem dX9_start_80 : decode cX9_start 80 = .ok (.iand, 1) := by decide +kernel
theorem dX9_start_81 : decode cX9_start 81 = .ok (.putfield 73, 3) := by decide +kernel
theorem dX9_start_84 : decode cX9_start 84 = .ok (.aload_n 0, 1) := by decide +kernel
theorem dX9_start_85 : decode cX9_start 85 = .ok (.invokevirtual 322, 3) := by decide +kernel
theorem dX9_start_88 : decode cX9_start 88 = .ok (.aload_n 0, 1) := by decide +kernel
theorem dX9_start_89 : decode cX9_start 89 = .ok (.getfield 73, 3) := by decide +kernel
theorem dX9_start_92 : decode cX9_start 92 = .ok (.ireturn, 1) := by decide +kernel
theorem dX9_turn_0 : decode cX9_turn 0 = .ok (.aload_n 0, 1) := by decide +kernel
theorem dX9_turn_1 : decode cX9_turn 1 = .ok (.getfield 79, 3) := by decide +kernel
theorem dX9_turn_4 : decode cX9_turn 4 = .ok (.bipush 64, 2) := by decide +kernel
theorem dX9_turn_6 : decode cX9_turn 6 = .ok (.if_icmp .ne 55, 3) := by decide +kernel
theorem dX9_turn_9 : decode cX9_turn 9 = .ok (.iconst 0, 1) := by decide +kernel
theorem dX9_turn_10 : decode cX9_turn 10 = .ok (.istore_n 2, 1) := by decide +kernel
theorem dX9_turn_11 : decode cX9_turn 11 = .ok (.iload_n 2, 1) := by decide +kernel
theorem dX9_turn_12 : decode cX9_turn 12 = .ok (.bipush 63, 2) := by decide +kernel
theorem dX9_turn_14 : decode cX9_turn 14 = .ok (.if_icmp .ge 37, 3) := by decide +kernel
theorem dX9_turn_17 : decode cX9_turn 17 = .ok (.aload_n 0, 1) := by decide +kernel
theorem dX9_turn_18 : decode cX9_turn 18 = .ok (.getfield 82, 3) := by decide +kernel
theorem dX9_turn_21 : decode cX9_turn 21 = .ok (.iload_n 2, 1) := by decide +kernel
theorem dX9_turn_22 : decode cX9_turn 22 = .ok (.aload_n 0, 1) := by decide +kernel
theorem dX9_turn_23 : decode cX9_turn 23 = .ok (.getfield 82, 3) := by decide +kernel
theorem dX9_turn_26 : decode cX9_turn 26 = .ok (.iload_n 2, 1) := by decide +kernel
theorem dX9_turn_27 : decode cX9_turn 27 = .ok (.iconst 1, 1) := by decide +kernel
theorem dX9_turn_28 : decode cX9_turn 28 = .ok (.iadd, 1) := by decide +kernel
theorem dX9_turn_29 : decode cX9_turn 29 = .ok (.iaload, 1) := by decide +kernel
theorem dX9_turn_30 : decode cX9_turn 30 = .ok (.iastore, 1) := by decide +kernel
theorem dX9_turn_31 : decode cX9_turn 31 = .ok (.aload_n 0, 1) := by decide +kernel
theorem dX9_turn_32 : decode cX9_turn 32 = .ok (.getfield 85, 3) := by decide +kernel
theorem dX9_turn_35 : decode cX9_turn 35 = .ok (.iload_n 2, 1) := by decide +kernel
theorem dX9_turn_36 : decode cX9_turn 36 = .ok (.aload_n 0, 1) := by decide +kernel
theorem dX9_turn_37 : decode cX9_turn 37 = .ok (.getfield 85, 3) := by decide +kernel
theorem dX9_turn_40 : decode cX9_turn 40 = .ok (.iload_n 2, 1) := by decide +kernel
theorem dX9_turn_41 : decode cX9_turn 41 = .ok (.iconst 1, 1) := by decide +kernel
theorem dX9_turn_42 : decode cX9_turn 42 = .ok (.iadd, 1) := by decide +kernel
theorem dX9_turn_43 : decode cX9_turn 43 = .ok (.iaload, 1) := by decide +kernel
theorem dX9_turn_44 : decode cX9_turn 44 = .ok (.iastore, 1) := by decide +kernel
theorem dX9_turn_45 : decode cX9_turn 45 = .ok (.iinc 2 1, 3) := by decide +kernel
theorem dX9_turn_48 : decode cX9_turn 48 = .ok (.goto (-37), 3) := by decide +kernel
theorem dX9_turn_51 : decode cX9_turn 51 = .ok (.aload_n 0, 1) := by decide +kernel
theorem dX9_turn_52 : decode cX9_turn 52 = .ok (.dup, 1) := by decide +kernel
theorem dX9_turn_53 : decode cX9_turn 53 = .ok (.getfield 79, 3) := by decide +kernel
theorem dX9_turn_56 : decode cX9_turn 56 = .ok (.iconst 1, 1) := by decide +kernel
theorem dX9_turn_57 : decode cX9_turn 57 = .ok (.isub, 1) := by decide +kernel
theorem dX9_turn_58 : decode cX9_turn 58 = .ok (.putfield 79, 3) := by decide +kernel
theorem dX9_turn_61 : decode cX9_turn 61 = .ok (.aload_n 0, 1) := by decide +kernel
theorem dX9_turn_62 : decode cX9_turn 62 = .ok (.getfield 82, 3) := by decide +kernel
theorem dX9_turn_65 : decode cX9_turn 65 = .ok (.aload_n 0, 1) := by decide +kernel
theorem dX9_turn_66 : decode cX9_turn 66 = .ok (.getfield 79, 3) := by decide +kernel
theorem dX9_turn_69 : decode cX9_turn 69 = .ok (.aload_n 0, 1) := by decide +kernel
theorem dX9_turn_70 : decode cX9_turn 70 = .ok (.getfield 70, 3) := by decide +kernel
theorem dX9_turn_73 : decode cX9_turn 73 = .ok (.iastore, 1) := by decide +kernel
theorem dX9_turn_74 : decode cX9_turn 74 = .ok (.aload_n 0, 1) := by decide +kernel
theorem dX9_turn_75 : decode cX9_turn 75 = .ok (.getfield 85, 3) := by decide +kernel
theorem dX9_turn_78 : decode cX9_turn 78 = .ok (.aload_n 0, 1) := by decide +kernel
theorem dX9_turn_79 : decode cX9_turn 79 = .ok (.getfield 79, 3) := by decide +kernel
theorem dX9_turn_82 : decode cX9_turn 82 = .ok (.aload_n 0, 1) := by decide +kernel
theorem dX9_turn_83 : decode cX9_turn 83 = .ok (.getfield 73, 3) := by decide +kernel
theorem dX9_turn_86 : decode cX9_turn 86 = .ok (.iastore, 1) := by decide +kernel
theorem dX9_turn_87 : decode cX9_turn 87 = .ok (.aload_n 0, 1) := by decide +kernel
theorem dX9_turn_88 : decode cX9_turn 88 = .ok (.dup, 1) := by decide +kernel
theorem dX9_turn_89 : decode cX9_turn 89 = .ok (.getfield 79, 3) := by decide +kernel
theorem dX9_turn_92 : decode cX9_turn 92 = .ok (.iconst 1, 1) := by decide +kernel
theorem dX9_turn_93 : decode cX9_turn 93 = .ok (.iadd, 1) := by decide +kernel
theorem dX9_turn_94 : decode cX9_turn 94 = .ok (.putfield 79, 3) := by decide +kernel
theorem dX9_turn_97 : decode cX9_turn 97 = .ok (.aload_n 0, 1) := by decide +kernel
theorem dX9_turn_98 : decode cX9_turn 98 = .ok (.aload_n 0, 1) := by decide +kernel
theorem dX9_turn_99 : decode cX9_turn 99 = .ok (.getfield 70, 3) := by decide +kernel
theorem dX9_turn_102 : decode cX9_turn 102 = .ok (.iload_n 1, 1) := by decide +kernel
theorem dX9_turn_103 : decode cX9_turn 103 = .ok (.invokevirtual 220, 3) := by decide +kernel
theorem dX9_turn_106 : decode cX9_turn 106 = .ok (.istore_n 2, 1) := by decide +kernel
theorem dX9_turn_107 : decode cX9_turn 107 = .ok (.aload_n 0, 1) := by decide +kernel
theorem dX9_turn_108 : decode cX9_turn 108 = .ok (.aload_n 0, 1) := by decide +kernel
theorem dX9_turn_109 : decode cX9_turn 109 = .ok (.getfield 70, 3) := by decide +kernel
theorem dX9_turn_112 : decode cX9_turn 112 = .ok (.invokevirtual 207, 3) := by decide +kernel
theorem dX9_turn_115 : decode cX9_turn 115 = .ok (.iconst 1, 1) := by decide +kernel
theorem dX9_turn_116 : decode cX9_turn 116 = .ok (.if_icmp .ne 42, 3) := by decide +kernel
theorem dX9_turn_119 : decode cX9_turn 119 = .ok (.aload_n 0, 1) := by decide +kernel
theorem dX9_turn_120 : decode cX9_turn 120 = .ok (.aload_n 0, 1) := by decide +kernel
theorem dX9_turn_121 : decode cX9_turn 121 = .ok (.aload_n 0, 1) := by decide +kernel
theorem dX9_turn_122 : decode cX9_turn 122 = .ok (.getfield 73, 3) := by decide +kernel
theorem dX9_turn_125 : decode cX9_turn 125 = .ok (.aload_n 0, 1) := by decide +kernel
theorem dX9_turn_126 : decode cX9_turn 126 = .ok (.aload_n 0, 1) := by decide +kernel
theorem dX9_turn_127 : decode cX9_turn 127 = .ok (.getfield 70, 3) := by decide +kernel
theorem dX9_turn_130 : decode cX9_turn 130 = .ok (.invokevirtual 195, 3) := by decide +kernel
theorem dX9_turn_133 : decode cX9_turn 133 = .ok (.aload_n 0, 1) := by decide +kernel
theorem dX9_turn_134 : decode cX9_turn 134 = .ok (.aload_n 0, 1) := by decide +kernel
theorem dX9_turn_135 : decode cX9_turn 135 = .ok (.getfield 70, 3) := by decide +kernel
theorem dX9_turn_138 : decode cX9_turn 138 = .ok (.invokevirtual 198, 3) := by decide +kernel
theorem dX9_turn_141 : decode cX9_turn 141 = .ok (.aload_n 0, 1) := by decide +kernel
theorem dX9_turn_142 : decode cX9_turn 142 = .ok (.aload_n 0, 1) := by decide +kernel
theorem dX9_turn_143 : decode cX9_turn 143 = .ok (.getfield 70, 3) := by decide +kernel
theorem dX9_turn_146 : decode cX9_turn 146 = .ok (.invokevirtual 204, 3) := by decide +kernel
theorem dX9_turn_149 : decode cX9_turn 149 = .ok (.invokevirtual 303, 3) := by decide +kernel
theorem dX9_turn_152 : decode cX9_turn 152 = .ok (.putfield 73, 3) := by decide +kernel
theorem dX9_turn_155 : decode cX9_turn 155 = .ok (.goto 29, 3) := by decide +kernel
theorem dX9_turn_158 : decode cX9_turn 158 = .ok (.aload_n 0, 1) := by decide +kernel
theorem dX9_turn_159 : decode cX9_turn 159 = .ok (.dup, 1) := by decide +kernel
theorem dX9_turn_160 : decode cX9_turn 160 = .ok (.getfield 73, 3) := by decide +kernel
theorem dX9_turn_163 : decode cX9_turn 163 = .ok (.iconst 1, 1) := by decide +kernel
theorem dX9_turn_164 : decode cX9_turn 164 = .ok (.aload_n 0, 1) := by decide +kernel
theorem dX9_turn_165 : decode cX9_turn 165 = .ok (.iload_n 2, 1) := by decide +kernel
theorem dX9_turn_166 : decode cX9_turn 166 = .ok (.invokevirtual 195, 3) := by decide +kernel
theorem dX9_turn_169 : decode cX9_turn 169 = .ok (.ishl, 1) := by decide +kernel
theorem dX9_turn_170 : decode cX9_turn 170 = .ok (.iconst 1, 1) := by decide +kernel
theorem dX9_turn_171 : decode cX9_turn 171 = .ok (.aload_n 0, 1) := by decide +kernel
theorem dX9_turn_172 : decode cX9_turn 172 = .ok (.iload_n 2, 1) := by decide +kernel
theorem dX9_turn_173 : decode cX9_turn 173 = .ok (.invokevirtual 198, 3) := by decide +kernel
theorem dX9_turn_176 : decode cX9_turn 176 = .ok (.ishl, 1) := by decide +kernel
theorem dX9_turn_177 : decode cX9_turn 177 = .ok (.ior, 1) := by decide +kernel
theorem dX9_turn_178 : decode cX9_turn 178 = .ok (.iconst (-1), 1) := by decide +kernel
theorem dX9_turn_179 : decode cX9_turn 179 = .ok (.ixor, 1) := by decide +kernel
theorem dX9_turn_180 : decode cX9_turn 180 = .ok (.iand, 1) := by decide +kernel
theorem dX9_turn_181 : decode cX9_turn 181 = .ok (.putfield 73, 3) := by decide +kernel
theorem dX9_turn_184 : decode cX9_turn 184 = .ok (.aload_n 0, 1) := by decide +kernel
theorem dX9_turn_185 : decode cX9_turn 185 = .ok (.iload_n 2, 1) := by decide +kernel
theorem dX9_turn_186 : decode cX9_turn 186 = .ok (.putfield 70, 3) := by decide +kernel
theorem dX9_turn_189 : decode cX9_turn 189 = .ok (.aload_n 0, 1) := by decide +kernel
theorem dX9_turn_190 : decode cX9_turn 190 = .ok (.dup, 1) := by decide +kernel
theorem dX9_turn_191 : decode cX9_turn 191 = .ok (.getfield 76, 3) := by decide +kernel
theorem dX9_turn_194 : decode cX9_turn 194 = .ok (.iconst 1, 1) := by decide +kernel
theorem dX9_turn_195 : decode cX9_turn 195 = .ok (.iadd, 1) := by decide +kernel
theorem dX9_turn_196 : decode cX9_turn 196 = .ok (.putfield 76, 3) := by decide +kernel
theorem dX9_turn_199 : decode cX9_turn 199 = .ok (.aload_n 0, 1) := by decide +kernel
theorem dX9_turn_200 : decode cX9_turn 200 = .ok (.invokevirtual 322, 3) := by decide +kernel
theorem dX9_turn_203 : decode cX9_turn 203 = .ok (.return_, 1) := by decide +kernel
theorem dX9_move_0 : decode cX9_move 0 = .ok (.aload_n 0, 1) := by decide +kernel
theorem dX9_move_1 : decode cX9_move 1 = .ok (.iload_n 1, 1) := by decide +kernel
theorem dX9_move_2 : decode cX9_move 2 = .ok (.iconst 0, 1) := by decide +kernel
theorem dX9_move_3 : decode cX9_move 3 = .ok (.bipush 32, 2) := by decide +kernel
theorem dX9_move_5 : decode cX9_move 5 = .ok (.invokevirtual 155, 3) := by decide +kernel
theorem dX9_move_8 : decode cX9_move 8 = .ok (.ifCond .ne 6, 3) := by decide +kernel
theorem dX9_move_11 : decode cX9_move 11 = .ok (.bipush (-2), 2) := by decide +kernel
theorem dX9_move_13 : decode cX9_move 13 = .ok (.ireturn, 1) := by decide +kernel
theorem dX9_move_14 : decode cX9_move 14 = .ok (.aload_n 0, 1) := by decide +kernel
theorem dX9_move_15 : decode cX9_move 15 = .ok (.getfield 67, 3) := by decide +kernel
theorem dX9_move_18 : decode cX9_move 18 = .ok (.ifCond .eq 44, 3) := by decide +kernel
theorem dX9_move_21 : decode cX9_move 21 = .ok (.aload_n 0, 1) := by decide +kernel
theorem dX9_move_22 : decode cX9_move 22 = .ok (.aload_n 0, 1) := by decide +kernel
theorem dX9_move_23 : decode cX9_move 23 = .ok (.getfield 70, 3) := by decide +kernel
theorem dX9_move_26 : decode cX9_move 26 = .ok (.invokevirtual 235, 3) := by decide +kernel
theorem dX9_move_29 : decode cX9_move 29 = .ok (.ifCond .ne 33, 3) := by decide +kernel
theorem dX9_move_32 : decode cX9_move 32 = .ok (.iload_n 1, 1) := by decide +kernel
theorem dX9_move_33 : decode cX9_move 33 = .ok (.bipush 16, 2) := by decide +kernel
theorem dX9_move_35 : decode cX9_move 35 = .ok (.if_icmp .le 15, 3) := by decide +kernel
theorem dX9_move_38 : decode cX9_move 38 = .ok (.aload_n 0, 1) := by decide +kernel
theorem dX9_move_39 : decode cX9_move 39 = .ok (.aload_n 0, 1) := by decide +kernel
theorem dX9_move_40 : decode cX9_move 40 = .ok (.getfield 70, 3) := by decide +kernel
theorem dX9_move_43 : decode cX9_move 43 = .ok (.invokevirtual 207, 3) := by decide +kernel
theorem dX9_move_46 : decode cX9_move 46 = .ok (.iconst 1, 1) := by decide +kernel
theorem dX9_move_47 : decode cX9_move 47 = .ok (.if_icmp .eq 15, 3) := by decide +kernel
theorem dX9_move_50 : decode cX9_move 50 = .ok (.aload_n 0, 1) := by decide +kernel
theorem dX9_move_51 : decode cX9_move 51 = .ok (.aload_n 0, 1) := by decide +kernel
theorem dX9_move_52 : decode cX9_move 52 = .ok (.getfield 70, 3) := by decide +kernel
theorem dX9_move_55 : decode cX9_move 55 = .ok (.iload_n 1, 1) := by decide +kernel
theorem dX9_move_56 : decode cX9_move 56 = .ok (.invokevirtual 220, 3) := by decide +kernel
theorem dX9_move_59 : decode cX9_move 59 = .ok (.ifCond .ge 6, 3) := by decide +kernel
theorem dX9_move_62 : decode cX9_move 62 = .ok (.bipush (-3), 2) := by decide +kernel
theorem dX9_move_64 : decode cX9_move 64 = .ok (.ireturn, 1) := by decide +kernel
theorem dX9_move_65 : decode cX9_move 65 = .ok (.aload_n 0, 1) := by decide +kernel
theorem dX9_move_66 : decode cX9_move 66 = .ok (.iload_n 1, 1) := by decide +kernel
theorem dX9_move_67 : decode cX9_move 67 = .ok (.invokevirtual 325, 3) := by decide +kernel
theorem dX9_move_70 : decode cX9_move 70 = .ok (.aload_n 0, 1) := by decide +kernel
theorem dX9_move_71 : decode cX9_move 71 = .ok (.getfield 73, 3) := by decide +kernel
theorem dX9_move_74 : decode cX9_move 74 = .ok (.ireturn, 1) := by decide +kernel
theorem dX9_play_0 : decode cX9_play 0 = .ok (.aload_n 0, 1) := by decide +kernel
theorem dX9_play_1 : decode cX9_play 1 = .ok (.iload_n 1, 1) := by decide +kernel
theorem dX9_play_2 : decode cX9_play 2 = .ok (.iconst 1, 1) := by decide +kernel
theorem dX9_play_3 : decode cX9_play 3 = .ok (.bipush 40, 2) := by decide +kernel
theorem dX9_play_5 : decode cX9_play 5 = .ok (.invokevirtual 155, 3) := by decide +kernel
theorem dX9_play_8 : decode cX9_play 8 = .ok (.ifCond .ne 6, 3) := by decide +kernel
theorem dX9_play_11 : decode cX9_play 11 = .ok (.bipush (-2), 2) := by decide +kernel
theorem dX9_play_13 : decode cX9_play 13 = .ok (.ireturn, 1) := by decide +kernel
theorem dX9_play_14 : decode cX9_play 14 = .ok (.aload_n 0, 1) := by decide +kernel
theorem dX9_play_15 : decode cX9_play 15 = .ok (.getfield 67, 3) := by decide +kernel
theorem dX9_play_18 : decode cX9_play 18 = .ok (.ifCond .ne 6, 3) := by decide +kernel
theorem dX9_play_21 : decode cX9_play 21 = .ok (.bipush (-3), 2) := by decide +kernel
theorem dX9_play_23 : decode cX9_play 23 = .ok (.ireturn, 1) := by decide +kernel
theorem dX9_play_24 : decode cX9_play 24 = .ok (.iconst 0, 1) := by decide +kernel
theorem dX9_play_25 : decode cX9_play 25 = .ok (.istore_n 2, 1) := by decide +kernel
theorem dX9_play_26 : decode cX9_play 26 = .ok (.iload_n 2, 1) := by decide +kernel
theorem dX9_play_27 : decode cX9_play 27 = .ok (.iload_n 1, 1) := by decide +kernel
theorem dX9_play_28 : decode cX9_play 28 = .ok (.if_icmp .ge 32, 3) := by decide +kernel
theorem dX9_play_31 : decode cX9_play 31 = .ok (.aload_n 0, 1) := by decide +kernel
theorem dX9_play_32 : decode cX9_play 32 = .ok (.aload_n 0, 1) := by decide +kernel
theorem dX9_play_33 : decode cX9_play 33 = .ok (.getfield 70, 3) := by decide +kernel
theorem dX9_play_36 : decode cX9_play 36 = .ok (.invokevirtual 235, 3) := by decide +kernel
theorem dX9_play_39 : decode cX9_play 39 = .ok (.ifCond .ne 21, 3) := by decide +kernel
theorem dX9_play_42 : decode cX9_play 42 = .ok (.aload_n 0, 1) := by decide +kernel
theorem dX9_play_43 : decode cX9_play 43 = .ok (.aload_n 0, 1) := by decide +kernel
theorem dX9_play_44 : decode cX9_play 44 = .ok (.aload_n 0, 1) := by decide +kernel
theorem dX9_play_45 : decode cX9_play 45 = .ok (.getfield 70, 3) := by decide +kernel
theorem dX9_play_48 : decode cX9_play 48 = .ok (.invokevirtual 248, 3) := by decide +kernel
theorem dX9_play_51 : decode cX9_play 51 = .ok (.invokevirtual 325, 3) := by decide +kernel
theorem dX9_play_54 : decode cX9_play 54 = .ok (.iinc 2 1, 3) := by decide +kernel
theorem dX9_play_57 : decode cX9_play 57 = .ok (.goto (-31), 3) := by decide +kernel
theorem dX9_play_60 : decode cX9_play 60 = .ok (.iload_n 2, 1) := by decide +kernel
theorem dX9_play_61 : decode cX9_play 61 = .ok (.ireturn, 1) := by decide +kernel
theorem dX9_back_0 : decode cX9_back 0 = .ok (.aload_n 0, 1) := by decide +kernel
theorem dX9_back_1 : decode cX9_back 1 = .ok (.getfield 67, 3) := by decide +kernel
theorem dX9_back_4 : decode cX9_back 4 = .ok (.ifCond .eq 10, 3) := by decide +kernel
theorem dX9_back_7 : decode cX9_back 7 = .ok (.aload_n 0, 1) := by decide +kernel
theorem dX9_back_8 : decode cX9_back 8 = .ok (.getfield 79, 3) := by decide +kernel
theorem dX9_back_11 : decode cX9_back 11 = .ok (.ifCond .ne 6, 3) := by decide +kernel
theorem dX9_back_14 : decode cX9_back 14 = .ok (.bipush (-3), 2) := by decide +kernel
theorem dX9_back_16 : decode cX9_back 16 = .ok (.ireturn, 1) := by decide +kernel
theorem dX9_back_17 : decode cX9_back 17 = .ok (.aload_n 0, 1) := by decide +kernel
theorem dX9_back_18 : decode cX9_back 18 = .ok (.dup, 1) := by decide +kernel
theorem dX9_back_19 : decode cX9_back 19 = .ok (.getfield 79, 3) := by decide +kernel
theorem dX9_back_22 : decode cX9_back 22 = .ok (.iconst 1, 1) := by decide +kernel
theorem dX9_back_23 : decode cX9_back 23 = .ok (.isub, 1) := by decide +kernel
theorem dX9_back_24 : decode cX9_back 24 = .ok (.putfield 79, 3) := by decide +kernel
theorem dX9_back_27 : decode cX9_back 27 = .ok (.aload_n 0, 1) := by decide +kernel
theorem dX9_back_28 : decode cX9_back 28 = .ok (.aload_n 0, 1) := by decide +kernel
theorem dX9_back_29 : decode cX9_back 29 = .ok (.getfield 82, 3) := by decide +kernel
theorem dX9_back_32 : decode cX9_back 32 = .ok (.aload_n 0, 1) := by decide +kernel
theorem dX9_back_33 : decode cX9_back 33 = .ok (.getfield 79, 3) := by decide +kernel
theorem dX9_back_36 : decode cX9_back 36 = .ok (.iaload, 1) := by decide +kernel
theorem dX9_back_37 : decode cX9_back 37 = .ok (.putfield 70, 3) := by decide +kernel
theorem dX9_back_40 : decode cX9_back 40 = .ok (.aload_n 0, 1) := by decide +kernel
theorem dX9_back_41 : decode cX9_back 41 = .ok (.aload_n 0, 1) := by decide +kernel
theorem dX9_back_42 : decode cX9_back 42 = .ok (.getfield 85, 3) := by decide +kernel
theorem dX9_back_45 : decode cX9_back 45 = .ok (.aload_n 0, 1) := by decide +kernel
theorem dX9_back_46 : decode cX9_back 46 = .ok (.getfield 79, 3) := by decide +kernel
theorem dX9_back_49 : decode cX9_back 49 = .ok (.iaload, 1) := by decide +kernel
theorem dX9_back_50 : decode cX9_back 50 = .ok (.putfield 73, 3) := by decide +kernel
theorem dX9_back_53 : decode cX9_back 53 = .ok (.aload_n 0, 1) := by decide +kernel
theorem dX9_back_54 : decode cX9_back 54 = .ok (.dup, 1) := by decide +kernel
theorem dX9_back_55 : decode cX9_back 55 = .ok (.getfield 76, 3) := by decide +kernel
theorem dX9_back_58 : decode cX9_back 58 = .ok (.iconst 1, 1) := by decide +kernel
theorem dX9_back_59 : decode cX9_back 59 = .ok (.isub, 1) := by decide +kernel
theorem dX9_back_60 : decode cX9_back 60 = .ok (.putfield 76, 3) := by decide +kernel
theorem dX9_back_63 : decode cX9_back 63 = .ok (.aload_n 0, 1) := by decide +kernel
theorem dX9_back_64 : decode cX9_back 64 = .ok (.getfield 76, 3) := by decide +kernel
theorem dX9_back_67 : decode cX9_back 67 = .ok (.ireturn, 1) := by decide +kernel
theorem dX9_told_0 : decode cX9_told 0 = .ok (.aload_n 0, 1) := by decide +kernel
theorem dX9_told_1 : decode cX9_told 1 = .ok (.iload_n 1, 1) := by decide +kernel
theorem dX9_told_2 : decode cX9_told 2 = .ok (.iconst 0, 1) := by decide +kernel
theorem dX9_told_3 : decode cX9_told 3 = .ok (.bipush 8, 2) := by decide +kernel
theorem dX9_told_5 : decode cX9_told 5 = .ok (.invokevirtual 155, 3) := by decide +kernel
theorem dX9_told_8 : decode cX9_told 8 = .ok (.ifCond .ne 6, 3) := by decide +kernel
theorem dX9_told_11 : decode cX9_told 11 = .ok (.bipush (-2), 2) := by decide +kernel
theorem dX9_told_13 : decode cX9_told 13 = .ok (.ireturn, 1) := by decide +kernel
theorem dX9_told_14 : decode cX9_told 14 = .ok (.aload_n 0, 1) := by decide +kernel
theorem dX9_told_15 : decode cX9_told 15 = .ok (.getfield 67, 3) := by decide +kernel
theorem dX9_told_18 : decode cX9_told 18 = .ok (.ifCond .ne 6, 3) := by decide +kernel
theorem dX9_told_21 : decode cX9_told 21 = .ok (.bipush (-3), 2) := by decide +kernel
theorem dX9_told_23 : decode cX9_told 23 = .ok (.ireturn, 1) := by decide +kernel
theorem dX9_told_24 : decode cX9_told 24 = .ok (.aload_n 0, 1) := by decide +kernel
theorem dX9_told_25 : decode cX9_told 25 = .ok (.invokevirtual 244, 3) := by decide +kernel
theorem dX9_told_28 : decode cX9_told 28 = .ok (.iload_n 1, 1) := by decide +kernel
theorem dX9_told_29 : decode cX9_told 29 = .ok (.tableswitch 119 0 7 #[47, 56, 65, 74, 83, 92, 97, 102], 47) := by decide +kernel
theorem dX9_told_76 : decode cX9_told 76 = .ok (.aload_n 0, 1) := by decide +kernel
theorem dX9_told_77 : decode cX9_told 77 = .ok (.aload_n 0, 1) := by decide +kernel
theorem dX9_told_78 : decode cX9_told 78 = .ok (.getfield 70, 3) := by decide +kernel
theorem dX9_told_81 : decode cX9_told 81 = .ok (.invokevirtual 195, 3) := by decide +kernel
theorem dX9_told_84 : decode cX9_told 84 = .ok (.ireturn, 1) := by decide +kernel
theorem dX9_told_85 : decode cX9_told 85 = .ok (.aload_n 0, 1) := by decide +kernel
theorem dX9_told_86 : decode cX9_told 86 = .ok (.aload_n 0, 1) := by decide +kernel
theorem dX9_told_87 : decode cX9_told 87 = .ok (.getfield 70, 3) := by decide +kernel
theorem dX9_told_90 : decode cX9_told 90 = .ok (.invokevirtual 198, 3) := by decide +kernel
theorem dX9_told_93 : decode cX9_told 93 = .ok (.ireturn, 1) := by decide +kernel
theorem dX9_told_94 : decode cX9_told 94 = .ok (.aload_n 0, 1) := by decide +kernel
theorem dX9_told_95 : decode cX9_told 95 = .ok (.aload_n 0, 1) := by decide +kernel
theorem dX9_told_96 : decode cX9_told 96 = .ok (.getfield 70, 3) := by decide +kernel
theorem dX9_told_99 : decode cX9_told 99 = .ok (.invokevirtual 201, 3) := by decide +kernel
theorem dX9_told_102 : decode cX9_told 102 = .ok (.ireturn, 1) := by decide +kernel
theorem dX9_told_103 : decode cX9_told 103 = .ok (.aload_n 0, 1) := by decide +kernel
theorem dX9_told_104 : decode cX9_told 104 = .ok (.aload_n 0, 1) := by decide +kernel
theorem dX9_told_105 : decode cX9_told 105 = .ok (.getfield 70, 3) := by decide +kernel
theorem dX9_told_108 : decode cX9_told 108 = .ok (.invokevirtual 207, 3) := by decide +kernel
theorem dX9_told_111 : decode cX9_told 111 = .ok (.ireturn, 1) := by decide +kernel
theorem dX9_told_112 : decode cX9_told 112 = .ok (.aload_n 0, 1) := by decide +kernel
theorem dX9_told_113 : decode cX9_told 113 = .ok (.aload_n 0, 1) := by decide +kernel
theorem dX9_told_114 : decode cX9_told 114 = .ok (.getfield 70, 3) := by decide +kernel
theorem dX9_told_117 : decode cX9_told 117 = .ok (.invokevirtual 204, 3) := by decide +kernel
theorem dX9_told_120 : decode cX9_told 120 = .ok (.ireturn, 1) := by decide +kernel
theorem dX9_told_121 : decode cX9_told 121 = .ok (.aload_n 0, 1) := by decide +kernel
theorem dX9_told_122 : decode cX9_told 122 = .ok (.getfield 73, 3) := by decide +kernel
theorem dX9_told_125 : decode cX9_told 125 = .ok (.ireturn, 1) := by decide +kernel
theorem dX9_told_126 : decode cX9_told 126 = .ok (.aload_n 0, 1) := by decide +kernel
theorem dX9_told_127 : decode cX9_told 127 = .ok (.getfield 76, 3) := by decide +kernel
theorem dX9_told_130 : decode cX9_told 130 = .ok (.ireturn, 1) := by decide +kernel
theorem dX9_told_131 : decode cX9_told 131 = .ok (.aload_n 0, 1) := by decide +kernel
theorem dX9_told_132 : decode cX9_told 132 = .ok (.aload_n 0, 1) := by decide +kernel
theorem dX9_told_133 : decode cX9_told 133 = .ok (.getfield 70, 3) := by decide +kernel
theorem dX9_told_136 : decode cX9_told 136 = .ok (.invokevirtual 235, 3) := by decide +kernel
theorem dX9_told_139 : decode cX9_told 139 = .ok (.ifCond .eq 7, 3) := by decide +kernel
theorem dX9_told_142 : decode cX9_told 142 = .ok (.iconst 1, 1) := by decide +kernel
theorem dX9_told_143 : decode cX9_told 143 = .ok (.goto 4, 3) := by decide +kernel
theorem dX9_told_146 : decode cX9_told 146 = .ok (.iconst 0, 1) := by decide +kernel
theorem dX9_told_147 : decode cX9_told 147 = .ok (.ireturn, 1) := by decide +kernel
theorem dX9_told_148 : decode cX9_told 148 = .ok (.aload_n 0, 1) := by decide +kernel
theorem dX9_told_149 : decode cX9_told 149 = .ok (.getfield 40, 3) := by decide +kernel
theorem dX9_told_152 : decode cX9_told 152 = .ok (.aload_n 0, 1) := by decide +kernel
theorem dX9_told_153 : decode cX9_told 153 = .ok (.getfield 70, 3) := by decide +kernel
theorem dX9_told_156 : decode cX9_told 156 = .ok (.iaload, 1) := by decide +kernel
theorem dX9_told_157 : decode cX9_told 157 = .ok (.ireturn, 1) := by decide +kernel
theorem dX9_ruleZero_0 : decode cX9_ruleZero 0 = .ok (.aload_n 0, 1) := by decide +kernel
theorem dX9_ruleZero_1 : decode cX9_ruleZero 1 = .ok (.getfield 101, 3) := by decide +kernel
theorem dX9_ruleZero_4 : decode cX9_ruleZero 4 = .ok (.iconst 0, 1) := by decide +kernel
theorem dX9_ruleZero_5 : decode cX9_ruleZero 5 = .ok (.iconst 5, 1) := by decide +kernel
theorem dX9_ruleZero_6 : decode cX9_ruleZero 6 = .ok (.iastore, 1) := by decide +kernel
theorem dX9_ruleZero_7 : decode cX9_ruleZero 7 = .ok (.aload_n 0, 1) := by decide +kernel
theorem dX9_ruleZero_8 : decode cX9_ruleZero 8 = .ok (.getfield 104, 3) := by decide +kernel
theorem dX9_ruleZero_11 : decode cX9_ruleZero 11 = .ok (.iconst 0, 1) := by decide +kernel
theorem dX9_ruleZero_12 : decode cX9_ruleZero 12 = .ok (.sipush 10002, 3) := by decide +kernel
theorem dX9_ruleZero_15 : decode cX9_ruleZero 15 = .ok (.iastore, 1) := by decide +kernel
theorem dX9_ruleZero_16 : decode cX9_ruleZero 16 = .ok (.aload_n 0, 1) := by decide +kernel
theorem dX9_ruleZero_17 : decode cX9_ruleZero 17 = .ok (.getfield 104, 3) := by decide +kernel
theorem dX9_ruleZero_20 : decode cX9_ruleZero 20 = .ok (.iconst 1, 1) := by decide +kernel
theorem dX9_ruleZero_21 : decode cX9_ruleZero 21 = .ok (.bipush 10, 2) := by decide +kernel
theorem dX9_ruleZero_23 : decode cX9_ruleZero 23 = .ok (.iastore, 1) := by decide +kernel
theorem dX9_ruleZero_24 : decode cX9_ruleZero 24 = .ok (.aload_n 0, 1) := by decide +kernel
theorem dX9_ruleZero_25 : decode cX9_ruleZero 25 = .ok (.getfield 104, 3) := by decide +kernel
theorem dX9_ruleZero_28 : decode cX9_ruleZero 28 = .ok (.iconst 2, 1) := by decide +kernel
theorem dX9_ruleZero_29 : decode cX9_ruleZero 29 = .ok (.bipush (-8), 2) := by decide +kernel
theorem dX9_ruleZero_31 : decode cX9_ruleZero 31 = .ok (.iastore, 1) := by decide +kernel
theorem dX9_ruleZero_32 : decode cX9_ruleZero 32 = .ok (.aload_n 0, 1) := by decide +kernel
theorem dX9_ruleZero_33 : decode cX9_ruleZero 33 = .ok (.getfield 104, 3) := by decide +kernel
theorem dX9_ruleZero_36 : decode cX9_ruleZero 36 = .ok (.iconst 3, 1) := by decide +kernel
theorem dX9_ruleZero_37 : decode cX9_ruleZero 37 = .ok (.sipush 10003, 3) := by decide +kernel
theorem dX9_ruleZero_40 : decode cX9_ruleZero 40 = .ok (.iastore, 1) := by decide +kernel
theorem dX9_ruleZero_41 : decode cX9_ruleZero 41 = .ok (.aload_n 0, 1) := by decide +kernel
theorem dX9_ruleZero_42 : decode cX9_ruleZero 42 = .ok (.getfield 104, 3) := by decide +kernel
theorem dX9_ruleZero_45 : decode cX9_ruleZero 45 = .ok (.iconst 4, 1) := by decide +kernel
theorem dX9_ruleZero_46 : decode cX9_ruleZero 46 = .ok (.bipush (-6), 2) := by decide +kernel
theorem dX9_ruleZero_48 : decode cX9_ruleZero 48 = .ok (.iastore, 1) := by decide +kernel
theorem dX9_ruleZero_49 : decode cX9_ruleZero 49 = .ok (.aload_n 0, 1) := by decide +kernel
theorem dX9_ruleZero_50 : decode cX9_ruleZero 50 = .ok (.getfield 101, 3) := by decide +kernel
theorem dX9_ruleZero_53 : decode cX9_ruleZero 53 = .ok (.iconst 1, 1) := by decide +kernel
theorem dX9_ruleZero_54 : decode cX9_ruleZero 54 = .ok (.iconst 5, 1) := by decide +kernel
theorem dX9_ruleZero_55 : decode cX9_ruleZero 55 = .ok (.iastore, 1) := by decide +kernel
theorem dX9_ruleZero_56 : decode cX9_ruleZero 56 = .ok (.aload_n 0, 1) := by decide +kernel
theorem dX9_ruleZero_57 : decode cX9_ruleZero 57 = .ok (.getfield 104, 3) := by decide +kernel
theorem dX9_ruleZero_60 : decode cX9_ruleZero 60 = .ok (.bipush 120, 2) := by decide +kernel
theorem dX9_ruleZero_62 : decode cX9_ruleZero 62 = .ok (.sipush 10000, 3) := by decide +kernel
theorem dX9_ruleZero_65 : decode cX9_ruleZero 65 = .ok (.iastore, 1) := by decide +kernel
theorem dX9_ruleZero_66 : decode cX9_ruleZero 66 = .ok (.aload_n 0, 1) := by decide +kernel
theorem dX9_ruleZero_67 : decode cX9_ruleZero 67 = .ok (.getfield 104, 3) := by decide +kernel
theorem dX9_ruleZero_70 : decode cX9_ruleZero 70 = .ok (.bipush 121, 2) := by decide +kernel
theorem dX9_ruleZero_72 : decode cX9_ruleZero 72 = .ok (.iconst 2, 1) := by decide +kernel
theorem dX9_ruleZero_73 : decode cX9_ruleZero 73 = .ok (.iastore, 1) := by decide +kernel
theorem dX9_ruleZero_74 : decode cX9_ruleZero 74 = .ok (.aload_n 0, 1) := by decide +kernel
theorem dX9_ruleZero_75 : decode cX9_ruleZero 75 = .ok (.getfield 104, 3) := by decide +kernel
theorem dX9_ruleZero_78 : decode cX9_ruleZero 78 = .ok (.bipush 122, 2) := by decide +kernel
theorem dX9_ruleZero_80 : decode cX9_ruleZero 80 = .ok (.bipush (-8), 2) := by decide +kernel
theorem dX9_ruleZero_82 : decode cX9_ruleZero 82 = .ok (.iastore, 1) := by decide +kernel
theorem dX9_ruleZero_83 : decode cX9_ruleZero 83 = .ok (.aload_n 0, 1) := by decide +kernel
theorem dX9_ruleZero_84 : decode cX9_ruleZero 84 = .ok (.getfield 104, 3) := by decide +kernel
theorem dX9_ruleZero_87 : decode cX9_ruleZero 87 = .ok (.bipush 123, 2) := by decide +kernel
theorem dX9_ruleZero_89 : decode cX9_ruleZero 89 = .ok (.sipush 10001, 3) := by decide +kernel
theorem dX9_ruleZero_92 : decode cX9_ruleZero 92 = .ok (.iastore, 1) := by decide +kernel
theorem dX9_ruleZero_93 : decode cX9_ruleZero 93 = .ok (.aload_n 0, 1) := by decide +kernel
theorem dX9_ruleZero_94 : decode cX9_ruleZero 94 = .ok (.getfield 104, 3) := by decide +kernel
theorem dX9_ruleZero_97 : decode cX9_ruleZero 97 = .ok (.bipush 124, 2) := by decide +kernel
theorem dX9_ruleZero_99 : decode cX9_ruleZero 99 = .ok (.bipush (-5), 2) := by decide +kernel
theorem dX9_ruleZero_101 : decode cX9_ruleZero 101 = .ok (.iastore, 1) := by decide +kernel
theorem dX9_ruleZero_102 : decode cX9_ruleZero 102 = .ok (.return_, 1) := by decide +kernel
theorem dX9_feed_0 : decode cX9_feed 0 = .ok (.aload_n 0, 1) := by decide +kernel
theorem dX9_feed_1 : decode cX9_feed 1 = .ok (.iload_n 1, 1) := by decide +kernel
theorem dX9_feed_2 : decode cX9_feed 2 = .ok (.iconst 1, 1) := by decide +kernel
theorem dX9_feed_3 : decode cX9_feed 3 = .ok (.bipush 8, 2) := by decide +kernel
theorem dX9_feed_5 : decode cX9_feed 5 = .ok (.invokevirtual 155, 3) := by decide +kernel
theorem dX9_feed_8 : decode cX9_feed 8 = .ok (.ifCond .ne 6, 3) := by decide +kernel
theorem dX9_feed_11 : decode cX9_feed 11 = .ok (.bipush (-2), 2) := by decide +kernel
theorem dX9_feed_13 : decode cX9_feed 13 = .ok (.ireturn, 1) := by decide +kernel
theorem dX9_feed_14 : decode cX9_feed 14 = .ok (.aload_n 0, 1) := by decide +kernel
theorem dX9_feed_15 : decode cX9_feed 15 = .ok (.getfield 92, 3) := by decide +kernel
theorem dX9_feed_18 : decode cX9_feed 18 = .ok (.iload_n 1, 1) := by decide +kernel
theorem dX9_feed_19 : decode cX9_feed 19 = .ok (.iadd, 1) := by decide +kernel
theorem dX9_feed_20 : decode cX9_feed 20 = .ok (.bipush 120, 2) := by decide +kernel
theorem dX9_feed_22 : decode cX9_feed 22 = .ok (.if_icmp .le 6, 3) := by decide +kernel
theorem dX9_feed_25 : decode cX9_feed 25 = .ok (.bipush (-4), 2) := by decide +kernel
theorem dX9_feed_27 : decode cX9_feed 27 = .ok (.ireturn, 1) := by decide +kernel
theorem dX9_feed_28 : decode cX9_feed 28 = .ok (.iconst 0, 1) := by decide +kernel
theorem dX9_feed_29 : decode cX9_feed 29 = .ok (.istore 4, 2) := by decide +kernel
theorem dX9_feed_31 : decode cX9_feed 31 = .ok (.iload 4, 2) := by decide +kernel
theorem dX9_feed_33 : decode cX9_feed 33 = .ok (.iload_n 1, 1) := by decide +kernel
theorem dX9_feed_34 : decode cX9_feed 34 = .ok (.if_icmp .ge 37, 3) := by decide +kernel
theorem dX9_feed_37 : decode cX9_feed 37 = .ok (.aload_n 0, 1) := by decide +kernel
theorem dX9_feed_38 : decode cX9_feed 38 = .ok (.getfield 88, 3) := by decide +kernel
theorem dX9_feed_41 : decode cX9_feed 41 = .ok (.aload_n 0, 1) := by decide +kernel
theorem dX9_feed_42 : decode cX9_feed 42 = .ok (.getfield 92, 3) := by decide +kernel
theorem dX9_feed_45 : decode cX9_feed 45 = .ok (.lload_n 2, 1) := by decide +kernel
theorem dX9_feed_46 : decode cX9_feed 46 = .ok (.bipush 8, 2) := by decide +kernel
theorem dX9_feed_48 : decode cX9_feed 48 = .ok (.iload 4, 2) := by decide +kernel
theorem dX9_feed_50 : decode cX9_feed 50 = .ok (.imul, 1) := by decide +kernel
theorem dX9_feed_51 : decode cX9_feed 51 = .ok (.lshr, 1) := by decide +kernel
theorem dX9_feed_52 : decode cX9_feed 52 = .ok (.l2i, 1) := by decide +kernel
theorem dX9_feed_53 : decode cX9_feed 53 = .ok (.i2b, 1) := by decide +kernel
theorem dX9_feed_54 : decode cX9_feed 54 = .ok (.bastore, 1) := by decide +kernel
theorem dX9_feed_55 : decode cX9_feed 55 = .ok (.aload_n 0, 1) := by decide +kernel
theorem dX9_feed_56 : decode cX9_feed 56 = .ok (.dup, 1) := by decide +kernel
theorem dX9_feed_57 : decode cX9_feed 57 = .ok (.getfield 92, 3) := by decide +kernel
theorem dX9_feed_60 : decode cX9_feed 60 = .ok (.iconst 1, 1) := by decide +kernel
theorem dX9_feed_61 : decode cX9_feed 61 = .ok (.iadd, 1) := by decide +kernel
theorem dX9_feed_62 : decode cX9_feed 62 = .ok (.putfield 92, 3) := by decide +kernel
theorem dX9_feed_65 : decode cX9_feed 65 = .ok (.iinc 4 1, 3) := by decide +kernel
theorem dX9_feed_68 : decode cX9_feed 68 = .ok (.goto (-37), 3) := by decide +kernel
theorem dX9_feed_71 : decode cX9_feed 71 = .ok (.aload_n 0, 1) := by decide +kernel
theorem dX9_feed_72 : decode cX9_feed 72 = .ok (.getfield 92, 3) := by decide +kernel
theorem dX9_feed_75 : decode cX9_feed 75 = .ok (.ireturn, 1) := by decide +kernel
theorem dX9_isLetter_0 : decode cX9_isLetter 0 = .ok (.iload_n 1, 1) := by decide +kernel
theorem dX9_isLetter_1 : decode cX9_isLetter 1 = .ok (.bipush 97, 2) := by decide +kernel
theorem dX9_isLetter_3 : decode cX9_isLetter 3 = .ok (.if_icmp .lt 13, 3) := by decide +kernel
theorem dX9_isLetter_6 : decode cX9_isLetter 6 = .ok (.iload_n 1, 1) := by decide +kernel
theorem dX9_isLetter_7 : decode cX9_isLetter 7 = .ok (.bipush 122, 2) := by decide +kernel
theorem dX9_isLetter_9 : decode cX9_isLetter 9 = .ok (.if_icmp .gt 7, 3) := by decide +kernel
theorem dX9_isLetter_12 : decode cX9_isLetter 12 = .ok (.iconst 1, 1) := by decide +kernel
theorem dX9_isLetter_13 : decode cX9_isLetter 13 = .ok (.goto 4, 3) := by decide +kernel
theorem dX9_isLetter_16 : decode cX9_isLetter 16 = .ok (.iconst 0, 1) := by decide +kernel
theorem dX9_isLetter_17 : decode cX9_isLetter 17 = .ok (.ireturn, 1) := by decide +kernel
theorem dX9_isDigit_0 : decode cX9_isDigit 0 = .ok (.iload_n 1, 1) := by decide +kernel
theorem dX9_isDigit_1 : decode cX9_isDigit 1 = .ok (.bipush 48, 2) := by decide +kernel
theorem dX9_isDigit_3 : decode cX9_isDigit 3 = .ok (.if_icmp .lt 13, 3) := by decide +kernel
theorem dX9_isDigit_6 : decode cX9_isDigit 6 = .ok (.iload_n 1, 1) := by decide +kernel
theorem dX9_isDigit_7 : decode cX9_isDigit 7 = .ok (.bipush 57, 2) := by decide +kernel
theorem dX9_isDigit_9 : decode cX9_isDigit 9 = .ok (.if_icmp .gt 7, 3) := by decide +kernel
theorem dX9_isDigit_12 : decode cX9_isDigit 12 = .ok (.iconst 1, 1) := by decide +kernel
theorem dX9_isDigit_13 : decode cX9_isDigit 13 = .ok (.goto 4, 3) := by decide +kernel
theorem dX9_isDigit_16 : decode cX9_isDigit 16 = .ok (.iconst 0, 1) := by decide +kernel
theorem dX9_isDigit_17 : decode cX9_isDigit 17 = .ok (.ireturn, 1) := by decide +kernel
theorem dX9_isWord_0 : decode cX9_isWord 0 = .ok (.lload_n 1, 1) := by decide +kernel
theorem dX9_isWord_1 : decode cX9_isWord 1 = .ok (.lstore_n 3, 1) := by decide +kernel
theorem dX9_isWord_2 : decode cX9_isWord 2 = .ok (.aload_n 0, 1) := by decide +kernel
theorem dX9_isWord_3 : decode cX9_isWord 3 = .ok (.getfield 107, 3) := by decide +kernel
theorem dX9_isWord_6 : decode cX9_isWord 6 = .ok (.iconst 1, 1) := by decide +kernel
theorem dX9_isWord_7 : decode cX9_isWord 7 = .ok (.isub, 1) := by decide +kernel
theorem dX9_isWord_8 : decode cX9_isWord 8 = .ok (.istore 5, 2) := by decide +kernel
theorem dX9_isWord_10 : decode cX9_isWord 10 = .ok (.iload 5, 2) := by decide +kernel
theorem dX9_isWord_12 : decode cX9_isWord 12 = .ok (.aload_n 0, 1) := by decide +kernel
theorem dX9_isWord_13 : decode cX9_isWord 13 = .ok (.getfield 116, 3) := by decide +kernel
theorem dX9_isWord_16 : decode cX9_isWord 16 = .ok (.if_icmp .lt 39, 3) := by decide +kernel
theorem dX9_isWord_19 : decode cX9_isWord 19 = .ok (.lload_n 3, 1) := by decide +kernel
theorem dX9_isWord_20 : decode cX9_isWord 20 = .ok (.lconst 0, 1) := by decide +kernel
theorem dX9_isWord_21 : decode cX9_isWord 21 = .ok (.lcmp, 1) := by decide +kernel
theorem dX9_isWord_22 : decode cX9_isWord 22 = .ok (.ifCond .le 33, 3) := by decide +kernel
theorem dX9_isWord_25 : decode cX9_isWord 25 = .ok (.lload_n 3, 1) := by decide +kernel
theorem dX9_isWord_26 : decode cX9_isWord 26 = .ok (.ldc2_w 329, 3) := by decide +kernel
theorem dX9_isWord_29 : decode cX9_isWord 29 = .ok (.land, 1) := by decide +kernel
theorem dX9_isWord_30 : decode cX9_isWord 30 = .ok (.aload_n 0, 1) := by decide +kernel
theorem dX9_isWord_31 : decode cX9_isWord 31 = .ok (.getfield 88, 3) := by decide +kernel
theorem dX9_isWord_34 : decode cX9_isWord 34 = .ok (.iload 5, 2) := by decide +kernel
theorem dX9_isWord_36 : decode cX9_isWord 36 = .ok (.baload, 1) := by decide +kernel
theorem dX9_isWord_37 : decode cX9_isWord 37 = .ok (.bipush 96, 2) := by decide +kernel
theorem dX9_isWord_39 : decode cX9_isWord 39 = .ok (.isub, 1) := by decide +kernel
theorem dX9_isWord_40 : decode cX9_isWord 40 = .ok (.i2l, 1) := by decide +kernel
theorem dX9_isWord_41 : decode cX9_isWord 41 = .ok (.lcmp, 1) := by decide +kernel
theorem dX9_isWord_42 : decode cX9_isWord 42 = .ok (.ifCond .ne 13, 3) := by decide +kernel
theorem dX9_isWord_45 : decode cX9_isWord 45 = .ok (.lload_n 3, 1) := by decide +kernel
theorem dX9_isWord_46 : decode cX9_isWord 46 = .ok (.iconst 5, 1) := by decide +kernel
theorem dX9_isWord_47 : decode cX9_isWord 47 = .ok (.lshr, 1) := by decide +kernel
theorem dX9_isWord_48 : decode cX9_isWord 48 = .ok (.lstore_n 3, 1) := by decide +kernel
theorem dX9_isWord_49 : decode cX9_isWord 49 = .ok (.iinc 5 (-1), 3) := by decide +kernel
theorem dX9_isWord_52 : decode cX9_isWord 52 = .ok (.goto (-42), 3) := by decide +kernel
theorem dX9_isWord_55 : decode cX9_isWord 55 = .ok (.lload_n 3, 1) := by decide +kernel
theorem dX9_isWord_56 : decode cX9_isWord 56 = .ok (.lconst 0, 1) := by decide +kernel
theorem dX9_isWord_57 : decode cX9_isWord 57 = .ok (.lcmp, 1) := by decide +kernel
theorem dX9_isWord_58 : decode cX9_isWord 58 = .ok (.ifCond .ne 18, 3) := by decide +kernel
theorem dX9_isWord_61 : decode cX9_isWord 61 = .ok (.iload 5, 2) := by decide +kernel
theorem dX9_isWord_63 : decode cX9_isWord 63 = .ok (.aload_n 0, 1) := by decide +kernel
theorem dX9_isWord_64 : decode cX9_isWord 64 = .ok (.getfield 116, 3) := by decide +kernel
theorem dX9_isWord_67 : decode cX9_isWord 67 = .ok (.iconst 1, 1) := by decide +kernel
theorem dX9_isWord_68 : decode cX9_isWord 68 = .ok (.isub, 1) := by decide +kernel
theorem dX9_isWord_69 : decode cX9_isWord 69 = .ok (.if_icmp .ne 7, 3) := by decide +kernel
theorem dX9_isWord_72 : decode cX9_isWord 72 = .ok (.iconst 1, 1) := by decide +kernel
theorem dX9_isWord_73 : decode cX9_isWord 73 = .ok (.goto 4, 3) := by decide +kernel
theorem dX9_isWord_76 : decode cX9_isWord 76 = .ok (.iconst 0, 1) := by decide +kernel
theorem dX9_isWord_77 : decode cX9_isWord 77 = .ok (.ireturn, 1) := by decide +kernel
theorem dX9_wordToken_0 : decode cX9_wordToken 0 = .ok (.aload_n 0, 1) := by decide +kernel
theorem dX9_wordToken_1 : decode cX9_wordToken 1 = .ok (.getfield 107, 3) := by decide +kernel
theorem dX9_wordToken_4 : decode cX9_wordToken 4 = .ok (.aload_n 0, 1) := by decide +kernel
theorem dX9_wordToken_5 : decode cX9_wordToken 5 = .ok (.getfield 92, 3) := by decide +kernel
theorem dX9_wordToken_8 : decode cX9_wordToken 8 = .ok (.if_icmp .ge 32, 3) := by decide +kernel
theorem dX9_wordToken_11 : decode cX9_wordToken 11 = .ok (.aload_n 0, 1) := by decide +kernel
theorem dX9_wordToken_12 : decode cX9_wordToken 12 = .ok (.aload_n 0, 1) := by decide +kernel
theorem dX9_wordToken_13 : decode cX9_wordToken 13 = .ok (.getfield 88, 3) := by decide +kernel
theorem dX9_wordToken_16 : decode cX9_wordToken 16 = .ok (.aload_n 0, 1) := by decide +kernel
theorem dX9_wordToken_17 : decode cX9_wordToken 17 = .ok (.getfield 107, 3) := by decide +kernel
theorem dX9_wordToken_20 : decode cX9_wordToken 20 = .ok (.baload, 1) := by decide +kernel
theorem dX9_wordToken_21 : decode cX9_wordToken 21 = .ok (.invokevirtual 331, 3) := by decide +kernel
theorem dX9_wordToken_24 : decode cX9_wordToken 24 = .ok (.ifCond .eq 16, 3) := by decide +kernel
theorem dX9_wordToken_27 : decode cX9_wordToken 27 = .ok (.aload_n 0, 1) := by decide +kernel
theorem dX9_wordToken_28 : decode cX9_wordToken 28 = .ok (.dup, 1) := by decide +kernel
theorem dX9_wordToken_29 : decode cX9_wordToken 29 = .ok (.getfield 107, 3) := by decide +kernel
theorem dX9_wordToken_32 : decode cX9_wordToken 32 = .ok (.iconst 1, 1) := by decide +kernel
theorem dX9_wordToken_33 : decode cX9_wordToken 33 = .ok (.iadd, 1) := by decide +kernel
theorem dX9_wordToken_34 : decode cX9_wordToken 34 = .ok (.putfield 107, 3) := by decide +kernel
theorem dX9_wordToken_37 : decode cX9_wordToken 37 = .ok (.goto (-37), 3) := by decide +kernel
theorem dX9_wordToken_40 : decode cX9_wordToken 40 = .ok (.aload_n 0, 1) := by decide +kernel
theorem dX9_wordToken_41 : decode cX9_wordToken 41 = .ok (.iconst 2, 1) := by decide +kernel
theorem dX9_wordToken_42 : decode cX9_wordToken 42 = .ok (.putfield 110, 3) := by decide +kernel
theorem dX9_wordToken_45 : decode cX9_wordToken 45 = .ok (.aload_n 0, 1) := by decide +kernel
theorem dX9_wordToken_46 : decode cX9_wordToken 46 = .ok (.aload_n 0, 1) := by decide +kernel
theorem dX9_wordToken_47 : decode cX9_wordToken 47 = .ok (.ldc2_w 334, 3) := by decide +kernel
theorem dX9_wordToken_50 : decode cX9_wordToken 50 = .ok (.invokevirtual 336, 3) := by decide +kernel
theorem dX9_wordToken_53 : decode cX9_wordToken 53 = .ok (.ifCond .eq 7, 3) := by decide +kernel
theorem dX9_wordToken_56 : decode cX9_wordToken 56 = .ok (.iconst 0, 1) := by decide +kernel
theorem dX9_wordToken_57 : decode cX9_wordToken 57 = .ok (.goto 74, 3) := by decide +kernel
theorem dX9_wordToken_60 : decode cX9_wordToken 60 = .ok (.aload_n 0, 1) := by decide +kernel
theorem dX9_wordToken_61 : decode cX9_wordToken 61 = .ok (.ldc2_w 340, 3) := by decide +kernel
theorem dX9_wordToken_64 : decode cX9_wordToken 64 = .ok (.invokevirtual 336, 3) := by decide +kernel
theorem dX9_wordToken_67 : decode cX9_wordToken 67 = .ok (.ifCond .eq 7, 3) := by decide +kernel
theorem dX9_wordToken_70 : decode cX9_wordToken 70 = .ok (.iconst 1, 1) := by decide +kernel
theorem dX9_wordToken_71 : decode cX9_wordToken 71 = .ok (.goto 60, 3) := by decide +kernel
theorem dX9_wordToken_74 : decode cX9_wordToken 74 = .ok (.aload_n 0, 1) := by decide +kernel
theorem dX9_wordToken_75 : decode cX9_wordToken 75 = .ok (.ldc2_w 342, 3) := by decide +kernel
theorem dX9_wordToken_78 : decode cX9_wordToken 78 = .ok (.invokevirtual 336, 3) := by decide +kernel
theorem dX9_wordToken_81 : decode cX9_wordToken 81 = .ok (.ifCond .eq 7, 3) := by decide +kernel
theorem dX9_wordToken_84 : decode cX9_wordToken 84 = .ok (.iconst 2, 1) := by decide +kernel
theorem dX9_wordToken_85 : decode cX9_wordToken 85 = .ok (.goto 46, 3) := by decide +kernel
theorem dX9_wordToken_88 : decode cX9_wordToken 88 = .ok (.aload_n 0, 1) := by decide +kernel
theorem dX9_wordToken_89 : decode cX9_wordToken 89 = .ok (.ldc2_w 344, 3) := by decide +kernel
theorem dX9_wordToken_92 : decode cX9_wordToken 92 = .ok (.invokevirtual 336, 3) := by decide +kernel
theorem dX9_wordToken_95 : decode cX9_wordToken 95 = .ok (.ifCond .eq 7, 3) := by decide +kernel
theorem dX9_wordToken_98 : decode cX9_wordToken 98 = .ok (.iconst 3, 1) := by decide +kernel
theorem dX9_wordToken_99 : decode cX9_wordToken 99 = .ok (.goto 32, 3) := by decide +kernel
theorem dX9_wordToken_102 : decode cX9_wordToken 102 = .ok (.aload_n 0, 1) := by decide +kernel
theorem dX9_wordToken_103 : decode cX9_wordToken 103 = .ok (.ldc2_w 346, 3) := by decide +kernel
theorem dX9_wordToken_106 : decode cX9_wordToken 106 = .ok (.invokevirtual 336, 3) := by decide +kernel
theorem dX9_wordToken_109 : decode cX9_wordToken 109 = .ok (.ifCond .eq 7, 3) := by decide +kernel
theorem dX9_wordToken_112 : decode cX9_wordToken 112 = .ok (.iconst 4, 1) := by decide +kernel
theorem dX9_wordToken_113 : decode cX9_wordToken 113 = .ok (.goto 18, 3) := by decide +kernel
theorem dX9_wordToken_116 : decode cX9_wordToken 116 = .ok (.aload_n 0, 1) := by decide +kernel
theorem dX9_wordToken_117 : decode cX9_wordToken 117 = .ok (.ldc2_w 348, 3) := by decide +kernel
theorem dX9_wordToken_120 : decode cX9_wordToken 120 = .ok (.invokevirtual 336, 3) := by decide +kernel
theorem dX9_wordToken_123 : decode cX9_wordToken 123 = .ok (.ifCond .eq 7, 3) := by decide +kernel
theorem dX9_wordToken_126 : decode cX9_wordToken 126 = .ok (.iconst 5, 1) := by decide +kernel
theorem dX9_wordToken_127 : decode cX9_wordToken 127 = .ok (.goto 4, 3) := by decide +kernel
theorem dX9_wordToken_130 : decode cX9_wordToken 130 = .ok (.iconst (-1), 1) := by decide +kernel
theorem dX9_wordToken_131 : decode cX9_wordToken 131 = .ok (.putfield 113, 3) := by decide +kernel
theorem dX9_wordToken_134 : decode cX9_wordToken 134 = .ok (.aload_n 0, 1) := by decide +kernel
theorem dX9_wordToken_135 : decode cX9_wordToken 135 = .ok (.getfield 113, 3) := by decide +kernel
theorem dX9_wordToken_138 : decode cX9_wordToken 138 = .ok (.ifCond .lt 4, 3) := by decide +kernel
theorem dX9_wordToken_141 : decode cX9_wordToken 141 = .ok (.return_, 1) := by decide +kernel
theorem dX9_wordToken_142 : decode cX9_wordToken 142 = .ok (.aload_n 0, 1) := by decide +kernel
theorem dX9_wordToken_143 : decode cX9_wordToken 143 = .ok (.iconst 3, 1) := by decide +kernel
theorem dX9_wordToken_144 : decode cX9_wordToken 144 = .ok (.putfield 110, 3) := by decide +kernel
theorem dX9_wordToken_147 : decode cX9_wordToken 147 = .ok (.aload_n 0, 1) := by decide +kernel
theorem dX9_wordToken_148 : decode cX9_wordToken 148 = .ok (.aload_n 0, 1) := by decide +kernel
theorem dX9_wordToken_149 : decode cX9_wordToken 149 = .ok (.ldc2_w 350, 3) := by decide +kernel
theorem dX9_wordToken_152 : decode cX9_wordToken 152 = .ok (.invokevirtual 336, 3) := by decide +kernel
theorem dX9_wordToken_155 : decode cX9_wordToken 155 = .ok (.ifCond .eq 7, 3) := by decide +kernel
theorem dX9_wordToken_158 : decode cX9_wordToken 158 = .ok (.iconst 0, 1) := by decide +kernel
theorem dX9_wordToken_159 : decode cX9_wordToken 159 = .ok (.goto 60, 3) := by decide +kernel
theorem dX9_wordToken_162 : decode cX9_wordToken 162 = .ok (.aload_n 0, 1) := by decide +kernel
theorem dX9_wordToken_163 : decode cX9_wordToken 163 = .ok (.ldc2_w 352, 3) := by decide +kernel
theorem dX9_wordToken_166 : decode cX9_wordToken 166 = .ok (.invokevirtual 336, 3) := by decide +kernel
theorem dX9_wordToken_169 : decode cX9_wordToken 169 = .ok (.ifCond .eq 7, 3) := by decide +kernel
theorem dX9_wordToken_172 : decode cX9_wordToken 172 = .ok (.iconst 1, 1) := by decide +kernel
theorem dX9_wordToken_173 : decode cX9_wordToken 173 = .ok (.goto 46, 3) := by decide +kernel
theorem dX9_wordToken_176 : decode cX9_wordToken 176 = .ok (.aload_n 0, 1) := by decide +kernel
theorem dX9_wordToken_177 : decode cX9_wordToken 177 = .ok (.ldc2_w 354, 3) := by decide +kernel
theorem dX9_wordToken_180 : decode cX9_wordToken 180 = .ok (.invokevirtual 336, 3) := by decide +kernel
theorem dX9_wordToken_183 : decode cX9_wordToken 183 = .ok (.ifCond .eq 7, 3) := by decide +kernel
theorem dX9_wordToken_186 : decode cX9_wordToken 186 = .ok (.iconst 2, 1) := by decide +kernel
theorem dX9_wordToken_187 : decode cX9_wordToken 187 = .ok (.goto 32, 3) := by decide +kernel
theorem dX9_wordToken_190 : decode cX9_wordToken 190 = .ok (.aload_n 0, 1) := by decide +kernel
theorem dX9_wordToken_191 : decode cX9_wordToken 191 = .ok (.ldc2_w 356, 3) := by decide +kernel
theorem dX9_wordToken_194 : decode cX9_wordToken 194 = .ok (.invokevirtual 336, 3) := by decide +kernel
theorem dX9_wordToken_197 : decode cX9_wordToken 197 = .ok (.ifCond .eq 7, 3) := by decide +kernel
theorem dX9_wordToken_200 : decode cX9_wordToken 200 = .ok (.iconst 3, 1) := by decide +kernel
theorem dX9_wordToken_201 : decode cX9_wordToken 201 = .ok (.goto 18, 3) := by decide +kernel
theorem dX9_wordToken_204 : decode cX9_wordToken 204 = .ok (.aload_n 0, 1) := by decide +kernel
theorem dX9_wordToken_205 : decode cX9_wordToken 205 = .ok (.ldc2_w 358, 3) := by decide +kernel
theorem dX9_wordToken_208 : decode cX9_wordToken 208 = .ok (.invokevirtual 336, 3) := by decide +kernel
theorem dX9_wordToken_211 : decode cX9_wordToken 211 = .ok (.ifCond .eq 7, 3) := by decide +kernel
theorem dX9_wordToken_214 : decode cX9_wordToken 214 = .ok (.iconst 4, 1) := by decide +kernel
theorem dX9_wordToken_215 : decode cX9_wordToken 215 = .ok (.goto 4, 3) := by decide +kernel
theorem dX9_wordToken_218 : decode cX9_wordToken 218 = .ok (.iconst (-1), 1) := by decide +kernel
theorem dX9_wordToken_219 : decode cX9_wordToken 219 = .ok (.putfield 113, 3) := by decide +kernel
theorem dX9_wordToken_222 : decode cX9_wordToken 222 = .ok (.aload_n 0, 1) := by decide +kernel
theorem dX9_wordToken_223 : decode cX9_wordToken 223 = .ok (.getfield 113, 3) := by decide +kernel
theorem dX9_wordToken_226 : decode cX9_wordToken 226 = .ok (.ifCond .ge 8, 3) := by decide +kernel
theorem dX9_wordToken_229 : decode cX9_wordToken 229 = .ok (.aload_n 0, 1) := by decide +kernel
theorem dX9_wordToken_230 : decode cX9_wordToken 230 = .ok (.iconst 5, 1) := by decide +kernel
theorem dX9_wordToken_231 : decode cX9_wordToken 231 = .ok (.putfield 110, 3) := by decide +kernel
theorem dX9_wordToken_234 : decode cX9_wordToken 234 = .ok (.return_, 1) := by decide +kernel
theorem dX9_next_0 : decode cX9_next 0 = .ok (.aload_n 0, 1) := by decide +kernel
theorem dX9_next_1 : decode cX9_next 1 = .ok (.getfield 107, 3) := by decide +kernel
theorem dX9_next_4 : decode cX9_next 4 = .ok (.aload_n 0, 1) := by decide +kernel
theorem dX9_next_5 : decode cX9_next 5 = .ok (.getfield 92, 3) := by decide +kernel
theorem dX9_next_8 : decode cX9_next 8 = .ok (.if_icmp .ge 44, 3) := by decide +kernel
theorem dX9_next_11 : decode cX9_next 11 = .ok (.aload_n 0, 1) := by decide +kernel
theorem dX9_next_12 : decode cX9_next 12 = .ok (.getfield 88, 3) := by decide +kernel
theorem dX9_next_15 : decode cX9_next 15 = .ok (.aload_n 0, 1) := by decide +kernel
theorem dX9_next_16 : decode cX9_next 16 = .ok (.getfield 107, 3) := by decide +kernel
theorem dX9_next_19 : decode cX9_next 19 = .ok (.baload, 1) := by decide +kernel
theorem dX9_next_20 : decode cX9_next 20 = .ok (.bipush 32, 2) := by decide +kernel
theorem dX9_next_22 : decode cX9_next 22 = .ok (.if_icmp .eq 17, 3) := by decide +kernel
theorem dX9_next_25 : decode cX9_next 25 = .ok (.aload_n 0, 1) := by decide +kernel
theorem dX9_next_26 : decode cX9_next 26 = .ok (.getfield 88, 3) := by decide +kernel
theorem dX9_next_29 : decode cX9_next 29 = .ok (.aload_n 0, 1) := by decide +kernel
theorem dX9_next_30 : decode cX9_next 30 = .ok (.getfield 107, 3) := by decide +kernel
theorem dX9_next_33 : decode cX9_next 33 = .ok (.baload, 1) := by decide +kernel
theorem dX9_next_34 : decode cX9_next 34 = .ok (.bipush 10, 2) := by decide +kernel
theorem dX9_next_36 : decode cX9_next 36 = .ok (.if_icmp .ne 16, 3) := by decide +kernel
theorem dX9_next_39 : decode cX9_next 39 = .ok (.aload_n 0, 1) := by decide +kernel
theorem dX9_next_40 : decode cX9_next 40 = .ok (.dup, 1) := by decide +kernel
theorem dX9_next_41 : decode cX9_next 41 = .ok (.getfield 107, 3) := by decide +kernel
theorem dX9_next_44 : decode cX9_next 44 = .ok (.iconst 1, 1) := by decide +kernel
theorem dX9_next_45 : decode cX9_next 45 = .ok (.iadd, 1) := by decide +kernel
theorem dX9_next_46 : decode cX9_next 46 = .ok (.putfield 107, 3) := by decide +kernel
theorem dX9_next_49 : decode cX9_next 49 = .ok (.goto (-49), 3) := by decide +kernel
theorem dX9_next_52 : decode cX9_next 52 = .ok (.aload_n 0, 1) := by decide +kernel
theorem dX9_next_53 : decode cX9_next 53 = .ok (.aload_n 0, 1) := by decide +kernel
theorem dX9_next_54 : decode cX9_next 54 = .ok (.getfield 107, 3) := by decide +kernel
theorem dX9_next_57 : decode cX9_next 57 = .ok (.putfield 116, 3) := by decide +kernel
theorem dX9_next_60 : decode cX9_next 60 = .ok (.aload_n 0, 1) := by decide +kernel
theorem dX9_next_61 : decode cX9_next 61 = .ok (.iconst 0, 1) := by decide +kernel
theorem dX9_next_62 : decode cX9_next 62 = .ok (.putfield 110, 3) := by decide +kernel
theorem dX9_next_65 : decode cX9_next 65 = .ok (.aload_n 0, 1) := by decide +kernel
theorem dX9_next_66 : decode cX9_next 66 = .ok (.getfield 107, 3) := by decide +kernel
theorem dX9_next_69 : decode cX9_next 69 = .ok (.aload_n 0, 1) := by decide +kernel
theorem dX9_next_70 : decode cX9_next 70 = .ok (.getfield 92, 3) := by decide +kernel
theorem dX9_next_73 : decode cX9_next 73 = .ok (.if_icmp .ne 4, 3) := by decide +kernel
theorem dX9_next_76 : decode cX9_next 76 = .ok (.return_, 1) := by decide +kernel
theorem dX9_next_77 : decode cX9_next 77 = .ok (.aload_n 0, 1) := by decide +kernel
theorem dX9_next_78 : decode cX9_next 78 = .ok (.getfield 88, 3) := by decide +kernel
theorem dX9_next_81 : decode cX9_next 81 = .ok (.aload_n 0, 1) := by decide +kernel
theorem dX9_next_82 : decode cX9_next 82 = .ok (.getfield 107, 3) := by decide +kernel
theorem dX9_next_85 : decode cX9_next 85 = .ok (.baload, 1) := by decide +kernel
theorem dX9_next_86 : decode cX9_next 86 = .ok (.istore_n 1, 1) := by decide +kernel
theorem dX9_next_87 : decode cX9_next 87 = .ok (.aload_n 0, 1) := by decide +kernel
theorem dX9_next_88 : decode cX9_next 88 = .ok (.iload_n 1, 1) := by decide +kernel
theorem dX9_next_89 : decode cX9_next 89 = .ok (.invokevirtual 331, 3) := by decide +kernel
theorem dX9_next_92 : decode cX9_next 92 = .ok (.ifCond .eq 8, 3) := by decide +kernel
theorem dX9_next_95 : decode cX9_next 95 = .ok (.aload_n 0, 1) := by decide +kernel
theorem dX9_next_96 : decode cX9_next 96 = .ok (.invokevirtual 360, 3) := by decide +kernel
theorem dX9_next_99 : decode cX9_next 99 = .ok (.return_, 1) := by decide +kernel
theorem dX9_next_100 : decode cX9_next 100 = .ok (.aload_n 0, 1) := by decide +kernel
theorem dX9_next_101 : decode cX9_next 101 = .ok (.iload_n 1, 1) := by decide +kernel
theorem dX9_next_102 : decode cX9_next 102 = .ok (.invokevirtual 363, 3) := by decide +kernel
theorem dX9_next_105 : decode cX9_next 105 = .ok (.ifCond .eq 115, 3) := by decide +kernel
theorem dX9_next_108 : decode cX9_next 108 = .ok (.aload_n 0, 1) := by decide +kernel
theorem dX9_next_109 : decode cX9_next 109 = .ok (.iconst 0, 1) := by decide +kernel
theorem dX9_next_110 : decode cX9_next 110 = .ok (.putfield 113, 3) := by decide +kernel
theorem dX9_next_113 : decode cX9_next 113 = .ok (.aload_n 0, 1) := by decide +kernel
theorem dX9_next_114 : decode cX9_next 114 = .ok (.getfield 107, 3) := by decide +kernel
theorem dX9_next_117 : decode cX9_next 117 = .ok (.aload_n 0, 1) := by decide +kernel
theorem dX9_next_118 : decode cX9_next 118 = .ok (.getfield 92, 3) := by decide +kernel
theorem dX9_next_121 : decode cX9_next 121 = .ok (.if_icmp .ge 76, 3) := by decide +kernel
theorem dX9_next_124 : decode cX9_next 124 = .ok (.aload_n 0, 1) := by decide +kernel
theorem dX9_next_125 : decode cX9_next 125 = .ok (.aload_n 0, 1) := by decide +kernel
theorem dX9_next_126 : decode cX9_next 126 = .ok (.getfield 88, 3) := by decide +kernel
theorem dX9_next_129 : decode cX9_next 129 = .ok (.aload_n 0, 1) := by decide +kernel
theorem dX9_next_130 : decode cX9_next 130 = .ok (.getfield 107, 3) := by decide +kernel
theorem dX9_next_133 : decode cX9_next 133 = .ok (.baload, 1) := by decide +kernel
theorem dX9_next_134 : decode cX9_next 134 = .ok (.invokevirtual 363, 3) := by decide +kernel
theorem dX9_next_137 : decode cX9_next 137 = .ok (.ifCond .eq 60, 3) := by decide +kernel
theorem dX9_next_140 : decode cX9_next 140 = .ok (.aload_n 0, 1) := by decide +kernel
theorem dX9_next_141 : decode cX9_next 141 = .ok (.aload_n 0, 1) := by decide +kernel
theorem dX9_next_142 : decode cX9_next 142 = .ok (.getfield 107, 3) := by decide +kernel
theorem dX9_next_145 : decode cX9_next 145 = .ok (.aload_n 0, 1) := by decide +kernel
theorem dX9_next_146 : decode cX9_next 146 = .ok (.getfield 116, 3) := by decide +kernel
theorem dX9_next_149 : decode cX9_next 149 = .ok (.isub, 1) := by decide +kernel
theorem dX9_next_150 : decode cX9_next 150 = .ok (.iconst 4, 1) := by decide +kernel
theorem dX9_next_151 : decode cX9_next 151 = .ok (.if_icmp .ge 26, 3) := by decide +kernel
theorem dX9_next_154 : decode cX9_next 154 = .ok (.bipush 10, 2) := by decide +kernel
theorem dX9_next_156 : decode cX9_next 156 = .ok (.aload_n 0, 1) := by decide +kernel
theorem dX9_next_157 : decode cX9_next 157 = .ok (.getfield 113, 3) := by decide +kernel
theorem dX9_next_160 : decode cX9_next 160 = .ok (.imul, 1) := by decide +kernel
theorem dX9_next_161 : decode cX9_next 161 = .ok (.aload_n 0, 1) := by decide +kernel
theorem dX9_next_162 : decode cX9_next 162 = .ok (.getfield 88, 3) := by decide +kernel
theorem dX9_next_165 : decode cX9_next 165 = .ok (.aload_n 0, 1) := by decide +kernel
theorem dX9_next_166 : decode cX9_next 166 = .ok (.getfield 107, 3) := by decide +kernel
theorem dX9_next_169 : decode cX9_next 169 = .ok (.baload, 1) := by decide +kernel
theorem dX9_next_170 : decode cX9_next 170 = .ok (.iadd, 1) := by decide +kernel
theorem dX9_next_171 : decode cX9_next 171 = .ok (.bipush 48, 2) := by decide +kernel
theorem dX9_next_173 : decode cX9_next 173 = .ok (.isub, 1) := by decide +kernel
theorem dX9_next_174 : decode cX9_next 174 = .ok (.goto 7, 3) := by decide +kernel
theorem dX9_next_177 : decode cX9_next 177 = .ok (.aload_n 0, 1) := by decide +kernel
theorem dX9_next_178 : decode cX9_next 178 = .ok (.getfield 113, 3) := by decide +kernel
theorem dX9_next_181 : decode cX9_next 181 = .ok (.putfield 113, 3) := by decide +kernel
theorem dX9_next_184 : decode cX9_next 184 = .ok (.aload_n 0, 1) := by decide +kernel
theorem dX9_next_185 : decode cX9_next 185 = .ok (.dup, 1) := by decide +kernel
theorem dX9_next_186 : decode cX9_next 186 = .ok (.getfield 107, 3) := by decide +kernel
theorem dX9_next_189 : decode cX9_next 189 = .ok (.iconst 1, 1) := by decide +kernel
theorem dX9_next_190 : decode cX9_next 190 = .ok (.iadd, 1) := by decide +kernel
theorem dX9_next_191 : decode cX9_next 191 = .ok (.putfield 107, 3) := by decide +kernel
theorem dX9_next_194 : decode cX9_next 194 = .ok (.goto (-81), 3) := by decide +kernel
theorem dX9_next_197 : decode cX9_next 197 = .ok (.aload_n 0, 1) := by decide +kernel
theorem dX9_next_198 : decode cX9_next 198 = .ok (.aload_n 0, 1) := by decide +kernel
theorem dX9_next_199 : decode cX9_next 199 = .ok (.getfield 107, 3) := by decide +kernel
theorem dX9_next_202 : decode cX9_next 202 = .ok (.aload_n 0, 1) := by decide +kernel
theorem dX9_next_203 : decode cX9_next 203 = .ok (.getfield 116, 3) := by decide +kernel
theorem dX9_next_206 : decode cX9_next 206 = .ok (.isub, 1) := by decide +kernel
theorem dX9_next_207 : decode cX9_next 207 = .ok (.iconst 4, 1) := by decide +kernel
theorem dX9_next_208 : decode cX9_next 208 = .ok (.if_icmp .le 7, 3) := by decide +kernel
theorem dX9_next_211 : decode cX9_next 211 = .ok (.iconst 5, 1) := by decide +kernel
theorem dX9_next_212 : decode cX9_next 212 = .ok (.goto 4, 3) := by decide +kernel
theorem dX9_next_215 : decode cX9_next 215 = .ok (.iconst 1, 1) := by decide +kernel
theorem dX9_next_216 : decode cX9_next 216 = .ok (.putfield 110, 3) := by decide +kernel
theorem dX9_next_219 : decode cX9_next 219 = .ok (.return_, 1) := by decide +kernel
theorem dX9_next_220 : decode cX9_next 220 = .ok (.aload_n 0, 1) := by decide +kernel
theorem dX9_next_221 : decode cX9_next 221 = .ok (.dup, 1) := by decide +kernel
theorem dX9_next_222 : decode cX9_next 222 = .ok (.getfield 107, 3) := by decide +kernel
theorem dX9_next_225 : decode cX9_next 225 = .ok (.iconst 1, 1) := by decide +kernel
theorem dX9_next_226 : decode cX9_next 226 = .ok (.iadd, 1) := by decide +kernel
theorem dX9_next_227 : decode cX9_next 227 = .ok (.putfield 107, 3) := by decide +kernel
theorem dX9_next_230 : decode cX9_next 230 = .ok (.aload_n 0, 1) := by decide +kernel
theorem dX9_next_231 : decode cX9_next 231 = .ok (.iload_n 1, 1) := by decide +kernel
theorem dX9_next_232 : decode cX9_next 232 = .ok (.putfield 113, 3) := by decide +kernel
theorem dX9_next_235 : decode cX9_next 235 = .ok (.aload_n 0, 1) := by decide +kernel
theorem dX9_next_236 : decode cX9_next 236 = .ok (.iload_n 1, 1) := by decide +kernel
theorem dX9_next_237 : decode cX9_next 237 = .ok (.bipush 40, 2) := by decide +kernel
theorem dX9_next_239 : decode cX9_next 239 = .ok (.if_icmp .eq 45, 3) := by decide +kernel
theorem dX9_next_242 : decode cX9_next 242 = .ok (.iload_n 1, 1) := by decide +kernel
theorem dX9_next_243 : decode cX9_next 243 = .ok (.bipush 41, 2) := by decide +kernel
theorem dX9_next_245 : decode cX9_next 245 = .ok (.if_icmp .eq 39, 3) := by decide +kernel
theorem dX9_next_248 : decode cX9_next 248 = .ok (.iload_n 1, 1) := by decide +kernel
theorem dX9_next_249 : decode cX9_next 249 = .ok (.bipush 59, 2) := by decide +kernel
theorem dX9_next_251 : decode cX9_next 251 = .ok (.if_icmp .eq 33, 3) := by decide +kernel
theorem dX9_next_254 : decode cX9_next 254 = .ok (.iload_n 1, 1) := by decide +kernel
theorem dX9_next_255 : decode cX9_next 255 = .ok (.bipush 43, 2) := by decide +kernel
theorem dX9_next_257 : decode cX9_next 257 = .ok (.if_icmp .eq 27, 3) := by decide +kernel
theorem dX9_next_260 : decode cX9_next 260 = .ok (.iload_n 1, 1) := by decide +kernel
theorem dX9_next_261 : decode cX9_next 261 = .ok (.bipush 45, 2) := by decide +kernel
theorem dX9_next_263 : decode cX9_next 263 = .ok (.if_icmp .eq 21, 3) := by decide +kernel
theorem dX9_next_266 : decode cX9_next 266 = .ok (.iload_n 1, 1) := by decide +kernel
theorem dX9_next_267 : decode cX9_next 267 = .ok (.bipush 42, 2) := by decide +kernel
theorem dX9_next_269 : decode cX9_next 269 = .ok (.if_icmp .eq 15, 3) := by decide +kernel
theorem dX9_next_272 : decode cX9_next 272 = .ok (.iload_n 1, 1) := by decide +kernel
theorem dX9_next_273 : decode cX9_next 273 = .ok (.bipush 60, 2) := by decide +kernel
theorem dX9_next_275 : decode cX9_next 275 = .ok (.if_icmp .eq 9, 3) := by decide +kernel
theorem dX9_next_278 : decode cX9_next 278 = .ok (.iload_n 1, 1) := by decide +kernel
theorem dX9_next_279 : decode cX9_next 279 = .ok (.bipush 61, 2) := by decide +kernel
theorem dX9_next_281 : decode cX9_next 281 = .ok (.if_icmp .ne 7, 3) := by decide +kernel
theorem dX9_next_284 : decode cX9_next 284 = .ok (.iconst 4, 1) := by decide +kernel
theorem dX9_next_285 : decode cX9_next 285 = .ok (.goto 4, 3) := by decide +kernel
theorem dX9_next_288 : decode cX9_next 288 = .ok (.iconst 5, 1) := by decide +kernel
theorem dX9_next_289 : decode cX9_next 289 = .ok (.putfield 110, 3) := by decide +kernel
theorem dX9_next_292 : decode cX9_next 292 = .ok (.return_, 1) := by decide +kernel
theorem dX9_isKey_0 : decode cX9_isKey 0 = .ok (.aload_n 0, 1) := by decide +kernel
theorem dX9_isKey_1 : decode cX9_isKey 1 = .ok (.getfield 110, 3) := by decide +kernel
theorem dX9_isKey_4 : decode cX9_isKey 4 = .ok (.iconst 3, 1) := by decide +kernel
theorem dX9_isKey_5 : decode cX9_isKey 5 = .ok (.if_icmp .ne 15, 3) := by decide +kernel
theorem dX9_isKey_8 : decode cX9_isKey 8 = .ok (.aload_n 0, 1) := by decide +kernel
theorem dX9_isKey_9 : decode cX9_isKey 9 = .ok (.getfield 113, 3) := by decide +kernel
theorem dX9_isKey_12 : decode cX9_isKey 12 = .ok (.iload_n 1, 1) := by decide +kernel
theorem dX9_isKey_13 : decode cX9_isKey 13 = .ok (.if_icmp .ne 7, 3) := by decide +kernel
theorem dX9_isKey_16 : decode cX9_isKey 16 = .ok (.iconst 1, 1) := by decide +kernel
theorem dX9_isKey_17 : decode cX9_isKey 17 = .ok (.goto 4, 3) := by decide +kernel
theorem dX9_isKey_20 : decode cX9_isKey 20 = .ok (.iconst 0, 1) := by decide +kernel
theorem dX9_isKey_21 : decode cX9_isKey 21 = .ok (.ireturn, 1) := by decide +kernel
theorem dX9_isSign_0 : decode cX9_isSign 0 = .ok (.aload_n 0, 1) := by decide +kernel
theorem dX9_isSign_1 : decode cX9_isSign 1 = .ok (.getfield 110, 3) := by decide +kernel
theorem dX9_isSign_4 : decode cX9_isSign 4 = .ok (.iconst 4, 1) := by decide +kernel
theorem dX9_isSign_5 : decode cX9_isSign 5 = .ok (.if_icmp .ne 15, 3) := by decide +kernel
theorem dX9_isSign_8 : decode cX9_isSign 8 = .ok (.aload_n 0, 1) := by decide +kernel
theorem dX9_isSign_9 : decode cX9_isSign 9 = .ok (.getfield 113, 3) := by decide +kernel
theorem dX9_isSign_12 : decode cX9_isSign 12 = .ok (.iload_n 1, 1) := by decide +kernel
theorem dX9_isSign_13 : decode cX9_isSign 13 = .ok (.if_icmp .ne 7, 3) := by decide +kernel
theorem dX9_isSign_16 : decode cX9_isSign 16 = .ok (.iconst 1, 1) := by decide +kernel
theorem dX9_isSign_17 : decode cX9_isSign 17 = .ok (.goto 4, 3) := by decide +kernel
theorem dX9_isSign_20 : decode cX9_isSign 20 = .ok (.iconst 0, 1) := by decide +kernel
theorem dX9_isSign_21 : decode cX9_isSign 21 = .ok (.ireturn, 1) := by decide +kernel
theorem dX9_put_0 : decode cX9_put 0 = .ok (.aload_n 0, 1) := by decide +kernel
theorem dX9_put_1 : decode cX9_put 1 = .ok (.getfield 104, 3) := by decide +kernel
theorem dX9_put_4 : decode cX9_put 4 = .ok (.bipush 120, 2) := by decide +kernel
theorem dX9_put_6 : decode cX9_put 6 = .ok (.aload_n 0, 1) := by decide +kernel
theorem dX9_put_7 : decode cX9_put 7 = .ok (.getfield 134, 3) := by decide +kernel
theorem dX9_put_10 : decode cX9_put 10 = .ok (.imul, 1) := by decide +kernel
theorem dX9_put_11 : decode cX9_put 11 = .ok (.aload_n 0, 1) := by decide +kernel
theorem dX9_put_12 : decode cX9_put 12 = .ok (.getfield 101, 3) := by decide +kernel
theorem dX9_put_15 : decode cX9_put 15 = .ok (.aload_n 0, 1) := by decide +kernel
theorem dX9_put_16 : decode cX9_put 16 = .ok (.getfield 134, 3) := by decide +kernel
theorem dX9_put_19 : decode cX9_put 19 = .ok (.iaload, 1) := by decide +kernel
theorem dX9_put_20 : decode cX9_put 20 = .ok (.iadd, 1) := by decide +kernel
theorem dX9_put_21 : decode cX9_put 21 = .ok (.iload_n 1, 1) := by decide +kernel
theorem dX9_put_22 : decode cX9_put 22 = .ok (.iastore, 1) := by decide +kernel
theorem dX9_put_23 : decode cX9_put 23 = .ok (.aload_n 0, 1) := by decide +kernel
theorem dX9_put_24 : decode cX9_put 24 = .ok (.getfield 101, 3) := by decide +kernel
theorem dX9_put_27 : decode cX9_put 27 = .ok (.aload_n 0, 1) := by decide +kernel
theorem dX9_put_28 : decode cX9_put 28 = .ok (.getfield 134, 3) := by decide +kernel
theorem dX9_put_31 : decode cX9_put 31 = .ok (.dup2, 1) := by decide +kernel
theorem dX9_put_32 : decode cX9_put 32 = .ok (.iaload, 1) := by decide +kernel
theorem dX9_put_33 : decode cX9_put 33 = .ok (.iconst 1, 1) := by decide +kernel
theorem dX9_put_34 : decode cX9_put 34 = .ok (.iadd, 1) := by decide +kernel
theorem dX9_put_35 : decode cX9_put 35 = .ok (.iastore, 1) := by decide +kernel
theorem dX9_put_36 : decode cX9_put 36 = .ok (.return_, 1) := by decide +kernel
theorem dX9_rank_0 : decode cX9_rank 0 = .ok (.iload_n 1, 1) := by decide +kernel
theorem dX9_rank_1 : decode cX9_rank 1 = .ok (.iconst (-1), 1) := by decide +kernel
theorem dX9_rank_2 : decode cX9_rank 2 = .ok (.if_icmp .ne 7, 3) := by decide +kernel
theorem dX9_rank_5 : decode cX9_rank 5 = .ok (.iconst 1, 1) := by decide +kernel
theorem dX9_rank_6 : decode cX9_rank 6 = .ok (.goto 78, 3) := by decide +kernel
theorem dX9_rank_9 : decode cX9_rank 9 = .ok (.iload_n 1, 1) := by decide +kernel
theorem dX9_rank_10 : decode cX9_rank 10 = .ok (.bipush (-2), 2) := by decide +kernel
theorem dX9_rank_12 : decode cX9_rank 12 = .ok (.if_icmp .ne 7, 3) := by decide +kernel
theorem dX9_rank_15 : decode cX9_rank 15 = .ok (.iconst 2, 1) := by decide +kernel
theorem dX9_rank_16 : decode cX9_rank 16 = .ok (.goto 68, 3) := by decide +kernel
theorem dX9_rank_19 : decode cX9_rank 19 = .ok (.iload_n 1, 1) := by decide +kernel
theorem dX9_rank_20 : decode cX9_rank 20 = .ok (.bipush (-3), 2) := by decide +kernel
theorem dX9_rank_22 : decode cX9_rank 22 = .ok (.if_icmp .ne 7, 3) := by decide +kernel
theorem dX9_rank_25 : decode cX9_rank 25 = .ok (.iconst 3, 1) := by decide +kernel
theorem dX9_rank_26 : decode cX9_rank 26 = .ok (.goto 58, 3) := by decide +kernel
theorem dX9_rank_29 : decode cX9_rank 29 = .ok (.iload_n 1, 1) := by decide +kernel
theorem dX9_rank_30 : decode cX9_rank 30 = .ok (.bipush (-4), 2) := by decide +kernel
theorem dX9_rank_32 : decode cX9_rank 32 = .ok (.if_icmp .eq 9, 3) := by decide +kernel
theorem dX9_rank_35 : decode cX9_rank 35 = .ok (.iload_n 1, 1) := by decide +kernel
theorem dX9_rank_36 : decode cX9_rank 36 = .ok (.bipush (-5), 2) := by decide +kernel
theorem dX9_rank_38 : decode cX9_rank 38 = .ok (.if_icmp .ne 7, 3) := by decide +kernel
theorem dX9_rank_41 : decode cX9_rank 41 = .ok (.iconst 4, 1) := by decide +kernel
theorem dX9_rank_42 : decode cX9_rank 42 = .ok (.goto 42, 3) := by decide +kernel
theorem dX9_rank_45 : decode cX9_rank 45 = .ok (.iload_n 1, 1) := by decide +kernel
theorem dX9_rank_46 : decode cX9_rank 46 = .ok (.bipush (-6), 2) := by decide +kernel
theorem dX9_rank_48 : decode cX9_rank 48 = .ok (.if_icmp .eq 9, 3) := by decide +kernel
theorem dX9_rank_51 : decode cX9_rank 51 = .ok (.iload_n 1, 1) := by decide +kernel
theorem dX9_rank_52 : decode cX9_rank 52 = .ok (.bipush (-7), 2) := by decide +kernel
theorem dX9_rank_54 : decode cX9_rank 54 = .ok (.if_icmp .ne 7, 3) := by decide +kernel
theorem dX9_rank_57 : decode cX9_rank 57 = .ok (.iconst 5, 1) := by decide +kernel
theorem dX9_rank_58 : decode cX9_rank 58 = .ok (.goto 26, 3) := by decide +kernel
theorem dX9_rank_61 : decode cX9_rank 61 = .ok (.iload_n 1, 1) := by decide +kernel
theorem dX9_rank_62 : decode cX9_rank 62 = .ok (.bipush (-8), 2) := by decide +kernel
theorem dX9_rank_64 : decode cX9_rank 64 = .ok (.if_icmp .ne 8, 3) := by decide +kernel
theorem dX9_rank_67 : decode cX9_rank 67 = .ok (.bipush 6, 2) := by decide +kernel
theorem dX9_rank_69 : decode cX9_rank 69 = .ok (.goto 15, 3) := by decide +kernel
theorem dX9_rank_72 : decode cX9_rank 72 = .ok (.iload_n 1, 1) := by decide +kernel
theorem dX9_rank_73 : decode cX9_rank 73 = .ok (.bipush (-9), 2) := by decide +kernel
theorem dX9_rank_75 : decode cX9_rank 75 = .ok (.if_icmp .ne 8, 3) := by decide +kernel
theorem dX9_rank_78 : decode cX9_rank 78 = .ok (.bipush 7, 2) := by decide +kernel
theorem dX9_rank_80 : decode cX9_rank 80 = .ok (.goto 4, 3) := by decide +kernel
theorem dX9_rank_83 : decode cX9_rank 83 = .ok (.iconst 0, 1) := by decide +kernel
theorem dX9_rank_84 : decode cX9_rank 84 = .ok (.ireturn, 1) := by decide +kernel
theorem dX9_settle_0 : decode cX9_settle 0 = .ok (.aload_n 0, 1) := by decide +kernel
theorem dX9_settle_1 : decode cX9_settle 1 = .ok (.getfield 125, 3) := by decide +kernel
theorem dX9_settle_4 : decode cX9_settle 4 = .ok (.ifCond .le 86, 3) := by decide +kernel
theorem dX9_settle_7 : decode cX9_settle 7 = .ok (.aload_n 0, 1) := by decide +kernel
theorem dX9_settle_8 : decode cX9_settle 8 = .ok (.aload_n 0, 1) := by decide +kernel
theorem dX9_settle_9 : decode cX9_settle 9 = .ok (.getfield 119, 3) := by decide +kernel
theorem dX9_settle_12 : decode cX9_settle 12 = .ok (.aload_n 0, 1) := by decide +kernel
theorem dX9_settle_13 : decode cX9_settle 13 = .ok (.getfield 125, 3) := by decide +kernel
theorem dX9_settle_16 : decode cX9_settle 16 = .ok (.iconst 1, 1) := by decide +kernel
theorem dX9_settle_17 : decode cX9_settle 17 = .ok (.isub, 1) := by decide +kernel
theorem dX9_settle_18 : decode cX9_settle 18 = .ok (.iaload, 1) := by decide +kernel
theorem dX9_settle_19 : decode cX9_settle 19 = .ok (.invokevirtual 366, 3) := by decide +kernel
theorem dX9_settle_22 : decode cX9_settle 22 = .ok (.iload_n 1, 1) := by decide +kernel
theorem dX9_settle_23 : decode cX9_settle 23 = .ok (.if_icmp .lt 67, 3) := by decide +kernel
theorem dX9_settle_26 : decode cX9_settle 26 = .ok (.aload_n 0, 1) := by decide +kernel
theorem dX9_settle_27 : decode cX9_settle 27 = .ok (.dup, 1) := by decide +kernel
theorem dX9_settle_28 : decode cX9_settle 28 = .ok (.getfield 125, 3) := by decide +kernel
theorem dX9_settle_31 : decode cX9_settle 31 = .ok (.iconst 1, 1) := by decide +kernel
theorem dX9_settle_32 : decode cX9_settle 32 = .ok (.isub, 1) := by decide +kernel
theorem dX9_settle_33 : decode cX9_settle 33 = .ok (.putfield 125, 3) := by decide +kernel
theorem dX9_settle_36 : decode cX9_settle 36 = .ok (.aload_n 0, 1) := by decide +kernel
theorem dX9_settle_37 : decode cX9_settle 37 = .ok (.aload_n 0, 1) := by decide +kernel
theorem dX9_settle_38 : decode cX9_settle 38 = .ok (.getfield 119, 3) := by decide +kernel
theorem dX9_settle_41 : decode cX9_settle 41 = .ok (.aload_n 0, 1) := by decide +kernel
theorem dX9_settle_42 : decode cX9_settle 42 = .ok (.getfield 125, 3) := by decide +kernel
theorem dX9_settle_45 : decode cX9_settle 45 = .ok (.iaload, 1) := by decide +kernel
theorem dX9_settle_46 : decode cX9_settle 46 = .ok (.invokevirtual 369, 3) := by decide +kernel
theorem dX9_settle_49 : decode cX9_settle 49 = .ok (.aload_n 0, 1) := by decide +kernel
theorem dX9_settle_50 : decode cX9_settle 50 = .ok (.getfield 119, 3) := by decide +kernel
theorem dX9_settle_53 : decode cX9_settle 53 = .ok (.aload_n 0, 1) := by decide +kernel
theorem dX9_settle_54 : decode cX9_settle 54 = .ok (.getfield 125, 3) := by decide +kernel
theorem dX9_settle_57 : decode cX9_settle 57 = .ok (.iaload, 1) := by decide +kernel
theorem dX9_settle_58 : decode cX9_settle 58 = .ok (.bipush (-3), 2) := by decide +kernel
theorem dX9_settle_60 : decode cX9_settle 60 = .ok (.if_icmp .eq 17, 3) := by decide +kernel
theorem dX9_settle_63 : decode cX9_settle 63 = .ok (.aload_n 0, 1) := by decide +kernel
theorem dX9_settle_64 : decode cX9_settle 64 = .ok (.getfield 119, 3) := by decide +kernel
theorem dX9_settle_67 : decode cX9_settle 67 = .ok (.aload_n 0, 1) := by decide +kernel
theorem dX9_settle_68 : decode cX9_settle 68 = .ok (.getfield 125, 3) := by decide +kernel
theorem dX9_settle_71 : decode cX9_settle 71 = .ok (.iaload, 1) := by decide +kernel
theorem dX9_settle_72 : decode cX9_settle 72 = .ok (.bipush (-9), 2) := by decide +kernel
theorem dX9_settle_74 : decode cX9_settle 74 = .ok (.if_icmp .ne (-74), 3) := by decide +kernel
theorem dX9_settle_77 : decode cX9_settle 77 = .ok (.aload_n 0, 1) := by decide +kernel
theorem dX9_settle_78 : decode cX9_settle 78 = .ok (.dup, 1) := by decide +kernel
theorem dX9_settle_79 : decode cX9_settle 79 = .ok (.getfield 131, 3) := by decide +kernel
theorem dX9_settle_82 : decode cX9_settle 82 = .ok (.iconst 1, 1) := by decide +kernel
theorem dX9_settle_83 : decode cX9_settle 83 = .ok (.isub, 1) := by decide +kernel
theorem dX9_settle_84 : decode cX9_settle 84 = .ok (.putfield 131, 3) := by decide +kernel
theorem dX9_settle_87 : decode cX9_settle 87 = .ok (.goto (-87), 3) := by decide +kernel
theorem dX9_settle_90 : decode cX9_settle 90 = .ok (.return_, 1) := by decide +kernel
theorem dX9_hold_0 : decode cX9_hold 0 = .ok (.aload_n 0, 1) := by decide +kernel
theorem dX9_hold_1 : decode cX9_hold 1 = .ok (.getfield 119, 3) := by decide +kernel
theorem dX9_hold_4 : decode cX9_hold 4 = .ok (.aload_n 0, 1) := by decide +kernel
theorem dX9_hold_5 : decode cX9_hold 5 = .ok (.getfield 125, 3) := by decide +kernel
theorem dX9_hold_8 : decode cX9_hold 8 = .ok (.iload_n 1, 1) := by decide +kernel
theorem dX9_hold_9 : decode cX9_hold 9 = .ok (.iastore, 1) := by decide +kernel
theorem dX9_hold_10 : decode cX9_hold 10 = .ok (.aload_n 0, 1) := by decide +kernel
theorem dX9_hold_11 : decode cX9_hold 11 = .ok (.dup, 1) := by decide +kernel
theorem dX9_hold_12 : decode cX9_hold 12 = .ok (.getfield 125, 3) := by decide +kernel
theorem dX9_hold_15 : decode cX9_hold 15 = .ok (.iconst 1, 1) := by decide +kernel
theorem dX9_hold_16 : decode cX9_hold 16 = .ok (.iadd, 1) := by decide +kernel
theorem dX9_hold_17 : decode cX9_hold 17 = .ok (.putfield 125, 3) := by decide +kernel
theorem dX9_hold_20 : decode cX9_hold 20 = .ok (.iload_n 1, 1) := by decide +kernel
theorem dX9_hold_21 : decode cX9_hold 21 = .ok (.bipush (-3), 2) := by decide +kernel
theorem dX9_hold_23 : decode cX9_hold 23 = .ok (.if_icmp .eq 15, 3) := by decide +kernel
theorem dX9_hold_26 : decode cX9_hold 26 = .ok (.iload_n 1, 1) := by decide +kernel
theorem dX9_hold_27 : decode cX9_hold 27 = .ok (.bipush (-9), 2) := by decide +kernel
theorem dX9_hold_29 : decode cX9_hold 29 = .ok (.if_icmp .eq 9, 3) := by decide +kernel
theorem dX9_hold_32 : decode cX9_hold 32 = .ok (.iload_n 1, 1) := by decide +kernel
theorem dX9_hold_33 : decode cX9_hold 33 = .ok (.bipush (-10), 2) := by decide +kernel
theorem dX9_hold_35 : decode cX9_hold 35 = .ok (.if_icmp .ne 13, 3) := by decide +kernel
theorem dX9_hold_38 : decode cX9_hold 38 = .ok (.aload_n 0, 1) := by decide +kernel
theorem dX9_hold_39 : decode cX9_hold 39 = .ok (.dup, 1) := by decide +kernel
theorem dX9_hold_40 : decode cX9_hold 40 = .ok (.getfield 131, 3) := by decide +kernel
theorem dX9_hold_43 : decode cX9_hold 43 = .ok (.iconst 1, 1) := by decide +kernel
theorem dX9_hold_44 : decode cX9_hold 44 = .ok (.iadd, 1) := by decide +kernel
theorem dX9_hold_45 : decode cX9_hold 45 = .ok (.putfield 131, 3) := by decide +kernel
theorem dX9_hold_48 : decode cX9_hold 48 = .ok (.return_, 1) := by decide +kernel
theorem dX9_ahead_0 : decode cX9_ahead 0 = .ok (.aload_n 0, 1) := by decide +kernel
theorem dX9_ahead_1 : decode cX9_ahead 1 = .ok (.getfield 110, 3) := by decide +kernel
theorem dX9_ahead_4 : decode cX9_ahead 4 = .ok (.iconst 1, 1) := by decide +kernel
theorem dX9_ahead_5 : decode cX9_ahead 5 = .ok (.if_icmp .eq 11, 3) := by decide +kernel
theorem dX9_ahead_8 : decode cX9_ahead 8 = .ok (.aload_n 0, 1) := by decide +kernel
theorem dX9_ahead_9 : decode cX9_ahead 9 = .ok (.getfield 110, 3) := by decide +kernel
theorem dX9_ahead_12 : decode cX9_ahead 12 = .ok (.iconst 2, 1) := by decide +kernel
theorem dX9_ahead_13 : decode cX9_ahead 13 = .ok (.if_icmp .ne 5, 3) := by decide +kernel
theorem dX9_ahead_16 : decode cX9_ahead 16 = .ok (.iconst 1, 1) := by decide +kernel
theorem dX9_ahead_17 : decode cX9_ahead 17 = .ok (.ireturn, 1) := by decide +kernel
theorem dX9_ahead_18 : decode cX9_ahead 18 = .ok (.aload_n 0, 1) := by decide +kernel
theorem dX9_ahead_19 : decode cX9_ahead 19 = .ok (.getfield 131, 3) := by decide +kernel
theorem dX9_ahead_22 : decode cX9_ahead 22 = .ok (.iconst 5, 1) := by decide +kernel
theorem dX9_ahead_23 : decode cX9_ahead 23 = .ok (.if_icmp .ne 5, 3) := by decide +kernel
theorem dX9_ahead_26 : decode cX9_ahead 26 = .ok (.iconst 0, 1) := by decide +kernel
theorem dX9_ahead_27 : decode cX9_ahead 27 = .ok (.ireturn, 1) := by decide +kernel
theorem dX9_ahead_28 : decode cX9_ahead 28 = .ok (.aload_n 0, 1) := by decide +kernel
theorem dX9_ahead_29 : decode cX9_ahead 29 = .ok (.iconst 4, 1) := by decide +kernel
theorem dX9_ahead_30 : decode cX9_ahead 30 = .ok (.invokevirtual 372, 3) := by decide +kernel
theorem dX9_ahead_33 : decode cX9_ahead 33 = .ok (.ifCond .eq 5, 3) := by decide +kernel
theorem dX9_ahead_36 : decode cX9_ahead 36 = .ok (.iload_n 1, 1) := by decide +kernel
theorem dX9_ahead_37 : decode cX9_ahead 37 = .ok (.ireturn, 1) := by decide +kernel
theorem dX9_ahead_38 : decode cX9_ahead 38 = .ok (.aload_n 0, 1) := by decide +kernel
theorem dX9_ahead_39 : decode cX9_ahead 39 = .ok (.bipush 40, 2) := by decide +kernel
theorem dX9_ahead_41 : decode cX9_ahead 41 = .ok (.invokevirtual 375, 3) := by decide +kernel
theorem dX9_ahead_44 : decode cX9_ahead 44 = .ok (.ifCond .ne 12, 3) := by decide +kernel
theorem dX9_ahead_47 : decode cX9_ahead 47 = .ok (.aload_n 0, 1) := by decide +kernel
theorem dX9_ahead_48 : decode cX9_ahead 48 = .ok (.bipush 45, 2) := by decide +kernel
theorem dX9_ahead_50 : decode cX9_ahead 50 = .ok (.invokevirtual 375, 3) := by decide +kernel
theorem dX9_ahead_53 : decode cX9_ahead 53 = .ok (.ifCond .eq 7, 3) := by decide +kernel
theorem dX9_ahead_56 : decode cX9_ahead 56 = .ok (.iconst 1, 1) := by decide +kernel
theorem dX9_ahead_57 : decode cX9_ahead 57 = .ok (.goto 4, 3) := by decide +kernel
theorem dX9_ahead_60 : decode cX9_ahead 60 = .ok (.iconst 0, 1) := by decide +kernel
theorem dX9_ahead_61 : decode cX9_ahead 61 = .ok (.ireturn, 1) := by decide +kernel
theorem dX9_signOf_0 : decode cX9_signOf 0 = .ok (.aload_n 0, 1) := by decide +kernel
theorem dX9_signOf_1 : decode cX9_signOf 1 = .ok (.iconst 2, 1) := by decide +kernel
theorem dX9_signOf_2 : decode cX9_signOf 2 = .ok (.invokevirtual 372, 3) := by decide +kernel
theorem dX9_signOf_5 : decode cX9_signOf 5 = .ok (.ifCond .eq 7, 3) := by decide +kernel
theorem dX9_signOf_8 : decode cX9_signOf 8 = .ok (.iconst (-1), 1) := by decide +kernel
theorem dX9_signOf_9 : decode cX9_signOf 9 = .ok (.goto 87, 3) := by decide +kernel
theorem dX9_signOf_12 : decode cX9_signOf 12 = .ok (.aload_n 0, 1) := by decide +kernel
theorem dX9_signOf_13 : decode cX9_signOf 13 = .ok (.iconst 3, 1) := by decide +kernel
theorem dX9_signOf_14 : decode cX9_signOf 14 = .ok (.invokevirtual 372, 3) := by decide +kernel
theorem dX9_signOf_17 : decode cX9_signOf 17 = .ok (.ifCond .eq 8, 3) := by decide +kernel
theorem dX9_signOf_20 : decode cX9_signOf 20 = .ok (.bipush (-2), 2) := by decide +kernel
theorem dX9_signOf_22 : decode cX9_signOf 22 = .ok (.goto 74, 3) := by decide +kernel
theorem dX9_signOf_25 : decode cX9_signOf 25 = .ok (.aload_n 0, 1) := by decide +kernel
theorem dX9_signOf_26 : decode cX9_signOf 26 = .ok (.bipush 60, 2) := by decide +kernel
theorem dX9_signOf_28 : decode cX9_signOf 28 = .ok (.invokevirtual 375, 3) := by decide +kernel
theorem dX9_signOf_31 : decode cX9_signOf 31 = .ok (.ifCond .eq 8, 3) := by decide +kernel
theorem dX9_signOf_34 : decode cX9_signOf 34 = .ok (.bipush (-4), 2) := by decide +kernel
theorem dX9_signOf_36 : decode cX9_signOf 36 = .ok (.goto 60, 3) := by decide +kernel
theorem dX9_signOf_39 : decode cX9_signOf 39 = .ok (.aload_n 0, 1) := by decide +kernel
theorem dX9_signOf_40 : decode cX9_signOf 40 = .ok (.bipush 61, 2) := by decide +kernel
theorem dX9_signOf_42 : decode cX9_signOf 42 = .ok (.invokevirtual 375, 3) := by decide +kernel
theorem dX9_signOf_45 : decode cX9_signOf 45 = .ok (.ifCond .eq 8, 3) := by decide +kernel
theorem dX9_signOf_48 : decode cX9_signOf 48 = .ok (.bipush (-5), 2) := by decide +kernel
theorem dX9_signOf_50 : decode cX9_signOf 50 = .ok (.goto 46, 3) := by decide +kernel
theorem dX9_signOf_53 : decode cX9_signOf 53 = .ok (.aload_n 0, 1) := by decide +kernel
theorem dX9_signOf_54 : decode cX9_signOf 54 = .ok (.bipush 43, 2) := by decide +kernel
theorem dX9_signOf_56 : decode cX9_signOf 56 = .ok (.invokevirtual 375, 3) := by decide +kernel
theorem dX9_signOf_59 : decode cX9_signOf 59 = .ok (.ifCond .eq 8, 3) := by decide +kernel
theorem dX9_signOf_62 : decode cX9_signOf 62 = .ok (.bipush (-6), 2) := by decide +kernel
theorem dX9_signOf_64 : decode cX9_signOf 64 = .ok (.goto 32, 3) := by decide +kernel
theorem dX9_signOf_67 : decode cX9_signOf 67 = .ok (.aload_n 0, 1) := by decide +kernel
theorem dX9_signOf_68 : decode cX9_signOf 68 = .ok (.bipush 45, 2) := by decide +kernel
theorem dX9_signOf_70 : decode cX9_signOf 70 = .ok (.invokevirtual 375, 3) := by decide +kernel
theorem dX9_signOf_73 : decode cX9_signOf 73 = .ok (.ifCond .eq 8, 3) := by decide +kernel
theorem dX9_signOf_76 : decode cX9_signOf 76 = .ok (.bipush (-7), 2) := by decide +kernel
theorem dX9_signOf_78 : decode cX9_signOf 78 = .ok (.goto 18, 3) := by decide +kernel
theorem dX9_signOf_81 : decode cX9_signOf 81 = .ok (.aload_n 0, 1) := by decide +kernel
theorem dX9_signOf_82 : decode cX9_signOf 82 = .ok (.bipush 42, 2) := by decide +kernel
theorem dX9_signOf_84 : decode cX9_signOf 84 = .ok (.invokevirtual 375, 3) := by decide +kernel
theorem dX9_signOf_87 : decode cX9_signOf 87 = .ok (.ifCond .eq 8, 3) := by decide +kernel
theorem dX9_signOf_90 : decode cX9_signOf 90 = .ok (.bipush (-8), 2) := by decide +kernel
theorem dX9_signOf_92 : decode cX9_signOf 92 = .ok (.goto 4, 3) := by decide +kernel
theorem dX9_signOf_95 : decode cX9_signOf 95 = .ok (.iconst 0, 1) := by decide +kernel
theorem dX9_signOf_96 : decode cX9_signOf 96 = .ok (.ireturn, 1) := by decide +kernel
theorem dX9_part_0 : decode cX9_part 0 = .ok (.aload_n 0, 1) := by decide +kernel
theorem dX9_part_1 : decode cX9_part 1 = .ok (.iconst 0, 1) := by decide +kernel
theorem dX9_part_2 : decode cX9_part 2 = .ok (.putfield 125, 3) := by decide +kernel
theorem dX9_part_5 : decode cX9_part 5 = .ok (.aload_n 0, 1) := by decide +kernel
theorem dX9_part_6 : decode cX9_part 6 = .ok (.iconst 0, 1) := by decide +kernel
theorem dX9_part_7 : decode cX9_part 7 = .ok (.putfield 128, 3) := by decide +kernel
theorem dX9_part_10 : decode cX9_part 10 = .ok (.aload_n 0, 1) := by decide +kernel
theorem dX9_part_11 : decode cX9_part 11 = .ok (.iconst 0, 1) := by decide +kernel
theorem dX9_part_12 : decode cX9_part 12 = .ok (.putfield 131, 3) := by decide +kernel
theorem dX9_part_15 : decode cX9_part 15 = .ok (.aload_n 0, 1) := by decide +kernel
theorem dX9_part_16 : decode cX9_part 16 = .ok (.getfield 101, 3) := by decide +kernel
theorem dX9_part_19 : decode cX9_part 19 = .ok (.aload_n 0, 1) := by decide +kernel
theorem dX9_part_20 : decode cX9_part 20 = .ok (.getfield 134, 3) := by decide +kernel
theorem dX9_part_23 : decode cX9_part 23 = .ok (.iconst 0, 1) := by decide +kernel
theorem dX9_part_24 : decode cX9_part 24 = .ok (.iastore, 1) := by decide +kernel
theorem dX9_part_25 : decode cX9_part 25 = .ok (.aload_n 0, 1) := by decide +kernel
theorem dX9_part_26 : decode cX9_part 26 = .ok (.getfield 122, 3) := by decide +kernel
theorem dX9_part_29 : decode cX9_part 29 = .ok (.iconst 0, 1) := by decide +kernel
theorem dX9_part_30 : decode cX9_part 30 = .ok (.iconst 0, 1) := by decide +kernel
theorem dX9_part_31 : decode cX9_part 31 = .ok (.bastore, 1) := by decide +kernel
theorem dX9_part_32 : decode cX9_part 32 = .ok (.iconst 1, 1) := by decide +kernel
theorem dX9_part_33 : decode cX9_part 33 = .ok (.istore_n 1, 1) := by decide +kernel
theorem dX9_part_34 : decode cX9_part 34 = .ok (.iconst 1, 1) := by decide +kernel
theorem dX9_part_35 : decode cX9_part 35 = .ok (.istore_n 2, 1) := by decide +kernel
theorem dX9_part_36 : decode cX9_part 36 = .ok (.iload_n 1, 1) := by decide +kernel
theorem dX9_part_37 : decode cX9_part 37 = .ok (.ifCond .eq 132, 3) := by decide +kernel
theorem dX9_part_40 : decode cX9_part 40 = .ok (.aload_n 0, 1) := by decide +kernel
