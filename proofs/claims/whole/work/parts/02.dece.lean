theorem dX9_isOne_64 : decode cX9_isOne 64 = .ok (.invokevirtual 229, 3) := by decide +kernel
theorem dX9_isOne_67 : decode cX9_isOne 67 = .ok (.ifCond .eq 7, 3) := by decide +kernel
theorem dX9_isOne_70 : decode cX9_isOne 70 = .ok (.iconst 1, 1) := by decide +kernel
theorem dX9_isOne_71 : decode cX9_isOne 71 = .ok (.goto 4, 3) := by decide +kernel
theorem dX9_isOne_74 : decode cX9_isOne 74 = .ok (.iconst 0, 1) := by decide +kernel
theorem dX9_isOne_75 : decode cX9_isOne 75 = .ok (.ireturn, 1) := by decide +kernel
theorem dX9_isShutRight_0 : decode cX9_isShutRight 0 = .ok (.iload_n 1, 1) := by decide +kernel
theorem dX9_isShutRight_1 : decode cX9_isShutRight 1 = .ok (.ifCond .eq 23, 3) := by decide +kernel
theorem dX9_isShutRight_4 : decode cX9_isShutRight 4 = .ok (.aload_n 0, 1) := by decide +kernel
theorem dX9_isShutRight_5 : decode cX9_isShutRight 5 = .ok (.invokevirtual 166, 3) := by decide +kernel
theorem dX9_isShutRight_8 : decode cX9_isShutRight 8 = .ok (.ifCond .le 20, 3) := by decide +kernel
theorem dX9_isShutRight_11 : decode cX9_isShutRight 11 = .ok (.iload_n 1, 1) := by decide +kernel
theorem dX9_isShutRight_12 : decode cX9_isShutRight 12 = .ok (.iconst 3, 1) := by decide +kernel
theorem dX9_isShutRight_13 : decode cX9_isShutRight 13 = .ok (.if_icmp .lt 11, 3) := by decide +kernel
theorem dX9_isShutRight_16 : decode cX9_isShutRight 16 = .ok (.aload_n 0, 1) := by decide +kernel
theorem dX9_isShutRight_17 : decode cX9_isShutRight 17 = .ok (.invokevirtual 166, 3) := by decide +kernel
theorem dX9_isShutRight_20 : decode cX9_isShutRight 20 = .ok (.iconst 2, 1) := by decide +kernel
theorem dX9_isShutRight_21 : decode cX9_isShutRight 21 = .ok (.if_icmp .ne 7, 3) := by decide +kernel
theorem dX9_isShutRight_24 : decode cX9_isShutRight 24 = .ok (.iconst 1, 1) := by decide +kernel
theorem dX9_isShutRight_25 : decode cX9_isShutRight 25 = .ok (.goto 4, 3) := by decide +kernel
theorem dX9_isShutRight_28 : decode cX9_isShutRight 28 = .ok (.iconst 0, 1) := by decide +kernel
theorem dX9_isShutRight_29 : decode cX9_isShutRight 29 = .ok (.ireturn, 1) := by decide +kernel
theorem dX9_isOf_0 : decode cX9_isOf 0 = .ok (.aload_n 0, 1) := by decide +kernel
theorem dX9_isOf_1 : decode cX9_isOf 1 = .ok (.iload_n 1, 1) := by decide +kernel
theorem dX9_isOf_2 : decode cX9_isOf 2 = .ok (.invokevirtual 207, 3) := by decide +kernel
theorem dX9_isOf_5 : decode cX9_isOf 5 = .ok (.iconst 1, 1) := by decide +kernel
theorem dX9_isOf_6 : decode cX9_isOf 6 = .ok (.if_icmp .ne 7, 3) := by decide +kernel
theorem dX9_isOf_9 : decode cX9_isOf 9 = .ok (.iconst 1, 1) := by decide +kernel
theorem dX9_isOf_10 : decode cX9_isOf 10 = .ok (.goto 4, 3) := by decide +kernel
theorem dX9_isOf_13 : decode cX9_isOf 13 = .ok (.iconst 0, 1) := by decide +kernel
theorem dX9_isOf_14 : decode cX9_isOf 14 = .ok (.istore_n 3, 1) := by decide +kernel
theorem dX9_isOf_15 : decode cX9_isOf 15 = .ok (.iconst 0, 1) := by decide +kernel
theorem dX9_isOf_16 : decode cX9_isOf 16 = .ok (.istore 4, 2) := by decide +kernel
theorem dX9_isOf_18 : decode cX9_isOf 18 = .ok (.iconst 0, 1) := by decide +kernel
theorem dX9_isOf_19 : decode cX9_isOf 19 = .ok (.istore 5, 2) := by decide +kernel
theorem dX9_isOf_21 : decode cX9_isOf 21 = .ok (.iload 5, 2) := by decide +kernel
theorem dX9_isOf_23 : decode cX9_isOf 23 = .ok (.iload_n 3, 1) := by decide +kernel
theorem dX9_isOf_24 : decode cX9_isOf 24 = .ok (.ifCond .eq 8, 3) := by decide +kernel
theorem dX9_isOf_27 : decode cX9_isOf 27 = .ok (.bipush 16, 2) := by decide +kernel
theorem dX9_isOf_29 : decode cX9_isOf 29 = .ok (.goto 5, 3) := by decide +kernel
theorem dX9_isOf_32 : decode cX9_isOf 32 = .ok (.bipush 32, 2) := by decide +kernel
theorem dX9_isOf_34 : decode cX9_isOf 34 = .ok (.if_icmp .gt 67, 3) := by decide +kernel
theorem dX9_isOf_37 : decode cX9_isOf 37 = .ok (.aload_n 0, 1) := by decide +kernel
theorem dX9_isOf_38 : decode cX9_isOf 38 = .ok (.iload_n 1, 1) := by decide +kernel
theorem dX9_isOf_39 : decode cX9_isOf 39 = .ok (.iload 5, 2) := by decide +kernel
theorem dX9_isOf_41 : decode cX9_isOf 41 = .ok (.invokevirtual 220, 3) := by decide +kernel
theorem dX9_isOf_44 : decode cX9_isOf 44 = .ok (.istore 6, 2) := by decide +kernel
theorem dX9_isOf_46 : decode cX9_isOf 46 = .ok (.iload 6, 2) := by decide +kernel
theorem dX9_isOf_48 : decode cX9_isOf 48 = .ok (.ifCond .ge 6, 3) := by decide +kernel
theorem dX9_isOf_51 : decode cX9_isOf 51 = .ok (.goto 44, 3) := by decide +kernel
theorem dX9_isOf_54 : decode cX9_isOf 54 = .ok (.aload_n 0, 1) := by decide +kernel
theorem dX9_isOf_55 : decode cX9_isOf 55 = .ok (.getfield 40, 3) := by decide +kernel
theorem dX9_isOf_58 : decode cX9_isOf 58 = .ok (.iload 6, 2) := by decide +kernel
theorem dX9_isOf_60 : decode cX9_isOf 60 = .ok (.iaload, 1) := by decide +kernel
theorem dX9_isOf_61 : decode cX9_isOf 61 = .ok (.ifCond .ge 9, 3) := by decide +kernel
theorem dX9_isOf_64 : decode cX9_isOf 64 = .ok (.iload_n 3, 1) := by decide +kernel
theorem dX9_isOf_65 : decode cX9_isOf 65 = .ok (.ifCond .eq 5, 3) := by decide +kernel
theorem dX9_isOf_68 : decode cX9_isOf 68 = .ok (.iconst 0, 1) := by decide +kernel
theorem dX9_isOf_69 : decode cX9_isOf 69 = .ok (.ireturn, 1) := by decide +kernel
theorem dX9_isOf_70 : decode cX9_isOf 70 = .ok (.iload 4, 2) := by decide +kernel
theorem dX9_isOf_72 : decode cX9_isOf 72 = .ok (.ifCond .ne 16, 3) := by decide +kernel
theorem dX9_isOf_75 : decode cX9_isOf 75 = .ok (.aload_n 0, 1) := by decide +kernel
theorem dX9_isOf_76 : decode cX9_isOf 76 = .ok (.getfield 40, 3) := by decide +kernel
theorem dX9_isOf_79 : decode cX9_isOf 79 = .ok (.iload 6, 2) := by decide +kernel
theorem dX9_isOf_81 : decode cX9_isOf 81 = .ok (.iaload, 1) := by decide +kernel
theorem dX9_isOf_82 : decode cX9_isOf 82 = .ok (.iload_n 2, 1) := by decide +kernel
theorem dX9_isOf_83 : decode cX9_isOf 83 = .ok (.iconst 1, 1) := by decide +kernel
theorem dX9_isOf_84 : decode cX9_isOf 84 = .ok (.isub, 1) := by decide +kernel
theorem dX9_isOf_85 : decode cX9_isOf 85 = .ok (.if_icmp .ne 7, 3) := by decide +kernel
theorem dX9_isOf_88 : decode cX9_isOf 88 = .ok (.iconst 1, 1) := by decide +kernel
theorem dX9_isOf_89 : decode cX9_isOf 89 = .ok (.goto 4, 3) := by decide +kernel
theorem dX9_isOf_92 : decode cX9_isOf 92 = .ok (.iconst 0, 1) := by decide +kernel
theorem dX9_isOf_93 : decode cX9_isOf 93 = .ok (.istore 4, 2) := by decide +kernel
theorem dX9_isOf_95 : decode cX9_isOf 95 = .ok (.iinc 5 1, 3) := by decide +kernel
theorem dX9_isOf_98 : decode cX9_isOf 98 = .ok (.goto (-77), 3) := by decide +kernel
theorem dX9_isOf_101 : decode cX9_isOf 101 = .ok (.iload 4, 2) := by decide +kernel
theorem dX9_isOf_103 : decode cX9_isOf 103 = .ok (.ireturn, 1) := by decide +kernel
theorem dX9_solve_0 : decode cX9_solve 0 = .ok (.aload_n 0, 1) := by decide +kernel
theorem dX9_solve_1 : decode cX9_solve 1 = .ok (.getfield 36, 3) := by decide +kernel
theorem dX9_solve_4 : decode cX9_solve 4 = .ok (.ifCond .eq 4, 3) := by decide +kernel
theorem dX9_solve_7 : decode cX9_solve 7 = .ok (.return_, 1) := by decide +kernel
theorem dX9_solve_8 : decode cX9_solve 8 = .ok (.aload_n 0, 1) := by decide +kernel
theorem dX9_solve_9 : decode cX9_solve 9 = .ok (.iconst 1, 1) := by decide +kernel
theorem dX9_solve_10 : decode cX9_solve 10 = .ok (.putfield 36, 3) := by decide +kernel
theorem dX9_solve_13 : decode cX9_solve 13 = .ok (.iconst 0, 1) := by decide +kernel
theorem dX9_solve_14 : decode cX9_solve 14 = .ok (.istore_n 1, 1) := by decide +kernel
theorem dX9_solve_15 : decode cX9_solve 15 = .ok (.iload_n 1, 1) := by decide +kernel
theorem dX9_solve_16 : decode cX9_solve 16 = .ok (.sipush 9216, 3) := by decide +kernel
theorem dX9_solve_19 : decode cX9_solve 19 = .ok (.if_icmp .ge 36, 3) := by decide +kernel
theorem dX9_solve_22 : decode cX9_solve 22 = .ok (.aload_n 0, 1) := by decide +kernel
theorem dX9_solve_23 : decode cX9_solve 23 = .ok (.getfield 40, 3) := by decide +kernel
theorem dX9_solve_26 : decode cX9_solve 26 = .ok (.iload_n 1, 1) := by decide +kernel
theorem dX9_solve_27 : decode cX9_solve 27 = .ok (.aload_n 0, 1) := by decide +kernel
theorem dX9_solve_28 : decode cX9_solve 28 = .ok (.iload_n 1, 1) := by decide +kernel
theorem dX9_solve_29 : decode cX9_solve 29 = .ok (.invokevirtual 232, 3) := by decide +kernel
theorem dX9_solve_32 : decode cX9_solve 32 = .ok (.ifCond .eq 15, 3) := by decide +kernel
theorem dX9_solve_35 : decode cX9_solve 35 = .ok (.aload_n 0, 1) := by decide +kernel
theorem dX9_solve_36 : decode cX9_solve 36 = .ok (.iload_n 1, 1) := by decide +kernel
theorem dX9_solve_37 : decode cX9_solve 37 = .ok (.invokevirtual 235, 3) := by decide +kernel
theorem dX9_solve_40 : decode cX9_solve 40 = .ok (.ifCond .eq 7, 3) := by decide +kernel
theorem dX9_solve_43 : decode cX9_solve 43 = .ok (.iconst 0, 1) := by decide +kernel
theorem dX9_solve_44 : decode cX9_solve 44 = .ok (.goto 4, 3) := by decide +kernel
theorem dX9_solve_47 : decode cX9_solve 47 = .ok (.iconst (-1), 1) := by decide +kernel
theorem dX9_solve_48 : decode cX9_solve 48 = .ok (.iastore, 1) := by decide +kernel
theorem dX9_solve_49 : decode cX9_solve 49 = .ok (.iinc 1 1, 3) := by decide +kernel
theorem dX9_solve_52 : decode cX9_solve 52 = .ok (.goto (-37), 3) := by decide +kernel
theorem dX9_solve_55 : decode cX9_solve 55 = .ok (.iconst 1, 1) := by decide +kernel
theorem dX9_solve_56 : decode cX9_solve 56 = .ok (.istore_n 1, 1) := by decide +kernel
theorem dX9_solve_57 : decode cX9_solve 57 = .ok (.iconst 1, 1) := by decide +kernel
theorem dX9_solve_58 : decode cX9_solve 58 = .ok (.istore_n 2, 1) := by decide +kernel
theorem dX9_solve_59 : decode cX9_solve 59 = .ok (.iload_n 1, 1) := by decide +kernel
theorem dX9_solve_60 : decode cX9_solve 60 = .ok (.ifCond .eq 99, 3) := by decide +kernel
theorem dX9_solve_63 : decode cX9_solve 63 = .ok (.iconst 0, 1) := by decide +kernel
theorem dX9_solve_64 : decode cX9_solve 64 = .ok (.istore_n 1, 1) := by decide +kernel
theorem dX9_solve_65 : decode cX9_solve 65 = .ok (.iconst 0, 1) := by decide +kernel
theorem dX9_solve_66 : decode cX9_solve 66 = .ok (.istore_n 3, 1) := by decide +kernel
theorem dX9_solve_67 : decode cX9_solve 67 = .ok (.iload_n 3, 1) := by decide +kernel
theorem dX9_solve_68 : decode cX9_solve 68 = .ok (.sipush 9216, 3) := by decide +kernel
theorem dX9_solve_71 : decode cX9_solve 71 = .ok (.if_icmp .ge 46, 3) := by decide +kernel
theorem dX9_solve_74 : decode cX9_solve 74 = .ok (.aload_n 0, 1) := by decide +kernel
theorem dX9_solve_75 : decode cX9_solve 75 = .ok (.getfield 43, 3) := by decide +kernel
theorem dX9_solve_78 : decode cX9_solve 78 = .ok (.iload_n 3, 1) := by decide +kernel
theorem dX9_solve_79 : decode cX9_solve 79 = .ok (.aload_n 0, 1) := by decide +kernel
theorem dX9_solve_80 : decode cX9_solve 80 = .ok (.getfield 40, 3) := by decide +kernel
theorem dX9_solve_83 : decode cX9_solve 83 = .ok (.iload_n 3, 1) := by decide +kernel
theorem dX9_solve_84 : decode cX9_solve 84 = .ok (.iaload, 1) := by decide +kernel
theorem dX9_solve_85 : decode cX9_solve 85 = .ok (.ifCond .ge 24, 3) := by decide +kernel
theorem dX9_solve_88 : decode cX9_solve 88 = .ok (.aload_n 0, 1) := by decide +kernel
theorem dX9_solve_89 : decode cX9_solve 89 = .ok (.iload_n 3, 1) := by decide +kernel
theorem dX9_solve_90 : decode cX9_solve 90 = .ok (.invokevirtual 232, 3) := by decide +kernel
theorem dX9_solve_93 : decode cX9_solve 93 = .ok (.ifCond .eq 16, 3) := by decide +kernel
theorem dX9_solve_96 : decode cX9_solve 96 = .ok (.aload_n 0, 1) := by decide +kernel
theorem dX9_solve_97 : decode cX9_solve 97 = .ok (.iload_n 3, 1) := by decide +kernel
theorem dX9_solve_98 : decode cX9_solve 98 = .ok (.iload_n 2, 1) := by decide +kernel
theorem dX9_solve_99 : decode cX9_solve 99 = .ok (.invokevirtual 238, 3) := by decide +kernel
theorem dX9_solve_102 : decode cX9_solve 102 = .ok (.ifCond .eq 7, 3) := by decide +kernel
theorem dX9_solve_105 : decode cX9_solve 105 = .ok (.iconst 1, 1) := by decide +kernel
theorem dX9_solve_106 : decode cX9_solve 106 = .ok (.goto 4, 3) := by decide +kernel
theorem dX9_solve_109 : decode cX9_solve 109 = .ok (.iconst 0, 1) := by decide +kernel
theorem dX9_solve_110 : decode cX9_solve 110 = .ok (.bastore, 1) := by decide +kernel
theorem dX9_solve_111 : decode cX9_solve 111 = .ok (.iinc 3 1, 3) := by decide +kernel
theorem dX9_solve_114 : decode cX9_solve 114 = .ok (.goto (-47), 3) := by decide +kernel
theorem dX9_solve_117 : decode cX9_solve 117 = .ok (.iconst 0, 1) := by decide +kernel
theorem dX9_solve_118 : decode cX9_solve 118 = .ok (.istore_n 3, 1) := by decide +kernel
theorem dX9_solve_119 : decode cX9_solve 119 = .ok (.iload_n 3, 1) := by decide +kernel
theorem dX9_solve_120 : decode cX9_solve 120 = .ok (.sipush 9216, 3) := by decide +kernel
theorem dX9_solve_123 : decode cX9_solve 123 = .ok (.if_icmp .ge 30, 3) := by decide +kernel
theorem dX9_solve_126 : decode cX9_solve 126 = .ok (.aload_n 0, 1) := by decide +kernel
theorem dX9_solve_127 : decode cX9_solve 127 = .ok (.getfield 43, 3) := by decide +kernel
theorem dX9_solve_130 : decode cX9_solve 130 = .ok (.iload_n 3, 1) := by decide +kernel
theorem dX9_solve_131 : decode cX9_solve 131 = .ok (.baload, 1) := by decide +kernel
theorem dX9_solve_132 : decode cX9_solve 132 = .ok (.ifCond .ne 6, 3) := by decide +kernel
theorem dX9_solve_135 : decode cX9_solve 135 = .ok (.goto 12, 3) := by decide +kernel
theorem dX9_solve_138 : decode cX9_solve 138 = .ok (.aload_n 0, 1) := by decide +kernel
theorem dX9_solve_139 : decode cX9_solve 139 = .ok (.getfield 40, 3) := by decide +kernel
theorem dX9_solve_142 : decode cX9_solve 142 = .ok (.iload_n 3, 1) := by decide +kernel
theorem dX9_solve_143 : decode cX9_solve 143 = .ok (.iload_n 2, 1) := by decide +kernel
theorem dX9_solve_144 : decode cX9_solve 144 = .ok (.iastore, 1) := by decide +kernel
theorem dX9_solve_145 : decode cX9_solve 145 = .ok (.iconst 1, 1) := by decide +kernel
theorem dX9_solve_146 : decode cX9_solve 146 = .ok (.istore_n 1, 1) := by decide +kernel
theorem dX9_solve_147 : decode cX9_solve 147 = .ok (.iinc 3 1, 3) := by decide +kernel
theorem dX9_solve_150 : decode cX9_solve 150 = .ok (.goto (-31), 3) := by decide +kernel
theorem dX9_solve_153 : decode cX9_solve 153 = .ok (.iinc 2 1, 3) := by decide +kernel
theorem dX9_solve_156 : decode cX9_solve 156 = .ok (.goto (-97), 3) := by decide +kernel
theorem dX9_solve_159 : decode cX9_solve 159 = .ok (.return_, 1) := by decide +kernel
theorem dX9_standingOf_0 : decode cX9_standingOf 0 = .ok (.aload_n 0, 1) := by decide +kernel
theorem dX9_standingOf_1 : decode cX9_standingOf 1 = .ok (.getfield 13, 3) := by decide +kernel
theorem dX9_standingOf_4 : decode cX9_standingOf 4 = .ok (.iconst 1, 1) := by decide +kernel
theorem dX9_standingOf_5 : decode cX9_standingOf 5 = .ok (.if_icmp .ne 7, 3) := by decide +kernel
theorem dX9_standingOf_8 : decode cX9_standingOf 8 = .ok (.iload_n 1, 1) := by decide +kernel
theorem dX9_standingOf_9 : decode cX9_standingOf 9 = .ok (.goto 4, 3) := by decide +kernel
theorem dX9_standingOf_12 : decode cX9_standingOf 12 = .ok (.iload_n 2, 1) := by decide +kernel
theorem dX9_standingOf_13 : decode cX9_standingOf 13 = .ok (.istore 6, 2) := by decide +kernel
theorem dX9_standingOf_15 : decode cX9_standingOf 15 = .ok (.aload_n 0, 1) := by decide +kernel
theorem dX9_standingOf_16 : decode cX9_standingOf 16 = .ok (.iload_n 1, 1) := by decide +kernel
theorem dX9_standingOf_17 : decode cX9_standingOf 17 = .ok (.invokevirtual 163, 3) := by decide +kernel
theorem dX9_standingOf_20 : decode cX9_standingOf 20 = .ok (.ifCond .eq 66, 3) := by decide +kernel
theorem dX9_standingOf_23 : decode cX9_standingOf 23 = .ok (.aload_n 0, 1) := by decide +kernel
theorem dX9_standingOf_24 : decode cX9_standingOf 24 = .ok (.iload 6, 2) := by decide +kernel
theorem dX9_standingOf_26 : decode cX9_standingOf 26 = .ok (.invokevirtual 163, 3) := by decide +kernel
theorem dX9_standingOf_29 : decode cX9_standingOf 29 = .ok (.ifCond .eq 57, 3) := by decide +kernel
theorem dX9_standingOf_32 : decode cX9_standingOf 32 = .ok (.aload_n 0, 1) := by decide +kernel
theorem dX9_standingOf_33 : decode cX9_standingOf 33 = .ok (.iload_n 3, 1) := by decide +kernel
theorem dX9_standingOf_34 : decode cX9_standingOf 34 = .ok (.invokevirtual 163, 3) := by decide +kernel
theorem dX9_standingOf_37 : decode cX9_standingOf 37 = .ok (.ifCond .eq 49, 3) := by decide +kernel
theorem dX9_standingOf_40 : decode cX9_standingOf 40 = .ok (.aload_n 0, 1) := by decide +kernel
theorem dX9_standingOf_41 : decode cX9_standingOf 41 = .ok (.iload 4, 2) := by decide +kernel
theorem dX9_standingOf_43 : decode cX9_standingOf 43 = .ok (.iconst 0, 1) := by decide +kernel
theorem dX9_standingOf_44 : decode cX9_standingOf 44 = .ok (.iconst 1, 1) := by decide +kernel
theorem dX9_standingOf_45 : decode cX9_standingOf 45 = .ok (.invokevirtual 155, 3) := by decide +kernel
theorem dX9_standingOf_48 : decode cX9_standingOf 48 = .ok (.ifCond .eq 38, 3) := by decide +kernel
theorem dX9_standingOf_51 : decode cX9_standingOf 51 = .ok (.aload_n 0, 1) := by decide +kernel
theorem dX9_standingOf_52 : decode cX9_standingOf 52 = .ok (.iload 5, 2) := by decide +kernel
theorem dX9_standingOf_54 : decode cX9_standingOf 54 = .ok (.iconst 0, 1) := by decide +kernel
theorem dX9_standingOf_55 : decode cX9_standingOf 55 = .ok (.bipush 8, 2) := by decide +kernel
theorem dX9_standingOf_57 : decode cX9_standingOf 57 = .ok (.invokevirtual 155, 3) := by decide +kernel
theorem dX9_standingOf_60 : decode cX9_standingOf 60 = .ok (.ifCond .eq 26, 3) := by decide +kernel
theorem dX9_standingOf_63 : decode cX9_standingOf 63 = .ok (.aload_n 0, 1) := by decide +kernel
theorem dX9_standingOf_64 : decode cX9_standingOf 64 = .ok (.iload 5, 2) := by decide +kernel
theorem dX9_standingOf_66 : decode cX9_standingOf 66 = .ok (.invokevirtual 229, 3) := by decide +kernel
theorem dX9_standingOf_69 : decode cX9_standingOf 69 = .ok (.ifCond .eq 17, 3) := by decide +kernel
theorem dX9_standingOf_72 : decode cX9_standingOf 72 = .ok (.iload 5, 2) := by decide +kernel
theorem dX9_standingOf_74 : decode cX9_standingOf 74 = .ok (.iconst 3, 1) := by decide +kernel
theorem dX9_standingOf_75 : decode cX9_standingOf 75 = .ok (.irem, 1) := by decide +kernel
theorem dX9_standingOf_76 : decode cX9_standingOf 76 = .ok (.ifCond .le 12, 3) := by decide +kernel
theorem dX9_standingOf_79 : decode cX9_standingOf 79 = .ok (.aload_n 0, 1) := by decide +kernel
theorem dX9_standingOf_80 : decode cX9_standingOf 80 = .ok (.invokevirtual 166, 3) := by decide +kernel
theorem dX9_standingOf_83 : decode cX9_standingOf 83 = .ok (.ifCond .ne 5, 3) := by decide +kernel
theorem dX9_standingOf_86 : decode cX9_standingOf 86 = .ok (.iconst (-1), 1) := by decide +kernel
theorem dX9_standingOf_87 : decode cX9_standingOf 87 = .ok (.ireturn, 1) := by decide +kernel
theorem dX9_standingOf_88 : decode cX9_standingOf 88 = .ok (.aload_n 0, 1) := by decide +kernel
theorem dX9_standingOf_89 : decode cX9_standingOf 89 = .ok (.iload_n 1, 1) := by decide +kernel
theorem dX9_standingOf_90 : decode cX9_standingOf 90 = .ok (.iload 6, 2) := by decide +kernel
theorem dX9_standingOf_92 : decode cX9_standingOf 92 = .ok (.iload_n 3, 1) := by decide +kernel
theorem dX9_standingOf_93 : decode cX9_standingOf 93 = .ok (.iload 4, 2) := by decide +kernel
theorem dX9_standingOf_95 : decode cX9_standingOf 95 = .ok (.iload 5, 2) := by decide +kernel
theorem dX9_standingOf_97 : decode cX9_standingOf 97 = .ok (.invokevirtual 217, 3) := by decide +kernel
theorem dX9_standingOf_100 : decode cX9_standingOf 100 = .ok (.ireturn, 1) := by decide +kernel
theorem dX9_length_0 : decode cX9_length 0 = .ok (.aload_n 0, 1) := by decide +kernel
theorem dX9_length_1 : decode cX9_length 1 = .ok (.iload_n 1, 1) := by decide +kernel
theorem dX9_length_2 : decode cX9_length 2 = .ok (.iload_n 2, 1) := by decide +kernel
theorem dX9_length_3 : decode cX9_length 3 = .ok (.iload_n 3, 1) := by decide +kernel
theorem dX9_length_4 : decode cX9_length 4 = .ok (.iload 4, 2) := by decide +kernel
theorem dX9_length_6 : decode cX9_length 6 = .ok (.iload 5, 2) := by decide +kernel
theorem dX9_length_8 : decode cX9_length 8 = .ok (.invokevirtual 241, 3) := by decide +kernel
theorem dX9_length_11 : decode cX9_length 11 = .ok (.istore 6, 2) := by decide +kernel
theorem dX9_length_13 : decode cX9_length 13 = .ok (.iload 6, 2) := by decide +kernel
theorem dX9_length_15 : decode cX9_length 15 = .ok (.ifCond .ge 6, 3) := by decide +kernel
theorem dX9_length_18 : decode cX9_length 18 = .ok (.bipush (-2), 2) := by decide +kernel
theorem dX9_length_20 : decode cX9_length 20 = .ok (.ireturn, 1) := by decide +kernel
theorem dX9_length_21 : decode cX9_length 21 = .ok (.aload_n 0, 1) := by decide +kernel
theorem dX9_length_22 : decode cX9_length 22 = .ok (.invokevirtual 244, 3) := by decide +kernel
theorem dX9_length_25 : decode cX9_length 25 = .ok (.aload_n 0, 1) := by decide +kernel
theorem dX9_length_26 : decode cX9_length 26 = .ok (.getfield 40, 3) := by decide +kernel
theorem dX9_length_29 : decode cX9_length 29 = .ok (.iload 6, 2) := by decide +kernel
theorem dX9_length_31 : decode cX9_length 31 = .ok (.iaload, 1) := by decide +kernel
theorem dX9_length_32 : decode cX9_length 32 = .ok (.ireturn, 1) := by decide +kernel
theorem dX9_bestOf_0 : decode cX9_bestOf 0 = .ok (.aload_n 0, 1) := by decide +kernel
theorem dX9_bestOf_1 : decode cX9_bestOf 1 = .ok (.invokevirtual 244, 3) := by decide +kernel
theorem dX9_bestOf_4 : decode cX9_bestOf 4 = .ok (.iconst (-1), 1) := by decide +kernel
theorem dX9_bestOf_5 : decode cX9_bestOf 5 = .ok (.istore_n 2, 1) := by decide +kernel
theorem dX9_bestOf_6 : decode cX9_bestOf 6 = .ok (.iconst 0, 1) := by decide +kernel
theorem dX9_bestOf_7 : decode cX9_bestOf 7 = .ok (.istore_n 3, 1) := by decide +kernel
theorem dX9_bestOf_8 : decode cX9_bestOf 8 = .ok (.aload_n 0, 1) := by decide +kernel
theorem dX9_bestOf_9 : decode cX9_bestOf 9 = .ok (.iload_n 1, 1) := by decide +kernel
theorem dX9_bestOf_10 : decode cX9_bestOf 10 = .ok (.invokevirtual 207, 3) := by decide +kernel
theorem dX9_bestOf_13 : decode cX9_bestOf 13 = .ok (.iconst 1, 1) := by decide +kernel
theorem dX9_bestOf_14 : decode cX9_bestOf 14 = .ok (.if_icmp .ne 7, 3) := by decide +kernel
theorem dX9_bestOf_17 : decode cX9_bestOf 17 = .ok (.iconst 1, 1) := by decide +kernel
theorem dX9_bestOf_18 : decode cX9_bestOf 18 = .ok (.goto 4, 3) := by decide +kernel
theorem dX9_bestOf_21 : decode cX9_bestOf 21 = .ok (.iconst 0, 1) := by decide +kernel
theorem dX9_bestOf_22 : decode cX9_bestOf 22 = .ok (.istore 4, 2) := by decide +kernel
theorem dX9_bestOf_24 : decode cX9_bestOf 24 = .ok (.iconst 0, 1) := by decide +kernel
theorem dX9_bestOf_25 : decode cX9_bestOf 25 = .ok (.istore 5, 2) := by decide +kernel
theorem dX9_bestOf_27 : decode cX9_bestOf 27 = .ok (.iload 5, 2) := by decide +kernel
theorem dX9_bestOf_29 : decode cX9_bestOf 29 = .ok (.iload 4, 2) := by decide +kernel
theorem dX9_bestOf_31 : decode cX9_bestOf 31 = .ok (.ifCond .eq 8, 3) := by decide +kernel
theorem dX9_bestOf_34 : decode cX9_bestOf 34 = .ok (.bipush 16, 2) := by decide +kernel
theorem dX9_bestOf_36 : decode cX9_bestOf 36 = .ok (.goto 5, 3) := by decide +kernel
theorem dX9_bestOf_39 : decode cX9_bestOf 39 = .ok (.bipush 32, 2) := by decide +kernel
theorem dX9_bestOf_41 : decode cX9_bestOf 41 = .ok (.if_icmp .gt 83, 3) := by decide +kernel
theorem dX9_bestOf_44 : decode cX9_bestOf 44 = .ok (.aload_n 0, 1) := by decide +kernel
theorem dX9_bestOf_45 : decode cX9_bestOf 45 = .ok (.iload_n 1, 1) := by decide +kernel
theorem dX9_bestOf_46 : decode cX9_bestOf 46 = .ok (.iload 5, 2) := by decide +kernel
theorem dX9_bestOf_48 : decode cX9_bestOf 48 = .ok (.invokevirtual 220, 3) := by decide +kernel
theorem dX9_bestOf_51 : decode cX9_bestOf 51 = .ok (.istore 6, 2) := by decide +kernel
theorem dX9_bestOf_53 : decode cX9_bestOf 53 = .ok (.iload 6, 2) := by decide +kernel
theorem dX9_bestOf_55 : decode cX9_bestOf 55 = .ok (.ifCond .ge 6, 3) := by decide +kernel
theorem dX9_bestOf_58 : decode cX9_bestOf 58 = .ok (.goto 60, 3) := by decide +kernel
theorem dX9_bestOf_61 : decode cX9_bestOf 61 = .ok (.aload_n 0, 1) := by decide +kernel
theorem dX9_bestOf_62 : decode cX9_bestOf 62 = .ok (.getfield 40, 3) := by decide +kernel
theorem dX9_bestOf_65 : decode cX9_bestOf 65 = .ok (.iload 6, 2) := by decide +kernel
theorem dX9_bestOf_67 : decode cX9_bestOf 67 = .ok (.iaload, 1) := by decide +kernel
theorem dX9_bestOf_68 : decode cX9_bestOf 68 = .ok (.ifCond .ge 8, 3) := by decide +kernel
theorem dX9_bestOf_71 : decode cX9_bestOf 71 = .ok (.ldc 247, 2) := by decide +kernel
theorem dX9_bestOf_73 : decode cX9_bestOf 73 = .ok (.goto 10, 3) := by decide +kernel
theorem dX9_bestOf_76 : decode cX9_bestOf 76 = .ok (.aload_n 0, 1) := by decide +kernel
theorem dX9_bestOf_77 : decode cX9_bestOf 77 = .ok (.getfield 40, 3) := by decide +kernel
theorem dX9_bestOf_80 : decode cX9_bestOf 80 = .ok (.iload 6, 2) := by decide +kernel
theorem dX9_bestOf_82 : decode cX9_bestOf 82 = .ok (.iaload, 1) := by decide +kernel
theorem dX9_bestOf_83 : decode cX9_bestOf 83 = .ok (.istore 7, 2) := by decide +kernel
theorem dX9_bestOf_85 : decode cX9_bestOf 85 = .ok (.iload_n 2, 1) := by decide +kernel
theorem dX9_bestOf_86 : decode cX9_bestOf 86 = .ok (.ifCond .lt 26, 3) := by decide +kernel
theorem dX9_bestOf_89 : decode cX9_bestOf 89 = .ok (.iload 4, 2) := by decide +kernel
theorem dX9_bestOf_91 : decode cX9_bestOf 91 = .ok (.ifCond .eq 12, 3) := by decide +kernel
theorem dX9_bestOf_94 : decode cX9_bestOf 94 = .ok (.iload 7, 2) := by decide +kernel
theorem dX9_bestOf_96 : decode cX9_bestOf 96 = .ok (.iload_n 3, 1) := by decide +kernel
theorem dX9_bestOf_97 : decode cX9_bestOf 97 = .ok (.if_icmp .gt 15, 3) := by decide +kernel
theorem dX9_bestOf_100 : decode cX9_bestOf 100 = .ok (.goto 18, 3) := by decide +kernel
theorem dX9_bestOf_103 : decode cX9_bestOf 103 = .ok (.iload 7, 2) := by decide +kernel
theorem dX9_bestOf_105 : decode cX9_bestOf 105 = .ok (.iload_n 3, 1) := by decide +kernel
theorem dX9_bestOf_106 : decode cX9_bestOf 106 = .ok (.if_icmp .lt 6, 3) := by decide +kernel
theorem dX9_bestOf_109 : decode cX9_bestOf 109 = .ok (.goto 9, 3) := by decide +kernel
theorem dX9_bestOf_112 : decode cX9_bestOf 112 = .ok (.iload 5, 2) := by decide +kernel
theorem dX9_bestOf_114 : decode cX9_bestOf 114 = .ok (.istore_n 2, 1) := by decide +kernel
theorem dX9_bestOf_115 : decode cX9_bestOf 115 = .ok (.iload 7, 2) := by decide +kernel
theorem dX9_bestOf_117 : decode cX9_bestOf 117 = .ok (.istore_n 3, 1) := by decide +kernel
theorem dX9_bestOf_118 : decode cX9_bestOf 118 = .ok (.iinc 5 1, 3) := by decide +kernel
theorem dX9_bestOf_121 : decode cX9_bestOf 121 = .ok (.goto (-94), 3) := by decide +kernel
theorem dX9_bestOf_124 : decode cX9_bestOf 124 = .ok (.iload_n 2, 1) := by decide +kernel
theorem dX9_bestOf_125 : decode cX9_bestOf 125 = .ok (.ireturn, 1) := by decide +kernel
theorem dX9_best_0 : decode cX9_best 0 = .ok (.aload_n 0, 1) := by decide +kernel
theorem dX9_best_1 : decode cX9_best 1 = .ok (.iload_n 1, 1) := by decide +kernel
theorem dX9_best_2 : decode cX9_best 2 = .ok (.iload_n 2, 1) := by decide +kernel
theorem dX9_best_3 : decode cX9_best 3 = .ok (.iload_n 3, 1) := by decide +kernel
theorem dX9_best_4 : decode cX9_best 4 = .ok (.iload 4, 2) := by decide +kernel
theorem dX9_best_6 : decode cX9_best 6 = .ok (.iload 5, 2) := by decide +kernel
theorem dX9_best_8 : decode cX9_best 8 = .ok (.invokevirtual 241, 3) := by decide +kernel
theorem dX9_best_11 : decode cX9_best 11 = .ok (.istore 6, 2) := by decide +kernel
theorem dX9_best_13 : decode cX9_best 13 = .ok (.iload 6, 2) := by decide +kernel
theorem dX9_best_15 : decode cX9_best 15 = .ok (.ifCond .ge 8, 3) := by decide +kernel
theorem dX9_best_18 : decode cX9_best 18 = .ok (.bipush (-2), 2) := by decide +kernel
theorem dX9_best_20 : decode cX9_best 20 = .ok (.goto 22, 3) := by decide +kernel
theorem dX9_best_23 : decode cX9_best 23 = .ok (.aload_n 0, 1) := by decide +kernel
theorem dX9_best_24 : decode cX9_best 24 = .ok (.iload 6, 2) := by decide +kernel
theorem dX9_best_26 : decode cX9_best 26 = .ok (.invokevirtual 235, 3) := by decide +kernel
theorem dX9_best_29 : decode cX9_best 29 = .ok (.ifCond .eq 7, 3) := by decide +kernel
theorem dX9_best_32 : decode cX9_best 32 = .ok (.iconst (-1), 1) := by decide +kernel
theorem dX9_best_33 : decode cX9_best 33 = .ok (.goto 9, 3) := by decide +kernel
theorem dX9_best_36 : decode cX9_best 36 = .ok (.aload_n 0, 1) := by decide +kernel
theorem dX9_best_37 : decode cX9_best 37 = .ok (.iload 6, 2) := by decide +kernel
theorem dX9_best_39 : decode cX9_best 39 = .ok (.invokevirtual 248, 3) := by decide +kernel
theorem dX9_best_42 : decode cX9_best 42 = .ok (.ireturn, 1) := by decide +kernel
theorem dX9_moves_0 : decode cX9_moves 0 = .ok (.aload_n 0, 1) := by decide +kernel
theorem dX9_moves_1 : decode cX9_moves 1 = .ok (.iload_n 1, 1) := by decide +kernel
theorem dX9_moves_2 : decode cX9_moves 2 = .ok (.iload_n 2, 1) := by decide +kernel
theorem dX9_moves_3 : decode cX9_moves 3 = .ok (.iload_n 3, 1) := by decide +kernel
theorem dX9_moves_4 : decode cX9_moves 4 = .ok (.iload 4, 2) := by decide +kernel
theorem dX9_moves_6 : decode cX9_moves 6 = .ok (.iload 5, 2) := by decide +kernel
theorem dX9_moves_8 : decode cX9_moves 8 = .ok (.invokevirtual 241, 3) := by decide +kernel
theorem dX9_moves_11 : decode cX9_moves 11 = .ok (.istore 6, 2) := by decide +kernel
theorem dX9_moves_13 : decode cX9_moves 13 = .ok (.iload 6, 2) := by decide +kernel
theorem dX9_moves_15 : decode cX9_moves 15 = .ok (.ifCond .ge 8, 3) := by decide +kernel
theorem dX9_moves_18 : decode cX9_moves 18 = .ok (.bipush (-2), 2) := by decide +kernel
theorem dX9_moves_20 : decode cX9_moves 20 = .ok (.goto 22, 3) := by decide +kernel
theorem dX9_moves_23 : decode cX9_moves 23 = .ok (.aload_n 0, 1) := by decide +kernel
theorem dX9_moves_24 : decode cX9_moves 24 = .ok (.iload 6, 2) := by decide +kernel
theorem dX9_moves_26 : decode cX9_moves 26 = .ok (.invokevirtual 235, 3) := by decide +kernel
theorem dX9_moves_29 : decode cX9_moves 29 = .ok (.ifCond .eq 7, 3) := by decide +kernel
theorem dX9_moves_32 : decode cX9_moves 32 = .ok (.iconst 0, 1) := by decide +kernel
theorem dX9_moves_33 : decode cX9_moves 33 = .ok (.goto 9, 3) := by decide +kernel
theorem dX9_moves_36 : decode cX9_moves 36 = .ok (.aload_n 0, 1) := by decide +kernel
theorem dX9_moves_37 : decode cX9_moves 37 = .ok (.iload 6, 2) := by decide +kernel
theorem dX9_moves_39 : decode cX9_moves 39 = .ok (.invokevirtual 226, 3) := by decide +kernel
theorem dX9_moves_42 : decode cX9_moves 42 = .ok (.ireturn, 1) := by decide +kernel
theorem dX9_counts_0 : decode cX9_counts 0 = .ok (.aload_n 0, 1) := by decide +kernel
theorem dX9_counts_1 : decode cX9_counts 1 = .ok (.iload_n 1, 1) := by decide +kernel
theorem dX9_counts_2 : decode cX9_counts 2 = .ok (.invokevirtual 232, 3) := by decide +kernel
theorem dX9_counts_5 : decode cX9_counts 5 = .ok (.ifCond .eq 31, 3) := by decide +kernel
theorem dX9_counts_8 : decode cX9_counts 8 = .ok (.aload_n 0, 1) := by decide +kernel
theorem dX9_counts_9 : decode cX9_counts 9 = .ok (.iload_n 1, 1) := by decide +kernel
theorem dX9_counts_10 : decode cX9_counts 10 = .ok (.invokevirtual 207, 3) := by decide +kernel
theorem dX9_counts_13 : decode cX9_counts 13 = .ok (.ifCond .ne 23, 3) := by decide +kernel
theorem dX9_counts_16 : decode cX9_counts 16 = .ok (.aload_n 0, 1) := by decide +kernel
theorem dX9_counts_17 : decode cX9_counts 17 = .ok (.iload_n 1, 1) := by decide +kernel
theorem dX9_counts_18 : decode cX9_counts 18 = .ok (.invokevirtual 204, 3) := by decide +kernel
theorem dX9_counts_21 : decode cX9_counts 21 = .ok (.ifCond .ne 15, 3) := by decide +kernel
theorem dX9_counts_24 : decode cX9_counts 24 = .ok (.aload_n 0, 1) := by decide +kernel
theorem dX9_counts_25 : decode cX9_counts 25 = .ok (.iload_n 1, 1) := by decide +kernel
theorem dX9_counts_26 : decode cX9_counts 26 = .ok (.invokevirtual 223, 3) := by decide +kernel
theorem dX9_counts_29 : decode cX9_counts 29 = .ok (.ifCond .ne 7, 3) := by decide +kernel
theorem dX9_counts_32 : decode cX9_counts 32 = .ok (.iconst 1, 1) := by decide +kernel
theorem dX9_counts_33 : decode cX9_counts 33 = .ok (.goto 4, 3) := by decide +kernel
theorem dX9_counts_36 : decode cX9_counts 36 = .ok (.iconst 0, 1) := by decide +kernel
theorem dX9_counts_37 : decode cX9_counts 37 = .ok (.ireturn, 1) := by decide +kernel
theorem dX9_solvedOf_0 : decode cX9_solvedOf 0 = .ok (.aload_n 0, 1) := by decide +kernel
theorem dX9_solvedOf_1 : decode cX9_solvedOf 1 = .ok (.invokevirtual 244, 3) := by decide +kernel
theorem dX9_solvedOf_4 : decode cX9_solvedOf 4 = .ok (.iconst 0, 1) := by decide +kernel
theorem dX9_solvedOf_5 : decode cX9_solvedOf 5 = .ok (.istore_n 2, 1) := by decide +kernel
theorem dX9_solvedOf_6 : decode cX9_solvedOf 6 = .ok (.iconst 0, 1) := by decide +kernel
theorem dX9_solvedOf_7 : decode cX9_solvedOf 7 = .ok (.istore_n 3, 1) := by decide +kernel
theorem dX9_solvedOf_8 : decode cX9_solvedOf 8 = .ok (.iload_n 3, 1) := by decide +kernel
theorem dX9_solvedOf_9 : decode cX9_solvedOf 9 = .ok (.sipush 9216, 3) := by decide +kernel
theorem dX9_solvedOf_12 : decode cX9_solvedOf 12 = .ok (.if_icmp .ge 71, 3) := by decide +kernel
theorem dX9_solvedOf_15 : decode cX9_solvedOf 15 = .ok (.aload_n 0, 1) := by decide +kernel
theorem dX9_solvedOf_16 : decode cX9_solvedOf 16 = .ok (.iload_n 3, 1) := by decide +kernel
theorem dX9_solvedOf_17 : decode cX9_solvedOf 17 = .ok (.invokevirtual 251, 3) := by decide +kernel
theorem dX9_solvedOf_20 : decode cX9_solvedOf 20 = .ok (.ifCond .ne 6, 3) := by decide +kernel
theorem dX9_solvedOf_23 : decode cX9_solvedOf 23 = .ok (.goto 54, 3) := by decide +kernel
theorem dX9_solvedOf_26 : decode cX9_solvedOf 26 = .ok (.iload_n 1, 1) := by decide +kernel
theorem dX9_solvedOf_27 : decode cX9_solvedOf 27 = .ok (.iconst 2, 1) := by decide +kernel
theorem dX9_solvedOf_28 : decode cX9_solvedOf 28 = .ok (.if_icmp .ne 27, 3) := by decide +kernel
theorem dX9_solvedOf_31 : decode cX9_solvedOf 31 = .ok (.aload_n 0, 1) := by decide +kernel
theorem dX9_solvedOf_32 : decode cX9_solvedOf 32 = .ok (.getfield 40, 3) := by decide +kernel
theorem dX9_solvedOf_35 : decode cX9_solvedOf 35 = .ok (.iload_n 3, 1) := by decide +kernel
theorem dX9_solvedOf_36 : decode cX9_solvedOf 36 = .ok (.iaload, 1) := by decide +kernel
theorem dX9_solvedOf_37 : decode cX9_solvedOf 37 = .ok (.iload_n 2, 1) := by decide +kernel
theorem dX9_solvedOf_38 : decode cX9_solvedOf 38 = .ok (.if_icmp .le 12, 3) := by decide +kernel
theorem dX9_solvedOf_41 : decode cX9_solvedOf 41 = .ok (.aload_n 0, 1) := by decide +kernel
theorem dX9_solvedOf_42 : decode cX9_solvedOf 42 = .ok (.getfield 40, 3) := by decide +kernel
theorem dX9_solvedOf_45 : decode cX9_solvedOf 45 = .ok (.iload_n 3, 1) := by decide +kernel
theorem dX9_solvedOf_46 : decode cX9_solvedOf 46 = .ok (.iaload, 1) := by decide +kernel
theorem dX9_solvedOf_47 : decode cX9_solvedOf 47 = .ok (.goto 4, 3) := by decide +kernel
theorem dX9_solvedOf_50 : decode cX9_solvedOf 50 = .ok (.iload_n 2, 1) := by decide +kernel
theorem dX9_solvedOf_51 : decode cX9_solvedOf 51 = .ok (.istore_n 2, 1) := by decide +kernel
theorem dX9_solvedOf_52 : decode cX9_solvedOf 52 = .ok (.goto 25, 3) := by decide +kernel
theorem dX9_solvedOf_55 : decode cX9_solvedOf 55 = .ok (.iload_n 2, 1) := by decide +kernel
theorem dX9_solvedOf_56 : decode cX9_solvedOf 56 = .ok (.iload_n 1, 1) := by decide +kernel
theorem dX9_solvedOf_57 : decode cX9_solvedOf 57 = .ok (.iconst 1, 1) := by decide +kernel
theorem dX9_solvedOf_58 : decode cX9_solvedOf 58 = .ok (.if_icmp .eq 12, 3) := by decide +kernel
theorem dX9_solvedOf_61 : decode cX9_solvedOf 61 = .ok (.aload_n 0, 1) := by decide +kernel
theorem dX9_solvedOf_62 : decode cX9_solvedOf 62 = .ok (.getfield 40, 3) := by decide +kernel
theorem dX9_solvedOf_65 : decode cX9_solvedOf 65 = .ok (.iload_n 3, 1) := by decide +kernel
theorem dX9_solvedOf_66 : decode cX9_solvedOf 66 = .ok (.iaload, 1) := by decide +kernel
theorem dX9_solvedOf_67 : decode cX9_solvedOf 67 = .ok (.ifCond .lt 7, 3) := by decide +kernel
theorem dX9_solvedOf_70 : decode cX9_solvedOf 70 = .ok (.iconst 1, 1) := by decide +kernel
theorem dX9_solvedOf_71 : decode cX9_solvedOf 71 = .ok (.goto 4, 3) := by decide +kernel
theorem dX9_solvedOf_74 : decode cX9_solvedOf 74 = .ok (.iconst 0, 1) := by decide +kernel
theorem dX9_solvedOf_75 : decode cX9_solvedOf 75 = .ok (.iadd, 1) := by decide +kernel
theorem dX9_solvedOf_76 : decode cX9_solvedOf 76 = .ok (.istore_n 2, 1) := by decide +kernel
theorem dX9_solvedOf_77 : decode cX9_solvedOf 77 = .ok (.iinc 3 1, 3) := by decide +kernel
theorem dX9_solvedOf_80 : decode cX9_solvedOf 80 = .ok (.goto (-72), 3) := by decide +kernel
theorem dX9_solvedOf_83 : decode cX9_solvedOf 83 = .ok (.iload_n 2, 1) := by decide +kernel
theorem dX9_solvedOf_84 : decode cX9_solvedOf 84 = .ok (.ireturn, 1) := by decide +kernel
theorem dX9_solved_0 : decode cX9_solved 0 = .ok (.aload_n 0, 1) := by decide +kernel
theorem dX9_solved_1 : decode cX9_solved 1 = .ok (.iload_n 1, 1) := by decide +kernel
theorem dX9_solved_2 : decode cX9_solved 2 = .ok (.iconst 0, 1) := by decide +kernel
theorem dX9_solved_3 : decode cX9_solved 3 = .ok (.iconst 2, 1) := by decide +kernel
theorem dX9_solved_4 : decode cX9_solved 4 = .ok (.invokevirtual 155, 3) := by decide +kernel
theorem dX9_solved_7 : decode cX9_solved 7 = .ok (.ifCond .eq 11, 3) := by decide +kernel
theorem dX9_solved_10 : decode cX9_solved 10 = .ok (.aload_n 0, 1) := by decide +kernel
theorem dX9_solved_11 : decode cX9_solved 11 = .ok (.iload_n 1, 1) := by decide +kernel
theorem dX9_solved_12 : decode cX9_solved 12 = .ok (.invokevirtual 254, 3) := by decide +kernel
theorem dX9_solved_15 : decode cX9_solved 15 = .ok (.goto 5, 3) := by decide +kernel
theorem dX9_solved_18 : decode cX9_solved 18 = .ok (.bipush (-2), 2) := by decide +kernel
theorem dX9_solved_20 : decode cX9_solved 20 = .ok (.ireturn, 1) := by decide +kernel
theorem dX9_isPuzzle_0 : decode cX9_isPuzzle 0 = .ok (.aload_n 0, 1) := by decide +kernel
theorem dX9_isPuzzle_1 : decode cX9_isPuzzle 1 = .ok (.iload_n 1, 1) := by decide +kernel
theorem dX9_isPuzzle_2 : decode cX9_isPuzzle 2 = .ok (.invokevirtual 251, 3) := by decide +kernel
theorem dX9_isPuzzle_5 : decode cX9_isPuzzle 5 = .ok (.ifCond .eq 13, 3) := by decide +kernel
theorem dX9_isPuzzle_8 : decode cX9_isPuzzle 8 = .ok (.aload_n 0, 1) := by decide +kernel
theorem dX9_isPuzzle_9 : decode cX9_isPuzzle 9 = .ok (.getfield 40, 3) := by decide +kernel
theorem dX9_isPuzzle_12 : decode cX9_isPuzzle 12 = .ok (.iload_n 1, 1) := by decide +kernel
theorem dX9_isPuzzle_13 : decode cX9_isPuzzle 13 = .ok (.iaload, 1) := by decide +kernel
theorem dX9_isPuzzle_14 : decode cX9_isPuzzle 14 = .ok (.iconst 1, 1) := by decide +kernel
theorem dX9_isPuzzle_15 : decode cX9_isPuzzle 15 = .ok (.if_icmp .ge 5, 3) := by decide +kernel
theorem dX9_isPuzzle_18 : decode cX9_isPuzzle 18 = .ok (.iconst 0, 1) := by decide +kernel
theorem dX9_isPuzzle_19 : decode cX9_isPuzzle 19 = .ok (.ireturn, 1) := by decide +kernel
theorem dX9_isPuzzle_20 : decode cX9_isPuzzle 20 = .ok (.iconst 0, 1) := by decide +kernel
theorem dX9_isPuzzle_21 : decode cX9_isPuzzle 21 = .ok (.istore_n 2, 1) := by decide +kernel
theorem dX9_isPuzzle_22 : decode cX9_isPuzzle 22 = .ok (.iconst 0, 1) := by decide +kernel
theorem dX9_isPuzzle_23 : decode cX9_isPuzzle 23 = .ok (.istore_n 3, 1) := by decide +kernel
theorem dX9_isPuzzle_24 : decode cX9_isPuzzle 24 = .ok (.iload_n 3, 1) := by decide +kernel
theorem dX9_isPuzzle_25 : decode cX9_isPuzzle 25 = .ok (.bipush 32, 2) := by decide +kernel
theorem dX9_isPuzzle_27 : decode cX9_isPuzzle 27 = .ok (.if_icmp .gt 48, 3) := by decide +kernel
theorem dX9_isPuzzle_30 : decode cX9_isPuzzle 30 = .ok (.iload_n 2, 1) := by decide +kernel
theorem dX9_isPuzzle_31 : decode cX9_isPuzzle 31 = .ok (.aload_n 0, 1) := by decide +kernel
theorem dX9_isPuzzle_32 : decode cX9_isPuzzle 32 = .ok (.iload_n 1, 1) := by decide +kernel
theorem dX9_isPuzzle_33 : decode cX9_isPuzzle 33 = .ok (.iload_n 3, 1) := by decide +kernel
theorem dX9_isPuzzle_34 : decode cX9_isPuzzle 34 = .ok (.invokevirtual 220, 3) := by decide +kernel
theorem dX9_isPuzzle_37 : decode cX9_isPuzzle 37 = .ok (.ifCond .lt 29, 3) := by decide +kernel
theorem dX9_isPuzzle_40 : decode cX9_isPuzzle 40 = .ok (.aload_n 0, 1) := by decide +kernel
theorem dX9_isPuzzle_41 : decode cX9_isPuzzle 41 = .ok (.getfield 40, 3) := by decide +kernel
theorem dX9_isPuzzle_44 : decode cX9_isPuzzle 44 = .ok (.aload_n 0, 1) := by decide +kernel
theorem dX9_isPuzzle_45 : decode cX9_isPuzzle 45 = .ok (.iload_n 1, 1) := by decide +kernel
theorem dX9_isPuzzle_46 : decode cX9_isPuzzle 46 = .ok (.iload_n 3, 1) := by decide +kernel
theorem dX9_isPuzzle_47 : decode cX9_isPuzzle 47 = .ok (.invokevirtual 220, 3) := by decide +kernel
theorem dX9_isPuzzle_50 : decode cX9_isPuzzle 50 = .ok (.iaload, 1) := by decide +kernel
theorem dX9_isPuzzle_51 : decode cX9_isPuzzle 51 = .ok (.aload_n 0, 1) := by decide +kernel
theorem dX9_isPuzzle_52 : decode cX9_isPuzzle 52 = .ok (.getfield 40, 3) := by decide +kernel
theorem dX9_isPuzzle_55 : decode cX9_isPuzzle 55 = .ok (.iload_n 1, 1) := by decide +kernel
theorem dX9_isPuzzle_56 : decode cX9_isPuzzle 56 = .ok (.iaload, 1) := by decide +kernel
theorem dX9_isPuzzle_57 : decode cX9_isPuzzle 57 = .ok (.iconst 1, 1) := by decide +kernel
theorem dX9_isPuzzle_58 : decode cX9_isPuzzle 58 = .ok (.isub, 1) := by decide +kernel
theorem dX9_isPuzzle_59 : decode cX9_isPuzzle 59 = .ok (.if_icmp .ne 7, 3) := by decide +kernel
theorem dX9_isPuzzle_62 : decode cX9_isPuzzle 62 = .ok (.iconst 1, 1) := by decide +kernel
theorem dX9_isPuzzle_63 : decode cX9_isPuzzle 63 = .ok (.goto 4, 3) := by decide +kernel
theorem dX9_isPuzzle_66 : decode cX9_isPuzzle 66 = .ok (.iconst 0, 1) := by decide +kernel
theorem dX9_isPuzzle_67 : decode cX9_isPuzzle 67 = .ok (.iadd, 1) := by decide +kernel
theorem dX9_isPuzzle_68 : decode cX9_isPuzzle 68 = .ok (.istore_n 2, 1) := by decide +kernel
theorem dX9_isPuzzle_69 : decode cX9_isPuzzle 69 = .ok (.iinc 3 1, 3) := by decide +kernel
theorem dX9_isPuzzle_72 : decode cX9_isPuzzle 72 = .ok (.goto (-48), 3) := by decide +kernel
theorem dX9_isPuzzle_75 : decode cX9_isPuzzle 75 = .ok (.iload_n 2, 1) := by decide +kernel
theorem dX9_isPuzzle_76 : decode cX9_isPuzzle 76 = .ok (.iconst 1, 1) := by decide +kernel
theorem dX9_isPuzzle_77 : decode cX9_isPuzzle 77 = .ok (.if_icmp .ne 7, 3) := by decide +kernel
theorem dX9_isPuzzle_80 : decode cX9_isPuzzle 80 = .ok (.iconst 1, 1) := by decide +kernel
theorem dX9_isPuzzle_81 : decode cX9_isPuzzle 81 = .ok (.goto 4, 3) := by decide +kernel
theorem dX9_isPuzzle_84 : decode cX9_isPuzzle 84 = .ok (.iconst 0, 1) := by decide +kernel
theorem dX9_isPuzzle_85 : decode cX9_isPuzzle 85 = .ok (.ireturn, 1) := by decide +kernel
theorem dX9_puzzle_0 : decode cX9_puzzle 0 = .ok (.aload_n 0, 1) := by decide +kernel
theorem dX9_puzzle_1 : decode cX9_puzzle 1 = .ok (.iload_n 1, 1) := by decide +kernel
theorem dX9_puzzle_2 : decode cX9_puzzle 2 = .ok (.iconst 1, 1) := by decide +kernel
theorem dX9_puzzle_3 : decode cX9_puzzle 3 = .ok (.sipush 999, 3) := by decide +kernel
theorem dX9_puzzle_6 : decode cX9_puzzle 6 = .ok (.invokevirtual 155, 3) := by decide +kernel
theorem dX9_puzzle_9 : decode cX9_puzzle 9 = .ok (.ifCond .ne 6, 3) := by decide +kernel
theorem dX9_puzzle_12 : decode cX9_puzzle 12 = .ok (.bipush (-2), 2) := by decide +kernel
theorem dX9_puzzle_14 : decode cX9_puzzle 14 = .ok (.ireturn, 1) := by decide +kernel
theorem dX9_puzzle_15 : decode cX9_puzzle 15 = .ok (.iload_n 2, 1) := by decide +kernel
theorem dX9_puzzle_16 : decode cX9_puzzle 16 = .ok (.iconst (-1), 1) := by decide +kernel
theorem dX9_puzzle_17 : decode cX9_puzzle 17 = .ok (.if_icmp .ge 5, 3) := by decide +kernel
theorem dX9_puzzle_20 : decode cX9_puzzle 20 = .ok (.iconst (-1), 1) := by decide +kernel
theorem dX9_puzzle_21 : decode cX9_puzzle 21 = .ok (.ireturn, 1) := by decide +kernel
theorem dX9_puzzle_22 : decode cX9_puzzle 22 = .ok (.aload_n 0, 1) := by decide +kernel
theorem dX9_puzzle_23 : decode cX9_puzzle 23 = .ok (.invokevirtual 244, 3) := by decide +kernel
theorem dX9_puzzle_26 : decode cX9_puzzle 26 = .ok (.iconst 0, 1) := by decide +kernel
theorem dX9_puzzle_27 : decode cX9_puzzle 27 = .ok (.istore_n 3, 1) := by decide +kernel
theorem dX9_puzzle_28 : decode cX9_puzzle 28 = .ok (.iconst 0, 1) := by decide +kernel
theorem dX9_puzzle_29 : decode cX9_puzzle 29 = .ok (.istore 4, 2) := by decide +kernel
theorem dX9_puzzle_31 : decode cX9_puzzle 31 = .ok (.iload 4, 2) := by decide +kernel
theorem dX9_puzzle_33 : decode cX9_puzzle 33 = .ok (.sipush 9216, 3) := by decide +kernel
theorem dX9_puzzle_36 : decode cX9_puzzle 36 = .ok (.if_icmp .ge 67, 3) := by decide +kernel
theorem dX9_puzzle_39 : decode cX9_puzzle 39 = .ok (.aload_n 0, 1) := by decide +kernel
theorem dX9_puzzle_40 : decode cX9_puzzle 40 = .ok (.getfield 40, 3) := by decide +kernel
theorem dX9_puzzle_43 : decode cX9_puzzle 43 = .ok (.iload 4, 2) := by decide +kernel
theorem dX9_puzzle_45 : decode cX9_puzzle 45 = .ok (.iaload, 1) := by decide +kernel
theorem dX9_puzzle_46 : decode cX9_puzzle 46 = .ok (.iload_n 1, 1) := by decide +kernel
theorem dX9_puzzle_47 : decode cX9_puzzle 47 = .ok (.if_icmp .ne 50, 3) := by decide +kernel
theorem dX9_puzzle_50 : decode cX9_puzzle 50 = .ok (.aload_n 0, 1) := by decide +kernel
theorem dX9_puzzle_51 : decode cX9_puzzle 51 = .ok (.iload 4, 2) := by decide +kernel
theorem dX9_puzzle_53 : decode cX9_puzzle 53 = .ok (.invokevirtual 257, 3) := by decide +kernel
theorem dX9_puzzle_56 : decode cX9_puzzle 56 = .ok (.ifCond .ne 6, 3) := by decide +kernel
theorem dX9_puzzle_59 : decode cX9_puzzle 59 = .ok (.goto 38, 3) := by decide +kernel
theorem dX9_puzzle_62 : decode cX9_puzzle 62 = .ok (.iload_n 3, 1) := by decide +kernel
theorem dX9_puzzle_63 : decode cX9_puzzle 63 = .ok (.iload_n 2, 1) := by decide +kernel
theorem dX9_puzzle_64 : decode cX9_puzzle 64 = .ok (.if_icmp .ne 30, 3) := by decide +kernel
theorem dX9_puzzle_67 : decode cX9_puzzle 67 = .ok (.bipush 100, 2) := by decide +kernel
theorem dX9_puzzle_69 : decode cX9_puzzle 69 = .ok (.aload_n 0, 1) := by decide +kernel
theorem dX9_puzzle_70 : decode cX9_puzzle 70 = .ok (.iload 4, 2) := by decide +kernel
theorem dX9_puzzle_72 : decode cX9_puzzle 72 = .ok (.invokevirtual 195, 3) := by decide +kernel
theorem dX9_puzzle_75 : decode cX9_puzzle 75 = .ok (.imul, 1) := by decide +kernel
theorem dX9_puzzle_76 : decode cX9_puzzle 76 = .ok (.bipush 10, 2) := by decide +kernel
theorem dX9_puzzle_78 : decode cX9_puzzle 78 = .ok (.aload_n 0, 1) := by decide +kernel
theorem dX9_puzzle_79 : decode cX9_puzzle 79 = .ok (.iload 4, 2) := by decide +kernel
theorem dX9_puzzle_81 : decode cX9_puzzle 81 = .ok (.invokevirtual 198, 3) := by decide +kernel
theorem dX9_puzzle_84 : decode cX9_puzzle 84 = .ok (.imul, 1) := by decide +kernel
theorem dX9_puzzle_85 : decode cX9_puzzle 85 = .ok (.iadd, 1) := by decide +kernel
theorem dX9_puzzle_86 : decode cX9_puzzle 86 = .ok (.aload_n 0, 1) := by decide +kernel
theorem dX9_puzzle_87 : decode cX9_puzzle 87 = .ok (.iload 4, 2) := by decide +kernel
theorem dX9_puzzle_89 : decode cX9_puzzle 89 = .ok (.invokevirtual 201, 3) := by decide +kernel
theorem dX9_puzzle_92 : decode cX9_puzzle 92 = .ok (.iadd, 1) := by decide +kernel
theorem dX9_puzzle_93 : decode cX9_puzzle 93 = .ok (.ireturn, 1) := by decide +kernel
theorem dX9_puzzle_94 : decode cX9_puzzle 94 = .ok (.iinc 3 1, 3) := by decide +kernel
theorem dX9_puzzle_97 : decode cX9_puzzle 97 = .ok (.iinc 4 1, 3) := by decide +kernel
theorem dX9_puzzle_100 : decode cX9_puzzle 100 = .ok (.goto (-69), 3) := by decide +kernel
theorem dX9_puzzle_103 : decode cX9_puzzle 103 = .ok (.iload_n 2, 1) := by decide +kernel
theorem dX9_puzzle_104 : decode cX9_puzzle 104 = .ok (.ifCond .ge 7, 3) := by decide +kernel
theorem dX9_puzzle_107 : decode cX9_puzzle 107 = .ok (.iload_n 3, 1) := by decide +kernel
theorem dX9_puzzle_108 : decode cX9_puzzle 108 = .ok (.goto 4, 3) := by decide +kernel
theorem dX9_puzzle_111 : decode cX9_puzzle 111 = .ok (.iconst (-1), 1) := by decide +kernel
theorem dX9_puzzle_112 : decode cX9_puzzle 112 = .ok (.ireturn, 1) := by decide +kernel
theorem dX9_puzzles_0 : decode cX9_puzzles 0 = .ok (.aload_n 0, 1) := by decide +kernel
theorem dX9_puzzles_1 : decode cX9_puzzles 1 = .ok (.invokevirtual 244, 3) := by decide +kernel
theorem dX9_puzzles_4 : decode cX9_puzzles 4 = .ok (.iconst 0, 1) := by decide +kernel
theorem dX9_puzzles_5 : decode cX9_puzzles 5 = .ok (.istore_n 1, 1) := by decide +kernel
theorem dX9_puzzles_6 : decode cX9_puzzles 6 = .ok (.iconst 0, 1) := by decide +kernel
theorem dX9_puzzles_7 : decode cX9_puzzles 7 = .ok (.istore_n 2, 1) := by decide +kernel
theorem dX9_puzzles_8 : decode cX9_puzzles 8 = .ok (.iload_n 2, 1) := by decide +kernel
theorem dX9_puzzles_9 : decode cX9_puzzles 9 = .ok (.sipush 9216, 3) := by decide +kernel
theorem dX9_puzzles_12 : decode cX9_puzzles 12 = .ok (.if_icmp .ge 25, 3) := by decide +kernel
theorem dX9_puzzles_15 : decode cX9_puzzles 15 = .ok (.iload_n 1, 1) := by decide +kernel
theorem dX9_puzzles_16 : decode cX9_puzzles 16 = .ok (.aload_n 0, 1) := by decide +kernel
theorem dX9_puzzles_17 : decode cX9_puzzles 17 = .ok (.iload_n 2, 1) := by decide +kernel
theorem dX9_puzzles_18 : decode cX9_puzzles 18 = .ok (.invokevirtual 257, 3) := by decide +kernel
theorem dX9_puzzles_21 : decode cX9_puzzles 21 = .ok (.ifCond .eq 7, 3) := by decide +kernel
theorem dX9_puzzles_24 : decode cX9_puzzles 24 = .ok (.iconst 1, 1) := by decide +kernel
theorem dX9_puzzles_25 : decode cX9_puzzles 25 = .ok (.goto 4, 3) := by decide +kernel
theorem dX9_puzzles_28 : decode cX9_puzzles 28 = .ok (.iconst 0, 1) := by decide +kernel
theorem dX9_puzzles_29 : decode cX9_puzzles 29 = .ok (.iadd, 1) := by decide +kernel
theorem dX9_puzzles_30 : decode cX9_puzzles 30 = .ok (.istore_n 1, 1) := by decide +kernel
theorem dX9_puzzles_31 : decode cX9_puzzles 31 = .ok (.iinc 2 1, 3) := by decide +kernel
theorem dX9_puzzles_34 : decode cX9_puzzles 34 = .ok (.goto (-26), 3) := by decide +kernel
theorem dX9_puzzles_37 : decode cX9_puzzles 37 = .ok (.iload_n 1, 1) := by decide +kernel
theorem dX9_puzzles_38 : decode cX9_puzzles 38 = .ok (.ireturn, 1) := by decide +kernel
theorem dX9_countWays_0 : decode cX9_countWays 0 = .ok (.iconst 0, 1) := by decide +kernel
theorem dX9_countWays_1 : decode cX9_countWays 1 = .ok (.istore_n 1, 1) := by decide +kernel
theorem dX9_countWays_2 : decode cX9_countWays 2 = .ok (.iload_n 1, 1) := by decide +kernel
theorem dX9_countWays_3 : decode cX9_countWays 3 = .ok (.sipush 384, 3) := by decide +kernel
theorem dX9_countWays_6 : decode cX9_countWays 6 = .ok (.if_icmp .ge 16, 3) := by decide +kernel
theorem dX9_countWays_9 : decode cX9_countWays 9 = .ok (.aload_n 0, 1) := by decide +kernel
theorem dX9_countWays_10 : decode cX9_countWays 10 = .ok (.getfield 49, 3) := by decide +kernel
theorem dX9_countWays_13 : decode cX9_countWays 13 = .ok (.iload_n 1, 1) := by decide +kernel
theorem dX9_countWays_14 : decode cX9_countWays 14 = .ok (.iconst 0, 1) := by decide +kernel
theorem dX9_countWays_15 : decode cX9_countWays 15 = .ok (.iastore, 1) := by decide +kernel
theorem dX9_countWays_16 : decode cX9_countWays 16 = .ok (.iinc 1 1, 3) := by decide +kernel
theorem dX9_countWays_19 : decode cX9_countWays 19 = .ok (.goto (-17), 3) := by decide +kernel
theorem dX9_countWays_22 : decode cX9_countWays 22 = .ok (.iconst 0, 1) := by decide +kernel
theorem dX9_countWays_23 : decode cX9_countWays 23 = .ok (.istore_n 1, 1) := by decide +kernel
theorem dX9_countWays_24 : decode cX9_countWays 24 = .ok (.iload_n 1, 1) := by decide +kernel
theorem dX9_countWays_25 : decode cX9_countWays 25 = .ok (.aload_n 0, 1) := by decide +kernel
theorem dX9_countWays_26 : decode cX9_countWays 26 = .ok (.getfield 7, 3) := by decide +kernel
theorem dX9_countWays_29 : decode cX9_countWays 29 = .ok (.if_icmp .ge 89, 3) := by decide +kernel
theorem dX9_countWays_32 : decode cX9_countWays 32 = .ok (.aload_n 0, 1) := by decide +kernel
theorem dX9_countWays_33 : decode cX9_countWays 33 = .ok (.getfield 49, 3) := by decide +kernel
theorem dX9_countWays_36 : decode cX9_countWays 36 = .ok (.bipush 64, 2) := by decide +kernel
theorem dX9_countWays_38 : decode cX9_countWays 38 = .ok (.aload_n 0, 1) := by decide +kernel
theorem dX9_countWays_39 : decode cX9_countWays 39 = .ok (.getfield 19, 3) := by decide +kernel
theorem dX9_countWays_42 : decode cX9_countWays 42 = .ok (.iload_n 1, 1) := by decide +kernel
theorem dX9_countWays_43 : decode cX9_countWays 43 = .ok (.iaload, 1) := by decide +kernel
theorem dX9_countWays_44 : decode cX9_countWays 44 = .ok (.imul, 1) := by decide +kernel
theorem dX9_countWays_45 : decode cX9_countWays 45 = .ok (.bipush 8, 2) := by decide +kernel
theorem dX9_countWays_47 : decode cX9_countWays 47 = .ok (.aload_n 0, 1) := by decide +kernel
theorem dX9_countWays_48 : decode cX9_countWays 48 = .ok (.getfield 23, 3) := by decide +kernel
theorem dX9_countWays_51 : decode cX9_countWays 51 = .ok (.iload_n 1, 1) := by decide +kernel
theorem dX9_countWays_52 : decode cX9_countWays 52 = .ok (.iaload, 1) := by decide +kernel
theorem dX9_countWays_53 : decode cX9_countWays 53 = .ok (.imul, 1) := by decide +kernel
theorem dX9_countWays_54 : decode cX9_countWays 54 = .ok (.iadd, 1) := by decide +kernel
theorem dX9_countWays_55 : decode cX9_countWays 55 = .ok (.aload_n 0, 1) := by decide +kernel
theorem dX9_countWays_56 : decode cX9_countWays 56 = .ok (.getfield 26, 3) := by decide +kernel
theorem dX9_countWays_59 : decode cX9_countWays 59 = .ok (.iload_n 1, 1) := by decide +kernel
theorem dX9_countWays_60 : decode cX9_countWays 60 = .ok (.iaload, 1) := by decide +kernel
theorem dX9_countWays_61 : decode cX9_countWays 61 = .ok (.iadd, 1) := by decide +kernel
theorem dX9_countWays_62 : decode cX9_countWays 62 = .ok (.dup2, 1) := by decide +kernel
theorem dX9_countWays_63 : decode cX9_countWays 63 = .ok (.iaload, 1) := by decide +kernel
theorem dX9_countWays_64 : decode cX9_countWays 64 = .ok (.iconst 1, 1) := by decide +kernel
theorem dX9_countWays_65 : decode cX9_countWays 65 = .ok (.iadd, 1) := by decide +kernel
theorem dX9_countWays_66 : decode cX9_countWays 66 = .ok (.iastore, 1) := by decide +kernel
theorem dX9_countWays_67 : decode cX9_countWays 67 = .ok (.aload_n 0, 1) := by decide +kernel
theorem dX9_countWays_68 : decode cX9_countWays 68 = .ok (.getfield 19, 3) := by decide +kernel
theorem dX9_countWays_71 : decode cX9_countWays 71 = .ok (.iload_n 1, 1) := by decide +kernel
theorem dX9_countWays_72 : decode cX9_countWays 72 = .ok (.iaload, 1) := by decide +kernel
theorem dX9_countWays_73 : decode cX9_countWays 73 = .ok (.iconst 5, 1) := by decide +kernel
theorem dX9_countWays_74 : decode cX9_countWays 74 = .ok (.if_icmp .eq 38, 3) := by decide +kernel
theorem dX9_countWays_77 : decode cX9_countWays 77 = .ok (.aload_n 0, 1) := by decide +kernel
theorem dX9_countWays_78 : decode cX9_countWays 78 = .ok (.getfield 49, 3) := by decide +kernel
theorem dX9_countWays_81 : decode cX9_countWays 81 = .ok (.bipush 64, 2) := by decide +kernel
theorem dX9_countWays_83 : decode cX9_countWays 83 = .ok (.aload_n 0, 1) := by decide +kernel
theorem dX9_countWays_84 : decode cX9_countWays 84 = .ok (.getfield 19, 3) := by decide +kernel
theorem dX9_countWays_87 : decode cX9_countWays 87 = .ok (.iload_n 1, 1) := by decide +kernel
theorem dX9_countWays_88 : decode cX9_countWays 88 = .ok (.iaload, 1) := by decide +kernel
theorem dX9_countWays_89 : decode cX9_countWays 89 = .ok (.imul, 1) := by decide +kernel
theorem dX9_countWays_90 : decode cX9_countWays 90 = .ok (.bipush 8, 2) := by decide +kernel
theorem dX9_countWays_92 : decode cX9_countWays 92 = .ok (.aload_n 0, 1) := by decide +kernel
theorem dX9_countWays_93 : decode cX9_countWays 93 = .ok (.getfield 26, 3) := by decide +kernel
theorem dX9_countWays_96 : decode cX9_countWays 96 = .ok (.iload_n 1, 1) := by decide +kernel
theorem dX9_countWays_97 : decode cX9_countWays 97 = .ok (.iaload, 1) := by decide +kernel
theorem dX9_countWays_98 : decode cX9_countWays 98 = .ok (.imul, 1) := by decide +kernel
theorem dX9_countWays_99 : decode cX9_countWays 99 = .ok (.iadd, 1) := by decide +kernel
theorem dX9_countWays_100 : decode cX9_countWays 100 = .ok (.aload_n 0, 1) := by decide +kernel
theorem dX9_countWays_101 : decode cX9_countWays 101 = .ok (.getfield 23, 3) := by decide +kernel
theorem dX9_countWays_104 : decode cX9_countWays 104 = .ok (.iload_n 1, 1) := by decide +kernel
theorem dX9_countWays_105 : decode cX9_countWays 105 = .ok (.iaload, 1) := by decide +kernel
theorem dX9_countWays_106 : decode cX9_countWays 106 = .ok (.iadd, 1) := by decide +kernel
theorem dX9_countWays_107 : decode cX9_countWays 107 = .ok (.dup2, 1) := by decide +kernel
theorem dX9_countWays_108 : decode cX9_countWays 108 = .ok (.iaload, 1) := by decide +kernel
theorem dX9_countWays_109 : decode cX9_countWays 109 = .ok (.iconst 1, 1) := by decide +kernel
theorem dX9_countWays_110 : decode cX9_countWays 110 = .ok (.iadd, 1) := by decide +kernel
theorem dX9_countWays_111 : decode cX9_countWays 111 = .ok (.iastore, 1) := by decide +kernel
theorem dX9_countWays_112 : decode cX9_countWays 112 = .ok (.iinc 1 1, 3) := by decide +kernel
theorem dX9_countWays_115 : decode cX9_countWays 115 = .ok (.goto (-91), 3) := by decide +kernel
theorem dX9_countWays_118 : decode cX9_countWays 118 = .ok (.return_, 1) := by decide +kernel
theorem dX9_isRight_0 : decode cX9_isRight 0 = .ok (.aload_n 0, 1) := by decide +kernel
theorem dX9_isRight_1 : decode cX9_isRight 1 = .ok (.getfield 46, 3) := by decide +kernel
theorem dX9_isRight_4 : decode cX9_isRight 4 = .ok (.iload_n 1, 1) := by decide +kernel
theorem dX9_isRight_5 : decode cX9_isRight 5 = .ok (.iaload, 1) := by decide +kernel
theorem dX9_isRight_6 : decode cX9_isRight 6 = .ok (.istore_n 2, 1) := by decide +kernel
theorem dX9_isRight_7 : decode cX9_isRight 7 = .ok (.aload_n 0, 1) := by decide +kernel
theorem dX9_isRight_8 : decode cX9_isRight 8 = .ok (.getfield 29, 3) := by decide +kernel
theorem dX9_isRight_11 : decode cX9_isRight 11 = .ok (.iload_n 1, 1) := by decide +kernel
theorem dX9_isRight_12 : decode cX9_isRight 12 = .ok (.baload, 1) := by decide +kernel
theorem dX9_isRight_13 : decode cX9_isRight 13 = .ok (.aload_n 0, 1) := by decide +kernel
theorem dX9_isRight_14 : decode cX9_isRight 14 = .ok (.getfield 29, 3) := by decide +kernel
theorem dX9_isRight_17 : decode cX9_isRight 17 = .ok (.iload_n 2, 1) := by decide +kernel
theorem dX9_isRight_18 : decode cX9_isRight 18 = .ok (.baload, 1) := by decide +kernel
theorem dX9_isRight_19 : decode cX9_isRight 19 = .ok (.if_icmp .ne 18, 3) := by decide +kernel
theorem dX9_isRight_22 : decode cX9_isRight 22 = .ok (.aload_n 0, 1) := by decide +kernel
theorem dX9_isRight_23 : decode cX9_isRight 23 = .ok (.getfield 33, 3) := by decide +kernel
theorem dX9_isRight_26 : decode cX9_isRight 26 = .ok (.iload_n 1, 1) := by decide +kernel
theorem dX9_isRight_27 : decode cX9_isRight 27 = .ok (.baload, 1) := by decide +kernel
theorem dX9_isRight_28 : decode cX9_isRight 28 = .ok (.aload_n 0, 1) := by decide +kernel
theorem dX9_isRight_29 : decode cX9_isRight 29 = .ok (.getfield 33, 3) := by decide +kernel
theorem dX9_isRight_32 : decode cX9_isRight 32 = .ok (.iload_n 2, 1) := by decide +kernel
theorem dX9_isRight_33 : decode cX9_isRight 33 = .ok (.baload, 1) := by decide +kernel
theorem dX9_isRight_34 : decode cX9_isRight 34 = .ok (.if_icmp .eq 5, 3) := by decide +kernel
theorem dX9_isRight_37 : decode cX9_isRight 37 = .ok (.iconst 0, 1) := by decide +kernel
theorem dX9_isRight_38 : decode cX9_isRight 38 = .ok (.ireturn, 1) := by decide +kernel
theorem dX9_isRight_39 : decode cX9_isRight 39 = .ok (.iconst 0, 1) := by decide +kernel
theorem dX9_isRight_40 : decode cX9_isRight 40 = .ok (.istore_n 3, 1) := by decide +kernel
theorem dX9_isRight_41 : decode cX9_isRight 41 = .ok (.iload_n 3, 1) := by decide +kernel
theorem dX9_isRight_42 : decode cX9_isRight 42 = .ok (.iload_n 1, 1) := by decide +kernel
theorem dX9_isRight_43 : decode cX9_isRight 43 = .ok (.if_icmp .ge 123, 3) := by decide +kernel
theorem dX9_isRight_46 : decode cX9_isRight 46 = .ok (.aload_n 0, 1) := by decide +kernel
theorem dX9_isRight_47 : decode cX9_isRight 47 = .ok (.getfield 46, 3) := by decide +kernel
theorem dX9_isRight_50 : decode cX9_isRight 50 = .ok (.iload_n 3, 1) := by decide +kernel
theorem dX9_isRight_51 : decode cX9_isRight 51 = .ok (.iaload, 1) := by decide +kernel
theorem dX9_isRight_52 : decode cX9_isRight 52 = .ok (.iload_n 2, 1) := by decide +kernel
theorem dX9_isRight_53 : decode cX9_isRight 53 = .ok (.if_icmp .ne 5, 3) := by decide +kernel
theorem dX9_isRight_56 : decode cX9_isRight 56 = .ok (.iconst 0, 1) := by decide +kernel
theorem dX9_isRight_57 : decode cX9_isRight 57 = .ok (.ireturn, 1) := by decide +kernel
theorem dX9_isRight_58 : decode cX9_isRight 58 = .ok (.iconst 0, 1) := by decide +kernel
theorem dX9_isRight_59 : decode cX9_isRight 59 = .ok (.istore 4, 2) := by decide +kernel
theorem dX9_isRight_61 : decode cX9_isRight 61 = .ok (.iload 4, 2) := by decide +kernel
theorem dX9_isRight_63 : decode cX9_isRight 63 = .ok (.bipush 6, 2) := by decide +kernel
theorem dX9_isRight_65 : decode cX9_isRight 65 = .ok (.if_icmp .ge 95, 3) := by decide +kernel
theorem dX9_isRight_68 : decode cX9_isRight 68 = .ok (.aload_n 0, 1) := by decide +kernel
theorem dX9_isRight_69 : decode cX9_isRight 69 = .ok (.getfield 49, 3) := by decide +kernel
theorem dX9_isRight_72 : decode cX9_isRight 72 = .ok (.bipush 64, 2) := by decide +kernel
theorem dX9_isRight_74 : decode cX9_isRight 74 = .ok (.iload 4, 2) := by decide +kernel
theorem dX9_isRight_76 : decode cX9_isRight 76 = .ok (.imul, 1) := by decide +kernel
theorem dX9_isRight_77 : decode cX9_isRight 77 = .ok (.bipush 8, 2) := by decide +kernel
theorem dX9_isRight_79 : decode cX9_isRight 79 = .ok (.iload_n 1, 1) := by decide +kernel
theorem dX9_isRight_80 : decode cX9_isRight 80 = .ok (.imul, 1) := by decide +kernel
theorem dX9_isRight_81 : decode cX9_isRight 81 = .ok (.iadd, 1) := by decide +kernel
theorem dX9_isRight_82 : decode cX9_isRight 82 = .ok (.iload_n 3, 1) := by decide +kernel
theorem dX9_isRight_83 : decode cX9_isRight 83 = .ok (.iadd, 1) := by decide +kernel
theorem dX9_isRight_84 : decode cX9_isRight 84 = .ok (.iaload, 1) := by decide +kernel
theorem dX9_isRight_85 : decode cX9_isRight 85 = .ok (.aload_n 0, 1) := by decide +kernel
theorem dX9_isRight_86 : decode cX9_isRight 86 = .ok (.getfield 49, 3) := by decide +kernel
theorem dX9_isRight_89 : decode cX9_isRight 89 = .ok (.bipush 64, 2) := by decide +kernel
theorem dX9_isRight_91 : decode cX9_isRight 91 = .ok (.iload 4, 2) := by decide +kernel
theorem dX9_isRight_93 : decode cX9_isRight 93 = .ok (.imul, 1) := by decide +kernel
theorem dX9_isRight_94 : decode cX9_isRight 94 = .ok (.bipush 8, 2) := by decide +kernel
theorem dX9_isRight_96 : decode cX9_isRight 96 = .ok (.iload_n 2, 1) := by decide +kernel
theorem dX9_isRight_97 : decode cX9_isRight 97 = .ok (.imul, 1) := by decide +kernel
theorem dX9_isRight_98 : decode cX9_isRight 98 = .ok (.iadd, 1) := by decide +kernel
theorem dX9_isRight_99 : decode cX9_isRight 99 = .ok (.aload_n 0, 1) := by decide +kernel
theorem dX9_isRight_100 : decode cX9_isRight 100 = .ok (.getfield 46, 3) := by decide +kernel
theorem dX9_isRight_103 : decode cX9_isRight 103 = .ok (.iload_n 3, 1) := by decide +kernel
theorem dX9_isRight_104 : decode cX9_isRight 104 = .ok (.iaload, 1) := by decide +kernel
theorem dX9_isRight_105 : decode cX9_isRight 105 = .ok (.iadd, 1) := by decide +kernel
theorem dX9_isRight_106 : decode cX9_isRight 106 = .ok (.iaload, 1) := by decide +kernel
theorem dX9_isRight_107 : decode cX9_isRight 107 = .ok (.if_icmp .ne 45, 3) := by decide +kernel
theorem dX9_isRight_110 : decode cX9_isRight 110 = .ok (.aload_n 0, 1) := by decide +kernel
theorem dX9_isRight_111 : decode cX9_isRight 111 = .ok (.getfield 49, 3) := by decide +kernel
theorem dX9_isRight_114 : decode cX9_isRight 114 = .ok (.bipush 64, 2) := by decide +kernel
theorem dX9_isRight_116 : decode cX9_isRight 116 = .ok (.iload 4, 2) := by decide +kernel
theorem dX9_isRight_118 : decode cX9_isRight 118 = .ok (.imul, 1) := by decide +kernel
theorem dX9_isRight_119 : decode cX9_isRight 119 = .ok (.bipush 8, 2) := by decide +kernel
theorem dX9_isRight_121 : decode cX9_isRight 121 = .ok (.iload_n 3, 1) := by decide +kernel
theorem dX9_isRight_122 : decode cX9_isRight 122 = .ok (.imul, 1) := by decide +kernel
theorem dX9_isRight_123 : decode cX9_isRight 123 = .ok (.iadd, 1) := by decide +kernel
theorem dX9_isRight_124 : decode cX9_isRight 124 = .ok (.iload_n 1, 1) := by decide +kernel
theorem dX9_isRight_125 : decode cX9_isRight 125 = .ok (.iadd, 1) := by decide +kernel
theorem dX9_isRight_126 : decode cX9_isRight 126 = .ok (.iaload, 1) := by decide +kernel
theorem dX9_isRight_127 : decode cX9_isRight 127 = .ok (.aload_n 0, 1) := by decide +kernel
theorem dX9_isRight_128 : decode cX9_isRight 128 = .ok (.getfield 49, 3) := by decide +kernel
theorem dX9_isRight_131 : decode cX9_isRight 131 = .ok (.bipush 64, 2) := by decide +kernel
theorem dX9_isRight_133 : decode cX9_isRight 133 = .ok (.iload 4, 2) := by decide +kernel
theorem dX9_isRight_135 : decode cX9_isRight 135 = .ok (.imul, 1) := by decide +kernel
theorem dX9_isRight_136 : decode cX9_isRight 136 = .ok (.bipush 8, 2) := by decide +kernel
theorem dX9_isRight_138 : decode cX9_isRight 138 = .ok (.aload_n 0, 1) := by decide +kernel
theorem dX9_isRight_139 : decode cX9_isRight 139 = .ok (.getfield 46, 3) := by decide +kernel
theorem dX9_isRight_142 : decode cX9_isRight 142 = .ok (.iload_n 3, 1) := by decide +kernel
theorem dX9_isRight_143 : decode cX9_isRight 143 = .ok (.iaload, 1) := by decide +kernel
theorem dX9_isRight_144 : decode cX9_isRight 144 = .ok (.imul, 1) := by decide +kernel
theorem dX9_isRight_145 : decode cX9_isRight 145 = .ok (.iadd, 1) := by decide +kernel
theorem dX9_isRight_146 : decode cX9_isRight 146 = .ok (.iload_n 2, 1) := by decide +kernel
theorem dX9_isRight_147 : decode cX9_isRight 147 = .ok (.iadd, 1) := by decide +kernel
theorem dX9_isRight_148 : decode cX9_isRight 148 = .ok (.iaload, 1) := by decide +kernel
theorem dX9_isRight_149 : decode cX9_isRight 149 = .ok (.if_icmp .eq 5, 3) := by decide +kernel
theorem dX9_isRight_152 : decode cX9_isRight 152 = .ok (.iconst 0, 1) := by decide +kernel
theorem dX9_isRight_153 : decode cX9_isRight 153 = .ok (.ireturn, 1) := by decide +kernel
theorem dX9_isRight_154 : decode cX9_isRight 154 = .ok (.iinc 4 1, 3) := by decide +kernel
theorem dX9_isRight_157 : decode cX9_isRight 157 = .ok (.goto (-96), 3) := by decide +kernel
theorem dX9_isRight_160 : decode cX9_isRight 160 = .ok (.iinc 3 1, 3) := by decide +kernel
theorem dX9_isRight_163 : decode cX9_isRight 163 = .ok (.goto (-122), 3) := by decide +kernel
theorem dX9_isRight_166 : decode cX9_isRight 166 = .ok (.iconst 1, 1) := by decide +kernel
theorem dX9_isRight_167 : decode cX9_isRight 167 = .ok (.ireturn, 1) := by decide +kernel
theorem dX9_nextTurning_0 : decode cX9_nextTurning 0 = .ok (.iload_n 1, 1) := by decide +kernel
theorem dX9_nextTurning_1 : decode cX9_nextTurning 1 = .ok (.ifCond .eq 7, 3) := by decide +kernel
theorem dX9_nextTurning_4 : decode cX9_nextTurning 4 = .ok (.iconst 0, 1) := by decide +kernel
theorem dX9_nextTurning_5 : decode cX9_nextTurning 5 = .ok (.goto 9, 3) := by decide +kernel
theorem dX9_nextTurning_8 : decode cX9_nextTurning 8 = .ok (.aload_n 0, 1) := by decide +kernel
theorem dX9_nextTurning_9 : decode cX9_nextTurning 9 = .ok (.getfield 149, 3) := by decide +kernel
theorem dX9_nextTurning_12 : decode cX9_nextTurning 12 = .ok (.iconst 1, 1) := by decide +kernel
theorem dX9_nextTurning_13 : decode cX9_nextTurning 13 = .ok (.isub, 1) := by decide +kernel
theorem dX9_nextTurning_14 : decode cX9_nextTurning 14 = .ok (.istore_n 2, 1) := by decide +kernel
theorem dX9_nextTurning_15 : decode cX9_nextTurning 15 = .ok (.iload_n 1, 1) := by decide +kernel
theorem dX9_nextTurning_16 : decode cX9_nextTurning 16 = .ok (.ifCond .eq 10, 3) := by decide +kernel
theorem dX9_nextTurning_19 : decode cX9_nextTurning 19 = .ok (.aload_n 0, 1) := by decide +kernel
theorem dX9_nextTurning_20 : decode cX9_nextTurning 20 = .ok (.getfield 46, 3) := by decide +kernel
theorem dX9_nextTurning_23 : decode cX9_nextTurning 23 = .ok (.iconst 0, 1) := by decide +kernel
theorem dX9_nextTurning_24 : decode cX9_nextTurning 24 = .ok (.iconst (-1), 1) := by decide +kernel
theorem dX9_nextTurning_25 : decode cX9_nextTurning 25 = .ok (.iastore, 1) := by decide +kernel
theorem dX9_nextTurning_26 : decode cX9_nextTurning 26 = .ok (.iload_n 2, 1) := by decide +kernel
theorem dX9_nextTurning_27 : decode cX9_nextTurning 27 = .ok (.ifCond .lt 68, 3) := by decide +kernel
theorem dX9_nextTurning_30 : decode cX9_nextTurning 30 = .ok (.aload_n 0, 1) := by decide +kernel
theorem dX9_nextTurning_31 : decode cX9_nextTurning 31 = .ok (.getfield 46, 3) := by decide +kernel
theorem dX9_nextTurning_34 : decode cX9_nextTurning 34 = .ok (.iload_n 2, 1) := by decide +kernel
theorem dX9_nextTurning_35 : decode cX9_nextTurning 35 = .ok (.dup2, 1) := by decide +kernel
theorem dX9_nextTurning_36 : decode cX9_nextTurning 36 = .ok (.iaload, 1) := by decide +kernel
theorem dX9_nextTurning_37 : decode cX9_nextTurning 37 = .ok (.iconst 1, 1) := by decide +kernel
theorem dX9_nextTurning_38 : decode cX9_nextTurning 38 = .ok (.iadd, 1) := by decide +kernel
theorem dX9_nextTurning_39 : decode cX9_nextTurning 39 = .ok (.iastore, 1) := by decide +kernel
theorem dX9_nextTurning_40 : decode cX9_nextTurning 40 = .ok (.aload_n 0, 1) := by decide +kernel
theorem dX9_nextTurning_41 : decode cX9_nextTurning 41 = .ok (.getfield 46, 3) := by decide +kernel
theorem dX9_nextTurning_44 : decode cX9_nextTurning 44 = .ok (.iload_n 2, 1) := by decide +kernel
theorem dX9_nextTurning_45 : decode cX9_nextTurning 45 = .ok (.iaload, 1) := by decide +kernel
theorem dX9_nextTurning_46 : decode cX9_nextTurning 46 = .ok (.aload_n 0, 1) := by decide +kernel
theorem dX9_nextTurning_47 : decode cX9_nextTurning 47 = .ok (.getfield 149, 3) := by decide +kernel
theorem dX9_nextTurning_50 : decode cX9_nextTurning 50 = .ok (.if_icmp .lt 9, 3) := by decide +kernel
theorem dX9_nextTurning_53 : decode cX9_nextTurning 53 = .ok (.iinc 2 (-1), 3) := by decide +kernel
theorem dX9_nextTurning_56 : decode cX9_nextTurning 56 = .ok (.goto (-30), 3) := by decide +kernel
theorem dX9_nextTurning_59 : decode cX9_nextTurning 59 = .ok (.aload_n 0, 1) := by decide +kernel
theorem dX9_nextTurning_60 : decode cX9_nextTurning 60 = .ok (.iload_n 2, 1) := by decide +kernel
theorem dX9_nextTurning_61 : decode cX9_nextTurning 61 = .ok (.invokevirtual 260, 3) := by decide +kernel
theorem dX9_nextTurning_64 : decode cX9_nextTurning 64 = .ok (.ifCond .ne 6, 3) := by decide +kernel
theorem dX9_nextTurning_67 : decode cX9_nextTurning 67 = .ok (.goto (-41), 3) := by decide +kernel
theorem dX9_nextTurning_70 : decode cX9_nextTurning 70 = .ok (.iload_n 2, 1) := by decide +kernel
theorem dX9_nextTurning_71 : decode cX9_nextTurning 71 = .ok (.aload_n 0, 1) := by decide +kernel
theorem dX9_nextTurning_72 : decode cX9_nextTurning 72 = .ok (.getfield 149, 3) := by decide +kernel
theorem dX9_nextTurning_75 : decode cX9_nextTurning 75 = .ok (.iconst 1, 1) := by decide +kernel
theorem dX9_nextTurning_76 : decode cX9_nextTurning 76 = .ok (.isub, 1) := by decide +kernel
theorem dX9_nextTurning_77 : decode cX9_nextTurning 77 = .ok (.if_icmp .ne 5, 3) := by decide +kernel
theorem dX9_nextTurning_80 : decode cX9_nextTurning 80 = .ok (.iconst 1, 1) := by decide +kernel
theorem dX9_nextTurning_81 : decode cX9_nextTurning 81 = .ok (.ireturn, 1) := by decide +kernel
theorem dX9_nextTurning_82 : decode cX9_nextTurning 82 = .ok (.iinc 2 1, 3) := by decide +kernel
theorem dX9_nextTurning_85 : decode cX9_nextTurning 85 = .ok (.aload_n 0, 1) := by decide +kernel
theorem dX9_nextTurning_86 : decode cX9_nextTurning 86 = .ok (.getfield 46, 3) := by decide +kernel
theorem dX9_nextTurning_89 : decode cX9_nextTurning 89 = .ok (.iload_n 2, 1) := by decide +kernel
theorem dX9_nextTurning_90 : decode cX9_nextTurning 90 = .ok (.iconst (-1), 1) := by decide +kernel
theorem dX9_nextTurning_91 : decode cX9_nextTurning 91 = .ok (.iastore, 1) := by decide +kernel
theorem dX9_nextTurning_92 : decode cX9_nextTurning 92 = .ok (.goto (-66), 3) := by decide +kernel
theorem dX9_nextTurning_95 : decode cX9_nextTurning 95 = .ok (.iconst 0, 1) := by decide +kernel
theorem dX9_nextTurning_96 : decode cX9_nextTurning 96 = .ok (.ireturn, 1) := by decide +kernel
theorem dX9_turnings_0 : decode cX9_turnings 0 = .ok (.aload_n 0, 1) := by decide +kernel
theorem dX9_turnings_1 : decode cX9_turnings 1 = .ok (.invokevirtual 263, 3) := by decide +kernel
theorem dX9_turnings_4 : decode cX9_turnings 4 = .ok (.iconst 0, 1) := by decide +kernel
theorem dX9_turnings_5 : decode cX9_turnings 5 = .ok (.istore_n 1, 1) := by decide +kernel
theorem dX9_turnings_6 : decode cX9_turnings 6 = .ok (.aload_n 0, 1) := by decide +kernel
theorem dX9_turnings_7 : decode cX9_turnings 7 = .ok (.iconst 1, 1) := by decide +kernel
theorem dX9_turnings_8 : decode cX9_turnings 8 = .ok (.invokevirtual 266, 3) := by decide +kernel
theorem dX9_turnings_11 : decode cX9_turnings 11 = .ok (.istore_n 2, 1) := by decide +kernel
theorem dX9_turnings_12 : decode cX9_turnings 12 = .ok (.iload_n 2, 1) := by decide +kernel
theorem dX9_turnings_13 : decode cX9_turnings 13 = .ok (.ifCond .eq 15, 3) := by decide +kernel
theorem dX9_turnings_16 : decode cX9_turnings 16 = .ok (.iinc 1 1, 3) := by decide +kernel
theorem dX9_turnings_19 : decode cX9_turnings 19 = .ok (.aload_n 0, 1) := by decide +kernel
theorem dX9_turnings_20 : decode cX9_turnings 20 = .ok (.iconst 0, 1) := by decide +kernel
theorem dX9_turnings_21 : decode cX9_turnings 21 = .ok (.invokevirtual 266, 3) := by decide +kernel
theorem dX9_turnings_24 : decode cX9_turnings 24 = .ok (.istore_n 2, 1) := by decide +kernel
theorem dX9_turnings_25 : decode cX9_turnings 25 = .ok (.goto (-13), 3) := by decide +kernel
theorem dX9_turnings_28 : decode cX9_turnings 28 = .ok (.iload_n 1, 1) := by decide +kernel
theorem dX9_turnings_29 : decode cX9_turnings 29 = .ok (.ireturn, 1) := by decide +kernel
theorem dX9_alike_0 : decode cX9_alike 0 = .ok (.aload_n 0, 1) := by decide +kernel
theorem dX9_alike_1 : decode cX9_alike 1 = .ok (.getfield 13, 3) := by decide +kernel
theorem dX9_alike_4 : decode cX9_alike 4 = .ok (.iconst 1, 1) := by decide +kernel
theorem dX9_alike_5 : decode cX9_alike 5 = .ok (.if_icmp .ne 7, 3) := by decide +kernel
theorem dX9_alike_8 : decode cX9_alike 8 = .ok (.iload_n 1, 1) := by decide +kernel
theorem dX9_alike_9 : decode cX9_alike 9 = .ok (.goto 4, 3) := by decide +kernel
theorem dX9_alike_12 : decode cX9_alike 12 = .ok (.iload_n 2, 1) := by decide +kernel
theorem dX9_alike_13 : decode cX9_alike 13 = .ok (.istore 4, 2) := by decide +kernel
theorem dX9_alike_15 : decode cX9_alike 15 = .ok (.aload_n 0, 1) := by decide +kernel
theorem dX9_alike_16 : decode cX9_alike 16 = .ok (.iload_n 1, 1) := by decide +kernel
theorem dX9_alike_17 : decode cX9_alike 17 = .ok (.invokevirtual 163, 3) := by decide +kernel
theorem dX9_alike_20 : decode cX9_alike 20 = .ok (.ifCond .eq 20, 3) := by decide +kernel
theorem dX9_alike_23 : decode cX9_alike 23 = .ok (.aload_n 0, 1) := by decide +kernel
theorem dX9_alike_24 : decode cX9_alike 24 = .ok (.iload 4, 2) := by decide +kernel
theorem dX9_alike_26 : decode cX9_alike 26 = .ok (.invokevirtual 163, 3) := by decide +kernel
theorem dX9_alike_29 : decode cX9_alike 29 = .ok (.ifCond .eq 11, 3) := by decide +kernel
theorem dX9_alike_32 : decode cX9_alike 32 = .ok (.aload_n 0, 1) := by decide +kernel
theorem dX9_alike_33 : decode cX9_alike 33 = .ok (.iload_n 3, 1) := by decide +kernel
theorem dX9_alike_34 : decode cX9_alike 34 = .ok (.invokevirtual 163, 3) := by decide +kernel
theorem dX9_alike_37 : decode cX9_alike 37 = .ok (.ifCond .ne 6, 3) := by decide +kernel
theorem dX9_alike_40 : decode cX9_alike 40 = .ok (.bipush (-2), 2) := by decide +kernel
theorem dX9_alike_42 : decode cX9_alike 42 = .ok (.ireturn, 1) := by decide +kernel
theorem dX9_alike_43 : decode cX9_alike 43 = .ok (.aload_n 0, 1) := by decide +kernel
theorem dX9_alike_44 : decode cX9_alike 44 = .ok (.invokevirtual 263, 3) := by decide +kernel
theorem dX9_alike_47 : decode cX9_alike 47 = .ok (.sipush 1000, 3) := by decide +kernel
theorem dX9_alike_50 : decode cX9_alike 50 = .ok (.istore 5, 2) := by decide +kernel
theorem dX9_alike_52 : decode cX9_alike 52 = .ok (.aload_n 0, 1) := by decide +kernel
theorem dX9_alike_53 : decode cX9_alike 53 = .ok (.iconst 1, 1) := by decide +kernel
theorem dX9_alike_54 : decode cX9_alike 54 = .ok (.invokevirtual 266, 3) := by decide +kernel
theorem dX9_alike_57 : decode cX9_alike 57 = .ok (.istore 6, 2) := by decide +kernel
theorem dX9_alike_59 : decode cX9_alike 59 = .ok (.iload 6, 2) := by decide +kernel
theorem dX9_alike_61 : decode cX9_alike 61 = .ok (.ifCond .eq 87, 3) := by decide +kernel
theorem dX9_alike_64 : decode cX9_alike 64 = .ok (.aload_n 0, 1) := by decide +kernel
theorem dX9_alike_65 : decode cX9_alike 65 = .ok (.getfield 46, 3) := by decide +kernel
theorem dX9_alike_68 : decode cX9_alike 68 = .ok (.iload_n 1, 1) := by decide +kernel
theorem dX9_alike_69 : decode cX9_alike 69 = .ok (.iaload, 1) := by decide +kernel
theorem dX9_alike_70 : decode cX9_alike 70 = .ok (.istore 7, 2) := by decide +kernel
theorem dX9_alike_72 : decode cX9_alike 72 = .ok (.aload_n 0, 1) := by decide +kernel
theorem dX9_alike_73 : decode cX9_alike 73 = .ok (.getfield 46, 3) := by decide +kernel
theorem dX9_alike_76 : decode cX9_alike 76 = .ok (.iload 4, 2) := by decide +kernel
theorem dX9_alike_78 : decode cX9_alike 78 = .ok (.iaload, 1) := by decide +kernel
theorem dX9_alike_79 : decode cX9_alike 79 = .ok (.istore 8, 2) := by decide +kernel
theorem dX9_alike_81 : decode cX9_alike 81 = .ok (.iload 7, 2) := by decide +kernel
theorem dX9_alike_83 : decode cX9_alike 83 = .ok (.iload 8, 2) := by decide +kernel
theorem dX9_alike_85 : decode cX9_alike 85 = .ok (.if_icmp .ge 17, 3) := by decide +kernel
theorem dX9_alike_88 : decode cX9_alike 88 = .ok (.bipush 100, 2) := by decide +kernel
theorem dX9_alike_90 : decode cX9_alike 90 = .ok (.iload 7, 2) := by decide +kernel
theorem dX9_alike_92 : decode cX9_alike 92 = .ok (.imul, 1) := by decide +kernel
theorem dX9_alike_93 : decode cX9_alike 93 = .ok (.bipush 10, 2) := by decide +kernel
theorem dX9_alike_95 : decode cX9_alike 95 = .ok (.iload 8, 2) := by decide +kernel
theorem dX9_alike_97 : decode cX9_alike 97 = .ok (.imul, 1) := by decide +kernel
theorem dX9_alike_98 : decode cX9_alike 98 = .ok (.iadd, 1) := by decide +kernel
theorem dX9_alike_99 : decode cX9_alike 99 = .ok (.goto 14, 3) := by decide +kernel
theorem dX9_alike_102 : decode cX9_alike 102 = .ok (.bipush 100, 2) := by decide +kernel
theorem dX9_alike_104 : decode cX9_alike 104 = .ok (.iload 8, 2) := by decide +kernel
theorem dX9_alike_106 : decode cX9_alike 106 = .ok (.imul, 1) := by decide +kernel
theorem dX9_alike_107 : decode cX9_alike 107 = .ok (.bipush 10, 2) := by decide +kernel
theorem dX9_alike_109 : decode cX9_alike 109 = .ok (.iload 7, 2) := by decide +kernel
theorem dX9_alike_111 : decode cX9_alike 111 = .ok (.imul, 1) := by decide +kernel
theorem dX9_alike_112 : decode cX9_alike 112 = .ok (.iadd, 1) := by decide +kernel
theorem dX9_alike_113 : decode cX9_alike 113 = .ok (.aload_n 0, 1) := by decide +kernel
theorem dX9_alike_114 : decode cX9_alike 114 = .ok (.getfield 46, 3) := by decide +kernel
theorem dX9_alike_117 : decode cX9_alike 117 = .ok (.iload_n 3, 1) := by decide +kernel
theorem dX9_alike_118 : decode cX9_alike 118 = .ok (.iaload, 1) := by decide +kernel
theorem dX9_alike_119 : decode cX9_alike 119 = .ok (.iadd, 1) := by decide +kernel
theorem dX9_alike_120 : decode cX9_alike 120 = .ok (.istore 9, 2) := by decide +kernel
theorem dX9_alike_122 : decode cX9_alike 122 = .ok (.iload 9, 2) := by decide +kernel
theorem dX9_alike_124 : decode cX9_alike 124 = .ok (.iload 5, 2) := by decide +kernel
theorem dX9_alike_126 : decode cX9_alike 126 = .ok (.if_icmp .ge 8, 3) := by decide +kernel
theorem dX9_alike_129 : decode cX9_alike 129 = .ok (.iload 9, 2) := by decide +kernel
theorem dX9_alike_131 : decode cX9_alike 131 = .ok (.goto 5, 3) := by decide +kernel
theorem dX9_alike_134 : decode cX9_alike 134 = .ok (.iload 5, 2) := by decide +kernel
theorem dX9_alike_136 : decode cX9_alike 136 = .ok (.istore 5, 2) := by decide +kernel
theorem dX9_alike_138 : decode cX9_alike 138 = .ok (.aload_n 0, 1) := by decide +kernel
theorem dX9_alike_139 : decode cX9_alike 139 = .ok (.iconst 0, 1) := by decide +kernel
theorem dX9_alike_140 : decode cX9_alike 140 = .ok (.invokevirtual 266, 3) := by decide +kernel
theorem dX9_alike_143 : decode cX9_alike 143 = .ok (.istore 6, 2) := by decide +kernel
theorem dX9_alike_145 : decode cX9_alike 145 = .ok (.goto (-86), 3) := by decide +kernel
theorem dX9_alike_148 : decode cX9_alike 148 = .ok (.iload 5, 2) := by decide +kernel
theorem dX9_alike_150 : decode cX9_alike 150 = .ok (.ireturn, 1) := by decide +kernel
theorem dX9_unfair_0 : decode cX9_unfair 0 = .ok (.aload_n 0, 1) := by decide +kernel
theorem dX9_unfair_1 : decode cX9_unfair 1 = .ok (.iconst 0, 1) := by decide +kernel
theorem dX9_unfair_2 : decode cX9_unfair 2 = .ok (.putfield 36, 3) := by decide +kernel
theorem dX9_unfair_5 : decode cX9_unfair 5 = .ok (.iconst 2, 1) := by decide +kernel
theorem dX9_unfair_6 : decode cX9_unfair 6 = .ok (.aload_n 0, 1) := by decide +kernel
theorem dX9_unfair_7 : decode cX9_unfair 7 = .ok (.iconst 0, 1) := by decide +kernel
theorem dX9_unfair_8 : decode cX9_unfair 8 = .ok (.invokevirtual 254, 3) := by decide +kernel
theorem dX9_unfair_11 : decode cX9_unfair 11 = .ok (.imul, 1) := by decide +kernel
theorem dX9_unfair_12 : decode cX9_unfair 12 = .ok (.aload_n 0, 1) := by decide +kernel
theorem dX9_unfair_13 : decode cX9_unfair 13 = .ok (.iconst 1, 1) := by decide +kernel
theorem dX9_unfair_14 : decode cX9_unfair 14 = .ok (.invokevirtual 254, 3) := by decide +kernel
theorem dX9_unfair_17 : decode cX9_unfair 17 = .ok (.isub, 1) := by decide +kernel
theorem dX9_unfair_18 : decode cX9_unfair 18 = .ok (.istore_n 1, 1) := by decide +kernel
theorem dX9_unfair_19 : decode cX9_unfair 19 = .ok (.aload_n 0, 1) := by decide +kernel
theorem dX9_unfair_20 : decode cX9_unfair 20 = .ok (.iconst 0, 1) := by decide +kernel
theorem dX9_unfair_21 : decode cX9_unfair 21 = .ok (.putfield 36, 3) := by decide +kernel
theorem dX9_unfair_24 : decode cX9_unfair 24 = .ok (.iload_n 1, 1) := by decide +kernel
theorem dX9_unfair_25 : decode cX9_unfair 25 = .ok (.ifCond .ge 8, 3) := by decide +kernel
theorem dX9_unfair_28 : decode cX9_unfair 28 = .ok (.iload_n 1, 1) := by decide +kernel
theorem dX9_unfair_29 : decode cX9_unfair 29 = .ok (.ineg, 1) := by decide +kernel
theorem dX9_unfair_30 : decode cX9_unfair 30 = .ok (.goto 4, 3) := by decide +kernel
theorem dX9_unfair_33 : decode cX9_unfair 33 = .ok (.iload_n 1, 1) := by decide +kernel
theorem dX9_unfair_34 : decode cX9_unfair 34 = .ok (.ireturn, 1) := by decide +kernel
theorem dX9_withoutWay_0 : decode cX9_withoutWay 0 = .ok (.aload_n 0, 1) := by decide +kernel
theorem dX9_withoutWay_1 : decode cX9_withoutWay 1 = .ok (.getfield 19, 3) := by decide +kernel
theorem dX9_withoutWay_4 : decode cX9_withoutWay 4 = .ok (.iload_n 1, 1) := by decide +kernel
theorem dX9_withoutWay_5 : decode cX9_withoutWay 5 = .ok (.iaload, 1) := by decide +kernel
theorem dX9_withoutWay_6 : decode cX9_withoutWay 6 = .ok (.istore_n 2, 1) := by decide +kernel
theorem dX9_withoutWay_7 : decode cX9_withoutWay 7 = .ok (.aload_n 0, 1) := by decide +kernel
theorem dX9_withoutWay_8 : decode cX9_withoutWay 8 = .ok (.getfield 23, 3) := by decide +kernel
theorem dX9_withoutWay_11 : decode cX9_withoutWay 11 = .ok (.iload_n 1, 1) := by decide +kernel
theorem dX9_withoutWay_12 : decode cX9_withoutWay 12 = .ok (.iaload, 1) := by decide +kernel
theorem dX9_withoutWay_13 : decode cX9_withoutWay 13 = .ok (.istore_n 3, 1) := by decide +kernel
theorem dX9_withoutWay_14 : decode cX9_withoutWay 14 = .ok (.aload_n 0, 1) := by decide +kernel
theorem dX9_withoutWay_15 : decode cX9_withoutWay 15 = .ok (.getfield 26, 3) := by decide +kernel
theorem dX9_withoutWay_18 : decode cX9_withoutWay 18 = .ok (.iload_n 1, 1) := by decide +kernel
theorem dX9_withoutWay_19 : decode cX9_withoutWay 19 = .ok (.iaload, 1) := by decide +kernel
theorem dX9_withoutWay_20 : decode cX9_withoutWay 20 = .ok (.istore 4, 2) := by decide +kernel
theorem dX9_withoutWay_22 : decode cX9_withoutWay 22 = .ok (.aload_n 0, 1) := by decide +kernel
theorem dX9_withoutWay_23 : decode cX9_withoutWay 23 = .ok (.iload_n 1, 1) := by decide +kernel
theorem dX9_withoutWay_24 : decode cX9_withoutWay 24 = .ok (.iconst 1, 1) := by decide +kernel
theorem dX9_withoutWay_25 : decode cX9_withoutWay 25 = .ok (.invokevirtual 270, 3) := by decide +kernel
theorem dX9_withoutWay_28 : decode cX9_withoutWay 28 = .ok (.aload_n 0, 1) := by decide +kernel
theorem dX9_withoutWay_29 : decode cX9_withoutWay 29 = .ok (.dup, 1) := by decide +kernel
theorem dX9_withoutWay_30 : decode cX9_withoutWay 30 = .ok (.getfield 7, 3) := by decide +kernel
theorem dX9_withoutWay_33 : decode cX9_withoutWay 33 = .ok (.iconst 1, 1) := by decide +kernel
theorem dX9_withoutWay_34 : decode cX9_withoutWay 34 = .ok (.isub, 1) := by decide +kernel
theorem dX9_withoutWay_35 : decode cX9_withoutWay 35 = .ok (.putfield 7, 3) := by decide +kernel
theorem dX9_withoutWay_38 : decode cX9_withoutWay 38 = .ok (.aload_n 0, 1) := by decide +kernel
theorem dX9_withoutWay_39 : decode cX9_withoutWay 39 = .ok (.invokevirtual 274, 3) := by decide +kernel
theorem dX9_withoutWay_42 : decode cX9_withoutWay 42 = .ok (.istore 5, 2) := by decide +kernel
theorem dX9_withoutWay_44 : decode cX9_withoutWay 44 = .ok (.aload_n 0, 1) := by decide +kernel
theorem dX9_withoutWay_45 : decode cX9_withoutWay 45 = .ok (.dup, 1) := by decide +kernel
theorem dX9_withoutWay_46 : decode cX9_withoutWay 46 = .ok (.getfield 7, 3) := by decide +kernel
theorem dX9_withoutWay_49 : decode cX9_withoutWay 49 = .ok (.iconst 1, 1) := by decide +kernel
theorem dX9_withoutWay_50 : decode cX9_withoutWay 50 = .ok (.iadd, 1) := by decide +kernel
theorem dX9_withoutWay_51 : decode cX9_withoutWay 51 = .ok (.putfield 7, 3) := by decide +kernel
theorem dX9_withoutWay_54 : decode cX9_withoutWay 54 = .ok (.aload_n 0, 1) := by decide +kernel
theorem dX9_withoutWay_55 : decode cX9_withoutWay 55 = .ok (.iload_n 1, 1) := by decide +kernel
theorem dX9_withoutWay_56 : decode cX9_withoutWay 56 = .ok (.iconst (-1), 1) := by decide +kernel
theorem dX9_withoutWay_57 : decode cX9_withoutWay 57 = .ok (.invokevirtual 270, 3) := by decide +kernel
theorem dX9_withoutWay_60 : decode cX9_withoutWay 60 = .ok (.aload_n 0, 1) := by decide +kernel
theorem dX9_withoutWay_61 : decode cX9_withoutWay 61 = .ok (.getfield 19, 3) := by decide +kernel
theorem dX9_withoutWay_64 : decode cX9_withoutWay 64 = .ok (.iload_n 1, 1) := by decide +kernel
theorem dX9_withoutWay_65 : decode cX9_withoutWay 65 = .ok (.iload_n 2, 1) := by decide +kernel
theorem dX9_withoutWay_66 : decode cX9_withoutWay 66 = .ok (.iastore, 1) := by decide +kernel
theorem dX9_withoutWay_67 : decode cX9_withoutWay 67 = .ok (.aload_n 0, 1) := by decide +kernel
theorem dX9_withoutWay_68 : decode cX9_withoutWay 68 = .ok (.getfield 23, 3) := by decide +kernel
theorem dX9_withoutWay_71 : decode cX9_withoutWay 71 = .ok (.iload_n 1, 1) := by decide +kernel
theorem dX9_withoutWay_72 : decode cX9_withoutWay 72 = .ok (.iload_n 3, 1) := by decide +kernel
theorem dX9_withoutWay_73 : decode cX9_withoutWay 73 = .ok (.iastore, 1) := by decide +kernel
theorem dX9_withoutWay_74 : decode cX9_withoutWay 74 = .ok (.aload_n 0, 1) := by decide +kernel
theorem dX9_withoutWay_75 : decode cX9_withoutWay 75 = .ok (.getfield 26, 3) := by decide +kernel
theorem dX9_withoutWay_78 : decode cX9_withoutWay 78 = .ok (.iload_n 1, 1) := by decide +kernel
theorem dX9_withoutWay_79 : decode cX9_withoutWay 79 = .ok (.iload 4, 2) := by decide +kernel
theorem dX9_withoutWay_81 : decode cX9_withoutWay 81 = .ok (.iastore, 1) := by decide +kernel
theorem dX9_withoutWay_82 : decode cX9_withoutWay 82 = .ok (.iload 5, 2) := by decide +kernel
theorem dX9_withoutWay_84 : decode cX9_withoutWay 84 = .ok (.ireturn, 1) := by decide +kernel
theorem dX9_shift_0 : decode cX9_shift 0 = .ok (.iconst 0, 1) := by decide +kernel
theorem dX9_shift_1 : decode cX9_shift 1 = .ok (.istore_n 3, 1) := by decide +kernel
theorem dX9_shift_2 : decode cX9_shift 2 = .ok (.iload_n 3, 1) := by decide +kernel
theorem dX9_shift_3 : decode cX9_shift 3 = .ok (.aload_n 0, 1) := by decide +kernel
theorem dX9_shift_4 : decode cX9_shift 4 = .ok (.getfield 7, 3) := by decide +kernel
theorem dX9_shift_7 : decode cX9_shift 7 = .ok (.iconst 1, 1) := by decide +kernel
theorem dX9_shift_8 : decode cX9_shift 8 = .ok (.isub, 1) := by decide +kernel
theorem dX9_shift_9 : decode cX9_shift 9 = .ok (.iload_n 1, 1) := by decide +kernel
theorem dX9_shift_10 : decode cX9_shift 10 = .ok (.isub, 1) := by decide +kernel
theorem dX9_shift_11 : decode cX9_shift 11 = .ok (.if_icmp .ge 77, 3) := by decide +kernel
theorem dX9_shift_14 : decode cX9_shift 14 = .ok (.iload_n 2, 1) := by decide +kernel
theorem dX9_shift_15 : decode cX9_shift 15 = .ok (.ifCond .le 9, 3) := by decide +kernel
theorem dX9_shift_18 : decode cX9_shift 18 = .ok (.iload_n 1, 1) := by decide +kernel
theorem dX9_shift_19 : decode cX9_shift 19 = .ok (.iload_n 3, 1) := by decide +kernel
theorem dX9_shift_20 : decode cX9_shift 20 = .ok (.iadd, 1) := by decide +kernel
theorem dX9_shift_21 : decode cX9_shift 21 = .ok (.goto 11, 3) := by decide +kernel
theorem dX9_shift_24 : decode cX9_shift 24 = .ok (.aload_n 0, 1) := by decide +kernel
theorem dX9_shift_25 : decode cX9_shift 25 = .ok (.getfield 7, 3) := by decide +kernel
theorem dX9_shift_28 : decode cX9_shift 28 = .ok (.iconst 1, 1) := by decide +kernel
theorem dX9_shift_29 : decode cX9_shift 29 = .ok (.isub, 1) := by decide +kernel
theorem dX9_shift_30 : decode cX9_shift 30 = .ok (.iload_n 3, 1) := by decide +kernel
theorem dX9_shift_31 : decode cX9_shift 31 = .ok (.isub, 1) := by decide +kernel
theorem dX9_shift_32 : decode cX9_shift 32 = .ok (.istore 4, 2) := by decide +kernel
theorem dX9_shift_34 : decode cX9_shift 34 = .ok (.aload_n 0, 1) := by decide +kernel
theorem dX9_shift_35 : decode cX9_shift 35 = .ok (.getfield 19, 3) := by decide +kernel
theorem dX9_shift_38 : decode cX9_shift 38 = .ok (.iload 4, 2) := by decide +kernel
theorem dX9_shift_40 : decode cX9_shift 40 = .ok (.aload_n 0, 1) := by decide +kernel
theorem dX9_shift_41 : decode cX9_shift 41 = .ok (.getfield 19, 3) := by decide +kernel
theorem dX9_shift_44 : decode cX9_shift 44 = .ok (.iload 4, 2) := by decide +kernel
theorem dX9_shift_46 : decode cX9_shift 46 = .ok (.iload_n 2, 1) := by decide +kernel
theorem dX9_shift_47 : decode cX9_shift 47 = .ok (.iadd, 1) := by decide +kernel
theorem dX9_shift_48 : decode cX9_shift 48 = .ok (.iaload, 1) := by decide +kernel
theorem dX9_shift_49 : decode cX9_shift 49 = .ok (.iastore, 1) := by decide +kernel
theorem dX9_shift_50 : decode cX9_shift 50 = .ok (.aload_n 0, 1) := by decide +kernel
theorem dX9_shift_51 : decode cX9_shift 51 = .ok (.getfield 23, 3) := by decide +kernel
theorem dX9_shift_54 : decode cX9_shift 54 = .ok (.iload 4, 2) := by decide +kernel
theorem dX9_shift_56 : decode cX9_shift 56 = .ok (.aload_n 0, 1) := by decide +kernel
theorem dX9_shift_57 : decode cX9_shift 57 = .ok (.getfield 23, 3) := by decide +kernel
theorem dX9_shift_60 : decode cX9_shift 60 = .ok (.iload 4, 2) := by decide +kernel
theorem dX9_shift_62 : decode cX9_shift 62 = .ok (.iload_n 2, 1) := by decide +kernel
theorem dX9_shift_63 : decode cX9_shift 63 = .ok (.iadd, 1) := by decide +kernel
theorem dX9_shift_64 : decode cX9_shift 64 = .ok (.iaload, 1) := by decide +kernel
theorem dX9_shift_65 : decode cX9_shift 65 = .ok (.iastore, 1) := by decide +kernel
theorem dX9_shift_66 : decode cX9_shift 66 = .ok (.aload_n 0, 1) := by decide +kernel
theorem dX9_shift_67 : decode cX9_shift 67 = .ok (.getfield 26, 3) := by decide +kernel
theorem dX9_shift_70 : decode cX9_shift 70 = .ok (.iload 4, 2) := by decide +kernel
theorem dX9_shift_72 : decode cX9_shift 72 = .ok (.aload_n 0, 1) := by decide +kernel
theorem dX9_shift_73 : decode cX9_shift 73 = .ok (.getfield 26, 3) := by decide +kernel
theorem dX9_shift_76 : decode cX9_shift 76 = .ok (.iload 4, 2) := by decide +kernel
theorem dX9_shift_78 : decode cX9_shift 78 = .ok (.iload_n 2, 1) := by decide +kernel
theorem dX9_shift_79 : decode cX9_shift 79 = .ok (.iadd, 1) := by decide +kernel
theorem dX9_shift_80 : decode cX9_shift 80 = .ok (.iaload, 1) := by decide +kernel
theorem dX9_shift_81 : decode cX9_shift 81 = .ok (.iastore, 1) := by decide +kernel
theorem dX9_shift_82 : decode cX9_shift 82 = .ok (.iinc 3 1, 3) := by decide +kernel
theorem dX9_shift_85 : decode cX9_shift 85 = .ok (.goto (-83), 3) := by decide +kernel
theorem dX9_shift_88 : decode cX9_shift 88 = .ok (.return_, 1) := by decide +kernel
theorem dX9_fairer_0 : decode cX9_fairer 0 = .ok (.aload_n 0, 1) := by decide +kernel
theorem dX9_fairer_1 : decode cX9_fairer 1 = .ok (.invokevirtual 166, 3) := by decide +kernel
theorem dX9_fairer_4 : decode cX9_fairer 4 = .ok (.ifCond .le 6, 3) := by decide +kernel
theorem dX9_fairer_7 : decode cX9_fairer 7 = .ok (.bipush (-3), 2) := by decide +kernel
theorem dX9_fairer_9 : decode cX9_fairer 9 = .ok (.ireturn, 1) := by decide +kernel
theorem dX9_fairer_10 : decode cX9_fairer 10 = .ok (.iconst (-1), 1) := by decide +kernel
theorem dX9_fairer_11 : decode cX9_fairer 11 = .ok (.istore_n 1, 1) := by decide +kernel
theorem dX9_fairer_12 : decode cX9_fairer 12 = .ok (.iconst 0, 1) := by decide +kernel
theorem dX9_fairer_13 : decode cX9_fairer 13 = .ok (.istore_n 2, 1) := by decide +kernel
theorem dX9_fairer_14 : decode cX9_fairer 14 = .ok (.iconst 0, 1) := by decide +kernel
theorem dX9_fairer_15 : decode cX9_fairer 15 = .ok (.istore_n 3, 1) := by decide +kernel
theorem dX9_fairer_16 : decode cX9_fairer 16 = .ok (.iload_n 3, 1) := by decide +kernel
theorem dX9_fairer_17 : decode cX9_fairer 17 = .ok (.aload_n 0, 1) := by decide +kernel
theorem dX9_fairer_18 : decode cX9_fairer 18 = .ok (.getfield 7, 3) := by decide +kernel
theorem dX9_fairer_21 : decode cX9_fairer 21 = .ok (.if_icmp .ge 37, 3) := by decide +kernel
theorem dX9_fairer_24 : decode cX9_fairer 24 = .ok (.aload_n 0, 1) := by decide +kernel
theorem dX9_fairer_25 : decode cX9_fairer 25 = .ok (.iload_n 3, 1) := by decide +kernel
theorem dX9_fairer_26 : decode cX9_fairer 26 = .ok (.invokevirtual 277, 3) := by decide +kernel
theorem dX9_fairer_29 : decode cX9_fairer 29 = .ok (.istore 4, 2) := by decide +kernel
theorem dX9_fairer_31 : decode cX9_fairer 31 = .ok (.iload_n 1, 1) := by decide +kernel
theorem dX9_fairer_32 : decode cX9_fairer 32 = .ok (.ifCond .lt 12, 3) := by decide +kernel
theorem dX9_fairer_35 : decode cX9_fairer 35 = .ok (.iload 4, 2) := by decide +kernel
theorem dX9_fairer_37 : decode cX9_fairer 37 = .ok (.iload_n 2, 1) := by decide +kernel
theorem dX9_fairer_38 : decode cX9_fairer 38 = .ok (.if_icmp .lt 6, 3) := by decide +kernel
theorem dX9_fairer_41 : decode cX9_fairer 41 = .ok (.goto 11, 3) := by decide +kernel
theorem dX9_fairer_44 : decode cX9_fairer 44 = .ok (.iload 4, 2) := by decide +kernel
theorem dX9_fairer_46 : decode cX9_fairer 46 = .ok (.istore_n 2, 1) := by decide +kernel
theorem dX9_fairer_47 : decode cX9_fairer 47 = .ok (.bipush 100, 2) := by decide +kernel
theorem dX9_fairer_49 : decode cX9_fairer 49 = .ok (.iload_n 3, 1) := by decide +kernel
theorem dX9_fairer_50 : decode cX9_fairer 50 = .ok (.iadd, 1) := by decide +kernel
theorem dX9_fairer_51 : decode cX9_fairer 51 = .ok (.istore_n 1, 1) := by decide +kernel
theorem dX9_fairer_52 : decode cX9_fairer 52 = .ok (.iinc 3 1, 3) := by decide +kernel
theorem dX9_fairer_55 : decode cX9_fairer 55 = .ok (.goto (-39), 3) := by decide +kernel
theorem dX9_fairer_58 : decode cX9_fairer 58 = .ok (.iconst 0, 1) := by decide +kernel
theorem dX9_fairer_59 : decode cX9_fairer 59 = .ok (.istore_n 3, 1) := by decide +kernel
theorem dX9_fairer_60 : decode cX9_fairer 60 = .ok (.iload_n 3, 1) := by decide +kernel
theorem dX9_fairer_61 : decode cX9_fairer 61 = .ok (.aload_n 0, 1) := by decide +kernel
theorem dX9_fairer_62 : decode cX9_fairer 62 = .ok (.getfield 149, 3) := by decide +kernel
theorem dX9_fairer_65 : decode cX9_fairer 65 = .ok (.if_icmp .ge 136, 3) := by decide +kernel
theorem dX9_fairer_68 : decode cX9_fairer 68 = .ok (.aload_n 0, 1) := by decide +kernel
theorem dX9_fairer_69 : decode cX9_fairer 69 = .ok (.getfield 7, 3) := by decide +kernel
theorem dX9_fairer_72 : decode cX9_fairer 72 = .ok (.bipush 16, 2) := by decide +kernel
theorem dX9_fairer_74 : decode cX9_fairer 74 = .ok (.if_icmp .ge 127, 3) := by decide +kernel
theorem dX9_fairer_77 : decode cX9_fairer 77 = .ok (.iload_n 3, 1) := by decide +kernel
theorem dX9_fairer_78 : decode cX9_fairer 78 = .ok (.iconst 1, 1) := by decide +kernel
theorem dX9_fairer_79 : decode cX9_fairer 79 = .ok (.iadd, 1) := by decide +kernel
theorem dX9_fairer_80 : decode cX9_fairer 80 = .ok (.istore 4, 2) := by decide +kernel
theorem dX9_fairer_82 : decode cX9_fairer 82 = .ok (.iload 4, 2) := by decide +kernel
theorem dX9_fairer_84 : decode cX9_fairer 84 = .ok (.aload_n 0, 1) := by decide +kernel
theorem dX9_fairer_85 : decode cX9_fairer 85 = .ok (.getfield 149, 3) := by decide +kernel
theorem dX9_fairer_88 : decode cX9_fairer 88 = .ok (.if_icmp .ge 107, 3) := by decide +kernel
theorem dX9_fairer_91 : decode cX9_fairer 91 = .ok (.aload_n 0, 1) := by decide +kernel
theorem dX9_fairer_92 : decode cX9_fairer 92 = .ok (.iload_n 3, 1) := by decide +kernel
theorem dX9_fairer_93 : decode cX9_fairer 93 = .ok (.iload 4, 2) := by decide +kernel
theorem dX9_fairer_95 : decode cX9_fairer 95 = .ok (.invokevirtual 192, 3) := by decide +kernel
theorem dX9_fairer_98 : decode cX9_fairer 98 = .ok (.ifCond .eq 6, 3) := by decide +kernel
theorem dX9_fairer_101 : decode cX9_fairer 101 = .ok (.goto 88, 3) := by decide +kernel
theorem dX9_fairer_104 : decode cX9_fairer 104 = .ok (.aload_n 0, 1) := by decide +kernel
theorem dX9_fairer_105 : decode cX9_fairer 105 = .ok (.getfield 19, 3) := by decide +kernel
theorem dX9_fairer_108 : decode cX9_fairer 108 = .ok (.aload_n 0, 1) := by decide +kernel
theorem dX9_fairer_109 : decode cX9_fairer 109 = .ok (.getfield 7, 3) := by decide +kernel
theorem dX9_fairer_112 : decode cX9_fairer 112 = .ok (.iconst 0, 1) := by decide +kernel
theorem dX9_fairer_113 : decode cX9_fairer 113 = .ok (.iastore, 1) := by decide +kernel
theorem dX9_fairer_114 : decode cX9_fairer 114 = .ok (.aload_n 0, 1) := by decide +kernel
theorem dX9_fairer_115 : decode cX9_fairer 115 = .ok (.getfield 23, 3) := by decide +kernel
theorem dX9_fairer_118 : decode cX9_fairer 118 = .ok (.aload_n 0, 1) := by decide +kernel
theorem dX9_fairer_119 : decode cX9_fairer 119 = .ok (.getfield 7, 3) := by decide +kernel
theorem dX9_fairer_122 : decode cX9_fairer 122 = .ok (.iload_n 3, 1) := by decide +kernel
theorem dX9_fairer_123 : decode cX9_fairer 123 = .ok (.iastore, 1) := by decide +kernel
theorem dX9_fairer_124 : decode cX9_fairer 124 = .ok (.aload_n 0, 1) := by decide +kernel
theorem dX9_fairer_125 : decode cX9_fairer 125 = .ok (.getfield 26, 3) := by decide +kernel
theorem dX9_fairer_128 : decode cX9_fairer 128 = .ok (.aload_n 0, 1) := by decide +kernel
theorem dX9_fairer_129 : decode cX9_fairer 129 = .ok (.getfield 7, 3) := by decide +kernel
theorem dX9_fairer_132 : decode cX9_fairer 132 = .ok (.iload 4, 2) := by decide +kernel
theorem dX9_fairer_134 : decode cX9_fairer 134 = .ok (.iastore, 1) := by decide +kernel
theorem dX9_fairer_135 : decode cX9_fairer 135 = .ok (.aload_n 0, 1) := by decide +kernel
theorem dX9_fairer_136 : decode cX9_fairer 136 = .ok (.dup, 1) := by decide +kernel
theorem dX9_fairer_137 : decode cX9_fairer 137 = .ok (.getfield 7, 3) := by decide +kernel
theorem dX9_fairer_140 : decode cX9_fairer 140 = .ok (.iconst 1, 1) := by decide +kernel
theorem dX9_fairer_141 : decode cX9_fairer 141 = .ok (.iadd, 1) := by decide +kernel
theorem dX9_fairer_142 : decode cX9_fairer 142 = .ok (.putfield 7, 3) := by decide +kernel
theorem dX9_fairer_145 : decode cX9_fairer 145 = .ok (.aload_n 0, 1) := by decide +kernel
theorem dX9_fairer_146 : decode cX9_fairer 146 = .ok (.invokevirtual 274, 3) := by decide +kernel
theorem dX9_fairer_149 : decode cX9_fairer 149 = .ok (.istore 5, 2) := by decide +kernel
theorem dX9_fairer_151 : decode cX9_fairer 151 = .ok (.aload_n 0, 1) := by decide +kernel
theorem dX9_fairer_152 : decode cX9_fairer 152 = .ok (.dup, 1) := by decide +kernel
theorem dX9_fairer_153 : decode cX9_fairer 153 = .ok (.getfield 7, 3) := by decide +kernel
theorem dX9_fairer_156 : decode cX9_fairer 156 = .ok (.iconst 1, 1) := by decide +kernel
theorem dX9_fairer_157 : decode cX9_fairer 157 = .ok (.isub, 1) := by decide +kernel
theorem dX9_fairer_158 : decode cX9_fairer 158 = .ok (.putfield 7, 3) := by decide +kernel
theorem dX9_fairer_161 : decode cX9_fairer 161 = .ok (.iload_n 1, 1) := by decide +kernel
theorem dX9_fairer_162 : decode cX9_fairer 162 = .ok (.ifCond .lt 12, 3) := by decide +kernel
theorem dX9_fairer_165 : decode cX9_fairer 165 = .ok (.iload 5, 2) := by decide +kernel
theorem dX9_fairer_167 : decode cX9_fairer 167 = .ok (.iload_n 2, 1) := by decide +kernel
theorem dX9_fairer_168 : decode cX9_fairer 168 = .ok (.if_icmp .lt 6, 3) := by decide +kernel
theorem dX9_fairer_171 : decode cX9_fairer 171 = .ok (.goto 18, 3) := by decide +kernel
theorem dX9_fairer_174 : decode cX9_fairer 174 = .ok (.iload 5, 2) := by decide +kernel
theorem dX9_fairer_176 : decode cX9_fairer 176 = .ok (.istore_n 2, 1) := by decide +kernel
theorem dX9_fairer_177 : decode cX9_fairer 177 = .ok (.sipush 200, 3) := by decide +kernel
theorem dX9_fairer_180 : decode cX9_fairer 180 = .ok (.bipush 10, 2) := by decide +kernel
theorem dX9_fairer_182 : decode cX9_fairer 182 = .ok (.iload_n 3, 1) := by decide +kernel
theorem dX9_fairer_183 : decode cX9_fairer 183 = .ok (.imul, 1) := by decide +kernel
theorem dX9_fairer_184 : decode cX9_fairer 184 = .ok (.iadd, 1) := by decide +kernel
theorem dX9_fairer_185 : decode cX9_fairer 185 = .ok (.iload 4, 2) := by decide +kernel
theorem dX9_fairer_187 : decode cX9_fairer 187 = .ok (.iadd, 1) := by decide +kernel
theorem dX9_fairer_188 : decode cX9_fairer 188 = .ok (.istore_n 1, 1) := by decide +kernel
theorem dX9_fairer_189 : decode cX9_fairer 189 = .ok (.iinc 4 1, 3) := by decide +kernel
theorem dX9_fairer_192 : decode cX9_fairer 192 = .ok (.goto (-110), 3) := by decide +kernel
theorem dX9_fairer_195 : decode cX9_fairer 195 = .ok (.iinc 3 1, 3) := by decide +kernel
theorem dX9_fairer_198 : decode cX9_fairer 198 = .ok (.goto (-138), 3) := by decide +kernel
theorem dX9_fairer_201 : decode cX9_fairer 201 = .ok (.iload_n 1, 1) := by decide +kernel
theorem dX9_fairer_202 : decode cX9_fairer 202 = .ok (.ireturn, 1) := by decide +kernel
theorem dX9_seesFrom_0 : decode cX9_seesFrom 0 = .ok (.aload_n 0, 1) := by decide +kernel
theorem dX9_seesFrom_1 : decode cX9_seesFrom 1 = .ok (.getfield 16, 3) := by decide +kernel
theorem dX9_seesFrom_4 : decode cX9_seesFrom 4 = .ok (.aload_n 0, 1) := by decide +kernel
theorem dX9_seesFrom_5 : decode cX9_seesFrom 5 = .ok (.getfield 33, 3) := by decide +kernel
theorem dX9_seesFrom_8 : decode cX9_seesFrom 8 = .ok (.iload_n 1, 1) := by decide +kernel
theorem dX9_seesFrom_9 : decode cX9_seesFrom 9 = .ok (.baload, 1) := by decide +kernel
theorem dX9_seesFrom_10 : decode cX9_seesFrom 10 = .ok (.ifCond .eq 7, 3) := by decide +kernel
theorem dX9_seesFrom_13 : decode cX9_seesFrom 13 = .ok (.iconst 1, 1) := by decide +kernel
theorem dX9_seesFrom_14 : decode cX9_seesFrom 14 = .ok (.goto 4, 3) := by decide +kernel
theorem dX9_seesFrom_17 : decode cX9_seesFrom 17 = .ok (.iconst 0, 1) := by decide +kernel
theorem dX9_seesFrom_18 : decode cX9_seesFrom 18 = .ok (.iadd, 1) := by decide +kernel
theorem dX9_seesFrom_19 : decode cX9_seesFrom 19 = .ok (.istore_n 2, 1) := by decide +kernel
theorem dX9_seesFrom_20 : decode cX9_seesFrom 20 = .ok (.iconst 1, 1) := by decide +kernel
theorem dX9_seesFrom_21 : decode cX9_seesFrom 21 = .ok (.iload_n 1, 1) := by decide +kernel
theorem dX9_seesFrom_22 : decode cX9_seesFrom 22 = .ok (.ishl, 1) := by decide +kernel
theorem dX9_seesFrom_23 : decode cX9_seesFrom 23 = .ok (.istore_n 3, 1) := by decide +kernel
theorem dX9_seesFrom_24 : decode cX9_seesFrom 24 = .ok (.iconst 0, 1) := by decide +kernel
theorem dX9_seesFrom_25 : decode cX9_seesFrom 25 = .ok (.istore 4, 2) := by decide +kernel
theorem dX9_seesFrom_27 : decode cX9_seesFrom 27 = .ok (.iload 4, 2) := by decide +kernel
theorem dX9_seesFrom_29 : decode cX9_seesFrom 29 = .ok (.iload_n 2, 1) := by decide +kernel
theorem dX9_seesFrom_30 : decode cX9_seesFrom 30 = .ok (.if_icmp .ge 91, 3) := by decide +kernel
theorem dX9_seesFrom_33 : decode cX9_seesFrom 33 = .ok (.iload_n 3, 1) := by decide +kernel
theorem dX9_seesFrom_34 : decode cX9_seesFrom 34 = .ok (.istore 5, 2) := by decide +kernel
theorem dX9_seesFrom_36 : decode cX9_seesFrom 36 = .ok (.iconst 0, 1) := by decide +kernel
theorem dX9_seesFrom_37 : decode cX9_seesFrom 37 = .ok (.istore 6, 2) := by decide +kernel
theorem dX9_seesFrom_39 : decode cX9_seesFrom 39 = .ok (.iload 6, 2) := by decide +kernel
theorem dX9_seesFrom_41 : decode cX9_seesFrom 41 = .ok (.aload_n 0, 1) := by decide +kernel
theorem dX9_seesFrom_42 : decode cX9_seesFrom 42 = .ok (.getfield 7, 3) := by decide +kernel
theorem dX9_seesFrom_45 : decode cX9_seesFrom 45 = .ok (.if_icmp .ge 67, 3) := by decide +kernel
theorem dX9_seesFrom_48 : decode cX9_seesFrom 48 = .ok (.iload_n 3, 1) := by decide +kernel
theorem dX9_seesFrom_49 : decode cX9_seesFrom 49 = .ok (.aload_n 0, 1) := by decide +kernel
theorem dX9_seesFrom_50 : decode cX9_seesFrom 50 = .ok (.getfield 23, 3) := by decide +kernel
theorem dX9_seesFrom_53 : decode cX9_seesFrom 53 = .ok (.iload 6, 2) := by decide +kernel
theorem dX9_seesFrom_55 : decode cX9_seesFrom 55 = .ok (.iaload, 1) := by decide +kernel
theorem dX9_seesFrom_56 : decode cX9_seesFrom 56 = .ok (.ishr, 1) := by decide +kernel
theorem dX9_seesFrom_57 : decode cX9_seesFrom 57 = .ok (.iconst 1, 1) := by decide +kernel
theorem dX9_seesFrom_58 : decode cX9_seesFrom 58 = .ok (.iand, 1) := by decide +kernel
theorem dX9_seesFrom_59 : decode cX9_seesFrom 59 = .ok (.iconst 1, 1) := by decide +kernel
theorem dX9_seesFrom_60 : decode cX9_seesFrom 60 = .ok (.if_icmp .ne 17, 3) := by decide +kernel
theorem dX9_seesFrom_63 : decode cX9_seesFrom 63 = .ok (.iload 5, 2) := by decide +kernel
theorem dX9_seesFrom_65 : decode cX9_seesFrom 65 = .ok (.iconst 1, 1) := by decide +kernel
theorem dX9_seesFrom_66 : decode cX9_seesFrom 66 = .ok (.aload_n 0, 1) := by decide +kernel
theorem dX9_seesFrom_67 : decode cX9_seesFrom 67 = .ok (.getfield 26, 3) := by decide +kernel
theorem dX9_seesFrom_70 : decode cX9_seesFrom 70 = .ok (.iload 6, 2) := by decide +kernel
theorem dX9_seesFrom_72 : decode cX9_seesFrom 72 = .ok (.iaload, 1) := by decide +kernel
theorem dX9_seesFrom_73 : decode cX9_seesFrom 73 = .ok (.ishl, 1) := by decide +kernel
theorem dX9_seesFrom_74 : decode cX9_seesFrom 74 = .ok (.ior, 1) := by decide +kernel
theorem dX9_seesFrom_75 : decode cX9_seesFrom 75 = .ok (.istore 5, 2) := by decide +kernel
theorem dX9_seesFrom_77 : decode cX9_seesFrom 77 = .ok (.iload_n 3, 1) := by decide +kernel
theorem dX9_seesFrom_78 : decode cX9_seesFrom 78 = .ok (.aload_n 0, 1) := by decide +kernel
theorem dX9_seesFrom_79 : decode cX9_seesFrom 79 = .ok (.getfield 26, 3) := by decide +kernel
theorem dX9_seesFrom_82 : decode cX9_seesFrom 82 = .ok (.iload 6, 2) := by decide +kernel
theorem dX9_seesFrom_84 : decode cX9_seesFrom 84 = .ok (.iaload, 1) := by decide +kernel
theorem dX9_seesFrom_85 : decode cX9_seesFrom 85 = .ok (.ishr, 1) := by decide +kernel
theorem dX9_seesFrom_86 : decode cX9_seesFrom 86 = .ok (.iconst 1, 1) := by decide +kernel
theorem dX9_seesFrom_87 : decode cX9_seesFrom 87 = .ok (.iand, 1) := by decide +kernel
theorem dX9_seesFrom_88 : decode cX9_seesFrom 88 = .ok (.iconst 1, 1) := by decide +kernel
theorem dX9_seesFrom_89 : decode cX9_seesFrom 89 = .ok (.if_icmp .ne 17, 3) := by decide +kernel
theorem dX9_seesFrom_92 : decode cX9_seesFrom 92 = .ok (.iload 5, 2) := by decide +kernel
theorem dX9_seesFrom_94 : decode cX9_seesFrom 94 = .ok (.iconst 1, 1) := by decide +kernel
theorem dX9_seesFrom_95 : decode cX9_seesFrom 95 = .ok (.aload_n 0, 1) := by decide +kernel
theorem dX9_seesFrom_96 : decode cX9_seesFrom 96 = .ok (.getfield 23, 3) := by decide +kernel
theorem dX9_seesFrom_99 : decode cX9_seesFrom 99 = .ok (.iload 6, 2) := by decide +kernel
theorem dX9_seesFrom_101 : decode cX9_seesFrom 101 = .ok (.iaload, 1) := by decide +kernel
theorem dX9_seesFrom_102 : decode cX9_seesFrom 102 = .ok (.ishl, 1) := by decide +kernel
theorem dX9_seesFrom_103 : decode cX9_seesFrom 103 = .ok (.ior, 1) := by decide +kernel
theorem dX9_seesFrom_104 : decode cX9_seesFrom 104 = .ok (.istore 5, 2) := by decide +kernel
theorem dX9_seesFrom_106 : decode cX9_seesFrom 106 = .ok (.iinc 6 1, 3) := by decide +kernel
theorem dX9_seesFrom_109 : decode cX9_seesFrom 109 = .ok (.goto (-70), 3) := by decide +kernel
theorem dX9_seesFrom_112 : decode cX9_seesFrom 112 = .ok (.iload 5, 2) := by decide +kernel
theorem dX9_seesFrom_114 : decode cX9_seesFrom 114 = .ok (.istore_n 3, 1) := by decide +kernel
theorem dX9_seesFrom_115 : decode cX9_seesFrom 115 = .ok (.iinc 4 1, 3) := by decide +kernel
theorem dX9_seesFrom_118 : decode cX9_seesFrom 118 = .ok (.goto (-91), 3) := by decide +kernel
theorem dX9_seesFrom_121 : decode cX9_seesFrom 121 = .ok (.iload_n 3, 1) := by decide +kernel
theorem dX9_seesFrom_122 : decode cX9_seesFrom 122 = .ok (.ireturn, 1) := by decide +kernel
theorem dX9_seenBy_0 : decode cX9_seenBy 0 = .ok (.aload_n 0, 1) := by decide +kernel
theorem dX9_seenBy_1 : decode cX9_seenBy 1 = .ok (.iload_n 1, 1) := by decide +kernel
theorem dX9_seenBy_2 : decode cX9_seenBy 2 = .ok (.invokevirtual 280, 3) := by decide +kernel
theorem dX9_seenBy_5 : decode cX9_seenBy 5 = .ok (.aload_n 0, 1) := by decide +kernel
theorem dX9_seenBy_6 : decode cX9_seenBy 6 = .ok (.iload_n 2, 1) := by decide +kernel
theorem dX9_seenBy_7 : decode cX9_seenBy 7 = .ok (.invokevirtual 280, 3) := by decide +kernel
theorem dX9_seenBy_10 : decode cX9_seenBy 10 = .ok (.ior, 1) := by decide +kernel
theorem dX9_seenBy_11 : decode cX9_seenBy 11 = .ok (.ireturn, 1) := by decide +kernel
theorem dX9_sees_0 : decode cX9_sees 0 = .ok (.aload_n 0, 1) := by decide +kernel
theorem dX9_sees_1 : decode cX9_sees 1 = .ok (.getfield 13, 3) := by decide +kernel
theorem dX9_sees_4 : decode cX9_sees 4 = .ok (.iconst 1, 1) := by decide +kernel
theorem dX9_sees_5 : decode cX9_sees 5 = .ok (.if_icmp .ne 7, 3) := by decide +kernel
theorem dX9_sees_8 : decode cX9_sees 8 = .ok (.iload_n 1, 1) := by decide +kernel
theorem dX9_sees_9 : decode cX9_sees 9 = .ok (.goto 4, 3) := by decide +kernel
theorem dX9_sees_12 : decode cX9_sees 12 = .ok (.iload_n 2, 1) := by decide +kernel
theorem dX9_sees_13 : decode cX9_sees 13 = .ok (.istore_n 3, 1) := by decide +kernel
theorem dX9_sees_14 : decode cX9_sees 14 = .ok (.aload_n 0, 1) := by decide +kernel
theorem dX9_sees_15 : decode cX9_sees 15 = .ok (.iload_n 1, 1) := by decide +kernel
theorem dX9_sees_16 : decode cX9_sees 16 = .ok (.invokevirtual 163, 3) := by decide +kernel
theorem dX9_sees_19 : decode cX9_sees 19 = .ok (.ifCond .eq 20, 3) := by decide +kernel
theorem dX9_sees_22 : decode cX9_sees 22 = .ok (.aload_n 0, 1) := by decide +kernel
theorem dX9_sees_23 : decode cX9_sees 23 = .ok (.iload_n 3, 1) := by decide +kernel
theorem dX9_sees_24 : decode cX9_sees 24 = .ok (.invokevirtual 163, 3) := by decide +kernel
theorem dX9_sees_27 : decode cX9_sees 27 = .ok (.ifCond .eq 12, 3) := by decide +kernel
theorem dX9_sees_30 : decode cX9_sees 30 = .ok (.aload_n 0, 1) := by decide +kernel
theorem dX9_sees_31 : decode cX9_sees 31 = .ok (.iload_n 1, 1) := by decide +kernel
theorem dX9_sees_32 : decode cX9_sees 32 = .ok (.iload_n 3, 1) := by decide +kernel
theorem dX9_sees_33 : decode cX9_sees 33 = .ok (.invokevirtual 283, 3) := by decide +kernel
theorem dX9_sees_36 : decode cX9_sees 36 = .ok (.goto 5, 3) := by decide +kernel
theorem dX9_sees_39 : decode cX9_sees 39 = .ok (.bipush (-2), 2) := by decide +kernel
theorem dX9_sees_41 : decode cX9_sees 41 = .ok (.ireturn, 1) := by decide +kernel
theorem dX9_runs_0 : decode cX9_runs 0 = .ok (.iconst 0, 1) := by decide +kernel
theorem dX9_runs_1 : decode cX9_runs 1 = .ok (.istore 5, 2) := by decide +kernel
theorem dX9_runs_3 : decode cX9_runs 3 = .ok (.iconst 0, 1) := by decide +kernel
theorem dX9_runs_4 : decode cX9_runs 4 = .ok (.istore 6, 2) := by decide +kernel
theorem dX9_runs_6 : decode cX9_runs 6 = .ok (.iload 6, 2) := by decide +kernel
theorem dX9_runs_8 : decode cX9_runs 8 = .ok (.aload_n 0, 1) := by decide +kernel
theorem dX9_runs_9 : decode cX9_runs 9 = .ok (.getfield 149, 3) := by decide +kernel
theorem dX9_runs_12 : decode cX9_runs 12 = .ok (.if_icmp .ge 88, 3) := by decide +kernel
theorem dX9_runs_15 : decode cX9_runs 15 = .ok (.iload_n 1, 1) := by decide +kernel
theorem dX9_runs_16 : decode cX9_runs 16 = .ok (.iload 6, 2) := by decide +kernel
theorem dX9_runs_18 : decode cX9_runs 18 = .ok (.ishr, 1) := by decide +kernel
theorem dX9_runs_19 : decode cX9_runs 19 = .ok (.iconst 1, 1) := by decide +kernel
theorem dX9_runs_20 : decode cX9_runs 20 = .ok (.iand, 1) := by decide +kernel
theorem dX9_runs_21 : decode cX9_runs 21 = .ok (.ifCond .ne 6, 3) := by decide +kernel
theorem dX9_runs_24 : decode cX9_runs 24 = .ok (.goto 70, 3) := by decide +kernel
theorem dX9_runs_27 : decode cX9_runs 27 = .ok (.aload_n 0, 1) := by decide +kernel
theorem dX9_runs_28 : decode cX9_runs 28 = .ok (.getfield 29, 3) := by decide +kernel
theorem dX9_runs_31 : decode cX9_runs 31 = .ok (.iload 6, 2) := by decide +kernel
theorem dX9_runs_33 : decode cX9_runs 33 = .ok (.baload, 1) := by decide +kernel
theorem dX9_runs_34 : decode cX9_runs 34 = .ok (.ifCond .eq 12, 3) := by decide +kernel
theorem dX9_runs_37 : decode cX9_runs 37 = .ok (.iload 5, 2) := by decide +kernel
theorem dX9_runs_39 : decode cX9_runs 39 = .ok (.iconst 1, 1) := by decide +kernel
theorem dX9_runs_40 : decode cX9_runs 40 = .ok (.iload 6, 2) := by decide +kernel
theorem dX9_runs_42 : decode cX9_runs 42 = .ok (.ishl, 1) := by decide +kernel
theorem dX9_runs_43 : decode cX9_runs 43 = .ok (.ior, 1) := by decide +kernel
theorem dX9_runs_44 : decode cX9_runs 44 = .ok (.istore 5, 2) := by decide +kernel
theorem dX9_runs_46 : decode cX9_runs 46 = .ok (.iconst 0, 1) := by decide +kernel
theorem dX9_runs_47 : decode cX9_runs 47 = .ok (.istore 7, 2) := by decide +kernel
theorem dX9_runs_49 : decode cX9_runs 49 = .ok (.iload 7, 2) := by decide +kernel
theorem dX9_runs_51 : decode cX9_runs 51 = .ok (.aload_n 0, 1) := by decide +kernel
theorem dX9_runs_52 : decode cX9_runs 52 = .ok (.getfield 7, 3) := by decide +kernel
theorem dX9_runs_55 : decode cX9_runs 55 = .ok (.if_icmp .ge 39, 3) := by decide +kernel
theorem dX9_runs_58 : decode cX9_runs 58 = .ok (.aload_n 0, 1) := by decide +kernel
theorem dX9_runs_59 : decode cX9_runs 59 = .ok (.iload 7, 2) := by decide +kernel
theorem dX9_runs_61 : decode cX9_runs 61 = .ok (.iload 6, 2) := by decide +kernel
theorem dX9_runs_63 : decode cX9_runs 63 = .ok (.iload_n 2, 1) := by decide +kernel
theorem dX9_runs_64 : decode cX9_runs 64 = .ok (.iload_n 3, 1) := by decide +kernel
theorem dX9_runs_65 : decode cX9_runs 65 = .ok (.iload 4, 2) := by decide +kernel
theorem dX9_runs_67 : decode cX9_runs 67 = .ok (.invokevirtual 213, 3) := by decide +kernel
theorem dX9_runs_70 : decode cX9_runs 70 = .ok (.ifCond .eq 18, 3) := by decide +kernel
theorem dX9_runs_73 : decode cX9_runs 73 = .ok (.iload 5, 2) := by decide +kernel
theorem dX9_runs_75 : decode cX9_runs 75 = .ok (.iconst 1, 1) := by decide +kernel
theorem dX9_runs_76 : decode cX9_runs 76 = .ok (.aload_n 0, 1) := by decide +kernel
theorem dX9_runs_77 : decode cX9_runs 77 = .ok (.iload 7, 2) := by decide +kernel
theorem dX9_runs_79 : decode cX9_runs 79 = .ok (.iload 6, 2) := by decide +kernel
theorem dX9_runs_81 : decode cX9_runs 81 = .ok (.invokevirtual 184, 3) := by decide +kernel
theorem dX9_runs_84 : decode cX9_runs 84 = .ok (.ishl, 1) := by decide +kernel
theorem dX9_runs_85 : decode cX9_runs 85 = .ok (.ior, 1) := by decide +kernel
theorem dX9_runs_86 : decode cX9_runs 86 = .ok (.istore 5, 2) := by decide +kernel
theorem dX9_runs_88 : decode cX9_runs 88 = .ok (.iinc 7 1, 3) := by decide +kernel
theorem dX9_runs_91 : decode cX9_runs 91 = .ok (.goto (-42), 3) := by decide +kernel
theorem dX9_runs_94 : decode cX9_runs 94 = .ok (.iinc 6 1, 3) := by decide +kernel
theorem dX9_runs_97 : decode cX9_runs 97 = .ok (.goto (-91), 3) := by decide +kernel
theorem dX9_runs_100 : decode cX9_runs 100 = .ok (.iload 5, 2) := by decide +kernel
theorem dX9_runs_102 : decode cX9_runs 102 = .ok (.iconst 1, 1) := by decide +kernel
theorem dX9_runs_103 : decode cX9_runs 103 = .ok (.iload_n 2, 1) := by decide +kernel
theorem dX9_runs_104 : decode cX9_runs 104 = .ok (.ishl, 1) := by decide +kernel
theorem dX9_runs_105 : decode cX9_runs 105 = .ok (.iconst 1, 1) := by decide +kernel
theorem dX9_runs_106 : decode cX9_runs 106 = .ok (.iload_n 3, 1) := by decide +kernel
theorem dX9_runs_107 : decode cX9_runs 107 = .ok (.ishl, 1) := by decide +kernel
theorem dX9_runs_108 : decode cX9_runs 108 = .ok (.ior, 1) := by decide +kernel
theorem dX9_runs_109 : decode cX9_runs 109 = .ok (.iconst (-1), 1) := by decide +kernel
theorem dX9_runs_110 : decode cX9_runs 110 = .ok (.ixor, 1) := by decide +kernel
theorem dX9_runs_111 : decode cX9_runs 111 = .ok (.iand, 1) := by decide +kernel
theorem dX9_runs_112 : decode cX9_runs 112 = .ok (.ireturn, 1) := by decide +kernel
theorem dX9_hidden_0 : decode cX9_hidden 0 = .ok (.bipush 8, 2) := by decide +kernel
theorem dX9_hidden_2 : decode cX9_hidden 2 = .ok (.iload_n 1, 1) := by decide +kernel
theorem dX9_hidden_3 : decode cX9_hidden 3 = .ok (.imul, 1) := by decide +kernel
theorem dX9_hidden_4 : decode cX9_hidden 4 = .ok (.iload_n 2, 1) := by decide +kernel
theorem dX9_hidden_5 : decode cX9_hidden 5 = .ok (.iadd, 1) := by decide +kernel
theorem dX9_hidden_6 : decode cX9_hidden 6 = .ok (.bipush 64, 2) := by decide +kernel
theorem dX9_hidden_8 : decode cX9_hidden 8 = .ok (.imul, 1) := by decide +kernel
theorem dX9_hidden_9 : decode cX9_hidden 9 = .ok (.iload_n 3, 1) := by decide +kernel
theorem dX9_hidden_10 : decode cX9_hidden 10 = .ok (.iadd, 1) := by decide +kernel
theorem dX9_hidden_11 : decode cX9_hidden 11 = .ok (.ireturn, 1) := by decide +kernel
theorem dX9_runsFrom_0 : decode cX9_runsFrom 0 = .ok (.iconst 0, 1) := by decide +kernel
theorem dX9_runsFrom_1 : decode cX9_runsFrom 1 = .ok (.istore 4, 2) := by decide +kernel
theorem dX9_runsFrom_3 : decode cX9_runsFrom 3 = .ok (.iconst 0, 1) := by decide +kernel
theorem dX9_runsFrom_4 : decode cX9_runsFrom 4 = .ok (.istore 5, 2) := by decide +kernel
theorem dX9_runsFrom_6 : decode cX9_runsFrom 6 = .ok (.iload 5, 2) := by decide +kernel
theorem dX9_runsFrom_8 : decode cX9_runsFrom 8 = .ok (.aload_n 0, 1) := by decide +kernel
theorem dX9_runsFrom_9 : decode cX9_runsFrom 9 = .ok (.getfield 149, 3) := by decide +kernel
theorem dX9_runsFrom_12 : decode cX9_runsFrom 12 = .ok (.if_icmp .ge 41, 3) := by decide +kernel
theorem dX9_runsFrom_15 : decode cX9_runsFrom 15 = .ok (.iload_n 1, 1) := by decide +kernel
theorem dX9_runsFrom_16 : decode cX9_runsFrom 16 = .ok (.iload 5, 2) := by decide +kernel
theorem dX9_runsFrom_18 : decode cX9_runsFrom 18 = .ok (.ishr, 1) := by decide +kernel
theorem dX9_runsFrom_19 : decode cX9_runsFrom 19 = .ok (.iconst 1, 1) := by decide +kernel
theorem dX9_runsFrom_20 : decode cX9_runsFrom 20 = .ok (.iand, 1) := by decide +kernel
theorem dX9_runsFrom_21 : decode cX9_runsFrom 21 = .ok (.iconst 1, 1) := by decide +kernel
theorem dX9_runsFrom_22 : decode cX9_runsFrom 22 = .ok (.if_icmp .ne 25, 3) := by decide +kernel
theorem dX9_runsFrom_25 : decode cX9_runsFrom 25 = .ok (.iload 4, 2) := by decide +kernel
theorem dX9_runsFrom_27 : decode cX9_runsFrom 27 = .ok (.aload_n 0, 1) := by decide +kernel
theorem dX9_runsFrom_28 : decode cX9_runsFrom 28 = .ok (.getfield 61, 3) := by decide +kernel
theorem dX9_runsFrom_31 : decode cX9_runsFrom 31 = .ok (.bipush 64, 2) := by decide +kernel
theorem dX9_runsFrom_33 : decode cX9_runsFrom 33 = .ok (.iload_n 2, 1) := by decide +kernel
theorem dX9_runsFrom_34 : decode cX9_runsFrom 34 = .ok (.imul, 1) := by decide +kernel
theorem dX9_runsFrom_35 : decode cX9_runsFrom 35 = .ok (.bipush 8, 2) := by decide +kernel
theorem dX9_runsFrom_37 : decode cX9_runsFrom 37 = .ok (.iload_n 3, 1) := by decide +kernel
theorem dX9_runsFrom_38 : decode cX9_runsFrom 38 = .ok (.imul, 1) := by decide +kernel
theorem dX9_runsFrom_39 : decode cX9_runsFrom 39 = .ok (.iadd, 1) := by decide +kernel
theorem dX9_runsFrom_40 : decode cX9_runsFrom 40 = .ok (.iload 5, 2) := by decide +kernel
theorem dX9_runsFrom_42 : decode cX9_runsFrom 42 = .ok (.iadd, 1) := by decide +kernel
theorem dX9_runsFrom_43 : decode cX9_runsFrom 43 = .ok (.iaload, 1) := by decide +kernel
theorem dX9_runsFrom_44 : decode cX9_runsFrom 44 = .ok (.ior, 1) := by decide +kernel
theorem dX9_runsFrom_45 : decode cX9_runsFrom 45 = .ok (.istore 4, 2) := by decide +kernel
theorem dX9_runsFrom_47 : decode cX9_runsFrom 47 = .ok (.iinc 5 1, 3) := by decide +kernel
theorem dX9_runsFrom_50 : decode cX9_runsFrom 50 = .ok (.goto (-44), 3) := by decide +kernel
theorem dX9_runsFrom_53 : decode cX9_runsFrom 53 = .ok (.iload 4, 2) := by decide +kernel
theorem dX9_runsFrom_55 : decode cX9_runsFrom 55 = .ok (.ireturn, 1) := by decide +kernel
theorem dX9_allDone_0 : decode cX9_allDone 0 = .ok (.aload_n 0, 1) := by decide +kernel
theorem dX9_allDone_1 : decode cX9_allDone 1 = .ok (.getfield 58, 3) := by decide +kernel
theorem dX9_allDone_4 : decode cX9_allDone 4 = .ok (.iload_n 2, 1) := by decide +kernel
theorem dX9_allDone_5 : decode cX9_allDone 5 = .ok (.iaload, 1) := by decide +kernel
theorem dX9_allDone_6 : decode cX9_allDone 6 = .ok (.aload_n 0, 1) := by decide +kernel
theorem dX9_allDone_7 : decode cX9_allDone 7 = .ok (.getfield 58, 3) := by decide +kernel
theorem dX9_allDone_10 : decode cX9_allDone 10 = .ok (.iload_n 3, 1) := by decide +kernel
theorem dX9_allDone_11 : decode cX9_allDone 11 = .ok (.iaload, 1) := by decide +kernel
theorem dX9_allDone_12 : decode cX9_allDone 12 = .ok (.ior, 1) := by decide +kernel
theorem dX9_allDone_13 : decode cX9_allDone 13 = .ok (.istore 5, 2) := by decide +kernel
theorem dX9_allDone_15 : decode cX9_allDone 15 = .ok (.iconst 0, 1) := by decide +kernel
theorem dX9_allDone_16 : decode cX9_allDone 16 = .ok (.istore 6, 2) := by decide +kernel
theorem dX9_allDone_18 : decode cX9_allDone 18 = .ok (.iload 6, 2) := by decide +kernel
theorem dX9_allDone_20 : decode cX9_allDone 20 = .ok (.aload_n 0, 1) := by decide +kernel
theorem dX9_allDone_21 : decode cX9_allDone 21 = .ok (.getfield 149, 3) := by decide +kernel
theorem dX9_allDone_24 : decode cX9_allDone 24 = .ok (.if_icmp .ge 44, 3) := by decide +kernel
theorem dX9_allDone_27 : decode cX9_allDone 27 = .ok (.iload_n 1, 1) := by decide +kernel
theorem dX9_allDone_28 : decode cX9_allDone 28 = .ok (.iload 5, 2) := by decide +kernel
theorem dX9_allDone_30 : decode cX9_allDone 30 = .ok (.iand, 1) := by decide +kernel
theorem dX9_allDone_31 : decode cX9_allDone 31 = .ok (.iload 6, 2) := by decide +kernel
theorem dX9_allDone_33 : decode cX9_allDone 33 = .ok (.ishr, 1) := by decide +kernel
theorem dX9_allDone_34 : decode cX9_allDone 34 = .ok (.iconst 1, 1) := by decide +kernel
theorem dX9_allDone_35 : decode cX9_allDone 35 = .ok (.iand, 1) := by decide +kernel
theorem dX9_allDone_36 : decode cX9_allDone 36 = .ok (.iconst 1, 1) := by decide +kernel
theorem dX9_allDone_37 : decode cX9_allDone 37 = .ok (.if_icmp .ne 25, 3) := by decide +kernel
theorem dX9_allDone_40 : decode cX9_allDone 40 = .ok (.aload_n 0, 1) := by decide +kernel
theorem dX9_allDone_41 : decode cX9_allDone 41 = .ok (.getfield 52, 3) := by decide +kernel
theorem dX9_allDone_44 : decode cX9_allDone 44 = .ok (.aload_n 0, 1) := by decide +kernel
theorem dX9_allDone_45 : decode cX9_allDone 45 = .ok (.iload_n 2, 1) := by decide +kernel
theorem dX9_allDone_46 : decode cX9_allDone 46 = .ok (.iload_n 3, 1) := by decide +kernel
theorem dX9_allDone_47 : decode cX9_allDone 47 = .ok (.iconst 1, 1) := by decide +kernel
theorem dX9_allDone_48 : decode cX9_allDone 48 = .ok (.iload 6, 2) := by decide +kernel
theorem dX9_allDone_50 : decode cX9_allDone 50 = .ok (.ishl, 1) := by decide +kernel
theorem dX9_allDone_51 : decode cX9_allDone 51 = .ok (.invokevirtual 286, 3) := by decide +kernel
theorem dX9_allDone_54 : decode cX9_allDone 54 = .ok (.iaload, 1) := by decide +kernel
theorem dX9_allDone_55 : decode cX9_allDone 55 = .ok (.iload 4, 2) := by decide +kernel
theorem dX9_allDone_57 : decode cX9_allDone 57 = .ok (.if_icmp .lt 5, 3) := by decide +kernel
theorem dX9_allDone_60 : decode cX9_allDone 60 = .ok (.iconst 0, 1) := by decide +kernel
theorem dX9_allDone_61 : decode cX9_allDone 61 = .ok (.ireturn, 1) := by decide +kernel
theorem dX9_allDone_62 : decode cX9_allDone 62 = .ok (.iinc 6 1, 3) := by decide +kernel
theorem dX9_allDone_65 : decode cX9_allDone 65 = .ok (.goto (-47), 3) := by decide +kernel
theorem dX9_allDone_68 : decode cX9_allDone 68 = .ok (.aload_n 0, 1) := by decide +kernel
theorem dX9_allDone_69 : decode cX9_allDone 69 = .ok (.getfield 52, 3) := by decide +kernel
theorem dX9_allDone_72 : decode cX9_allDone 72 = .ok (.aload_n 0, 1) := by decide +kernel
theorem dX9_allDone_73 : decode cX9_allDone 73 = .ok (.iload_n 2, 1) := by decide +kernel
theorem dX9_allDone_74 : decode cX9_allDone 74 = .ok (.iload_n 3, 1) := by decide +kernel
theorem dX9_allDone_75 : decode cX9_allDone 75 = .ok (.iload_n 1, 1) := by decide +kernel
theorem dX9_allDone_76 : decode cX9_allDone 76 = .ok (.iload 5, 2) := by decide +kernel
theorem dX9_allDone_78 : decode cX9_allDone 78 = .ok (.iconst (-1), 1) := by decide +kernel
theorem dX9_allDone_79 : decode cX9_allDone 79 = .ok (.ixor, 1) := by decide +kernel
theorem dX9_allDone_80 : decode cX9_allDone 80 = .ok (.iand, 1) := by decide +kernel
theorem dX9_allDone_81 : decode cX9_allDone 81 = .ok (.invokevirtual 286, 3) := by decide +kernel
theorem dX9_allDone_84 : decode cX9_allDone 84 = .ok (.iaload, 1) := by decide +kernel
theorem dX9_allDone_85 : decode cX9_allDone 85 = .ok (.iload 4, 2) := by decide +kernel
theorem dX9_allDone_87 : decode cX9_allDone 87 = .ok (.if_icmp .ge 7, 3) := by decide +kernel
theorem dX9_allDone_90 : decode cX9_allDone 90 = .ok (.iconst 1, 1) := by decide +kernel
theorem dX9_allDone_91 : decode cX9_allDone 91 = .ok (.goto 4, 3) := by decide +kernel
theorem dX9_allDone_94 : decode cX9_allDone 94 = .ok (.iconst 0, 1) := by decide +kernel
theorem dX9_allDone_95 : decode cX9_allDone 95 = .ok (.ireturn, 1) := by decide +kernel
theorem dX9_isDone_0 : decode cX9_isDone 0 = .ok (.iload_n 1, 1) := by decide +kernel
theorem dX9_isDone_1 : decode cX9_isDone 1 = .ok (.iconst 1, 1) := by decide +kernel
theorem dX9_isDone_2 : decode cX9_isDone 2 = .ok (.iload_n 2, 1) := by decide +kernel
theorem dX9_isDone_3 : decode cX9_isDone 3 = .ok (.ishl, 1) := by decide +kernel
theorem dX9_isDone_4 : decode cX9_isDone 4 = .ok (.iconst 1, 1) := by decide +kernel
theorem dX9_isDone_5 : decode cX9_isDone 5 = .ok (.iload_n 3, 1) := by decide +kernel
theorem dX9_isDone_6 : decode cX9_isDone 6 = .ok (.ishl, 1) := by decide +kernel
theorem dX9_isDone_7 : decode cX9_isDone 7 = .ok (.ior, 1) := by decide +kernel
theorem dX9_isDone_8 : decode cX9_isDone 8 = .ok (.iconst (-1), 1) := by decide +kernel
theorem dX9_isDone_9 : decode cX9_isDone 9 = .ok (.ixor, 1) := by decide +kernel
theorem dX9_isDone_10 : decode cX9_isDone 10 = .ok (.iand, 1) := by decide +kernel
theorem dX9_isDone_11 : decode cX9_isDone 11 = .ok (.istore 5, 2) := by decide +kernel
theorem dX9_isDone_13 : decode cX9_isDone 13 = .ok (.aload_n 0, 1) := by decide +kernel
theorem dX9_isDone_14 : decode cX9_isDone 14 = .ok (.getfield 58, 3) := by decide +kernel
theorem dX9_isDone_17 : decode cX9_isDone 17 = .ok (.iload_n 2, 1) := by decide +kernel
theorem dX9_isDone_18 : decode cX9_isDone 18 = .ok (.iaload, 1) := by decide +kernel
theorem dX9_isDone_19 : decode cX9_isDone 19 = .ok (.aload_n 0, 1) := by decide +kernel
theorem dX9_isDone_20 : decode cX9_isDone 20 = .ok (.getfield 58, 3) := by decide +kernel
theorem dX9_isDone_23 : decode cX9_isDone 23 = .ok (.iload_n 3, 1) := by decide +kernel
theorem dX9_isDone_24 : decode cX9_isDone 24 = .ok (.iaload, 1) := by decide +kernel
theorem dX9_isDone_25 : decode cX9_isDone 25 = .ok (.ior, 1) := by decide +kernel
theorem dX9_isDone_26 : decode cX9_isDone 26 = .ok (.istore 6, 2) := by decide +kernel
theorem dX9_isDone_28 : decode cX9_isDone 28 = .ok (.iconst 0, 1) := by decide +kernel
theorem dX9_isDone_29 : decode cX9_isDone 29 = .ok (.istore 7, 2) := by decide +kernel
theorem dX9_isDone_31 : decode cX9_isDone 31 = .ok (.iload 7, 2) := by decide +kernel
theorem dX9_isDone_33 : decode cX9_isDone 33 = .ok (.aload_n 0, 1) := by decide +kernel
theorem dX9_isDone_34 : decode cX9_isDone 34 = .ok (.getfield 149, 3) := by decide +kernel
theorem dX9_isDone_37 : decode cX9_isDone 37 = .ok (.if_icmp .ge 53, 3) := by decide +kernel
theorem dX9_isDone_40 : decode cX9_isDone 40 = .ok (.iload 5, 2) := by decide +kernel
theorem dX9_isDone_42 : decode cX9_isDone 42 = .ok (.iload 6, 2) := by decide +kernel
theorem dX9_isDone_44 : decode cX9_isDone 44 = .ok (.iand, 1) := by decide +kernel
theorem dX9_isDone_45 : decode cX9_isDone 45 = .ok (.iload 7, 2) := by decide +kernel
theorem dX9_isDone_47 : decode cX9_isDone 47 = .ok (.ishr, 1) := by decide +kernel
theorem dX9_isDone_48 : decode cX9_isDone 48 = .ok (.iconst 1, 1) := by decide +kernel
theorem dX9_isDone_49 : decode cX9_isDone 49 = .ok (.iand, 1) := by decide +kernel
theorem dX9_isDone_50 : decode cX9_isDone 50 = .ok (.iconst 1, 1) := by decide +kernel
theorem dX9_isDone_51 : decode cX9_isDone 51 = .ok (.if_icmp .ne 33, 3) := by decide +kernel
theorem dX9_isDone_54 : decode cX9_isDone 54 = .ok (.aload_n 0, 1) := by decide +kernel
theorem dX9_isDone_55 : decode cX9_isDone 55 = .ok (.aload_n 0, 1) := by decide +kernel
theorem dX9_isDone_56 : decode cX9_isDone 56 = .ok (.getfield 61, 3) := by decide +kernel
theorem dX9_isDone_59 : decode cX9_isDone 59 = .ok (.bipush 64, 2) := by decide +kernel
theorem dX9_isDone_61 : decode cX9_isDone 61 = .ok (.iload_n 2, 1) := by decide +kernel
theorem dX9_isDone_62 : decode cX9_isDone 62 = .ok (.imul, 1) := by decide +kernel
theorem dX9_isDone_63 : decode cX9_isDone 63 = .ok (.bipush 8, 2) := by decide +kernel
theorem dX9_isDone_65 : decode cX9_isDone 65 = .ok (.iload_n 3, 1) := by decide +kernel
theorem dX9_isDone_66 : decode cX9_isDone 66 = .ok (.imul, 1) := by decide +kernel
theorem dX9_isDone_67 : decode cX9_isDone 67 = .ok (.iadd, 1) := by decide +kernel
theorem dX9_isDone_68 : decode cX9_isDone 68 = .ok (.iload 7, 2) := by decide +kernel
theorem dX9_isDone_70 : decode cX9_isDone 70 = .ok (.iadd, 1) := by decide +kernel
theorem dX9_isDone_71 : decode cX9_isDone 71 = .ok (.iaload, 1) := by decide +kernel
theorem dX9_isDone_72 : decode cX9_isDone 72 = .ok (.iload_n 2, 1) := by decide +kernel
theorem dX9_isDone_73 : decode cX9_isDone 73 = .ok (.iload_n 3, 1) := by decide +kernel
theorem dX9_isDone_74 : decode cX9_isDone 74 = .ok (.iload 4, 2) := by decide +kernel
theorem dX9_isDone_76 : decode cX9_isDone 76 = .ok (.invokevirtual 290, 3) := by decide +kernel
theorem dX9_isDone_79 : decode cX9_isDone 79 = .ok (.ifCond .ne 5, 3) := by decide +kernel
theorem dX9_isDone_82 : decode cX9_isDone 82 = .ok (.iconst 0, 1) := by decide +kernel
theorem dX9_isDone_83 : decode cX9_isDone 83 = .ok (.ireturn, 1) := by decide +kernel
theorem dX9_isDone_84 : decode cX9_isDone 84 = .ok (.iinc 7 1, 3) := by decide +kernel
theorem dX9_isDone_87 : decode cX9_isDone 87 = .ok (.goto (-56), 3) := by decide +kernel
theorem dX9_isDone_90 : decode cX9_isDone 90 = .ok (.aload_n 0, 1) := by decide +kernel
theorem dX9_isDone_91 : decode cX9_isDone 91 = .ok (.aload_n 0, 1) := by decide +kernel
theorem dX9_isDone_92 : decode cX9_isDone 92 = .ok (.iload 5, 2) := by decide +kernel
theorem dX9_isDone_94 : decode cX9_isDone 94 = .ok (.iload 6, 2) := by decide +kernel
theorem dX9_isDone_96 : decode cX9_isDone 96 = .ok (.iconst (-1), 1) := by decide +kernel
theorem dX9_isDone_97 : decode cX9_isDone 97 = .ok (.ixor, 1) := by decide +kernel
theorem dX9_isDone_98 : decode cX9_isDone 98 = .ok (.iand, 1) := by decide +kernel
theorem dX9_isDone_99 : decode cX9_isDone 99 = .ok (.iload_n 2, 1) := by decide +kernel
theorem dX9_isDone_100 : decode cX9_isDone 100 = .ok (.iload_n 3, 1) := by decide +kernel
theorem dX9_isDone_101 : decode cX9_isDone 101 = .ok (.invokevirtual 294, 3) := by decide +kernel
theorem dX9_isDone_104 : decode cX9_isDone 104 = .ok (.iload_n 2, 1) := by decide +kernel
theorem dX9_isDone_105 : decode cX9_isDone 105 = .ok (.iload_n 3, 1) := by decide +kernel
theorem dX9_isDone_106 : decode cX9_isDone 106 = .ok (.iload 4, 2) := by decide +kernel
theorem dX9_isDone_108 : decode cX9_isDone 108 = .ok (.invokevirtual 290, 3) := by decide +kernel
theorem dX9_isDone_111 : decode cX9_isDone 111 = .ok (.ireturn, 1) := by decide +kernel
theorem dX9_huntersBehind_0 : decode cX9_huntersBehind 0 = .ok (.iconst 0, 1) := by decide +kernel
theorem dX9_huntersBehind_1 : decode cX9_huntersBehind 1 = .ok (.istore 4, 2) := by decide +kernel
theorem dX9_huntersBehind_3 : decode cX9_huntersBehind 3 = .ok (.iload 4, 2) := by decide +kernel
theorem dX9_huntersBehind_5 : decode cX9_huntersBehind 5 = .ok (.iload_n 1, 1) := by decide +kernel
