theorem dX6_queueCaught_72 : decode cX6_queueCaught 72 = .ok (.iload 4, 2) := by decide +kernel
theorem dX6_queueCaught_74 : decode cX6_queueCaught 74 = .ok (.ifCond .ne 17, 3) := by decide +kernel
theorem dX6_queueCaught_77 : decode cX6_queueCaught 77 = .ok (.aload_n 0, 1) := by decide +kernel
theorem dX6_queueCaught_78 : decode cX6_queueCaught 78 = .ok (.getfield 19, 3) := by decide +kernel
theorem dX6_queueCaught_81 : decode cX6_queueCaught 81 = .ok (.iload 6, 2) := by decide +kernel
theorem dX6_queueCaught_83 : decode cX6_queueCaught 83 = .ok (.sipush 512, 3) := by decide +kernel
theorem dX6_queueCaught_86 : decode cX6_queueCaught 86 = .ok (.iadd, 1) := by decide +kernel
theorem dX6_queueCaught_87 : decode cX6_queueCaught 87 = .ok (.iaload, 1) := by decide +kernel
theorem dX6_queueCaught_88 : decode cX6_queueCaught 88 = .ok (.ifCond .ne 14, 3) := by decide +kernel
theorem dX6_queueCaught_91 : decode cX6_queueCaught 91 = .ok (.aload_n 0, 1) := by decide +kernel
theorem dX6_queueCaught_92 : decode cX6_queueCaught 92 = .ok (.iload 6, 2) := by decide +kernel
theorem dX6_queueCaught_94 : decode cX6_queueCaught 94 = .ok (.sipush 512, 3) := by decide +kernel
theorem dX6_queueCaught_97 : decode cX6_queueCaught 97 = .ok (.iadd, 1) := by decide +kernel
theorem dX6_queueCaught_98 : decode cX6_queueCaught 98 = .ok (.iconst 0, 1) := by decide +kernel
theorem dX6_queueCaught_99 : decode cX6_queueCaught 99 = .ok (.invokevirtual 140, 3) := by decide +kernel
theorem dX6_queueCaught_102 : decode cX6_queueCaught 102 = .ok (.iinc 5 1, 3) := by decide +kernel
theorem dX6_queueCaught_105 : decode cX6_queueCaught 105 = .ok (.goto (-69), 3) := by decide +kernel
theorem dX6_queueCaught_108 : decode cX6_queueCaught 108 = .ok (.iinc 3 1, 3) := by decide +kernel
theorem dX6_queueCaught_111 : decode cX6_queueCaught 111 = .ok (.goto (-104), 3) := by decide +kernel
theorem dX6_queueCaught_114 : decode cX6_queueCaught 114 = .ok (.return_, 1) := by decide +kernel
theorem dX6_decide_0 : decode cX6_decide 0 = .ok (.aload_n 0, 1) := by decide +kernel
theorem dX6_decide_1 : decode cX6_decide 1 = .ok (.getfield 91, 3) := by decide +kernel
theorem dX6_decide_4 : decode cX6_decide 4 = .ok (.sipush 9216, 3) := by decide +kernel
theorem dX6_decide_7 : decode cX6_decide 7 = .ok (.if_icmp .ge 27, 3) := by decide +kernel
theorem dX6_decide_10 : decode cX6_decide 10 = .ok (.aload_n 0, 1) := by decide +kernel
theorem dX6_decide_11 : decode cX6_decide 11 = .ok (.getfield 15, 3) := by decide +kernel
theorem dX6_decide_14 : decode cX6_decide 14 = .ok (.iload_n 1, 1) := by decide +kernel
theorem dX6_decide_15 : decode cX6_decide 15 = .ok (.iload_n 2, 1) := by decide +kernel
theorem dX6_decide_16 : decode cX6_decide 16 = .ok (.iastore, 1) := by decide +kernel
theorem dX6_decide_17 : decode cX6_decide 17 = .ok (.aload_n 0, 1) := by decide +kernel
theorem dX6_decide_18 : decode cX6_decide 18 = .ok (.getfield 22, 3) := by decide +kernel
theorem dX6_decide_21 : decode cX6_decide 21 = .ok (.aload_n 0, 1) := by decide +kernel
theorem dX6_decide_22 : decode cX6_decide 22 = .ok (.dup, 1) := by decide +kernel
theorem dX6_decide_23 : decode cX6_decide 23 = .ok (.getfield 91, 3) := by decide +kernel
theorem dX6_decide_26 : decode cX6_decide 26 = .ok (.dup_x1, 1) := by decide +kernel
theorem dX6_decide_27 : decode cX6_decide 27 = .ok (.iconst 1, 1) := by decide +kernel
theorem dX6_decide_28 : decode cX6_decide 28 = .ok (.iadd, 1) := by decide +kernel
theorem dX6_decide_29 : decode cX6_decide 29 = .ok (.putfield 91, 3) := by decide +kernel
theorem dX6_decide_32 : decode cX6_decide 32 = .ok (.iload_n 1, 1) := by decide +kernel
theorem dX6_decide_33 : decode cX6_decide 33 = .ok (.iastore, 1) := by decide +kernel
theorem dX6_decide_34 : decode cX6_decide 34 = .ok (.return_, 1) := by decide +kernel
theorem dX6_spreadBackward_0 : decode cX6_spreadBackward 0 = .ok (.iconst 0, 1) := by decide +kernel
theorem dX6_spreadBackward_1 : decode cX6_spreadBackward 1 = .ok (.istore_n 1, 1) := by decide +kernel
theorem dX6_spreadBackward_2 : decode cX6_spreadBackward 2 = .ok (.iload_n 1, 1) := by decide +kernel
theorem dX6_spreadBackward_3 : decode cX6_spreadBackward 3 = .ok (.aload_n 0, 1) := by decide +kernel
theorem dX6_spreadBackward_4 : decode cX6_spreadBackward 4 = .ok (.getfield 91, 3) := by decide +kernel
theorem dX6_spreadBackward_7 : decode cX6_spreadBackward 7 = .ok (.if_icmp .ge 147, 3) := by decide +kernel
theorem dX6_spreadBackward_10 : decode cX6_spreadBackward 10 = .ok (.iload_n 1, 1) := by decide +kernel
theorem dX6_spreadBackward_11 : decode cX6_spreadBackward 11 = .ok (.sipush 9216, 3) := by decide +kernel
theorem dX6_spreadBackward_14 : decode cX6_spreadBackward 14 = .ok (.if_icmp .ge 140, 3) := by decide +kernel
theorem dX6_spreadBackward_17 : decode cX6_spreadBackward 17 = .ok (.aload_n 0, 1) := by decide +kernel
theorem dX6_spreadBackward_18 : decode cX6_spreadBackward 18 = .ok (.getfield 22, 3) := by decide +kernel
theorem dX6_spreadBackward_21 : decode cX6_spreadBackward 21 = .ok (.iload_n 1, 1) := by decide +kernel
theorem dX6_spreadBackward_22 : decode cX6_spreadBackward 22 = .ok (.iaload, 1) := by decide +kernel
theorem dX6_spreadBackward_23 : decode cX6_spreadBackward 23 = .ok (.istore_n 2, 1) := by decide +kernel
theorem dX6_spreadBackward_24 : decode cX6_spreadBackward 24 = .ok (.iload_n 2, 1) := by decide +kernel
theorem dX6_spreadBackward_25 : decode cX6_spreadBackward 25 = .ok (.sipush 1024, 3) := by decide +kernel
theorem dX6_spreadBackward_28 : decode cX6_spreadBackward 28 = .ok (.idiv, 1) := by decide +kernel
theorem dX6_spreadBackward_29 : decode cX6_spreadBackward 29 = .ok (.istore_n 3, 1) := by decide +kernel
theorem dX6_spreadBackward_30 : decode cX6_spreadBackward 30 = .ok (.aload_n 0, 1) := by decide +kernel
theorem dX6_spreadBackward_31 : decode cX6_spreadBackward 31 = .ok (.getfield 25, 3) := by decide +kernel
theorem dX6_spreadBackward_34 : decode cX6_spreadBackward 34 = .ok (.iload_n 2, 1) := by decide +kernel
theorem dX6_spreadBackward_35 : decode cX6_spreadBackward 35 = .ok (.sipush 1024, 3) := by decide +kernel
theorem dX6_spreadBackward_38 : decode cX6_spreadBackward 38 = .ok (.irem, 1) := by decide +kernel
theorem dX6_spreadBackward_39 : decode cX6_spreadBackward 39 = .ok (.iaload, 1) := by decide +kernel
theorem dX6_spreadBackward_40 : decode cX6_spreadBackward 40 = .ok (.istore 4, 2) := by decide +kernel
theorem dX6_spreadBackward_42 : decode cX6_spreadBackward 42 = .ok (.iconst 0, 1) := by decide +kernel
theorem dX6_spreadBackward_43 : decode cX6_spreadBackward 43 = .ok (.istore 5, 2) := by decide +kernel
theorem dX6_spreadBackward_45 : decode cX6_spreadBackward 45 = .ok (.iload 5, 2) := by decide +kernel
theorem dX6_spreadBackward_47 : decode cX6_spreadBackward 47 = .ok (.sipush 3776, 3) := by decide +kernel
theorem dX6_spreadBackward_50 : decode cX6_spreadBackward 50 = .ok (.if_icmp .ge 98, 3) := by decide +kernel
theorem dX6_spreadBackward_53 : decode cX6_spreadBackward 53 = .ok (.iload 4, 2) := by decide +kernel
theorem dX6_spreadBackward_55 : decode cX6_spreadBackward 55 = .ok (.ifCond .lt 93, 3) := by decide +kernel
theorem dX6_spreadBackward_58 : decode cX6_spreadBackward 58 = .ok (.aload_n 0, 1) := by decide +kernel
theorem dX6_spreadBackward_59 : decode cX6_spreadBackward 59 = .ok (.getfield 43, 3) := by decide +kernel
theorem dX6_spreadBackward_62 : decode cX6_spreadBackward 62 = .ok (.aload_n 0, 1) := by decide +kernel
theorem dX6_spreadBackward_63 : decode cX6_spreadBackward 63 = .ok (.getfield 34, 3) := by decide +kernel
theorem dX6_spreadBackward_66 : decode cX6_spreadBackward 66 = .ok (.iload 4, 2) := by decide +kernel
theorem dX6_spreadBackward_68 : decode cX6_spreadBackward 68 = .ok (.iaload, 1) := by decide +kernel
theorem dX6_spreadBackward_69 : decode cX6_spreadBackward 69 = .ok (.iconst 1, 1) := by decide +kernel
theorem dX6_spreadBackward_70 : decode cX6_spreadBackward 70 = .ok (.iadd, 1) := by decide +kernel
theorem dX6_spreadBackward_71 : decode cX6_spreadBackward 71 = .ok (.bipush 9, 2) := by decide +kernel
theorem dX6_spreadBackward_73 : decode cX6_spreadBackward 73 = .ok (.imul, 1) := by decide +kernel
theorem dX6_spreadBackward_74 : decode cX6_spreadBackward 74 = .ok (.iload_n 3, 1) := by decide +kernel
theorem dX6_spreadBackward_75 : decode cX6_spreadBackward 75 = .ok (.iadd, 1) := by decide +kernel
theorem dX6_spreadBackward_76 : decode cX6_spreadBackward 76 = .ok (.iaload, 1) := by decide +kernel
theorem dX6_spreadBackward_77 : decode cX6_spreadBackward 77 = .ok (.istore 6, 2) := by decide +kernel
theorem dX6_spreadBackward_79 : decode cX6_spreadBackward 79 = .ok (.iconst 0, 1) := by decide +kernel
theorem dX6_spreadBackward_80 : decode cX6_spreadBackward 80 = .ok (.istore 7, 2) := by decide +kernel
theorem dX6_spreadBackward_82 : decode cX6_spreadBackward 82 = .ok (.iload 7, 2) := by decide +kernel
theorem dX6_spreadBackward_84 : decode cX6_spreadBackward 84 = .ok (.aload_n 0, 1) := by decide +kernel
theorem dX6_spreadBackward_85 : decode cX6_spreadBackward 85 = .ok (.getfield 37, 3) := by decide +kernel
theorem dX6_spreadBackward_88 : decode cX6_spreadBackward 88 = .ok (.if_icmp .ge 45, 3) := by decide +kernel
theorem dX6_spreadBackward_91 : decode cX6_spreadBackward 91 = .ok (.iload 6, 2) := by decide +kernel
theorem dX6_spreadBackward_93 : decode cX6_spreadBackward 93 = .ok (.iload 7, 2) := by decide +kernel
theorem dX6_spreadBackward_95 : decode cX6_spreadBackward 95 = .ok (.ishr, 1) := by decide +kernel
theorem dX6_spreadBackward_96 : decode cX6_spreadBackward 96 = .ok (.iconst 1, 1) := by decide +kernel
theorem dX6_spreadBackward_97 : decode cX6_spreadBackward 97 = .ok (.iand, 1) := by decide +kernel
theorem dX6_spreadBackward_98 : decode cX6_spreadBackward 98 = .ok (.ifCond .eq 29, 3) := by decide +kernel
theorem dX6_spreadBackward_101 : decode cX6_spreadBackward 101 = .ok (.aload_n 0, 1) := by decide +kernel
theorem dX6_spreadBackward_102 : decode cX6_spreadBackward 102 = .ok (.iload 7, 2) := by decide +kernel
theorem dX6_spreadBackward_104 : decode cX6_spreadBackward 104 = .ok (.sipush 1024, 3) := by decide +kernel
theorem dX6_spreadBackward_107 : decode cX6_spreadBackward 107 = .ok (.imul, 1) := by decide +kernel
theorem dX6_spreadBackward_108 : decode cX6_spreadBackward 108 = .ok (.aload_n 0, 1) := by decide +kernel
theorem dX6_spreadBackward_109 : decode cX6_spreadBackward 109 = .ok (.getfield 31, 3) := by decide +kernel
theorem dX6_spreadBackward_112 : decode cX6_spreadBackward 112 = .ok (.iload 4, 2) := by decide +kernel
theorem dX6_spreadBackward_114 : decode cX6_spreadBackward 114 = .ok (.iaload, 1) := by decide +kernel
theorem dX6_spreadBackward_115 : decode cX6_spreadBackward 115 = .ok (.iadd, 1) := by decide +kernel
theorem dX6_spreadBackward_116 : decode cX6_spreadBackward 116 = .ok (.aload_n 0, 1) := by decide +kernel
theorem dX6_spreadBackward_117 : decode cX6_spreadBackward 117 = .ok (.getfield 15, 3) := by decide +kernel
theorem dX6_spreadBackward_120 : decode cX6_spreadBackward 120 = .ok (.iload_n 2, 1) := by decide +kernel
theorem dX6_spreadBackward_121 : decode cX6_spreadBackward 121 = .ok (.iaload, 1) := by decide +kernel
theorem dX6_spreadBackward_122 : decode cX6_spreadBackward 122 = .ok (.iconst 1, 1) := by decide +kernel
theorem dX6_spreadBackward_123 : decode cX6_spreadBackward 123 = .ok (.iadd, 1) := by decide +kernel
theorem dX6_spreadBackward_124 : decode cX6_spreadBackward 124 = .ok (.invokevirtual 143, 3) := by decide +kernel
theorem dX6_spreadBackward_127 : decode cX6_spreadBackward 127 = .ok (.iinc 7 1, 3) := by decide +kernel
theorem dX6_spreadBackward_130 : decode cX6_spreadBackward 130 = .ok (.goto (-48), 3) := by decide +kernel
theorem dX6_spreadBackward_133 : decode cX6_spreadBackward 133 = .ok (.aload_n 0, 1) := by decide +kernel
theorem dX6_spreadBackward_134 : decode cX6_spreadBackward 134 = .ok (.getfield 28, 3) := by decide +kernel
theorem dX6_spreadBackward_137 : decode cX6_spreadBackward 137 = .ok (.iload 4, 2) := by decide +kernel
theorem dX6_spreadBackward_139 : decode cX6_spreadBackward 139 = .ok (.iaload, 1) := by decide +kernel
theorem dX6_spreadBackward_140 : decode cX6_spreadBackward 140 = .ok (.istore 4, 2) := by decide +kernel
theorem dX6_spreadBackward_142 : decode cX6_spreadBackward 142 = .ok (.iinc 5 1, 3) := by decide +kernel
theorem dX6_spreadBackward_145 : decode cX6_spreadBackward 145 = .ok (.goto (-100), 3) := by decide +kernel
theorem dX6_spreadBackward_148 : decode cX6_spreadBackward 148 = .ok (.iinc 1 1, 3) := by decide +kernel
theorem dX6_spreadBackward_151 : decode cX6_spreadBackward 151 = .ok (.goto (-149), 3) := by decide +kernel
theorem dX6_spreadBackward_154 : decode cX6_spreadBackward 154 = .ok (.return_, 1) := by decide +kernel
theorem dX6_leadsTo_0 : decode cX6_leadsTo 0 = .ok (.aload_n 0, 1) := by decide +kernel
theorem dX6_leadsTo_1 : decode cX6_leadsTo 1 = .ok (.getfield 15, 3) := by decide +kernel
theorem dX6_leadsTo_4 : decode cX6_leadsTo 4 = .ok (.iload_n 1, 1) := by decide +kernel
theorem dX6_leadsTo_5 : decode cX6_leadsTo 5 = .ok (.iaload, 1) := by decide +kernel
theorem dX6_leadsTo_6 : decode cX6_leadsTo 6 = .ok (.ifCond .lt 4, 3) := by decide +kernel
theorem dX6_leadsTo_9 : decode cX6_leadsTo 9 = .ok (.return_, 1) := by decide +kernel
theorem dX6_leadsTo_10 : decode cX6_leadsTo 10 = .ok (.iload_n 1, 1) := by decide +kernel
theorem dX6_leadsTo_11 : decode cX6_leadsTo 11 = .ok (.invokestatic 146, 3) := by decide +kernel
theorem dX6_leadsTo_14 : decode cX6_leadsTo 14 = .ok (.ifCond .eq 23, 3) := by decide +kernel
theorem dX6_leadsTo_17 : decode cX6_leadsTo 17 = .ok (.aload_n 0, 1) := by decide +kernel
theorem dX6_leadsTo_18 : decode cX6_leadsTo 18 = .ok (.getfield 19, 3) := by decide +kernel
theorem dX6_leadsTo_21 : decode cX6_leadsTo 21 = .ok (.iload_n 1, 1) := by decide +kernel
theorem dX6_leadsTo_22 : decode cX6_leadsTo 22 = .ok (.dup2, 1) := by decide +kernel
theorem dX6_leadsTo_23 : decode cX6_leadsTo 23 = .ok (.iaload, 1) := by decide +kernel
theorem dX6_leadsTo_24 : decode cX6_leadsTo 24 = .ok (.iconst 1, 1) := by decide +kernel
theorem dX6_leadsTo_25 : decode cX6_leadsTo 25 = .ok (.isub, 1) := by decide +kernel
theorem dX6_leadsTo_26 : decode cX6_leadsTo 26 = .ok (.iastore, 1) := by decide +kernel
theorem dX6_leadsTo_27 : decode cX6_leadsTo 27 = .ok (.aload_n 0, 1) := by decide +kernel
theorem dX6_leadsTo_28 : decode cX6_leadsTo 28 = .ok (.getfield 19, 3) := by decide +kernel
theorem dX6_leadsTo_31 : decode cX6_leadsTo 31 = .ok (.iload_n 1, 1) := by decide +kernel
theorem dX6_leadsTo_32 : decode cX6_leadsTo 32 = .ok (.iaload, 1) := by decide +kernel
theorem dX6_leadsTo_33 : decode cX6_leadsTo 33 = .ok (.ifCond .le 4, 3) := by decide +kernel
theorem dX6_leadsTo_36 : decode cX6_leadsTo 36 = .ok (.return_, 1) := by decide +kernel
theorem dX6_leadsTo_37 : decode cX6_leadsTo 37 = .ok (.aload_n 0, 1) := by decide +kernel
theorem dX6_leadsTo_38 : decode cX6_leadsTo 38 = .ok (.iload_n 1, 1) := by decide +kernel
theorem dX6_leadsTo_39 : decode cX6_leadsTo 39 = .ok (.iload_n 2, 1) := by decide +kernel
theorem dX6_leadsTo_40 : decode cX6_leadsTo 40 = .ok (.invokevirtual 140, 3) := by decide +kernel
theorem dX6_leadsTo_43 : decode cX6_leadsTo 43 = .ok (.return_, 1) := by decide +kernel
theorem dX6_isRunnersTurn_0 : decode cX6_isRunnersTurn 0 = .ok (.iload_n 0, 1) := by decide +kernel
theorem dX6_isRunnersTurn_1 : decode cX6_isRunnersTurn 1 = .ok (.sipush 512, 3) := by decide +kernel
theorem dX6_isRunnersTurn_4 : decode cX6_isRunnersTurn 4 = .ok (.iand, 1) := by decide +kernel
theorem dX6_isRunnersTurn_5 : decode cX6_isRunnersTurn 5 = .ok (.ifCond .eq 7, 3) := by decide +kernel
theorem dX6_isRunnersTurn_8 : decode cX6_isRunnersTurn 8 = .ok (.iconst 1, 1) := by decide +kernel
theorem dX6_isRunnersTurn_9 : decode cX6_isRunnersTurn 9 = .ok (.goto 4, 3) := by decide +kernel
theorem dX6_isRunnersTurn_12 : decode cX6_isRunnersTurn 12 = .ok (.iconst 0, 1) := by decide +kernel
theorem dX6_isRunnersTurn_13 : decode cX6_isRunnersTurn 13 = .ok (.ireturn, 1) := by decide +kernel
theorem dX6_countWon_0 : decode cX6_countWon 0 = .ok (.aload_n 0, 1) := by decide +kernel
theorem dX6_countWon_1 : decode cX6_countWon 1 = .ok (.iconst 0, 1) := by decide +kernel
theorem dX6_countWon_2 : decode cX6_countWon 2 = .ok (.putfield 149, 3) := by decide +kernel
theorem dX6_countWon_5 : decode cX6_countWon 5 = .ok (.aload_n 0, 1) := by decide +kernel
theorem dX6_countWon_6 : decode cX6_countWon 6 = .ok (.iconst 0, 1) := by decide +kernel
theorem dX6_countWon_7 : decode cX6_countWon 7 = .ok (.putfield 152, 3) := by decide +kernel
theorem dX6_countWon_10 : decode cX6_countWon 10 = .ok (.aload_n 0, 1) := by decide +kernel
theorem dX6_countWon_11 : decode cX6_countWon 11 = .ok (.iconst 0, 1) := by decide +kernel
theorem dX6_countWon_12 : decode cX6_countWon 12 = .ok (.putfield 155, 3) := by decide +kernel
theorem dX6_countWon_15 : decode cX6_countWon 15 = .ok (.iconst 0, 1) := by decide +kernel
theorem dX6_countWon_16 : decode cX6_countWon 16 = .ok (.istore_n 1, 1) := by decide +kernel
theorem dX6_countWon_17 : decode cX6_countWon 17 = .ok (.iload_n 1, 1) := by decide +kernel
theorem dX6_countWon_18 : decode cX6_countWon 18 = .ok (.sipush 512, 3) := by decide +kernel
theorem dX6_countWon_21 : decode cX6_countWon 21 = .ok (.if_icmp .ge 66, 3) := by decide +kernel
theorem dX6_countWon_24 : decode cX6_countWon 24 = .ok (.aload_n 0, 1) := by decide +kernel
theorem dX6_countWon_25 : decode cX6_countWon 25 = .ok (.iload_n 1, 1) := by decide +kernel
theorem dX6_countWon_26 : decode cX6_countWon 26 = .ok (.invokevirtual 158, 3) := by decide +kernel
theorem dX6_countWon_29 : decode cX6_countWon 29 = .ok (.ifCond .ne 6, 3) := by decide +kernel
theorem dX6_countWon_32 : decode cX6_countWon 32 = .ok (.goto 49, 3) := by decide +kernel
theorem dX6_countWon_35 : decode cX6_countWon 35 = .ok (.aload_n 0, 1) := by decide +kernel
theorem dX6_countWon_36 : decode cX6_countWon 36 = .ok (.dup, 1) := by decide +kernel
theorem dX6_countWon_37 : decode cX6_countWon 37 = .ok (.getfield 152, 3) := by decide +kernel
theorem dX6_countWon_40 : decode cX6_countWon 40 = .ok (.iconst 1, 1) := by decide +kernel
theorem dX6_countWon_41 : decode cX6_countWon 41 = .ok (.iadd, 1) := by decide +kernel
theorem dX6_countWon_42 : decode cX6_countWon 42 = .ok (.putfield 152, 3) := by decide +kernel
theorem dX6_countWon_45 : decode cX6_countWon 45 = .ok (.aload_n 0, 1) := by decide +kernel
theorem dX6_countWon_46 : decode cX6_countWon 46 = .ok (.getfield 15, 3) := by decide +kernel
theorem dX6_countWon_49 : decode cX6_countWon 49 = .ok (.iload_n 1, 1) := by decide +kernel
theorem dX6_countWon_50 : decode cX6_countWon 50 = .ok (.iaload, 1) := by decide +kernel
theorem dX6_countWon_51 : decode cX6_countWon 51 = .ok (.ifCond .le 30, 3) := by decide +kernel
theorem dX6_countWon_54 : decode cX6_countWon 54 = .ok (.aload_n 0, 1) := by decide +kernel
theorem dX6_countWon_55 : decode cX6_countWon 55 = .ok (.dup, 1) := by decide +kernel
theorem dX6_countWon_56 : decode cX6_countWon 56 = .ok (.getfield 149, 3) := by decide +kernel
theorem dX6_countWon_59 : decode cX6_countWon 59 = .ok (.iconst 1, 1) := by decide +kernel
theorem dX6_countWon_60 : decode cX6_countWon 60 = .ok (.iadd, 1) := by decide +kernel
theorem dX6_countWon_61 : decode cX6_countWon 61 = .ok (.putfield 149, 3) := by decide +kernel
theorem dX6_countWon_64 : decode cX6_countWon 64 = .ok (.aload_n 0, 1) := by decide +kernel
theorem dX6_countWon_65 : decode cX6_countWon 65 = .ok (.aload_n 0, 1) := by decide +kernel
theorem dX6_countWon_66 : decode cX6_countWon 66 = .ok (.getfield 155, 3) := by decide +kernel
theorem dX6_countWon_69 : decode cX6_countWon 69 = .ok (.aload_n 0, 1) := by decide +kernel
theorem dX6_countWon_70 : decode cX6_countWon 70 = .ok (.getfield 15, 3) := by decide +kernel
theorem dX6_countWon_73 : decode cX6_countWon 73 = .ok (.iload_n 1, 1) := by decide +kernel
theorem dX6_countWon_74 : decode cX6_countWon 74 = .ok (.iaload, 1) := by decide +kernel
theorem dX6_countWon_75 : decode cX6_countWon 75 = .ok (.invokestatic 107, 3) := by decide +kernel
theorem dX6_countWon_78 : decode cX6_countWon 78 = .ok (.putfield 155, 3) := by decide +kernel
theorem dX6_countWon_81 : decode cX6_countWon 81 = .ok (.iinc 1 1, 3) := by decide +kernel
theorem dX6_countWon_84 : decode cX6_countWon 84 = .ok (.goto (-67), 3) := by decide +kernel
theorem dX6_countWon_87 : decode cX6_countWon 87 = .ok (.return_, 1) := by decide +kernel
theorem dX6_unfairness_0 : decode cX6_unfairness 0 = .ok (.iconst 2, 1) := by decide +kernel
theorem dX6_unfairness_1 : decode cX6_unfairness 1 = .ok (.aload_n 0, 1) := by decide +kernel
theorem dX6_unfairness_2 : decode cX6_unfairness 2 = .ok (.getfield 149, 3) := by decide +kernel
theorem dX6_unfairness_5 : decode cX6_unfairness 5 = .ok (.imul, 1) := by decide +kernel
theorem dX6_unfairness_6 : decode cX6_unfairness 6 = .ok (.aload_n 0, 1) := by decide +kernel
theorem dX6_unfairness_7 : decode cX6_unfairness 7 = .ok (.getfield 152, 3) := by decide +kernel
theorem dX6_unfairness_10 : decode cX6_unfairness 10 = .ok (.isub, 1) := by decide +kernel
theorem dX6_unfairness_11 : decode cX6_unfairness 11 = .ok (.invokestatic 161, 3) := by decide +kernel
theorem dX6_unfairness_14 : decode cX6_unfairness 14 = .ok (.ireturn, 1) := by decide +kernel
theorem dX6_isCounted_0 : decode cX6_isCounted 0 = .ok (.iload_n 1, 1) := by decide +kernel
theorem dX6_isCounted_1 : decode cX6_isCounted 1 = .ok (.bipush 7, 2) := by decide +kernel
theorem dX6_isCounted_3 : decode cX6_isCounted 3 = .ok (.iand, 1) := by decide +kernel
theorem dX6_isCounted_4 : decode cX6_isCounted 4 = .ok (.istore_n 2, 1) := by decide +kernel
theorem dX6_isCounted_5 : decode cX6_isCounted 5 = .ok (.iload_n 1, 1) := by decide +kernel
theorem dX6_isCounted_6 : decode cX6_isCounted 6 = .ok (.iconst 3, 1) := by decide +kernel
theorem dX6_isCounted_7 : decode cX6_isCounted 7 = .ok (.ishr, 1) := by decide +kernel
theorem dX6_isCounted_8 : decode cX6_isCounted 8 = .ok (.istore_n 3, 1) := by decide +kernel
theorem dX6_isCounted_9 : decode cX6_isCounted 9 = .ok (.aload_n 0, 1) := by decide +kernel
theorem dX6_isCounted_10 : decode cX6_isCounted 10 = .ok (.getfield 50, 3) := by decide +kernel
theorem dX6_isCounted_13 : decode cX6_isCounted 13 = .ok (.iload_n 2, 1) := by decide +kernel
theorem dX6_isCounted_14 : decode cX6_isCounted 14 = .ok (.invokevirtual 164, 3) := by decide +kernel
theorem dX6_isCounted_17 : decode cX6_isCounted 17 = .ok (.ifCond .eq 29, 3) := by decide +kernel
theorem dX6_isCounted_20 : decode cX6_isCounted 20 = .ok (.aload_n 0, 1) := by decide +kernel
theorem dX6_isCounted_21 : decode cX6_isCounted 21 = .ok (.getfield 50, 3) := by decide +kernel
theorem dX6_isCounted_24 : decode cX6_isCounted 24 = .ok (.iload_n 3, 1) := by decide +kernel
theorem dX6_isCounted_25 : decode cX6_isCounted 25 = .ok (.invokevirtual 67, 3) := by decide +kernel
theorem dX6_isCounted_28 : decode cX6_isCounted 28 = .ok (.ifCond .eq 18, 3) := by decide +kernel
theorem dX6_isCounted_31 : decode cX6_isCounted 31 = .ok (.iload_n 3, 1) := by decide +kernel
theorem dX6_isCounted_32 : decode cX6_isCounted 32 = .ok (.invokestatic 113, 3) := by decide +kernel
theorem dX6_isCounted_35 : decode cX6_isCounted 35 = .ok (.iload_n 2, 1) := by decide +kernel
theorem dX6_isCounted_36 : decode cX6_isCounted 36 = .ok (.ishr, 1) := by decide +kernel
theorem dX6_isCounted_37 : decode cX6_isCounted 37 = .ok (.iconst 1, 1) := by decide +kernel
theorem dX6_isCounted_38 : decode cX6_isCounted 38 = .ok (.iand, 1) := by decide +kernel
theorem dX6_isCounted_39 : decode cX6_isCounted 39 = .ok (.ifCond .ne 7, 3) := by decide +kernel
theorem dX6_isCounted_42 : decode cX6_isCounted 42 = .ok (.iconst 1, 1) := by decide +kernel
theorem dX6_isCounted_43 : decode cX6_isCounted 43 = .ok (.goto 4, 3) := by decide +kernel
theorem dX6_isCounted_46 : decode cX6_isCounted 46 = .ok (.iconst 0, 1) := by decide +kernel
theorem dX6_isCounted_47 : decode cX6_isCounted 47 = .ok (.ireturn, 1) := by decide +kernel
theorem dX6_after_0 : decode cX6_after 0 = .ok (.iload_n 1, 1) := by decide +kernel
theorem dX6_after_1 : decode cX6_after 1 = .ok (.sipush 1024, 3) := by decide +kernel
theorem dX6_after_4 : decode cX6_after 4 = .ok (.idiv, 1) := by decide +kernel
theorem dX6_after_5 : decode cX6_after 5 = .ok (.istore_n 3, 1) := by decide +kernel
theorem dX6_after_6 : decode cX6_after 6 = .ok (.iload_n 1, 1) := by decide +kernel
theorem dX6_after_7 : decode cX6_after 7 = .ok (.iconst 3, 1) := by decide +kernel
theorem dX6_after_8 : decode cX6_after 8 = .ok (.ishr, 1) := by decide +kernel
theorem dX6_after_9 : decode cX6_after 9 = .ok (.bipush 63, 2) := by decide +kernel
theorem dX6_after_11 : decode cX6_after 11 = .ok (.iand, 1) := by decide +kernel
theorem dX6_after_12 : decode cX6_after 12 = .ok (.istore 4, 2) := by decide +kernel
theorem dX6_after_14 : decode cX6_after 14 = .ok (.iload_n 1, 1) := by decide +kernel
theorem dX6_after_15 : decode cX6_after 15 = .ok (.bipush 7, 2) := by decide +kernel
theorem dX6_after_17 : decode cX6_after 17 = .ok (.iand, 1) := by decide +kernel
theorem dX6_after_18 : decode cX6_after 18 = .ok (.istore 5, 2) := by decide +kernel
theorem dX6_after_20 : decode cX6_after 20 = .ok (.iload_n 1, 1) := by decide +kernel
theorem dX6_after_21 : decode cX6_after 21 = .ok (.invokestatic 146, 3) := by decide +kernel
theorem dX6_after_24 : decode cX6_after 24 = .ok (.istore 6, 2) := by decide +kernel
theorem dX6_after_26 : decode cX6_after 26 = .ok (.iload 6, 2) := by decide +kernel
theorem dX6_after_28 : decode cX6_after 28 = .ok (.ifCond .eq 18, 3) := by decide +kernel
theorem dX6_after_31 : decode cX6_after 31 = .ok (.aload_n 0, 1) := by decide +kernel
theorem dX6_after_32 : decode cX6_after 32 = .ok (.getfield 50, 3) := by decide +kernel
theorem dX6_after_35 : decode cX6_after 35 = .ok (.iload 4, 2) := by decide +kernel
theorem dX6_after_37 : decode cX6_after 37 = .ok (.iload 5, 2) := by decide +kernel
theorem dX6_after_39 : decode cX6_after 39 = .ok (.iload_n 2, 1) := by decide +kernel
theorem dX6_after_40 : decode cX6_after 40 = .ok (.invokevirtual 133, 3) := by decide +kernel
theorem dX6_after_43 : decode cX6_after 43 = .ok (.goto 13, 3) := by decide +kernel
theorem dX6_after_46 : decode cX6_after 46 = .ok (.aload_n 0, 1) := by decide +kernel
theorem dX6_after_47 : decode cX6_after 47 = .ok (.getfield 50, 3) := by decide +kernel
theorem dX6_after_50 : decode cX6_after 50 = .ok (.iload 4, 2) := by decide +kernel
theorem dX6_after_52 : decode cX6_after 52 = .ok (.iload_n 2, 1) := by decide +kernel
theorem dX6_after_53 : decode cX6_after 53 = .ok (.invokevirtual 117, 3) := by decide +kernel
theorem dX6_after_56 : decode cX6_after 56 = .ok (.istore 7, 2) := by decide +kernel
theorem dX6_after_58 : decode cX6_after 58 = .ok (.iload 7, 2) := by decide +kernel
theorem dX6_after_60 : decode cX6_after 60 = .ok (.ifCond .ge 5, 3) := by decide +kernel
theorem dX6_after_63 : decode cX6_after 63 = .ok (.iconst (-1), 1) := by decide +kernel
theorem dX6_after_64 : decode cX6_after 64 = .ok (.ireturn, 1) := by decide +kernel
theorem dX6_after_65 : decode cX6_after 65 = .ok (.aload_n 0, 1) := by decide +kernel
theorem dX6_after_66 : decode cX6_after 66 = .ok (.getfield 40, 3) := by decide +kernel
theorem dX6_after_69 : decode cX6_after 69 = .ok (.aload_n 0, 1) := by decide +kernel
theorem dX6_after_70 : decode cX6_after 70 = .ok (.getfield 50, 3) := by decide +kernel
theorem dX6_after_73 : decode cX6_after 73 = .ok (.iload_n 2, 1) := by decide +kernel
theorem dX6_after_74 : decode cX6_after 74 = .ok (.invokevirtual 120, 3) := by decide +kernel
theorem dX6_after_77 : decode cX6_after 77 = .ok (.iconst 1, 1) := by decide +kernel
theorem dX6_after_78 : decode cX6_after 78 = .ok (.iadd, 1) := by decide +kernel
theorem dX6_after_79 : decode cX6_after 79 = .ok (.bipush 9, 2) := by decide +kernel
theorem dX6_after_81 : decode cX6_after 81 = .ok (.imul, 1) := by decide +kernel
theorem dX6_after_82 : decode cX6_after 82 = .ok (.iload_n 3, 1) := by decide +kernel
theorem dX6_after_83 : decode cX6_after 83 = .ok (.iadd, 1) := by decide +kernel
theorem dX6_after_84 : decode cX6_after 84 = .ok (.iaload, 1) := by decide +kernel
theorem dX6_after_85 : decode cX6_after 85 = .ok (.istore 8, 2) := by decide +kernel
theorem dX6_after_87 : decode cX6_after 87 = .ok (.iload 8, 2) := by decide +kernel
theorem dX6_after_89 : decode cX6_after 89 = .ok (.ifCond .ge 5, 3) := by decide +kernel
theorem dX6_after_92 : decode cX6_after 92 = .ok (.iconst (-1), 1) := by decide +kernel
theorem dX6_after_93 : decode cX6_after 93 = .ok (.ireturn, 1) := by decide +kernel
theorem dX6_after_94 : decode cX6_after 94 = .ok (.iload 8, 2) := by decide +kernel
theorem dX6_after_96 : decode cX6_after 96 = .ok (.sipush 1024, 3) := by decide +kernel
theorem dX6_after_99 : decode cX6_after 99 = .ok (.imul, 1) := by decide +kernel
theorem dX6_after_100 : decode cX6_after 100 = .ok (.iload 6, 2) := by decide +kernel
theorem dX6_after_102 : decode cX6_after 102 = .ok (.ifCond .eq 14, 3) := by decide +kernel
theorem dX6_after_105 : decode cX6_after 105 = .ok (.iload 4, 2) := by decide +kernel
theorem dX6_after_107 : decode cX6_after 107 = .ok (.bipush 8, 2) := by decide +kernel
theorem dX6_after_109 : decode cX6_after 109 = .ok (.imul, 1) := by decide +kernel
theorem dX6_after_110 : decode cX6_after 110 = .ok (.iload 7, 2) := by decide +kernel
theorem dX6_after_112 : decode cX6_after 112 = .ok (.iadd, 1) := by decide +kernel
theorem dX6_after_113 : decode cX6_after 113 = .ok (.goto 15, 3) := by decide +kernel
theorem dX6_after_116 : decode cX6_after 116 = .ok (.sipush 512, 3) := by decide +kernel
theorem dX6_after_119 : decode cX6_after 119 = .ok (.iload 7, 2) := by decide +kernel
theorem dX6_after_121 : decode cX6_after 121 = .ok (.bipush 8, 2) := by decide +kernel
theorem dX6_after_123 : decode cX6_after 123 = .ok (.imul, 1) := by decide +kernel
theorem dX6_after_124 : decode cX6_after 124 = .ok (.iadd, 1) := by decide +kernel
theorem dX6_after_125 : decode cX6_after 125 = .ok (.iload 5, 2) := by decide +kernel
theorem dX6_after_127 : decode cX6_after 127 = .ok (.iadd, 1) := by decide +kernel
theorem dX6_after_128 : decode cX6_after 128 = .ok (.iadd, 1) := by decide +kernel
theorem dX6_after_129 : decode cX6_after 129 = .ok (.ireturn, 1) := by decide +kernel
theorem dX6_moveCount_0 : decode cX6_moveCount 0 = .ok (.aload_n 0, 1) := by decide +kernel
theorem dX6_moveCount_1 : decode cX6_moveCount 1 = .ok (.getfield 15, 3) := by decide +kernel
theorem dX6_moveCount_4 : decode cX6_moveCount 4 = .ok (.iload_n 1, 1) := by decide +kernel
theorem dX6_moveCount_5 : decode cX6_moveCount 5 = .ok (.iaload, 1) := by decide +kernel
theorem dX6_moveCount_6 : decode cX6_moveCount 6 = .ok (.ifCond .ne 5, 3) := by decide +kernel
theorem dX6_moveCount_9 : decode cX6_moveCount 9 = .ok (.iconst 0, 1) := by decide +kernel
theorem dX6_moveCount_10 : decode cX6_moveCount 10 = .ok (.ireturn, 1) := by decide +kernel
theorem dX6_moveCount_11 : decode cX6_moveCount 11 = .ok (.iconst 0, 1) := by decide +kernel
theorem dX6_moveCount_12 : decode cX6_moveCount 12 = .ok (.istore_n 2, 1) := by decide +kernel
theorem dX6_moveCount_13 : decode cX6_moveCount 13 = .ok (.iconst 0, 1) := by decide +kernel
theorem dX6_moveCount_14 : decode cX6_moveCount 14 = .ok (.istore_n 3, 1) := by decide +kernel
theorem dX6_moveCount_15 : decode cX6_moveCount 15 = .ok (.iload_n 3, 1) := by decide +kernel
theorem dX6_moveCount_16 : decode cX6_moveCount 16 = .ok (.bipush 32, 2) := by decide +kernel
theorem dX6_moveCount_18 : decode cX6_moveCount 18 = .ok (.if_icmp .gt 21, 3) := by decide +kernel
theorem dX6_moveCount_21 : decode cX6_moveCount 21 = .ok (.aload_n 0, 1) := by decide +kernel
theorem dX6_moveCount_22 : decode cX6_moveCount 22 = .ok (.iload_n 1, 1) := by decide +kernel
theorem dX6_moveCount_23 : decode cX6_moveCount 23 = .ok (.iload_n 3, 1) := by decide +kernel
theorem dX6_moveCount_24 : decode cX6_moveCount 24 = .ok (.invokevirtual 167, 3) := by decide +kernel
theorem dX6_moveCount_27 : decode cX6_moveCount 27 = .ok (.ifCond .lt 6, 3) := by decide +kernel
theorem dX6_moveCount_30 : decode cX6_moveCount 30 = .ok (.iinc 2 1, 3) := by decide +kernel
theorem dX6_moveCount_33 : decode cX6_moveCount 33 = .ok (.iinc 3 1, 3) := by decide +kernel
theorem dX6_moveCount_36 : decode cX6_moveCount 36 = .ok (.goto (-21), 3) := by decide +kernel
theorem dX6_moveCount_39 : decode cX6_moveCount 39 = .ok (.iload_n 2, 1) := by decide +kernel
theorem dX6_moveCount_40 : decode cX6_moveCount 40 = .ok (.ireturn, 1) := by decide +kernel
theorem dX6_bestMove_0 : decode cX6_bestMove 0 = .ok (.aload_n 0, 1) := by decide +kernel
theorem dX6_bestMove_1 : decode cX6_bestMove 1 = .ok (.getfield 15, 3) := by decide +kernel
theorem dX6_bestMove_4 : decode cX6_bestMove 4 = .ok (.iload_n 1, 1) := by decide +kernel
theorem dX6_bestMove_5 : decode cX6_bestMove 5 = .ok (.iaload, 1) := by decide +kernel
theorem dX6_bestMove_6 : decode cX6_bestMove 6 = .ok (.ifCond .ne 5, 3) := by decide +kernel
theorem dX6_bestMove_9 : decode cX6_bestMove 9 = .ok (.iconst (-1), 1) := by decide +kernel
theorem dX6_bestMove_10 : decode cX6_bestMove 10 = .ok (.ireturn, 1) := by decide +kernel
theorem dX6_bestMove_11 : decode cX6_bestMove 11 = .ok (.iload_n 1, 1) := by decide +kernel
theorem dX6_bestMove_12 : decode cX6_bestMove 12 = .ok (.invokestatic 146, 3) := by decide +kernel
theorem dX6_bestMove_15 : decode cX6_bestMove 15 = .ok (.istore_n 2, 1) := by decide +kernel
theorem dX6_bestMove_16 : decode cX6_bestMove 16 = .ok (.iconst (-1), 1) := by decide +kernel
theorem dX6_bestMove_17 : decode cX6_bestMove 17 = .ok (.istore_n 3, 1) := by decide +kernel
theorem dX6_bestMove_18 : decode cX6_bestMove 18 = .ok (.iconst 0, 1) := by decide +kernel
theorem dX6_bestMove_19 : decode cX6_bestMove 19 = .ok (.istore 4, 2) := by decide +kernel
theorem dX6_bestMove_21 : decode cX6_bestMove 21 = .ok (.iconst 0, 1) := by decide +kernel
theorem dX6_bestMove_22 : decode cX6_bestMove 22 = .ok (.istore 5, 2) := by decide +kernel
theorem dX6_bestMove_24 : decode cX6_bestMove 24 = .ok (.iload 5, 2) := by decide +kernel
theorem dX6_bestMove_26 : decode cX6_bestMove 26 = .ok (.bipush 32, 2) := by decide +kernel
theorem dX6_bestMove_28 : decode cX6_bestMove 28 = .ok (.if_icmp .gt 82, 3) := by decide +kernel
theorem dX6_bestMove_31 : decode cX6_bestMove 31 = .ok (.aload_n 0, 1) := by decide +kernel
theorem dX6_bestMove_32 : decode cX6_bestMove 32 = .ok (.iload_n 1, 1) := by decide +kernel
theorem dX6_bestMove_33 : decode cX6_bestMove 33 = .ok (.iload 5, 2) := by decide +kernel
theorem dX6_bestMove_35 : decode cX6_bestMove 35 = .ok (.invokevirtual 167, 3) := by decide +kernel
theorem dX6_bestMove_38 : decode cX6_bestMove 38 = .ok (.istore 6, 2) := by decide +kernel
theorem dX6_bestMove_40 : decode cX6_bestMove 40 = .ok (.iload 6, 2) := by decide +kernel
theorem dX6_bestMove_42 : decode cX6_bestMove 42 = .ok (.ifCond .ge 6, 3) := by decide +kernel
theorem dX6_bestMove_45 : decode cX6_bestMove 45 = .ok (.goto 59, 3) := by decide +kernel
theorem dX6_bestMove_48 : decode cX6_bestMove 48 = .ok (.aload_n 0, 1) := by decide +kernel
theorem dX6_bestMove_49 : decode cX6_bestMove 49 = .ok (.getfield 15, 3) := by decide +kernel
theorem dX6_bestMove_52 : decode cX6_bestMove 52 = .ok (.iload 6, 2) := by decide +kernel
theorem dX6_bestMove_54 : decode cX6_bestMove 54 = .ok (.iaload, 1) := by decide +kernel
theorem dX6_bestMove_55 : decode cX6_bestMove 55 = .ok (.ifCond .ge 8, 3) := by decide +kernel
theorem dX6_bestMove_58 : decode cX6_bestMove 58 = .ok (.ldc 170, 2) := by decide +kernel
theorem dX6_bestMove_60 : decode cX6_bestMove 60 = .ok (.goto 10, 3) := by decide +kernel
theorem dX6_bestMove_63 : decode cX6_bestMove 63 = .ok (.aload_n 0, 1) := by decide +kernel
theorem dX6_bestMove_64 : decode cX6_bestMove 64 = .ok (.getfield 15, 3) := by decide +kernel
theorem dX6_bestMove_67 : decode cX6_bestMove 67 = .ok (.iload 6, 2) := by decide +kernel
theorem dX6_bestMove_69 : decode cX6_bestMove 69 = .ok (.iaload, 1) := by decide +kernel
theorem dX6_bestMove_70 : decode cX6_bestMove 70 = .ok (.istore 7, 2) := by decide +kernel
theorem dX6_bestMove_72 : decode cX6_bestMove 72 = .ok (.iload_n 3, 1) := by decide +kernel
theorem dX6_bestMove_73 : decode cX6_bestMove 73 = .ok (.ifCond .lt 24, 3) := by decide +kernel
theorem dX6_bestMove_76 : decode cX6_bestMove 76 = .ok (.iload_n 2, 1) := by decide +kernel
theorem dX6_bestMove_77 : decode cX6_bestMove 77 = .ok (.ifCond .eq 13, 3) := by decide +kernel
theorem dX6_bestMove_80 : decode cX6_bestMove 80 = .ok (.iload 7, 2) := by decide +kernel
theorem dX6_bestMove_82 : decode cX6_bestMove 82 = .ok (.iload 4, 2) := by decide +kernel
theorem dX6_bestMove_84 : decode cX6_bestMove 84 = .ok (.if_icmp .le 20, 3) := by decide +kernel
theorem dX6_bestMove_87 : decode cX6_bestMove 87 = .ok (.goto 10, 3) := by decide +kernel
theorem dX6_bestMove_90 : decode cX6_bestMove 90 = .ok (.iload 7, 2) := by decide +kernel
theorem dX6_bestMove_92 : decode cX6_bestMove 92 = .ok (.iload 4, 2) := by decide +kernel
theorem dX6_bestMove_94 : decode cX6_bestMove 94 = .ok (.if_icmp .ge 10, 3) := by decide +kernel
theorem dX6_bestMove_97 : decode cX6_bestMove 97 = .ok (.iload 5, 2) := by decide +kernel
theorem dX6_bestMove_99 : decode cX6_bestMove 99 = .ok (.istore_n 3, 1) := by decide +kernel
theorem dX6_bestMove_100 : decode cX6_bestMove 100 = .ok (.iload 7, 2) := by decide +kernel
theorem dX6_bestMove_102 : decode cX6_bestMove 102 = .ok (.istore 4, 2) := by decide +kernel
theorem dX6_bestMove_104 : decode cX6_bestMove 104 = .ok (.iinc 5 1, 3) := by decide +kernel
theorem dX6_bestMove_107 : decode cX6_bestMove 107 = .ok (.goto (-83), 3) := by decide +kernel
theorem dX6_bestMove_110 : decode cX6_bestMove 110 = .ok (.iload_n 3, 1) := by decide +kernel
theorem dX6_bestMove_111 : decode cX6_bestMove 111 = .ok (.ireturn, 1) := by decide +kernel
theorem dX6_findLone_0 : decode cX6_findLone 0 = .ok (.aload_n 0, 1) := by decide +kernel
theorem dX6_findLone_1 : decode cX6_findLone 1 = .ok (.getfield 57, 3) := by decide +kernel
theorem dX6_findLone_4 : decode cX6_findLone 4 = .ok (.ifCond .eq 4, 3) := by decide +kernel
theorem dX6_findLone_7 : decode cX6_findLone 7 = .ok (.return_, 1) := by decide +kernel
theorem dX6_findLone_8 : decode cX6_findLone 8 = .ok (.iconst 0, 1) := by decide +kernel
theorem dX6_findLone_9 : decode cX6_findLone 9 = .ok (.istore_n 1, 1) := by decide +kernel
theorem dX6_findLone_10 : decode cX6_findLone 10 = .ok (.iload_n 1, 1) := by decide +kernel
theorem dX6_findLone_11 : decode cX6_findLone 11 = .ok (.sipush 512, 3) := by decide +kernel
theorem dX6_findLone_14 : decode cX6_findLone 14 = .ok (.if_icmp .ge 38, 3) := by decide +kernel
theorem dX6_findLone_17 : decode cX6_findLone 17 = .ok (.aload_n 0, 1) := by decide +kernel
theorem dX6_findLone_18 : decode cX6_findLone 18 = .ok (.getfield 46, 3) := by decide +kernel
theorem dX6_findLone_21 : decode cX6_findLone 21 = .ok (.iload_n 1, 1) := by decide +kernel
theorem dX6_findLone_22 : decode cX6_findLone 22 = .ok (.aload_n 0, 1) := by decide +kernel
theorem dX6_findLone_23 : decode cX6_findLone 23 = .ok (.getfield 15, 3) := by decide +kernel
theorem dX6_findLone_26 : decode cX6_findLone 26 = .ok (.iload_n 1, 1) := by decide +kernel
theorem dX6_findLone_27 : decode cX6_findLone 27 = .ok (.iaload, 1) := by decide +kernel
theorem dX6_findLone_28 : decode cX6_findLone 28 = .ok (.ifCond .le 16, 3) := by decide +kernel
theorem dX6_findLone_31 : decode cX6_findLone 31 = .ok (.aload_n 0, 1) := by decide +kernel
theorem dX6_findLone_32 : decode cX6_findLone 32 = .ok (.iload_n 1, 1) := by decide +kernel
theorem dX6_findLone_33 : decode cX6_findLone 33 = .ok (.invokevirtual 171, 3) := by decide +kernel
theorem dX6_findLone_36 : decode cX6_findLone 36 = .ok (.iconst 1, 1) := by decide +kernel
theorem dX6_findLone_37 : decode cX6_findLone 37 = .ok (.if_icmp .ne 7, 3) := by decide +kernel
theorem dX6_findLone_40 : decode cX6_findLone 40 = .ok (.iconst 1, 1) := by decide +kernel
theorem dX6_findLone_41 : decode cX6_findLone 41 = .ok (.goto 4, 3) := by decide +kernel
theorem dX6_findLone_44 : decode cX6_findLone 44 = .ok (.iconst 0, 1) := by decide +kernel
theorem dX6_findLone_45 : decode cX6_findLone 45 = .ok (.bastore, 1) := by decide +kernel
theorem dX6_findLone_46 : decode cX6_findLone 46 = .ok (.iinc 1 1, 3) := by decide +kernel
theorem dX6_findLone_49 : decode cX6_findLone 49 = .ok (.goto (-39), 3) := by decide +kernel
theorem dX6_findLone_52 : decode cX6_findLone 52 = .ok (.aload_n 0, 1) := by decide +kernel
theorem dX6_findLone_53 : decode cX6_findLone 53 = .ok (.iconst 1, 1) := by decide +kernel
theorem dX6_findLone_54 : decode cX6_findLone 54 = .ok (.putfield 57, 3) := by decide +kernel
theorem dX6_findLone_57 : decode cX6_findLone 57 = .ok (.return_, 1) := by decide +kernel
theorem dX6_shortestMoves_0 : decode cX6_shortestMoves 0 = .ok (.iconst 0, 1) := by decide +kernel
theorem dX6_shortestMoves_1 : decode cX6_shortestMoves 1 = .ok (.istore_n 2, 1) := by decide +kernel
theorem dX6_shortestMoves_2 : decode cX6_shortestMoves 2 = .ok (.iconst 0, 1) := by decide +kernel
theorem dX6_shortestMoves_3 : decode cX6_shortestMoves 3 = .ok (.istore_n 3, 1) := by decide +kernel
theorem dX6_shortestMoves_4 : decode cX6_shortestMoves 4 = .ok (.iload_n 3, 1) := by decide +kernel
theorem dX6_shortestMoves_5 : decode cX6_shortestMoves 5 = .ok (.bipush 32, 2) := by decide +kernel
theorem dX6_shortestMoves_7 : decode cX6_shortestMoves 7 = .ok (.if_icmp .gt 43, 3) := by decide +kernel
theorem dX6_shortestMoves_10 : decode cX6_shortestMoves 10 = .ok (.aload_n 0, 1) := by decide +kernel
theorem dX6_shortestMoves_11 : decode cX6_shortestMoves 11 = .ok (.iload_n 1, 1) := by decide +kernel
theorem dX6_shortestMoves_12 : decode cX6_shortestMoves 12 = .ok (.iload_n 3, 1) := by decide +kernel
theorem dX6_shortestMoves_13 : decode cX6_shortestMoves 13 = .ok (.invokevirtual 167, 3) := by decide +kernel
theorem dX6_shortestMoves_16 : decode cX6_shortestMoves 16 = .ok (.istore 4, 2) := by decide +kernel
theorem dX6_shortestMoves_18 : decode cX6_shortestMoves 18 = .ok (.iload 4, 2) := by decide +kernel
theorem dX6_shortestMoves_20 : decode cX6_shortestMoves 20 = .ok (.ifCond .lt 24, 3) := by decide +kernel
theorem dX6_shortestMoves_23 : decode cX6_shortestMoves 23 = .ok (.aload_n 0, 1) := by decide +kernel
theorem dX6_shortestMoves_24 : decode cX6_shortestMoves 24 = .ok (.getfield 15, 3) := by decide +kernel
theorem dX6_shortestMoves_27 : decode cX6_shortestMoves 27 = .ok (.iload 4, 2) := by decide +kernel
theorem dX6_shortestMoves_29 : decode cX6_shortestMoves 29 = .ok (.iaload, 1) := by decide +kernel
theorem dX6_shortestMoves_30 : decode cX6_shortestMoves 30 = .ok (.aload_n 0, 1) := by decide +kernel
theorem dX6_shortestMoves_31 : decode cX6_shortestMoves 31 = .ok (.getfield 15, 3) := by decide +kernel
theorem dX6_shortestMoves_34 : decode cX6_shortestMoves 34 = .ok (.iload_n 1, 1) := by decide +kernel
theorem dX6_shortestMoves_35 : decode cX6_shortestMoves 35 = .ok (.iaload, 1) := by decide +kernel
theorem dX6_shortestMoves_36 : decode cX6_shortestMoves 36 = .ok (.iconst 1, 1) := by decide +kernel
theorem dX6_shortestMoves_37 : decode cX6_shortestMoves 37 = .ok (.isub, 1) := by decide +kernel
theorem dX6_shortestMoves_38 : decode cX6_shortestMoves 38 = .ok (.if_icmp .ne 6, 3) := by decide +kernel
theorem dX6_shortestMoves_41 : decode cX6_shortestMoves 41 = .ok (.iinc 2 1, 3) := by decide +kernel
theorem dX6_shortestMoves_44 : decode cX6_shortestMoves 44 = .ok (.iinc 3 1, 3) := by decide +kernel
theorem dX6_shortestMoves_47 : decode cX6_shortestMoves 47 = .ok (.goto (-43), 3) := by decide +kernel
theorem dX6_shortestMoves_50 : decode cX6_shortestMoves 50 = .ok (.iload_n 2, 1) := by decide +kernel
theorem dX6_shortestMoves_51 : decode cX6_shortestMoves 51 = .ok (.ireturn, 1) := by decide +kernel
theorem dX6_allPuzzles_0 : decode cX6_allPuzzles 0 = .ok (.aload_n 0, 1) := by decide +kernel
theorem dX6_allPuzzles_1 : decode cX6_allPuzzles 1 = .ok (.invokevirtual 174, 3) := by decide +kernel
theorem dX6_allPuzzles_4 : decode cX6_allPuzzles 4 = .ok (.iconst 0, 1) := by decide +kernel
theorem dX6_allPuzzles_5 : decode cX6_allPuzzles 5 = .ok (.istore_n 1, 1) := by decide +kernel
theorem dX6_allPuzzles_6 : decode cX6_allPuzzles 6 = .ok (.iconst 0, 1) := by decide +kernel
theorem dX6_allPuzzles_7 : decode cX6_allPuzzles 7 = .ok (.istore_n 2, 1) := by decide +kernel
theorem dX6_allPuzzles_8 : decode cX6_allPuzzles 8 = .ok (.iload_n 2, 1) := by decide +kernel
theorem dX6_allPuzzles_9 : decode cX6_allPuzzles 9 = .ok (.sipush 512, 3) := by decide +kernel
theorem dX6_allPuzzles_12 : decode cX6_allPuzzles 12 = .ok (.if_icmp .ge 21, 3) := by decide +kernel
theorem dX6_allPuzzles_15 : decode cX6_allPuzzles 15 = .ok (.aload_n 0, 1) := by decide +kernel
theorem dX6_allPuzzles_16 : decode cX6_allPuzzles 16 = .ok (.getfield 46, 3) := by decide +kernel
theorem dX6_allPuzzles_19 : decode cX6_allPuzzles 19 = .ok (.iload_n 2, 1) := by decide +kernel
theorem dX6_allPuzzles_20 : decode cX6_allPuzzles 20 = .ok (.baload, 1) := by decide +kernel
theorem dX6_allPuzzles_21 : decode cX6_allPuzzles 21 = .ok (.ifCond .eq 6, 3) := by decide +kernel
theorem dX6_allPuzzles_24 : decode cX6_allPuzzles 24 = .ok (.iinc 1 1, 3) := by decide +kernel
theorem dX6_allPuzzles_27 : decode cX6_allPuzzles 27 = .ok (.iinc 2 1, 3) := by decide +kernel
theorem dX6_allPuzzles_30 : decode cX6_allPuzzles 30 = .ok (.goto (-22), 3) := by decide +kernel
theorem dX6_allPuzzles_33 : decode cX6_allPuzzles 33 = .ok (.iload_n 1, 1) := by decide +kernel
theorem dX6_allPuzzles_34 : decode cX6_allPuzzles 34 = .ok (.ireturn, 1) := by decide +kernel
theorem dX6_puzzleCount_0 : decode cX6_puzzleCount 0 = .ok (.aload_n 0, 1) := by decide +kernel
theorem dX6_puzzleCount_1 : decode cX6_puzzleCount 1 = .ok (.invokevirtual 174, 3) := by decide +kernel
theorem dX6_puzzleCount_4 : decode cX6_puzzleCount 4 = .ok (.iconst 0, 1) := by decide +kernel
theorem dX6_puzzleCount_5 : decode cX6_puzzleCount 5 = .ok (.istore_n 2, 1) := by decide +kernel
theorem dX6_puzzleCount_6 : decode cX6_puzzleCount 6 = .ok (.iconst 0, 1) := by decide +kernel
theorem dX6_puzzleCount_7 : decode cX6_puzzleCount 7 = .ok (.istore_n 3, 1) := by decide +kernel
theorem dX6_puzzleCount_8 : decode cX6_puzzleCount 8 = .ok (.iload_n 3, 1) := by decide +kernel
theorem dX6_puzzleCount_9 : decode cX6_puzzleCount 9 = .ok (.sipush 512, 3) := by decide +kernel
theorem dX6_puzzleCount_12 : decode cX6_puzzleCount 12 = .ok (.if_icmp .ge 31, 3) := by decide +kernel
theorem dX6_puzzleCount_15 : decode cX6_puzzleCount 15 = .ok (.aload_n 0, 1) := by decide +kernel
theorem dX6_puzzleCount_16 : decode cX6_puzzleCount 16 = .ok (.getfield 46, 3) := by decide +kernel
theorem dX6_puzzleCount_19 : decode cX6_puzzleCount 19 = .ok (.iload_n 3, 1) := by decide +kernel
theorem dX6_puzzleCount_20 : decode cX6_puzzleCount 20 = .ok (.baload, 1) := by decide +kernel
theorem dX6_puzzleCount_21 : decode cX6_puzzleCount 21 = .ok (.ifCond .eq 16, 3) := by decide +kernel
theorem dX6_puzzleCount_24 : decode cX6_puzzleCount 24 = .ok (.aload_n 0, 1) := by decide +kernel
theorem dX6_puzzleCount_25 : decode cX6_puzzleCount 25 = .ok (.getfield 15, 3) := by decide +kernel
theorem dX6_puzzleCount_28 : decode cX6_puzzleCount 28 = .ok (.iload_n 3, 1) := by decide +kernel
theorem dX6_puzzleCount_29 : decode cX6_puzzleCount 29 = .ok (.iaload, 1) := by decide +kernel
theorem dX6_puzzleCount_30 : decode cX6_puzzleCount 30 = .ok (.iload_n 1, 1) := by decide +kernel
theorem dX6_puzzleCount_31 : decode cX6_puzzleCount 31 = .ok (.if_icmp .ne 6, 3) := by decide +kernel
theorem dX6_puzzleCount_34 : decode cX6_puzzleCount 34 = .ok (.iinc 2 1, 3) := by decide +kernel
theorem dX6_puzzleCount_37 : decode cX6_puzzleCount 37 = .ok (.iinc 3 1, 3) := by decide +kernel
theorem dX6_puzzleCount_40 : decode cX6_puzzleCount 40 = .ok (.goto (-32), 3) := by decide +kernel
theorem dX6_puzzleCount_43 : decode cX6_puzzleCount 43 = .ok (.iload_n 2, 1) := by decide +kernel
theorem dX6_puzzleCount_44 : decode cX6_puzzleCount 44 = .ok (.ireturn, 1) := by decide +kernel
theorem dX6_puzzleAt_0 : decode cX6_puzzleAt 0 = .ok (.aload_n 0, 1) := by decide +kernel
theorem dX6_puzzleAt_1 : decode cX6_puzzleAt 1 = .ok (.invokevirtual 174, 3) := by decide +kernel
theorem dX6_puzzleAt_4 : decode cX6_puzzleAt 4 = .ok (.iconst 0, 1) := by decide +kernel
theorem dX6_puzzleAt_5 : decode cX6_puzzleAt 5 = .ok (.istore_n 3, 1) := by decide +kernel
theorem dX6_puzzleAt_6 : decode cX6_puzzleAt 6 = .ok (.iconst 0, 1) := by decide +kernel
theorem dX6_puzzleAt_7 : decode cX6_puzzleAt 7 = .ok (.istore 4, 2) := by decide +kernel
theorem dX6_puzzleAt_9 : decode cX6_puzzleAt 9 = .ok (.iload 4, 2) := by decide +kernel
theorem dX6_puzzleAt_11 : decode cX6_puzzleAt 11 = .ok (.sipush 512, 3) := by decide +kernel
theorem dX6_puzzleAt_14 : decode cX6_puzzleAt 14 = .ok (.if_icmp .ge 51, 3) := by decide +kernel
theorem dX6_puzzleAt_17 : decode cX6_puzzleAt 17 = .ok (.aload_n 0, 1) := by decide +kernel
theorem dX6_puzzleAt_18 : decode cX6_puzzleAt 18 = .ok (.getfield 46, 3) := by decide +kernel
theorem dX6_puzzleAt_21 : decode cX6_puzzleAt 21 = .ok (.iload 4, 2) := by decide +kernel
theorem dX6_puzzleAt_23 : decode cX6_puzzleAt 23 = .ok (.baload, 1) := by decide +kernel
theorem dX6_puzzleAt_24 : decode cX6_puzzleAt 24 = .ok (.ifCond .eq 35, 3) := by decide +kernel
theorem dX6_puzzleAt_27 : decode cX6_puzzleAt 27 = .ok (.aload_n 0, 1) := by decide +kernel
theorem dX6_puzzleAt_28 : decode cX6_puzzleAt 28 = .ok (.getfield 15, 3) := by decide +kernel
theorem dX6_puzzleAt_31 : decode cX6_puzzleAt 31 = .ok (.iload 4, 2) := by decide +kernel
theorem dX6_puzzleAt_33 : decode cX6_puzzleAt 33 = .ok (.iaload, 1) := by decide +kernel
theorem dX6_puzzleAt_34 : decode cX6_puzzleAt 34 = .ok (.iload_n 1, 1) := by decide +kernel
theorem dX6_puzzleAt_35 : decode cX6_puzzleAt 35 = .ok (.if_icmp .ne 24, 3) := by decide +kernel
theorem dX6_puzzleAt_38 : decode cX6_puzzleAt 38 = .ok (.iload_n 3, 1) := by decide +kernel
theorem dX6_puzzleAt_39 : decode cX6_puzzleAt 39 = .ok (.iload_n 2, 1) := by decide +kernel
theorem dX6_puzzleAt_40 : decode cX6_puzzleAt 40 = .ok (.if_icmp .ne 16, 3) := by decide +kernel
theorem dX6_puzzleAt_43 : decode cX6_puzzleAt 43 = .ok (.iload 4, 2) := by decide +kernel
theorem dX6_puzzleAt_45 : decode cX6_puzzleAt 45 = .ok (.iconst 3, 1) := by decide +kernel
theorem dX6_puzzleAt_46 : decode cX6_puzzleAt 46 = .ok (.ishr, 1) := by decide +kernel
theorem dX6_puzzleAt_47 : decode cX6_puzzleAt 47 = .ok (.iload 4, 2) := by decide +kernel
theorem dX6_puzzleAt_49 : decode cX6_puzzleAt 49 = .ok (.bipush 7, 2) := by decide +kernel
theorem dX6_puzzleAt_51 : decode cX6_puzzleAt 51 = .ok (.iand, 1) := by decide +kernel
theorem dX6_puzzleAt_52 : decode cX6_puzzleAt 52 = .ok (.invokestatic 177, 3) := by decide +kernel
theorem dX6_puzzleAt_55 : decode cX6_puzzleAt 55 = .ok (.ireturn, 1) := by decide +kernel
theorem dX6_puzzleAt_56 : decode cX6_puzzleAt 56 = .ok (.iinc 3 1, 3) := by decide +kernel
theorem dX6_puzzleAt_59 : decode cX6_puzzleAt 59 = .ok (.iinc 4 1, 3) := by decide +kernel
theorem dX6_puzzleAt_62 : decode cX6_puzzleAt 62 = .ok (.goto (-53), 3) := by decide +kernel
theorem dX6_puzzleAt_65 : decode cX6_puzzleAt 65 = .ok (.iconst (-1), 1) := by decide +kernel
theorem dX6_puzzleAt_66 : decode cX6_puzzleAt 66 = .ok (.ireturn, 1) := by decide +kernel
theorem dX6_rowTold_0 : decode cX6_rowTold 0 = .ok (.bipush 100, 2) := by decide +kernel
theorem dX6_rowTold_2 : decode cX6_rowTold 2 = .ok (.iload_n 0, 1) := by decide +kernel
theorem dX6_rowTold_3 : decode cX6_rowTold 3 = .ok (.iconst 3, 1) := by decide +kernel
theorem dX6_rowTold_4 : decode cX6_rowTold 4 = .ok (.ishr, 1) := by decide +kernel
theorem dX6_rowTold_5 : decode cX6_rowTold 5 = .ok (.imul, 1) := by decide +kernel
theorem dX6_rowTold_6 : decode cX6_rowTold 6 = .ok (.bipush 10, 2) := by decide +kernel
theorem dX6_rowTold_8 : decode cX6_rowTold 8 = .ok (.iload_n 0, 1) := by decide +kernel
theorem dX6_rowTold_9 : decode cX6_rowTold 9 = .ok (.bipush 7, 2) := by decide +kernel
theorem dX6_rowTold_11 : decode cX6_rowTold 11 = .ok (.iand, 1) := by decide +kernel
theorem dX6_rowTold_12 : decode cX6_rowTold 12 = .ok (.imul, 1) := by decide +kernel
theorem dX6_rowTold_13 : decode cX6_rowTold 13 = .ok (.iadd, 1) := by decide +kernel
theorem dX6_rowTold_14 : decode cX6_rowTold 14 = .ok (.iload_n 1, 1) := by decide +kernel
theorem dX6_rowTold_15 : decode cX6_rowTold 15 = .ok (.iadd, 1) := by decide +kernel
theorem dX6_rowTold_16 : decode cX6_rowTold 16 = .ok (.ireturn, 1) := by decide +kernel
theorem dX7_init_0 : decode cX7_init 0 = .ok (.aload_n 0, 1) := by decide +kernel
theorem dX7_init_1 : decode cX7_init 1 = .ok (.invokespecial 3, 3) := by decide +kernel
theorem dX7_init_4 : decode cX7_init 4 = .ok (.aload_n 0, 1) := by decide +kernel
theorem dX7_init_5 : decode cX7_init 5 = .ok (.bipush 120, 2) := by decide +kernel
theorem dX7_init_7 : decode cX7_init 7 = .ok (.newarray .byte, 2) := by decide +kernel
theorem dX7_init_9 : decode cX7_init 9 = .ok (.putfield 9, 3) := by decide +kernel
theorem dX7_init_12 : decode cX7_init 12 = .ok (.aload_n 0, 1) := by decide +kernel
theorem dX7_init_13 : decode cX7_init 13 = .ok (.bipush 6, 2) := by decide +kernel
theorem dX7_init_15 : decode cX7_init 15 = .ok (.bipush 120, 2) := by decide +kernel
theorem dX7_init_17 : decode cX7_init 17 = .ok (.multianewarray 15 2, 4) := by decide +kernel
theorem dX7_init_21 : decode cX7_init 21 = .ok (.putfield 17, 3) := by decide +kernel
theorem dX7_init_24 : decode cX7_init 24 = .ok (.aload_n 0, 1) := by decide +kernel
theorem dX7_init_25 : decode cX7_init 25 = .ok (.bipush 6, 2) := by decide +kernel
theorem dX7_init_27 : decode cX7_init 27 = .ok (.newarray .int, 2) := by decide +kernel
theorem dX7_init_29 : decode cX7_init 29 = .ok (.putfield 20, 3) := by decide +kernel
theorem dX7_init_32 : decode cX7_init 32 = .ok (.aload_n 0, 1) := by decide +kernel
theorem dX7_init_33 : decode cX7_init 33 = .ok (.iconst 1, 1) := by decide +kernel
theorem dX7_init_34 : decode cX7_init 34 = .ok (.putfield 24, 3) := by decide +kernel
theorem dX7_init_37 : decode cX7_init 37 = .ok (.aload_n 0, 1) := by decide +kernel
theorem dX7_init_38 : decode cX7_init 38 = .ok (.new 28, 3) := by decide +kernel
theorem dX7_init_41 : decode cX7_init 41 = .ok (.dup, 1) := by decide +kernel
theorem dX7_init_42 : decode cX7_init 42 = .ok (.invokespecial 30, 3) := by decide +kernel
theorem dX7_init_45 : decode cX7_init 45 = .ok (.putfield 31, 3) := by decide +kernel
theorem dX7_init_48 : decode cX7_init 48 = .ok (.aload_n 0, 1) := by decide +kernel
theorem dX7_init_49 : decode cX7_init 49 = .ok (.getfield 20, 3) := by decide +kernel
theorem dX7_init_52 : decode cX7_init 52 = .ok (.iconst 0, 1) := by decide +kernel
theorem dX7_init_53 : decode cX7_init 53 = .ok (.bipush 120, 2) := by decide +kernel
theorem dX7_init_55 : decode cX7_init 55 = .ok (.ldc 35, 2) := by decide +kernel
theorem dX7_init_57 : decode cX7_init 57 = .ok (.invokevirtual 37, 3) := by decide +kernel
theorem dX7_init_60 : decode cX7_init 60 = .ok (.invokestatic 43, 3) := by decide +kernel
theorem dX7_init_63 : decode cX7_init 63 = .ok (.iastore, 1) := by decide +kernel
theorem dX7_init_64 : decode cX7_init 64 = .ok (.iconst 0, 1) := by decide +kernel
theorem dX7_init_65 : decode cX7_init 65 = .ok (.istore_n 1, 1) := by decide +kernel
theorem dX7_init_66 : decode cX7_init 66 = .ok (.iload_n 1, 1) := by decide +kernel
theorem dX7_init_67 : decode cX7_init 67 = .ok (.aload_n 0, 1) := by decide +kernel
theorem dX7_init_68 : decode cX7_init 68 = .ok (.getfield 20, 3) := by decide +kernel
theorem dX7_init_71 : decode cX7_init 71 = .ok (.iconst 0, 1) := by decide +kernel
theorem dX7_init_72 : decode cX7_init 72 = .ok (.iaload, 1) := by decide +kernel
theorem dX7_init_73 : decode cX7_init 73 = .ok (.if_icmp .ge 24, 3) := by decide +kernel
theorem dX7_init_76 : decode cX7_init 76 = .ok (.aload_n 0, 1) := by decide +kernel
theorem dX7_init_77 : decode cX7_init 77 = .ok (.getfield 17, 3) := by decide +kernel
theorem dX7_init_80 : decode cX7_init 80 = .ok (.iconst 0, 1) := by decide +kernel
theorem dX7_init_81 : decode cX7_init 81 = .ok (.aaload, 1) := by decide +kernel
theorem dX7_init_82 : decode cX7_init 82 = .ok (.iload_n 1, 1) := by decide +kernel
theorem dX7_init_83 : decode cX7_init 83 = .ok (.ldc 35, 2) := by decide +kernel
theorem dX7_init_85 : decode cX7_init 85 = .ok (.iload_n 1, 1) := by decide +kernel
theorem dX7_init_86 : decode cX7_init 86 = .ok (.invokevirtual 49, 3) := by decide +kernel
theorem dX7_init_89 : decode cX7_init 89 = .ok (.i2b, 1) := by decide +kernel
theorem dX7_init_90 : decode cX7_init 90 = .ok (.bastore, 1) := by decide +kernel
theorem dX7_init_91 : decode cX7_init 91 = .ok (.iinc 1 1, 3) := by decide +kernel
theorem dX7_init_94 : decode cX7_init 94 = .ok (.goto (-28), 3) := by decide +kernel
theorem dX7_init_97 : decode cX7_init 97 = .ok (.return_, 1) := by decide +kernel
theorem dX7_takeTape_0 : decode cX7_takeTape 0 = .ok (.aload_n 0, 1) := by decide +kernel
theorem dX7_takeTape_1 : decode cX7_takeTape 1 = .ok (.getfield 24, 3) := by decide +kernel
theorem dX7_takeTape_4 : decode cX7_takeTape 4 = .ok (.bipush 6, 2) := by decide +kernel
theorem dX7_takeTape_6 : decode cX7_takeTape 6 = .ok (.if_icmp .lt 6, 3) := by decide +kernel
theorem dX7_takeTape_9 : decode cX7_takeTape 9 = .ok (.bipush (-4), 2) := by decide +kernel
theorem dX7_takeTape_11 : decode cX7_takeTape 11 = .ok (.ireturn, 1) := by decide +kernel
theorem dX7_takeTape_12 : decode cX7_takeTape 12 = .ok (.aload_n 0, 1) := by decide +kernel
theorem dX7_takeTape_13 : decode cX7_takeTape 13 = .ok (.getfield 53, 3) := by decide +kernel
theorem dX7_takeTape_16 : decode cX7_takeTape 16 = .ok (.istore_n 1, 1) := by decide +kernel
theorem dX7_takeTape_17 : decode cX7_takeTape 17 = .ok (.aload_n 0, 1) := by decide +kernel
theorem dX7_takeTape_18 : decode cX7_takeTape 18 = .ok (.iconst 0, 1) := by decide +kernel
theorem dX7_takeTape_19 : decode cX7_takeTape 19 = .ok (.putfield 53, 3) := by decide +kernel
theorem dX7_takeTape_22 : decode cX7_takeTape 22 = .ok (.aload_n 0, 1) := by decide +kernel
theorem dX7_takeTape_23 : decode cX7_takeTape 23 = .ok (.getfield 31, 3) := by decide +kernel
theorem dX7_takeTape_26 : decode cX7_takeTape 26 = .ok (.aload_n 0, 1) := by decide +kernel
theorem dX7_takeTape_27 : decode cX7_takeTape 27 = .ok (.getfield 9, 3) := by decide +kernel
theorem dX7_takeTape_30 : decode cX7_takeTape 30 = .ok (.iload_n 1, 1) := by decide +kernel
theorem dX7_takeTape_31 : decode cX7_takeTape 31 = .ok (.invokevirtual 56, 3) := by decide +kernel
theorem dX7_takeTape_34 : decode cX7_takeTape 34 = .ok (.aload_n 0, 1) := by decide +kernel
theorem dX7_takeTape_35 : decode cX7_takeTape 35 = .ok (.getfield 31, 3) := by decide +kernel
theorem dX7_takeTape_38 : decode cX7_takeTape 38 = .ok (.getfield 60, 3) := by decide +kernel
theorem dX7_takeTape_41 : decode cX7_takeTape 41 = .ok (.ifCond .lt 14, 3) := by decide +kernel
theorem dX7_takeTape_44 : decode cX7_takeTape 44 = .ok (.bipush (-100), 2) := by decide +kernel
theorem dX7_takeTape_46 : decode cX7_takeTape 46 = .ok (.aload_n 0, 1) := by decide +kernel
theorem dX7_takeTape_47 : decode cX7_takeTape 47 = .ok (.getfield 31, 3) := by decide +kernel
theorem dX7_takeTape_50 : decode cX7_takeTape 50 = .ok (.getfield 60, 3) := by decide +kernel
theorem dX7_takeTape_53 : decode cX7_takeTape 53 = .ok (.isub, 1) := by decide +kernel
theorem dX7_takeTape_54 : decode cX7_takeTape 54 = .ok (.ireturn, 1) := by decide +kernel
theorem dX7_takeTape_55 : decode cX7_takeTape 55 = .ok (.aload_n 0, 1) := by decide +kernel
theorem dX7_takeTape_56 : decode cX7_takeTape 56 = .ok (.getfield 9, 3) := by decide +kernel
theorem dX7_takeTape_59 : decode cX7_takeTape 59 = .ok (.iconst 0, 1) := by decide +kernel
theorem dX7_takeTape_60 : decode cX7_takeTape 60 = .ok (.aload_n 0, 1) := by decide +kernel
theorem dX7_takeTape_61 : decode cX7_takeTape 61 = .ok (.getfield 17, 3) := by decide +kernel
theorem dX7_takeTape_64 : decode cX7_takeTape 64 = .ok (.aload_n 0, 1) := by decide +kernel
theorem dX7_takeTape_65 : decode cX7_takeTape 65 = .ok (.getfield 24, 3) := by decide +kernel
theorem dX7_takeTape_68 : decode cX7_takeTape 68 = .ok (.aaload, 1) := by decide +kernel
theorem dX7_takeTape_69 : decode cX7_takeTape 69 = .ok (.iconst 0, 1) := by decide +kernel
theorem dX7_takeTape_70 : decode cX7_takeTape 70 = .ok (.iload_n 1, 1) := by decide +kernel
theorem dX7_takeTape_71 : decode cX7_takeTape 71 = .ok (.invokestatic 63, 3) := by decide +kernel
theorem dX7_takeTape_74 : decode cX7_takeTape 74 = .ok (.aload_n 0, 1) := by decide +kernel
theorem dX7_takeTape_75 : decode cX7_takeTape 75 = .ok (.getfield 20, 3) := by decide +kernel
theorem dX7_takeTape_78 : decode cX7_takeTape 78 = .ok (.aload_n 0, 1) := by decide +kernel
theorem dX7_takeTape_79 : decode cX7_takeTape 79 = .ok (.getfield 24, 3) := by decide +kernel
theorem dX7_takeTape_82 : decode cX7_takeTape 82 = .ok (.iload_n 1, 1) := by decide +kernel
theorem dX7_takeTape_83 : decode cX7_takeTape 83 = .ok (.iastore, 1) := by decide +kernel
theorem dX7_takeTape_84 : decode cX7_takeTape 84 = .ok (.aload_n 0, 1) := by decide +kernel
theorem dX7_takeTape_85 : decode cX7_takeTape 85 = .ok (.dup, 1) := by decide +kernel
theorem dX7_takeTape_86 : decode cX7_takeTape 86 = .ok (.getfield 24, 3) := by decide +kernel
theorem dX7_takeTape_89 : decode cX7_takeTape 89 = .ok (.dup_x1, 1) := by decide +kernel
theorem dX7_takeTape_90 : decode cX7_takeTape 90 = .ok (.iconst 1, 1) := by decide +kernel
theorem dX7_takeTape_91 : decode cX7_takeTape 91 = .ok (.iadd, 1) := by decide +kernel
theorem dX7_takeTape_92 : decode cX7_takeTape 92 = .ok (.putfield 24, 3) := by decide +kernel
theorem dX7_takeTape_95 : decode cX7_takeTape 95 = .ok (.ireturn, 1) := by decide +kernel
theorem dX8_init_0 : decode cX8_init 0 = .ok (.aload_n 0, 1) := by decide +kernel
theorem dX8_init_1 : decode cX8_init 1 = .ok (.invokespecial 3, 3) := by decide +kernel
theorem dX8_init_4 : decode cX8_init 4 = .ok (.aload_n 0, 1) := by decide +kernel
theorem dX8_init_5 : decode cX8_init 5 = .ok (.new 9, 3) := by decide +kernel
theorem dX8_init_8 : decode cX8_init 8 = .ok (.dup, 1) := by decide +kernel
theorem dX8_init_9 : decode cX8_init 9 = .ok (.invokespecial 11, 3) := by decide +kernel
theorem dX8_init_12 : decode cX8_init 12 = .ok (.putfield 12, 3) := by decide +kernel
theorem dX8_init_15 : decode cX8_init 15 = .ok (.aload_n 0, 1) := by decide +kernel
theorem dX8_init_16 : decode cX8_init 16 = .ok (.new 16, 3) := by decide +kernel
theorem dX8_init_19 : decode cX8_init 19 = .ok (.dup, 1) := by decide +kernel
theorem dX8_init_20 : decode cX8_init 20 = .ok (.invokespecial 18, 3) := by decide +kernel
theorem dX8_init_23 : decode cX8_init 23 = .ok (.putfield 19, 3) := by decide +kernel
theorem dX8_init_26 : decode cX8_init 26 = .ok (.aload_n 0, 1) := by decide +kernel
theorem dX8_init_27 : decode cX8_init 27 = .ok (.new 23, 3) := by decide +kernel
theorem dX8_init_30 : decode cX8_init 30 = .ok (.dup, 1) := by decide +kernel
theorem dX8_init_31 : decode cX8_init 31 = .ok (.invokespecial 25, 3) := by decide +kernel
theorem dX8_init_34 : decode cX8_init 34 = .ok (.putfield 26, 3) := by decide +kernel
theorem dX8_init_37 : decode cX8_init 37 = .ok (.aload_n 0, 1) := by decide +kernel
theorem dX8_init_38 : decode cX8_init 38 = .ok (.new 30, 3) := by decide +kernel
theorem dX8_init_41 : decode cX8_init 41 = .ok (.dup, 1) := by decide +kernel
theorem dX8_init_42 : decode cX8_init 42 = .ok (.invokespecial 32, 3) := by decide +kernel
theorem dX8_init_45 : decode cX8_init 45 = .ok (.putfield 33, 3) := by decide +kernel
theorem dX8_init_48 : decode cX8_init 48 = .ok (.aload_n 0, 1) := by decide +kernel
theorem dX8_init_49 : decode cX8_init 49 = .ok (.new 37, 3) := by decide +kernel
theorem dX8_init_52 : decode cX8_init 52 = .ok (.dup, 1) := by decide +kernel
theorem dX8_init_53 : decode cX8_init 53 = .ok (.invokespecial 39, 3) := by decide +kernel
theorem dX8_init_56 : decode cX8_init 56 = .ok (.putfield 40, 3) := by decide +kernel
theorem dX8_init_59 : decode cX8_init 59 = .ok (.aload_n 0, 1) := by decide +kernel
theorem dX8_init_60 : decode cX8_init 60 = .ok (.iconst 4, 1) := by decide +kernel
theorem dX8_init_61 : decode cX8_init 61 = .ok (.anewarray 44, 3) := by decide +kernel
theorem dX8_init_64 : decode cX8_init 64 = .ok (.putfield 46, 3) := by decide +kernel
theorem dX8_init_67 : decode cX8_init 67 = .ok (.aload_n 0, 1) := by decide +kernel
theorem dX8_init_68 : decode cX8_init 68 = .ok (.iconst (-1), 1) := by decide +kernel
theorem dX8_init_69 : decode cX8_init 69 = .ok (.putfield 50, 3) := by decide +kernel
theorem dX8_init_72 : decode cX8_init 72 = .ok (.aload_n 0, 1) := by decide +kernel
theorem dX8_init_73 : decode cX8_init 73 = .ok (.iconst (-1), 1) := by decide +kernel
theorem dX8_init_74 : decode cX8_init 74 = .ok (.putfield 54, 3) := by decide +kernel
theorem dX8_init_77 : decode cX8_init 77 = .ok (.iconst 3, 1) := by decide +kernel
theorem dX8_init_78 : decode cX8_init 78 = .ok (.iload_n 1, 1) := by decide +kernel
theorem dX8_init_79 : decode cX8_init 79 = .ok (.bipush 6, 2) := by decide +kernel
theorem dX8_init_81 : decode cX8_init 81 = .ok (.invokestatic 57, 3) := by decide +kernel
theorem dX8_init_84 : decode cX8_init 84 = .ok (.iadd, 1) := by decide +kernel
theorem dX8_init_85 : decode cX8_init 85 = .ok (.istore_n 2, 1) := by decide +kernel
theorem dX8_init_86 : decode cX8_init 86 = .ok (.aload_n 0, 1) := by decide +kernel
theorem dX8_init_87 : decode cX8_init 87 = .ok (.new 63, 3) := by decide +kernel
theorem dX8_init_90 : decode cX8_init 90 = .ok (.dup, 1) := by decide +kernel
theorem dX8_init_91 : decode cX8_init 91 = .ok (.iload_n 2, 1) := by decide +kernel
theorem dX8_init_92 : decode cX8_init 92 = .ok (.invokespecial 65, 3) := by decide +kernel
theorem dX8_init_95 : decode cX8_init 95 = .ok (.putfield 68, 3) := by decide +kernel
theorem dX8_init_98 : decode cX8_init 98 = .ok (.aload_n 0, 1) := by decide +kernel
theorem dX8_init_99 : decode cX8_init 99 = .ok (.new 63, 3) := by decide +kernel
theorem dX8_init_102 : decode cX8_init 102 = .ok (.dup, 1) := by decide +kernel
theorem dX8_init_103 : decode cX8_init 103 = .ok (.iload_n 2, 1) := by decide +kernel
theorem dX8_init_104 : decode cX8_init 104 = .ok (.invokespecial 65, 3) := by decide +kernel
theorem dX8_init_107 : decode cX8_init 107 = .ok (.putfield 72, 3) := by decide +kernel
theorem dX8_init_110 : decode cX8_init 110 = .ok (.iconst 0, 1) := by decide +kernel
theorem dX8_init_111 : decode cX8_init 111 = .ok (.istore_n 3, 1) := by decide +kernel
theorem dX8_init_112 : decode cX8_init 112 = .ok (.iload_n 3, 1) := by decide +kernel
theorem dX8_init_113 : decode cX8_init 113 = .ok (.iconst 4, 1) := by decide +kernel
theorem dX8_init_114 : decode cX8_init 114 = .ok (.if_icmp .ge 22, 3) := by decide +kernel
theorem dX8_init_117 : decode cX8_init 117 = .ok (.aload_n 0, 1) := by decide +kernel
theorem dX8_init_118 : decode cX8_init 118 = .ok (.getfield 46, 3) := by decide +kernel
theorem dX8_init_121 : decode cX8_init 121 = .ok (.iload_n 3, 1) := by decide +kernel
theorem dX8_init_122 : decode cX8_init 122 = .ok (.new 44, 3) := by decide +kernel
theorem dX8_init_125 : decode cX8_init 125 = .ok (.dup, 1) := by decide +kernel
theorem dX8_init_126 : decode cX8_init 126 = .ok (.invokespecial 75, 3) := by decide +kernel
theorem dX8_init_129 : decode cX8_init 129 = .ok (.aastore, 1) := by decide +kernel
theorem dX8_init_130 : decode cX8_init 130 = .ok (.iinc 3 1, 3) := by decide +kernel
theorem dX8_init_133 : decode cX8_init 133 = .ok (.goto (-21), 3) := by decide +kernel
theorem dX8_init_136 : decode cX8_init 136 = .ok (.return_, 1) := by decide +kernel
theorem dX8_way_0 : decode cX8_way 0 = .ok (.aload_n 0, 1) := by decide +kernel
theorem dX8_way_1 : decode cX8_way 1 = .ok (.getfield 68, 3) := by decide +kernel
theorem dX8_way_4 : decode cX8_way 4 = .ok (.iload_n 1, 1) := by decide +kernel
theorem dX8_way_5 : decode cX8_way 5 = .ok (.iload_n 2, 1) := by decide +kernel
theorem dX8_way_6 : decode cX8_way 6 = .ok (.iload_n 3, 1) := by decide +kernel
theorem dX8_way_7 : decode cX8_way 7 = .ok (.invokevirtual 76, 3) := by decide +kernel
theorem dX8_way_10 : decode cX8_way 10 = .ok (.istore 4, 2) := by decide +kernel
theorem dX8_way_12 : decode cX8_way 12 = .ok (.iload 4, 2) := by decide +kernel
theorem dX8_way_14 : decode cX8_way 14 = .ok (.ifCond .eq 6, 3) := by decide +kernel
theorem dX8_way_17 : decode cX8_way 17 = .ok (.iload 4, 2) := by decide +kernel
theorem dX8_way_19 : decode cX8_way 19 = .ok (.ireturn, 1) := by decide +kernel
theorem dX8_way_20 : decode cX8_way 20 = .ok (.aload_n 0, 1) := by decide +kernel
theorem dX8_way_21 : decode cX8_way 21 = .ok (.getfield 33, 3) := by decide +kernel
theorem dX8_way_24 : decode cX8_way 24 = .ok (.iconst 0, 1) := by decide +kernel
theorem dX8_way_25 : decode cX8_way 25 = .ok (.putfield 80, 3) := by decide +kernel
theorem dX8_way_28 : decode cX8_way 28 = .ok (.aload_n 0, 1) := by decide +kernel
theorem dX8_way_29 : decode cX8_way 29 = .ok (.getfield 68, 3) := by decide +kernel
theorem dX8_way_32 : decode cX8_way 32 = .ok (.iload_n 1, 1) := by decide +kernel
theorem dX8_way_33 : decode cX8_way 33 = .ok (.iload_n 2, 1) := by decide +kernel
theorem dX8_way_34 : decode cX8_way 34 = .ok (.iload_n 3, 1) := by decide +kernel
theorem dX8_way_35 : decode cX8_way 35 = .ok (.invokevirtual 84, 3) := by decide +kernel
theorem dX8_way_38 : decode cX8_way 38 = .ok (.ireturn, 1) := by decide +kernel
theorem dX8_unway_0 : decode cX8_unway 0 = .ok (.aload_n 0, 1) := by decide +kernel
theorem dX8_unway_1 : decode cX8_unway 1 = .ok (.getfield 68, 3) := by decide +kernel
theorem dX8_unway_4 : decode cX8_unway 4 = .ok (.getfield 87, 3) := by decide +kernel
theorem dX8_unway_7 : decode cX8_unway 7 = .ok (.ifCond .ne 6, 3) := by decide +kernel
theorem dX8_unway_10 : decode cX8_unway 10 = .ok (.bipush (-3), 2) := by decide +kernel
theorem dX8_unway_12 : decode cX8_unway 12 = .ok (.ireturn, 1) := by decide +kernel
theorem dX8_unway_13 : decode cX8_unway 13 = .ok (.aload_n 0, 1) := by decide +kernel
theorem dX8_unway_14 : decode cX8_unway 14 = .ok (.getfield 33, 3) := by decide +kernel
theorem dX8_unway_17 : decode cX8_unway 17 = .ok (.iconst 0, 1) := by decide +kernel
theorem dX8_unway_18 : decode cX8_unway 18 = .ok (.putfield 80, 3) := by decide +kernel
theorem dX8_unway_21 : decode cX8_unway 21 = .ok (.aload_n 0, 1) := by decide +kernel
theorem dX8_unway_22 : decode cX8_unway 22 = .ok (.getfield 68, 3) := by decide +kernel
theorem dX8_unway_25 : decode cX8_unway 25 = .ok (.invokevirtual 90, 3) := by decide +kernel
theorem dX8_unway_28 : decode cX8_unway 28 = .ok (.aload_n 0, 1) := by decide +kernel
theorem dX8_unway_29 : decode cX8_unway 29 = .ok (.getfield 68, 3) := by decide +kernel
theorem dX8_unway_32 : decode cX8_unway 32 = .ok (.getfield 87, 3) := by decide +kernel
theorem dX8_unway_35 : decode cX8_unway 35 = .ok (.ireturn, 1) := by decide +kernel
theorem dX8_wayTold_0 : decode cX8_wayTold 0 = .ok (.iload_n 1, 1) := by decide +kernel
theorem dX8_wayTold_1 : decode cX8_wayTold 1 = .ok (.ifCond .lt 14, 3) := by decide +kernel
theorem dX8_wayTold_4 : decode cX8_wayTold 4 = .ok (.iload_n 1, 1) := by decide +kernel
theorem dX8_wayTold_5 : decode cX8_wayTold 5 = .ok (.aload_n 0, 1) := by decide +kernel
theorem dX8_wayTold_6 : decode cX8_wayTold 6 = .ok (.getfield 68, 3) := by decide +kernel
theorem dX8_wayTold_9 : decode cX8_wayTold 9 = .ok (.getfield 87, 3) := by decide +kernel
theorem dX8_wayTold_12 : decode cX8_wayTold 12 = .ok (.if_icmp .lt 6, 3) := by decide +kernel
theorem dX8_wayTold_15 : decode cX8_wayTold 15 = .ok (.bipush (-2), 2) := by decide +kernel
theorem dX8_wayTold_17 : decode cX8_wayTold 17 = .ok (.ireturn, 1) := by decide +kernel
theorem dX8_wayTold_18 : decode cX8_wayTold 18 = .ok (.iload_n 2, 1) := by decide +kernel
theorem dX8_wayTold_19 : decode cX8_wayTold 19 = .ok (.tableswitch 87 0 4 #[33, 43, 53, 63, 73], 33) := by decide +kernel
theorem dX8_wayTold_52 : decode cX8_wayTold 52 = .ok (.aload_n 0, 1) := by decide +kernel
theorem dX8_wayTold_53 : decode cX8_wayTold 53 = .ok (.getfield 68, 3) := by decide +kernel
theorem dX8_wayTold_56 : decode cX8_wayTold 56 = .ok (.getfield 93, 3) := by decide +kernel
theorem dX8_wayTold_59 : decode cX8_wayTold 59 = .ok (.iload_n 1, 1) := by decide +kernel
theorem dX8_wayTold_60 : decode cX8_wayTold 60 = .ok (.iaload, 1) := by decide +kernel
theorem dX8_wayTold_61 : decode cX8_wayTold 61 = .ok (.ireturn, 1) := by decide +kernel
theorem dX8_wayTold_62 : decode cX8_wayTold 62 = .ok (.aload_n 0, 1) := by decide +kernel
theorem dX8_wayTold_63 : decode cX8_wayTold 63 = .ok (.getfield 68, 3) := by decide +kernel
theorem dX8_wayTold_66 : decode cX8_wayTold 66 = .ok (.getfield 97, 3) := by decide +kernel
theorem dX8_wayTold_69 : decode cX8_wayTold 69 = .ok (.iload_n 1, 1) := by decide +kernel
theorem dX8_wayTold_70 : decode cX8_wayTold 70 = .ok (.iaload, 1) := by decide +kernel
theorem dX8_wayTold_71 : decode cX8_wayTold 71 = .ok (.ireturn, 1) := by decide +kernel
theorem dX8_wayTold_72 : decode cX8_wayTold 72 = .ok (.aload_n 0, 1) := by decide +kernel
theorem dX8_wayTold_73 : decode cX8_wayTold 73 = .ok (.getfield 68, 3) := by decide +kernel
theorem dX8_wayTold_76 : decode cX8_wayTold 76 = .ok (.getfield 100, 3) := by decide +kernel
theorem dX8_wayTold_79 : decode cX8_wayTold 79 = .ok (.iload_n 1, 1) := by decide +kernel
theorem dX8_wayTold_80 : decode cX8_wayTold 80 = .ok (.iaload, 1) := by decide +kernel
theorem dX8_wayTold_81 : decode cX8_wayTold 81 = .ok (.ireturn, 1) := by decide +kernel
theorem dX8_wayTold_82 : decode cX8_wayTold 82 = .ok (.aload_n 0, 1) := by decide +kernel
theorem dX8_wayTold_83 : decode cX8_wayTold 83 = .ok (.getfield 68, 3) := by decide +kernel
theorem dX8_wayTold_86 : decode cX8_wayTold 86 = .ok (.getfield 103, 3) := by decide +kernel
theorem dX8_wayTold_89 : decode cX8_wayTold 89 = .ok (.iload_n 1, 1) := by decide +kernel
theorem dX8_wayTold_90 : decode cX8_wayTold 90 = .ok (.iaload, 1) := by decide +kernel
theorem dX8_wayTold_91 : decode cX8_wayTold 91 = .ok (.ireturn, 1) := by decide +kernel
theorem dX8_wayTold_92 : decode cX8_wayTold 92 = .ok (.getstatic 106, 3) := by decide +kernel
theorem dX8_wayTold_95 : decode cX8_wayTold 95 = .ok (.aload_n 0, 1) := by decide +kernel
theorem dX8_wayTold_96 : decode cX8_wayTold 96 = .ok (.getfield 68, 3) := by decide +kernel
theorem dX8_wayTold_99 : decode cX8_wayTold 99 = .ok (.getfield 93, 3) := by decide +kernel
theorem dX8_wayTold_102 : decode cX8_wayTold 102 = .ok (.iload_n 1, 1) := by decide +kernel
theorem dX8_wayTold_103 : decode cX8_wayTold 103 = .ok (.iaload, 1) := by decide +kernel
theorem dX8_wayTold_104 : decode cX8_wayTold 104 = .ok (.iaload, 1) := by decide +kernel
theorem dX8_wayTold_105 : decode cX8_wayTold 105 = .ok (.ireturn, 1) := by decide +kernel
theorem dX8_wayTold_106 : decode cX8_wayTold 106 = .ok (.bipush (-2), 2) := by decide +kernel
theorem dX8_wayTold_108 : decode cX8_wayTold 108 = .ok (.ireturn, 1) := by decide +kernel
theorem dX8_ground_0 : decode cX8_ground 0 = .ok (.aload_n 0, 1) := by decide +kernel
theorem dX8_ground_1 : decode cX8_ground 1 = .ok (.getfield 68, 3) := by decide +kernel
theorem dX8_ground_4 : decode cX8_ground 4 = .ok (.iload_n 1, 1) := by decide +kernel
theorem dX8_ground_5 : decode cX8_ground 5 = .ok (.invokevirtual 109, 3) := by decide +kernel
theorem dX8_ground_8 : decode cX8_ground 8 = .ok (.ifCond .eq 12, 3) := by decide +kernel
theorem dX8_ground_11 : decode cX8_ground 11 = .ok (.iload_n 2, 1) := by decide +kernel
theorem dX8_ground_12 : decode cX8_ground 12 = .ok (.ifCond .lt 8, 3) := by decide +kernel
theorem dX8_ground_15 : decode cX8_ground 15 = .ok (.iload_n 2, 1) := by decide +kernel
theorem dX8_ground_16 : decode cX8_ground 16 = .ok (.iconst 4, 1) := by decide +kernel
theorem dX8_ground_17 : decode cX8_ground 17 = .ok (.if_icmp .lt 6, 3) := by decide +kernel
theorem dX8_ground_20 : decode cX8_ground 20 = .ok (.bipush (-2), 2) := by decide +kernel
theorem dX8_ground_22 : decode cX8_ground 22 = .ok (.ireturn, 1) := by decide +kernel
theorem dX8_ground_23 : decode cX8_ground 23 = .ok (.aload_n 0, 1) := by decide +kernel
theorem dX8_ground_24 : decode cX8_ground 24 = .ok (.getfield 68, 3) := by decide +kernel
theorem dX8_ground_27 : decode cX8_ground 27 = .ok (.getfield 113, 3) := by decide +kernel
theorem dX8_ground_30 : decode cX8_ground 30 = .ok (.iload_n 1, 1) := by decide +kernel
theorem dX8_ground_31 : decode cX8_ground 31 = .ok (.iaload, 1) := by decide +kernel
theorem dX8_ground_32 : decode cX8_ground 32 = .ok (.istore_n 3, 1) := by decide +kernel
theorem dX8_ground_33 : decode cX8_ground 33 = .ok (.aload_n 0, 1) := by decide +kernel
theorem dX8_ground_34 : decode cX8_ground 34 = .ok (.getfield 68, 3) := by decide +kernel
theorem dX8_ground_37 : decode cX8_ground 37 = .ok (.getfield 113, 3) := by decide +kernel
theorem dX8_ground_40 : decode cX8_ground 40 = .ok (.iload_n 1, 1) := by decide +kernel
theorem dX8_ground_41 : decode cX8_ground 41 = .ok (.iload_n 2, 1) := by decide +kernel
theorem dX8_ground_42 : decode cX8_ground 42 = .ok (.iastore, 1) := by decide +kernel
theorem dX8_ground_43 : decode cX8_ground 43 = .ok (.aload_n 0, 1) := by decide +kernel
theorem dX8_ground_44 : decode cX8_ground 44 = .ok (.invokevirtual 116, 3) := by decide +kernel
theorem dX8_ground_47 : decode cX8_ground 47 = .ok (.iload_n 3, 1) := by decide +kernel
theorem dX8_ground_48 : decode cX8_ground 48 = .ok (.ireturn, 1) := by decide +kernel
theorem dX8_tell_0 : decode cX8_tell 0 = .ok (.iload_n 1, 1) := by decide +kernel
theorem dX8_tell_1 : decode cX8_tell 1 = .ok (.ifCond .ne 32, 3) := by decide +kernel
theorem dX8_tell_4 : decode cX8_tell 4 = .ok (.iload_n 2, 1) := by decide +kernel
theorem dX8_tell_5 : decode cX8_tell 5 = .ok (.iconst 1, 1) := by decide +kernel
theorem dX8_tell_6 : decode cX8_tell 6 = .ok (.if_icmp .eq 8, 3) := by decide +kernel
theorem dX8_tell_9 : decode cX8_tell 9 = .ok (.iload_n 2, 1) := by decide +kernel
theorem dX8_tell_10 : decode cX8_tell 10 = .ok (.iconst 2, 1) := by decide +kernel
theorem dX8_tell_11 : decode cX8_tell 11 = .ok (.if_icmp .ne 22, 3) := by decide +kernel
theorem dX8_tell_14 : decode cX8_tell 14 = .ok (.aload_n 0, 1) := by decide +kernel
theorem dX8_tell_15 : decode cX8_tell 15 = .ok (.getfield 68, 3) := by decide +kernel
theorem dX8_tell_18 : decode cX8_tell 18 = .ok (.getfield 119, 3) := by decide +kernel
theorem dX8_tell_21 : decode cX8_tell 21 = .ok (.istore_n 3, 1) := by decide +kernel
theorem dX8_tell_22 : decode cX8_tell 22 = .ok (.aload_n 0, 1) := by decide +kernel
theorem dX8_tell_23 : decode cX8_tell 23 = .ok (.getfield 68, 3) := by decide +kernel
theorem dX8_tell_26 : decode cX8_tell 26 = .ok (.iload_n 2, 1) := by decide +kernel
theorem dX8_tell_27 : decode cX8_tell 27 = .ok (.putfield 119, 3) := by decide +kernel
theorem dX8_tell_30 : decode cX8_tell 30 = .ok (.goto 39, 3) := by decide +kernel
theorem dX8_tell_33 : decode cX8_tell 33 = .ok (.iload_n 1, 1) := by decide +kernel
theorem dX8_tell_34 : decode cX8_tell 34 = .ok (.iconst 1, 1) := by decide +kernel
theorem dX8_tell_35 : decode cX8_tell 35 = .ok (.if_icmp .ne 31, 3) := by decide +kernel
theorem dX8_tell_38 : decode cX8_tell 38 = .ok (.iload_n 2, 1) := by decide +kernel
theorem dX8_tell_39 : decode cX8_tell 39 = .ok (.ifCond .lt 27, 3) := by decide +kernel
theorem dX8_tell_42 : decode cX8_tell 42 = .ok (.iload_n 2, 1) := by decide +kernel
theorem dX8_tell_43 : decode cX8_tell 43 = .ok (.iconst 3, 1) := by decide +kernel
theorem dX8_tell_44 : decode cX8_tell 44 = .ok (.if_icmp .gt 22, 3) := by decide +kernel
theorem dX8_tell_47 : decode cX8_tell 47 = .ok (.aload_n 0, 1) := by decide +kernel
theorem dX8_tell_48 : decode cX8_tell 48 = .ok (.getfield 68, 3) := by decide +kernel
theorem dX8_tell_51 : decode cX8_tell 51 = .ok (.getfield 122, 3) := by decide +kernel
theorem dX8_tell_54 : decode cX8_tell 54 = .ok (.istore_n 3, 1) := by decide +kernel
theorem dX8_tell_55 : decode cX8_tell 55 = .ok (.aload_n 0, 1) := by decide +kernel
theorem dX8_tell_56 : decode cX8_tell 56 = .ok (.getfield 68, 3) := by decide +kernel
theorem dX8_tell_59 : decode cX8_tell 59 = .ok (.iload_n 2, 1) := by decide +kernel
theorem dX8_tell_60 : decode cX8_tell 60 = .ok (.putfield 122, 3) := by decide +kernel
theorem dX8_tell_63 : decode cX8_tell 63 = .ok (.goto 6, 3) := by decide +kernel
theorem dX8_tell_66 : decode cX8_tell 66 = .ok (.bipush (-2), 2) := by decide +kernel
theorem dX8_tell_68 : decode cX8_tell 68 = .ok (.ireturn, 1) := by decide +kernel
theorem dX8_tell_69 : decode cX8_tell 69 = .ok (.aload_n 0, 1) := by decide +kernel
theorem dX8_tell_70 : decode cX8_tell 70 = .ok (.invokevirtual 116, 3) := by decide +kernel
theorem dX8_tell_73 : decode cX8_tell 73 = .ok (.iload_n 3, 1) := by decide +kernel
theorem dX8_tell_74 : decode cX8_tell 74 = .ok (.ireturn, 1) := by decide +kernel
theorem dX8_planChanged_0 : decode cX8_planChanged 0 = .ok (.aload_n 0, 1) := by decide +kernel
theorem dX8_planChanged_1 : decode cX8_planChanged 1 = .ok (.getfield 68, 3) := by decide +kernel
theorem dX8_planChanged_4 : decode cX8_planChanged 4 = .ok (.dup, 1) := by decide +kernel
theorem dX8_planChanged_5 : decode cX8_planChanged 5 = .ok (.getfield 125, 3) := by decide +kernel
theorem dX8_planChanged_8 : decode cX8_planChanged 8 = .ok (.iconst 1, 1) := by decide +kernel
theorem dX8_planChanged_9 : decode cX8_planChanged 9 = .ok (.iadd, 1) := by decide +kernel
theorem dX8_planChanged_10 : decode cX8_planChanged 10 = .ok (.putfield 125, 3) := by decide +kernel
theorem dX8_planChanged_13 : decode cX8_planChanged 13 = .ok (.aload_n 0, 1) := by decide +kernel
theorem dX8_planChanged_14 : decode cX8_planChanged 14 = .ok (.getfield 33, 3) := by decide +kernel
theorem dX8_planChanged_17 : decode cX8_planChanged 17 = .ok (.iconst 0, 1) := by decide +kernel
theorem dX8_planChanged_18 : decode cX8_planChanged 18 = .ok (.putfield 80, 3) := by decide +kernel
theorem dX8_planChanged_21 : decode cX8_planChanged 21 = .ok (.return_, 1) := by decide +kernel
theorem dX8_length_0 : decode cX8_length 0 = .ok (.aload_n 0, 1) := by decide +kernel
theorem dX8_length_1 : decode cX8_length 1 = .ok (.iload_n 1, 1) := by decide +kernel
theorem dX8_length_2 : decode cX8_length 2 = .ok (.iload_n 2, 1) := by decide +kernel
theorem dX8_length_3 : decode cX8_length 3 = .ok (.iload_n 3, 1) := by decide +kernel
theorem dX8_length_4 : decode cX8_length 4 = .ok (.iload 4, 2) := by decide +kernel
theorem dX8_length_6 : decode cX8_length 6 = .ok (.iload 5, 2) := by decide +kernel
theorem dX8_length_8 : decode cX8_length 8 = .ok (.invokevirtual 128, 3) := by decide +kernel
theorem dX8_length_11 : decode cX8_length 11 = .ok (.istore 6, 2) := by decide +kernel
theorem dX8_length_13 : decode cX8_length 13 = .ok (.iload 6, 2) := by decide +kernel
theorem dX8_length_15 : decode cX8_length 15 = .ok (.ifCond .ge 8, 3) := by decide +kernel
theorem dX8_length_18 : decode cX8_length 18 = .ok (.bipush (-2), 2) := by decide +kernel
theorem dX8_length_20 : decode cX8_length 20 = .ok (.goto 13, 3) := by decide +kernel
theorem dX8_length_23 : decode cX8_length 23 = .ok (.aload_n 0, 1) := by decide +kernel
theorem dX8_length_24 : decode cX8_length 24 = .ok (.invokevirtual 132, 3) := by decide +kernel
theorem dX8_length_27 : decode cX8_length 27 = .ok (.getfield 136, 3) := by decide +kernel
theorem dX8_length_30 : decode cX8_length 30 = .ok (.iload 6, 2) := by decide +kernel
theorem dX8_length_32 : decode cX8_length 32 = .ok (.iaload, 1) := by decide +kernel
theorem dX8_length_33 : decode cX8_length 33 = .ok (.ireturn, 1) := by decide +kernel
theorem dX8_best_0 : decode cX8_best 0 = .ok (.aload_n 0, 1) := by decide +kernel
theorem dX8_best_1 : decode cX8_best 1 = .ok (.iload_n 1, 1) := by decide +kernel
theorem dX8_best_2 : decode cX8_best 2 = .ok (.iload_n 2, 1) := by decide +kernel
theorem dX8_best_3 : decode cX8_best 3 = .ok (.iload_n 3, 1) := by decide +kernel
theorem dX8_best_4 : decode cX8_best 4 = .ok (.iload 4, 2) := by decide +kernel
theorem dX8_best_6 : decode cX8_best 6 = .ok (.iload 5, 2) := by decide +kernel
theorem dX8_best_8 : decode cX8_best 8 = .ok (.invokevirtual 128, 3) := by decide +kernel
theorem dX8_best_11 : decode cX8_best 11 = .ok (.istore 6, 2) := by decide +kernel
theorem dX8_best_13 : decode cX8_best 13 = .ok (.iload 6, 2) := by decide +kernel
theorem dX8_best_15 : decode cX8_best 15 = .ok (.ifCond .ge 8, 3) := by decide +kernel
theorem dX8_best_18 : decode cX8_best 18 = .ok (.bipush (-2), 2) := by decide +kernel
theorem dX8_best_20 : decode cX8_best 20 = .ok (.goto 12, 3) := by decide +kernel
theorem dX8_best_23 : decode cX8_best 23 = .ok (.aload_n 0, 1) := by decide +kernel
theorem dX8_best_24 : decode cX8_best 24 = .ok (.invokevirtual 132, 3) := by decide +kernel
theorem dX8_best_27 : decode cX8_best 27 = .ok (.iload 6, 2) := by decide +kernel
theorem dX8_best_29 : decode cX8_best 29 = .ok (.invokevirtual 139, 3) := by decide +kernel
theorem dX8_best_32 : decode cX8_best 32 = .ok (.ireturn, 1) := by decide +kernel
theorem dX8_moves_0 : decode cX8_moves 0 = .ok (.aload_n 0, 1) := by decide +kernel
theorem dX8_moves_1 : decode cX8_moves 1 = .ok (.iload_n 1, 1) := by decide +kernel
theorem dX8_moves_2 : decode cX8_moves 2 = .ok (.iload_n 2, 1) := by decide +kernel
theorem dX8_moves_3 : decode cX8_moves 3 = .ok (.iload_n 3, 1) := by decide +kernel
theorem dX8_moves_4 : decode cX8_moves 4 = .ok (.iload 4, 2) := by decide +kernel
theorem dX8_moves_6 : decode cX8_moves 6 = .ok (.iload 5, 2) := by decide +kernel
theorem dX8_moves_8 : decode cX8_moves 8 = .ok (.invokevirtual 128, 3) := by decide +kernel
theorem dX8_moves_11 : decode cX8_moves 11 = .ok (.istore 6, 2) := by decide +kernel
theorem dX8_moves_13 : decode cX8_moves 13 = .ok (.iload 6, 2) := by decide +kernel
theorem dX8_moves_15 : decode cX8_moves 15 = .ok (.ifCond .ge 8, 3) := by decide +kernel
theorem dX8_moves_18 : decode cX8_moves 18 = .ok (.bipush (-2), 2) := by decide +kernel
theorem dX8_moves_20 : decode cX8_moves 20 = .ok (.goto 12, 3) := by decide +kernel
theorem dX8_moves_23 : decode cX8_moves 23 = .ok (.aload_n 0, 1) := by decide +kernel
theorem dX8_moves_24 : decode cX8_moves 24 = .ok (.invokevirtual 132, 3) := by decide +kernel
theorem dX8_moves_27 : decode cX8_moves 27 = .ok (.iload 6, 2) := by decide +kernel
theorem dX8_moves_29 : decode cX8_moves 29 = .ok (.invokevirtual 143, 3) := by decide +kernel
theorem dX8_moves_32 : decode cX8_moves 32 = .ok (.ireturn, 1) := by decide +kernel
theorem dX8_solved_0 : decode cX8_solved 0 = .ok (.iload_n 1, 1) := by decide +kernel
theorem dX8_solved_1 : decode cX8_solved 1 = .ok (.tableswitch 51 0 2 #[27, 35, 43], 27) := by decide +kernel
theorem dX8_solved_28 : decode cX8_solved 28 = .ok (.aload_n 0, 1) := by decide +kernel
theorem dX8_solved_29 : decode cX8_solved 29 = .ok (.invokevirtual 132, 3) := by decide +kernel
theorem dX8_solved_32 : decode cX8_solved 32 = .ok (.getfield 146, 3) := by decide +kernel
theorem dX8_solved_35 : decode cX8_solved 35 = .ok (.ireturn, 1) := by decide +kernel
theorem dX8_solved_36 : decode cX8_solved 36 = .ok (.aload_n 0, 1) := by decide +kernel
theorem dX8_solved_37 : decode cX8_solved 37 = .ok (.invokevirtual 132, 3) := by decide +kernel
theorem dX8_solved_40 : decode cX8_solved 40 = .ok (.getfield 149, 3) := by decide +kernel
theorem dX8_solved_43 : decode cX8_solved 43 = .ok (.ireturn, 1) := by decide +kernel
theorem dX8_solved_44 : decode cX8_solved 44 = .ok (.aload_n 0, 1) := by decide +kernel
theorem dX8_solved_45 : decode cX8_solved 45 = .ok (.invokevirtual 132, 3) := by decide +kernel
theorem dX8_solved_48 : decode cX8_solved 48 = .ok (.getfield 152, 3) := by decide +kernel
theorem dX8_solved_51 : decode cX8_solved 51 = .ok (.ireturn, 1) := by decide +kernel
theorem dX8_solved_52 : decode cX8_solved 52 = .ok (.bipush (-2), 2) := by decide +kernel
theorem dX8_solved_54 : decode cX8_solved 54 = .ok (.ireturn, 1) := by decide +kernel
theorem dX8_puzzle_0 : decode cX8_puzzle 0 = .ok (.iload_n 1, 1) := by decide +kernel
theorem dX8_puzzle_1 : decode cX8_puzzle 1 = .ok (.iconst 1, 1) := by decide +kernel
theorem dX8_puzzle_2 : decode cX8_puzzle 2 = .ok (.if_icmp .lt 10, 3) := by decide +kernel
theorem dX8_puzzle_5 : decode cX8_puzzle 5 = .ok (.iload_n 1, 1) := by decide +kernel
theorem dX8_puzzle_6 : decode cX8_puzzle 6 = .ok (.sipush 999, 3) := by decide +kernel
theorem dX8_puzzle_9 : decode cX8_puzzle 9 = .ok (.if_icmp .le 6, 3) := by decide +kernel
theorem dX8_puzzle_12 : decode cX8_puzzle 12 = .ok (.bipush (-2), 2) := by decide +kernel
theorem dX8_puzzle_14 : decode cX8_puzzle 14 = .ok (.ireturn, 1) := by decide +kernel
theorem dX8_puzzle_15 : decode cX8_puzzle 15 = .ok (.iload_n 2, 1) := by decide +kernel
theorem dX8_puzzle_16 : decode cX8_puzzle 16 = .ok (.iconst (-1), 1) := by decide +kernel
theorem dX8_puzzle_17 : decode cX8_puzzle 17 = .ok (.if_icmp .ge 5, 3) := by decide +kernel
theorem dX8_puzzle_20 : decode cX8_puzzle 20 = .ok (.iconst (-1), 1) := by decide +kernel
theorem dX8_puzzle_21 : decode cX8_puzzle 21 = .ok (.ireturn, 1) := by decide +kernel
theorem dX8_puzzle_22 : decode cX8_puzzle 22 = .ok (.iload_n 2, 1) := by decide +kernel
theorem dX8_puzzle_23 : decode cX8_puzzle 23 = .ok (.iconst (-1), 1) := by decide +kernel
theorem dX8_puzzle_24 : decode cX8_puzzle 24 = .ok (.if_icmp .ne 14, 3) := by decide +kernel
theorem dX8_puzzle_27 : decode cX8_puzzle 27 = .ok (.aload_n 0, 1) := by decide +kernel
theorem dX8_puzzle_28 : decode cX8_puzzle 28 = .ok (.invokevirtual 132, 3) := by decide +kernel
theorem dX8_puzzle_31 : decode cX8_puzzle 31 = .ok (.iload_n 1, 1) := by decide +kernel
theorem dX8_puzzle_32 : decode cX8_puzzle 32 = .ok (.invokevirtual 155, 3) := by decide +kernel
theorem dX8_puzzle_35 : decode cX8_puzzle 35 = .ok (.goto 12, 3) := by decide +kernel
theorem dX8_puzzle_38 : decode cX8_puzzle 38 = .ok (.aload_n 0, 1) := by decide +kernel
theorem dX8_puzzle_39 : decode cX8_puzzle 39 = .ok (.invokevirtual 132, 3) := by decide +kernel
theorem dX8_puzzle_42 : decode cX8_puzzle 42 = .ok (.iload_n 1, 1) := by decide +kernel
theorem dX8_puzzle_43 : decode cX8_puzzle 43 = .ok (.iload_n 2, 1) := by decide +kernel
theorem dX8_puzzle_44 : decode cX8_puzzle 44 = .ok (.invokevirtual 158, 3) := by decide +kernel
theorem dX8_puzzle_47 : decode cX8_puzzle 47 = .ok (.ireturn, 1) := by decide +kernel
theorem dX8_solvedStandings_0 : decode cX8_solvedStandings 0 = .ok (.aload_n 0, 1) := by decide +kernel
theorem dX8_solvedStandings_1 : decode cX8_solvedStandings 1 = .ok (.getfield 12, 3) := by decide +kernel
theorem dX8_solvedStandings_4 : decode cX8_solvedStandings 4 = .ok (.getfield 161, 3) := by decide +kernel
theorem dX8_solvedStandings_7 : decode cX8_solvedStandings 7 = .ok (.aload_n 0, 1) := by decide +kernel
theorem dX8_solvedStandings_8 : decode cX8_solvedStandings 8 = .ok (.getfield 68, 3) := by decide +kernel
theorem dX8_solvedStandings_11 : decode cX8_solvedStandings 11 = .ok (.if_acmp .ne 20, 3) := by decide +kernel
theorem dX8_solvedStandings_14 : decode cX8_solvedStandings 14 = .ok (.aload_n 0, 1) := by decide +kernel
theorem dX8_solvedStandings_15 : decode cX8_solvedStandings 15 = .ok (.getfield 12, 3) := by decide +kernel
theorem dX8_solvedStandings_18 : decode cX8_solvedStandings 18 = .ok (.getfield 162, 3) := by decide +kernel
theorem dX8_solvedStandings_21 : decode cX8_solvedStandings 21 = .ok (.aload_n 0, 1) := by decide +kernel
theorem dX8_solvedStandings_22 : decode cX8_solvedStandings 22 = .ok (.getfield 68, 3) := by decide +kernel
theorem dX8_solvedStandings_25 : decode cX8_solvedStandings 25 = .ok (.getfield 125, 3) := by decide +kernel
theorem dX8_solvedStandings_28 : decode cX8_solvedStandings 28 = .ok (.if_icmp .eq 14, 3) := by decide +kernel
theorem dX8_solvedStandings_31 : decode cX8_solvedStandings 31 = .ok (.aload_n 0, 1) := by decide +kernel
theorem dX8_solvedStandings_32 : decode cX8_solvedStandings 32 = .ok (.getfield 12, 3) := by decide +kernel
theorem dX8_solvedStandings_35 : decode cX8_solvedStandings 35 = .ok (.aload_n 0, 1) := by decide +kernel
theorem dX8_solvedStandings_36 : decode cX8_solvedStandings 36 = .ok (.getfield 68, 3) := by decide +kernel
theorem dX8_solvedStandings_39 : decode cX8_solvedStandings 39 = .ok (.invokevirtual 163, 3) := by decide +kernel
theorem dX8_solvedStandings_42 : decode cX8_solvedStandings 42 = .ok (.aload_n 0, 1) := by decide +kernel
theorem dX8_solvedStandings_43 : decode cX8_solvedStandings 43 = .ok (.getfield 12, 3) := by decide +kernel
theorem dX8_solvedStandings_46 : decode cX8_solvedStandings 46 = .ok (.areturn, 1) := by decide +kernel
theorem dX8_standingOf_0 : decode cX8_standingOf 0 = .ok (.aload_n 0, 1) := by decide +kernel
theorem dX8_standingOf_1 : decode cX8_standingOf 1 = .ok (.getfield 68, 3) := by decide +kernel
theorem dX8_standingOf_4 : decode cX8_standingOf 4 = .ok (.iload_n 1, 1) := by decide +kernel
theorem dX8_standingOf_5 : decode cX8_standingOf 5 = .ok (.iload_n 2, 1) := by decide +kernel
theorem dX8_standingOf_6 : decode cX8_standingOf 6 = .ok (.invokevirtual 167, 3) := by decide +kernel
theorem dX8_standingOf_9 : decode cX8_standingOf 9 = .ok (.istore 6, 2) := by decide +kernel
theorem dX8_standingOf_11 : decode cX8_standingOf 11 = .ok (.iload 6, 2) := by decide +kernel
theorem dX8_standingOf_13 : decode cX8_standingOf 13 = .ok (.ifCond .lt 42, 3) := by decide +kernel
theorem dX8_standingOf_16 : decode cX8_standingOf 16 = .ok (.aload_n 0, 1) := by decide +kernel
theorem dX8_standingOf_17 : decode cX8_standingOf 17 = .ok (.getfield 68, 3) := by decide +kernel
theorem dX8_standingOf_20 : decode cX8_standingOf 20 = .ok (.iload_n 3, 1) := by decide +kernel
theorem dX8_standingOf_21 : decode cX8_standingOf 21 = .ok (.invokevirtual 109, 3) := by decide +kernel
theorem dX8_standingOf_24 : decode cX8_standingOf 24 = .ok (.ifCond .eq 31, 3) := by decide +kernel
theorem dX8_standingOf_27 : decode cX8_standingOf 27 = .ok (.iload 4, 2) := by decide +kernel
theorem dX8_standingOf_29 : decode cX8_standingOf 29 = .ok (.ifCond .lt 26, 3) := by decide +kernel
theorem dX8_standingOf_32 : decode cX8_standingOf 32 = .ok (.iload 4, 2) := by decide +kernel
theorem dX8_standingOf_34 : decode cX8_standingOf 34 = .ok (.iconst 1, 1) := by decide +kernel
theorem dX8_standingOf_35 : decode cX8_standingOf 35 = .ok (.if_icmp .gt 20, 3) := by decide +kernel
theorem dX8_standingOf_38 : decode cX8_standingOf 38 = .ok (.iload 5, 2) := by decide +kernel
theorem dX8_standingOf_40 : decode cX8_standingOf 40 = .ok (.ifCond .lt 15, 3) := by decide +kernel
theorem dX8_standingOf_43 : decode cX8_standingOf 43 = .ok (.iload 5, 2) := by decide +kernel
theorem dX8_standingOf_45 : decode cX8_standingOf 45 = .ok (.aload_n 0, 1) := by decide +kernel
theorem dX8_standingOf_46 : decode cX8_standingOf 46 = .ok (.getfield 68, 3) := by decide +kernel
theorem dX8_standingOf_49 : decode cX8_standingOf 49 = .ok (.invokevirtual 170, 3) := by decide +kernel
theorem dX8_standingOf_52 : decode cX8_standingOf 52 = .ok (.if_icmp .lt 5, 3) := by decide +kernel
theorem dX8_standingOf_55 : decode cX8_standingOf 55 = .ok (.iconst (-1), 1) := by decide +kernel
theorem dX8_standingOf_56 : decode cX8_standingOf 56 = .ok (.ireturn, 1) := by decide +kernel
theorem dX8_standingOf_57 : decode cX8_standingOf 57 = .ok (.iload 5, 2) := by decide +kernel
theorem dX8_standingOf_59 : decode cX8_standingOf 59 = .ok (.sipush 1024, 3) := by decide +kernel
theorem dX8_standingOf_62 : decode cX8_standingOf 62 = .ok (.imul, 1) := by decide +kernel
theorem dX8_standingOf_63 : decode cX8_standingOf 63 = .ok (.iload 4, 2) := by decide +kernel
theorem dX8_standingOf_65 : decode cX8_standingOf 65 = .ok (.sipush 512, 3) := by decide +kernel
theorem dX8_standingOf_68 : decode cX8_standingOf 68 = .ok (.imul, 1) := by decide +kernel
theorem dX8_standingOf_69 : decode cX8_standingOf 69 = .ok (.iadd, 1) := by decide +kernel
theorem dX8_standingOf_70 : decode cX8_standingOf 70 = .ok (.iload 6, 2) := by decide +kernel
theorem dX8_standingOf_72 : decode cX8_standingOf 72 = .ok (.bipush 8, 2) := by decide +kernel
theorem dX8_standingOf_74 : decode cX8_standingOf 74 = .ok (.imul, 1) := by decide +kernel
theorem dX8_standingOf_75 : decode cX8_standingOf 75 = .ok (.iadd, 1) := by decide +kernel
theorem dX8_standingOf_76 : decode cX8_standingOf 76 = .ok (.iload_n 3, 1) := by decide +kernel
theorem dX8_standingOf_77 : decode cX8_standingOf 77 = .ok (.iadd, 1) := by decide +kernel
theorem dX8_standingOf_78 : decode cX8_standingOf 78 = .ok (.ireturn, 1) := by decide +kernel
theorem dX8_turnings_0 : decode cX8_turnings 0 = .ok (.aload_n 0, 1) := by decide +kernel
theorem dX8_turnings_1 : decode cX8_turnings 1 = .ok (.getfield 19, 3) := by decide +kernel
theorem dX8_turnings_4 : decode cX8_turnings 4 = .ok (.aload_n 0, 1) := by decide +kernel
theorem dX8_turnings_5 : decode cX8_turnings 5 = .ok (.getfield 68, 3) := by decide +kernel
theorem dX8_turnings_8 : decode cX8_turnings 8 = .ok (.invokevirtual 174, 3) := by decide +kernel
theorem dX8_turnings_11 : decode cX8_turnings 11 = .ok (.ireturn, 1) := by decide +kernel
theorem dX8_alike_0 : decode cX8_alike 0 = .ok (.aload_n 0, 1) := by decide +kernel
theorem dX8_alike_1 : decode cX8_alike 1 = .ok (.getfield 68, 3) := by decide +kernel
theorem dX8_alike_4 : decode cX8_alike 4 = .ok (.iload_n 1, 1) := by decide +kernel
theorem dX8_alike_5 : decode cX8_alike 5 = .ok (.iload_n 2, 1) := by decide +kernel
theorem dX8_alike_6 : decode cX8_alike 6 = .ok (.invokevirtual 167, 3) := by decide +kernel
theorem dX8_alike_9 : decode cX8_alike 9 = .ok (.istore 4, 2) := by decide +kernel
theorem dX8_alike_11 : decode cX8_alike 11 = .ok (.iload 4, 2) := by decide +kernel
theorem dX8_alike_13 : decode cX8_alike 13 = .ok (.ifCond .lt 14, 3) := by decide +kernel
theorem dX8_alike_16 : decode cX8_alike 16 = .ok (.aload_n 0, 1) := by decide +kernel
theorem dX8_alike_17 : decode cX8_alike 17 = .ok (.getfield 68, 3) := by decide +kernel
theorem dX8_alike_20 : decode cX8_alike 20 = .ok (.iload_n 3, 1) := by decide +kernel
theorem dX8_alike_21 : decode cX8_alike 21 = .ok (.invokevirtual 109, 3) := by decide +kernel
theorem dX8_alike_24 : decode cX8_alike 24 = .ok (.ifCond .ne 6, 3) := by decide +kernel
theorem dX8_alike_27 : decode cX8_alike 27 = .ok (.bipush (-2), 2) := by decide +kernel
theorem dX8_alike_29 : decode cX8_alike 29 = .ok (.ireturn, 1) := by decide +kernel
theorem dX8_alike_30 : decode cX8_alike 30 = .ok (.aload_n 0, 1) := by decide +kernel
theorem dX8_alike_31 : decode cX8_alike 31 = .ok (.getfield 19, 3) := by decide +kernel
theorem dX8_alike_34 : decode cX8_alike 34 = .ok (.aload_n 0, 1) := by decide +kernel
theorem dX8_alike_35 : decode cX8_alike 35 = .ok (.getfield 68, 3) := by decide +kernel
theorem dX8_alike_38 : decode cX8_alike 38 = .ok (.iload 4, 2) := by decide +kernel
theorem dX8_alike_40 : decode cX8_alike 40 = .ok (.iload_n 3, 1) := by decide +kernel
theorem dX8_alike_41 : decode cX8_alike 41 = .ok (.invokevirtual 178, 3) := by decide +kernel
theorem dX8_alike_44 : decode cX8_alike 44 = .ok (.ireturn, 1) := by decide +kernel
theorem dX8_fairer_0 : decode cX8_fairer 0 = .ok (.aload_n 0, 1) := by decide +kernel
theorem dX8_fairer_1 : decode cX8_fairer 1 = .ok (.getfield 68, 3) := by decide +kernel
theorem dX8_fairer_4 : decode cX8_fairer 4 = .ok (.getfield 182, 3) := by decide +kernel
theorem dX8_fairer_7 : decode cX8_fairer 7 = .ok (.ifCond .le 6, 3) := by decide +kernel
theorem dX8_fairer_10 : decode cX8_fairer 10 = .ok (.bipush (-3), 2) := by decide +kernel
theorem dX8_fairer_12 : decode cX8_fairer 12 = .ok (.ireturn, 1) := by decide +kernel
theorem dX8_fairer_13 : decode cX8_fairer 13 = .ok (.aload_n 0, 1) := by decide +kernel
theorem dX8_fairer_14 : decode cX8_fairer 14 = .ok (.getfield 54, 3) := by decide +kernel
theorem dX8_fairer_17 : decode cX8_fairer 17 = .ok (.aload_n 0, 1) := by decide +kernel
theorem dX8_fairer_18 : decode cX8_fairer 18 = .ok (.getfield 68, 3) := by decide +kernel
theorem dX8_fairer_21 : decode cX8_fairer 21 = .ok (.getfield 125, 3) := by decide +kernel
theorem dX8_fairer_24 : decode cX8_fairer 24 = .ok (.if_icmp .eq 22, 3) := by decide +kernel
theorem dX8_fairer_27 : decode cX8_fairer 27 = .ok (.aload_n 0, 1) := by decide +kernel
theorem dX8_fairer_28 : decode cX8_fairer 28 = .ok (.aload_n 0, 1) := by decide +kernel
theorem dX8_fairer_29 : decode cX8_fairer 29 = .ok (.invokevirtual 185, 3) := by decide +kernel
theorem dX8_fairer_32 : decode cX8_fairer 32 = .ok (.putfield 50, 3) := by decide +kernel
theorem dX8_fairer_35 : decode cX8_fairer 35 = .ok (.aload_n 0, 1) := by decide +kernel
theorem dX8_fairer_36 : decode cX8_fairer 36 = .ok (.aload_n 0, 1) := by decide +kernel
theorem dX8_fairer_37 : decode cX8_fairer 37 = .ok (.getfield 68, 3) := by decide +kernel
theorem dX8_fairer_40 : decode cX8_fairer 40 = .ok (.getfield 125, 3) := by decide +kernel
theorem dX8_fairer_43 : decode cX8_fairer 43 = .ok (.putfield 54, 3) := by decide +kernel
theorem dX8_fairer_46 : decode cX8_fairer 46 = .ok (.aload_n 0, 1) := by decide +kernel
theorem dX8_fairer_47 : decode cX8_fairer 47 = .ok (.getfield 50, 3) := by decide +kernel
theorem dX8_fairer_50 : decode cX8_fairer 50 = .ok (.ireturn, 1) := by decide +kernel
theorem dX8_fairestChange_0 : decode cX8_fairestChange 0 = .ok (.iconst (-1), 1) := by decide +kernel
theorem dX8_fairestChange_1 : decode cX8_fairestChange 1 = .ok (.istore_n 1, 1) := by decide +kernel
theorem dX8_fairestChange_2 : decode cX8_fairestChange 2 = .ok (.ldc 188, 2) := by decide +kernel
theorem dX8_fairestChange_4 : decode cX8_fairestChange 4 = .ok (.istore_n 2, 1) := by decide +kernel
theorem dX8_fairestChange_5 : decode cX8_fairestChange 5 = .ok (.iconst 0, 1) := by decide +kernel
theorem dX8_fairestChange_6 : decode cX8_fairestChange 6 = .ok (.istore_n 3, 1) := by decide +kernel
theorem dX8_fairestChange_7 : decode cX8_fairestChange 7 = .ok (.iload_n 3, 1) := by decide +kernel
theorem dX8_fairestChange_8 : decode cX8_fairestChange 8 = .ok (.aload_n 0, 1) := by decide +kernel
theorem dX8_fairestChange_9 : decode cX8_fairestChange 9 = .ok (.getfield 68, 3) := by decide +kernel
theorem dX8_fairestChange_12 : decode cX8_fairestChange 12 = .ok (.getfield 87, 3) := by decide +kernel
theorem dX8_fairestChange_15 : decode cX8_fairestChange 15 = .ok (.if_icmp .ge 55, 3) := by decide +kernel
theorem dX8_fairestChange_18 : decode cX8_fairestChange 18 = .ok (.aload_n 0, 1) := by decide +kernel
theorem dX8_fairestChange_19 : decode cX8_fairestChange 19 = .ok (.getfield 72, 3) := by decide +kernel
theorem dX8_fairestChange_22 : decode cX8_fairestChange 22 = .ok (.aload_n 0, 1) := by decide +kernel
theorem dX8_fairestChange_23 : decode cX8_fairestChange 23 = .ok (.getfield 68, 3) := by decide +kernel
theorem dX8_fairestChange_26 : decode cX8_fairestChange 26 = .ok (.iload_n 3, 1) := by decide +kernel
theorem dX8_fairestChange_27 : decode cX8_fairestChange 27 = .ok (.invokevirtual 189, 3) := by decide +kernel
theorem dX8_fairestChange_30 : decode cX8_fairestChange 30 = .ok (.aload_n 0, 1) := by decide +kernel
theorem dX8_fairestChange_31 : decode cX8_fairestChange 31 = .ok (.getfield 12, 3) := by decide +kernel
theorem dX8_fairestChange_34 : decode cX8_fairestChange 34 = .ok (.aload_n 0, 1) := by decide +kernel
theorem dX8_fairestChange_35 : decode cX8_fairestChange 35 = .ok (.getfield 72, 3) := by decide +kernel
theorem dX8_fairestChange_38 : decode cX8_fairestChange 38 = .ok (.invokevirtual 163, 3) := by decide +kernel
theorem dX8_fairestChange_41 : decode cX8_fairestChange 41 = .ok (.aload_n 0, 1) := by decide +kernel
theorem dX8_fairestChange_42 : decode cX8_fairestChange 42 = .ok (.getfield 12, 3) := by decide +kernel
theorem dX8_fairestChange_45 : decode cX8_fairestChange 45 = .ok (.invokevirtual 193, 3) := by decide +kernel
theorem dX8_fairestChange_48 : decode cX8_fairestChange 48 = .ok (.istore 4, 2) := by decide +kernel
theorem dX8_fairestChange_50 : decode cX8_fairestChange 50 = .ok (.iload 4, 2) := by decide +kernel
theorem dX8_fairestChange_52 : decode cX8_fairestChange 52 = .ok (.iload_n 2, 1) := by decide +kernel
theorem dX8_fairestChange_53 : decode cX8_fairestChange 53 = .ok (.if_icmp .ge 11, 3) := by decide +kernel
theorem dX8_fairestChange_56 : decode cX8_fairestChange 56 = .ok (.iload 4, 2) := by decide +kernel
theorem dX8_fairestChange_58 : decode cX8_fairestChange 58 = .ok (.istore_n 2, 1) := by decide +kernel
theorem dX8_fairestChange_59 : decode cX8_fairestChange 59 = .ok (.bipush 100, 2) := by decide +kernel
theorem dX8_fairestChange_61 : decode cX8_fairestChange 61 = .ok (.iload_n 3, 1) := by decide +kernel
theorem dX8_fairestChange_62 : decode cX8_fairestChange 62 = .ok (.iadd, 1) := by decide +kernel
theorem dX8_fairestChange_63 : decode cX8_fairestChange 63 = .ok (.istore_n 1, 1) := by decide +kernel
theorem dX8_fairestChange_64 : decode cX8_fairestChange 64 = .ok (.iinc 3 1, 3) := by decide +kernel
theorem dX8_fairestChange_67 : decode cX8_fairestChange 67 = .ok (.goto (-60), 3) := by decide +kernel
theorem dX8_fairestChange_70 : decode cX8_fairestChange 70 = .ok (.iconst 0, 1) := by decide +kernel
theorem dX8_fairestChange_71 : decode cX8_fairestChange 71 = .ok (.istore_n 3, 1) := by decide +kernel
theorem dX8_fairestChange_72 : decode cX8_fairestChange 72 = .ok (.iload_n 3, 1) := by decide +kernel
theorem dX8_fairestChange_73 : decode cX8_fairestChange 73 = .ok (.aload_n 0, 1) := by decide +kernel
theorem dX8_fairestChange_74 : decode cX8_fairestChange 74 = .ok (.getfield 68, 3) := by decide +kernel
theorem dX8_fairestChange_77 : decode cX8_fairestChange 77 = .ok (.getfield 196, 3) := by decide +kernel
theorem dX8_fairestChange_80 : decode cX8_fairestChange 80 = .ok (.if_icmp .ge 129, 3) := by decide +kernel
theorem dX8_fairestChange_83 : decode cX8_fairestChange 83 = .ok (.aload_n 0, 1) := by decide +kernel
theorem dX8_fairestChange_84 : decode cX8_fairestChange 84 = .ok (.getfield 68, 3) := by decide +kernel
theorem dX8_fairestChange_87 : decode cX8_fairestChange 87 = .ok (.getfield 87, 3) := by decide +kernel
theorem dX8_fairestChange_90 : decode cX8_fairestChange 90 = .ok (.bipush 16, 2) := by decide +kernel
theorem dX8_fairestChange_92 : decode cX8_fairestChange 92 = .ok (.if_icmp .ge 117, 3) := by decide +kernel
theorem dX8_fairestChange_95 : decode cX8_fairestChange 95 = .ok (.iload_n 3, 1) := by decide +kernel
theorem dX8_fairestChange_96 : decode cX8_fairestChange 96 = .ok (.iconst 1, 1) := by decide +kernel
theorem dX8_fairestChange_97 : decode cX8_fairestChange 97 = .ok (.iadd, 1) := by decide +kernel
theorem dX8_fairestChange_98 : decode cX8_fairestChange 98 = .ok (.istore 4, 2) := by decide +kernel
theorem dX8_fairestChange_100 : decode cX8_fairestChange 100 = .ok (.iload 4, 2) := by decide +kernel
theorem dX8_fairestChange_102 : decode cX8_fairestChange 102 = .ok (.aload_n 0, 1) := by decide +kernel
theorem dX8_fairestChange_103 : decode cX8_fairestChange 103 = .ok (.getfield 68, 3) := by decide +kernel
theorem dX8_fairestChange_106 : decode cX8_fairestChange 106 = .ok (.getfield 196, 3) := by decide +kernel
theorem dX8_fairestChange_109 : decode cX8_fairestChange 109 = .ok (.if_icmp .ge 94, 3) := by decide +kernel
theorem dX8_fairestChange_112 : decode cX8_fairestChange 112 = .ok (.aload_n 0, 1) := by decide +kernel
theorem dX8_fairestChange_113 : decode cX8_fairestChange 113 = .ok (.getfield 68, 3) := by decide +kernel
theorem dX8_fairestChange_116 : decode cX8_fairestChange 116 = .ok (.getfield 199, 3) := by decide +kernel
theorem dX8_fairestChange_119 : decode cX8_fairestChange 119 = .ok (.iload_n 3, 1) := by decide +kernel
theorem dX8_fairestChange_120 : decode cX8_fairestChange 120 = .ok (.iaload, 1) := by decide +kernel
theorem dX8_fairestChange_121 : decode cX8_fairestChange 121 = .ok (.iload 4, 2) := by decide +kernel
theorem dX8_fairestChange_123 : decode cX8_fairestChange 123 = .ok (.ishr, 1) := by decide +kernel
theorem dX8_fairestChange_124 : decode cX8_fairestChange 124 = .ok (.iconst 1, 1) := by decide +kernel
theorem dX8_fairestChange_125 : decode cX8_fairestChange 125 = .ok (.iand, 1) := by decide +kernel
theorem dX8_fairestChange_126 : decode cX8_fairestChange 126 = .ok (.ifCond .eq 6, 3) := by decide +kernel
theorem dX8_fairestChange_129 : decode cX8_fairestChange 129 = .ok (.goto 68, 3) := by decide +kernel
theorem dX8_fairestChange_132 : decode cX8_fairestChange 132 = .ok (.aload_n 0, 1) := by decide +kernel
theorem dX8_fairestChange_133 : decode cX8_fairestChange 133 = .ok (.getfield 72, 3) := by decide +kernel
theorem dX8_fairestChange_136 : decode cX8_fairestChange 136 = .ok (.aload_n 0, 1) := by decide +kernel
theorem dX8_fairestChange_137 : decode cX8_fairestChange 137 = .ok (.getfield 68, 3) := by decide +kernel
theorem dX8_fairestChange_140 : decode cX8_fairestChange 140 = .ok (.iconst (-1), 1) := by decide +kernel
theorem dX8_fairestChange_141 : decode cX8_fairestChange 141 = .ok (.invokevirtual 189, 3) := by decide +kernel
theorem dX8_fairestChange_144 : decode cX8_fairestChange 144 = .ok (.aload_n 0, 1) := by decide +kernel
theorem dX8_fairestChange_145 : decode cX8_fairestChange 145 = .ok (.getfield 72, 3) := by decide +kernel
theorem dX8_fairestChange_148 : decode cX8_fairestChange 148 = .ok (.iconst 0, 1) := by decide +kernel
theorem dX8_fairestChange_149 : decode cX8_fairestChange 149 = .ok (.iload_n 3, 1) := by decide +kernel
theorem dX8_fairestChange_150 : decode cX8_fairestChange 150 = .ok (.iload 4, 2) := by decide +kernel
theorem dX8_fairestChange_152 : decode cX8_fairestChange 152 = .ok (.invokevirtual 84, 3) := by decide +kernel
theorem dX8_fairestChange_155 : decode cX8_fairestChange 155 = .ok (.pop, 1) := by decide +kernel
theorem dX8_fairestChange_156 : decode cX8_fairestChange 156 = .ok (.aload_n 0, 1) := by decide +kernel
theorem dX8_fairestChange_157 : decode cX8_fairestChange 157 = .ok (.getfield 12, 3) := by decide +kernel
theorem dX8_fairestChange_160 : decode cX8_fairestChange 160 = .ok (.aload_n 0, 1) := by decide +kernel
theorem dX8_fairestChange_161 : decode cX8_fairestChange 161 = .ok (.getfield 72, 3) := by decide +kernel
theorem dX8_fairestChange_164 : decode cX8_fairestChange 164 = .ok (.invokevirtual 163, 3) := by decide +kernel
theorem dX8_fairestChange_167 : decode cX8_fairestChange 167 = .ok (.aload_n 0, 1) := by decide +kernel
theorem dX8_fairestChange_168 : decode cX8_fairestChange 168 = .ok (.getfield 12, 3) := by decide +kernel
theorem dX8_fairestChange_171 : decode cX8_fairestChange 171 = .ok (.invokevirtual 193, 3) := by decide +kernel
theorem dX8_fairestChange_174 : decode cX8_fairestChange 174 = .ok (.istore 5, 2) := by decide +kernel
theorem dX8_fairestChange_176 : decode cX8_fairestChange 176 = .ok (.iload 5, 2) := by decide +kernel
theorem dX8_fairestChange_178 : decode cX8_fairestChange 178 = .ok (.iload_n 2, 1) := by decide +kernel
theorem dX8_fairestChange_179 : decode cX8_fairestChange 179 = .ok (.if_icmp .ge 18, 3) := by decide +kernel
theorem dX8_fairestChange_182 : decode cX8_fairestChange 182 = .ok (.iload 5, 2) := by decide +kernel
theorem dX8_fairestChange_184 : decode cX8_fairestChange 184 = .ok (.istore_n 2, 1) := by decide +kernel
theorem dX8_fairestChange_185 : decode cX8_fairestChange 185 = .ok (.sipush 200, 3) := by decide +kernel
theorem dX8_fairestChange_188 : decode cX8_fairestChange 188 = .ok (.bipush 10, 2) := by decide +kernel
theorem dX8_fairestChange_190 : decode cX8_fairestChange 190 = .ok (.iload_n 3, 1) := by decide +kernel
theorem dX8_fairestChange_191 : decode cX8_fairestChange 191 = .ok (.imul, 1) := by decide +kernel
theorem dX8_fairestChange_192 : decode cX8_fairestChange 192 = .ok (.iadd, 1) := by decide +kernel
theorem dX8_fairestChange_193 : decode cX8_fairestChange 193 = .ok (.iload 4, 2) := by decide +kernel
theorem dX8_fairestChange_195 : decode cX8_fairestChange 195 = .ok (.iadd, 1) := by decide +kernel
theorem dX8_fairestChange_196 : decode cX8_fairestChange 196 = .ok (.istore_n 1, 1) := by decide +kernel
theorem dX8_fairestChange_197 : decode cX8_fairestChange 197 = .ok (.iinc 4 1, 3) := by decide +kernel
theorem dX8_fairestChange_200 : decode cX8_fairestChange 200 = .ok (.goto (-100), 3) := by decide +kernel
theorem dX8_fairestChange_203 : decode cX8_fairestChange 203 = .ok (.iinc 3 1, 3) := by decide +kernel
theorem dX8_fairestChange_206 : decode cX8_fairestChange 206 = .ok (.goto (-134), 3) := by decide +kernel
theorem dX8_fairestChange_209 : decode cX8_fairestChange 209 = .ok (.iload_n 1, 1) := by decide +kernel
theorem dX8_fairestChange_210 : decode cX8_fairestChange 210 = .ok (.ireturn, 1) := by decide +kernel
theorem dX8_sees_0 : decode cX8_sees 0 = .ok (.aload_n 0, 1) := by decide +kernel
theorem dX8_sees_1 : decode cX8_sees 1 = .ok (.getfield 68, 3) := by decide +kernel
theorem dX8_sees_4 : decode cX8_sees 4 = .ok (.iload_n 1, 1) := by decide +kernel
theorem dX8_sees_5 : decode cX8_sees 5 = .ok (.iload_n 2, 1) := by decide +kernel
theorem dX8_sees_6 : decode cX8_sees 6 = .ok (.invokevirtual 167, 3) := by decide +kernel
theorem dX8_sees_9 : decode cX8_sees 9 = .ok (.istore_n 3, 1) := by decide +kernel
theorem dX8_sees_10 : decode cX8_sees 10 = .ok (.iload_n 3, 1) := by decide +kernel
theorem dX8_sees_11 : decode cX8_sees 11 = .ok (.ifCond .ge 8, 3) := by decide +kernel
theorem dX8_sees_14 : decode cX8_sees 14 = .ok (.bipush (-2), 2) := by decide +kernel
theorem dX8_sees_16 : decode cX8_sees 16 = .ok (.goto 11, 3) := by decide +kernel
theorem dX8_sees_19 : decode cX8_sees 19 = .ok (.aload_n 0, 1) := by decide +kernel
theorem dX8_sees_20 : decode cX8_sees 20 = .ok (.getfield 68, 3) := by decide +kernel
theorem dX8_sees_23 : decode cX8_sees 23 = .ok (.iload_n 3, 1) := by decide +kernel
theorem dX8_sees_24 : decode cX8_sees 24 = .ok (.invokevirtual 202, 3) := by decide +kernel
theorem dX8_sees_27 : decode cX8_sees 27 = .ok (.ireturn, 1) := by decide +kernel
theorem dX8_sure_0 : decode cX8_sure 0 = .ok (.aload_n 0, 1) := by decide +kernel
theorem dX8_sure_1 : decode cX8_sure 1 = .ok (.iload_n 1, 1) := by decide +kernel
theorem dX8_sure_2 : decode cX8_sure 2 = .ok (.iload_n 2, 1) := by decide +kernel
theorem dX8_sure_3 : decode cX8_sure 3 = .ok (.iload_n 3, 1) := by decide +kernel
theorem dX8_sure_4 : decode cX8_sure 4 = .ok (.invokevirtual 205, 3) := by decide +kernel
theorem dX8_sure_7 : decode cX8_sure 7 = .ok (.istore 4, 2) := by decide +kernel
theorem dX8_sure_9 : decode cX8_sure 9 = .ok (.iload 4, 2) := by decide +kernel
theorem dX8_sure_11 : decode cX8_sure 11 = .ok (.ifCond .eq 6, 3) := by decide +kernel
theorem dX8_sure_14 : decode cX8_sure 14 = .ok (.iload 4, 2) := by decide +kernel
theorem dX8_sure_16 : decode cX8_sure 16 = .ok (.ireturn, 1) := by decide +kernel
theorem dX8_sure_17 : decode cX8_sure 17 = .ok (.aload_n 0, 1) := by decide +kernel
theorem dX8_sure_18 : decode cX8_sure 18 = .ok (.invokevirtual 208, 3) := by decide +kernel
theorem dX8_sure_21 : decode cX8_sure 21 = .ok (.aload_n 0, 1) := by decide +kernel
theorem dX8_sure_22 : decode cX8_sure 22 = .ok (.getfield 68, 3) := by decide +kernel
theorem dX8_sure_25 : decode cX8_sure 25 = .ok (.iload_n 1, 1) := by decide +kernel
theorem dX8_sure_26 : decode cX8_sure 26 = .ok (.iload_n 2, 1) := by decide +kernel
theorem dX8_sure_27 : decode cX8_sure 27 = .ok (.invokevirtual 167, 3) := by decide +kernel
theorem dX8_sure_30 : decode cX8_sure 30 = .ok (.iload_n 3, 1) := by decide +kernel
theorem dX8_sure_31 : decode cX8_sure 31 = .ok (.invokevirtual 212, 3) := by decide +kernel
theorem dX8_sure_34 : decode cX8_sure 34 = .ok (.ireturn, 1) := by decide +kernel
theorem dX8_first_0 : decode cX8_first 0 = .ok (.aload_n 0, 1) := by decide +kernel
theorem dX8_first_1 : decode cX8_first 1 = .ok (.iload_n 1, 1) := by decide +kernel
theorem dX8_first_2 : decode cX8_first 2 = .ok (.iload_n 2, 1) := by decide +kernel
theorem dX8_first_3 : decode cX8_first 3 = .ok (.iload_n 3, 1) := by decide +kernel
theorem dX8_first_4 : decode cX8_first 4 = .ok (.invokevirtual 205, 3) := by decide +kernel
theorem dX8_first_7 : decode cX8_first 7 = .ok (.istore 4, 2) := by decide +kernel
theorem dX8_first_9 : decode cX8_first 9 = .ok (.iload 4, 2) := by decide +kernel
theorem dX8_first_11 : decode cX8_first 11 = .ok (.ifCond .eq 6, 3) := by decide +kernel
theorem dX8_first_14 : decode cX8_first 14 = .ok (.iload 4, 2) := by decide +kernel
theorem dX8_first_16 : decode cX8_first 16 = .ok (.ireturn, 1) := by decide +kernel
theorem dX8_first_17 : decode cX8_first 17 = .ok (.aload_n 0, 1) := by decide +kernel
theorem dX8_first_18 : decode cX8_first 18 = .ok (.invokevirtual 208, 3) := by decide +kernel
theorem dX8_first_21 : decode cX8_first 21 = .ok (.aload_n 0, 1) := by decide +kernel
theorem dX8_first_22 : decode cX8_first 22 = .ok (.getfield 68, 3) := by decide +kernel
theorem dX8_first_25 : decode cX8_first 25 = .ok (.iload_n 1, 1) := by decide +kernel
theorem dX8_first_26 : decode cX8_first 26 = .ok (.iload_n 2, 1) := by decide +kernel
theorem dX8_first_27 : decode cX8_first 27 = .ok (.invokevirtual 167, 3) := by decide +kernel
theorem dX8_first_30 : decode cX8_first 30 = .ok (.iload_n 3, 1) := by decide +kernel
theorem dX8_first_31 : decode cX8_first 31 = .ok (.invokevirtual 215, 3) := by decide +kernel
theorem dX8_first_34 : decode cX8_first 34 = .ok (.ireturn, 1) := by decide +kernel
theorem dX8_hiddenRefusal_0 : decode cX8_hiddenRefusal 0 = .ok (.aload_n 0, 1) := by decide +kernel
theorem dX8_hiddenRefusal_1 : decode cX8_hiddenRefusal 1 = .ok (.getfield 68, 3) := by decide +kernel
theorem dX8_hiddenRefusal_4 : decode cX8_hiddenRefusal 4 = .ok (.iload_n 1, 1) := by decide +kernel
theorem dX8_hiddenRefusal_5 : decode cX8_hiddenRefusal 5 = .ok (.iload_n 2, 1) := by decide +kernel
theorem dX8_hiddenRefusal_6 : decode cX8_hiddenRefusal 6 = .ok (.invokevirtual 167, 3) := by decide +kernel
theorem dX8_hiddenRefusal_9 : decode cX8_hiddenRefusal 9 = .ok (.ifCond .lt 18, 3) := by decide +kernel
theorem dX8_hiddenRefusal_12 : decode cX8_hiddenRefusal 12 = .ok (.iload_n 3, 1) := by decide +kernel
theorem dX8_hiddenRefusal_13 : decode cX8_hiddenRefusal 13 = .ok (.ifCond .lt 14, 3) := by decide +kernel
theorem dX8_hiddenRefusal_16 : decode cX8_hiddenRefusal 16 = .ok (.iload_n 3, 1) := by decide +kernel
theorem dX8_hiddenRefusal_17 : decode cX8_hiddenRefusal 17 = .ok (.aload_n 0, 1) := by decide +kernel
theorem dX8_hiddenRefusal_18 : decode cX8_hiddenRefusal 18 = .ok (.getfield 68, 3) := by decide +kernel
theorem dX8_hiddenRefusal_21 : decode cX8_hiddenRefusal 21 = .ok (.invokevirtual 218, 3) := by decide +kernel
theorem dX8_hiddenRefusal_24 : decode cX8_hiddenRefusal 24 = .ok (.if_icmp .le 6, 3) := by decide +kernel
theorem dX8_hiddenRefusal_27 : decode cX8_hiddenRefusal 27 = .ok (.bipush (-2), 2) := by decide +kernel
theorem dX8_hiddenRefusal_29 : decode cX8_hiddenRefusal 29 = .ok (.ireturn, 1) := by decide +kernel
theorem dX8_hiddenRefusal_30 : decode cX8_hiddenRefusal 30 = .ok (.aload_n 0, 1) := by decide +kernel
theorem dX8_hiddenRefusal_31 : decode cX8_hiddenRefusal 31 = .ok (.getfield 68, 3) := by decide +kernel
theorem dX8_hiddenRefusal_34 : decode cX8_hiddenRefusal 34 = .ok (.getfield 182, 3) := by decide +kernel
theorem dX8_hiddenRefusal_37 : decode cX8_hiddenRefusal 37 = .ok (.ifCond .gt 15, 3) := by decide +kernel
theorem dX8_hiddenRefusal_40 : decode cX8_hiddenRefusal 40 = .ok (.aload_n 0, 1) := by decide +kernel
theorem dX8_hiddenRefusal_41 : decode cX8_hiddenRefusal 41 = .ok (.getfield 68, 3) := by decide +kernel
theorem dX8_hiddenRefusal_44 : decode cX8_hiddenRefusal 44 = .ok (.getfield 196, 3) := by decide +kernel
theorem dX8_hiddenRefusal_47 : decode cX8_hiddenRefusal 47 = .ok (.bipush 6, 2) := by decide +kernel
theorem dX8_hiddenRefusal_49 : decode cX8_hiddenRefusal 49 = .ok (.if_icmp .le 8, 3) := by decide +kernel
theorem dX8_hiddenRefusal_52 : decode cX8_hiddenRefusal 52 = .ok (.bipush (-3), 2) := by decide +kernel
theorem dX8_hiddenRefusal_54 : decode cX8_hiddenRefusal 54 = .ok (.goto 4, 3) := by decide +kernel
theorem dX8_hiddenRefusal_57 : decode cX8_hiddenRefusal 57 = .ok (.iconst 0, 1) := by decide +kernel
theorem dX8_hiddenRefusal_58 : decode cX8_hiddenRefusal 58 = .ok (.ireturn, 1) := by decide +kernel
theorem dX8_solvedHidden_0 : decode cX8_solvedHidden 0 = .ok (.aload_n 0, 1) := by decide +kernel
theorem dX8_solvedHidden_1 : decode cX8_solvedHidden 1 = .ok (.getfield 26, 3) := by decide +kernel
theorem dX8_solvedHidden_4 : decode cX8_solvedHidden 4 = .ok (.getfield 221, 3) := by decide +kernel
theorem dX8_solvedHidden_7 : decode cX8_solvedHidden 7 = .ok (.aload_n 0, 1) := by decide +kernel
theorem dX8_solvedHidden_8 : decode cX8_solvedHidden 8 = .ok (.getfield 68, 3) := by decide +kernel
theorem dX8_solvedHidden_11 : decode cX8_solvedHidden 11 = .ok (.getfield 125, 3) := by decide +kernel
theorem dX8_solvedHidden_14 : decode cX8_solvedHidden 14 = .ok (.if_icmp .eq 14, 3) := by decide +kernel
theorem dX8_solvedHidden_17 : decode cX8_solvedHidden 17 = .ok (.aload_n 0, 1) := by decide +kernel
theorem dX8_solvedHidden_18 : decode cX8_solvedHidden 18 = .ok (.getfield 26, 3) := by decide +kernel
theorem dX8_solvedHidden_21 : decode cX8_solvedHidden 21 = .ok (.aload_n 0, 1) := by decide +kernel
theorem dX8_solvedHidden_22 : decode cX8_solvedHidden 22 = .ok (.getfield 68, 3) := by decide +kernel
theorem dX8_solvedHidden_25 : decode cX8_solvedHidden 25 = .ok (.invokevirtual 222, 3) := by decide +kernel
theorem dX8_solvedHidden_28 : decode cX8_solvedHidden 28 = .ok (.aload_n 0, 1) := by decide +kernel
theorem dX8_solvedHidden_29 : decode cX8_solvedHidden 29 = .ok (.getfield 26, 3) := by decide +kernel
theorem dX8_solvedHidden_32 : decode cX8_solvedHidden 32 = .ok (.areturn, 1) := by decide +kernel
theorem dX8_start_0 : decode cX8_start 0 = .ok (.aload_n 0, 1) := by decide +kernel
theorem dX8_start_1 : decode cX8_start 1 = .ok (.getfield 68, 3) := by decide +kernel
theorem dX8_start_4 : decode cX8_start 4 = .ok (.iload_n 1, 1) := by decide +kernel
theorem dX8_start_5 : decode cX8_start 5 = .ok (.iload_n 2, 1) := by decide +kernel
theorem dX8_start_6 : decode cX8_start 6 = .ok (.invokevirtual 167, 3) := by decide +kernel
theorem dX8_start_9 : decode cX8_start 9 = .ok (.istore 4, 2) := by decide +kernel
theorem dX8_start_11 : decode cX8_start 11 = .ok (.iload 4, 2) := by decide +kernel
theorem dX8_start_13 : decode cX8_start 13 = .ok (.ifCond .lt 14, 3) := by decide +kernel
theorem dX8_start_16 : decode cX8_start 16 = .ok (.aload_n 0, 1) := by decide +kernel
theorem dX8_start_17 : decode cX8_start 17 = .ok (.getfield 68, 3) := by decide +kernel
theorem dX8_start_20 : decode cX8_start 20 = .ok (.iload_n 3, 1) := by decide +kernel
theorem dX8_start_21 : decode cX8_start 21 = .ok (.invokevirtual 109, 3) := by decide +kernel
theorem dX8_start_24 : decode cX8_start 24 = .ok (.ifCond .ne 6, 3) := by decide +kernel
theorem dX8_start_27 : decode cX8_start 27 = .ok (.bipush (-2), 2) := by decide +kernel
theorem dX8_start_29 : decode cX8_start 29 = .ok (.ireturn, 1) := by decide +kernel
theorem dX8_start_30 : decode cX8_start 30 = .ok (.iload 4, 2) := by decide +kernel
theorem dX8_start_32 : decode cX8_start 32 = .ok (.invokestatic 223, 3) := by decide +kernel
theorem dX8_start_35 : decode cX8_start 35 = .ok (.iload_n 3, 1) := by decide +kernel
theorem dX8_start_36 : decode cX8_start 36 = .ok (.ishr, 1) := by decide +kernel
theorem dX8_start_37 : decode cX8_start 37 = .ok (.iconst 1, 1) := by decide +kernel
theorem dX8_start_38 : decode cX8_start 38 = .ok (.iand, 1) := by decide +kernel
theorem dX8_start_39 : decode cX8_start 39 = .ok (.ifCond .eq 6, 3) := by decide +kernel
theorem dX8_start_42 : decode cX8_start 42 = .ok (.bipush (-3), 2) := by decide +kernel
theorem dX8_start_44 : decode cX8_start 44 = .ok (.ireturn, 1) := by decide +kernel
theorem dX8_start_45 : decode cX8_start 45 = .ok (.aload_n 0, 1) := by decide +kernel
theorem dX8_start_46 : decode cX8_start 46 = .ok (.getfield 33, 3) := by decide +kernel
theorem dX8_start_49 : decode cX8_start 49 = .ok (.aload_n 0, 1) := by decide +kernel
theorem dX8_start_50 : decode cX8_start 50 = .ok (.getfield 68, 3) := by decide +kernel
theorem dX8_start_53 : decode cX8_start 53 = .ok (.iload 4, 2) := by decide +kernel
theorem dX8_start_55 : decode cX8_start 55 = .ok (.iload_n 3, 1) := by decide +kernel
theorem dX8_start_56 : decode cX8_start 56 = .ok (.invokevirtual 226, 3) := by decide +kernel
theorem dX8_start_59 : decode cX8_start 59 = .ok (.aload_n 0, 1) := by decide +kernel
theorem dX8_start_60 : decode cX8_start 60 = .ok (.getfield 33, 3) := by decide +kernel
theorem dX8_start_63 : decode cX8_start 63 = .ok (.getfield 230, 3) := by decide +kernel
theorem dX8_start_66 : decode cX8_start 66 = .ok (.ireturn, 1) := by decide +kernel
theorem dX8_move_0 : decode cX8_move 0 = .ok (.iload_n 1, 1) := by decide +kernel
theorem dX8_move_1 : decode cX8_move 1 = .ok (.ifCond .lt 9, 3) := by decide +kernel
theorem dX8_move_4 : decode cX8_move 4 = .ok (.iload_n 1, 1) := by decide +kernel
theorem dX8_move_5 : decode cX8_move 5 = .ok (.bipush 32, 2) := by decide +kernel
theorem dX8_move_7 : decode cX8_move 7 = .ok (.if_icmp .le 6, 3) := by decide +kernel
theorem dX8_move_10 : decode cX8_move 10 = .ok (.bipush (-2), 2) := by decide +kernel
theorem dX8_move_12 : decode cX8_move 12 = .ok (.ireturn, 1) := by decide +kernel
theorem dX8_move_13 : decode cX8_move 13 = .ok (.aload_n 0, 1) := by decide +kernel
theorem dX8_move_14 : decode cX8_move 14 = .ok (.getfield 33, 3) := by decide +kernel
theorem dX8_move_17 : decode cX8_move 17 = .ok (.getfield 80, 3) := by decide +kernel
theorem dX8_move_20 : decode cX8_move 20 = .ok (.ifCond .ne 6, 3) := by decide +kernel
theorem dX8_move_23 : decode cX8_move 23 = .ok (.bipush (-3), 2) := by decide +kernel
theorem dX8_move_25 : decode cX8_move 25 = .ok (.ireturn, 1) := by decide +kernel
theorem dX8_move_26 : decode cX8_move 26 = .ok (.aload_n 0, 1) := by decide +kernel
theorem dX8_move_27 : decode cX8_move 27 = .ok (.invokevirtual 132, 3) := by decide +kernel
theorem dX8_move_30 : decode cX8_move 30 = .ok (.astore_n 2, 1) := by decide +kernel
theorem dX8_move_31 : decode cX8_move 31 = .ok (.aload_n 2, 1) := by decide +kernel
theorem dX8_move_32 : decode cX8_move 32 = .ok (.getfield 136, 3) := by decide +kernel
theorem dX8_move_35 : decode cX8_move 35 = .ok (.aload_n 0, 1) := by decide +kernel
theorem dX8_move_36 : decode cX8_move 36 = .ok (.getfield 33, 3) := by decide +kernel
theorem dX8_move_39 : decode cX8_move 39 = .ok (.getfield 233, 3) := by decide +kernel
theorem dX8_move_42 : decode cX8_move 42 = .ok (.iaload, 1) := by decide +kernel
theorem dX8_move_43 : decode cX8_move 43 = .ok (.ifCond .eq 18, 3) := by decide +kernel
theorem dX8_move_46 : decode cX8_move 46 = .ok (.aload_n 2, 1) := by decide +kernel
theorem dX8_move_47 : decode cX8_move 47 = .ok (.aload_n 0, 1) := by decide +kernel
theorem dX8_move_48 : decode cX8_move 48 = .ok (.getfield 33, 3) := by decide +kernel
theorem dX8_move_51 : decode cX8_move 51 = .ok (.getfield 233, 3) := by decide +kernel
theorem dX8_move_54 : decode cX8_move 54 = .ok (.iload_n 1, 1) := by decide +kernel
theorem dX8_move_55 : decode cX8_move 55 = .ok (.invokevirtual 236, 3) := by decide +kernel
theorem dX8_move_58 : decode cX8_move 58 = .ok (.ifCond .ge 6, 3) := by decide +kernel
theorem dX8_move_61 : decode cX8_move 61 = .ok (.bipush (-3), 2) := by decide +kernel
theorem dX8_move_63 : decode cX8_move 63 = .ok (.ireturn, 1) := by decide +kernel
theorem dX8_move_64 : decode cX8_move 64 = .ok (.aload_n 0, 1) := by decide +kernel
theorem dX8_move_65 : decode cX8_move 65 = .ok (.getfield 33, 3) := by decide +kernel
theorem dX8_move_68 : decode cX8_move 68 = .ok (.aload_n 2, 1) := by decide +kernel
theorem dX8_move_69 : decode cX8_move 69 = .ok (.iload_n 1, 1) := by decide +kernel
theorem dX8_move_70 : decode cX8_move 70 = .ok (.invokevirtual 239, 3) := by decide +kernel
theorem dX8_move_73 : decode cX8_move 73 = .ok (.aload_n 0, 1) := by decide +kernel
theorem dX8_move_74 : decode cX8_move 74 = .ok (.getfield 33, 3) := by decide +kernel
theorem dX8_move_77 : decode cX8_move 77 = .ok (.getfield 230, 3) := by decide +kernel
theorem dX8_move_80 : decode cX8_move 80 = .ok (.ireturn, 1) := by decide +kernel
theorem dX8_play_0 : decode cX8_play 0 = .ok (.iload_n 1, 1) := by decide +kernel
theorem dX8_play_1 : decode cX8_play 1 = .ok (.iconst 1, 1) := by decide +kernel
theorem dX8_play_2 : decode cX8_play 2 = .ok (.if_icmp .lt 9, 3) := by decide +kernel
theorem dX8_play_5 : decode cX8_play 5 = .ok (.iload_n 1, 1) := by decide +kernel
theorem dX8_play_6 : decode cX8_play 6 = .ok (.bipush 40, 2) := by decide +kernel
theorem dX8_play_8 : decode cX8_play 8 = .ok (.if_icmp .le 6, 3) := by decide +kernel
theorem dX8_play_11 : decode cX8_play 11 = .ok (.bipush (-2), 2) := by decide +kernel
theorem dX8_play_13 : decode cX8_play 13 = .ok (.ireturn, 1) := by decide +kernel
theorem dX8_play_14 : decode cX8_play 14 = .ok (.aload_n 0, 1) := by decide +kernel
theorem dX8_play_15 : decode cX8_play 15 = .ok (.getfield 33, 3) := by decide +kernel
theorem dX8_play_18 : decode cX8_play 18 = .ok (.getfield 80, 3) := by decide +kernel
theorem dX8_play_21 : decode cX8_play 21 = .ok (.ifCond .ne 6, 3) := by decide +kernel
theorem dX8_play_24 : decode cX8_play 24 = .ok (.bipush (-3), 2) := by decide +kernel
theorem dX8_play_26 : decode cX8_play 26 = .ok (.ireturn, 1) := by decide +kernel
theorem dX8_play_27 : decode cX8_play 27 = .ok (.aload_n 0, 1) := by decide +kernel
theorem dX8_play_28 : decode cX8_play 28 = .ok (.invokevirtual 132, 3) := by decide +kernel
theorem dX8_play_31 : decode cX8_play 31 = .ok (.astore_n 2, 1) := by decide +kernel
theorem dX8_play_32 : decode cX8_play 32 = .ok (.iconst 0, 1) := by decide +kernel
theorem dX8_play_33 : decode cX8_play 33 = .ok (.istore_n 3, 1) := by decide +kernel
theorem dX8_play_34 : decode cX8_play 34 = .ok (.iload_n 3, 1) := by decide +kernel
theorem dX8_play_35 : decode cX8_play 35 = .ok (.iload_n 1, 1) := by decide +kernel
theorem dX8_play_36 : decode cX8_play 36 = .ok (.if_icmp .ge 43, 3) := by decide +kernel
theorem dX8_play_39 : decode cX8_play 39 = .ok (.aload_n 2, 1) := by decide +kernel
theorem dX8_play_40 : decode cX8_play 40 = .ok (.getfield 136, 3) := by decide +kernel
theorem dX8_play_43 : decode cX8_play 43 = .ok (.aload_n 0, 1) := by decide +kernel
theorem dX8_play_44 : decode cX8_play 44 = .ok (.getfield 33, 3) := by decide +kernel
theorem dX8_play_47 : decode cX8_play 47 = .ok (.getfield 233, 3) := by decide +kernel
theorem dX8_play_50 : decode cX8_play 50 = .ok (.iaload, 1) := by decide +kernel
theorem dX8_play_51 : decode cX8_play 51 = .ok (.ifCond .eq 28, 3) := by decide +kernel
theorem dX8_play_54 : decode cX8_play 54 = .ok (.aload_n 0, 1) := by decide +kernel
theorem dX8_play_55 : decode cX8_play 55 = .ok (.getfield 33, 3) := by decide +kernel
theorem dX8_play_58 : decode cX8_play 58 = .ok (.aload_n 2, 1) := by decide +kernel
theorem dX8_play_59 : decode cX8_play 59 = .ok (.aload_n 2, 1) := by decide +kernel
theorem dX8_play_60 : decode cX8_play 60 = .ok (.aload_n 0, 1) := by decide +kernel
theorem dX8_play_61 : decode cX8_play 61 = .ok (.getfield 33, 3) := by decide +kernel
theorem dX8_play_64 : decode cX8_play 64 = .ok (.getfield 233, 3) := by decide +kernel
theorem dX8_play_67 : decode cX8_play 67 = .ok (.invokevirtual 139, 3) := by decide +kernel
theorem dX8_play_70 : decode cX8_play 70 = .ok (.invokevirtual 239, 3) := by decide +kernel
theorem dX8_play_73 : decode cX8_play 73 = .ok (.iinc 3 1, 3) := by decide +kernel
theorem dX8_play_76 : decode cX8_play 76 = .ok (.goto (-42), 3) := by decide +kernel
theorem dX8_play_79 : decode cX8_play 79 = .ok (.iload_n 3, 1) := by decide +kernel
theorem dX8_play_80 : decode cX8_play 80 = .ok (.ireturn, 1) := by decide +kernel
theorem dX8_back_0 : decode cX8_back 0 = .ok (.aload_n 0, 1) := by decide +kernel
theorem dX8_back_1 : decode cX8_back 1 = .ok (.getfield 33, 3) := by decide +kernel
theorem dX8_back_4 : decode cX8_back 4 = .ok (.getfield 80, 3) := by decide +kernel
theorem dX8_back_7 : decode cX8_back 7 = .ok (.ifCond .eq 13, 3) := by decide +kernel
theorem dX8_back_10 : decode cX8_back 10 = .ok (.aload_n 0, 1) := by decide +kernel
theorem dX8_back_11 : decode cX8_back 11 = .ok (.getfield 33, 3) := by decide +kernel
theorem dX8_back_14 : decode cX8_back 14 = .ok (.getfield 243, 3) := by decide +kernel
theorem dX8_back_17 : decode cX8_back 17 = .ok (.ifCond .ne 6, 3) := by decide +kernel
theorem dX8_back_20 : decode cX8_back 20 = .ok (.bipush (-3), 2) := by decide +kernel
theorem dX8_back_22 : decode cX8_back 22 = .ok (.ireturn, 1) := by decide +kernel
theorem dX8_back_23 : decode cX8_back 23 = .ok (.aload_n 0, 1) := by decide +kernel
theorem dX8_back_24 : decode cX8_back 24 = .ok (.getfield 33, 3) := by decide +kernel
theorem dX8_back_27 : decode cX8_back 27 = .ok (.invokevirtual 246, 3) := by decide +kernel
theorem dX8_back_30 : decode cX8_back 30 = .ok (.aload_n 0, 1) := by decide +kernel
theorem dX8_back_31 : decode cX8_back 31 = .ok (.getfield 33, 3) := by decide +kernel
theorem dX8_back_34 : decode cX8_back 34 = .ok (.getfield 249, 3) := by decide +kernel
theorem dX8_back_37 : decode cX8_back 37 = .ok (.ireturn, 1) := by decide +kernel
theorem dX8_told_0 : decode cX8_told 0 = .ok (.iload_n 1, 1) := by decide +kernel
theorem dX8_told_1 : decode cX8_told 1 = .ok (.ifCond .lt 9, 3) := by decide +kernel
theorem dX8_told_4 : decode cX8_told 4 = .ok (.iload_n 1, 1) := by decide +kernel
theorem dX8_told_5 : decode cX8_told 5 = .ok (.bipush 8, 2) := by decide +kernel
theorem dX8_told_7 : decode cX8_told 7 = .ok (.if_icmp .le 6, 3) := by decide +kernel
theorem dX8_told_10 : decode cX8_told 10 = .ok (.bipush (-2), 2) := by decide +kernel
theorem dX8_told_12 : decode cX8_told 12 = .ok (.ireturn, 1) := by decide +kernel
theorem dX8_told_13 : decode cX8_told 13 = .ok (.aload_n 0, 1) := by decide +kernel
theorem dX8_told_14 : decode cX8_told 14 = .ok (.getfield 33, 3) := by decide +kernel
theorem dX8_told_17 : decode cX8_told 17 = .ok (.getfield 80, 3) := by decide +kernel
theorem dX8_told_20 : decode cX8_told 20 = .ok (.ifCond .ne 6, 3) := by decide +kernel
theorem dX8_told_23 : decode cX8_told 23 = .ok (.bipush (-3), 2) := by decide +kernel
theorem dX8_told_25 : decode cX8_told 25 = .ok (.ireturn, 1) := by decide +kernel
theorem dX8_told_26 : decode cX8_told 26 = .ok (.aload_n 0, 1) := by decide +kernel
theorem dX8_told_27 : decode cX8_told 27 = .ok (.getfield 33, 3) := by decide +kernel
theorem dX8_told_30 : decode cX8_told 30 = .ok (.getfield 233, 3) := by decide +kernel
theorem dX8_told_33 : decode cX8_told 33 = .ok (.istore_n 2, 1) := by decide +kernel
theorem dX8_told_34 : decode cX8_told 34 = .ok (.iload_n 1, 1) := by decide +kernel
theorem dX8_told_35 : decode cX8_told 35 = .ok (.tableswitch 113 0 7 #[45, 53, 60, 65, 73, 79, 87, 95], 45) := by decide +kernel
theorem dX8_told_80 : decode cX8_told 80 = .ok (.iload_n 2, 1) := by decide +kernel
theorem dX8_told_81 : decode cX8_told 81 = .ok (.bipush 6, 2) := by decide +kernel
theorem dX8_told_83 : decode cX8_told 83 = .ok (.ishr, 1) := by decide +kernel
theorem dX8_told_84 : decode cX8_told 84 = .ok (.bipush 7, 2) := by decide +kernel
theorem dX8_told_86 : decode cX8_told 86 = .ok (.iand, 1) := by decide +kernel
theorem dX8_told_87 : decode cX8_told 87 = .ok (.ireturn, 1) := by decide +kernel
theorem dX8_told_88 : decode cX8_told 88 = .ok (.iload_n 2, 1) := by decide +kernel
theorem dX8_told_89 : decode cX8_told 89 = .ok (.iconst 3, 1) := by decide +kernel
theorem dX8_told_90 : decode cX8_told 90 = .ok (.ishr, 1) := by decide +kernel
theorem dX8_told_91 : decode cX8_told 91 = .ok (.bipush 7, 2) := by decide +kernel
theorem dX8_told_93 : decode cX8_told 93 = .ok (.iand, 1) := by decide +kernel
theorem dX8_told_94 : decode cX8_told 94 = .ok (.ireturn, 1) := by decide +kernel
theorem dX8_told_95 : decode cX8_told 95 = .ok (.iload_n 2, 1) := by decide +kernel
theorem dX8_told_96 : decode cX8_told 96 = .ok (.bipush 7, 2) := by decide +kernel
theorem dX8_told_98 : decode cX8_told 98 = .ok (.iand, 1) := by decide +kernel
theorem dX8_told_99 : decode cX8_told 99 = .ok (.ireturn, 1) := by decide +kernel
theorem dX8_told_100 : decode cX8_told 100 = .ok (.iload_n 2, 1) := by decide +kernel
theorem dX8_told_101 : decode cX8_told 101 = .ok (.sipush 512, 3) := by decide +kernel
theorem dX8_told_104 : decode cX8_told 104 = .ok (.idiv, 1) := by decide +kernel
theorem dX8_told_105 : decode cX8_told 105 = .ok (.iconst 1, 1) := by decide +kernel
theorem dX8_told_106 : decode cX8_told 106 = .ok (.iand, 1) := by decide +kernel
theorem dX8_told_107 : decode cX8_told 107 = .ok (.ireturn, 1) := by decide +kernel
theorem dX8_told_108 : decode cX8_told 108 = .ok (.iload_n 2, 1) := by decide +kernel
theorem dX8_told_109 : decode cX8_told 109 = .ok (.sipush 1024, 3) := by decide +kernel
theorem dX8_told_112 : decode cX8_told 112 = .ok (.idiv, 1) := by decide +kernel
theorem dX8_told_113 : decode cX8_told 113 = .ok (.ireturn, 1) := by decide +kernel
theorem dX8_told_114 : decode cX8_told 114 = .ok (.aload_n 0, 1) := by decide +kernel
theorem dX8_told_115 : decode cX8_told 115 = .ok (.getfield 33, 3) := by decide +kernel
