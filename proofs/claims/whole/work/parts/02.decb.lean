theorem dX3_isWell_12 : decode cX3_isWell 12 = .ok (.goto 4, 3) := by decide +kernel
theorem dX3_isWell_15 : decode cX3_isWell 15 = .ok (.iconst 0, 1) := by decide +kernel
theorem dX3_isWell_16 : decode cX3_isWell 16 = .ok (.ireturn, 1) := by decide +kernel
theorem dX3_otherEnd_0 : decode cX3_otherEnd 0 = .ok (.aload_n 0, 1) := by decide +kernel
theorem dX3_otherEnd_1 : decode cX3_otherEnd 1 = .ok (.getfield 15, 3) := by decide +kernel
theorem dX3_otherEnd_4 : decode cX3_otherEnd 4 = .ok (.iload_n 1, 1) := by decide +kernel
theorem dX3_otherEnd_5 : decode cX3_otherEnd 5 = .ok (.iaload, 1) := by decide +kernel
theorem dX3_otherEnd_6 : decode cX3_otherEnd 6 = .ok (.iload_n 2, 1) := by decide +kernel
theorem dX3_otherEnd_7 : decode cX3_otherEnd 7 = .ok (.if_icmp .ne 10, 3) := by decide +kernel
theorem dX3_otherEnd_10 : decode cX3_otherEnd 10 = .ok (.aload_n 0, 1) := by decide +kernel
theorem dX3_otherEnd_11 : decode cX3_otherEnd 11 = .ok (.getfield 18, 3) := by decide +kernel
theorem dX3_otherEnd_14 : decode cX3_otherEnd 14 = .ok (.iload_n 1, 1) := by decide +kernel
theorem dX3_otherEnd_15 : decode cX3_otherEnd 15 = .ok (.iaload, 1) := by decide +kernel
theorem dX3_otherEnd_16 : decode cX3_otherEnd 16 = .ok (.ireturn, 1) := by decide +kernel
theorem dX3_otherEnd_17 : decode cX3_otherEnd 17 = .ok (.aload_n 0, 1) := by decide +kernel
theorem dX3_otherEnd_18 : decode cX3_otherEnd 18 = .ok (.getfield 18, 3) := by decide +kernel
theorem dX3_otherEnd_21 : decode cX3_otherEnd 21 = .ok (.iload_n 1, 1) := by decide +kernel
theorem dX3_otherEnd_22 : decode cX3_otherEnd 22 = .ok (.iaload, 1) := by decide +kernel
theorem dX3_otherEnd_23 : decode cX3_otherEnd 23 = .ok (.iload_n 2, 1) := by decide +kernel
theorem dX3_otherEnd_24 : decode cX3_otherEnd 24 = .ok (.if_icmp .ne 22, 3) := by decide +kernel
theorem dX3_otherEnd_27 : decode cX3_otherEnd 27 = .ok (.aload_n 0, 1) := by decide +kernel
theorem dX3_otherEnd_28 : decode cX3_otherEnd 28 = .ok (.getfield 9, 3) := by decide +kernel
theorem dX3_otherEnd_31 : decode cX3_otherEnd 31 = .ok (.iload_n 1, 1) := by decide +kernel
theorem dX3_otherEnd_32 : decode cX3_otherEnd 32 = .ok (.iaload, 1) := by decide +kernel
theorem dX3_otherEnd_33 : decode cX3_otherEnd 33 = .ok (.iconst 5, 1) := by decide +kernel
theorem dX3_otherEnd_34 : decode cX3_otherEnd 34 = .ok (.if_icmp .eq 12, 3) := by decide +kernel
theorem dX3_otherEnd_37 : decode cX3_otherEnd 37 = .ok (.aload_n 0, 1) := by decide +kernel
theorem dX3_otherEnd_38 : decode cX3_otherEnd 38 = .ok (.getfield 15, 3) := by decide +kernel
theorem dX3_otherEnd_41 : decode cX3_otherEnd 41 = .ok (.iload_n 1, 1) := by decide +kernel
theorem dX3_otherEnd_42 : decode cX3_otherEnd 42 = .ok (.iaload, 1) := by decide +kernel
theorem dX3_otherEnd_43 : decode cX3_otherEnd 43 = .ok (.goto 4, 3) := by decide +kernel
theorem dX3_otherEnd_46 : decode cX3_otherEnd 46 = .ok (.iconst (-1), 1) := by decide +kernel
theorem dX3_otherEnd_47 : decode cX3_otherEnd 47 = .ok (.ireturn, 1) := by decide +kernel
theorem dX3_hunterEnd_0 : decode cX3_hunterEnd 0 = .ok (.aload_n 0, 1) := by decide +kernel
theorem dX3_hunterEnd_1 : decode cX3_hunterEnd 1 = .ok (.getfield 9, 3) := by decide +kernel
theorem dX3_hunterEnd_4 : decode cX3_hunterEnd 4 = .ok (.iload_n 1, 1) := by decide +kernel
theorem dX3_hunterEnd_5 : decode cX3_hunterEnd 5 = .ok (.iaload, 1) := by decide +kernel
theorem dX3_hunterEnd_6 : decode cX3_hunterEnd 6 = .ok (.iconst 1, 1) := by decide +kernel
theorem dX3_hunterEnd_7 : decode cX3_hunterEnd 7 = .ok (.if_icmp .eq 13, 3) := by decide +kernel
theorem dX3_hunterEnd_10 : decode cX3_hunterEnd 10 = .ok (.aload_n 0, 1) := by decide +kernel
theorem dX3_hunterEnd_11 : decode cX3_hunterEnd 11 = .ok (.getfield 9, 3) := by decide +kernel
theorem dX3_hunterEnd_14 : decode cX3_hunterEnd 14 = .ok (.iload_n 1, 1) := by decide +kernel
theorem dX3_hunterEnd_15 : decode cX3_hunterEnd 15 = .ok (.iaload, 1) := by decide +kernel
theorem dX3_hunterEnd_16 : decode cX3_hunterEnd 16 = .ok (.iconst 4, 1) := by decide +kernel
theorem dX3_hunterEnd_17 : decode cX3_hunterEnd 17 = .ok (.if_icmp .ne 7, 3) := by decide +kernel
theorem dX3_hunterEnd_20 : decode cX3_hunterEnd 20 = .ok (.iconst 1, 1) := by decide +kernel
theorem dX3_hunterEnd_21 : decode cX3_hunterEnd 21 = .ok (.goto 4, 3) := by decide +kernel
theorem dX3_hunterEnd_24 : decode cX3_hunterEnd 24 = .ok (.iconst 0, 1) := by decide +kernel
theorem dX3_hunterEnd_25 : decode cX3_hunterEnd 25 = .ok (.istore_n 3, 1) := by decide +kernel
theorem dX3_hunterEnd_26 : decode cX3_hunterEnd 26 = .ok (.iload_n 3, 1) := by decide +kernel
theorem dX3_hunterEnd_27 : decode cX3_hunterEnd 27 = .ok (.ifCond .eq 7, 3) := by decide +kernel
theorem dX3_hunterEnd_30 : decode cX3_hunterEnd 30 = .ok (.iconst (-1), 1) := by decide +kernel
theorem dX3_hunterEnd_31 : decode cX3_hunterEnd 31 = .ok (.goto 9, 3) := by decide +kernel
theorem dX3_hunterEnd_34 : decode cX3_hunterEnd 34 = .ok (.aload_n 0, 1) := by decide +kernel
theorem dX3_hunterEnd_35 : decode cX3_hunterEnd 35 = .ok (.iload_n 1, 1) := by decide +kernel
theorem dX3_hunterEnd_36 : decode cX3_hunterEnd 36 = .ok (.iload_n 2, 1) := by decide +kernel
theorem dX3_hunterEnd_37 : decode cX3_hunterEnd 37 = .ok (.invokevirtual 78, 3) := by decide +kernel
theorem dX3_hunterEnd_40 : decode cX3_hunterEnd 40 = .ok (.ireturn, 1) := by decide +kernel
theorem dX3_runnerEnd_0 : decode cX3_runnerEnd 0 = .ok (.aload_n 0, 1) := by decide +kernel
theorem dX3_runnerEnd_1 : decode cX3_runnerEnd 1 = .ok (.getfield 9, 3) := by decide +kernel
theorem dX3_runnerEnd_4 : decode cX3_runnerEnd 4 = .ok (.iload_n 1, 1) := by decide +kernel
theorem dX3_runnerEnd_5 : decode cX3_runnerEnd 5 = .ok (.iaload, 1) := by decide +kernel
theorem dX3_runnerEnd_6 : decode cX3_runnerEnd 6 = .ok (.iconst 3, 1) := by decide +kernel
theorem dX3_runnerEnd_7 : decode cX3_runnerEnd 7 = .ok (.if_icmp .eq 27, 3) := by decide +kernel
theorem dX3_runnerEnd_10 : decode cX3_runnerEnd 10 = .ok (.aload_n 0, 1) := by decide +kernel
theorem dX3_runnerEnd_11 : decode cX3_runnerEnd 11 = .ok (.getfield 9, 3) := by decide +kernel
theorem dX3_runnerEnd_14 : decode cX3_runnerEnd 14 = .ok (.iload_n 1, 1) := by decide +kernel
theorem dX3_runnerEnd_15 : decode cX3_runnerEnd 15 = .ok (.iaload, 1) := by decide +kernel
theorem dX3_runnerEnd_16 : decode cX3_runnerEnd 16 = .ok (.iconst 4, 1) := by decide +kernel
theorem dX3_runnerEnd_17 : decode cX3_runnerEnd 17 = .ok (.if_icmp .ne 21, 3) := by decide +kernel
theorem dX3_runnerEnd_20 : decode cX3_runnerEnd 20 = .ok (.aload_n 0, 1) := by decide +kernel
theorem dX3_runnerEnd_21 : decode cX3_runnerEnd 21 = .ok (.getfield 30, 3) := by decide +kernel
theorem dX3_runnerEnd_24 : decode cX3_runnerEnd 24 = .ok (.iload_n 2, 1) := by decide +kernel
theorem dX3_runnerEnd_25 : decode cX3_runnerEnd 25 = .ok (.iaload, 1) := by decide +kernel
theorem dX3_runnerEnd_26 : decode cX3_runnerEnd 26 = .ok (.iload_n 3, 1) := by decide +kernel
theorem dX3_runnerEnd_27 : decode cX3_runnerEnd 27 = .ok (.invokestatic 81, 3) := by decide +kernel
theorem dX3_runnerEnd_30 : decode cX3_runnerEnd 30 = .ok (.iand, 1) := by decide +kernel
theorem dX3_runnerEnd_31 : decode cX3_runnerEnd 31 = .ok (.ifCond .eq 7, 3) := by decide +kernel
theorem dX3_runnerEnd_34 : decode cX3_runnerEnd 34 = .ok (.iconst 1, 1) := by decide +kernel
theorem dX3_runnerEnd_35 : decode cX3_runnerEnd 35 = .ok (.goto 4, 3) := by decide +kernel
theorem dX3_runnerEnd_38 : decode cX3_runnerEnd 38 = .ok (.iconst 0, 1) := by decide +kernel
theorem dX3_runnerEnd_39 : decode cX3_runnerEnd 39 = .ok (.istore 4, 2) := by decide +kernel
theorem dX3_runnerEnd_41 : decode cX3_runnerEnd 41 = .ok (.iload 4, 2) := by decide +kernel
theorem dX3_runnerEnd_43 : decode cX3_runnerEnd 43 = .ok (.ifCond .eq 7, 3) := by decide +kernel
theorem dX3_runnerEnd_46 : decode cX3_runnerEnd 46 = .ok (.iconst (-1), 1) := by decide +kernel
theorem dX3_runnerEnd_47 : decode cX3_runnerEnd 47 = .ok (.goto 9, 3) := by decide +kernel
theorem dX3_runnerEnd_50 : decode cX3_runnerEnd 50 = .ok (.aload_n 0, 1) := by decide +kernel
theorem dX3_runnerEnd_51 : decode cX3_runnerEnd 51 = .ok (.iload_n 1, 1) := by decide +kernel
theorem dX3_runnerEnd_52 : decode cX3_runnerEnd 52 = .ok (.iload_n 2, 1) := by decide +kernel
theorem dX3_runnerEnd_53 : decode cX3_runnerEnd 53 = .ok (.invokevirtual 78, 3) := by decide +kernel
theorem dX3_runnerEnd_56 : decode cX3_runnerEnd 56 = .ok (.ireturn, 1) := by decide +kernel
theorem dX3_shutterPassed_0 : decode cX3_shutterPassed 0 = .ok (.iload_n 1, 1) := by decide +kernel
theorem dX3_shutterPassed_1 : decode cX3_shutterPassed 1 = .ok (.ifCond .ne 7, 3) := by decide +kernel
theorem dX3_shutterPassed_4 : decode cX3_shutterPassed 4 = .ok (.iconst (-1), 1) := by decide +kernel
theorem dX3_shutterPassed_5 : decode cX3_shutterPassed 5 = .ok (.goto 14, 3) := by decide +kernel
theorem dX3_shutterPassed_8 : decode cX3_shutterPassed 8 = .ok (.aload_n 0, 1) := by decide +kernel
theorem dX3_shutterPassed_9 : decode cX3_shutterPassed 9 = .ok (.getfield 21, 3) := by decide +kernel
theorem dX3_shutterPassed_12 : decode cX3_shutterPassed 12 = .ok (.iload_n 1, 1) := by decide +kernel
theorem dX3_shutterPassed_13 : decode cX3_shutterPassed 13 = .ok (.iconst 1, 1) := by decide +kernel
theorem dX3_shutterPassed_14 : decode cX3_shutterPassed 14 = .ok (.isub, 1) := by decide +kernel
theorem dX3_shutterPassed_15 : decode cX3_shutterPassed 15 = .ok (.bipush 15, 2) := by decide +kernel
theorem dX3_shutterPassed_17 : decode cX3_shutterPassed 17 = .ok (.iand, 1) := by decide +kernel
theorem dX3_shutterPassed_18 : decode cX3_shutterPassed 18 = .ok (.iaload, 1) := by decide +kernel
theorem dX3_shutterPassed_19 : decode cX3_shutterPassed 19 = .ok (.ireturn, 1) := by decide +kernel
theorem dX3_pairAfter_0 : decode cX3_pairAfter 0 = .ok (.iload_n 2, 1) := by decide +kernel
theorem dX3_pairAfter_1 : decode cX3_pairAfter 1 = .ok (.ifCond .ne 5, 3) := by decide +kernel
theorem dX3_pairAfter_4 : decode cX3_pairAfter 4 = .ok (.iload_n 1, 1) := by decide +kernel
theorem dX3_pairAfter_5 : decode cX3_pairAfter 5 = .ok (.ireturn, 1) := by decide +kernel
theorem dX3_pairAfter_6 : decode cX3_pairAfter 6 = .ok (.iload_n 2, 1) := by decide +kernel
theorem dX3_pairAfter_7 : decode cX3_pairAfter 7 = .ok (.iconst 1, 1) := by decide +kernel
theorem dX3_pairAfter_8 : decode cX3_pairAfter 8 = .ok (.isub, 1) := by decide +kernel
theorem dX3_pairAfter_9 : decode cX3_pairAfter 9 = .ok (.bipush 15, 2) := by decide +kernel
theorem dX3_pairAfter_11 : decode cX3_pairAfter 11 = .ok (.iand, 1) := by decide +kernel
theorem dX3_pairAfter_12 : decode cX3_pairAfter 12 = .ok (.istore_n 3, 1) := by decide +kernel
theorem dX3_pairAfter_13 : decode cX3_pairAfter 13 = .ok (.iload_n 2, 1) := by decide +kernel
theorem dX3_pairAfter_14 : decode cX3_pairAfter 14 = .ok (.bipush 16, 2) := by decide +kernel
theorem dX3_pairAfter_16 : decode cX3_pairAfter 16 = .ok (.if_icmp .le 7, 3) := by decide +kernel
theorem dX3_pairAfter_19 : decode cX3_pairAfter 19 = .ok (.iconst 1, 1) := by decide +kernel
theorem dX3_pairAfter_20 : decode cX3_pairAfter 20 = .ok (.goto 4, 3) := by decide +kernel
theorem dX3_pairAfter_23 : decode cX3_pairAfter 23 = .ok (.iconst 0, 1) := by decide +kernel
theorem dX3_pairAfter_24 : decode cX3_pairAfter 24 = .ok (.istore 4, 2) := by decide +kernel
theorem dX3_pairAfter_26 : decode cX3_pairAfter 26 = .ok (.iload_n 1, 1) := by decide +kernel
theorem dX3_pairAfter_27 : decode cX3_pairAfter 27 = .ok (.iconst 3, 1) := by decide +kernel
theorem dX3_pairAfter_28 : decode cX3_pairAfter 28 = .ok (.ishr, 1) := by decide +kernel
theorem dX3_pairAfter_29 : decode cX3_pairAfter 29 = .ok (.istore 5, 2) := by decide +kernel
theorem dX3_pairAfter_31 : decode cX3_pairAfter 31 = .ok (.iload_n 1, 1) := by decide +kernel
theorem dX3_pairAfter_32 : decode cX3_pairAfter 32 = .ok (.bipush 7, 2) := by decide +kernel
theorem dX3_pairAfter_34 : decode cX3_pairAfter 34 = .ok (.iand, 1) := by decide +kernel
theorem dX3_pairAfter_35 : decode cX3_pairAfter 35 = .ok (.istore 6, 2) := by decide +kernel
theorem dX3_pairAfter_37 : decode cX3_pairAfter 37 = .ok (.iload_n 3, 1) := by decide +kernel
theorem dX3_pairAfter_38 : decode cX3_pairAfter 38 = .ok (.aload_n 0, 1) := by decide +kernel
theorem dX3_pairAfter_39 : decode cX3_pairAfter 39 = .ok (.getfield 53, 3) := by decide +kernel
theorem dX3_pairAfter_42 : decode cX3_pairAfter 42 = .ok (.if_icmp .ge 15, 3) := by decide +kernel
theorem dX3_pairAfter_45 : decode cX3_pairAfter 45 = .ok (.iload 4, 2) := by decide +kernel
theorem dX3_pairAfter_47 : decode cX3_pairAfter 47 = .ok (.ifCond .eq 12, 3) := by decide +kernel
theorem dX3_pairAfter_50 : decode cX3_pairAfter 50 = .ok (.iload 5, 2) := by decide +kernel
theorem dX3_pairAfter_52 : decode cX3_pairAfter 52 = .ok (.iload 6, 2) := by decide +kernel
theorem dX3_pairAfter_54 : decode cX3_pairAfter 54 = .ok (.if_icmp .ne 5, 3) := by decide +kernel
theorem dX3_pairAfter_57 : decode cX3_pairAfter 57 = .ok (.iconst (-1), 1) := by decide +kernel
theorem dX3_pairAfter_58 : decode cX3_pairAfter 58 = .ok (.ireturn, 1) := by decide +kernel
theorem dX3_pairAfter_59 : decode cX3_pairAfter 59 = .ok (.aload_n 0, 1) := by decide +kernel
theorem dX3_pairAfter_60 : decode cX3_pairAfter 60 = .ok (.iload_n 3, 1) := by decide +kernel
theorem dX3_pairAfter_61 : decode cX3_pairAfter 61 = .ok (.iload 4, 2) := by decide +kernel
theorem dX3_pairAfter_63 : decode cX3_pairAfter 63 = .ok (.ifCond .eq 8, 3) := by decide +kernel
theorem dX3_pairAfter_66 : decode cX3_pairAfter 66 = .ok (.iload 6, 2) := by decide +kernel
theorem dX3_pairAfter_68 : decode cX3_pairAfter 68 = .ok (.goto 5, 3) := by decide +kernel
theorem dX3_pairAfter_71 : decode cX3_pairAfter 71 = .ok (.iload 5, 2) := by decide +kernel
theorem dX3_pairAfter_73 : decode cX3_pairAfter 73 = .ok (.invokevirtual 85, 3) := by decide +kernel
theorem dX3_pairAfter_76 : decode cX3_pairAfter 76 = .ok (.istore 7, 2) := by decide +kernel
theorem dX3_pairAfter_78 : decode cX3_pairAfter 78 = .ok (.iload 7, 2) := by decide +kernel
theorem dX3_pairAfter_80 : decode cX3_pairAfter 80 = .ok (.ifCond .ge 5, 3) := by decide +kernel
theorem dX3_pairAfter_83 : decode cX3_pairAfter 83 = .ok (.iconst (-1), 1) := by decide +kernel
theorem dX3_pairAfter_84 : decode cX3_pairAfter 84 = .ok (.ireturn, 1) := by decide +kernel
theorem dX3_pairAfter_85 : decode cX3_pairAfter 85 = .ok (.aload_n 0, 1) := by decide +kernel
theorem dX3_pairAfter_86 : decode cX3_pairAfter 86 = .ok (.getfield 33, 3) := by decide +kernel
theorem dX3_pairAfter_89 : decode cX3_pairAfter 89 = .ok (.iconst 1, 1) := by decide +kernel
theorem dX3_pairAfter_90 : decode cX3_pairAfter 90 = .ok (.if_icmp .ne 13, 3) := by decide +kernel
theorem dX3_pairAfter_93 : decode cX3_pairAfter 93 = .ok (.iload 7, 2) := by decide +kernel
theorem dX3_pairAfter_95 : decode cX3_pairAfter 95 = .ok (.iload 7, 2) := by decide +kernel
theorem dX3_pairAfter_97 : decode cX3_pairAfter 97 = .ok (.invokestatic 75, 3) := by decide +kernel
theorem dX3_pairAfter_100 : decode cX3_pairAfter 100 = .ok (.goto 20, 3) := by decide +kernel
theorem dX3_pairAfter_103 : decode cX3_pairAfter 103 = .ok (.iload 7, 2) := by decide +kernel
theorem dX3_pairAfter_105 : decode cX3_pairAfter 105 = .ok (.iload 4, 2) := by decide +kernel
theorem dX3_pairAfter_107 : decode cX3_pairAfter 107 = .ok (.ifCond .eq 8, 3) := by decide +kernel
theorem dX3_pairAfter_110 : decode cX3_pairAfter 110 = .ok (.iload 5, 2) := by decide +kernel
theorem dX3_pairAfter_112 : decode cX3_pairAfter 112 = .ok (.goto 5, 3) := by decide +kernel
theorem dX3_pairAfter_115 : decode cX3_pairAfter 115 = .ok (.iload 6, 2) := by decide +kernel
theorem dX3_pairAfter_117 : decode cX3_pairAfter 117 = .ok (.invokestatic 75, 3) := by decide +kernel
theorem dX3_pairAfter_120 : decode cX3_pairAfter 120 = .ok (.ireturn, 1) := by decide +kernel
theorem dX3_runnerAfter_0 : decode cX3_runnerAfter 0 = .ok (.iload_n 3, 1) := by decide +kernel
theorem dX3_runnerAfter_1 : decode cX3_runnerAfter 1 = .ok (.ifCond .ne 17, 3) := by decide +kernel
theorem dX3_runnerAfter_4 : decode cX3_runnerAfter 4 = .ok (.aload_n 0, 1) := by decide +kernel
theorem dX3_runnerAfter_5 : decode cX3_runnerAfter 5 = .ok (.iload_n 2, 1) := by decide +kernel
theorem dX3_runnerAfter_6 : decode cX3_runnerAfter 6 = .ok (.invokevirtual 88, 3) := by decide +kernel
theorem dX3_runnerAfter_9 : decode cX3_runnerAfter 9 = .ok (.ifCond .eq 7, 3) := by decide +kernel
theorem dX3_runnerAfter_12 : decode cX3_runnerAfter 12 = .ok (.iload_n 2, 1) := by decide +kernel
theorem dX3_runnerAfter_13 : decode cX3_runnerAfter 13 = .ok (.goto 4, 3) := by decide +kernel
theorem dX3_runnerAfter_16 : decode cX3_runnerAfter 16 = .ok (.iconst (-1), 1) := by decide +kernel
theorem dX3_runnerAfter_17 : decode cX3_runnerAfter 17 = .ok (.ireturn, 1) := by decide +kernel
theorem dX3_runnerAfter_18 : decode cX3_runnerAfter 18 = .ok (.iload_n 3, 1) := by decide +kernel
theorem dX3_runnerAfter_19 : decode cX3_runnerAfter 19 = .ok (.aload_n 0, 1) := by decide +kernel
theorem dX3_runnerAfter_20 : decode cX3_runnerAfter 20 = .ok (.getfield 53, 3) := by decide +kernel
theorem dX3_runnerAfter_23 : decode cX3_runnerAfter 23 = .ok (.if_icmp .le 7, 3) := by decide +kernel
theorem dX3_runnerAfter_26 : decode cX3_runnerAfter 26 = .ok (.iconst (-1), 1) := by decide +kernel
theorem dX3_runnerAfter_27 : decode cX3_runnerAfter 27 = .ok (.goto 12, 3) := by decide +kernel
theorem dX3_runnerAfter_30 : decode cX3_runnerAfter 30 = .ok (.aload_n 0, 1) := by decide +kernel
theorem dX3_runnerAfter_31 : decode cX3_runnerAfter 31 = .ok (.iload_n 3, 1) := by decide +kernel
theorem dX3_runnerAfter_32 : decode cX3_runnerAfter 32 = .ok (.iconst 1, 1) := by decide +kernel
theorem dX3_runnerAfter_33 : decode cX3_runnerAfter 33 = .ok (.isub, 1) := by decide +kernel
theorem dX3_runnerAfter_34 : decode cX3_runnerAfter 34 = .ok (.iload_n 2, 1) := by decide +kernel
theorem dX3_runnerAfter_35 : decode cX3_runnerAfter 35 = .ok (.iload_n 1, 1) := by decide +kernel
theorem dX3_runnerAfter_36 : decode cX3_runnerAfter 36 = .ok (.invokevirtual 91, 3) := by decide +kernel
theorem dX3_runnerAfter_39 : decode cX3_runnerAfter 39 = .ok (.ireturn, 1) := by decide +kernel
theorem dX3_isOpen_0 : decode cX3_isOpen 0 = .ok (.aload_n 0, 1) := by decide +kernel
theorem dX3_isOpen_1 : decode cX3_isOpen 1 = .ok (.getfield 21, 3) := by decide +kernel
theorem dX3_isOpen_4 : decode cX3_isOpen 4 = .ok (.iload_n 1, 1) := by decide +kernel
theorem dX3_isOpen_5 : decode cX3_isOpen 5 = .ok (.iaload, 1) := by decide +kernel
theorem dX3_isOpen_6 : decode cX3_isOpen 6 = .ok (.istore_n 3, 1) := by decide +kernel
theorem dX3_isOpen_7 : decode cX3_isOpen 7 = .ok (.iload_n 3, 1) := by decide +kernel
theorem dX3_isOpen_8 : decode cX3_isOpen 8 = .ok (.ifCond .lt 19, 3) := by decide +kernel
theorem dX3_isOpen_11 : decode cX3_isOpen 11 = .ok (.iload_n 3, 1) := by decide +kernel
theorem dX3_isOpen_12 : decode cX3_isOpen 12 = .ok (.ifCond .ne 9, 3) := by decide +kernel
theorem dX3_isOpen_15 : decode cX3_isOpen 15 = .ok (.iload_n 2, 1) := by decide +kernel
theorem dX3_isOpen_16 : decode cX3_isOpen 16 = .ok (.iconst 3, 1) := by decide +kernel
theorem dX3_isOpen_17 : decode cX3_isOpen 17 = .ok (.irem, 1) := by decide +kernel
theorem dX3_isOpen_18 : decode cX3_isOpen 18 = .ok (.goto 6, 3) := by decide +kernel
theorem dX3_isOpen_21 : decode cX3_isOpen 21 = .ok (.iload_n 2, 1) := by decide +kernel
theorem dX3_isOpen_22 : decode cX3_isOpen 22 = .ok (.iconst 3, 1) := by decide +kernel
theorem dX3_isOpen_23 : decode cX3_isOpen 23 = .ok (.idiv, 1) := by decide +kernel
theorem dX3_isOpen_24 : decode cX3_isOpen 24 = .ok (.ifCond .ne 7, 3) := by decide +kernel
theorem dX3_isOpen_27 : decode cX3_isOpen 27 = .ok (.iconst 1, 1) := by decide +kernel
theorem dX3_isOpen_28 : decode cX3_isOpen 28 = .ok (.goto 4, 3) := by decide +kernel
theorem dX3_isOpen_31 : decode cX3_isOpen 31 = .ok (.iconst 0, 1) := by decide +kernel
theorem dX3_isOpen_32 : decode cX3_isOpen 32 = .ok (.ireturn, 1) := by decide +kernel
theorem dX3_reachOf_0 : decode cX3_reachOf 0 = .ok (.aload_n 0, 1) := by decide +kernel
theorem dX3_reachOf_1 : decode cX3_reachOf 1 = .ok (.iload_n 1, 1) := by decide +kernel
theorem dX3_reachOf_2 : decode cX3_reachOf 2 = .ok (.invokevirtual 88, 3) := by decide +kernel
theorem dX3_reachOf_5 : decode cX3_reachOf 5 = .ok (.ifCond .eq 9, 3) := by decide +kernel
theorem dX3_reachOf_8 : decode cX3_reachOf 8 = .ok (.iconst 1, 1) := by decide +kernel
theorem dX3_reachOf_9 : decode cX3_reachOf 9 = .ok (.iload_n 1, 1) := by decide +kernel
theorem dX3_reachOf_10 : decode cX3_reachOf 10 = .ok (.ishl, 1) := by decide +kernel
theorem dX3_reachOf_11 : decode cX3_reachOf 11 = .ok (.goto 4, 3) := by decide +kernel
theorem dX3_reachOf_14 : decode cX3_reachOf 14 = .ok (.iconst 0, 1) := by decide +kernel
theorem dX3_reachOf_15 : decode cX3_reachOf 15 = .ok (.istore 4, 2) := by decide +kernel
theorem dX3_reachOf_17 : decode cX3_reachOf 17 = .ok (.iconst 0, 1) := by decide +kernel
theorem dX3_reachOf_18 : decode cX3_reachOf 18 = .ok (.istore 5, 2) := by decide +kernel
theorem dX3_reachOf_20 : decode cX3_reachOf 20 = .ok (.iload 5, 2) := by decide +kernel
theorem dX3_reachOf_22 : decode cX3_reachOf 22 = .ok (.aload_n 0, 1) := by decide +kernel
theorem dX3_reachOf_23 : decode cX3_reachOf 23 = .ok (.getfield 53, 3) := by decide +kernel
theorem dX3_reachOf_26 : decode cX3_reachOf 26 = .ok (.if_icmp .ge 47, 3) := by decide +kernel
theorem dX3_reachOf_29 : decode cX3_reachOf 29 = .ok (.aload_n 0, 1) := by decide +kernel
theorem dX3_reachOf_30 : decode cX3_reachOf 30 = .ok (.iload 5, 2) := by decide +kernel
theorem dX3_reachOf_32 : decode cX3_reachOf 32 = .ok (.iload_n 3, 1) := by decide +kernel
theorem dX3_reachOf_33 : decode cX3_reachOf 33 = .ok (.invokevirtual 94, 3) := by decide +kernel
theorem dX3_reachOf_36 : decode cX3_reachOf 36 = .ok (.ifCond .eq 14, 3) := by decide +kernel
theorem dX3_reachOf_39 : decode cX3_reachOf 39 = .ok (.aload_n 0, 1) := by decide +kernel
theorem dX3_reachOf_40 : decode cX3_reachOf 40 = .ok (.iload 5, 2) := by decide +kernel
theorem dX3_reachOf_42 : decode cX3_reachOf 42 = .ok (.iload_n 1, 1) := by decide +kernel
theorem dX3_reachOf_43 : decode cX3_reachOf 43 = .ok (.iload_n 2, 1) := by decide +kernel
theorem dX3_reachOf_44 : decode cX3_reachOf 44 = .ok (.invokevirtual 91, 3) := by decide +kernel
theorem dX3_reachOf_47 : decode cX3_reachOf 47 = .ok (.goto 4, 3) := by decide +kernel
theorem dX3_reachOf_50 : decode cX3_reachOf 50 = .ok (.iconst (-1), 1) := by decide +kernel
theorem dX3_reachOf_51 : decode cX3_reachOf 51 = .ok (.istore 6, 2) := by decide +kernel
theorem dX3_reachOf_53 : decode cX3_reachOf 53 = .ok (.iload 6, 2) := by decide +kernel
theorem dX3_reachOf_55 : decode cX3_reachOf 55 = .ok (.ifCond .lt 12, 3) := by decide +kernel
theorem dX3_reachOf_58 : decode cX3_reachOf 58 = .ok (.iload 4, 2) := by decide +kernel
theorem dX3_reachOf_60 : decode cX3_reachOf 60 = .ok (.iconst 1, 1) := by decide +kernel
theorem dX3_reachOf_61 : decode cX3_reachOf 61 = .ok (.iload 6, 2) := by decide +kernel
theorem dX3_reachOf_63 : decode cX3_reachOf 63 = .ok (.ishl, 1) := by decide +kernel
theorem dX3_reachOf_64 : decode cX3_reachOf 64 = .ok (.ior, 1) := by decide +kernel
theorem dX3_reachOf_65 : decode cX3_reachOf 65 = .ok (.istore 4, 2) := by decide +kernel
theorem dX3_reachOf_67 : decode cX3_reachOf 67 = .ok (.iinc 5 1, 3) := by decide +kernel
theorem dX3_reachOf_70 : decode cX3_reachOf 70 = .ok (.goto (-50), 3) := by decide +kernel
theorem dX3_reachOf_73 : decode cX3_reachOf 73 = .ok (.iload 4, 2) := by decide +kernel
theorem dX3_reachOf_75 : decode cX3_reachOf 75 = .ok (.iload_n 2, 1) := by decide +kernel
theorem dX3_reachOf_76 : decode cX3_reachOf 76 = .ok (.invokestatic 81, 3) := by decide +kernel
theorem dX3_reachOf_79 : decode cX3_reachOf 79 = .ok (.iconst (-1), 1) := by decide +kernel
theorem dX3_reachOf_80 : decode cX3_reachOf 80 = .ok (.ixor, 1) := by decide +kernel
theorem dX3_reachOf_81 : decode cX3_reachOf 81 = .ok (.iand, 1) := by decide +kernel
theorem dX3_reachOf_82 : decode cX3_reachOf 82 = .ok (.ireturn, 1) := by decide +kernel
theorem dX3_seenFrom_0 : decode cX3_seenFrom 0 = .ok (.aload_n 0, 1) := by decide +kernel
theorem dX3_seenFrom_1 : decode cX3_seenFrom 1 = .ok (.iload_n 1, 1) := by decide +kernel
theorem dX3_seenFrom_2 : decode cX3_seenFrom 2 = .ok (.iconst 3, 1) := by decide +kernel
theorem dX3_seenFrom_3 : decode cX3_seenFrom 3 = .ok (.ishr, 1) := by decide +kernel
theorem dX3_seenFrom_4 : decode cX3_seenFrom 4 = .ok (.invokevirtual 98, 3) := by decide +kernel
theorem dX3_seenFrom_7 : decode cX3_seenFrom 7 = .ok (.aload_n 0, 1) := by decide +kernel
theorem dX3_seenFrom_8 : decode cX3_seenFrom 8 = .ok (.iload_n 1, 1) := by decide +kernel
theorem dX3_seenFrom_9 : decode cX3_seenFrom 9 = .ok (.bipush 7, 2) := by decide +kernel
theorem dX3_seenFrom_11 : decode cX3_seenFrom 11 = .ok (.iand, 1) := by decide +kernel
theorem dX3_seenFrom_12 : decode cX3_seenFrom 12 = .ok (.invokevirtual 98, 3) := by decide +kernel
theorem dX3_seenFrom_15 : decode cX3_seenFrom 15 = .ok (.ior, 1) := by decide +kernel
theorem dX3_seenFrom_16 : decode cX3_seenFrom 16 = .ok (.ireturn, 1) := by decide +kernel
theorem dX3_seenFromPlace_0 : decode cX3_seenFromPlace 0 = .ok (.aload_n 0, 1) := by decide +kernel
theorem dX3_seenFromPlace_1 : decode cX3_seenFromPlace 1 = .ok (.getfield 27, 3) := by decide +kernel
theorem dX3_seenFromPlace_4 : decode cX3_seenFromPlace 4 = .ok (.iload_n 1, 1) := by decide +kernel
theorem dX3_seenFromPlace_5 : decode cX3_seenFromPlace 5 = .ok (.iaload, 1) := by decide +kernel
theorem dX3_seenFromPlace_6 : decode cX3_seenFromPlace 6 = .ok (.iconst 2, 1) := by decide +kernel
theorem dX3_seenFromPlace_7 : decode cX3_seenFromPlace 7 = .ok (.iand, 1) := by decide +kernel
theorem dX3_seenFromPlace_8 : decode cX3_seenFromPlace 8 = .ok (.ifCond .eq 12, 3) := by decide +kernel
theorem dX3_seenFromPlace_11 : decode cX3_seenFromPlace 11 = .ok (.aload_n 0, 1) := by decide +kernel
theorem dX3_seenFromPlace_12 : decode cX3_seenFromPlace 12 = .ok (.getfield 37, 3) := by decide +kernel
theorem dX3_seenFromPlace_15 : decode cX3_seenFromPlace 15 = .ok (.iconst 1, 1) := by decide +kernel
theorem dX3_seenFromPlace_16 : decode cX3_seenFromPlace 16 = .ok (.iadd, 1) := by decide +kernel
theorem dX3_seenFromPlace_17 : decode cX3_seenFromPlace 17 = .ok (.goto 7, 3) := by decide +kernel
theorem dX3_seenFromPlace_20 : decode cX3_seenFromPlace 20 = .ok (.aload_n 0, 1) := by decide +kernel
theorem dX3_seenFromPlace_21 : decode cX3_seenFromPlace 21 = .ok (.getfield 37, 3) := by decide +kernel
theorem dX3_seenFromPlace_24 : decode cX3_seenFromPlace 24 = .ok (.istore_n 2, 1) := by decide +kernel
theorem dX3_seenFromPlace_25 : decode cX3_seenFromPlace 25 = .ok (.iconst 1, 1) := by decide +kernel
theorem dX3_seenFromPlace_26 : decode cX3_seenFromPlace 26 = .ok (.iload_n 1, 1) := by decide +kernel
theorem dX3_seenFromPlace_27 : decode cX3_seenFromPlace 27 = .ok (.ishl, 1) := by decide +kernel
theorem dX3_seenFromPlace_28 : decode cX3_seenFromPlace 28 = .ok (.istore_n 3, 1) := by decide +kernel
theorem dX3_seenFromPlace_29 : decode cX3_seenFromPlace 29 = .ok (.iconst 0, 1) := by decide +kernel
theorem dX3_seenFromPlace_30 : decode cX3_seenFromPlace 30 = .ok (.istore 4, 2) := by decide +kernel
theorem dX3_seenFromPlace_32 : decode cX3_seenFromPlace 32 = .ok (.iload 4, 2) := by decide +kernel
theorem dX3_seenFromPlace_34 : decode cX3_seenFromPlace 34 = .ok (.iload_n 2, 1) := by decide +kernel
theorem dX3_seenFromPlace_35 : decode cX3_seenFromPlace 35 = .ok (.if_icmp .ge 54, 3) := by decide +kernel
theorem dX3_seenFromPlace_38 : decode cX3_seenFromPlace 38 = .ok (.iload_n 3, 1) := by decide +kernel
theorem dX3_seenFromPlace_39 : decode cX3_seenFromPlace 39 = .ok (.istore 5, 2) := by decide +kernel
theorem dX3_seenFromPlace_41 : decode cX3_seenFromPlace 41 = .ok (.iconst 0, 1) := by decide +kernel
theorem dX3_seenFromPlace_42 : decode cX3_seenFromPlace 42 = .ok (.istore 6, 2) := by decide +kernel
theorem dX3_seenFromPlace_44 : decode cX3_seenFromPlace 44 = .ok (.iload 6, 2) := by decide +kernel
theorem dX3_seenFromPlace_46 : decode cX3_seenFromPlace 46 = .ok (.aload_n 0, 1) := by decide +kernel
theorem dX3_seenFromPlace_47 : decode cX3_seenFromPlace 47 = .ok (.getfield 40, 3) := by decide +kernel
theorem dX3_seenFromPlace_50 : decode cX3_seenFromPlace 50 = .ok (.if_icmp .ge 30, 3) := by decide +kernel
theorem dX3_seenFromPlace_53 : decode cX3_seenFromPlace 53 = .ok (.iload_n 3, 1) := by decide +kernel
theorem dX3_seenFromPlace_54 : decode cX3_seenFromPlace 54 = .ok (.iload 6, 2) := by decide +kernel
theorem dX3_seenFromPlace_56 : decode cX3_seenFromPlace 56 = .ok (.ishr, 1) := by decide +kernel
theorem dX3_seenFromPlace_57 : decode cX3_seenFromPlace 57 = .ok (.iconst 1, 1) := by decide +kernel
theorem dX3_seenFromPlace_58 : decode cX3_seenFromPlace 58 = .ok (.iand, 1) := by decide +kernel
theorem dX3_seenFromPlace_59 : decode cX3_seenFromPlace 59 = .ok (.ifCond .eq 15, 3) := by decide +kernel
theorem dX3_seenFromPlace_62 : decode cX3_seenFromPlace 62 = .ok (.iload 5, 2) := by decide +kernel
theorem dX3_seenFromPlace_64 : decode cX3_seenFromPlace 64 = .ok (.aload_n 0, 1) := by decide +kernel
theorem dX3_seenFromPlace_65 : decode cX3_seenFromPlace 65 = .ok (.getfield 30, 3) := by decide +kernel
theorem dX3_seenFromPlace_68 : decode cX3_seenFromPlace 68 = .ok (.iload 6, 2) := by decide +kernel
theorem dX3_seenFromPlace_70 : decode cX3_seenFromPlace 70 = .ok (.iaload, 1) := by decide +kernel
theorem dX3_seenFromPlace_71 : decode cX3_seenFromPlace 71 = .ok (.ior, 1) := by decide +kernel
theorem dX3_seenFromPlace_72 : decode cX3_seenFromPlace 72 = .ok (.istore 5, 2) := by decide +kernel
theorem dX3_seenFromPlace_74 : decode cX3_seenFromPlace 74 = .ok (.iinc 6 1, 3) := by decide +kernel
theorem dX3_seenFromPlace_77 : decode cX3_seenFromPlace 77 = .ok (.goto (-33), 3) := by decide +kernel
theorem dX3_seenFromPlace_80 : decode cX3_seenFromPlace 80 = .ok (.iload 5, 2) := by decide +kernel
theorem dX3_seenFromPlace_82 : decode cX3_seenFromPlace 82 = .ok (.istore_n 3, 1) := by decide +kernel
theorem dX3_seenFromPlace_83 : decode cX3_seenFromPlace 83 = .ok (.iinc 4 1, 3) := by decide +kernel
theorem dX3_seenFromPlace_86 : decode cX3_seenFromPlace 86 = .ok (.goto (-54), 3) := by decide +kernel
theorem dX3_seenFromPlace_89 : decode cX3_seenFromPlace 89 = .ok (.iload_n 3, 1) := by decide +kernel
theorem dX3_seenFromPlace_90 : decode cX3_seenFromPlace 90 = .ok (.ireturn, 1) := by decide +kernel
theorem dX4_init_0 : decode cX4_init 0 = .ok (.aload_n 0, 1) := by decide +kernel
theorem dX4_init_1 : decode cX4_init 1 = .ok (.invokespecial 3, 3) := by decide +kernel
theorem dX4_init_4 : decode cX4_init 4 = .ok (.aload_n 0, 1) := by decide +kernel
theorem dX4_init_5 : decode cX4_init 5 = .ok (.bipush 6, 2) := by decide +kernel
theorem dX4_init_7 : decode cX4_init 7 = .ok (.newarray .int, 2) := by decide +kernel
theorem dX4_init_9 : decode cX4_init 9 = .ok (.putfield 11, 3) := by decide +kernel
theorem dX4_init_12 : decode cX4_init 12 = .ok (.aload_n 0, 1) := by decide +kernel
theorem dX4_init_13 : decode cX4_init 13 = .ok (.iconst (-1), 1) := by decide +kernel
theorem dX4_init_14 : decode cX4_init 14 = .ok (.putfield 15, 3) := by decide +kernel
theorem dX4_init_17 : decode cX4_init 17 = .ok (.aload_n 0, 1) := by decide +kernel
theorem dX4_init_18 : decode cX4_init 18 = .ok (.iconst 0, 1) := by decide +kernel
theorem dX4_init_19 : decode cX4_init 19 = .ok (.newarray .byte, 2) := by decide +kernel
theorem dX4_init_21 : decode cX4_init 21 = .ok (.putfield 19, 3) := by decide +kernel
theorem dX4_init_24 : decode cX4_init 24 = .ok (.aload_n 0, 1) := by decide +kernel
theorem dX4_init_25 : decode cX4_init 25 = .ok (.bipush 12, 2) := by decide +kernel
theorem dX4_init_27 : decode cX4_init 27 = .ok (.putfield 23, 3) := by decide +kernel
theorem dX4_init_30 : decode cX4_init 30 = .ok (.return_, 1) := by decide +kernel
theorem dX4_read_0 : decode cX4_read 0 = .ok (.aload_n 0, 1) := by decide +kernel
theorem dX4_read_1 : decode cX4_read 1 = .ok (.aload_n 1, 1) := by decide +kernel
theorem dX4_read_2 : decode cX4_read 2 = .ok (.putfield 19, 3) := by decide +kernel
theorem dX4_read_5 : decode cX4_read 5 = .ok (.aload_n 0, 1) := by decide +kernel
theorem dX4_read_6 : decode cX4_read 6 = .ok (.iload_n 2, 1) := by decide +kernel
theorem dX4_read_7 : decode cX4_read 7 = .ok (.aload_n 1, 1) := by decide +kernel
theorem dX4_read_8 : decode cX4_read 8 = .ok (.arraylength, 1) := by decide +kernel
theorem dX4_read_9 : decode cX4_read 9 = .ok (.invokestatic 26, 3) := by decide +kernel
theorem dX4_read_12 : decode cX4_read 12 = .ok (.putfield 32, 3) := by decide +kernel
theorem dX4_read_15 : decode cX4_read 15 = .ok (.aload_n 0, 1) := by decide +kernel
theorem dX4_read_16 : decode cX4_read 16 = .ok (.iconst 0, 1) := by decide +kernel
theorem dX4_read_17 : decode cX4_read 17 = .ok (.putfield 35, 3) := by decide +kernel
theorem dX4_read_20 : decode cX4_read 20 = .ok (.aload_n 0, 1) := by decide +kernel
theorem dX4_read_21 : decode cX4_read 21 = .ok (.iconst 0, 1) := by decide +kernel
theorem dX4_read_22 : decode cX4_read 22 = .ok (.putfield 38, 3) := by decide +kernel
theorem dX4_read_25 : decode cX4_read 25 = .ok (.aload_n 0, 1) := by decide +kernel
theorem dX4_read_26 : decode cX4_read 26 = .ok (.iconst (-1), 1) := by decide +kernel
theorem dX4_read_27 : decode cX4_read 27 = .ok (.putfield 15, 3) := by decide +kernel
theorem dX4_read_30 : decode cX4_read 30 = .ok (.aload_n 0, 1) := by decide +kernel
theorem dX4_read_31 : decode cX4_read 31 = .ok (.invokevirtual 41, 3) := by decide +kernel
theorem dX4_read_34 : decode cX4_read 34 = .ok (.aload_n 0, 1) := by decide +kernel
theorem dX4_read_35 : decode cX4_read 35 = .ok (.bipush 6, 2) := by decide +kernel
theorem dX4_read_37 : decode cX4_read 37 = .ok (.invokevirtual 44, 3) := by decide +kernel
theorem dX4_read_40 : decode cX4_read 40 = .ok (.aload_n 0, 1) := by decide +kernel
theorem dX4_read_41 : decode cX4_read 41 = .ok (.aload_n 0, 1) := by decide +kernel
theorem dX4_read_42 : decode cX4_read 42 = .ok (.invokevirtual 48, 3) := by decide +kernel
theorem dX4_read_45 : decode cX4_read 45 = .ok (.putfield 52, 3) := by decide +kernel
theorem dX4_read_48 : decode cX4_read 48 = .ok (.aload_n 0, 1) := by decide +kernel
theorem dX4_read_49 : decode cX4_read 49 = .ok (.bipush 59, 2) := by decide +kernel
theorem dX4_read_51 : decode cX4_read 51 = .ok (.invokevirtual 44, 3) := by decide +kernel
theorem dX4_read_54 : decode cX4_read 54 = .ok (.aload_n 0, 1) := by decide +kernel
theorem dX4_read_55 : decode cX4_read 55 = .ok (.bipush 7, 2) := by decide +kernel
theorem dX4_read_57 : decode cX4_read 57 = .ok (.invokevirtual 44, 3) := by decide +kernel
theorem dX4_read_60 : decode cX4_read 60 = .ok (.aload_n 0, 1) := by decide +kernel
theorem dX4_read_61 : decode cX4_read 61 = .ok (.aload_n 0, 1) := by decide +kernel
theorem dX4_read_62 : decode cX4_read 62 = .ok (.invokevirtual 48, 3) := by decide +kernel
theorem dX4_read_65 : decode cX4_read 65 = .ok (.putfield 55, 3) := by decide +kernel
theorem dX4_read_68 : decode cX4_read 68 = .ok (.aload_n 0, 1) := by decide +kernel
theorem dX4_read_69 : decode cX4_read 69 = .ok (.bipush 59, 2) := by decide +kernel
theorem dX4_read_71 : decode cX4_read 71 = .ok (.invokevirtual 44, 3) := by decide +kernel
theorem dX4_read_74 : decode cX4_read 74 = .ok (.aload_n 0, 1) := by decide +kernel
theorem dX4_read_75 : decode cX4_read 75 = .ok (.bipush 12, 2) := by decide +kernel
theorem dX4_read_77 : decode cX4_read 77 = .ok (.invokevirtual 44, 3) := by decide +kernel
theorem dX4_read_80 : decode cX4_read 80 = .ok (.return_, 1) := by decide +kernel
theorem dX4_expect_0 : decode cX4_expect 0 = .ok (.aload_n 0, 1) := by decide +kernel
theorem dX4_expect_1 : decode cX4_expect 1 = .ok (.getfield 23, 3) := by decide +kernel
theorem dX4_expect_4 : decode cX4_expect 4 = .ok (.iload_n 1, 1) := by decide +kernel
theorem dX4_expect_5 : decode cX4_expect 5 = .ok (.if_icmp .ne 10, 3) := by decide +kernel
theorem dX4_expect_8 : decode cX4_expect 8 = .ok (.aload_n 0, 1) := by decide +kernel
theorem dX4_expect_9 : decode cX4_expect 9 = .ok (.invokevirtual 41, 3) := by decide +kernel
theorem dX4_expect_12 : decode cX4_expect 12 = .ok (.goto 7, 3) := by decide +kernel
theorem dX4_expect_15 : decode cX4_expect 15 = .ok (.aload_n 0, 1) := by decide +kernel
theorem dX4_expect_16 : decode cX4_expect 16 = .ok (.invokevirtual 58, 3) := by decide +kernel
theorem dX4_expect_19 : decode cX4_expect 19 = .ok (.return_, 1) := by decide +kernel
theorem dX4_fail_0 : decode cX4_fail 0 = .ok (.aload_n 0, 1) := by decide +kernel
theorem dX4_fail_1 : decode cX4_fail 1 = .ok (.getfield 15, 3) := by decide +kernel
theorem dX4_fail_4 : decode cX4_fail 4 = .ok (.ifCond .ge 11, 3) := by decide +kernel
theorem dX4_fail_7 : decode cX4_fail 7 = .ok (.aload_n 0, 1) := by decide +kernel
theorem dX4_fail_8 : decode cX4_fail 8 = .ok (.aload_n 0, 1) := by decide +kernel
theorem dX4_fail_9 : decode cX4_fail 9 = .ok (.getfield 61, 3) := by decide +kernel
theorem dX4_fail_12 : decode cX4_fail 12 = .ok (.putfield 15, 3) := by decide +kernel
theorem dX4_fail_15 : decode cX4_fail 15 = .ok (.return_, 1) := by decide +kernel
theorem dX4_isNow_0 : decode cX4_isNow 0 = .ok (.aload_n 0, 1) := by decide +kernel
theorem dX4_isNow_1 : decode cX4_isNow 1 = .ok (.getfield 15, 3) := by decide +kernel
theorem dX4_isNow_4 : decode cX4_isNow 4 = .ok (.ifCond .ge 15, 3) := by decide +kernel
theorem dX4_isNow_7 : decode cX4_isNow 7 = .ok (.aload_n 0, 1) := by decide +kernel
theorem dX4_isNow_8 : decode cX4_isNow 8 = .ok (.getfield 23, 3) := by decide +kernel
theorem dX4_isNow_11 : decode cX4_isNow 11 = .ok (.iload_n 1, 1) := by decide +kernel
theorem dX4_isNow_12 : decode cX4_isNow 12 = .ok (.if_icmp .ne 7, 3) := by decide +kernel
theorem dX4_isNow_15 : decode cX4_isNow 15 = .ok (.iconst 1, 1) := by decide +kernel
theorem dX4_isNow_16 : decode cX4_isNow 16 = .ok (.goto 4, 3) := by decide +kernel
theorem dX4_isNow_19 : decode cX4_isNow 19 = .ok (.iconst 0, 1) := by decide +kernel
theorem dX4_isNow_20 : decode cX4_isNow 20 = .ok (.ireturn, 1) := by decide +kernel
theorem dX4_byteAt_0 : decode cX4_byteAt 0 = .ok (.iload_n 1, 1) := by decide +kernel
theorem dX4_byteAt_1 : decode cX4_byteAt 1 = .ok (.aload_n 0, 1) := by decide +kernel
theorem dX4_byteAt_2 : decode cX4_byteAt 2 = .ok (.getfield 32, 3) := by decide +kernel
theorem dX4_byteAt_5 : decode cX4_byteAt 5 = .ok (.if_icmp .ge 12, 3) := by decide +kernel
theorem dX4_byteAt_8 : decode cX4_byteAt 8 = .ok (.aload_n 0, 1) := by decide +kernel
theorem dX4_byteAt_9 : decode cX4_byteAt 9 = .ok (.getfield 19, 3) := by decide +kernel
theorem dX4_byteAt_12 : decode cX4_byteAt 12 = .ok (.iload_n 1, 1) := by decide +kernel
theorem dX4_byteAt_13 : decode cX4_byteAt 13 = .ok (.baload, 1) := by decide +kernel
theorem dX4_byteAt_14 : decode cX4_byteAt 14 = .ok (.goto 4, 3) := by decide +kernel
theorem dX4_byteAt_17 : decode cX4_byteAt 17 = .ok (.iconst (-1), 1) := by decide +kernel
theorem dX4_byteAt_18 : decode cX4_byteAt 18 = .ok (.ireturn, 1) := by decide +kernel
theorem dX4_next_0 : decode cX4_next 0 = .ok (.aload_n 0, 1) := by decide +kernel
theorem dX4_next_1 : decode cX4_next 1 = .ok (.getfield 35, 3) := by decide +kernel
theorem dX4_next_4 : decode cX4_next 4 = .ok (.aload_n 0, 1) := by decide +kernel
theorem dX4_next_5 : decode cX4_next 5 = .ok (.getfield 32, 3) := by decide +kernel
theorem dX4_next_8 : decode cX4_next 8 = .ok (.if_icmp .ge 44, 3) := by decide +kernel
theorem dX4_next_11 : decode cX4_next 11 = .ok (.aload_n 0, 1) := by decide +kernel
theorem dX4_next_12 : decode cX4_next 12 = .ok (.getfield 19, 3) := by decide +kernel
theorem dX4_next_15 : decode cX4_next 15 = .ok (.aload_n 0, 1) := by decide +kernel
theorem dX4_next_16 : decode cX4_next 16 = .ok (.getfield 35, 3) := by decide +kernel
theorem dX4_next_19 : decode cX4_next 19 = .ok (.baload, 1) := by decide +kernel
theorem dX4_next_20 : decode cX4_next 20 = .ok (.bipush 32, 2) := by decide +kernel
theorem dX4_next_22 : decode cX4_next 22 = .ok (.if_icmp .eq 17, 3) := by decide +kernel
theorem dX4_next_25 : decode cX4_next 25 = .ok (.aload_n 0, 1) := by decide +kernel
theorem dX4_next_26 : decode cX4_next 26 = .ok (.getfield 19, 3) := by decide +kernel
theorem dX4_next_29 : decode cX4_next 29 = .ok (.aload_n 0, 1) := by decide +kernel
theorem dX4_next_30 : decode cX4_next 30 = .ok (.getfield 35, 3) := by decide +kernel
theorem dX4_next_33 : decode cX4_next 33 = .ok (.baload, 1) := by decide +kernel
theorem dX4_next_34 : decode cX4_next 34 = .ok (.bipush 10, 2) := by decide +kernel
theorem dX4_next_36 : decode cX4_next 36 = .ok (.if_icmp .ne 16, 3) := by decide +kernel
theorem dX4_next_39 : decode cX4_next 39 = .ok (.aload_n 0, 1) := by decide +kernel
theorem dX4_next_40 : decode cX4_next 40 = .ok (.dup, 1) := by decide +kernel
theorem dX4_next_41 : decode cX4_next 41 = .ok (.getfield 35, 3) := by decide +kernel
theorem dX4_next_44 : decode cX4_next 44 = .ok (.iconst 1, 1) := by decide +kernel
theorem dX4_next_45 : decode cX4_next 45 = .ok (.iadd, 1) := by decide +kernel
theorem dX4_next_46 : decode cX4_next 46 = .ok (.putfield 35, 3) := by decide +kernel
theorem dX4_next_49 : decode cX4_next 49 = .ok (.goto (-49), 3) := by decide +kernel
theorem dX4_next_52 : decode cX4_next 52 = .ok (.aload_n 0, 1) := by decide +kernel
theorem dX4_next_53 : decode cX4_next 53 = .ok (.aload_n 0, 1) := by decide +kernel
theorem dX4_next_54 : decode cX4_next 54 = .ok (.getfield 35, 3) := by decide +kernel
theorem dX4_next_57 : decode cX4_next 57 = .ok (.putfield 61, 3) := by decide +kernel
theorem dX4_next_60 : decode cX4_next 60 = .ok (.aload_n 0, 1) := by decide +kernel
theorem dX4_next_61 : decode cX4_next 61 = .ok (.aload_n 0, 1) := by decide +kernel
theorem dX4_next_62 : decode cX4_next 62 = .ok (.getfield 35, 3) := by decide +kernel
theorem dX4_next_65 : decode cX4_next 65 = .ok (.invokevirtual 64, 3) := by decide +kernel
theorem dX4_next_68 : decode cX4_next 68 = .ok (.istore_n 1, 1) := by decide +kernel
theorem dX4_next_69 : decode cX4_next 69 = .ok (.aload_n 0, 1) := by decide +kernel
theorem dX4_next_70 : decode cX4_next 70 = .ok (.getfield 35, 3) := by decide +kernel
theorem dX4_next_73 : decode cX4_next 73 = .ok (.aload_n 0, 1) := by decide +kernel
theorem dX4_next_74 : decode cX4_next 74 = .ok (.getfield 32, 3) := by decide +kernel
theorem dX4_next_77 : decode cX4_next 77 = .ok (.if_icmp .lt 12, 3) := by decide +kernel
theorem dX4_next_80 : decode cX4_next 80 = .ok (.aload_n 0, 1) := by decide +kernel
theorem dX4_next_81 : decode cX4_next 81 = .ok (.bipush 12, 2) := by decide +kernel
theorem dX4_next_83 : decode cX4_next 83 = .ok (.putfield 23, 3) := by decide +kernel
theorem dX4_next_86 : decode cX4_next 86 = .ok (.goto 58, 3) := by decide +kernel
theorem dX4_next_89 : decode cX4_next 89 = .ok (.iload_n 1, 1) := by decide +kernel
theorem dX4_next_90 : decode cX4_next 90 = .ok (.invokestatic 68, 3) := by decide +kernel
theorem dX4_next_93 : decode cX4_next 93 = .ok (.ifCond .eq 10, 3) := by decide +kernel
theorem dX4_next_96 : decode cX4_next 96 = .ok (.aload_n 0, 1) := by decide +kernel
theorem dX4_next_97 : decode cX4_next 97 = .ok (.invokevirtual 72, 3) := by decide +kernel
theorem dX4_next_100 : decode cX4_next 100 = .ok (.goto 44, 3) := by decide +kernel
theorem dX4_next_103 : decode cX4_next 103 = .ok (.iload_n 1, 1) := by decide +kernel
theorem dX4_next_104 : decode cX4_next 104 = .ok (.invokestatic 75, 3) := by decide +kernel
theorem dX4_next_107 : decode cX4_next 107 = .ok (.ifCond .eq 10, 3) := by decide +kernel
theorem dX4_next_110 : decode cX4_next 110 = .ok (.aload_n 0, 1) := by decide +kernel
theorem dX4_next_111 : decode cX4_next 111 = .ok (.invokevirtual 78, 3) := by decide +kernel
theorem dX4_next_114 : decode cX4_next 114 = .ok (.goto 30, 3) := by decide +kernel
theorem dX4_next_117 : decode cX4_next 117 = .ok (.aload_n 0, 1) := by decide +kernel
theorem dX4_next_118 : decode cX4_next 118 = .ok (.dup, 1) := by decide +kernel
theorem dX4_next_119 : decode cX4_next 119 = .ok (.getfield 35, 3) := by decide +kernel
theorem dX4_next_122 : decode cX4_next 122 = .ok (.iconst 1, 1) := by decide +kernel
theorem dX4_next_123 : decode cX4_next 123 = .ok (.iadd, 1) := by decide +kernel
theorem dX4_next_124 : decode cX4_next 124 = .ok (.putfield 35, 3) := by decide +kernel
theorem dX4_next_127 : decode cX4_next 127 = .ok (.aload_n 0, 1) := by decide +kernel
theorem dX4_next_128 : decode cX4_next 128 = .ok (.iload_n 1, 1) := by decide +kernel
theorem dX4_next_129 : decode cX4_next 129 = .ok (.invokestatic 81, 3) := by decide +kernel
theorem dX4_next_132 : decode cX4_next 132 = .ok (.ifCond .eq 7, 3) := by decide +kernel
theorem dX4_next_135 : decode cX4_next 135 = .ok (.iload_n 1, 1) := by decide +kernel
theorem dX4_next_136 : decode cX4_next 136 = .ok (.goto 5, 3) := by decide +kernel
theorem dX4_next_139 : decode cX4_next 139 = .ok (.bipush 13, 2) := by decide +kernel
theorem dX4_next_141 : decode cX4_next 141 = .ok (.putfield 23, 3) := by decide +kernel
theorem dX4_next_144 : decode cX4_next 144 = .ok (.return_, 1) := by decide +kernel
theorem dX4_isLetter_0 : decode cX4_isLetter 0 = .ok (.iload_n 0, 1) := by decide +kernel
theorem dX4_isLetter_1 : decode cX4_isLetter 1 = .ok (.bipush 97, 2) := by decide +kernel
theorem dX4_isLetter_3 : decode cX4_isLetter 3 = .ok (.if_icmp .lt 13, 3) := by decide +kernel
theorem dX4_isLetter_6 : decode cX4_isLetter 6 = .ok (.iload_n 0, 1) := by decide +kernel
theorem dX4_isLetter_7 : decode cX4_isLetter 7 = .ok (.bipush 122, 2) := by decide +kernel
theorem dX4_isLetter_9 : decode cX4_isLetter 9 = .ok (.if_icmp .gt 7, 3) := by decide +kernel
theorem dX4_isLetter_12 : decode cX4_isLetter 12 = .ok (.iconst 1, 1) := by decide +kernel
theorem dX4_isLetter_13 : decode cX4_isLetter 13 = .ok (.goto 4, 3) := by decide +kernel
theorem dX4_isLetter_16 : decode cX4_isLetter 16 = .ok (.iconst 0, 1) := by decide +kernel
theorem dX4_isLetter_17 : decode cX4_isLetter 17 = .ok (.ireturn, 1) := by decide +kernel
theorem dX4_isDigit_0 : decode cX4_isDigit 0 = .ok (.iload_n 0, 1) := by decide +kernel
theorem dX4_isDigit_1 : decode cX4_isDigit 1 = .ok (.bipush 48, 2) := by decide +kernel
theorem dX4_isDigit_3 : decode cX4_isDigit 3 = .ok (.if_icmp .lt 13, 3) := by decide +kernel
theorem dX4_isDigit_6 : decode cX4_isDigit 6 = .ok (.iload_n 0, 1) := by decide +kernel
theorem dX4_isDigit_7 : decode cX4_isDigit 7 = .ok (.bipush 57, 2) := by decide +kernel
theorem dX4_isDigit_9 : decode cX4_isDigit 9 = .ok (.if_icmp .gt 7, 3) := by decide +kernel
theorem dX4_isDigit_12 : decode cX4_isDigit 12 = .ok (.iconst 1, 1) := by decide +kernel
theorem dX4_isDigit_13 : decode cX4_isDigit 13 = .ok (.goto 4, 3) := by decide +kernel
theorem dX4_isDigit_16 : decode cX4_isDigit 16 = .ok (.iconst 0, 1) := by decide +kernel
theorem dX4_isDigit_17 : decode cX4_isDigit 17 = .ok (.ireturn, 1) := by decide +kernel
theorem dX4_isSign_0 : decode cX4_isSign 0 = .ok (.iload_n 0, 1) := by decide +kernel
theorem dX4_isSign_1 : decode cX4_isSign 1 = .ok (.bipush 40, 2) := by decide +kernel
theorem dX4_isSign_3 : decode cX4_isSign 3 = .ok (.if_icmp .eq 45, 3) := by decide +kernel
theorem dX4_isSign_6 : decode cX4_isSign 6 = .ok (.iload_n 0, 1) := by decide +kernel
theorem dX4_isSign_7 : decode cX4_isSign 7 = .ok (.bipush 41, 2) := by decide +kernel
theorem dX4_isSign_9 : decode cX4_isSign 9 = .ok (.if_icmp .eq 39, 3) := by decide +kernel
theorem dX4_isSign_12 : decode cX4_isSign 12 = .ok (.iload_n 0, 1) := by decide +kernel
theorem dX4_isSign_13 : decode cX4_isSign 13 = .ok (.bipush 59, 2) := by decide +kernel
theorem dX4_isSign_15 : decode cX4_isSign 15 = .ok (.if_icmp .eq 33, 3) := by decide +kernel
theorem dX4_isSign_18 : decode cX4_isSign 18 = .ok (.iload_n 0, 1) := by decide +kernel
theorem dX4_isSign_19 : decode cX4_isSign 19 = .ok (.bipush 43, 2) := by decide +kernel
theorem dX4_isSign_21 : decode cX4_isSign 21 = .ok (.if_icmp .eq 27, 3) := by decide +kernel
theorem dX4_isSign_24 : decode cX4_isSign 24 = .ok (.iload_n 0, 1) := by decide +kernel
theorem dX4_isSign_25 : decode cX4_isSign 25 = .ok (.bipush 45, 2) := by decide +kernel
theorem dX4_isSign_27 : decode cX4_isSign 27 = .ok (.if_icmp .eq 21, 3) := by decide +kernel
theorem dX4_isSign_30 : decode cX4_isSign 30 = .ok (.iload_n 0, 1) := by decide +kernel
theorem dX4_isSign_31 : decode cX4_isSign 31 = .ok (.bipush 42, 2) := by decide +kernel
theorem dX4_isSign_33 : decode cX4_isSign 33 = .ok (.if_icmp .eq 15, 3) := by decide +kernel
theorem dX4_isSign_36 : decode cX4_isSign 36 = .ok (.iload_n 0, 1) := by decide +kernel
theorem dX4_isSign_37 : decode cX4_isSign 37 = .ok (.bipush 60, 2) := by decide +kernel
theorem dX4_isSign_39 : decode cX4_isSign 39 = .ok (.if_icmp .eq 9, 3) := by decide +kernel
theorem dX4_isSign_42 : decode cX4_isSign 42 = .ok (.iload_n 0, 1) := by decide +kernel
theorem dX4_isSign_43 : decode cX4_isSign 43 = .ok (.bipush 61, 2) := by decide +kernel
theorem dX4_isSign_45 : decode cX4_isSign 45 = .ok (.if_icmp .ne 7, 3) := by decide +kernel
theorem dX4_isSign_48 : decode cX4_isSign 48 = .ok (.iconst 1, 1) := by decide +kernel
theorem dX4_isSign_49 : decode cX4_isSign 49 = .ok (.goto 4, 3) := by decide +kernel
theorem dX4_isSign_52 : decode cX4_isSign 52 = .ok (.iconst 0, 1) := by decide +kernel
theorem dX4_isSign_53 : decode cX4_isSign 53 = .ok (.ireturn, 1) := by decide +kernel
theorem dX4_readWord_0 : decode cX4_readWord 0 = .ok (.aload_n 0, 1) := by decide +kernel
theorem dX4_readWord_1 : decode cX4_readWord 1 = .ok (.getfield 35, 3) := by decide +kernel
theorem dX4_readWord_4 : decode cX4_readWord 4 = .ok (.aload_n 0, 1) := by decide +kernel
theorem dX4_readWord_5 : decode cX4_readWord 5 = .ok (.getfield 32, 3) := by decide +kernel
theorem dX4_readWord_8 : decode cX4_readWord 8 = .ok (.if_icmp .ge 30, 3) := by decide +kernel
theorem dX4_readWord_11 : decode cX4_readWord 11 = .ok (.aload_n 0, 1) := by decide +kernel
theorem dX4_readWord_12 : decode cX4_readWord 12 = .ok (.aload_n 0, 1) := by decide +kernel
theorem dX4_readWord_13 : decode cX4_readWord 13 = .ok (.getfield 35, 3) := by decide +kernel
theorem dX4_readWord_16 : decode cX4_readWord 16 = .ok (.invokevirtual 64, 3) := by decide +kernel
theorem dX4_readWord_19 : decode cX4_readWord 19 = .ok (.invokestatic 68, 3) := by decide +kernel
theorem dX4_readWord_22 : decode cX4_readWord 22 = .ok (.ifCond .eq 16, 3) := by decide +kernel
theorem dX4_readWord_25 : decode cX4_readWord 25 = .ok (.aload_n 0, 1) := by decide +kernel
theorem dX4_readWord_26 : decode cX4_readWord 26 = .ok (.dup, 1) := by decide +kernel
theorem dX4_readWord_27 : decode cX4_readWord 27 = .ok (.getfield 35, 3) := by decide +kernel
theorem dX4_readWord_30 : decode cX4_readWord 30 = .ok (.iconst 1, 1) := by decide +kernel
theorem dX4_readWord_31 : decode cX4_readWord 31 = .ok (.iadd, 1) := by decide +kernel
theorem dX4_readWord_32 : decode cX4_readWord 32 = .ok (.putfield 35, 3) := by decide +kernel
theorem dX4_readWord_35 : decode cX4_readWord 35 = .ok (.goto (-35), 3) := by decide +kernel
theorem dX4_readWord_38 : decode cX4_readWord 38 = .ok (.aload_n 0, 1) := by decide +kernel
theorem dX4_readWord_39 : decode cX4_readWord 39 = .ok (.getfield 35, 3) := by decide +kernel
theorem dX4_readWord_42 : decode cX4_readWord 42 = .ok (.aload_n 0, 1) := by decide +kernel
theorem dX4_readWord_43 : decode cX4_readWord 43 = .ok (.getfield 61, 3) := by decide +kernel
theorem dX4_readWord_46 : decode cX4_readWord 46 = .ok (.isub, 1) := by decide +kernel
theorem dX4_readWord_47 : decode cX4_readWord 47 = .ok (.istore_n 1, 1) := by decide +kernel
theorem dX4_readWord_48 : decode cX4_readWord 48 = .ok (.aload_n 0, 1) := by decide +kernel
theorem dX4_readWord_49 : decode cX4_readWord 49 = .ok (.bipush 13, 2) := by decide +kernel
theorem dX4_readWord_51 : decode cX4_readWord 51 = .ok (.putfield 23, 3) := by decide +kernel
theorem dX4_readWord_54 : decode cX4_readWord 54 = .ok (.iconst 0, 1) := by decide +kernel
theorem dX4_readWord_55 : decode cX4_readWord 55 = .ok (.istore_n 2, 1) := by decide +kernel
theorem dX4_readWord_56 : decode cX4_readWord 56 = .ok (.iconst 0, 1) := by decide +kernel
theorem dX4_readWord_57 : decode cX4_readWord 57 = .ok (.istore_n 3, 1) := by decide +kernel
theorem dX4_readWord_58 : decode cX4_readWord 58 = .ok (.iconst 1, 1) := by decide +kernel
theorem dX4_readWord_59 : decode cX4_readWord 59 = .ok (.istore 4, 2) := by decide +kernel
theorem dX4_readWord_61 : decode cX4_readWord 61 = .ok (.iconst 0, 1) := by decide +kernel
theorem dX4_readWord_62 : decode cX4_readWord 62 = .ok (.istore 5, 2) := by decide +kernel
theorem dX4_readWord_64 : decode cX4_readWord 64 = .ok (.iload 5, 2) := by decide +kernel
theorem dX4_readWord_66 : decode cX4_readWord 66 = .ok (.ldc 84, 2) := by decide +kernel
theorem dX4_readWord_68 : decode cX4_readWord 68 = .ok (.invokevirtual 86, 3) := by decide +kernel
theorem dX4_readWord_71 : decode cX4_readWord 71 = .ok (.if_icmp .ge 86, 3) := by decide +kernel
theorem dX4_readWord_74 : decode cX4_readWord 74 = .ok (.ldc 84, 2) := by decide +kernel
theorem dX4_readWord_76 : decode cX4_readWord 76 = .ok (.iload 5, 2) := by decide +kernel
theorem dX4_readWord_78 : decode cX4_readWord 78 = .ok (.invokevirtual 91, 3) := by decide +kernel
theorem dX4_readWord_81 : decode cX4_readWord 81 = .ok (.istore 6, 2) := by decide +kernel
theorem dX4_readWord_83 : decode cX4_readWord 83 = .ok (.iload 6, 2) := by decide +kernel
theorem dX4_readWord_85 : decode cX4_readWord 85 = .ok (.bipush 32, 2) := by decide +kernel
theorem dX4_readWord_87 : decode cX4_readWord 87 = .ok (.if_icmp .eq 41, 3) := by decide +kernel
theorem dX4_readWord_90 : decode cX4_readWord 90 = .ok (.iload 4, 2) := by decide +kernel
theorem dX4_readWord_92 : decode cX4_readWord 92 = .ok (.ifCond .eq 27, 3) := by decide +kernel
theorem dX4_readWord_95 : decode cX4_readWord 95 = .ok (.iload_n 3, 1) := by decide +kernel
theorem dX4_readWord_96 : decode cX4_readWord 96 = .ok (.iload_n 1, 1) := by decide +kernel
theorem dX4_readWord_97 : decode cX4_readWord 97 = .ok (.if_icmp .ge 22, 3) := by decide +kernel
theorem dX4_readWord_100 : decode cX4_readWord 100 = .ok (.aload_n 0, 1) := by decide +kernel
theorem dX4_readWord_101 : decode cX4_readWord 101 = .ok (.aload_n 0, 1) := by decide +kernel
theorem dX4_readWord_102 : decode cX4_readWord 102 = .ok (.getfield 61, 3) := by decide +kernel
theorem dX4_readWord_105 : decode cX4_readWord 105 = .ok (.iload_n 3, 1) := by decide +kernel
theorem dX4_readWord_106 : decode cX4_readWord 106 = .ok (.iadd, 1) := by decide +kernel
theorem dX4_readWord_107 : decode cX4_readWord 107 = .ok (.invokevirtual 64, 3) := by decide +kernel
theorem dX4_readWord_110 : decode cX4_readWord 110 = .ok (.iload 6, 2) := by decide +kernel
theorem dX4_readWord_112 : decode cX4_readWord 112 = .ok (.if_icmp .ne 7, 3) := by decide +kernel
theorem dX4_readWord_115 : decode cX4_readWord 115 = .ok (.iconst 1, 1) := by decide +kernel
theorem dX4_readWord_116 : decode cX4_readWord 116 = .ok (.goto 4, 3) := by decide +kernel
theorem dX4_readWord_119 : decode cX4_readWord 119 = .ok (.iconst 0, 1) := by decide +kernel
theorem dX4_readWord_120 : decode cX4_readWord 120 = .ok (.istore 4, 2) := by decide +kernel
theorem dX4_readWord_122 : decode cX4_readWord 122 = .ok (.iinc 3 1, 3) := by decide +kernel
theorem dX4_readWord_125 : decode cX4_readWord 125 = .ok (.goto 26, 3) := by decide +kernel
theorem dX4_readWord_128 : decode cX4_readWord 128 = .ok (.iload 4, 2) := by decide +kernel
theorem dX4_readWord_130 : decode cX4_readWord 130 = .ok (.ifCond .eq 13, 3) := by decide +kernel
theorem dX4_readWord_133 : decode cX4_readWord 133 = .ok (.iload_n 3, 1) := by decide +kernel
theorem dX4_readWord_134 : decode cX4_readWord 134 = .ok (.iload_n 1, 1) := by decide +kernel
theorem dX4_readWord_135 : decode cX4_readWord 135 = .ok (.if_icmp .ne 8, 3) := by decide +kernel
theorem dX4_readWord_138 : decode cX4_readWord 138 = .ok (.aload_n 0, 1) := by decide +kernel
theorem dX4_readWord_139 : decode cX4_readWord 139 = .ok (.iload_n 2, 1) := by decide +kernel
theorem dX4_readWord_140 : decode cX4_readWord 140 = .ok (.putfield 23, 3) := by decide +kernel
theorem dX4_readWord_143 : decode cX4_readWord 143 = .ok (.iinc 2 1, 3) := by decide +kernel
theorem dX4_readWord_146 : decode cX4_readWord 146 = .ok (.iconst 0, 1) := by decide +kernel
theorem dX4_readWord_147 : decode cX4_readWord 147 = .ok (.istore_n 3, 1) := by decide +kernel
theorem dX4_readWord_148 : decode cX4_readWord 148 = .ok (.iconst 1, 1) := by decide +kernel
theorem dX4_readWord_149 : decode cX4_readWord 149 = .ok (.istore 4, 2) := by decide +kernel
theorem dX4_readWord_151 : decode cX4_readWord 151 = .ok (.iinc 5 1, 3) := by decide +kernel
theorem dX4_readWord_154 : decode cX4_readWord 154 = .ok (.goto (-90), 3) := by decide +kernel
theorem dX4_readWord_157 : decode cX4_readWord 157 = .ok (.return_, 1) := by decide +kernel
theorem dX4_readNumber_0 : decode cX4_readNumber 0 = .ok (.aload_n 0, 1) := by decide +kernel
theorem dX4_readNumber_1 : decode cX4_readNumber 1 = .ok (.iconst 0, 1) := by decide +kernel
theorem dX4_readNumber_2 : decode cX4_readNumber 2 = .ok (.putfield 95, 3) := by decide +kernel
theorem dX4_readNumber_5 : decode cX4_readNumber 5 = .ok (.aload_n 0, 1) := by decide +kernel
theorem dX4_readNumber_6 : decode cX4_readNumber 6 = .ok (.getfield 35, 3) := by decide +kernel
theorem dX4_readNumber_9 : decode cX4_readNumber 9 = .ok (.aload_n 0, 1) := by decide +kernel
theorem dX4_readNumber_10 : decode cX4_readNumber 10 = .ok (.getfield 32, 3) := by decide +kernel
theorem dX4_readNumber_13 : decode cX4_readNumber 13 = .ok (.if_icmp .ge 53, 3) := by decide +kernel
theorem dX4_readNumber_16 : decode cX4_readNumber 16 = .ok (.aload_n 0, 1) := by decide +kernel
theorem dX4_readNumber_17 : decode cX4_readNumber 17 = .ok (.aload_n 0, 1) := by decide +kernel
theorem dX4_readNumber_18 : decode cX4_readNumber 18 = .ok (.getfield 35, 3) := by decide +kernel
theorem dX4_readNumber_21 : decode cX4_readNumber 21 = .ok (.invokevirtual 64, 3) := by decide +kernel
theorem dX4_readNumber_24 : decode cX4_readNumber 24 = .ok (.invokestatic 75, 3) := by decide +kernel
theorem dX4_readNumber_27 : decode cX4_readNumber 27 = .ok (.ifCond .eq 39, 3) := by decide +kernel
theorem dX4_readNumber_30 : decode cX4_readNumber 30 = .ok (.aload_n 0, 1) := by decide +kernel
theorem dX4_readNumber_31 : decode cX4_readNumber 31 = .ok (.aload_n 0, 1) := by decide +kernel
theorem dX4_readNumber_32 : decode cX4_readNumber 32 = .ok (.getfield 95, 3) := by decide +kernel
theorem dX4_readNumber_35 : decode cX4_readNumber 35 = .ok (.bipush 10, 2) := by decide +kernel
theorem dX4_readNumber_37 : decode cX4_readNumber 37 = .ok (.imul, 1) := by decide +kernel
theorem dX4_readNumber_38 : decode cX4_readNumber 38 = .ok (.aload_n 0, 1) := by decide +kernel
theorem dX4_readNumber_39 : decode cX4_readNumber 39 = .ok (.aload_n 0, 1) := by decide +kernel
theorem dX4_readNumber_40 : decode cX4_readNumber 40 = .ok (.getfield 35, 3) := by decide +kernel
theorem dX4_readNumber_43 : decode cX4_readNumber 43 = .ok (.invokevirtual 64, 3) := by decide +kernel
theorem dX4_readNumber_46 : decode cX4_readNumber 46 = .ok (.bipush 48, 2) := by decide +kernel
theorem dX4_readNumber_48 : decode cX4_readNumber 48 = .ok (.isub, 1) := by decide +kernel
theorem dX4_readNumber_49 : decode cX4_readNumber 49 = .ok (.iadd, 1) := by decide +kernel
theorem dX4_readNumber_50 : decode cX4_readNumber 50 = .ok (.putfield 95, 3) := by decide +kernel
theorem dX4_readNumber_53 : decode cX4_readNumber 53 = .ok (.aload_n 0, 1) := by decide +kernel
theorem dX4_readNumber_54 : decode cX4_readNumber 54 = .ok (.dup, 1) := by decide +kernel
theorem dX4_readNumber_55 : decode cX4_readNumber 55 = .ok (.getfield 35, 3) := by decide +kernel
theorem dX4_readNumber_58 : decode cX4_readNumber 58 = .ok (.iconst 1, 1) := by decide +kernel
theorem dX4_readNumber_59 : decode cX4_readNumber 59 = .ok (.iadd, 1) := by decide +kernel
theorem dX4_readNumber_60 : decode cX4_readNumber 60 = .ok (.putfield 35, 3) := by decide +kernel
theorem dX4_readNumber_63 : decode cX4_readNumber 63 = .ok (.goto (-58), 3) := by decide +kernel
theorem dX4_readNumber_66 : decode cX4_readNumber 66 = .ok (.aload_n 0, 1) := by decide +kernel
theorem dX4_readNumber_67 : decode cX4_readNumber 67 = .ok (.aload_n 0, 1) := by decide +kernel
theorem dX4_readNumber_68 : decode cX4_readNumber 68 = .ok (.getfield 35, 3) := by decide +kernel
theorem dX4_readNumber_71 : decode cX4_readNumber 71 = .ok (.aload_n 0, 1) := by decide +kernel
theorem dX4_readNumber_72 : decode cX4_readNumber 72 = .ok (.getfield 61, 3) := by decide +kernel
theorem dX4_readNumber_75 : decode cX4_readNumber 75 = .ok (.isub, 1) := by decide +kernel
theorem dX4_readNumber_76 : decode cX4_readNumber 76 = .ok (.iconst 4, 1) := by decide +kernel
theorem dX4_readNumber_77 : decode cX4_readNumber 77 = .ok (.if_icmp .gt 8, 3) := by decide +kernel
theorem dX4_readNumber_80 : decode cX4_readNumber 80 = .ok (.bipush 11, 2) := by decide +kernel
theorem dX4_readNumber_82 : decode cX4_readNumber 82 = .ok (.goto 5, 3) := by decide +kernel
theorem dX4_readNumber_85 : decode cX4_readNumber 85 = .ok (.bipush 13, 2) := by decide +kernel
theorem dX4_readNumber_87 : decode cX4_readNumber 87 = .ok (.putfield 23, 3) := by decide +kernel
theorem dX4_readNumber_90 : decode cX4_readNumber 90 = .ok (.return_, 1) := by decide +kernel
theorem dX4_readE_0 : decode cX4_readE 0 = .ok (.aload_n 0, 1) := by decide +kernel
theorem dX4_readE_1 : decode cX4_readE 1 = .ok (.invokevirtual 98, 3) := by decide +kernel
theorem dX4_readE_4 : decode cX4_readE 4 = .ok (.istore_n 1, 1) := by decide +kernel
theorem dX4_readE_5 : decode cX4_readE 5 = .ok (.iconst 0, 1) := by decide +kernel
theorem dX4_readE_6 : decode cX4_readE 6 = .ok (.istore_n 2, 1) := by decide +kernel
theorem dX4_readE_7 : decode cX4_readE 7 = .ok (.iload_n 2, 1) := by decide +kernel
theorem dX4_readE_8 : decode cX4_readE 8 = .ok (.bipush 120, 2) := by decide +kernel
theorem dX4_readE_10 : decode cX4_readE 10 = .ok (.if_icmp .ge 41, 3) := by decide +kernel
theorem dX4_readE_13 : decode cX4_readE 13 = .ok (.aload_n 0, 1) := by decide +kernel
theorem dX4_readE_14 : decode cX4_readE 14 = .ok (.bipush 8, 2) := by decide +kernel
theorem dX4_readE_16 : decode cX4_readE 16 = .ok (.invokevirtual 101, 3) := by decide +kernel
theorem dX4_readE_19 : decode cX4_readE 19 = .ok (.ifCond .eq 32, 3) := by decide +kernel
theorem dX4_readE_22 : decode cX4_readE 22 = .ok (.aload_n 0, 1) := by decide +kernel
theorem dX4_readE_23 : decode cX4_readE 23 = .ok (.invokevirtual 41, 3) := by decide +kernel
theorem dX4_readE_26 : decode cX4_readE 26 = .ok (.aload_n 0, 1) := by decide +kernel
theorem dX4_readE_27 : decode cX4_readE 27 = .ok (.invokevirtual 98, 3) := by decide +kernel
theorem dX4_readE_30 : decode cX4_readE 30 = .ok (.istore_n 3, 1) := by decide +kernel
theorem dX4_readE_31 : decode cX4_readE 31 = .ok (.iload_n 1, 1) := by decide +kernel
theorem dX4_readE_32 : decode cX4_readE 32 = .ok (.ifCond .ne 7, 3) := by decide +kernel
theorem dX4_readE_35 : decode cX4_readE 35 = .ok (.iload_n 3, 1) := by decide +kernel
theorem dX4_readE_36 : decode cX4_readE 36 = .ok (.ifCond .eq 7, 3) := by decide +kernel
theorem dX4_readE_39 : decode cX4_readE 39 = .ok (.iconst 1, 1) := by decide +kernel
theorem dX4_readE_40 : decode cX4_readE 40 = .ok (.goto 4, 3) := by decide +kernel
theorem dX4_readE_43 : decode cX4_readE 43 = .ok (.iconst 0, 1) := by decide +kernel
theorem dX4_readE_44 : decode cX4_readE 44 = .ok (.istore_n 1, 1) := by decide +kernel
theorem dX4_readE_45 : decode cX4_readE 45 = .ok (.iinc 2 1, 3) := by decide +kernel
theorem dX4_readE_48 : decode cX4_readE 48 = .ok (.goto (-41), 3) := by decide +kernel
theorem dX4_readE_51 : decode cX4_readE 51 = .ok (.iload_n 1, 1) := by decide +kernel
theorem dX4_readE_52 : decode cX4_readE 52 = .ok (.ireturn, 1) := by decide +kernel
theorem dX4_readAnd_0 : decode cX4_readAnd 0 = .ok (.aload_n 0, 1) := by decide +kernel
theorem dX4_readAnd_1 : decode cX4_readAnd 1 = .ok (.invokevirtual 104, 3) := by decide +kernel
theorem dX4_readAnd_4 : decode cX4_readAnd 4 = .ok (.istore_n 1, 1) := by decide +kernel
theorem dX4_readAnd_5 : decode cX4_readAnd 5 = .ok (.iconst 0, 1) := by decide +kernel
theorem dX4_readAnd_6 : decode cX4_readAnd 6 = .ok (.istore_n 2, 1) := by decide +kernel
theorem dX4_readAnd_7 : decode cX4_readAnd 7 = .ok (.iload_n 2, 1) := by decide +kernel
theorem dX4_readAnd_8 : decode cX4_readAnd 8 = .ok (.bipush 120, 2) := by decide +kernel
theorem dX4_readAnd_10 : decode cX4_readAnd 10 = .ok (.if_icmp .ge 41, 3) := by decide +kernel
theorem dX4_readAnd_13 : decode cX4_readAnd 13 = .ok (.aload_n 0, 1) := by decide +kernel
theorem dX4_readAnd_14 : decode cX4_readAnd 14 = .ok (.bipush 9, 2) := by decide +kernel
theorem dX4_readAnd_16 : decode cX4_readAnd 16 = .ok (.invokevirtual 101, 3) := by decide +kernel
theorem dX4_readAnd_19 : decode cX4_readAnd 19 = .ok (.ifCond .eq 32, 3) := by decide +kernel
theorem dX4_readAnd_22 : decode cX4_readAnd 22 = .ok (.aload_n 0, 1) := by decide +kernel
theorem dX4_readAnd_23 : decode cX4_readAnd 23 = .ok (.invokevirtual 41, 3) := by decide +kernel
theorem dX4_readAnd_26 : decode cX4_readAnd 26 = .ok (.aload_n 0, 1) := by decide +kernel
theorem dX4_readAnd_27 : decode cX4_readAnd 27 = .ok (.invokevirtual 104, 3) := by decide +kernel
theorem dX4_readAnd_30 : decode cX4_readAnd 30 = .ok (.istore_n 3, 1) := by decide +kernel
theorem dX4_readAnd_31 : decode cX4_readAnd 31 = .ok (.iload_n 1, 1) := by decide +kernel
theorem dX4_readAnd_32 : decode cX4_readAnd 32 = .ok (.ifCond .eq 11, 3) := by decide +kernel
theorem dX4_readAnd_35 : decode cX4_readAnd 35 = .ok (.iload_n 3, 1) := by decide +kernel
theorem dX4_readAnd_36 : decode cX4_readAnd 36 = .ok (.ifCond .eq 7, 3) := by decide +kernel
theorem dX4_readAnd_39 : decode cX4_readAnd 39 = .ok (.iconst 1, 1) := by decide +kernel
theorem dX4_readAnd_40 : decode cX4_readAnd 40 = .ok (.goto 4, 3) := by decide +kernel
theorem dX4_readAnd_43 : decode cX4_readAnd 43 = .ok (.iconst 0, 1) := by decide +kernel
theorem dX4_readAnd_44 : decode cX4_readAnd 44 = .ok (.istore_n 1, 1) := by decide +kernel
theorem dX4_readAnd_45 : decode cX4_readAnd 45 = .ok (.iinc 2 1, 3) := by decide +kernel
theorem dX4_readAnd_48 : decode cX4_readAnd 48 = .ok (.goto (-41), 3) := by decide +kernel
theorem dX4_readAnd_51 : decode cX4_readAnd 51 = .ok (.iload_n 1, 1) := by decide +kernel
theorem dX4_readAnd_52 : decode cX4_readAnd 52 = .ok (.ireturn, 1) := by decide +kernel
theorem dX4_readNot_0 : decode cX4_readNot 0 = .ok (.aload_n 0, 1) := by decide +kernel
theorem dX4_readNot_1 : decode cX4_readNot 1 = .ok (.bipush 10, 2) := by decide +kernel
theorem dX4_readNot_3 : decode cX4_readNot 3 = .ok (.invokevirtual 101, 3) := by decide +kernel
theorem dX4_readNot_6 : decode cX4_readNot 6 = .ok (.ifCond .eq 37, 3) := by decide +kernel
theorem dX4_readNot_9 : decode cX4_readNot 9 = .ok (.aload_n 0, 1) := by decide +kernel
theorem dX4_readNot_10 : decode cX4_readNot 10 = .ok (.invokevirtual 107, 3) := by decide +kernel
theorem dX4_readNot_13 : decode cX4_readNot 13 = .ok (.ifCond .ne 5, 3) := by decide +kernel
theorem dX4_readNot_16 : decode cX4_readNot 16 = .ok (.iconst 0, 1) := by decide +kernel
theorem dX4_readNot_17 : decode cX4_readNot 17 = .ok (.ireturn, 1) := by decide +kernel
theorem dX4_readNot_18 : decode cX4_readNot 18 = .ok (.aload_n 0, 1) := by decide +kernel
theorem dX4_readNot_19 : decode cX4_readNot 19 = .ok (.invokevirtual 104, 3) := by decide +kernel
theorem dX4_readNot_22 : decode cX4_readNot 22 = .ok (.istore_n 1, 1) := by decide +kernel
theorem dX4_readNot_23 : decode cX4_readNot 23 = .ok (.aload_n 0, 1) := by decide +kernel
theorem dX4_readNot_24 : decode cX4_readNot 24 = .ok (.dup, 1) := by decide +kernel
theorem dX4_readNot_25 : decode cX4_readNot 25 = .ok (.getfield 38, 3) := by decide +kernel
theorem dX4_readNot_28 : decode cX4_readNot 28 = .ok (.iconst 1, 1) := by decide +kernel
theorem dX4_readNot_29 : decode cX4_readNot 29 = .ok (.isub, 1) := by decide +kernel
theorem dX4_readNot_30 : decode cX4_readNot 30 = .ok (.putfield 38, 3) := by decide +kernel
theorem dX4_readNot_33 : decode cX4_readNot 33 = .ok (.iload_n 1, 1) := by decide +kernel
theorem dX4_readNot_34 : decode cX4_readNot 34 = .ok (.ifCond .ne 7, 3) := by decide +kernel
theorem dX4_readNot_37 : decode cX4_readNot 37 = .ok (.iconst 1, 1) := by decide +kernel
theorem dX4_readNot_38 : decode cX4_readNot 38 = .ok (.goto 4, 3) := by decide +kernel
theorem dX4_readNot_41 : decode cX4_readNot 41 = .ok (.iconst 0, 1) := by decide +kernel
theorem dX4_readNot_42 : decode cX4_readNot 42 = .ok (.ireturn, 1) := by decide +kernel
theorem dX4_readNot_43 : decode cX4_readNot 43 = .ok (.aload_n 0, 1) := by decide +kernel
theorem dX4_readNot_44 : decode cX4_readNot 44 = .ok (.invokevirtual 111, 3) := by decide +kernel
theorem dX4_readNot_47 : decode cX4_readNot 47 = .ok (.istore_n 1, 1) := by decide +kernel
theorem dX4_readNot_48 : decode cX4_readNot 48 = .ok (.aload_n 0, 1) := by decide +kernel
theorem dX4_readNot_49 : decode cX4_readNot 49 = .ok (.bipush 60, 2) := by decide +kernel
theorem dX4_readNot_51 : decode cX4_readNot 51 = .ok (.invokevirtual 101, 3) := by decide +kernel
theorem dX4_readNot_54 : decode cX4_readNot 54 = .ok (.ifCond .eq 21, 3) := by decide +kernel
theorem dX4_readNot_57 : decode cX4_readNot 57 = .ok (.aload_n 0, 1) := by decide +kernel
theorem dX4_readNot_58 : decode cX4_readNot 58 = .ok (.invokevirtual 41, 3) := by decide +kernel
theorem dX4_readNot_61 : decode cX4_readNot 61 = .ok (.iload_n 1, 1) := by decide +kernel
theorem dX4_readNot_62 : decode cX4_readNot 62 = .ok (.aload_n 0, 1) := by decide +kernel
theorem dX4_readNot_63 : decode cX4_readNot 63 = .ok (.invokevirtual 111, 3) := by decide +kernel
theorem dX4_readNot_66 : decode cX4_readNot 66 = .ok (.if_icmp .ge 7, 3) := by decide +kernel
theorem dX4_readNot_69 : decode cX4_readNot 69 = .ok (.iconst 1, 1) := by decide +kernel
theorem dX4_readNot_70 : decode cX4_readNot 70 = .ok (.goto 4, 3) := by decide +kernel
theorem dX4_readNot_73 : decode cX4_readNot 73 = .ok (.iconst 0, 1) := by decide +kernel
theorem dX4_readNot_74 : decode cX4_readNot 74 = .ok (.ireturn, 1) := by decide +kernel
theorem dX4_readNot_75 : decode cX4_readNot 75 = .ok (.aload_n 0, 1) := by decide +kernel
theorem dX4_readNot_76 : decode cX4_readNot 76 = .ok (.bipush 61, 2) := by decide +kernel
theorem dX4_readNot_78 : decode cX4_readNot 78 = .ok (.invokevirtual 101, 3) := by decide +kernel
theorem dX4_readNot_81 : decode cX4_readNot 81 = .ok (.ifCond .eq 21, 3) := by decide +kernel
theorem dX4_readNot_84 : decode cX4_readNot 84 = .ok (.aload_n 0, 1) := by decide +kernel
theorem dX4_readNot_85 : decode cX4_readNot 85 = .ok (.invokevirtual 41, 3) := by decide +kernel
theorem dX4_readNot_88 : decode cX4_readNot 88 = .ok (.iload_n 1, 1) := by decide +kernel
theorem dX4_readNot_89 : decode cX4_readNot 89 = .ok (.aload_n 0, 1) := by decide +kernel
theorem dX4_readNot_90 : decode cX4_readNot 90 = .ok (.invokevirtual 111, 3) := by decide +kernel
theorem dX4_readNot_93 : decode cX4_readNot 93 = .ok (.if_icmp .ne 7, 3) := by decide +kernel
theorem dX4_readNot_96 : decode cX4_readNot 96 = .ok (.iconst 1, 1) := by decide +kernel
theorem dX4_readNot_97 : decode cX4_readNot 97 = .ok (.goto 4, 3) := by decide +kernel
theorem dX4_readNot_100 : decode cX4_readNot 100 = .ok (.iconst 0, 1) := by decide +kernel
theorem dX4_readNot_101 : decode cX4_readNot 101 = .ok (.ireturn, 1) := by decide +kernel
theorem dX4_readNot_102 : decode cX4_readNot 102 = .ok (.iload_n 1, 1) := by decide +kernel
theorem dX4_readNot_103 : decode cX4_readNot 103 = .ok (.ireturn, 1) := by decide +kernel
theorem dX4_readSum_0 : decode cX4_readSum 0 = .ok (.aload_n 0, 1) := by decide +kernel
theorem dX4_readSum_1 : decode cX4_readSum 1 = .ok (.invokevirtual 114, 3) := by decide +kernel
theorem dX4_readSum_4 : decode cX4_readSum 4 = .ok (.istore_n 1, 1) := by decide +kernel
theorem dX4_readSum_5 : decode cX4_readSum 5 = .ok (.iconst 0, 1) := by decide +kernel
theorem dX4_readSum_6 : decode cX4_readSum 6 = .ok (.istore_n 2, 1) := by decide +kernel
theorem dX4_readSum_7 : decode cX4_readSum 7 = .ok (.iload_n 2, 1) := by decide +kernel
theorem dX4_readSum_8 : decode cX4_readSum 8 = .ok (.bipush 120, 2) := by decide +kernel
theorem dX4_readSum_10 : decode cX4_readSum 10 = .ok (.if_icmp .ge 68, 3) := by decide +kernel
theorem dX4_readSum_13 : decode cX4_readSum 13 = .ok (.aload_n 0, 1) := by decide +kernel
theorem dX4_readSum_14 : decode cX4_readSum 14 = .ok (.bipush 43, 2) := by decide +kernel
theorem dX4_readSum_16 : decode cX4_readSum 16 = .ok (.invokevirtual 101, 3) := by decide +kernel
theorem dX4_readSum_19 : decode cX4_readSum 19 = .ok (.ifCond .ne 12, 3) := by decide +kernel
theorem dX4_readSum_22 : decode cX4_readSum 22 = .ok (.aload_n 0, 1) := by decide +kernel
theorem dX4_readSum_23 : decode cX4_readSum 23 = .ok (.bipush 45, 2) := by decide +kernel
theorem dX4_readSum_25 : decode cX4_readSum 25 = .ok (.invokevirtual 101, 3) := by decide +kernel
theorem dX4_readSum_28 : decode cX4_readSum 28 = .ok (.ifCond .eq 50, 3) := by decide +kernel
theorem dX4_readSum_31 : decode cX4_readSum 31 = .ok (.aload_n 0, 1) := by decide +kernel
theorem dX4_readSum_32 : decode cX4_readSum 32 = .ok (.getfield 23, 3) := by decide +kernel
theorem dX4_readSum_35 : decode cX4_readSum 35 = .ok (.bipush 43, 2) := by decide +kernel
theorem dX4_readSum_37 : decode cX4_readSum 37 = .ok (.if_icmp .ne 7, 3) := by decide +kernel
theorem dX4_readSum_40 : decode cX4_readSum 40 = .ok (.iconst 1, 1) := by decide +kernel
theorem dX4_readSum_41 : decode cX4_readSum 41 = .ok (.goto 4, 3) := by decide +kernel
theorem dX4_readSum_44 : decode cX4_readSum 44 = .ok (.iconst 0, 1) := by decide +kernel
theorem dX4_readSum_45 : decode cX4_readSum 45 = .ok (.istore_n 3, 1) := by decide +kernel
theorem dX4_readSum_46 : decode cX4_readSum 46 = .ok (.aload_n 0, 1) := by decide +kernel
theorem dX4_readSum_47 : decode cX4_readSum 47 = .ok (.invokevirtual 41, 3) := by decide +kernel
theorem dX4_readSum_50 : decode cX4_readSum 50 = .ok (.aload_n 0, 1) := by decide +kernel
theorem dX4_readSum_51 : decode cX4_readSum 51 = .ok (.invokevirtual 114, 3) := by decide +kernel
theorem dX4_readSum_54 : decode cX4_readSum 54 = .ok (.istore 4, 2) := by decide +kernel
theorem dX4_readSum_56 : decode cX4_readSum 56 = .ok (.iload_n 3, 1) := by decide +kernel
theorem dX4_readSum_57 : decode cX4_readSum 57 = .ok (.ifCond .eq 10, 3) := by decide +kernel
theorem dX4_readSum_60 : decode cX4_readSum 60 = .ok (.iload_n 1, 1) := by decide +kernel
theorem dX4_readSum_61 : decode cX4_readSum 61 = .ok (.iload 4, 2) := by decide +kernel
theorem dX4_readSum_63 : decode cX4_readSum 63 = .ok (.iadd, 1) := by decide +kernel
theorem dX4_readSum_64 : decode cX4_readSum 64 = .ok (.goto 7, 3) := by decide +kernel
theorem dX4_readSum_67 : decode cX4_readSum 67 = .ok (.iload_n 1, 1) := by decide +kernel
theorem dX4_readSum_68 : decode cX4_readSum 68 = .ok (.iload 4, 2) := by decide +kernel
theorem dX4_readSum_70 : decode cX4_readSum 70 = .ok (.isub, 1) := by decide +kernel
theorem dX4_readSum_71 : decode cX4_readSum 71 = .ok (.istore_n 1, 1) := by decide +kernel
theorem dX4_readSum_72 : decode cX4_readSum 72 = .ok (.iinc 2 1, 3) := by decide +kernel
theorem dX4_readSum_75 : decode cX4_readSum 75 = .ok (.goto (-68), 3) := by decide +kernel
theorem dX4_readSum_78 : decode cX4_readSum 78 = .ok (.iload_n 1, 1) := by decide +kernel
theorem dX4_readSum_79 : decode cX4_readSum 79 = .ok (.ireturn, 1) := by decide +kernel
theorem dX4_readTerm_0 : decode cX4_readTerm 0 = .ok (.aload_n 0, 1) := by decide +kernel
theorem dX4_readTerm_1 : decode cX4_readTerm 1 = .ok (.invokevirtual 117, 3) := by decide +kernel
theorem dX4_readTerm_4 : decode cX4_readTerm 4 = .ok (.istore_n 1, 1) := by decide +kernel
theorem dX4_readTerm_5 : decode cX4_readTerm 5 = .ok (.iconst 0, 1) := by decide +kernel
theorem dX4_readTerm_6 : decode cX4_readTerm 6 = .ok (.istore_n 2, 1) := by decide +kernel
theorem dX4_readTerm_7 : decode cX4_readTerm 7 = .ok (.iload_n 2, 1) := by decide +kernel
theorem dX4_readTerm_8 : decode cX4_readTerm 8 = .ok (.bipush 120, 2) := by decide +kernel
theorem dX4_readTerm_10 : decode cX4_readTerm 10 = .ok (.if_icmp .ge 29, 3) := by decide +kernel
theorem dX4_readTerm_13 : decode cX4_readTerm 13 = .ok (.aload_n 0, 1) := by decide +kernel
theorem dX4_readTerm_14 : decode cX4_readTerm 14 = .ok (.bipush 42, 2) := by decide +kernel
theorem dX4_readTerm_16 : decode cX4_readTerm 16 = .ok (.invokevirtual 101, 3) := by decide +kernel
theorem dX4_readTerm_19 : decode cX4_readTerm 19 = .ok (.ifCond .eq 20, 3) := by decide +kernel
theorem dX4_readTerm_22 : decode cX4_readTerm 22 = .ok (.aload_n 0, 1) := by decide +kernel
theorem dX4_readTerm_23 : decode cX4_readTerm 23 = .ok (.invokevirtual 41, 3) := by decide +kernel
theorem dX4_readTerm_26 : decode cX4_readTerm 26 = .ok (.iload_n 1, 1) := by decide +kernel
theorem dX4_readTerm_27 : decode cX4_readTerm 27 = .ok (.aload_n 0, 1) := by decide +kernel
theorem dX4_readTerm_28 : decode cX4_readTerm 28 = .ok (.invokevirtual 117, 3) := by decide +kernel
theorem dX4_readTerm_31 : decode cX4_readTerm 31 = .ok (.imul, 1) := by decide +kernel
theorem dX4_readTerm_32 : decode cX4_readTerm 32 = .ok (.istore_n 1, 1) := by decide +kernel
theorem dX4_readTerm_33 : decode cX4_readTerm 33 = .ok (.iinc 2 1, 3) := by decide +kernel
theorem dX4_readTerm_36 : decode cX4_readTerm 36 = .ok (.goto (-29), 3) := by decide +kernel
theorem dX4_readTerm_39 : decode cX4_readTerm 39 = .ok (.iload_n 1, 1) := by decide +kernel
theorem dX4_readTerm_40 : decode cX4_readTerm 40 = .ok (.ireturn, 1) := by decide +kernel
theorem dX4_readOne_0 : decode cX4_readOne 0 = .ok (.aload_n 0, 1) := by decide +kernel
theorem dX4_readOne_1 : decode cX4_readOne 1 = .ok (.bipush 11, 2) := by decide +kernel
theorem dX4_readOne_3 : decode cX4_readOne 3 = .ok (.invokevirtual 101, 3) := by decide +kernel
theorem dX4_readOne_6 : decode cX4_readOne 6 = .ok (.ifCond .eq 14, 3) := by decide +kernel
theorem dX4_readOne_9 : decode cX4_readOne 9 = .ok (.aload_n 0, 1) := by decide +kernel
theorem dX4_readOne_10 : decode cX4_readOne 10 = .ok (.getfield 95, 3) := by decide +kernel
theorem dX4_readOne_13 : decode cX4_readOne 13 = .ok (.istore_n 1, 1) := by decide +kernel
theorem dX4_readOne_14 : decode cX4_readOne 14 = .ok (.aload_n 0, 1) := by decide +kernel
theorem dX4_readOne_15 : decode cX4_readOne 15 = .ok (.invokevirtual 41, 3) := by decide +kernel
theorem dX4_readOne_18 : decode cX4_readOne 18 = .ok (.iload_n 1, 1) := by decide +kernel
theorem dX4_readOne_19 : decode cX4_readOne 19 = .ok (.ireturn, 1) := by decide +kernel
theorem dX4_readOne_20 : decode cX4_readOne 20 = .ok (.aload_n 0, 1) := by decide +kernel
theorem dX4_readOne_21 : decode cX4_readOne 21 = .ok (.getfield 15, 3) := by decide +kernel
theorem dX4_readOne_24 : decode cX4_readOne 24 = .ok (.ifCond .ge 35, 3) := by decide +kernel
theorem dX4_readOne_27 : decode cX4_readOne 27 = .ok (.aload_n 0, 1) := by decide +kernel
theorem dX4_readOne_28 : decode cX4_readOne 28 = .ok (.getfield 23, 3) := by decide +kernel
theorem dX4_readOne_31 : decode cX4_readOne 31 = .ok (.ifCond .lt 28, 3) := by decide +kernel
theorem dX4_readOne_34 : decode cX4_readOne 34 = .ok (.aload_n 0, 1) := by decide +kernel
theorem dX4_readOne_35 : decode cX4_readOne 35 = .ok (.getfield 23, 3) := by decide +kernel
theorem dX4_readOne_38 : decode cX4_readOne 38 = .ok (.bipush 6, 2) := by decide +kernel
theorem dX4_readOne_40 : decode cX4_readOne 40 = .ok (.if_icmp .ge 19, 3) := by decide +kernel
theorem dX4_readOne_43 : decode cX4_readOne 43 = .ok (.aload_n 0, 1) := by decide +kernel
theorem dX4_readOne_44 : decode cX4_readOne 44 = .ok (.getfield 11, 3) := by decide +kernel
theorem dX4_readOne_47 : decode cX4_readOne 47 = .ok (.aload_n 0, 1) := by decide +kernel
theorem dX4_readOne_48 : decode cX4_readOne 48 = .ok (.getfield 23, 3) := by decide +kernel
theorem dX4_readOne_51 : decode cX4_readOne 51 = .ok (.iaload, 1) := by decide +kernel
theorem dX4_readOne_52 : decode cX4_readOne 52 = .ok (.istore_n 1, 1) := by decide +kernel
theorem dX4_readOne_53 : decode cX4_readOne 53 = .ok (.aload_n 0, 1) := by decide +kernel
theorem dX4_readOne_54 : decode cX4_readOne 54 = .ok (.invokevirtual 41, 3) := by decide +kernel
theorem dX4_readOne_57 : decode cX4_readOne 57 = .ok (.iload_n 1, 1) := by decide +kernel
theorem dX4_readOne_58 : decode cX4_readOne 58 = .ok (.ireturn, 1) := by decide +kernel
theorem dX4_readOne_59 : decode cX4_readOne 59 = .ok (.aload_n 0, 1) := by decide +kernel
theorem dX4_readOne_60 : decode cX4_readOne 60 = .ok (.bipush 45, 2) := by decide +kernel
theorem dX4_readOne_62 : decode cX4_readOne 62 = .ok (.invokevirtual 101, 3) := by decide +kernel
theorem dX4_readOne_65 : decode cX4_readOne 65 = .ok (.istore_n 1, 1) := by decide +kernel
theorem dX4_readOne_66 : decode cX4_readOne 66 = .ok (.iload_n 1, 1) := by decide +kernel
theorem dX4_readOne_67 : decode cX4_readOne 67 = .ok (.ifCond .ne 18, 3) := by decide +kernel
theorem dX4_readOne_70 : decode cX4_readOne 70 = .ok (.aload_n 0, 1) := by decide +kernel
theorem dX4_readOne_71 : decode cX4_readOne 71 = .ok (.bipush 40, 2) := by decide +kernel
theorem dX4_readOne_73 : decode cX4_readOne 73 = .ok (.invokevirtual 101, 3) := by decide +kernel
theorem dX4_readOne_76 : decode cX4_readOne 76 = .ok (.ifCond .ne 9, 3) := by decide +kernel
theorem dX4_readOne_79 : decode cX4_readOne 79 = .ok (.aload_n 0, 1) := by decide +kernel
theorem dX4_readOne_80 : decode cX4_readOne 80 = .ok (.invokevirtual 58, 3) := by decide +kernel
theorem dX4_readOne_83 : decode cX4_readOne 83 = .ok (.iconst 0, 1) := by decide +kernel
theorem dX4_readOne_84 : decode cX4_readOne 84 = .ok (.ireturn, 1) := by decide +kernel
theorem dX4_readOne_85 : decode cX4_readOne 85 = .ok (.aload_n 0, 1) := by decide +kernel
theorem dX4_readOne_86 : decode cX4_readOne 86 = .ok (.invokevirtual 107, 3) := by decide +kernel
theorem dX4_readOne_89 : decode cX4_readOne 89 = .ok (.ifCond .ne 5, 3) := by decide +kernel
theorem dX4_readOne_92 : decode cX4_readOne 92 = .ok (.iconst 0, 1) := by decide +kernel
theorem dX4_readOne_93 : decode cX4_readOne 93 = .ok (.ireturn, 1) := by decide +kernel
theorem dX4_readOne_94 : decode cX4_readOne 94 = .ok (.iload_n 1, 1) := by decide +kernel
theorem dX4_readOne_95 : decode cX4_readOne 95 = .ok (.ifCond .eq 11, 3) := by decide +kernel
theorem dX4_readOne_98 : decode cX4_readOne 98 = .ok (.aload_n 0, 1) := by decide +kernel
theorem dX4_readOne_99 : decode cX4_readOne 99 = .ok (.invokevirtual 117, 3) := by decide +kernel
theorem dX4_readOne_102 : decode cX4_readOne 102 = .ok (.ineg, 1) := by decide +kernel
theorem dX4_readOne_103 : decode cX4_readOne 103 = .ok (.goto 7, 3) := by decide +kernel
theorem dX4_readOne_106 : decode cX4_readOne 106 = .ok (.aload_n 0, 1) := by decide +kernel
theorem dX4_readOne_107 : decode cX4_readOne 107 = .ok (.invokevirtual 48, 3) := by decide +kernel
theorem dX4_readOne_110 : decode cX4_readOne 110 = .ok (.istore_n 2, 1) := by decide +kernel
theorem dX4_readOne_111 : decode cX4_readOne 111 = .ok (.aload_n 0, 1) := by decide +kernel
theorem dX4_readOne_112 : decode cX4_readOne 112 = .ok (.dup, 1) := by decide +kernel
theorem dX4_readOne_113 : decode cX4_readOne 113 = .ok (.getfield 38, 3) := by decide +kernel
theorem dX4_readOne_116 : decode cX4_readOne 116 = .ok (.iconst 1, 1) := by decide +kernel
theorem dX4_readOne_117 : decode cX4_readOne 117 = .ok (.isub, 1) := by decide +kernel
theorem dX4_readOne_118 : decode cX4_readOne 118 = .ok (.putfield 38, 3) := by decide +kernel
theorem dX4_readOne_121 : decode cX4_readOne 121 = .ok (.iload_n 1, 1) := by decide +kernel
theorem dX4_readOne_122 : decode cX4_readOne 122 = .ok (.ifCond .ne 9, 3) := by decide +kernel
theorem dX4_readOne_125 : decode cX4_readOne 125 = .ok (.aload_n 0, 1) := by decide +kernel
theorem dX4_readOne_126 : decode cX4_readOne 126 = .ok (.bipush 41, 2) := by decide +kernel
theorem dX4_readOne_128 : decode cX4_readOne 128 = .ok (.invokevirtual 44, 3) := by decide +kernel
theorem dX4_readOne_131 : decode cX4_readOne 131 = .ok (.iload_n 2, 1) := by decide +kernel
theorem dX4_readOne_132 : decode cX4_readOne 132 = .ok (.ireturn, 1) := by decide +kernel
theorem dX4_opens_0 : decode cX4_opens 0 = .ok (.aload_n 0, 1) := by decide +kernel
theorem dX4_opens_1 : decode cX4_opens 1 = .ok (.getfield 38, 3) := by decide +kernel
theorem dX4_opens_4 : decode cX4_opens 4 = .ok (.iconst 5, 1) := by decide +kernel
theorem dX4_opens_5 : decode cX4_opens 5 = .ok (.if_icmp .lt 9, 3) := by decide +kernel
theorem dX4_opens_8 : decode cX4_opens 8 = .ok (.aload_n 0, 1) := by decide +kernel
theorem dX4_opens_9 : decode cX4_opens 9 = .ok (.invokevirtual 58, 3) := by decide +kernel
theorem dX4_opens_12 : decode cX4_opens 12 = .ok (.iconst 0, 1) := by decide +kernel
theorem dX4_opens_13 : decode cX4_opens 13 = .ok (.ireturn, 1) := by decide +kernel
theorem dX4_opens_14 : decode cX4_opens 14 = .ok (.aload_n 0, 1) := by decide +kernel
theorem dX4_opens_15 : decode cX4_opens 15 = .ok (.dup, 1) := by decide +kernel
theorem dX4_opens_16 : decode cX4_opens 16 = .ok (.getfield 38, 3) := by decide +kernel
theorem dX4_opens_19 : decode cX4_opens 19 = .ok (.iconst 1, 1) := by decide +kernel
theorem dX4_opens_20 : decode cX4_opens 20 = .ok (.iadd, 1) := by decide +kernel
theorem dX4_opens_21 : decode cX4_opens 21 = .ok (.putfield 38, 3) := by decide +kernel
theorem dX4_opens_24 : decode cX4_opens 24 = .ok (.aload_n 0, 1) := by decide +kernel
theorem dX4_opens_25 : decode cX4_opens 25 = .ok (.invokevirtual 41, 3) := by decide +kernel
theorem dX4_opens_28 : decode cX4_opens 28 = .ok (.iconst 1, 1) := by decide +kernel
theorem dX4_opens_29 : decode cX4_opens 29 = .ok (.ireturn, 1) := by decide +kernel
theorem dX5_init_0 : decode cX5_init 0 = .ok (.aload_n 0, 1) := by decide +kernel
theorem dX5_init_1 : decode cX5_init 1 = .ok (.invokespecial 3, 3) := by decide +kernel
theorem dX5_init_4 : decode cX5_init 4 = .ok (.aload_n 0, 1) := by decide +kernel
theorem dX5_init_5 : decode cX5_init 5 = .ok (.iconst (-1), 1) := by decide +kernel
theorem dX5_init_6 : decode cX5_init 6 = .ok (.putfield 9, 3) := by decide +kernel
theorem dX5_init_9 : decode cX5_init 9 = .ok (.aload_n 0, 1) := by decide +kernel
theorem dX5_init_10 : decode cX5_init 10 = .ok (.bipush 40, 2) := by decide +kernel
theorem dX5_init_12 : decode cX5_init 12 = .ok (.newarray .int, 2) := by decide +kernel
theorem dX5_init_14 : decode cX5_init 14 = .ok (.putfield 15, 3) := by decide +kernel
theorem dX5_init_17 : decode cX5_init 17 = .ok (.return_, 1) := by decide +kernel
theorem dX5_become_0 : decode cX5_become 0 = .ok (.aload_n 0, 1) := by decide +kernel
theorem dX5_become_1 : decode cX5_become 1 = .ok (.iload_n 1, 1) := by decide +kernel
theorem dX5_become_2 : decode cX5_become 2 = .ok (.putfield 9, 3) := by decide +kernel
theorem dX5_become_5 : decode cX5_become 5 = .ok (.aload_n 0, 1) := by decide +kernel
theorem dX5_become_6 : decode cX5_become 6 = .ok (.iconst 0, 1) := by decide +kernel
theorem dX5_become_7 : decode cX5_become 7 = .ok (.iload_n 2, 1) := by decide +kernel
theorem dX5_become_8 : decode cX5_become 8 = .ok (.bipush 40, 2) := by decide +kernel
theorem dX5_become_10 : decode cX5_become 10 = .ok (.invokestatic 19, 3) := by decide +kernel
theorem dX5_become_13 : decode cX5_become 13 = .ok (.invokestatic 25, 3) := by decide +kernel
theorem dX5_become_16 : decode cX5_become 16 = .ok (.putfield 28, 3) := by decide +kernel
theorem dX5_become_19 : decode cX5_become 19 = .ok (.iconst 0, 1) := by decide +kernel
theorem dX5_become_20 : decode cX5_become 20 = .ok (.istore_n 3, 1) := by decide +kernel
theorem dX5_become_21 : decode cX5_become 21 = .ok (.iload_n 3, 1) := by decide +kernel
theorem dX5_become_22 : decode cX5_become 22 = .ok (.bipush 40, 2) := by decide +kernel
theorem dX5_become_24 : decode cX5_become 24 = .ok (.if_icmp .ge 16, 3) := by decide +kernel
theorem dX5_become_27 : decode cX5_become 27 = .ok (.aload_n 0, 1) := by decide +kernel
theorem dX5_become_28 : decode cX5_become 28 = .ok (.getfield 15, 3) := by decide +kernel
theorem dX5_become_31 : decode cX5_become 31 = .ok (.iload_n 3, 1) := by decide +kernel
theorem dX5_become_32 : decode cX5_become 32 = .ok (.iconst 0, 1) := by decide +kernel
theorem dX5_become_33 : decode cX5_become 33 = .ok (.iastore, 1) := by decide +kernel
theorem dX5_become_34 : decode cX5_become 34 = .ok (.iinc 3 1, 3) := by decide +kernel
theorem dX5_become_37 : decode cX5_become 37 = .ok (.goto (-16), 3) := by decide +kernel
theorem dX5_become_40 : decode cX5_become 40 = .ok (.return_, 1) := by decide +kernel
theorem dX5_has_0 : decode cX5_has 0 = .ok (.iload_n 1, 1) := by decide +kernel
theorem dX5_has_1 : decode cX5_has 1 = .ok (.ifCond .lt 15, 3) := by decide +kernel
theorem dX5_has_4 : decode cX5_has 4 = .ok (.iload_n 1, 1) := by decide +kernel
theorem dX5_has_5 : decode cX5_has 5 = .ok (.aload_n 0, 1) := by decide +kernel
theorem dX5_has_6 : decode cX5_has 6 = .ok (.getfield 28, 3) := by decide +kernel
theorem dX5_has_9 : decode cX5_has 9 = .ok (.if_icmp .ge 7, 3) := by decide +kernel
theorem dX5_has_12 : decode cX5_has 12 = .ok (.iconst 1, 1) := by decide +kernel
theorem dX5_has_13 : decode cX5_has 13 = .ok (.goto 4, 3) := by decide +kernel
theorem dX5_has_16 : decode cX5_has 16 = .ok (.iconst 0, 1) := by decide +kernel
theorem dX5_has_17 : decode cX5_has 17 = .ok (.ireturn, 1) := by decide +kernel
theorem dX5_put_0 : decode cX5_put 0 = .ok (.aload_n 0, 1) := by decide +kernel
theorem dX5_put_1 : decode cX5_put 1 = .ok (.iload_n 1, 1) := by decide +kernel
theorem dX5_put_2 : decode cX5_put 2 = .ok (.invokevirtual 31, 3) := by decide +kernel
theorem dX5_put_5 : decode cX5_put 5 = .ok (.ifCond .eq 35, 3) := by decide +kernel
theorem dX5_put_8 : decode cX5_put 8 = .ok (.aload_n 0, 1) := by decide +kernel
theorem dX5_put_9 : decode cX5_put 9 = .ok (.getfield 15, 3) := by decide +kernel
theorem dX5_put_12 : decode cX5_put 12 = .ok (.iload_n 1, 1) := by decide +kernel
theorem dX5_put_13 : decode cX5_put 13 = .ok (.aload_n 0, 1) := by decide +kernel
theorem dX5_put_14 : decode cX5_put 14 = .ok (.getfield 9, 3) := by decide +kernel
theorem dX5_put_17 : decode cX5_put 17 = .ok (.ifCond .ne 8, 3) := by decide +kernel
theorem dX5_put_20 : decode cX5_put 20 = .ok (.iload_n 2, 1) := by decide +kernel
theorem dX5_put_21 : decode cX5_put 21 = .ok (.i2b, 1) := by decide +kernel
theorem dX5_put_22 : decode cX5_put 22 = .ok (.goto 17, 3) := by decide +kernel
theorem dX5_put_25 : decode cX5_put 25 = .ok (.aload_n 0, 1) := by decide +kernel
theorem dX5_put_26 : decode cX5_put 26 = .ok (.getfield 9, 3) := by decide +kernel
theorem dX5_put_29 : decode cX5_put 29 = .ok (.iconst 1, 1) := by decide +kernel
theorem dX5_put_30 : decode cX5_put 30 = .ok (.if_icmp .ne 8, 3) := by decide +kernel
theorem dX5_put_33 : decode cX5_put 33 = .ok (.iload_n 2, 1) := by decide +kernel
theorem dX5_put_34 : decode cX5_put 34 = .ok (.i2s, 1) := by decide +kernel
theorem dX5_put_35 : decode cX5_put 35 = .ok (.goto 4, 3) := by decide +kernel
theorem dX5_put_38 : decode cX5_put 38 = .ok (.iload_n 2, 1) := by decide +kernel
theorem dX5_put_39 : decode cX5_put 39 = .ok (.iastore, 1) := by decide +kernel
theorem dX5_put_40 : decode cX5_put 40 = .ok (.return_, 1) := by decide +kernel
theorem dX6_init_0 : decode cX6_init 0 = .ok (.aload_n 0, 1) := by decide +kernel
theorem dX6_init_1 : decode cX6_init 1 = .ok (.invokespecial 3, 3) := by decide +kernel
theorem dX6_init_4 : decode cX6_init 4 = .ok (.aload_n 0, 1) := by decide +kernel
theorem dX6_init_5 : decode cX6_init 5 = .ok (.iconst (-1), 1) := by decide +kernel
theorem dX6_init_6 : decode cX6_init 6 = .ok (.putfield 9, 3) := by decide +kernel
theorem dX6_init_9 : decode cX6_init 9 = .ok (.aload_n 0, 1) := by decide +kernel
theorem dX6_init_10 : decode cX6_init 10 = .ok (.sipush 9216, 3) := by decide +kernel
theorem dX6_init_13 : decode cX6_init 13 = .ok (.newarray .int, 2) := by decide +kernel
theorem dX6_init_15 : decode cX6_init 15 = .ok (.putfield 15, 3) := by decide +kernel
theorem dX6_init_18 : decode cX6_init 18 = .ok (.aload_n 0, 1) := by decide +kernel
theorem dX6_init_19 : decode cX6_init 19 = .ok (.sipush 9216, 3) := by decide +kernel
theorem dX6_init_22 : decode cX6_init 22 = .ok (.newarray .int, 2) := by decide +kernel
theorem dX6_init_24 : decode cX6_init 24 = .ok (.putfield 19, 3) := by decide +kernel
theorem dX6_init_27 : decode cX6_init 27 = .ok (.aload_n 0, 1) := by decide +kernel
theorem dX6_init_28 : decode cX6_init 28 = .ok (.sipush 9216, 3) := by decide +kernel
theorem dX6_init_31 : decode cX6_init 31 = .ok (.newarray .int, 2) := by decide +kernel
theorem dX6_init_33 : decode cX6_init 33 = .ok (.putfield 22, 3) := by decide +kernel
theorem dX6_init_36 : decode cX6_init 36 = .ok (.aload_n 0, 1) := by decide +kernel
theorem dX6_init_37 : decode cX6_init 37 = .ok (.sipush 1024, 3) := by decide +kernel
theorem dX6_init_40 : decode cX6_init 40 = .ok (.newarray .int, 2) := by decide +kernel
theorem dX6_init_42 : decode cX6_init 42 = .ok (.putfield 25, 3) := by decide +kernel
theorem dX6_init_45 : decode cX6_init 45 = .ok (.aload_n 0, 1) := by decide +kernel
theorem dX6_init_46 : decode cX6_init 46 = .ok (.sipush 3776, 3) := by decide +kernel
theorem dX6_init_49 : decode cX6_init 49 = .ok (.newarray .int, 2) := by decide +kernel
theorem dX6_init_51 : decode cX6_init 51 = .ok (.putfield 28, 3) := by decide +kernel
theorem dX6_init_54 : decode cX6_init 54 = .ok (.aload_n 0, 1) := by decide +kernel
theorem dX6_init_55 : decode cX6_init 55 = .ok (.sipush 3776, 3) := by decide +kernel
theorem dX6_init_58 : decode cX6_init 58 = .ok (.newarray .int, 2) := by decide +kernel
theorem dX6_init_60 : decode cX6_init 60 = .ok (.putfield 31, 3) := by decide +kernel
theorem dX6_init_63 : decode cX6_init 63 = .ok (.aload_n 0, 1) := by decide +kernel
theorem dX6_init_64 : decode cX6_init 64 = .ok (.sipush 3776, 3) := by decide +kernel
theorem dX6_init_67 : decode cX6_init 67 = .ok (.newarray .int, 2) := by decide +kernel
theorem dX6_init_69 : decode cX6_init 69 = .ok (.putfield 34, 3) := by decide +kernel
theorem dX6_init_72 : decode cX6_init 72 = .ok (.aload_n 0, 1) := by decide +kernel
theorem dX6_init_73 : decode cX6_init 73 = .ok (.iconst 1, 1) := by decide +kernel
theorem dX6_init_74 : decode cX6_init 74 = .ok (.putfield 37, 3) := by decide +kernel
theorem dX6_init_77 : decode cX6_init 77 = .ok (.aload_n 0, 1) := by decide +kernel
theorem dX6_init_78 : decode cX6_init 78 = .ok (.bipush 27, 2) := by decide +kernel
theorem dX6_init_80 : decode cX6_init 80 = .ok (.newarray .int, 2) := by decide +kernel
theorem dX6_init_82 : decode cX6_init 82 = .ok (.putfield 40, 3) := by decide +kernel
theorem dX6_init_85 : decode cX6_init 85 = .ok (.aload_n 0, 1) := by decide +kernel
theorem dX6_init_86 : decode cX6_init 86 = .ok (.bipush 27, 2) := by decide +kernel
theorem dX6_init_88 : decode cX6_init 88 = .ok (.newarray .int, 2) := by decide +kernel
theorem dX6_init_90 : decode cX6_init 90 = .ok (.putfield 43, 3) := by decide +kernel
theorem dX6_init_93 : decode cX6_init 93 = .ok (.aload_n 0, 1) := by decide +kernel
theorem dX6_init_94 : decode cX6_init 94 = .ok (.sipush 512, 3) := by decide +kernel
theorem dX6_init_97 : decode cX6_init 97 = .ok (.newarray .boolean, 2) := by decide +kernel
theorem dX6_init_99 : decode cX6_init 99 = .ok (.putfield 46, 3) := by decide +kernel
theorem dX6_init_102 : decode cX6_init 102 = .ok (.return_, 1) := by decide +kernel
theorem dX6_solve_0 : decode cX6_solve 0 = .ok (.aload_n 0, 1) := by decide +kernel
theorem dX6_solve_1 : decode cX6_solve 1 = .ok (.aload_n 1, 1) := by decide +kernel
theorem dX6_solve_2 : decode cX6_solve 2 = .ok (.putfield 50, 3) := by decide +kernel
theorem dX6_solve_5 : decode cX6_solve 5 = .ok (.aload_n 0, 1) := by decide +kernel
theorem dX6_solve_6 : decode cX6_solve 6 = .ok (.aload_n 1, 1) := by decide +kernel
theorem dX6_solve_7 : decode cX6_solve 7 = .ok (.getfield 54, 3) := by decide +kernel
theorem dX6_solve_10 : decode cX6_solve 10 = .ok (.putfield 9, 3) := by decide +kernel
theorem dX6_solve_13 : decode cX6_solve 13 = .ok (.aload_n 0, 1) := by decide +kernel
theorem dX6_solve_14 : decode cX6_solve 14 = .ok (.iconst 0, 1) := by decide +kernel
theorem dX6_solve_15 : decode cX6_solve 15 = .ok (.putfield 57, 3) := by decide +kernel
theorem dX6_solve_18 : decode cX6_solve 18 = .ok (.aload_n 0, 1) := by decide +kernel
theorem dX6_solve_19 : decode cX6_solve 19 = .ok (.invokevirtual 61, 3) := by decide +kernel
theorem dX6_solve_22 : decode cX6_solve 22 = .ok (.aload_n 0, 1) := by decide +kernel
theorem dX6_solve_23 : decode cX6_solve 23 = .ok (.invokevirtual 64, 3) := by decide +kernel
theorem dX6_solve_26 : decode cX6_solve 26 = .ok (.iconst 0, 1) := by decide +kernel
theorem dX6_solve_27 : decode cX6_solve 27 = .ok (.istore_n 2, 1) := by decide +kernel
theorem dX6_solve_28 : decode cX6_solve 28 = .ok (.iload_n 2, 1) := by decide +kernel
theorem dX6_solve_29 : decode cX6_solve 29 = .ok (.bipush 64, 2) := by decide +kernel
theorem dX6_solve_31 : decode cX6_solve 31 = .ok (.if_icmp .ge 30, 3) := by decide +kernel
theorem dX6_solve_34 : decode cX6_solve 34 = .ok (.aload_n 0, 1) := by decide +kernel
theorem dX6_solve_35 : decode cX6_solve 35 = .ok (.getfield 50, 3) := by decide +kernel
theorem dX6_solve_38 : decode cX6_solve 38 = .ok (.iload_n 2, 1) := by decide +kernel
theorem dX6_solve_39 : decode cX6_solve 39 = .ok (.invokevirtual 67, 3) := by decide +kernel
theorem dX6_solve_42 : decode cX6_solve 42 = .ok (.ifCond .eq 13, 3) := by decide +kernel
theorem dX6_solve_45 : decode cX6_solve 45 = .ok (.aload_n 0, 1) := by decide +kernel
theorem dX6_solve_46 : decode cX6_solve 46 = .ok (.iload_n 2, 1) := by decide +kernel
theorem dX6_solve_47 : decode cX6_solve 47 = .ok (.invokevirtual 71, 3) := by decide +kernel
theorem dX6_solve_50 : decode cX6_solve 50 = .ok (.aload_n 0, 1) := by decide +kernel
theorem dX6_solve_51 : decode cX6_solve 51 = .ok (.iload_n 2, 1) := by decide +kernel
theorem dX6_solve_52 : decode cX6_solve 52 = .ok (.invokevirtual 75, 3) := by decide +kernel
theorem dX6_solve_55 : decode cX6_solve 55 = .ok (.iinc 2 1, 3) := by decide +kernel
theorem dX6_solve_58 : decode cX6_solve 58 = .ok (.goto (-30), 3) := by decide +kernel
theorem dX6_solve_61 : decode cX6_solve 61 = .ok (.iconst 0, 1) := by decide +kernel
theorem dX6_solve_62 : decode cX6_solve 62 = .ok (.istore_n 2, 1) := by decide +kernel
theorem dX6_solve_63 : decode cX6_solve 63 = .ok (.iload_n 2, 1) := by decide +kernel
theorem dX6_solve_64 : decode cX6_solve 64 = .ok (.bipush 64, 2) := by decide +kernel
theorem dX6_solve_66 : decode cX6_solve 66 = .ok (.if_icmp .ge 25, 3) := by decide +kernel
theorem dX6_solve_69 : decode cX6_solve 69 = .ok (.aload_n 0, 1) := by decide +kernel
theorem dX6_solve_70 : decode cX6_solve 70 = .ok (.getfield 50, 3) := by decide +kernel
theorem dX6_solve_73 : decode cX6_solve 73 = .ok (.iload_n 2, 1) := by decide +kernel
theorem dX6_solve_74 : decode cX6_solve 74 = .ok (.invokevirtual 67, 3) := by decide +kernel
theorem dX6_solve_77 : decode cX6_solve 77 = .ok (.ifCond .eq 8, 3) := by decide +kernel
theorem dX6_solve_80 : decode cX6_solve 80 = .ok (.aload_n 0, 1) := by decide +kernel
theorem dX6_solve_81 : decode cX6_solve 81 = .ok (.iload_n 2, 1) := by decide +kernel
theorem dX6_solve_82 : decode cX6_solve 82 = .ok (.invokevirtual 78, 3) := by decide +kernel
theorem dX6_solve_85 : decode cX6_solve 85 = .ok (.iinc 2 1, 3) := by decide +kernel
theorem dX6_solve_88 : decode cX6_solve 88 = .ok (.goto (-25), 3) := by decide +kernel
theorem dX6_solve_91 : decode cX6_solve 91 = .ok (.aload_n 0, 1) := by decide +kernel
theorem dX6_solve_92 : decode cX6_solve 92 = .ok (.invokevirtual 81, 3) := by decide +kernel
theorem dX6_solve_95 : decode cX6_solve 95 = .ok (.aload_n 0, 1) := by decide +kernel
theorem dX6_solve_96 : decode cX6_solve 96 = .ok (.invokevirtual 84, 3) := by decide +kernel
theorem dX6_solve_99 : decode cX6_solve 99 = .ok (.return_, 1) := by decide +kernel
theorem dX6_clearRows_0 : decode cX6_clearRows 0 = .ok (.aload_n 0, 1) := by decide +kernel
theorem dX6_clearRows_1 : decode cX6_clearRows 1 = .ok (.aload_n 0, 1) := by decide +kernel
theorem dX6_clearRows_2 : decode cX6_clearRows 2 = .ok (.getfield 50, 3) := by decide +kernel
theorem dX6_clearRows_5 : decode cX6_clearRows 5 = .ok (.invokevirtual 87, 3) := by decide +kernel
theorem dX6_clearRows_8 : decode cX6_clearRows 8 = .ok (.putfield 37, 3) := by decide +kernel
theorem dX6_clearRows_11 : decode cX6_clearRows 11 = .ok (.aload_n 0, 1) := by decide +kernel
theorem dX6_clearRows_12 : decode cX6_clearRows 12 = .ok (.iconst 0, 1) := by decide +kernel
theorem dX6_clearRows_13 : decode cX6_clearRows 13 = .ok (.putfield 91, 3) := by decide +kernel
theorem dX6_clearRows_16 : decode cX6_clearRows 16 = .ok (.aload_n 0, 1) := by decide +kernel
theorem dX6_clearRows_17 : decode cX6_clearRows 17 = .ok (.iconst 0, 1) := by decide +kernel
theorem dX6_clearRows_18 : decode cX6_clearRows 18 = .ok (.putfield 94, 3) := by decide +kernel
theorem dX6_clearRows_21 : decode cX6_clearRows 21 = .ok (.iconst 0, 1) := by decide +kernel
theorem dX6_clearRows_22 : decode cX6_clearRows 22 = .ok (.istore_n 1, 1) := by decide +kernel
theorem dX6_clearRows_23 : decode cX6_clearRows 23 = .ok (.iload_n 1, 1) := by decide +kernel
theorem dX6_clearRows_24 : decode cX6_clearRows 24 = .ok (.aload_n 0, 1) := by decide +kernel
theorem dX6_clearRows_25 : decode cX6_clearRows 25 = .ok (.getfield 37, 3) := by decide +kernel
theorem dX6_clearRows_28 : decode cX6_clearRows 28 = .ok (.sipush 1024, 3) := by decide +kernel
theorem dX6_clearRows_31 : decode cX6_clearRows 31 = .ok (.imul, 1) := by decide +kernel
theorem dX6_clearRows_32 : decode cX6_clearRows 32 = .ok (.if_icmp .ge 23, 3) := by decide +kernel
theorem dX6_clearRows_35 : decode cX6_clearRows 35 = .ok (.aload_n 0, 1) := by decide +kernel
theorem dX6_clearRows_36 : decode cX6_clearRows 36 = .ok (.getfield 15, 3) := by decide +kernel
theorem dX6_clearRows_39 : decode cX6_clearRows 39 = .ok (.iload_n 1, 1) := by decide +kernel
theorem dX6_clearRows_40 : decode cX6_clearRows 40 = .ok (.iconst (-1), 1) := by decide +kernel
theorem dX6_clearRows_41 : decode cX6_clearRows 41 = .ok (.iastore, 1) := by decide +kernel
theorem dX6_clearRows_42 : decode cX6_clearRows 42 = .ok (.aload_n 0, 1) := by decide +kernel
theorem dX6_clearRows_43 : decode cX6_clearRows 43 = .ok (.getfield 19, 3) := by decide +kernel
theorem dX6_clearRows_46 : decode cX6_clearRows 46 = .ok (.iload_n 1, 1) := by decide +kernel
theorem dX6_clearRows_47 : decode cX6_clearRows 47 = .ok (.iconst 0, 1) := by decide +kernel
theorem dX6_clearRows_48 : decode cX6_clearRows 48 = .ok (.iastore, 1) := by decide +kernel
theorem dX6_clearRows_49 : decode cX6_clearRows 49 = .ok (.iinc 1 1, 3) := by decide +kernel
theorem dX6_clearRows_52 : decode cX6_clearRows 52 = .ok (.goto (-29), 3) := by decide +kernel
theorem dX6_clearRows_55 : decode cX6_clearRows 55 = .ok (.iconst 0, 1) := by decide +kernel
theorem dX6_clearRows_56 : decode cX6_clearRows 56 = .ok (.istore_n 1, 1) := by decide +kernel
theorem dX6_clearRows_57 : decode cX6_clearRows 57 = .ok (.iload_n 1, 1) := by decide +kernel
theorem dX6_clearRows_58 : decode cX6_clearRows 58 = .ok (.sipush 1024, 3) := by decide +kernel
theorem dX6_clearRows_61 : decode cX6_clearRows 61 = .ok (.if_icmp .ge 16, 3) := by decide +kernel
theorem dX6_clearRows_64 : decode cX6_clearRows 64 = .ok (.aload_n 0, 1) := by decide +kernel
theorem dX6_clearRows_65 : decode cX6_clearRows 65 = .ok (.getfield 25, 3) := by decide +kernel
theorem dX6_clearRows_68 : decode cX6_clearRows 68 = .ok (.iload_n 1, 1) := by decide +kernel
theorem dX6_clearRows_69 : decode cX6_clearRows 69 = .ok (.iconst (-1), 1) := by decide +kernel
theorem dX6_clearRows_70 : decode cX6_clearRows 70 = .ok (.iastore, 1) := by decide +kernel
theorem dX6_clearRows_71 : decode cX6_clearRows 71 = .ok (.iinc 1 1, 3) := by decide +kernel
theorem dX6_clearRows_74 : decode cX6_clearRows 74 = .ok (.goto (-17), 3) := by decide +kernel
theorem dX6_clearRows_77 : decode cX6_clearRows 77 = .ok (.return_, 1) := by decide +kernel
theorem dX6_reckonShutting_0 : decode cX6_reckonShutting 0 = .ok (.iconst 0, 1) := by decide +kernel
theorem dX6_reckonShutting_1 : decode cX6_reckonShutting 1 = .ok (.istore_n 1, 1) := by decide +kernel
theorem dX6_reckonShutting_2 : decode cX6_reckonShutting 2 = .ok (.iload_n 1, 1) := by decide +kernel
theorem dX6_reckonShutting_3 : decode cX6_reckonShutting 3 = .ok (.bipush 27, 2) := by decide +kernel
theorem dX6_reckonShutting_5 : decode cX6_reckonShutting 5 = .ok (.if_icmp .ge 16, 3) := by decide +kernel
theorem dX6_reckonShutting_8 : decode cX6_reckonShutting 8 = .ok (.aload_n 0, 1) := by decide +kernel
theorem dX6_reckonShutting_9 : decode cX6_reckonShutting 9 = .ok (.getfield 43, 3) := by decide +kernel
theorem dX6_reckonShutting_12 : decode cX6_reckonShutting 12 = .ok (.iload_n 1, 1) := by decide +kernel
theorem dX6_reckonShutting_13 : decode cX6_reckonShutting 13 = .ok (.iconst 0, 1) := by decide +kernel
theorem dX6_reckonShutting_14 : decode cX6_reckonShutting 14 = .ok (.iastore, 1) := by decide +kernel
theorem dX6_reckonShutting_15 : decode cX6_reckonShutting 15 = .ok (.iinc 1 1, 3) := by decide +kernel
theorem dX6_reckonShutting_18 : decode cX6_reckonShutting 18 = .ok (.goto (-16), 3) := by decide +kernel
theorem dX6_reckonShutting_21 : decode cX6_reckonShutting 21 = .ok (.iconst (-1), 1) := by decide +kernel
theorem dX6_reckonShutting_22 : decode cX6_reckonShutting 22 = .ok (.istore_n 1, 1) := by decide +kernel
theorem dX6_reckonShutting_23 : decode cX6_reckonShutting 23 = .ok (.iload_n 1, 1) := by decide +kernel
theorem dX6_reckonShutting_24 : decode cX6_reckonShutting 24 = .ok (.aload_n 0, 1) := by decide +kernel
theorem dX6_reckonShutting_25 : decode cX6_reckonShutting 25 = .ok (.getfield 50, 3) := by decide +kernel
theorem dX6_reckonShutting_28 : decode cX6_reckonShutting 28 = .ok (.getfield 97, 3) := by decide +kernel
theorem dX6_reckonShutting_31 : decode cX6_reckonShutting 31 = .ok (.if_icmp .ge 120, 3) := by decide +kernel
theorem dX6_reckonShutting_34 : decode cX6_reckonShutting 34 = .ok (.iload_n 1, 1) := by decide +kernel
theorem dX6_reckonShutting_35 : decode cX6_reckonShutting 35 = .ok (.iconst 1, 1) := by decide +kernel
theorem dX6_reckonShutting_36 : decode cX6_reckonShutting 36 = .ok (.iadd, 1) := by decide +kernel
theorem dX6_reckonShutting_37 : decode cX6_reckonShutting 37 = .ok (.bipush 9, 2) := by decide +kernel
theorem dX6_reckonShutting_39 : decode cX6_reckonShutting 39 = .ok (.imul, 1) := by decide +kernel
theorem dX6_reckonShutting_40 : decode cX6_reckonShutting 40 = .ok (.istore_n 2, 1) := by decide +kernel
theorem dX6_reckonShutting_41 : decode cX6_reckonShutting 41 = .ok (.iconst 0, 1) := by decide +kernel
theorem dX6_reckonShutting_42 : decode cX6_reckonShutting 42 = .ok (.istore_n 3, 1) := by decide +kernel
theorem dX6_reckonShutting_43 : decode cX6_reckonShutting 43 = .ok (.iload_n 3, 1) := by decide +kernel
theorem dX6_reckonShutting_44 : decode cX6_reckonShutting 44 = .ok (.aload_n 0, 1) := by decide +kernel
theorem dX6_reckonShutting_45 : decode cX6_reckonShutting 45 = .ok (.getfield 37, 3) := by decide +kernel
theorem dX6_reckonShutting_48 : decode cX6_reckonShutting 48 = .ok (.if_icmp .ge 97, 3) := by decide +kernel
theorem dX6_reckonShutting_51 : decode cX6_reckonShutting 51 = .ok (.aload_n 0, 1) := by decide +kernel
theorem dX6_reckonShutting_52 : decode cX6_reckonShutting 52 = .ok (.iconst 0, 1) := by decide +kernel
theorem dX6_reckonShutting_53 : decode cX6_reckonShutting 53 = .ok (.iload_n 1, 1) := by decide +kernel
theorem dX6_reckonShutting_54 : decode cX6_reckonShutting 54 = .ok (.iload_n 3, 1) := by decide +kernel
theorem dX6_reckonShutting_55 : decode cX6_reckonShutting 55 = .ok (.iconst 3, 1) := by decide +kernel
theorem dX6_reckonShutting_56 : decode cX6_reckonShutting 56 = .ok (.irem, 1) := by decide +kernel
theorem dX6_reckonShutting_57 : decode cX6_reckonShutting 57 = .ok (.invokevirtual 100, 3) := by decide +kernel
theorem dX6_reckonShutting_60 : decode cX6_reckonShutting 60 = .ok (.istore 4, 2) := by decide +kernel
theorem dX6_reckonShutting_62 : decode cX6_reckonShutting 62 = .ok (.aload_n 0, 1) := by decide +kernel
theorem dX6_reckonShutting_63 : decode cX6_reckonShutting 63 = .ok (.iconst 1, 1) := by decide +kernel
theorem dX6_reckonShutting_64 : decode cX6_reckonShutting 64 = .ok (.iload_n 1, 1) := by decide +kernel
theorem dX6_reckonShutting_65 : decode cX6_reckonShutting 65 = .ok (.iload_n 3, 1) := by decide +kernel
theorem dX6_reckonShutting_66 : decode cX6_reckonShutting 66 = .ok (.iconst 3, 1) := by decide +kernel
theorem dX6_reckonShutting_67 : decode cX6_reckonShutting 67 = .ok (.idiv, 1) := by decide +kernel
theorem dX6_reckonShutting_68 : decode cX6_reckonShutting 68 = .ok (.invokevirtual 100, 3) := by decide +kernel
theorem dX6_reckonShutting_71 : decode cX6_reckonShutting 71 = .ok (.istore 5, 2) := by decide +kernel
theorem dX6_reckonShutting_73 : decode cX6_reckonShutting 73 = .ok (.iload 4, 2) := by decide +kernel
theorem dX6_reckonShutting_75 : decode cX6_reckonShutting 75 = .ok (.ifCond .lt 12, 3) := by decide +kernel
theorem dX6_reckonShutting_78 : decode cX6_reckonShutting 78 = .ok (.iload 5, 2) := by decide +kernel
theorem dX6_reckonShutting_80 : decode cX6_reckonShutting 80 = .ok (.ifCond .lt 7, 3) := by decide +kernel
theorem dX6_reckonShutting_83 : decode cX6_reckonShutting 83 = .ok (.iconst 1, 1) := by decide +kernel
theorem dX6_reckonShutting_84 : decode cX6_reckonShutting 84 = .ok (.goto 4, 3) := by decide +kernel
theorem dX6_reckonShutting_87 : decode cX6_reckonShutting 87 = .ok (.iconst 0, 1) := by decide +kernel
theorem dX6_reckonShutting_88 : decode cX6_reckonShutting 88 = .ok (.istore 6, 2) := by decide +kernel
theorem dX6_reckonShutting_90 : decode cX6_reckonShutting 90 = .ok (.aload_n 0, 1) := by decide +kernel
theorem dX6_reckonShutting_91 : decode cX6_reckonShutting 91 = .ok (.getfield 40, 3) := by decide +kernel
theorem dX6_reckonShutting_94 : decode cX6_reckonShutting 94 = .ok (.iload_n 2, 1) := by decide +kernel
theorem dX6_reckonShutting_95 : decode cX6_reckonShutting 95 = .ok (.iload_n 3, 1) := by decide +kernel
theorem dX6_reckonShutting_96 : decode cX6_reckonShutting 96 = .ok (.iadd, 1) := by decide +kernel
theorem dX6_reckonShutting_97 : decode cX6_reckonShutting 97 = .ok (.iload 6, 2) := by decide +kernel
theorem dX6_reckonShutting_99 : decode cX6_reckonShutting 99 = .ok (.ifCond .eq 13, 3) := by decide +kernel
theorem dX6_reckonShutting_102 : decode cX6_reckonShutting 102 = .ok (.iconst 3, 1) := by decide +kernel
theorem dX6_reckonShutting_103 : decode cX6_reckonShutting 103 = .ok (.iload 5, 2) := by decide +kernel
theorem dX6_reckonShutting_105 : decode cX6_reckonShutting 105 = .ok (.imul, 1) := by decide +kernel
theorem dX6_reckonShutting_106 : decode cX6_reckonShutting 106 = .ok (.iload 4, 2) := by decide +kernel
theorem dX6_reckonShutting_108 : decode cX6_reckonShutting 108 = .ok (.iadd, 1) := by decide +kernel
theorem dX6_reckonShutting_109 : decode cX6_reckonShutting 109 = .ok (.goto 4, 3) := by decide +kernel
theorem dX6_reckonShutting_112 : decode cX6_reckonShutting 112 = .ok (.iconst (-1), 1) := by decide +kernel
theorem dX6_reckonShutting_113 : decode cX6_reckonShutting 113 = .ok (.iastore, 1) := by decide +kernel
theorem dX6_reckonShutting_114 : decode cX6_reckonShutting 114 = .ok (.iload 6, 2) := by decide +kernel
theorem dX6_reckonShutting_116 : decode cX6_reckonShutting 116 = .ok (.ifCond .eq 23, 3) := by decide +kernel
theorem dX6_reckonShutting_119 : decode cX6_reckonShutting 119 = .ok (.aload_n 0, 1) := by decide +kernel
theorem dX6_reckonShutting_120 : decode cX6_reckonShutting 120 = .ok (.getfield 43, 3) := by decide +kernel
theorem dX6_reckonShutting_123 : decode cX6_reckonShutting 123 = .ok (.iload_n 2, 1) := by decide +kernel
theorem dX6_reckonShutting_124 : decode cX6_reckonShutting 124 = .ok (.iconst 3, 1) := by decide +kernel
theorem dX6_reckonShutting_125 : decode cX6_reckonShutting 125 = .ok (.iload 5, 2) := by decide +kernel
theorem dX6_reckonShutting_127 : decode cX6_reckonShutting 127 = .ok (.imul, 1) := by decide +kernel
theorem dX6_reckonShutting_128 : decode cX6_reckonShutting 128 = .ok (.iadd, 1) := by decide +kernel
theorem dX6_reckonShutting_129 : decode cX6_reckonShutting 129 = .ok (.iload 4, 2) := by decide +kernel
theorem dX6_reckonShutting_131 : decode cX6_reckonShutting 131 = .ok (.iadd, 1) := by decide +kernel
theorem dX6_reckonShutting_132 : decode cX6_reckonShutting 132 = .ok (.dup2, 1) := by decide +kernel
theorem dX6_reckonShutting_133 : decode cX6_reckonShutting 133 = .ok (.iaload, 1) := by decide +kernel
theorem dX6_reckonShutting_134 : decode cX6_reckonShutting 134 = .ok (.iconst 1, 1) := by decide +kernel
theorem dX6_reckonShutting_135 : decode cX6_reckonShutting 135 = .ok (.iload_n 3, 1) := by decide +kernel
theorem dX6_reckonShutting_136 : decode cX6_reckonShutting 136 = .ok (.ishl, 1) := by decide +kernel
theorem dX6_reckonShutting_137 : decode cX6_reckonShutting 137 = .ok (.ior, 1) := by decide +kernel
theorem dX6_reckonShutting_138 : decode cX6_reckonShutting 138 = .ok (.iastore, 1) := by decide +kernel
theorem dX6_reckonShutting_139 : decode cX6_reckonShutting 139 = .ok (.iinc 3 1, 3) := by decide +kernel
theorem dX6_reckonShutting_142 : decode cX6_reckonShutting 142 = .ok (.goto (-99), 3) := by decide +kernel
theorem dX6_reckonShutting_145 : decode cX6_reckonShutting 145 = .ok (.iinc 1 1, 3) := by decide +kernel
theorem dX6_reckonShutting_148 : decode cX6_reckonShutting 148 = .ok (.goto (-125), 3) := by decide +kernel
theorem dX6_reckonShutting_151 : decode cX6_reckonShutting 151 = .ok (.return_, 1) := by decide +kernel
theorem dX6_oneShutThen_0 : decode cX6_oneShutThen 0 = .ok (.iload_n 1, 1) := by decide +kernel
theorem dX6_oneShutThen_1 : decode cX6_oneShutThen 1 = .ok (.iload_n 2, 1) := by decide +kernel
theorem dX6_oneShutThen_2 : decode cX6_oneShutThen 2 = .ok (.if_icmp .ne 21, 3) := by decide +kernel
theorem dX6_oneShutThen_5 : decode cX6_oneShutThen 5 = .ok (.iload_n 3, 1) := by decide +kernel
theorem dX6_oneShutThen_6 : decode cX6_oneShutThen 6 = .ok (.ifCond .ne 15, 3) := by decide +kernel
theorem dX6_oneShutThen_9 : decode cX6_oneShutThen 9 = .ok (.aload_n 0, 1) := by decide +kernel
theorem dX6_oneShutThen_10 : decode cX6_oneShutThen 10 = .ok (.getfield 50, 3) := by decide +kernel
theorem dX6_oneShutThen_13 : decode cX6_oneShutThen 13 = .ok (.getfield 104, 3) := by decide +kernel
theorem dX6_oneShutThen_16 : decode cX6_oneShutThen 16 = .ok (.iload_n 1, 1) := by decide +kernel
theorem dX6_oneShutThen_17 : decode cX6_oneShutThen 17 = .ok (.iaload, 1) := by decide +kernel
theorem dX6_oneShutThen_18 : decode cX6_oneShutThen 18 = .ok (.goto 4, 3) := by decide +kernel
theorem dX6_oneShutThen_21 : decode cX6_oneShutThen 21 = .ok (.iconst (-1), 1) := by decide +kernel
theorem dX6_oneShutThen_22 : decode cX6_oneShutThen 22 = .ok (.ireturn, 1) := by decide +kernel
theorem dX6_oneShutThen_23 : decode cX6_oneShutThen 23 = .ok (.iconst 0, 1) := by decide +kernel
theorem dX6_oneShutThen_24 : decode cX6_oneShutThen 24 = .ok (.iload_n 3, 1) := by decide +kernel
theorem dX6_oneShutThen_25 : decode cX6_oneShutThen 25 = .ok (.iconst 1, 1) := by decide +kernel
theorem dX6_oneShutThen_26 : decode cX6_oneShutThen 26 = .ok (.isub, 1) := by decide +kernel
theorem dX6_oneShutThen_27 : decode cX6_oneShutThen 27 = .ok (.invokestatic 107, 3) := by decide +kernel
theorem dX6_oneShutThen_30 : decode cX6_oneShutThen 30 = .ok (.ireturn, 1) := by decide +kernel
theorem dX6_linkHunters_0 : decode cX6_linkHunters 0 = .ok (.iload_n 1, 1) := by decide +kernel
theorem dX6_linkHunters_1 : decode cX6_linkHunters 1 = .ok (.invokestatic 113, 3) := by decide +kernel
theorem dX6_linkHunters_4 : decode cX6_linkHunters 4 = .ok (.istore_n 2, 1) := by decide +kernel
theorem dX6_linkHunters_5 : decode cX6_linkHunters 5 = .ok (.iconst 0, 1) := by decide +kernel
theorem dX6_linkHunters_6 : decode cX6_linkHunters 6 = .ok (.istore_n 3, 1) := by decide +kernel
theorem dX6_linkHunters_7 : decode cX6_linkHunters 7 = .ok (.iload_n 3, 1) := by decide +kernel
theorem dX6_linkHunters_8 : decode cX6_linkHunters 8 = .ok (.bipush 32, 2) := by decide +kernel
theorem dX6_linkHunters_10 : decode cX6_linkHunters 10 = .ok (.if_icmp .gt 93, 3) := by decide +kernel
theorem dX6_linkHunters_13 : decode cX6_linkHunters 13 = .ok (.aload_n 0, 1) := by decide +kernel
theorem dX6_linkHunters_14 : decode cX6_linkHunters 14 = .ok (.getfield 50, 3) := by decide +kernel
theorem dX6_linkHunters_17 : decode cX6_linkHunters 17 = .ok (.iload_n 1, 1) := by decide +kernel
theorem dX6_linkHunters_18 : decode cX6_linkHunters 18 = .ok (.iload_n 3, 1) := by decide +kernel
theorem dX6_linkHunters_19 : decode cX6_linkHunters 19 = .ok (.invokevirtual 117, 3) := by decide +kernel
theorem dX6_linkHunters_22 : decode cX6_linkHunters 22 = .ok (.istore 4, 2) := by decide +kernel
theorem dX6_linkHunters_24 : decode cX6_linkHunters 24 = .ok (.iload 4, 2) := by decide +kernel
theorem dX6_linkHunters_26 : decode cX6_linkHunters 26 = .ok (.ifCond .ge 6, 3) := by decide +kernel
theorem dX6_linkHunters_29 : decode cX6_linkHunters 29 = .ok (.goto 68, 3) := by decide +kernel
theorem dX6_linkHunters_32 : decode cX6_linkHunters 32 = .ok (.aload_n 0, 1) := by decide +kernel
theorem dX6_linkHunters_33 : decode cX6_linkHunters 33 = .ok (.getfield 50, 3) := by decide +kernel
theorem dX6_linkHunters_36 : decode cX6_linkHunters 36 = .ok (.iload_n 3, 1) := by decide +kernel
theorem dX6_linkHunters_37 : decode cX6_linkHunters 37 = .ok (.invokevirtual 120, 3) := by decide +kernel
theorem dX6_linkHunters_40 : decode cX6_linkHunters 40 = .ok (.istore 5, 2) := by decide +kernel
theorem dX6_linkHunters_42 : decode cX6_linkHunters 42 = .ok (.iconst 0, 1) := by decide +kernel
theorem dX6_linkHunters_43 : decode cX6_linkHunters 43 = .ok (.istore 6, 2) := by decide +kernel
theorem dX6_linkHunters_45 : decode cX6_linkHunters 45 = .ok (.iload 6, 2) := by decide +kernel
theorem dX6_linkHunters_47 : decode cX6_linkHunters 47 = .ok (.aload_n 0, 1) := by decide +kernel
theorem dX6_linkHunters_48 : decode cX6_linkHunters 48 = .ok (.getfield 50, 3) := by decide +kernel
theorem dX6_linkHunters_51 : decode cX6_linkHunters 51 = .ok (.getfield 123, 3) := by decide +kernel
theorem dX6_linkHunters_54 : decode cX6_linkHunters 54 = .ok (.if_icmp .ge 43, 3) := by decide +kernel
theorem dX6_linkHunters_57 : decode cX6_linkHunters 57 = .ok (.iload_n 2, 1) := by decide +kernel
theorem dX6_linkHunters_58 : decode cX6_linkHunters 58 = .ok (.iload 6, 2) := by decide +kernel
theorem dX6_linkHunters_60 : decode cX6_linkHunters 60 = .ok (.ishr, 1) := by decide +kernel
theorem dX6_linkHunters_61 : decode cX6_linkHunters 61 = .ok (.iconst 1, 1) := by decide +kernel
theorem dX6_linkHunters_62 : decode cX6_linkHunters 62 = .ok (.iand, 1) := by decide +kernel
theorem dX6_linkHunters_63 : decode cX6_linkHunters 63 = .ok (.ifCond .ne 28, 3) := by decide +kernel
theorem dX6_linkHunters_66 : decode cX6_linkHunters 66 = .ok (.aload_n 0, 1) := by decide +kernel
theorem dX6_linkHunters_67 : decode cX6_linkHunters 67 = .ok (.iload_n 1, 1) := by decide +kernel
theorem dX6_linkHunters_68 : decode cX6_linkHunters 68 = .ok (.bipush 8, 2) := by decide +kernel
theorem dX6_linkHunters_70 : decode cX6_linkHunters 70 = .ok (.imul, 1) := by decide +kernel
theorem dX6_linkHunters_71 : decode cX6_linkHunters 71 = .ok (.iload 6, 2) := by decide +kernel
theorem dX6_linkHunters_73 : decode cX6_linkHunters 73 = .ok (.iadd, 1) := by decide +kernel
theorem dX6_linkHunters_74 : decode cX6_linkHunters 74 = .ok (.sipush 512, 3) := by decide +kernel
theorem dX6_linkHunters_77 : decode cX6_linkHunters 77 = .ok (.iload 4, 2) := by decide +kernel
theorem dX6_linkHunters_79 : decode cX6_linkHunters 79 = .ok (.bipush 8, 2) := by decide +kernel
theorem dX6_linkHunters_81 : decode cX6_linkHunters 81 = .ok (.imul, 1) := by decide +kernel
theorem dX6_linkHunters_82 : decode cX6_linkHunters 82 = .ok (.iadd, 1) := by decide +kernel
theorem dX6_linkHunters_83 : decode cX6_linkHunters 83 = .ok (.iload 6, 2) := by decide +kernel
theorem dX6_linkHunters_85 : decode cX6_linkHunters 85 = .ok (.iadd, 1) := by decide +kernel
theorem dX6_linkHunters_86 : decode cX6_linkHunters 86 = .ok (.iload 5, 2) := by decide +kernel
theorem dX6_linkHunters_88 : decode cX6_linkHunters 88 = .ok (.invokevirtual 126, 3) := by decide +kernel
theorem dX6_linkHunters_91 : decode cX6_linkHunters 91 = .ok (.iinc 6 1, 3) := by decide +kernel
theorem dX6_linkHunters_94 : decode cX6_linkHunters 94 = .ok (.goto (-49), 3) := by decide +kernel
theorem dX6_linkHunters_97 : decode cX6_linkHunters 97 = .ok (.iinc 3 1, 3) := by decide +kernel
theorem dX6_linkHunters_100 : decode cX6_linkHunters 100 = .ok (.goto (-93), 3) := by decide +kernel
theorem dX6_linkHunters_103 : decode cX6_linkHunters 103 = .ok (.return_, 1) := by decide +kernel
theorem dX6_linkRunner_0 : decode cX6_linkRunner 0 = .ok (.iload_n 1, 1) := by decide +kernel
theorem dX6_linkRunner_1 : decode cX6_linkRunner 1 = .ok (.invokestatic 113, 3) := by decide +kernel
theorem dX6_linkRunner_4 : decode cX6_linkRunner 4 = .ok (.istore_n 2, 1) := by decide +kernel
theorem dX6_linkRunner_5 : decode cX6_linkRunner 5 = .ok (.iconst 0, 1) := by decide +kernel
theorem dX6_linkRunner_6 : decode cX6_linkRunner 6 = .ok (.istore_n 3, 1) := by decide +kernel
theorem dX6_linkRunner_7 : decode cX6_linkRunner 7 = .ok (.iload_n 3, 1) := by decide +kernel
theorem dX6_linkRunner_8 : decode cX6_linkRunner 8 = .ok (.aload_n 0, 1) := by decide +kernel
theorem dX6_linkRunner_9 : decode cX6_linkRunner 9 = .ok (.getfield 50, 3) := by decide +kernel
theorem dX6_linkRunner_12 : decode cX6_linkRunner 12 = .ok (.getfield 123, 3) := by decide +kernel
theorem dX6_linkRunner_15 : decode cX6_linkRunner 15 = .ok (.if_icmp .ge 105, 3) := by decide +kernel
theorem dX6_linkRunner_18 : decode cX6_linkRunner 18 = .ok (.iload_n 2, 1) := by decide +kernel
theorem dX6_linkRunner_19 : decode cX6_linkRunner 19 = .ok (.iload_n 3, 1) := by decide +kernel
theorem dX6_linkRunner_20 : decode cX6_linkRunner 20 = .ok (.ishr, 1) := by decide +kernel
theorem dX6_linkRunner_21 : decode cX6_linkRunner 21 = .ok (.iconst 1, 1) := by decide +kernel
theorem dX6_linkRunner_22 : decode cX6_linkRunner 22 = .ok (.iand, 1) := by decide +kernel
theorem dX6_linkRunner_23 : decode cX6_linkRunner 23 = .ok (.ifCond .eq 6, 3) := by decide +kernel
theorem dX6_linkRunner_26 : decode cX6_linkRunner 26 = .ok (.goto 88, 3) := by decide +kernel
theorem dX6_linkRunner_29 : decode cX6_linkRunner 29 = .ok (.sipush 512, 3) := by decide +kernel
theorem dX6_linkRunner_32 : decode cX6_linkRunner 32 = .ok (.iload_n 1, 1) := by decide +kernel
theorem dX6_linkRunner_33 : decode cX6_linkRunner 33 = .ok (.bipush 8, 2) := by decide +kernel
theorem dX6_linkRunner_35 : decode cX6_linkRunner 35 = .ok (.imul, 1) := by decide +kernel
theorem dX6_linkRunner_36 : decode cX6_linkRunner 36 = .ok (.iadd, 1) := by decide +kernel
theorem dX6_linkRunner_37 : decode cX6_linkRunner 37 = .ok (.iload_n 3, 1) := by decide +kernel
theorem dX6_linkRunner_38 : decode cX6_linkRunner 38 = .ok (.iadd, 1) := by decide +kernel
theorem dX6_linkRunner_39 : decode cX6_linkRunner 39 = .ok (.istore 4, 2) := by decide +kernel
theorem dX6_linkRunner_41 : decode cX6_linkRunner 41 = .ok (.iconst 0, 1) := by decide +kernel
theorem dX6_linkRunner_42 : decode cX6_linkRunner 42 = .ok (.istore 5, 2) := by decide +kernel
theorem dX6_linkRunner_44 : decode cX6_linkRunner 44 = .ok (.iload 5, 2) := by decide +kernel
theorem dX6_linkRunner_46 : decode cX6_linkRunner 46 = .ok (.aload_n 0, 1) := by decide +kernel
theorem dX6_linkRunner_47 : decode cX6_linkRunner 47 = .ok (.getfield 50, 3) := by decide +kernel
theorem dX6_linkRunner_50 : decode cX6_linkRunner 50 = .ok (.getfield 130, 3) := by decide +kernel
theorem dX6_linkRunner_53 : decode cX6_linkRunner 53 = .ok (.if_icmp .gt 61, 3) := by decide +kernel
theorem dX6_linkRunner_56 : decode cX6_linkRunner 56 = .ok (.aload_n 0, 1) := by decide +kernel
theorem dX6_linkRunner_57 : decode cX6_linkRunner 57 = .ok (.getfield 50, 3) := by decide +kernel
theorem dX6_linkRunner_60 : decode cX6_linkRunner 60 = .ok (.iload_n 1, 1) := by decide +kernel
theorem dX6_linkRunner_61 : decode cX6_linkRunner 61 = .ok (.iload_n 3, 1) := by decide +kernel
theorem dX6_linkRunner_62 : decode cX6_linkRunner 62 = .ok (.iload 5, 2) := by decide +kernel
theorem dX6_linkRunner_64 : decode cX6_linkRunner 64 = .ok (.invokevirtual 133, 3) := by decide +kernel
theorem dX6_linkRunner_67 : decode cX6_linkRunner 67 = .ok (.istore 6, 2) := by decide +kernel
theorem dX6_linkRunner_69 : decode cX6_linkRunner 69 = .ok (.iload 6, 2) := by decide +kernel
theorem dX6_linkRunner_71 : decode cX6_linkRunner 71 = .ok (.ifCond .lt 37, 3) := by decide +kernel
theorem dX6_linkRunner_74 : decode cX6_linkRunner 74 = .ok (.aload_n 0, 1) := by decide +kernel
theorem dX6_linkRunner_75 : decode cX6_linkRunner 75 = .ok (.getfield 50, 3) := by decide +kernel
theorem dX6_linkRunner_78 : decode cX6_linkRunner 78 = .ok (.iload 5, 2) := by decide +kernel
theorem dX6_linkRunner_80 : decode cX6_linkRunner 80 = .ok (.invokevirtual 120, 3) := by decide +kernel
theorem dX6_linkRunner_83 : decode cX6_linkRunner 83 = .ok (.istore 7, 2) := by decide +kernel
theorem dX6_linkRunner_85 : decode cX6_linkRunner 85 = .ok (.aload_n 0, 1) := by decide +kernel
theorem dX6_linkRunner_86 : decode cX6_linkRunner 86 = .ok (.iload 4, 2) := by decide +kernel
theorem dX6_linkRunner_88 : decode cX6_linkRunner 88 = .ok (.iload_n 1, 1) := by decide +kernel
theorem dX6_linkRunner_89 : decode cX6_linkRunner 89 = .ok (.bipush 8, 2) := by decide +kernel
theorem dX6_linkRunner_91 : decode cX6_linkRunner 91 = .ok (.imul, 1) := by decide +kernel
theorem dX6_linkRunner_92 : decode cX6_linkRunner 92 = .ok (.iload 6, 2) := by decide +kernel
theorem dX6_linkRunner_94 : decode cX6_linkRunner 94 = .ok (.iadd, 1) := by decide +kernel
theorem dX6_linkRunner_95 : decode cX6_linkRunner 95 = .ok (.iload 7, 2) := by decide +kernel
theorem dX6_linkRunner_97 : decode cX6_linkRunner 97 = .ok (.invokevirtual 126, 3) := by decide +kernel
theorem dX6_linkRunner_100 : decode cX6_linkRunner 100 = .ok (.aload_n 0, 1) := by decide +kernel
theorem dX6_linkRunner_101 : decode cX6_linkRunner 101 = .ok (.iload 4, 2) := by decide +kernel
theorem dX6_linkRunner_103 : decode cX6_linkRunner 103 = .ok (.iload 7, 2) := by decide +kernel
theorem dX6_linkRunner_105 : decode cX6_linkRunner 105 = .ok (.invokevirtual 136, 3) := by decide +kernel
theorem dX6_linkRunner_108 : decode cX6_linkRunner 108 = .ok (.iinc 5 1, 3) := by decide +kernel
theorem dX6_linkRunner_111 : decode cX6_linkRunner 111 = .ok (.goto (-67), 3) := by decide +kernel
theorem dX6_linkRunner_114 : decode cX6_linkRunner 114 = .ok (.iinc 3 1, 3) := by decide +kernel
theorem dX6_linkRunner_117 : decode cX6_linkRunner 117 = .ok (.goto (-110), 3) := by decide +kernel
theorem dX6_linkRunner_120 : decode cX6_linkRunner 120 = .ok (.return_, 1) := by decide +kernel
theorem dX6_addEdge_0 : decode cX6_addEdge 0 = .ok (.aload_n 0, 1) := by decide +kernel
theorem dX6_addEdge_1 : decode cX6_addEdge 1 = .ok (.getfield 94, 3) := by decide +kernel
theorem dX6_addEdge_4 : decode cX6_addEdge 4 = .ok (.sipush 3776, 3) := by decide +kernel
theorem dX6_addEdge_7 : decode cX6_addEdge 7 = .ok (.if_icmp .lt 4, 3) := by decide +kernel
theorem dX6_addEdge_10 : decode cX6_addEdge 10 = .ok (.return_, 1) := by decide +kernel
theorem dX6_addEdge_11 : decode cX6_addEdge 11 = .ok (.aload_n 0, 1) := by decide +kernel
theorem dX6_addEdge_12 : decode cX6_addEdge 12 = .ok (.getfield 31, 3) := by decide +kernel
theorem dX6_addEdge_15 : decode cX6_addEdge 15 = .ok (.aload_n 0, 1) := by decide +kernel
theorem dX6_addEdge_16 : decode cX6_addEdge 16 = .ok (.getfield 94, 3) := by decide +kernel
theorem dX6_addEdge_19 : decode cX6_addEdge 19 = .ok (.iload_n 1, 1) := by decide +kernel
theorem dX6_addEdge_20 : decode cX6_addEdge 20 = .ok (.iastore, 1) := by decide +kernel
theorem dX6_addEdge_21 : decode cX6_addEdge 21 = .ok (.aload_n 0, 1) := by decide +kernel
theorem dX6_addEdge_22 : decode cX6_addEdge 22 = .ok (.getfield 34, 3) := by decide +kernel
theorem dX6_addEdge_25 : decode cX6_addEdge 25 = .ok (.aload_n 0, 1) := by decide +kernel
theorem dX6_addEdge_26 : decode cX6_addEdge 26 = .ok (.getfield 94, 3) := by decide +kernel
theorem dX6_addEdge_29 : decode cX6_addEdge 29 = .ok (.iload_n 3, 1) := by decide +kernel
theorem dX6_addEdge_30 : decode cX6_addEdge 30 = .ok (.iastore, 1) := by decide +kernel
theorem dX6_addEdge_31 : decode cX6_addEdge 31 = .ok (.aload_n 0, 1) := by decide +kernel
theorem dX6_addEdge_32 : decode cX6_addEdge 32 = .ok (.getfield 28, 3) := by decide +kernel
theorem dX6_addEdge_35 : decode cX6_addEdge 35 = .ok (.aload_n 0, 1) := by decide +kernel
theorem dX6_addEdge_36 : decode cX6_addEdge 36 = .ok (.getfield 94, 3) := by decide +kernel
theorem dX6_addEdge_39 : decode cX6_addEdge 39 = .ok (.aload_n 0, 1) := by decide +kernel
theorem dX6_addEdge_40 : decode cX6_addEdge 40 = .ok (.getfield 25, 3) := by decide +kernel
theorem dX6_addEdge_43 : decode cX6_addEdge 43 = .ok (.iload_n 2, 1) := by decide +kernel
theorem dX6_addEdge_44 : decode cX6_addEdge 44 = .ok (.iaload, 1) := by decide +kernel
theorem dX6_addEdge_45 : decode cX6_addEdge 45 = .ok (.iastore, 1) := by decide +kernel
theorem dX6_addEdge_46 : decode cX6_addEdge 46 = .ok (.aload_n 0, 1) := by decide +kernel
theorem dX6_addEdge_47 : decode cX6_addEdge 47 = .ok (.getfield 25, 3) := by decide +kernel
theorem dX6_addEdge_50 : decode cX6_addEdge 50 = .ok (.iload_n 2, 1) := by decide +kernel
theorem dX6_addEdge_51 : decode cX6_addEdge 51 = .ok (.aload_n 0, 1) := by decide +kernel
theorem dX6_addEdge_52 : decode cX6_addEdge 52 = .ok (.dup, 1) := by decide +kernel
theorem dX6_addEdge_53 : decode cX6_addEdge 53 = .ok (.getfield 94, 3) := by decide +kernel
theorem dX6_addEdge_56 : decode cX6_addEdge 56 = .ok (.dup_x1, 1) := by decide +kernel
theorem dX6_addEdge_57 : decode cX6_addEdge 57 = .ok (.iconst 1, 1) := by decide +kernel
theorem dX6_addEdge_58 : decode cX6_addEdge 58 = .ok (.iadd, 1) := by decide +kernel
theorem dX6_addEdge_59 : decode cX6_addEdge 59 = .ok (.putfield 94, 3) := by decide +kernel
theorem dX6_addEdge_62 : decode cX6_addEdge 62 = .ok (.iastore, 1) := by decide +kernel
theorem dX6_addEdge_63 : decode cX6_addEdge 63 = .ok (.return_, 1) := by decide +kernel
theorem dX6_countMove_0 : decode cX6_countMove 0 = .ok (.iload_n 2, 1) := by decide +kernel
theorem dX6_countMove_1 : decode cX6_countMove 1 = .ok (.iconst 1, 1) := by decide +kernel
theorem dX6_countMove_2 : decode cX6_countMove 2 = .ok (.iadd, 1) := by decide +kernel
theorem dX6_countMove_3 : decode cX6_countMove 3 = .ok (.bipush 9, 2) := by decide +kernel
theorem dX6_countMove_5 : decode cX6_countMove 5 = .ok (.imul, 1) := by decide +kernel
theorem dX6_countMove_6 : decode cX6_countMove 6 = .ok (.istore_n 3, 1) := by decide +kernel
theorem dX6_countMove_7 : decode cX6_countMove 7 = .ok (.iconst 0, 1) := by decide +kernel
theorem dX6_countMove_8 : decode cX6_countMove 8 = .ok (.istore 4, 2) := by decide +kernel
theorem dX6_countMove_10 : decode cX6_countMove 10 = .ok (.iload 4, 2) := by decide +kernel
theorem dX6_countMove_12 : decode cX6_countMove 12 = .ok (.aload_n 0, 1) := by decide +kernel
theorem dX6_countMove_13 : decode cX6_countMove 13 = .ok (.getfield 37, 3) := by decide +kernel
theorem dX6_countMove_16 : decode cX6_countMove 16 = .ok (.if_icmp .ge 38, 3) := by decide +kernel
theorem dX6_countMove_19 : decode cX6_countMove 19 = .ok (.aload_n 0, 1) := by decide +kernel
theorem dX6_countMove_20 : decode cX6_countMove 20 = .ok (.getfield 40, 3) := by decide +kernel
theorem dX6_countMove_23 : decode cX6_countMove 23 = .ok (.iload_n 3, 1) := by decide +kernel
theorem dX6_countMove_24 : decode cX6_countMove 24 = .ok (.iload 4, 2) := by decide +kernel
theorem dX6_countMove_26 : decode cX6_countMove 26 = .ok (.iadd, 1) := by decide +kernel
theorem dX6_countMove_27 : decode cX6_countMove 27 = .ok (.iaload, 1) := by decide +kernel
theorem dX6_countMove_28 : decode cX6_countMove 28 = .ok (.ifCond .lt 20, 3) := by decide +kernel
theorem dX6_countMove_31 : decode cX6_countMove 31 = .ok (.aload_n 0, 1) := by decide +kernel
theorem dX6_countMove_32 : decode cX6_countMove 32 = .ok (.getfield 19, 3) := by decide +kernel
theorem dX6_countMove_35 : decode cX6_countMove 35 = .ok (.iload 4, 2) := by decide +kernel
theorem dX6_countMove_37 : decode cX6_countMove 37 = .ok (.sipush 1024, 3) := by decide +kernel
theorem dX6_countMove_40 : decode cX6_countMove 40 = .ok (.imul, 1) := by decide +kernel
theorem dX6_countMove_41 : decode cX6_countMove 41 = .ok (.iload_n 1, 1) := by decide +kernel
theorem dX6_countMove_42 : decode cX6_countMove 42 = .ok (.iadd, 1) := by decide +kernel
theorem dX6_countMove_43 : decode cX6_countMove 43 = .ok (.dup2, 1) := by decide +kernel
theorem dX6_countMove_44 : decode cX6_countMove 44 = .ok (.iaload, 1) := by decide +kernel
theorem dX6_countMove_45 : decode cX6_countMove 45 = .ok (.iconst 1, 1) := by decide +kernel
theorem dX6_countMove_46 : decode cX6_countMove 46 = .ok (.iadd, 1) := by decide +kernel
theorem dX6_countMove_47 : decode cX6_countMove 47 = .ok (.iastore, 1) := by decide +kernel
theorem dX6_countMove_48 : decode cX6_countMove 48 = .ok (.iinc 4 1, 3) := by decide +kernel
theorem dX6_countMove_51 : decode cX6_countMove 51 = .ok (.goto (-41), 3) := by decide +kernel
theorem dX6_countMove_54 : decode cX6_countMove 54 = .ok (.return_, 1) := by decide +kernel
theorem dX6_queueCaught_0 : decode cX6_queueCaught 0 = .ok (.iload_n 1, 1) := by decide +kernel
theorem dX6_queueCaught_1 : decode cX6_queueCaught 1 = .ok (.invokestatic 113, 3) := by decide +kernel
theorem dX6_queueCaught_4 : decode cX6_queueCaught 4 = .ok (.istore_n 2, 1) := by decide +kernel
theorem dX6_queueCaught_5 : decode cX6_queueCaught 5 = .ok (.iconst 0, 1) := by decide +kernel
theorem dX6_queueCaught_6 : decode cX6_queueCaught 6 = .ok (.istore_n 3, 1) := by decide +kernel
theorem dX6_queueCaught_7 : decode cX6_queueCaught 7 = .ok (.iload_n 3, 1) := by decide +kernel
theorem dX6_queueCaught_8 : decode cX6_queueCaught 8 = .ok (.aload_n 0, 1) := by decide +kernel
theorem dX6_queueCaught_9 : decode cX6_queueCaught 9 = .ok (.getfield 50, 3) := by decide +kernel
theorem dX6_queueCaught_12 : decode cX6_queueCaught 12 = .ok (.getfield 123, 3) := by decide +kernel
theorem dX6_queueCaught_15 : decode cX6_queueCaught 15 = .ok (.if_icmp .ge 99, 3) := by decide +kernel
theorem dX6_queueCaught_18 : decode cX6_queueCaught 18 = .ok (.iload_n 2, 1) := by decide +kernel
theorem dX6_queueCaught_19 : decode cX6_queueCaught 19 = .ok (.iload_n 3, 1) := by decide +kernel
theorem dX6_queueCaught_20 : decode cX6_queueCaught 20 = .ok (.ishr, 1) := by decide +kernel
theorem dX6_queueCaught_21 : decode cX6_queueCaught 21 = .ok (.iconst 1, 1) := by decide +kernel
theorem dX6_queueCaught_22 : decode cX6_queueCaught 22 = .ok (.iand, 1) := by decide +kernel
theorem dX6_queueCaught_23 : decode cX6_queueCaught 23 = .ok (.ifCond .eq 7, 3) := by decide +kernel
theorem dX6_queueCaught_26 : decode cX6_queueCaught 26 = .ok (.iconst 1, 1) := by decide +kernel
theorem dX6_queueCaught_27 : decode cX6_queueCaught 27 = .ok (.goto 4, 3) := by decide +kernel
theorem dX6_queueCaught_30 : decode cX6_queueCaught 30 = .ok (.iconst 0, 1) := by decide +kernel
theorem dX6_queueCaught_31 : decode cX6_queueCaught 31 = .ok (.istore 4, 2) := by decide +kernel
theorem dX6_queueCaught_33 : decode cX6_queueCaught 33 = .ok (.iconst 0, 1) := by decide +kernel
theorem dX6_queueCaught_34 : decode cX6_queueCaught 34 = .ok (.istore 5, 2) := by decide +kernel
theorem dX6_queueCaught_36 : decode cX6_queueCaught 36 = .ok (.iload 5, 2) := by decide +kernel
theorem dX6_queueCaught_38 : decode cX6_queueCaught 38 = .ok (.aload_n 0, 1) := by decide +kernel
theorem dX6_queueCaught_39 : decode cX6_queueCaught 39 = .ok (.getfield 37, 3) := by decide +kernel
theorem dX6_queueCaught_42 : decode cX6_queueCaught 42 = .ok (.if_icmp .ge 66, 3) := by decide +kernel
theorem dX6_queueCaught_45 : decode cX6_queueCaught 45 = .ok (.iload 5, 2) := by decide +kernel
theorem dX6_queueCaught_47 : decode cX6_queueCaught 47 = .ok (.sipush 1024, 3) := by decide +kernel
theorem dX6_queueCaught_50 : decode cX6_queueCaught 50 = .ok (.imul, 1) := by decide +kernel
theorem dX6_queueCaught_51 : decode cX6_queueCaught 51 = .ok (.iload_n 1, 1) := by decide +kernel
theorem dX6_queueCaught_52 : decode cX6_queueCaught 52 = .ok (.bipush 8, 2) := by decide +kernel
theorem dX6_queueCaught_54 : decode cX6_queueCaught 54 = .ok (.imul, 1) := by decide +kernel
theorem dX6_queueCaught_55 : decode cX6_queueCaught 55 = .ok (.iadd, 1) := by decide +kernel
theorem dX6_queueCaught_56 : decode cX6_queueCaught 56 = .ok (.iload_n 3, 1) := by decide +kernel
theorem dX6_queueCaught_57 : decode cX6_queueCaught 57 = .ok (.iadd, 1) := by decide +kernel
theorem dX6_queueCaught_58 : decode cX6_queueCaught 58 = .ok (.istore 6, 2) := by decide +kernel
theorem dX6_queueCaught_60 : decode cX6_queueCaught 60 = .ok (.iload 4, 2) := by decide +kernel
theorem dX6_queueCaught_62 : decode cX6_queueCaught 62 = .ok (.ifCond .eq 10, 3) := by decide +kernel
theorem dX6_queueCaught_65 : decode cX6_queueCaught 65 = .ok (.aload_n 0, 1) := by decide +kernel
theorem dX6_queueCaught_66 : decode cX6_queueCaught 66 = .ok (.iload 6, 2) := by decide +kernel
theorem dX6_queueCaught_68 : decode cX6_queueCaught 68 = .ok (.iconst 0, 1) := by decide +kernel
theorem dX6_queueCaught_69 : decode cX6_queueCaught 69 = .ok (.invokevirtual 140, 3) := by decide +kernel
