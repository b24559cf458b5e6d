theorem dX8_told_118 : decode cX8_told 118 = .ok (.getfield 230, 3) := by decide +kernel
theorem dX8_told_121 : decode cX8_told 121 = .ok (.ireturn, 1) := by decide +kernel
theorem dX8_told_122 : decode cX8_told 122 = .ok (.aload_n 0, 1) := by decide +kernel
theorem dX8_told_123 : decode cX8_told 123 = .ok (.getfield 33, 3) := by decide +kernel
theorem dX8_told_126 : decode cX8_told 126 = .ok (.getfield 249, 3) := by decide +kernel
theorem dX8_told_129 : decode cX8_told 129 = .ok (.ireturn, 1) := by decide +kernel
theorem dX8_told_130 : decode cX8_told 130 = .ok (.aload_n 0, 1) := by decide +kernel
theorem dX8_told_131 : decode cX8_told 131 = .ok (.invokevirtual 132, 3) := by decide +kernel
theorem dX8_told_134 : decode cX8_told 134 = .ok (.getfield 136, 3) := by decide +kernel
theorem dX8_told_137 : decode cX8_told 137 = .ok (.iload_n 2, 1) := by decide +kernel
theorem dX8_told_138 : decode cX8_told 138 = .ok (.iaload, 1) := by decide +kernel
theorem dX8_told_139 : decode cX8_told 139 = .ok (.ifCond .ne 7, 3) := by decide +kernel
theorem dX8_told_142 : decode cX8_told 142 = .ok (.iconst 1, 1) := by decide +kernel
theorem dX8_told_143 : decode cX8_told 143 = .ok (.goto 4, 3) := by decide +kernel
theorem dX8_told_146 : decode cX8_told 146 = .ok (.iconst 0, 1) := by decide +kernel
theorem dX8_told_147 : decode cX8_told 147 = .ok (.ireturn, 1) := by decide +kernel
theorem dX8_told_148 : decode cX8_told 148 = .ok (.aload_n 0, 1) := by decide +kernel
theorem dX8_told_149 : decode cX8_told 149 = .ok (.invokevirtual 132, 3) := by decide +kernel
theorem dX8_told_152 : decode cX8_told 152 = .ok (.getfield 136, 3) := by decide +kernel
theorem dX8_told_155 : decode cX8_told 155 = .ok (.iload_n 2, 1) := by decide +kernel
theorem dX8_told_156 : decode cX8_told 156 = .ok (.iaload, 1) := by decide +kernel
theorem dX8_told_157 : decode cX8_told 157 = .ok (.ireturn, 1) := by decide +kernel
theorem dX8_feed_0 : decode cX8_feed 0 = .ok (.iload_n 1, 1) := by decide +kernel
theorem dX8_feed_1 : decode cX8_feed 1 = .ok (.iconst 1, 1) := by decide +kernel
theorem dX8_feed_2 : decode cX8_feed 2 = .ok (.if_icmp .lt 9, 3) := by decide +kernel
theorem dX8_feed_5 : decode cX8_feed 5 = .ok (.iload_n 1, 1) := by decide +kernel
theorem dX8_feed_6 : decode cX8_feed 6 = .ok (.bipush 8, 2) := by decide +kernel
theorem dX8_feed_8 : decode cX8_feed 8 = .ok (.if_icmp .le 6, 3) := by decide +kernel
theorem dX8_feed_11 : decode cX8_feed 11 = .ok (.bipush (-2), 2) := by decide +kernel
theorem dX8_feed_13 : decode cX8_feed 13 = .ok (.ireturn, 1) := by decide +kernel
theorem dX8_feed_14 : decode cX8_feed 14 = .ok (.aload_n 0, 1) := by decide +kernel
theorem dX8_feed_15 : decode cX8_feed 15 = .ok (.getfield 40, 3) := by decide +kernel
theorem dX8_feed_18 : decode cX8_feed 18 = .ok (.getfield 252, 3) := by decide +kernel
theorem dX8_feed_21 : decode cX8_feed 21 = .ok (.iload_n 1, 1) := by decide +kernel
theorem dX8_feed_22 : decode cX8_feed 22 = .ok (.iadd, 1) := by decide +kernel
theorem dX8_feed_23 : decode cX8_feed 23 = .ok (.bipush 120, 2) := by decide +kernel
theorem dX8_feed_25 : decode cX8_feed 25 = .ok (.if_icmp .le 6, 3) := by decide +kernel
theorem dX8_feed_28 : decode cX8_feed 28 = .ok (.bipush (-4), 2) := by decide +kernel
theorem dX8_feed_30 : decode cX8_feed 30 = .ok (.ireturn, 1) := by decide +kernel
theorem dX8_feed_31 : decode cX8_feed 31 = .ok (.iconst 0, 1) := by decide +kernel
theorem dX8_feed_32 : decode cX8_feed 32 = .ok (.istore 4, 2) := by decide +kernel
theorem dX8_feed_34 : decode cX8_feed 34 = .ok (.iload 4, 2) := by decide +kernel
theorem dX8_feed_36 : decode cX8_feed 36 = .ok (.iload_n 1, 1) := by decide +kernel
theorem dX8_feed_37 : decode cX8_feed 37 = .ok (.if_icmp .ge 40, 3) := by decide +kernel
theorem dX8_feed_40 : decode cX8_feed 40 = .ok (.aload_n 0, 1) := by decide +kernel
theorem dX8_feed_41 : decode cX8_feed 41 = .ok (.getfield 40, 3) := by decide +kernel
theorem dX8_feed_44 : decode cX8_feed 44 = .ok (.getfield 255, 3) := by decide +kernel
theorem dX8_feed_47 : decode cX8_feed 47 = .ok (.aload_n 0, 1) := by decide +kernel
theorem dX8_feed_48 : decode cX8_feed 48 = .ok (.getfield 40, 3) := by decide +kernel
theorem dX8_feed_51 : decode cX8_feed 51 = .ok (.dup, 1) := by decide +kernel
theorem dX8_feed_52 : decode cX8_feed 52 = .ok (.getfield 252, 3) := by decide +kernel
theorem dX8_feed_55 : decode cX8_feed 55 = .ok (.dup_x1, 1) := by decide +kernel
theorem dX8_feed_56 : decode cX8_feed 56 = .ok (.iconst 1, 1) := by decide +kernel
theorem dX8_feed_57 : decode cX8_feed 57 = .ok (.iadd, 1) := by decide +kernel
theorem dX8_feed_58 : decode cX8_feed 58 = .ok (.putfield 252, 3) := by decide +kernel
theorem dX8_feed_61 : decode cX8_feed 61 = .ok (.lload_n 2, 1) := by decide +kernel
theorem dX8_feed_62 : decode cX8_feed 62 = .ok (.bipush 8, 2) := by decide +kernel
theorem dX8_feed_64 : decode cX8_feed 64 = .ok (.iload 4, 2) := by decide +kernel
theorem dX8_feed_66 : decode cX8_feed 66 = .ok (.imul, 1) := by decide +kernel
theorem dX8_feed_67 : decode cX8_feed 67 = .ok (.lshr, 1) := by decide +kernel
theorem dX8_feed_68 : decode cX8_feed 68 = .ok (.l2i, 1) := by decide +kernel
theorem dX8_feed_69 : decode cX8_feed 69 = .ok (.i2b, 1) := by decide +kernel
theorem dX8_feed_70 : decode cX8_feed 70 = .ok (.bastore, 1) := by decide +kernel
theorem dX8_feed_71 : decode cX8_feed 71 = .ok (.iinc 4 1, 3) := by decide +kernel
theorem dX8_feed_74 : decode cX8_feed 74 = .ok (.goto (-40), 3) := by decide +kernel
theorem dX8_feed_77 : decode cX8_feed 77 = .ok (.aload_n 0, 1) := by decide +kernel
theorem dX8_feed_78 : decode cX8_feed 78 = .ok (.getfield 40, 3) := by decide +kernel
theorem dX8_feed_81 : decode cX8_feed 81 = .ok (.getfield 252, 3) := by decide +kernel
theorem dX8_feed_84 : decode cX8_feed 84 = .ok (.ireturn, 1) := by decide +kernel
theorem dX8_text_0 : decode cX8_text 0 = .ok (.aload_n 0, 1) := by decide +kernel
theorem dX8_text_1 : decode cX8_text 1 = .ok (.getfield 40, 3) := by decide +kernel
theorem dX8_text_4 : decode cX8_text 4 = .ok (.invokevirtual 259, 3) := by decide +kernel
theorem dX8_text_7 : decode cX8_text 7 = .ok (.ireturn, 1) := by decide +kernel
theorem dX8_force_0 : decode cX8_force 0 = .ok (.iload_n 1, 1) := by decide +kernel
theorem dX8_force_1 : decode cX8_force 1 = .ok (.ifCond .lt 14, 3) := by decide +kernel
theorem dX8_force_4 : decode cX8_force 4 = .ok (.iload_n 1, 1) := by decide +kernel
theorem dX8_force_5 : decode cX8_force 5 = .ok (.aload_n 0, 1) := by decide +kernel
theorem dX8_force_6 : decode cX8_force 6 = .ok (.getfield 40, 3) := by decide +kernel
theorem dX8_force_9 : decode cX8_force 9 = .ok (.getfield 262, 3) := by decide +kernel
theorem dX8_force_12 : decode cX8_force 12 = .ok (.if_icmp .lt 6, 3) := by decide +kernel
theorem dX8_force_15 : decode cX8_force 15 = .ok (.bipush (-2), 2) := by decide +kernel
theorem dX8_force_17 : decode cX8_force 17 = .ok (.ireturn, 1) := by decide +kernel
theorem dX8_force_18 : decode cX8_force 18 = .ok (.aload_n 0, 1) := by decide +kernel
theorem dX8_force_19 : decode cX8_force 19 = .ok (.getfield 40, 3) := by decide +kernel
theorem dX8_force_22 : decode cX8_force 22 = .ok (.getfield 263, 3) := by decide +kernel
theorem dX8_force_25 : decode cX8_force 25 = .ok (.istore_n 2, 1) := by decide +kernel
theorem dX8_force_26 : decode cX8_force 26 = .ok (.aload_n 0, 1) := by decide +kernel
theorem dX8_force_27 : decode cX8_force 27 = .ok (.getfield 40, 3) := by decide +kernel
theorem dX8_force_30 : decode cX8_force 30 = .ok (.iload_n 1, 1) := by decide +kernel
theorem dX8_force_31 : decode cX8_force 31 = .ok (.putfield 263, 3) := by decide +kernel
theorem dX8_force_34 : decode cX8_force 34 = .ok (.iload_n 2, 1) := by decide +kernel
theorem dX8_force_35 : decode cX8_force 35 = .ok (.ireturn, 1) := by decide +kernel
theorem dX8_says_0 : decode cX8_says 0 = .ok (.iload_n 1, 1) := by decide +kernel
theorem dX8_says_1 : decode cX8_says 1 = .ok (.ifCond .lt 8, 3) := by decide +kernel
theorem dX8_says_4 : decode cX8_says 4 = .ok (.iload_n 1, 1) := by decide +kernel
theorem dX8_says_5 : decode cX8_says 5 = .ok (.iconst 1, 1) := by decide +kernel
theorem dX8_says_6 : decode cX8_says 6 = .ok (.if_icmp .le 7, 3) := by decide +kernel
theorem dX8_says_9 : decode cX8_says 9 = .ok (.ldc2_w 266, 3) := by decide +kernel
theorem dX8_says_12 : decode cX8_says 12 = .ok (.lreturn, 1) := by decide +kernel
theorem dX8_says_13 : decode cX8_says 13 = .ok (.aload_n 0, 1) := by decide +kernel
theorem dX8_says_14 : decode cX8_says 14 = .ok (.getfield 40, 3) := by decide +kernel
theorem dX8_says_17 : decode cX8_says 17 = .ok (.getfield 268, 3) := by decide +kernel
theorem dX8_says_20 : decode cX8_says 20 = .ok (.astore_n 2, 1) := by decide +kernel
theorem dX8_says_21 : decode cX8_says 21 = .ok (.aload_n 0, 1) := by decide +kernel
theorem dX8_says_22 : decode cX8_says 22 = .ok (.invokevirtual 132, 3) := by decide +kernel
theorem dX8_says_25 : decode cX8_says 25 = .ok (.astore_n 3, 1) := by decide +kernel
theorem dX8_says_26 : decode cX8_says 26 = .ok (.aload_n 2, 1) := by decide +kernel
theorem dX8_says_27 : decode cX8_says 27 = .ok (.getfield 272, 3) := by decide +kernel
theorem dX8_says_30 : decode cX8_says 30 = .ok (.iconst 0, 1) := by decide +kernel
theorem dX8_says_31 : decode cX8_says 31 = .ok (.aload_n 3, 1) := by decide +kernel
theorem dX8_says_32 : decode cX8_says 32 = .ok (.getfield 146, 3) := by decide +kernel
theorem dX8_says_35 : decode cX8_says 35 = .ok (.iastore, 1) := by decide +kernel
theorem dX8_says_36 : decode cX8_says 36 = .ok (.aload_n 2, 1) := by decide +kernel
theorem dX8_says_37 : decode cX8_says 37 = .ok (.getfield 272, 3) := by decide +kernel
theorem dX8_says_40 : decode cX8_says 40 = .ok (.iconst 1, 1) := by decide +kernel
theorem dX8_says_41 : decode cX8_says 41 = .ok (.aload_n 3, 1) := by decide +kernel
theorem dX8_says_42 : decode cX8_says 42 = .ok (.getfield 149, 3) := by decide +kernel
theorem dX8_says_45 : decode cX8_says 45 = .ok (.iastore, 1) := by decide +kernel
theorem dX8_says_46 : decode cX8_says 46 = .ok (.aload_n 2, 1) := by decide +kernel
theorem dX8_says_47 : decode cX8_says 47 = .ok (.getfield 272, 3) := by decide +kernel
theorem dX8_says_50 : decode cX8_says 50 = .ok (.iconst 2, 1) := by decide +kernel
theorem dX8_says_51 : decode cX8_says 51 = .ok (.aload_n 3, 1) := by decide +kernel
theorem dX8_says_52 : decode cX8_says 52 = .ok (.getfield 152, 3) := by decide +kernel
theorem dX8_says_55 : decode cX8_says 55 = .ok (.iastore, 1) := by decide +kernel
theorem dX8_says_56 : decode cX8_says 56 = .ok (.aload_n 2, 1) := by decide +kernel
theorem dX8_says_57 : decode cX8_says 57 = .ok (.getfield 272, 3) := by decide +kernel
theorem dX8_says_60 : decode cX8_says 60 = .ok (.iconst 3, 1) := by decide +kernel
theorem dX8_says_61 : decode cX8_says 61 = .ok (.aload_n 3, 1) := by decide +kernel
theorem dX8_says_62 : decode cX8_says 62 = .ok (.invokevirtual 277, 3) := by decide +kernel
theorem dX8_says_65 : decode cX8_says 65 = .ok (.iastore, 1) := by decide +kernel
theorem dX8_says_66 : decode cX8_says 66 = .ok (.aload_n 2, 1) := by decide +kernel
theorem dX8_says_67 : decode cX8_says 67 = .ok (.getfield 272, 3) := by decide +kernel
theorem dX8_says_70 : decode cX8_says 70 = .ok (.iconst 4, 1) := by decide +kernel
theorem dX8_says_71 : decode cX8_says 71 = .ok (.aload_n 0, 1) := by decide +kernel
theorem dX8_says_72 : decode cX8_says 72 = .ok (.getfield 68, 3) := by decide +kernel
theorem dX8_says_75 : decode cX8_says 75 = .ok (.getfield 87, 3) := by decide +kernel
theorem dX8_says_78 : decode cX8_says 78 = .ok (.iastore, 1) := by decide +kernel
theorem dX8_says_79 : decode cX8_says 79 = .ok (.aload_n 2, 1) := by decide +kernel
theorem dX8_says_80 : decode cX8_says 80 = .ok (.getfield 272, 3) := by decide +kernel
theorem dX8_says_83 : decode cX8_says 83 = .ok (.iconst 5, 1) := by decide +kernel
theorem dX8_says_84 : decode cX8_says 84 = .ok (.aload_n 0, 1) := by decide +kernel
theorem dX8_says_85 : decode cX8_says 85 = .ok (.getfield 19, 3) := by decide +kernel
theorem dX8_says_88 : decode cX8_says 88 = .ok (.aload_n 0, 1) := by decide +kernel
theorem dX8_says_89 : decode cX8_says 89 = .ok (.getfield 68, 3) := by decide +kernel
theorem dX8_says_92 : decode cX8_says 92 = .ok (.invokevirtual 174, 3) := by decide +kernel
theorem dX8_says_95 : decode cX8_says 95 = .ok (.iastore, 1) := by decide +kernel
theorem dX8_says_96 : decode cX8_says 96 = .ok (.aload_n 2, 1) := by decide +kernel
theorem dX8_says_97 : decode cX8_says 97 = .ok (.aload_n 0, 1) := by decide +kernel
theorem dX8_says_98 : decode cX8_says 98 = .ok (.getfield 40, 3) := by decide +kernel
theorem dX8_says_101 : decode cX8_says 101 = .ok (.getfield 280, 3) := by decide +kernel
theorem dX8_says_104 : decode cX8_says 104 = .ok (.aload_n 0, 1) := by decide +kernel
theorem dX8_says_105 : decode cX8_says 105 = .ok (.getfield 40, 3) := by decide +kernel
theorem dX8_says_108 : decode cX8_says 108 = .ok (.getfield 263, 3) := by decide +kernel
theorem dX8_says_111 : decode cX8_says 111 = .ok (.aaload, 1) := by decide +kernel
theorem dX8_says_112 : decode cX8_says 112 = .ok (.aload_n 0, 1) := by decide +kernel
theorem dX8_says_113 : decode cX8_says 113 = .ok (.getfield 40, 3) := by decide +kernel
theorem dX8_says_116 : decode cX8_says 116 = .ok (.getfield 284, 3) := by decide +kernel
theorem dX8_says_119 : decode cX8_says 119 = .ok (.aload_n 0, 1) := by decide +kernel
theorem dX8_says_120 : decode cX8_says 120 = .ok (.getfield 40, 3) := by decide +kernel
theorem dX8_says_123 : decode cX8_says 123 = .ok (.getfield 263, 3) := by decide +kernel
theorem dX8_says_126 : decode cX8_says 126 = .ok (.iaload, 1) := by decide +kernel
theorem dX8_says_127 : decode cX8_says 127 = .ok (.invokevirtual 287, 3) := by decide +kernel
theorem dX8_says_130 : decode cX8_says 130 = .ok (.iload_n 1, 1) := by decide +kernel
theorem dX8_says_131 : decode cX8_says 131 = .ok (.ifCond .ne 11, 3) := by decide +kernel
theorem dX8_says_134 : decode cX8_says 134 = .ok (.aload_n 2, 1) := by decide +kernel
theorem dX8_says_135 : decode cX8_says 135 = .ok (.getfield 291, 3) := by decide +kernel
theorem dX8_says_138 : decode cX8_says 138 = .ok (.i2l, 1) := by decide +kernel
theorem dX8_says_139 : decode cX8_says 139 = .ok (.goto 8, 3) := by decide +kernel
theorem dX8_says_142 : decode cX8_says 142 = .ok (.aload_n 2, 1) := by decide +kernel
theorem dX8_says_143 : decode cX8_says 143 = .ok (.getfield 294, 3) := by decide +kernel
theorem dX8_says_146 : decode cX8_says 146 = .ok (.i2l, 1) := by decide +kernel
theorem dX8_says_147 : decode cX8_says 147 = .ok (.lreturn, 1) := by decide +kernel
theorem dX8_count_0 : decode cX8_count 0 = .ok (.iload_n 1, 1) := by decide +kernel
theorem dX8_count_1 : decode cX8_count 1 = .ok (.tableswitch 131 0 8 #[51, 59, 67, 75, 83, 91, 99, 107, 115], 51) := by decide +kernel
theorem dX8_count_52 : decode cX8_count 52 = .ok (.aload_n 0, 1) := by decide +kernel
theorem dX8_count_53 : decode cX8_count 53 = .ok (.getfield 68, 3) := by decide +kernel
theorem dX8_count_56 : decode cX8_count 56 = .ok (.getfield 196, 3) := by decide +kernel
theorem dX8_count_59 : decode cX8_count 59 = .ok (.ireturn, 1) := by decide +kernel
theorem dX8_count_60 : decode cX8_count 60 = .ok (.aload_n 0, 1) := by decide +kernel
theorem dX8_count_61 : decode cX8_count 61 = .ok (.getfield 68, 3) := by decide +kernel
theorem dX8_count_64 : decode cX8_count 64 = .ok (.getfield 87, 3) := by decide +kernel
theorem dX8_count_67 : decode cX8_count 67 = .ok (.ireturn, 1) := by decide +kernel
theorem dX8_count_68 : decode cX8_count 68 = .ok (.aload_n 0, 1) := by decide +kernel
theorem dX8_count_69 : decode cX8_count 69 = .ok (.getfield 68, 3) := by decide +kernel
theorem dX8_count_72 : decode cX8_count 72 = .ok (.getfield 182, 3) := by decide +kernel
theorem dX8_count_75 : decode cX8_count 75 = .ok (.ireturn, 1) := by decide +kernel
theorem dX8_count_76 : decode cX8_count 76 = .ok (.aload_n 0, 1) := by decide +kernel
theorem dX8_count_77 : decode cX8_count 77 = .ok (.getfield 68, 3) := by decide +kernel
theorem dX8_count_80 : decode cX8_count 80 = .ok (.getfield 119, 3) := by decide +kernel
theorem dX8_count_83 : decode cX8_count 83 = .ok (.ireturn, 1) := by decide +kernel
theorem dX8_count_84 : decode cX8_count 84 = .ok (.aload_n 0, 1) := by decide +kernel
theorem dX8_count_85 : decode cX8_count 85 = .ok (.getfield 68, 3) := by decide +kernel
theorem dX8_count_88 : decode cX8_count 88 = .ok (.getfield 122, 3) := by decide +kernel
theorem dX8_count_91 : decode cX8_count 91 = .ok (.ireturn, 1) := by decide +kernel
theorem dX8_count_92 : decode cX8_count 92 = .ok (.aload_n 0, 1) := by decide +kernel
theorem dX8_count_93 : decode cX8_count 93 = .ok (.getfield 40, 3) := by decide +kernel
theorem dX8_count_96 : decode cX8_count 96 = .ok (.getfield 262, 3) := by decide +kernel
theorem dX8_count_99 : decode cX8_count 99 = .ok (.ireturn, 1) := by decide +kernel
theorem dX8_count_100 : decode cX8_count 100 = .ok (.aload_n 0, 1) := by decide +kernel
theorem dX8_count_101 : decode cX8_count 101 = .ok (.getfield 40, 3) := by decide +kernel
theorem dX8_count_104 : decode cX8_count 104 = .ok (.getfield 252, 3) := by decide +kernel
theorem dX8_count_107 : decode cX8_count 107 = .ok (.ireturn, 1) := by decide +kernel
theorem dX8_count_108 : decode cX8_count 108 = .ok (.aload_n 0, 1) := by decide +kernel
theorem dX8_count_109 : decode cX8_count 109 = .ok (.getfield 40, 3) := by decide +kernel
theorem dX8_count_112 : decode cX8_count 112 = .ok (.getfield 263, 3) := by decide +kernel
theorem dX8_count_115 : decode cX8_count 115 = .ok (.ireturn, 1) := by decide +kernel
theorem dX8_count_116 : decode cX8_count 116 = .ok (.aload_n 0, 1) := by decide +kernel
theorem dX8_count_117 : decode cX8_count 117 = .ok (.getfield 33, 3) := by decide +kernel
theorem dX8_count_120 : decode cX8_count 120 = .ok (.getfield 80, 3) := by decide +kernel
theorem dX8_count_123 : decode cX8_count 123 = .ok (.ifCond .eq 7, 3) := by decide +kernel
theorem dX8_count_126 : decode cX8_count 126 = .ok (.iconst 1, 1) := by decide +kernel
theorem dX8_count_127 : decode cX8_count 127 = .ok (.goto 4, 3) := by decide +kernel
theorem dX8_count_130 : decode cX8_count 130 = .ok (.iconst 0, 1) := by decide +kernel
theorem dX8_count_131 : decode cX8_count 131 = .ok (.ireturn, 1) := by decide +kernel
theorem dX8_count_132 : decode cX8_count 132 = .ok (.bipush (-2), 2) := by decide +kernel
theorem dX8_count_134 : decode cX8_count 134 = .ok (.ireturn, 1) := by decide +kernel
theorem dX8_sheet_0 : decode cX8_sheet 0 = .ok (.iload_n 1, 1) := by decide +kernel
theorem dX8_sheet_1 : decode cX8_sheet 1 = .ok (.invokestatic 297, 3) := by decide +kernel
theorem dX8_sheet_4 : decode cX8_sheet 4 = .ok (.ifCond .eq 13, 3) := by decide +kernel
theorem dX8_sheet_7 : decode cX8_sheet 7 = .ok (.iload_n 2, 1) := by decide +kernel
theorem dX8_sheet_8 : decode cX8_sheet 8 = .ok (.iconst (-1), 1) := by decide +kernel
theorem dX8_sheet_9 : decode cX8_sheet 9 = .ok (.if_icmp .lt 8, 3) := by decide +kernel
theorem dX8_sheet_12 : decode cX8_sheet 12 = .ok (.iload_n 2, 1) := by decide +kernel
theorem dX8_sheet_13 : decode cX8_sheet 13 = .ok (.iconst 3, 1) := by decide +kernel
theorem dX8_sheet_14 : decode cX8_sheet 14 = .ok (.if_icmp .lt 6, 3) := by decide +kernel
theorem dX8_sheet_17 : decode cX8_sheet 17 = .ok (.bipush (-2), 2) := by decide +kernel
theorem dX8_sheet_19 : decode cX8_sheet 19 = .ok (.ireturn, 1) := by decide +kernel
theorem dX8_sheet_20 : decode cX8_sheet 20 = .ok (.iload_n 2, 1) := by decide +kernel
theorem dX8_sheet_21 : decode cX8_sheet 21 = .ok (.iconst (-1), 1) := by decide +kernel
theorem dX8_sheet_22 : decode cX8_sheet 22 = .ok (.if_icmp .ne 16, 3) := by decide +kernel
theorem dX8_sheet_25 : decode cX8_sheet 25 = .ok (.aload_n 0, 1) := by decide +kernel
theorem dX8_sheet_26 : decode cX8_sheet 26 = .ok (.getfield 46, 3) := by decide +kernel
theorem dX8_sheet_29 : decode cX8_sheet 29 = .ok (.iload_n 1, 1) := by decide +kernel
theorem dX8_sheet_30 : decode cX8_sheet 30 = .ok (.aaload, 1) := by decide +kernel
theorem dX8_sheet_31 : decode cX8_sheet 31 = .ok (.iconst (-1), 1) := by decide +kernel
theorem dX8_sheet_32 : decode cX8_sheet 32 = .ok (.iconst 0, 1) := by decide +kernel
theorem dX8_sheet_33 : decode cX8_sheet 33 = .ok (.invokevirtual 300, 3) := by decide +kernel
theorem dX8_sheet_36 : decode cX8_sheet 36 = .ok (.iconst 1, 1) := by decide +kernel
theorem dX8_sheet_37 : decode cX8_sheet 37 = .ok (.ireturn, 1) := by decide +kernel
theorem dX8_sheet_38 : decode cX8_sheet 38 = .ok (.iload_n 3, 1) := by decide +kernel
theorem dX8_sheet_39 : decode cX8_sheet 39 = .ok (.bipush 40, 2) := by decide +kernel
theorem dX8_sheet_41 : decode cX8_sheet 41 = .ok (.if_icmp .le 6, 3) := by decide +kernel
theorem dX8_sheet_44 : decode cX8_sheet 44 = .ok (.bipush (-2), 2) := by decide +kernel
theorem dX8_sheet_46 : decode cX8_sheet 46 = .ok (.ireturn, 1) := by decide +kernel
theorem dX8_sheet_47 : decode cX8_sheet 47 = .ok (.iload_n 3, 1) := by decide +kernel
theorem dX8_sheet_48 : decode cX8_sheet 48 = .ok (.ifCond .ge 6, 3) := by decide +kernel
theorem dX8_sheet_51 : decode cX8_sheet 51 = .ok (.bipush (-14), 2) := by decide +kernel
theorem dX8_sheet_53 : decode cX8_sheet 53 = .ok (.ireturn, 1) := by decide +kernel
theorem dX8_sheet_54 : decode cX8_sheet 54 = .ok (.aload_n 0, 1) := by decide +kernel
theorem dX8_sheet_55 : decode cX8_sheet 55 = .ok (.getfield 46, 3) := by decide +kernel
theorem dX8_sheet_58 : decode cX8_sheet 58 = .ok (.iload_n 1, 1) := by decide +kernel
theorem dX8_sheet_59 : decode cX8_sheet 59 = .ok (.aaload, 1) := by decide +kernel
theorem dX8_sheet_60 : decode cX8_sheet 60 = .ok (.iload_n 2, 1) := by decide +kernel
theorem dX8_sheet_61 : decode cX8_sheet 61 = .ok (.iload_n 3, 1) := by decide +kernel
theorem dX8_sheet_62 : decode cX8_sheet 62 = .ok (.invokevirtual 300, 3) := by decide +kernel
theorem dX8_sheet_65 : decode cX8_sheet 65 = .ok (.iconst 1, 1) := by decide +kernel
theorem dX8_sheet_66 : decode cX8_sheet 66 = .ok (.ireturn, 1) := by decide +kernel
theorem dX8_cell_0 : decode cX8_cell 0 = .ok (.iload_n 1, 1) := by decide +kernel
theorem dX8_cell_1 : decode cX8_cell 1 = .ok (.invokestatic 297, 3) := by decide +kernel
theorem dX8_cell_4 : decode cX8_cell 4 = .ok (.ifCond .ne 6, 3) := by decide +kernel
theorem dX8_cell_7 : decode cX8_cell 7 = .ok (.bipush (-2), 2) := by decide +kernel
theorem dX8_cell_9 : decode cX8_cell 9 = .ok (.ireturn, 1) := by decide +kernel
theorem dX8_cell_10 : decode cX8_cell 10 = .ok (.aload_n 0, 1) := by decide +kernel
theorem dX8_cell_11 : decode cX8_cell 11 = .ok (.getfield 46, 3) := by decide +kernel
theorem dX8_cell_14 : decode cX8_cell 14 = .ok (.iload_n 1, 1) := by decide +kernel
theorem dX8_cell_15 : decode cX8_cell 15 = .ok (.aaload, 1) := by decide +kernel
theorem dX8_cell_16 : decode cX8_cell 16 = .ok (.getfield 304, 3) := by decide +kernel
theorem dX8_cell_19 : decode cX8_cell 19 = .ok (.iconst (-1), 1) := by decide +kernel
theorem dX8_cell_20 : decode cX8_cell 20 = .ok (.if_icmp .ne 6, 3) := by decide +kernel
theorem dX8_cell_23 : decode cX8_cell 23 = .ok (.bipush (-11), 2) := by decide +kernel
theorem dX8_cell_25 : decode cX8_cell 25 = .ok (.ireturn, 1) := by decide +kernel
theorem dX8_cell_26 : decode cX8_cell 26 = .ok (.aload_n 0, 1) := by decide +kernel
theorem dX8_cell_27 : decode cX8_cell 27 = .ok (.getfield 46, 3) := by decide +kernel
theorem dX8_cell_30 : decode cX8_cell 30 = .ok (.iload_n 1, 1) := by decide +kernel
theorem dX8_cell_31 : decode cX8_cell 31 = .ok (.aaload, 1) := by decide +kernel
theorem dX8_cell_32 : decode cX8_cell 32 = .ok (.iload_n 2, 1) := by decide +kernel
theorem dX8_cell_33 : decode cX8_cell 33 = .ok (.invokevirtual 307, 3) := by decide +kernel
theorem dX8_cell_36 : decode cX8_cell 36 = .ok (.ifCond .ne 6, 3) := by decide +kernel
theorem dX8_cell_39 : decode cX8_cell 39 = .ok (.bipush (-12), 2) := by decide +kernel
theorem dX8_cell_41 : decode cX8_cell 41 = .ok (.ireturn, 1) := by decide +kernel
theorem dX8_cell_42 : decode cX8_cell 42 = .ok (.aload_n 0, 1) := by decide +kernel
theorem dX8_cell_43 : decode cX8_cell 43 = .ok (.getfield 46, 3) := by decide +kernel
theorem dX8_cell_46 : decode cX8_cell 46 = .ok (.iload_n 1, 1) := by decide +kernel
theorem dX8_cell_47 : decode cX8_cell 47 = .ok (.aaload, 1) := by decide +kernel
theorem dX8_cell_48 : decode cX8_cell 48 = .ok (.iload_n 2, 1) := by decide +kernel
theorem dX8_cell_49 : decode cX8_cell 49 = .ok (.iload_n 3, 1) := by decide +kernel
theorem dX8_cell_50 : decode cX8_cell 50 = .ok (.invokevirtual 308, 3) := by decide +kernel
theorem dX8_cell_53 : decode cX8_cell 53 = .ok (.iconst 1, 1) := by decide +kernel
theorem dX8_cell_54 : decode cX8_cell 54 = .ok (.ireturn, 1) := by decide +kernel
theorem dX8_ways_0 : decode cX8_ways 0 = .ok (.iload_n 1, 1) := by decide +kernel
theorem dX8_ways_1 : decode cX8_ways 1 = .ok (.invokestatic 297, 3) := by decide +kernel
theorem dX8_ways_4 : decode cX8_ways 4 = .ok (.ifCond .eq 24, 3) := by decide +kernel
theorem dX8_ways_7 : decode cX8_ways 7 = .ok (.iload_n 2, 1) := by decide +kernel
theorem dX8_ways_8 : decode cX8_ways 8 = .ok (.ifCond .lt 20, 3) := by decide +kernel
theorem dX8_ways_11 : decode cX8_ways 11 = .ok (.iload_n 2, 1) := by decide +kernel
theorem dX8_ways_12 : decode cX8_ways 12 = .ok (.iconst 3, 1) := by decide +kernel
theorem dX8_ways_13 : decode cX8_ways 13 = .ok (.if_icmp .ge 15, 3) := by decide +kernel
theorem dX8_ways_16 : decode cX8_ways 16 = .ok (.iload 4, 2) := by decide +kernel
theorem dX8_ways_18 : decode cX8_ways 18 = .ok (.ifCond .lt 10, 3) := by decide +kernel
theorem dX8_ways_21 : decode cX8_ways 21 = .ok (.iload 4, 2) := by decide +kernel
theorem dX8_ways_23 : decode cX8_ways 23 = .ok (.bipush 13, 2) := by decide +kernel
theorem dX8_ways_25 : decode cX8_ways 25 = .ok (.if_icmp .le 6, 3) := by decide +kernel
theorem dX8_ways_28 : decode cX8_ways 28 = .ok (.bipush (-2), 2) := by decide +kernel
theorem dX8_ways_30 : decode cX8_ways 30 = .ok (.ireturn, 1) := by decide +kernel
theorem dX8_ways_31 : decode cX8_ways 31 = .ok (.aload_n 0, 1) := by decide +kernel
theorem dX8_ways_32 : decode cX8_ways 32 = .ok (.getfield 46, 3) := by decide +kernel
theorem dX8_ways_35 : decode cX8_ways 35 = .ok (.iload_n 1, 1) := by decide +kernel
theorem dX8_ways_36 : decode cX8_ways 36 = .ok (.aaload, 1) := by decide +kernel
theorem dX8_ways_37 : decode cX8_ways 37 = .ok (.astore 5, 2) := by decide +kernel
theorem dX8_ways_39 : decode cX8_ways 39 = .ok (.aload 5, 2) := by decide +kernel
theorem dX8_ways_41 : decode cX8_ways 41 = .ok (.getfield 304, 3) := by decide +kernel
theorem dX8_ways_44 : decode cX8_ways 44 = .ok (.iconst (-1), 1) := by decide +kernel
theorem dX8_ways_45 : decode cX8_ways 45 = .ok (.if_icmp .ne 6, 3) := by decide +kernel
theorem dX8_ways_48 : decode cX8_ways 48 = .ok (.bipush (-11), 2) := by decide +kernel
theorem dX8_ways_50 : decode cX8_ways 50 = .ok (.ireturn, 1) := by decide +kernel
theorem dX8_ways_51 : decode cX8_ways 51 = .ok (.aload 5, 2) := by decide +kernel
theorem dX8_ways_53 : decode cX8_ways 53 = .ok (.getfield 304, 3) := by decide +kernel
theorem dX8_ways_56 : decode cX8_ways 56 = .ok (.iload_n 2, 1) := by decide +kernel
theorem dX8_ways_57 : decode cX8_ways 57 = .ok (.if_icmp .eq 6, 3) := by decide +kernel
theorem dX8_ways_60 : decode cX8_ways 60 = .ok (.bipush (-13), 2) := by decide +kernel
theorem dX8_ways_62 : decode cX8_ways 62 = .ok (.ireturn, 1) := by decide +kernel
theorem dX8_ways_63 : decode cX8_ways 63 = .ok (.iconst 0, 1) := by decide +kernel
theorem dX8_ways_64 : decode cX8_ways 64 = .ok (.istore 6, 2) := by decide +kernel
theorem dX8_ways_66 : decode cX8_ways 66 = .ok (.iconst 0, 1) := by decide +kernel
theorem dX8_ways_67 : decode cX8_ways 67 = .ok (.istore 7, 2) := by decide +kernel
theorem dX8_ways_69 : decode cX8_ways 69 = .ok (.iload 7, 2) := by decide +kernel
theorem dX8_ways_71 : decode cX8_ways 71 = .ok (.iload 4, 2) := by decide +kernel
theorem dX8_ways_73 : decode cX8_ways 73 = .ok (.if_icmp .ge 92, 3) := by decide +kernel
theorem dX8_ways_76 : decode cX8_ways 76 = .ok (.iload_n 3, 1) := by decide +kernel
theorem dX8_ways_77 : decode cX8_ways 77 = .ok (.iconst 3, 1) := by decide +kernel
theorem dX8_ways_78 : decode cX8_ways 78 = .ok (.iload 7, 2) := by decide +kernel
theorem dX8_ways_80 : decode cX8_ways 80 = .ok (.imul, 1) := by decide +kernel
theorem dX8_ways_81 : decode cX8_ways 81 = .ok (.iadd, 1) := by decide +kernel
theorem dX8_ways_82 : decode cX8_ways 82 = .ok (.istore 8, 2) := by decide +kernel
theorem dX8_ways_84 : decode cX8_ways 84 = .ok (.aload 5, 2) := by decide +kernel
theorem dX8_ways_86 : decode cX8_ways 86 = .ok (.iload 8, 2) := by decide +kernel
theorem dX8_ways_88 : decode cX8_ways 88 = .ok (.invokevirtual 307, 3) := by decide +kernel
theorem dX8_ways_91 : decode cX8_ways 91 = .ok (.ifCond .eq 27, 3) := by decide +kernel
theorem dX8_ways_94 : decode cX8_ways 94 = .ok (.aload 5, 2) := by decide +kernel
theorem dX8_ways_96 : decode cX8_ways 96 = .ok (.iload 8, 2) := by decide +kernel
theorem dX8_ways_98 : decode cX8_ways 98 = .ok (.iconst 1, 1) := by decide +kernel
theorem dX8_ways_99 : decode cX8_ways 99 = .ok (.iadd, 1) := by decide +kernel
theorem dX8_ways_100 : decode cX8_ways 100 = .ok (.invokevirtual 307, 3) := by decide +kernel
theorem dX8_ways_103 : decode cX8_ways 103 = .ok (.ifCond .eq 15, 3) := by decide +kernel
theorem dX8_ways_106 : decode cX8_ways 106 = .ok (.aload 5, 2) := by decide +kernel
theorem dX8_ways_108 : decode cX8_ways 108 = .ok (.iload 8, 2) := by decide +kernel
theorem dX8_ways_110 : decode cX8_ways 110 = .ok (.iconst 2, 1) := by decide +kernel
theorem dX8_ways_111 : decode cX8_ways 111 = .ok (.iadd, 1) := by decide +kernel
theorem dX8_ways_112 : decode cX8_ways 112 = .ok (.invokevirtual 307, 3) := by decide +kernel
theorem dX8_ways_115 : decode cX8_ways 115 = .ok (.ifCond .ne 6, 3) := by decide +kernel
theorem dX8_ways_118 : decode cX8_ways 118 = .ok (.bipush (-12), 2) := by decide +kernel
theorem dX8_ways_120 : decode cX8_ways 120 = .ok (.ireturn, 1) := by decide +kernel
theorem dX8_ways_121 : decode cX8_ways 121 = .ok (.aload_n 0, 1) := by decide +kernel
theorem dX8_ways_122 : decode cX8_ways 122 = .ok (.aload 5, 2) := by decide +kernel
theorem dX8_ways_124 : decode cX8_ways 124 = .ok (.getfield 310, 3) := by decide +kernel
theorem dX8_ways_127 : decode cX8_ways 127 = .ok (.iload 8, 2) := by decide +kernel
theorem dX8_ways_129 : decode cX8_ways 129 = .ok (.iaload, 1) := by decide +kernel
theorem dX8_ways_130 : decode cX8_ways 130 = .ok (.aload 5, 2) := by decide +kernel
theorem dX8_ways_132 : decode cX8_ways 132 = .ok (.getfield 310, 3) := by decide +kernel
theorem dX8_ways_135 : decode cX8_ways 135 = .ok (.iload 8, 2) := by decide +kernel
theorem dX8_ways_137 : decode cX8_ways 137 = .ok (.iconst 1, 1) := by decide +kernel
theorem dX8_ways_138 : decode cX8_ways 138 = .ok (.iadd, 1) := by decide +kernel
theorem dX8_ways_139 : decode cX8_ways 139 = .ok (.iaload, 1) := by decide +kernel
theorem dX8_ways_140 : decode cX8_ways 140 = .ok (.aload 5, 2) := by decide +kernel
theorem dX8_ways_142 : decode cX8_ways 142 = .ok (.getfield 310, 3) := by decide +kernel
theorem dX8_ways_145 : decode cX8_ways 145 = .ok (.iload 8, 2) := by decide +kernel
theorem dX8_ways_147 : decode cX8_ways 147 = .ok (.iconst 2, 1) := by decide +kernel
theorem dX8_ways_148 : decode cX8_ways 148 = .ok (.iadd, 1) := by decide +kernel
theorem dX8_ways_149 : decode cX8_ways 149 = .ok (.iaload, 1) := by decide +kernel
theorem dX8_ways_150 : decode cX8_ways 150 = .ok (.invokevirtual 313, 3) := by decide +kernel
theorem dX8_ways_153 : decode cX8_ways 153 = .ok (.ifCond .lt 6, 3) := by decide +kernel
theorem dX8_ways_156 : decode cX8_ways 156 = .ok (.iinc 6 1, 3) := by decide +kernel
theorem dX8_ways_159 : decode cX8_ways 159 = .ok (.iinc 7 1, 3) := by decide +kernel
theorem dX8_ways_162 : decode cX8_ways 162 = .ok (.goto (-93), 3) := by decide +kernel
theorem dX8_ways_165 : decode cX8_ways 165 = .ok (.iload 6, 2) := by decide +kernel
theorem dX8_ways_167 : decode cX8_ways 167 = .ok (.ireturn, 1) := by decide +kernel
theorem dX8_taken_0 : decode cX8_taken 0 = .ok (.iload_n 2, 1) := by decide +kernel
theorem dX8_taken_1 : decode cX8_taken 1 = .ok (.ifCond .lt 9, 3) := by decide +kernel
theorem dX8_taken_4 : decode cX8_taken 4 = .ok (.iload_n 2, 1) := by decide +kernel
theorem dX8_taken_5 : decode cX8_taken 5 = .ok (.bipush 6, 2) := by decide +kernel
theorem dX8_taken_7 : decode cX8_taken 7 = .ok (.if_icmp .lt 6, 3) := by decide +kernel
theorem dX8_taken_10 : decode cX8_taken 10 = .ok (.bipush (-2), 2) := by decide +kernel
theorem dX8_taken_12 : decode cX8_taken 12 = .ok (.ireturn, 1) := by decide +kernel
theorem dX8_taken_13 : decode cX8_taken 13 = .ok (.iload_n 1, 1) := by decide +kernel
theorem dX8_taken_14 : decode cX8_taken 14 = .ok (.ifCond .lt 14, 3) := by decide +kernel
theorem dX8_taken_17 : decode cX8_taken 17 = .ok (.iload_n 1, 1) := by decide +kernel
theorem dX8_taken_18 : decode cX8_taken 18 = .ok (.aload_n 0, 1) := by decide +kernel
theorem dX8_taken_19 : decode cX8_taken 19 = .ok (.getfield 68, 3) := by decide +kernel
theorem dX8_taken_22 : decode cX8_taken 22 = .ok (.getfield 87, 3) := by decide +kernel
theorem dX8_taken_25 : decode cX8_taken 25 = .ok (.if_icmp .lt 6, 3) := by decide +kernel
theorem dX8_taken_28 : decode cX8_taken 28 = .ok (.bipush (-11), 2) := by decide +kernel
theorem dX8_taken_30 : decode cX8_taken 30 = .ok (.ireturn, 1) := by decide +kernel
theorem dX8_taken_31 : decode cX8_taken 31 = .ok (.aload_n 0, 1) := by decide +kernel
theorem dX8_taken_32 : decode cX8_taken 32 = .ok (.getfield 68, 3) := by decide +kernel
theorem dX8_taken_35 : decode cX8_taken 35 = .ok (.getfield 93, 3) := by decide +kernel
theorem dX8_taken_38 : decode cX8_taken 38 = .ok (.iload_n 1, 1) := by decide +kernel
theorem dX8_taken_39 : decode cX8_taken 39 = .ok (.iaload, 1) := by decide +kernel
theorem dX8_taken_40 : decode cX8_taken 40 = .ok (.istore_n 3, 1) := by decide +kernel
theorem dX8_taken_41 : decode cX8_taken 41 = .ok (.iconst 0, 1) := by decide +kernel
theorem dX8_taken_42 : decode cX8_taken 42 = .ok (.istore 4, 2) := by decide +kernel
theorem dX8_taken_44 : decode cX8_taken 44 = .ok (.iload 4, 2) := by decide +kernel
theorem dX8_taken_46 : decode cX8_taken 46 = .ok (.bipush 6, 2) := by decide +kernel
theorem dX8_taken_48 : decode cX8_taken 48 = .ok (.if_icmp .ge 34, 3) := by decide +kernel
theorem dX8_taken_51 : decode cX8_taken 51 = .ok (.iload_n 3, 1) := by decide +kernel
theorem dX8_taken_52 : decode cX8_taken 52 = .ok (.ifCond .lt 30, 3) := by decide +kernel
theorem dX8_taken_55 : decode cX8_taken 55 = .ok (.iload_n 3, 1) := by decide +kernel
theorem dX8_taken_56 : decode cX8_taken 56 = .ok (.iload_n 2, 1) := by decide +kernel
theorem dX8_taken_57 : decode cX8_taken 57 = .ok (.if_icmp .ne 13, 3) := by decide +kernel
theorem dX8_taken_60 : decode cX8_taken 60 = .ok (.aload_n 0, 1) := by decide +kernel
theorem dX8_taken_61 : decode cX8_taken 61 = .ok (.getfield 68, 3) := by decide +kernel
theorem dX8_taken_64 : decode cX8_taken 64 = .ok (.getfield 97, 3) := by decide +kernel
theorem dX8_taken_67 : decode cX8_taken 67 = .ok (.iload_n 1, 1) := by decide +kernel
theorem dX8_taken_68 : decode cX8_taken 68 = .ok (.iaload, 1) := by decide +kernel
theorem dX8_taken_69 : decode cX8_taken 69 = .ok (.ireturn, 1) := by decide +kernel
theorem dX8_taken_70 : decode cX8_taken 70 = .ok (.getstatic 316, 3) := by decide +kernel
theorem dX8_taken_73 : decode cX8_taken 73 = .ok (.iload_n 3, 1) := by decide +kernel
theorem dX8_taken_74 : decode cX8_taken 74 = .ok (.iaload, 1) := by decide +kernel
theorem dX8_taken_75 : decode cX8_taken 75 = .ok (.istore_n 3, 1) := by decide +kernel
theorem dX8_taken_76 : decode cX8_taken 76 = .ok (.iinc 4 1, 3) := by decide +kernel
theorem dX8_taken_79 : decode cX8_taken 79 = .ok (.goto (-35), 3) := by decide +kernel
theorem dX8_taken_82 : decode cX8_taken 82 = .ok (.bipush (-13), 2) := by decide +kernel
theorem dX8_taken_84 : decode cX8_taken 84 = .ok (.ireturn, 1) := by decide +kernel
theorem dX8_isSheet_0 : decode cX8_isSheet 0 = .ok (.iload_n 0, 1) := by decide +kernel
theorem dX8_isSheet_1 : decode cX8_isSheet 1 = .ok (.ifCond .lt 12, 3) := by decide +kernel
theorem dX8_isSheet_4 : decode cX8_isSheet 4 = .ok (.iload_n 0, 1) := by decide +kernel
theorem dX8_isSheet_5 : decode cX8_isSheet 5 = .ok (.iconst 4, 1) := by decide +kernel
theorem dX8_isSheet_6 : decode cX8_isSheet 6 = .ok (.if_icmp .ge 7, 3) := by decide +kernel
theorem dX8_isSheet_9 : decode cX8_isSheet 9 = .ok (.iconst 1, 1) := by decide +kernel
theorem dX8_isSheet_10 : decode cX8_isSheet 10 = .ok (.goto 4, 3) := by decide +kernel
theorem dX8_isSheet_13 : decode cX8_isSheet 13 = .ok (.iconst 0, 1) := by decide +kernel
theorem dX8_isSheet_14 : decode cX8_isSheet 14 = .ok (.ireturn, 1) := by decide +kernel
theorem dX9_in_0 : decode cX9_in 0 = .ok (.iload_n 1, 1) := by decide +kernel
theorem dX9_in_1 : decode cX9_in 1 = .ok (.iload_n 2, 1) := by decide +kernel
theorem dX9_in_2 : decode cX9_in 2 = .ok (.if_icmp .lt 12, 3) := by decide +kernel
theorem dX9_in_5 : decode cX9_in 5 = .ok (.iload_n 1, 1) := by decide +kernel
theorem dX9_in_6 : decode cX9_in 6 = .ok (.iload_n 3, 1) := by decide +kernel
theorem dX9_in_7 : decode cX9_in 7 = .ok (.if_icmp .gt 7, 3) := by decide +kernel
theorem dX9_in_10 : decode cX9_in 10 = .ok (.iconst 1, 1) := by decide +kernel
theorem dX9_in_11 : decode cX9_in 11 = .ok (.goto 4, 3) := by decide +kernel
theorem dX9_in_14 : decode cX9_in 14 = .ok (.iconst 0, 1) := by decide +kernel
theorem dX9_in_15 : decode cX9_in 15 = .ok (.ireturn, 1) := by decide +kernel
theorem dX9_init_0 : decode cX9_init 0 = .ok (.aload_n 0, 1) := by decide +kernel
theorem dX9_init_1 : decode cX9_init 1 = .ok (.invokespecial 1, 3) := by decide +kernel
theorem dX9_init_4 : decode cX9_init 4 = .ok (.aload_n 0, 1) := by decide +kernel
theorem dX9_init_5 : decode cX9_init 5 = .ok (.iconst 0, 1) := by decide +kernel
theorem dX9_init_6 : decode cX9_init 6 = .ok (.putfield 7, 3) := by decide +kernel
theorem dX9_init_9 : decode cX9_init 9 = .ok (.aload_n 0, 1) := by decide +kernel
theorem dX9_init_10 : decode cX9_init 10 = .ok (.iconst 1, 1) := by decide +kernel
theorem dX9_init_11 : decode cX9_init 11 = .ok (.putfield 13, 3) := by decide +kernel
theorem dX9_init_14 : decode cX9_init 14 = .ok (.aload_n 0, 1) := by decide +kernel
theorem dX9_init_15 : decode cX9_init 15 = .ok (.iconst 1, 1) := by decide +kernel
theorem dX9_init_16 : decode cX9_init 16 = .ok (.putfield 16, 3) := by decide +kernel
theorem dX9_init_19 : decode cX9_init 19 = .ok (.aload_n 0, 1) := by decide +kernel
theorem dX9_init_20 : decode cX9_init 20 = .ok (.bipush 17, 2) := by decide +kernel
theorem dX9_init_22 : decode cX9_init 22 = .ok (.newarray .int, 2) := by decide +kernel
theorem dX9_init_24 : decode cX9_init 24 = .ok (.putfield 19, 3) := by decide +kernel
theorem dX9_init_27 : decode cX9_init 27 = .ok (.aload_n 0, 1) := by decide +kernel
theorem dX9_init_28 : decode cX9_init 28 = .ok (.bipush 17, 2) := by decide +kernel
theorem dX9_init_30 : decode cX9_init 30 = .ok (.newarray .int, 2) := by decide +kernel
theorem dX9_init_32 : decode cX9_init 32 = .ok (.putfield 23, 3) := by decide +kernel
theorem dX9_init_35 : decode cX9_init 35 = .ok (.aload_n 0, 1) := by decide +kernel
theorem dX9_init_36 : decode cX9_init 36 = .ok (.bipush 17, 2) := by decide +kernel
theorem dX9_init_38 : decode cX9_init 38 = .ok (.newarray .int, 2) := by decide +kernel
theorem dX9_init_40 : decode cX9_init 40 = .ok (.putfield 26, 3) := by decide +kernel
theorem dX9_init_43 : decode cX9_init 43 = .ok (.aload_n 0, 1) := by decide +kernel
theorem dX9_init_44 : decode cX9_init 44 = .ok (.bipush 8, 2) := by decide +kernel
theorem dX9_init_46 : decode cX9_init 46 = .ok (.newarray .boolean, 2) := by decide +kernel
theorem dX9_init_48 : decode cX9_init 48 = .ok (.putfield 29, 3) := by decide +kernel
theorem dX9_init_51 : decode cX9_init 51 = .ok (.aload_n 0, 1) := by decide +kernel
theorem dX9_init_52 : decode cX9_init 52 = .ok (.bipush 8, 2) := by decide +kernel
theorem dX9_init_54 : decode cX9_init 54 = .ok (.newarray .boolean, 2) := by decide +kernel
theorem dX9_init_56 : decode cX9_init 56 = .ok (.putfield 33, 3) := by decide +kernel
theorem dX9_init_59 : decode cX9_init 59 = .ok (.aload_n 0, 1) := by decide +kernel
theorem dX9_init_60 : decode cX9_init 60 = .ok (.iconst 0, 1) := by decide +kernel
theorem dX9_init_61 : decode cX9_init 61 = .ok (.putfield 36, 3) := by decide +kernel
theorem dX9_init_64 : decode cX9_init 64 = .ok (.aload_n 0, 1) := by decide +kernel
theorem dX9_init_65 : decode cX9_init 65 = .ok (.sipush 9216, 3) := by decide +kernel
theorem dX9_init_68 : decode cX9_init 68 = .ok (.newarray .int, 2) := by decide +kernel
theorem dX9_init_70 : decode cX9_init 70 = .ok (.putfield 40, 3) := by decide +kernel
theorem dX9_init_73 : decode cX9_init 73 = .ok (.aload_n 0, 1) := by decide +kernel
theorem dX9_init_74 : decode cX9_init 74 = .ok (.sipush 9216, 3) := by decide +kernel
theorem dX9_init_77 : decode cX9_init 77 = .ok (.newarray .boolean, 2) := by decide +kernel
theorem dX9_init_79 : decode cX9_init 79 = .ok (.putfield 43, 3) := by decide +kernel
theorem dX9_init_82 : decode cX9_init 82 = .ok (.aload_n 0, 1) := by decide +kernel
theorem dX9_init_83 : decode cX9_init 83 = .ok (.bipush 8, 2) := by decide +kernel
theorem dX9_init_85 : decode cX9_init 85 = .ok (.newarray .int, 2) := by decide +kernel
theorem dX9_init_87 : decode cX9_init 87 = .ok (.putfield 46, 3) := by decide +kernel
theorem dX9_init_90 : decode cX9_init 90 = .ok (.aload_n 0, 1) := by decide +kernel
theorem dX9_init_91 : decode cX9_init 91 = .ok (.sipush 384, 3) := by decide +kernel
theorem dX9_init_94 : decode cX9_init 94 = .ok (.newarray .int, 2) := by decide +kernel
theorem dX9_init_96 : decode cX9_init 96 = .ok (.putfield 49, 3) := by decide +kernel
theorem dX9_init_99 : decode cX9_init 99 = .ok (.aload_n 0, 1) := by decide +kernel
theorem dX9_init_100 : decode cX9_init 100 = .ok (.sipush 4096, 3) := by decide +kernel
theorem dX9_init_103 : decode cX9_init 103 = .ok (.newarray .int, 2) := by decide +kernel
theorem dX9_init_105 : decode cX9_init 105 = .ok (.putfield 52, 3) := by decide +kernel
theorem dX9_init_108 : decode cX9_init 108 = .ok (.aload_n 0, 1) := by decide +kernel
theorem dX9_init_109 : decode cX9_init 109 = .ok (.iconst 0, 1) := by decide +kernel
theorem dX9_init_110 : decode cX9_init 110 = .ok (.putfield 55, 3) := by decide +kernel
theorem dX9_init_113 : decode cX9_init 113 = .ok (.aload_n 0, 1) := by decide +kernel
theorem dX9_init_114 : decode cX9_init 114 = .ok (.bipush 8, 2) := by decide +kernel
theorem dX9_init_116 : decode cX9_init 116 = .ok (.newarray .int, 2) := by decide +kernel
theorem dX9_init_118 : decode cX9_init 118 = .ok (.putfield 58, 3) := by decide +kernel
theorem dX9_init_121 : decode cX9_init 121 = .ok (.aload_n 0, 1) := by decide +kernel
theorem dX9_init_122 : decode cX9_init 122 = .ok (.sipush 512, 3) := by decide +kernel
theorem dX9_init_125 : decode cX9_init 125 = .ok (.newarray .int, 2) := by decide +kernel
theorem dX9_init_127 : decode cX9_init 127 = .ok (.putfield 61, 3) := by decide +kernel
theorem dX9_init_130 : decode cX9_init 130 = .ok (.aload_n 0, 1) := by decide +kernel
theorem dX9_init_131 : decode cX9_init 131 = .ok (.sipush 4096, 3) := by decide +kernel
theorem dX9_init_134 : decode cX9_init 134 = .ok (.newarray .boolean, 2) := by decide +kernel
theorem dX9_init_136 : decode cX9_init 136 = .ok (.putfield 64, 3) := by decide +kernel
theorem dX9_init_139 : decode cX9_init 139 = .ok (.aload_n 0, 1) := by decide +kernel
theorem dX9_init_140 : decode cX9_init 140 = .ok (.iconst 0, 1) := by decide +kernel
theorem dX9_init_141 : decode cX9_init 141 = .ok (.putfield 67, 3) := by decide +kernel
theorem dX9_init_144 : decode cX9_init 144 = .ok (.aload_n 0, 1) := by decide +kernel
theorem dX9_init_145 : decode cX9_init 145 = .ok (.iconst 0, 1) := by decide +kernel
theorem dX9_init_146 : decode cX9_init 146 = .ok (.putfield 70, 3) := by decide +kernel
theorem dX9_init_149 : decode cX9_init 149 = .ok (.aload_n 0, 1) := by decide +kernel
theorem dX9_init_150 : decode cX9_init 150 = .ok (.iconst 0, 1) := by decide +kernel
theorem dX9_init_151 : decode cX9_init 151 = .ok (.putfield 73, 3) := by decide +kernel
theorem dX9_init_154 : decode cX9_init 154 = .ok (.aload_n 0, 1) := by decide +kernel
theorem dX9_init_155 : decode cX9_init 155 = .ok (.iconst 0, 1) := by decide +kernel
theorem dX9_init_156 : decode cX9_init 156 = .ok (.putfield 76, 3) := by decide +kernel
theorem dX9_init_159 : decode cX9_init 159 = .ok (.aload_n 0, 1) := by decide +kernel
theorem dX9_init_160 : decode cX9_init 160 = .ok (.iconst 0, 1) := by decide +kernel
theorem dX9_init_161 : decode cX9_init 161 = .ok (.putfield 79, 3) := by decide +kernel
theorem dX9_init_164 : decode cX9_init 164 = .ok (.aload_n 0, 1) := by decide +kernel
theorem dX9_init_165 : decode cX9_init 165 = .ok (.bipush 64, 2) := by decide +kernel
theorem dX9_init_167 : decode cX9_init 167 = .ok (.newarray .int, 2) := by decide +kernel
theorem dX9_init_169 : decode cX9_init 169 = .ok (.putfield 82, 3) := by decide +kernel
theorem dX9_init_172 : decode cX9_init 172 = .ok (.aload_n 0, 1) := by decide +kernel
theorem dX9_init_173 : decode cX9_init 173 = .ok (.bipush 64, 2) := by decide +kernel
theorem dX9_init_175 : decode cX9_init 175 = .ok (.newarray .int, 2) := by decide +kernel
theorem dX9_init_177 : decode cX9_init 177 = .ok (.putfield 85, 3) := by decide +kernel
theorem dX9_init_180 : decode cX9_init 180 = .ok (.aload_n 0, 1) := by decide +kernel
theorem dX9_init_181 : decode cX9_init 181 = .ok (.bipush 120, 2) := by decide +kernel
theorem dX9_init_183 : decode cX9_init 183 = .ok (.newarray .byte, 2) := by decide +kernel
theorem dX9_init_185 : decode cX9_init 185 = .ok (.putfield 88, 3) := by decide +kernel
theorem dX9_init_188 : decode cX9_init 188 = .ok (.aload_n 0, 1) := by decide +kernel
theorem dX9_init_189 : decode cX9_init 189 = .ok (.iconst 0, 1) := by decide +kernel
theorem dX9_init_190 : decode cX9_init 190 = .ok (.putfield 92, 3) := by decide +kernel
theorem dX9_init_193 : decode cX9_init 193 = .ok (.aload_n 0, 1) := by decide +kernel
theorem dX9_init_194 : decode cX9_init 194 = .ok (.iconst 1, 1) := by decide +kernel
theorem dX9_init_195 : decode cX9_init 195 = .ok (.putfield 95, 3) := by decide +kernel
theorem dX9_init_198 : decode cX9_init 198 = .ok (.aload_n 0, 1) := by decide +kernel
theorem dX9_init_199 : decode cX9_init 199 = .ok (.iconst 0, 1) := by decide +kernel
theorem dX9_init_200 : decode cX9_init 200 = .ok (.putfield 98, 3) := by decide +kernel
theorem dX9_init_203 : decode cX9_init 203 = .ok (.aload_n 0, 1) := by decide +kernel
theorem dX9_init_204 : decode cX9_init 204 = .ok (.bipush 16, 2) := by decide +kernel
theorem dX9_init_206 : decode cX9_init 206 = .ok (.newarray .int, 2) := by decide +kernel
theorem dX9_init_208 : decode cX9_init 208 = .ok (.putfield 101, 3) := by decide +kernel
theorem dX9_init_211 : decode cX9_init 211 = .ok (.aload_n 0, 1) := by decide +kernel
theorem dX9_init_212 : decode cX9_init 212 = .ok (.sipush 1920, 3) := by decide +kernel
theorem dX9_init_215 : decode cX9_init 215 = .ok (.newarray .int, 2) := by decide +kernel
theorem dX9_init_217 : decode cX9_init 217 = .ok (.putfield 104, 3) := by decide +kernel
theorem dX9_init_220 : decode cX9_init 220 = .ok (.aload_n 0, 1) := by decide +kernel
theorem dX9_init_221 : decode cX9_init 221 = .ok (.iconst 0, 1) := by decide +kernel
theorem dX9_init_222 : decode cX9_init 222 = .ok (.putfield 107, 3) := by decide +kernel
theorem dX9_init_225 : decode cX9_init 225 = .ok (.aload_n 0, 1) := by decide +kernel
theorem dX9_init_226 : decode cX9_init 226 = .ok (.iconst 0, 1) := by decide +kernel
theorem dX9_init_227 : decode cX9_init 227 = .ok (.putfield 110, 3) := by decide +kernel
theorem dX9_init_230 : decode cX9_init 230 = .ok (.aload_n 0, 1) := by decide +kernel
theorem dX9_init_231 : decode cX9_init 231 = .ok (.iconst 0, 1) := by decide +kernel
theorem dX9_init_232 : decode cX9_init 232 = .ok (.putfield 113, 3) := by decide +kernel
theorem dX9_init_235 : decode cX9_init 235 = .ok (.aload_n 0, 1) := by decide +kernel
theorem dX9_init_236 : decode cX9_init 236 = .ok (.iconst 0, 1) := by decide +kernel
theorem dX9_init_237 : decode cX9_init 237 = .ok (.putfield 116, 3) := by decide +kernel
theorem dX9_init_240 : decode cX9_init 240 = .ok (.aload_n 0, 1) := by decide +kernel
theorem dX9_init_241 : decode cX9_init 241 = .ok (.bipush 121, 2) := by decide +kernel
theorem dX9_init_243 : decode cX9_init 243 = .ok (.newarray .int, 2) := by decide +kernel
theorem dX9_init_245 : decode cX9_init 245 = .ok (.putfield 119, 3) := by decide +kernel
theorem dX9_init_248 : decode cX9_init 248 = .ok (.aload_n 0, 1) := by decide +kernel
theorem dX9_init_249 : decode cX9_init 249 = .ok (.bipush 7, 2) := by decide +kernel
theorem dX9_init_251 : decode cX9_init 251 = .ok (.newarray .boolean, 2) := by decide +kernel
theorem dX9_init_253 : decode cX9_init 253 = .ok (.putfield 122, 3) := by decide +kernel
theorem dX9_init_256 : decode cX9_init 256 = .ok (.aload_n 0, 1) := by decide +kernel
theorem dX9_init_257 : decode cX9_init 257 = .ok (.iconst 0, 1) := by decide +kernel
theorem dX9_init_258 : decode cX9_init 258 = .ok (.putfield 125, 3) := by decide +kernel
theorem dX9_init_261 : decode cX9_init 261 = .ok (.aload_n 0, 1) := by decide +kernel
theorem dX9_init_262 : decode cX9_init 262 = .ok (.iconst 0, 1) := by decide +kernel
theorem dX9_init_263 : decode cX9_init 263 = .ok (.putfield 128, 3) := by decide +kernel
theorem dX9_init_266 : decode cX9_init 266 = .ok (.aload_n 0, 1) := by decide +kernel
theorem dX9_init_267 : decode cX9_init 267 = .ok (.iconst 0, 1) := by decide +kernel
theorem dX9_init_268 : decode cX9_init 268 = .ok (.putfield 131, 3) := by decide +kernel
theorem dX9_init_271 : decode cX9_init 271 = .ok (.aload_n 0, 1) := by decide +kernel
theorem dX9_init_272 : decode cX9_init 272 = .ok (.iconst 0, 1) := by decide +kernel
theorem dX9_init_273 : decode cX9_init 273 = .ok (.putfield 134, 3) := by decide +kernel
theorem dX9_init_276 : decode cX9_init 276 = .ok (.aload_n 0, 1) := by decide +kernel
theorem dX9_init_277 : decode cX9_init 277 = .ok (.bipush 121, 2) := by decide +kernel
theorem dX9_init_279 : decode cX9_init 279 = .ok (.newarray .int, 2) := by decide +kernel
theorem dX9_init_281 : decode cX9_init 281 = .ok (.putfield 137, 3) := by decide +kernel
theorem dX9_init_284 : decode cX9_init 284 = .ok (.aload_n 0, 1) := by decide +kernel
theorem dX9_init_285 : decode cX9_init 285 = .ok (.iconst 4, 1) := by decide +kernel
theorem dX9_init_286 : decode cX9_init 286 = .ok (.newarray .int, 2) := by decide +kernel
theorem dX9_init_288 : decode cX9_init 288 = .ok (.dup, 1) := by decide +kernel
theorem dX9_init_289 : decode cX9_init 289 = .ok (.iconst 0, 1) := by decide +kernel
theorem dX9_init_290 : decode cX9_init 290 = .ok (.iconst (-1), 1) := by decide +kernel
theorem dX9_init_291 : decode cX9_init 291 = .ok (.iastore, 1) := by decide +kernel
theorem dX9_init_292 : decode cX9_init 292 = .ok (.dup, 1) := by decide +kernel
theorem dX9_init_293 : decode cX9_init 293 = .ok (.iconst 1, 1) := by decide +kernel
theorem dX9_init_294 : decode cX9_init 294 = .ok (.iconst (-1), 1) := by decide +kernel
theorem dX9_init_295 : decode cX9_init 295 = .ok (.iastore, 1) := by decide +kernel
theorem dX9_init_296 : decode cX9_init 296 = .ok (.dup, 1) := by decide +kernel
theorem dX9_init_297 : decode cX9_init 297 = .ok (.iconst 2, 1) := by decide +kernel
theorem dX9_init_298 : decode cX9_init 298 = .ok (.iconst (-1), 1) := by decide +kernel
theorem dX9_init_299 : decode cX9_init 299 = .ok (.iastore, 1) := by decide +kernel
theorem dX9_init_300 : decode cX9_init 300 = .ok (.dup, 1) := by decide +kernel
theorem dX9_init_301 : decode cX9_init 301 = .ok (.iconst 3, 1) := by decide +kernel
theorem dX9_init_302 : decode cX9_init 302 = .ok (.iconst (-1), 1) := by decide +kernel
theorem dX9_init_303 : decode cX9_init 303 = .ok (.iastore, 1) := by decide +kernel
theorem dX9_init_304 : decode cX9_init 304 = .ok (.putfield 140, 3) := by decide +kernel
theorem dX9_init_307 : decode cX9_init 307 = .ok (.aload_n 0, 1) := by decide +kernel
theorem dX9_init_308 : decode cX9_init 308 = .ok (.iconst 4, 1) := by decide +kernel
theorem dX9_init_309 : decode cX9_init 309 = .ok (.newarray .int, 2) := by decide +kernel
theorem dX9_init_311 : decode cX9_init 311 = .ok (.putfield 143, 3) := by decide +kernel
theorem dX9_init_314 : decode cX9_init 314 = .ok (.aload_n 0, 1) := by decide +kernel
theorem dX9_init_315 : decode cX9_init 315 = .ok (.sipush 160, 3) := by decide +kernel
theorem dX9_init_318 : decode cX9_init 318 = .ok (.newarray .int, 2) := by decide +kernel
theorem dX9_init_320 : decode cX9_init 320 = .ok (.putfield 146, 3) := by decide +kernel
theorem dX9_init_323 : decode cX9_init 323 = .ok (.aload_n 0, 1) := by decide +kernel
theorem dX9_init_324 : decode cX9_init 324 = .ok (.iconst 3, 1) := by decide +kernel
theorem dX9_init_325 : decode cX9_init 325 = .ok (.iload_n 1, 1) := by decide +kernel
theorem dX9_init_326 : decode cX9_init 326 = .ok (.bipush 6, 2) := by decide +kernel
theorem dX9_init_328 : decode cX9_init 328 = .ok (.irem, 1) := by decide +kernel
theorem dX9_init_329 : decode cX9_init 329 = .ok (.bipush 6, 2) := by decide +kernel
theorem dX9_init_331 : decode cX9_init 331 = .ok (.iadd, 1) := by decide +kernel
theorem dX9_init_332 : decode cX9_init 332 = .ok (.bipush 6, 2) := by decide +kernel
theorem dX9_init_334 : decode cX9_init 334 = .ok (.irem, 1) := by decide +kernel
theorem dX9_init_335 : decode cX9_init 335 = .ok (.iadd, 1) := by decide +kernel
theorem dX9_init_336 : decode cX9_init 336 = .ok (.putfield 149, 3) := by decide +kernel
theorem dX9_init_339 : decode cX9_init 339 = .ok (.aload_n 0, 1) := by decide +kernel
theorem dX9_init_340 : decode cX9_init 340 = .ok (.invokevirtual 152, 3) := by decide +kernel
theorem dX9_init_343 : decode cX9_init 343 = .ok (.return_, 1) := by decide +kernel
theorem dX9_isPlace_0 : decode cX9_isPlace 0 = .ok (.aload_n 0, 1) := by decide +kernel
theorem dX9_isPlace_1 : decode cX9_isPlace 1 = .ok (.iload_n 1, 1) := by decide +kernel
theorem dX9_isPlace_2 : decode cX9_isPlace 2 = .ok (.iconst 0, 1) := by decide +kernel
theorem dX9_isPlace_3 : decode cX9_isPlace 3 = .ok (.aload_n 0, 1) := by decide +kernel
theorem dX9_isPlace_4 : decode cX9_isPlace 4 = .ok (.getfield 149, 3) := by decide +kernel
theorem dX9_isPlace_7 : decode cX9_isPlace 7 = .ok (.iconst 1, 1) := by decide +kernel
theorem dX9_isPlace_8 : decode cX9_isPlace 8 = .ok (.isub, 1) := by decide +kernel
theorem dX9_isPlace_9 : decode cX9_isPlace 9 = .ok (.invokevirtual 155, 3) := by decide +kernel
theorem dX9_isPlace_12 : decode cX9_isPlace 12 = .ok (.ireturn, 1) := by decide +kernel
theorem dX9_isShutter_0 : decode cX9_isShutter 0 = .ok (.iload_n 1, 1) := by decide +kernel
theorem dX9_isShutter_1 : decode cX9_isShutter 1 = .ok (.iconst 2, 1) := by decide +kernel
theorem dX9_isShutter_2 : decode cX9_isShutter 2 = .ok (.if_icmp .eq 13, 3) := by decide +kernel
theorem dX9_isShutter_5 : decode cX9_isShutter 5 = .ok (.iload_n 1, 1) := by decide +kernel
theorem dX9_isShutter_6 : decode cX9_isShutter 6 = .ok (.iconst 3, 1) := by decide +kernel
theorem dX9_isShutter_7 : decode cX9_isShutter 7 = .ok (.if_icmp .eq 8, 3) := by decide +kernel
theorem dX9_isShutter_10 : decode cX9_isShutter 10 = .ok (.iload_n 1, 1) := by decide +kernel
theorem dX9_isShutter_11 : decode cX9_isShutter 11 = .ok (.iconst 5, 1) := by decide +kernel
theorem dX9_isShutter_12 : decode cX9_isShutter 12 = .ok (.if_icmp .ne 7, 3) := by decide +kernel
theorem dX9_isShutter_15 : decode cX9_isShutter 15 = .ok (.iconst 1, 1) := by decide +kernel
theorem dX9_isShutter_16 : decode cX9_isShutter 16 = .ok (.goto 4, 3) := by decide +kernel
theorem dX9_isShutter_19 : decode cX9_isShutter 19 = .ok (.iconst 0, 1) := by decide +kernel
theorem dX9_isShutter_20 : decode cX9_isShutter 20 = .ok (.ireturn, 1) := by decide +kernel
theorem dX9_shutters_0 : decode cX9_shutters 0 = .ok (.iconst 0, 1) := by decide +kernel
theorem dX9_shutters_1 : decode cX9_shutters 1 = .ok (.istore_n 1, 1) := by decide +kernel
theorem dX9_shutters_2 : decode cX9_shutters 2 = .ok (.iconst 0, 1) := by decide +kernel
theorem dX9_shutters_3 : decode cX9_shutters 3 = .ok (.istore_n 2, 1) := by decide +kernel
theorem dX9_shutters_4 : decode cX9_shutters 4 = .ok (.iload_n 2, 1) := by decide +kernel
theorem dX9_shutters_5 : decode cX9_shutters 5 = .ok (.aload_n 0, 1) := by decide +kernel
theorem dX9_shutters_6 : decode cX9_shutters 6 = .ok (.getfield 7, 3) := by decide +kernel
theorem dX9_shutters_9 : decode cX9_shutters 9 = .ok (.if_icmp .ge 30, 3) := by decide +kernel
theorem dX9_shutters_12 : decode cX9_shutters 12 = .ok (.iload_n 1, 1) := by decide +kernel
theorem dX9_shutters_13 : decode cX9_shutters 13 = .ok (.aload_n 0, 1) := by decide +kernel
theorem dX9_shutters_14 : decode cX9_shutters 14 = .ok (.aload_n 0, 1) := by decide +kernel
theorem dX9_shutters_15 : decode cX9_shutters 15 = .ok (.getfield 19, 3) := by decide +kernel
theorem dX9_shutters_18 : decode cX9_shutters 18 = .ok (.iload_n 2, 1) := by decide +kernel
theorem dX9_shutters_19 : decode cX9_shutters 19 = .ok (.iaload, 1) := by decide +kernel
theorem dX9_shutters_20 : decode cX9_shutters 20 = .ok (.invokevirtual 159, 3) := by decide +kernel
theorem dX9_shutters_23 : decode cX9_shutters 23 = .ok (.ifCond .eq 7, 3) := by decide +kernel
theorem dX9_shutters_26 : decode cX9_shutters 26 = .ok (.iconst 1, 1) := by decide +kernel
theorem dX9_shutters_27 : decode cX9_shutters 27 = .ok (.goto 4, 3) := by decide +kernel
theorem dX9_shutters_30 : decode cX9_shutters 30 = .ok (.iconst 0, 1) := by decide +kernel
theorem dX9_shutters_31 : decode cX9_shutters 31 = .ok (.iadd, 1) := by decide +kernel
theorem dX9_shutters_32 : decode cX9_shutters 32 = .ok (.istore_n 1, 1) := by decide +kernel
theorem dX9_shutters_33 : decode cX9_shutters 33 = .ok (.iinc 2 1, 3) := by decide +kernel
theorem dX9_shutters_36 : decode cX9_shutters 36 = .ok (.goto (-32), 3) := by decide +kernel
theorem dX9_shutters_39 : decode cX9_shutters 39 = .ok (.iload_n 1, 1) := by decide +kernel
theorem dX9_shutters_40 : decode cX9_shutters 40 = .ok (.ireturn, 1) := by decide +kernel
theorem dX9_shutterOf_0 : decode cX9_shutterOf 0 = .ok (.iconst 0, 1) := by decide +kernel
theorem dX9_shutterOf_1 : decode cX9_shutterOf 1 = .ok (.istore_n 2, 1) := by decide +kernel
theorem dX9_shutterOf_2 : decode cX9_shutterOf 2 = .ok (.iconst 0, 1) := by decide +kernel
theorem dX9_shutterOf_3 : decode cX9_shutterOf 3 = .ok (.istore_n 3, 1) := by decide +kernel
theorem dX9_shutterOf_4 : decode cX9_shutterOf 4 = .ok (.iload_n 3, 1) := by decide +kernel
theorem dX9_shutterOf_5 : decode cX9_shutterOf 5 = .ok (.iload_n 1, 1) := by decide +kernel
theorem dX9_shutterOf_6 : decode cX9_shutterOf 6 = .ok (.if_icmp .ge 30, 3) := by decide +kernel
theorem dX9_shutterOf_9 : decode cX9_shutterOf 9 = .ok (.iload_n 2, 1) := by decide +kernel
theorem dX9_shutterOf_10 : decode cX9_shutterOf 10 = .ok (.aload_n 0, 1) := by decide +kernel
theorem dX9_shutterOf_11 : decode cX9_shutterOf 11 = .ok (.aload_n 0, 1) := by decide +kernel
theorem dX9_shutterOf_12 : decode cX9_shutterOf 12 = .ok (.getfield 19, 3) := by decide +kernel
theorem dX9_shutterOf_15 : decode cX9_shutterOf 15 = .ok (.iload_n 3, 1) := by decide +kernel
theorem dX9_shutterOf_16 : decode cX9_shutterOf 16 = .ok (.iaload, 1) := by decide +kernel
theorem dX9_shutterOf_17 : decode cX9_shutterOf 17 = .ok (.invokevirtual 159, 3) := by decide +kernel
theorem dX9_shutterOf_20 : decode cX9_shutterOf 20 = .ok (.ifCond .eq 7, 3) := by decide +kernel
theorem dX9_shutterOf_23 : decode cX9_shutterOf 23 = .ok (.iconst 1, 1) := by decide +kernel
theorem dX9_shutterOf_24 : decode cX9_shutterOf 24 = .ok (.goto 4, 3) := by decide +kernel
theorem dX9_shutterOf_27 : decode cX9_shutterOf 27 = .ok (.iconst 0, 1) := by decide +kernel
theorem dX9_shutterOf_28 : decode cX9_shutterOf 28 = .ok (.iadd, 1) := by decide +kernel
theorem dX9_shutterOf_29 : decode cX9_shutterOf 29 = .ok (.istore_n 2, 1) := by decide +kernel
theorem dX9_shutterOf_30 : decode cX9_shutterOf 30 = .ok (.iinc 3 1, 3) := by decide +kernel
theorem dX9_shutterOf_33 : decode cX9_shutterOf 33 = .ok (.goto (-29), 3) := by decide +kernel
theorem dX9_shutterOf_36 : decode cX9_shutterOf 36 = .ok (.aload_n 0, 1) := by decide +kernel
theorem dX9_shutterOf_37 : decode cX9_shutterOf 37 = .ok (.aload_n 0, 1) := by decide +kernel
theorem dX9_shutterOf_38 : decode cX9_shutterOf 38 = .ok (.getfield 19, 3) := by decide +kernel
theorem dX9_shutterOf_41 : decode cX9_shutterOf 41 = .ok (.iload_n 1, 1) := by decide +kernel
theorem dX9_shutterOf_42 : decode cX9_shutterOf 42 = .ok (.iaload, 1) := by decide +kernel
theorem dX9_shutterOf_43 : decode cX9_shutterOf 43 = .ok (.invokevirtual 159, 3) := by decide +kernel
theorem dX9_shutterOf_46 : decode cX9_shutterOf 46 = .ok (.ifCond .eq 7, 3) := by decide +kernel
theorem dX9_shutterOf_49 : decode cX9_shutterOf 49 = .ok (.iload_n 2, 1) := by decide +kernel
theorem dX9_shutterOf_50 : decode cX9_shutterOf 50 = .ok (.goto 4, 3) := by decide +kernel
theorem dX9_shutterOf_53 : decode cX9_shutterOf 53 = .ok (.iconst (-1), 1) := by decide +kernel
theorem dX9_shutterOf_54 : decode cX9_shutterOf 54 = .ok (.ireturn, 1) := by decide +kernel
theorem dX9_shutFor_0 : decode cX9_shutFor 0 = .ok (.iload_n 1, 1) := by decide +kernel
theorem dX9_shutFor_1 : decode cX9_shutFor 1 = .ok (.iconst 3, 1) := by decide +kernel
theorem dX9_shutFor_2 : decode cX9_shutFor 2 = .ok (.if_icmp .ne 7, 3) := by decide +kernel
theorem dX9_shutFor_5 : decode cX9_shutFor 5 = .ok (.iconst 2, 1) := by decide +kernel
theorem dX9_shutFor_6 : decode cX9_shutFor 6 = .ok (.goto 16, 3) := by decide +kernel
theorem dX9_shutFor_9 : decode cX9_shutFor 9 = .ok (.aload_n 0, 1) := by decide +kernel
theorem dX9_shutFor_10 : decode cX9_shutFor 10 = .ok (.iload_n 1, 1) := by decide +kernel
theorem dX9_shutFor_11 : decode cX9_shutFor 11 = .ok (.invokevirtual 159, 3) := by decide +kernel
theorem dX9_shutFor_14 : decode cX9_shutFor 14 = .ok (.ifCond .eq 7, 3) := by decide +kernel
theorem dX9_shutFor_17 : decode cX9_shutFor 17 = .ok (.iconst 1, 1) := by decide +kernel
theorem dX9_shutFor_18 : decode cX9_shutFor 18 = .ok (.goto 4, 3) := by decide +kernel
theorem dX9_shutFor_21 : decode cX9_shutFor 21 = .ok (.iconst 0, 1) := by decide +kernel
theorem dX9_shutFor_22 : decode cX9_shutFor 22 = .ok (.ireturn, 1) := by decide +kernel
theorem dX9_changed_0 : decode cX9_changed 0 = .ok (.aload_n 0, 1) := by decide +kernel
theorem dX9_changed_1 : decode cX9_changed 1 = .ok (.iconst 0, 1) := by decide +kernel
theorem dX9_changed_2 : decode cX9_changed 2 = .ok (.putfield 36, 3) := by decide +kernel
theorem dX9_changed_5 : decode cX9_changed 5 = .ok (.aload_n 0, 1) := by decide +kernel
theorem dX9_changed_6 : decode cX9_changed 6 = .ok (.iconst 0, 1) := by decide +kernel
theorem dX9_changed_7 : decode cX9_changed 7 = .ok (.putfield 67, 3) := by decide +kernel
theorem dX9_changed_10 : decode cX9_changed 10 = .ok (.aload_n 0, 1) := by decide +kernel
theorem dX9_changed_11 : decode cX9_changed 11 = .ok (.iconst 0, 1) := by decide +kernel
theorem dX9_changed_12 : decode cX9_changed 12 = .ok (.putfield 55, 3) := by decide +kernel
theorem dX9_changed_15 : decode cX9_changed 15 = .ok (.return_, 1) := by decide +kernel
theorem dX9_way_0 : decode cX9_way 0 = .ok (.aload_n 0, 1) := by decide +kernel
theorem dX9_way_1 : decode cX9_way 1 = .ok (.iload_n 1, 1) := by decide +kernel
theorem dX9_way_2 : decode cX9_way 2 = .ok (.iconst 0, 1) := by decide +kernel
theorem dX9_way_3 : decode cX9_way 3 = .ok (.iconst 5, 1) := by decide +kernel
theorem dX9_way_4 : decode cX9_way 4 = .ok (.invokevirtual 155, 3) := by decide +kernel
theorem dX9_way_7 : decode cX9_way 7 = .ok (.ifCond .eq 24, 3) := by decide +kernel
theorem dX9_way_10 : decode cX9_way 10 = .ok (.aload_n 0, 1) := by decide +kernel
theorem dX9_way_11 : decode cX9_way 11 = .ok (.iload_n 2, 1) := by decide +kernel
theorem dX9_way_12 : decode cX9_way 12 = .ok (.invokevirtual 163, 3) := by decide +kernel
theorem dX9_way_15 : decode cX9_way 15 = .ok (.ifCond .eq 16, 3) := by decide +kernel
theorem dX9_way_18 : decode cX9_way 18 = .ok (.aload_n 0, 1) := by decide +kernel
theorem dX9_way_19 : decode cX9_way 19 = .ok (.iload_n 3, 1) := by decide +kernel
theorem dX9_way_20 : decode cX9_way 20 = .ok (.invokevirtual 163, 3) := by decide +kernel
theorem dX9_way_23 : decode cX9_way 23 = .ok (.ifCond .eq 8, 3) := by decide +kernel
theorem dX9_way_26 : decode cX9_way 26 = .ok (.iload_n 2, 1) := by decide +kernel
theorem dX9_way_27 : decode cX9_way 27 = .ok (.iload_n 3, 1) := by decide +kernel
theorem dX9_way_28 : decode cX9_way 28 = .ok (.if_icmp .ne 6, 3) := by decide +kernel
theorem dX9_way_31 : decode cX9_way 31 = .ok (.bipush (-2), 2) := by decide +kernel
theorem dX9_way_33 : decode cX9_way 33 = .ok (.ireturn, 1) := by decide +kernel
theorem dX9_way_34 : decode cX9_way 34 = .ok (.aload_n 0, 1) := by decide +kernel
theorem dX9_way_35 : decode cX9_way 35 = .ok (.getfield 7, 3) := by decide +kernel
theorem dX9_way_38 : decode cX9_way 38 = .ok (.bipush 16, 2) := by decide +kernel
theorem dX9_way_40 : decode cX9_way 40 = .ok (.if_icmp .eq 19, 3) := by decide +kernel
theorem dX9_way_43 : decode cX9_way 43 = .ok (.aload_n 0, 1) := by decide +kernel
theorem dX9_way_44 : decode cX9_way 44 = .ok (.iload_n 1, 1) := by decide +kernel
theorem dX9_way_45 : decode cX9_way 45 = .ok (.invokevirtual 159, 3) := by decide +kernel
theorem dX9_way_48 : decode cX9_way 48 = .ok (.ifCond .eq 14, 3) := by decide +kernel
theorem dX9_way_51 : decode cX9_way 51 = .ok (.aload_n 0, 1) := by decide +kernel
theorem dX9_way_52 : decode cX9_way 52 = .ok (.invokevirtual 166, 3) := by decide +kernel
theorem dX9_way_55 : decode cX9_way 55 = .ok (.iconst 2, 1) := by decide +kernel
theorem dX9_way_56 : decode cX9_way 56 = .ok (.if_icmp .ne 6, 3) := by decide +kernel
theorem dX9_way_59 : decode cX9_way 59 = .ok (.bipush (-4), 2) := by decide +kernel
theorem dX9_way_61 : decode cX9_way 61 = .ok (.ireturn, 1) := by decide +kernel
theorem dX9_way_62 : decode cX9_way 62 = .ok (.aload_n 0, 1) := by decide +kernel
theorem dX9_way_63 : decode cX9_way 63 = .ok (.getfield 19, 3) := by decide +kernel
theorem dX9_way_66 : decode cX9_way 66 = .ok (.aload_n 0, 1) := by decide +kernel
theorem dX9_way_67 : decode cX9_way 67 = .ok (.getfield 7, 3) := by decide +kernel
theorem dX9_way_70 : decode cX9_way 70 = .ok (.iload_n 1, 1) := by decide +kernel
theorem dX9_way_71 : decode cX9_way 71 = .ok (.iastore, 1) := by decide +kernel
theorem dX9_way_72 : decode cX9_way 72 = .ok (.aload_n 0, 1) := by decide +kernel
theorem dX9_way_73 : decode cX9_way 73 = .ok (.getfield 23, 3) := by decide +kernel
theorem dX9_way_76 : decode cX9_way 76 = .ok (.aload_n 0, 1) := by decide +kernel
theorem dX9_way_77 : decode cX9_way 77 = .ok (.getfield 7, 3) := by decide +kernel
theorem dX9_way_80 : decode cX9_way 80 = .ok (.iload_n 2, 1) := by decide +kernel
theorem dX9_way_81 : decode cX9_way 81 = .ok (.iastore, 1) := by decide +kernel
theorem dX9_way_82 : decode cX9_way 82 = .ok (.aload_n 0, 1) := by decide +kernel
theorem dX9_way_83 : decode cX9_way 83 = .ok (.getfield 26, 3) := by decide +kernel
theorem dX9_way_86 : decode cX9_way 86 = .ok (.aload_n 0, 1) := by decide +kernel
theorem dX9_way_87 : decode cX9_way 87 = .ok (.getfield 7, 3) := by decide +kernel
theorem dX9_way_90 : decode cX9_way 90 = .ok (.iload_n 3, 1) := by decide +kernel
theorem dX9_way_91 : decode cX9_way 91 = .ok (.iastore, 1) := by decide +kernel
theorem dX9_way_92 : decode cX9_way 92 = .ok (.aload_n 0, 1) := by decide +kernel
theorem dX9_way_93 : decode cX9_way 93 = .ok (.dup, 1) := by decide +kernel
theorem dX9_way_94 : decode cX9_way 94 = .ok (.getfield 7, 3) := by decide +kernel
theorem dX9_way_97 : decode cX9_way 97 = .ok (.iconst 1, 1) := by decide +kernel
theorem dX9_way_98 : decode cX9_way 98 = .ok (.iadd, 1) := by decide +kernel
theorem dX9_way_99 : decode cX9_way 99 = .ok (.putfield 7, 3) := by decide +kernel
theorem dX9_way_102 : decode cX9_way 102 = .ok (.aload_n 0, 1) := by decide +kernel
theorem dX9_way_103 : decode cX9_way 103 = .ok (.invokevirtual 170, 3) := by decide +kernel
theorem dX9_way_106 : decode cX9_way 106 = .ok (.aload_n 0, 1) := by decide +kernel
theorem dX9_way_107 : decode cX9_way 107 = .ok (.getfield 7, 3) := by decide +kernel
theorem dX9_way_110 : decode cX9_way 110 = .ok (.iconst 1, 1) := by decide +kernel
theorem dX9_way_111 : decode cX9_way 111 = .ok (.isub, 1) := by decide +kernel
theorem dX9_way_112 : decode cX9_way 112 = .ok (.ireturn, 1) := by decide +kernel
theorem dX9_unway_0 : decode cX9_unway 0 = .ok (.aload_n 0, 1) := by decide +kernel
theorem dX9_unway_1 : decode cX9_unway 1 = .ok (.getfield 7, 3) := by decide +kernel
theorem dX9_unway_4 : decode cX9_unway 4 = .ok (.ifCond .ne 6, 3) := by decide +kernel
theorem dX9_unway_7 : decode cX9_unway 7 = .ok (.bipush (-3), 2) := by decide +kernel
theorem dX9_unway_9 : decode cX9_unway 9 = .ok (.ireturn, 1) := by decide +kernel
theorem dX9_unway_10 : decode cX9_unway 10 = .ok (.aload_n 0, 1) := by decide +kernel
theorem dX9_unway_11 : decode cX9_unway 11 = .ok (.dup, 1) := by decide +kernel
theorem dX9_unway_12 : decode cX9_unway 12 = .ok (.getfield 7, 3) := by decide +kernel
theorem dX9_unway_15 : decode cX9_unway 15 = .ok (.iconst 1, 1) := by decide +kernel
theorem dX9_unway_16 : decode cX9_unway 16 = .ok (.isub, 1) := by decide +kernel
theorem dX9_unway_17 : decode cX9_unway 17 = .ok (.putfield 7, 3) := by decide +kernel
theorem dX9_unway_20 : decode cX9_unway 20 = .ok (.aload_n 0, 1) := by decide +kernel
theorem dX9_unway_21 : decode cX9_unway 21 = .ok (.invokevirtual 170, 3) := by decide +kernel
theorem dX9_unway_24 : decode cX9_unway 24 = .ok (.aload_n 0, 1) := by decide +kernel
theorem dX9_unway_25 : decode cX9_unway 25 = .ok (.getfield 7, 3) := by decide +kernel
theorem dX9_unway_28 : decode cX9_unway 28 = .ok (.ireturn, 1) := by decide +kernel
theorem dX9_wayTold_0 : decode cX9_wayTold 0 = .ok (.aload_n 0, 1) := by decide +kernel
theorem dX9_wayTold_1 : decode cX9_wayTold 1 = .ok (.iload_n 1, 1) := by decide +kernel
theorem dX9_wayTold_2 : decode cX9_wayTold 2 = .ok (.iconst 0, 1) := by decide +kernel
theorem dX9_wayTold_3 : decode cX9_wayTold 3 = .ok (.aload_n 0, 1) := by decide +kernel
theorem dX9_wayTold_4 : decode cX9_wayTold 4 = .ok (.getfield 7, 3) := by decide +kernel
theorem dX9_wayTold_7 : decode cX9_wayTold 7 = .ok (.iconst 1, 1) := by decide +kernel
theorem dX9_wayTold_8 : decode cX9_wayTold 8 = .ok (.isub, 1) := by decide +kernel
theorem dX9_wayTold_9 : decode cX9_wayTold 9 = .ok (.invokevirtual 155, 3) := by decide +kernel
theorem dX9_wayTold_12 : decode cX9_wayTold 12 = .ok (.ifCond .eq 13, 3) := by decide +kernel
theorem dX9_wayTold_15 : decode cX9_wayTold 15 = .ok (.aload_n 0, 1) := by decide +kernel
theorem dX9_wayTold_16 : decode cX9_wayTold 16 = .ok (.iload_n 2, 1) := by decide +kernel
theorem dX9_wayTold_17 : decode cX9_wayTold 17 = .ok (.iconst 0, 1) := by decide +kernel
theorem dX9_wayTold_18 : decode cX9_wayTold 18 = .ok (.iconst 4, 1) := by decide +kernel
theorem dX9_wayTold_19 : decode cX9_wayTold 19 = .ok (.invokevirtual 155, 3) := by decide +kernel
theorem dX9_wayTold_22 : decode cX9_wayTold 22 = .ok (.ifCond .ne 6, 3) := by decide +kernel
theorem dX9_wayTold_25 : decode cX9_wayTold 25 = .ok (.bipush (-2), 2) := by decide +kernel
theorem dX9_wayTold_27 : decode cX9_wayTold 27 = .ok (.ireturn, 1) := by decide +kernel
theorem dX9_wayTold_28 : decode cX9_wayTold 28 = .ok (.iload_n 2, 1) := by decide +kernel
theorem dX9_wayTold_29 : decode cX9_wayTold 29 = .ok (.ifCond .ne 12, 3) := by decide +kernel
theorem dX9_wayTold_32 : decode cX9_wayTold 32 = .ok (.aload_n 0, 1) := by decide +kernel
theorem dX9_wayTold_33 : decode cX9_wayTold 33 = .ok (.getfield 19, 3) := by decide +kernel
theorem dX9_wayTold_36 : decode cX9_wayTold 36 = .ok (.iload_n 1, 1) := by decide +kernel
theorem dX9_wayTold_37 : decode cX9_wayTold 37 = .ok (.iaload, 1) := by decide +kernel
theorem dX9_wayTold_38 : decode cX9_wayTold 38 = .ok (.goto 54, 3) := by decide +kernel
theorem dX9_wayTold_41 : decode cX9_wayTold 41 = .ok (.iload_n 2, 1) := by decide +kernel
theorem dX9_wayTold_42 : decode cX9_wayTold 42 = .ok (.iconst 1, 1) := by decide +kernel
theorem dX9_wayTold_43 : decode cX9_wayTold 43 = .ok (.if_icmp .ne 12, 3) := by decide +kernel
theorem dX9_wayTold_46 : decode cX9_wayTold 46 = .ok (.aload_n 0, 1) := by decide +kernel
theorem dX9_wayTold_47 : decode cX9_wayTold 47 = .ok (.getfield 23, 3) := by decide +kernel
theorem dX9_wayTold_50 : decode cX9_wayTold 50 = .ok (.iload_n 1, 1) := by decide +kernel
theorem dX9_wayTold_51 : decode cX9_wayTold 51 = .ok (.iaload, 1) := by decide +kernel
theorem dX9_wayTold_52 : decode cX9_wayTold 52 = .ok (.goto 40, 3) := by decide +kernel
theorem dX9_wayTold_55 : decode cX9_wayTold 55 = .ok (.iload_n 2, 1) := by decide +kernel
theorem dX9_wayTold_56 : decode cX9_wayTold 56 = .ok (.iconst 2, 1) := by decide +kernel
theorem dX9_wayTold_57 : decode cX9_wayTold 57 = .ok (.if_icmp .ne 12, 3) := by decide +kernel
theorem dX9_wayTold_60 : decode cX9_wayTold 60 = .ok (.aload_n 0, 1) := by decide +kernel
theorem dX9_wayTold_61 : decode cX9_wayTold 61 = .ok (.getfield 26, 3) := by decide +kernel
theorem dX9_wayTold_64 : decode cX9_wayTold 64 = .ok (.iload_n 1, 1) := by decide +kernel
theorem dX9_wayTold_65 : decode cX9_wayTold 65 = .ok (.iaload, 1) := by decide +kernel
theorem dX9_wayTold_66 : decode cX9_wayTold 66 = .ok (.goto 26, 3) := by decide +kernel
theorem dX9_wayTold_69 : decode cX9_wayTold 69 = .ok (.iload_n 2, 1) := by decide +kernel
theorem dX9_wayTold_70 : decode cX9_wayTold 70 = .ok (.iconst 3, 1) := by decide +kernel
theorem dX9_wayTold_71 : decode cX9_wayTold 71 = .ok (.if_icmp .ne 11, 3) := by decide +kernel
theorem dX9_wayTold_74 : decode cX9_wayTold 74 = .ok (.aload_n 0, 1) := by decide +kernel
theorem dX9_wayTold_75 : decode cX9_wayTold 75 = .ok (.iload_n 1, 1) := by decide +kernel
theorem dX9_wayTold_76 : decode cX9_wayTold 76 = .ok (.invokevirtual 173, 3) := by decide +kernel
theorem dX9_wayTold_79 : decode cX9_wayTold 79 = .ok (.goto 13, 3) := by decide +kernel
theorem dX9_wayTold_82 : decode cX9_wayTold 82 = .ok (.aload_n 0, 1) := by decide +kernel
theorem dX9_wayTold_83 : decode cX9_wayTold 83 = .ok (.aload_n 0, 1) := by decide +kernel
theorem dX9_wayTold_84 : decode cX9_wayTold 84 = .ok (.getfield 19, 3) := by decide +kernel
theorem dX9_wayTold_87 : decode cX9_wayTold 87 = .ok (.iload_n 1, 1) := by decide +kernel
theorem dX9_wayTold_88 : decode cX9_wayTold 88 = .ok (.iaload, 1) := by decide +kernel
theorem dX9_wayTold_89 : decode cX9_wayTold 89 = .ok (.invokevirtual 177, 3) := by decide +kernel
theorem dX9_wayTold_92 : decode cX9_wayTold 92 = .ok (.ireturn, 1) := by decide +kernel
theorem dX9_ground_0 : decode cX9_ground 0 = .ok (.aload_n 0, 1) := by decide +kernel
theorem dX9_ground_1 : decode cX9_ground 1 = .ok (.iload_n 1, 1) := by decide +kernel
theorem dX9_ground_2 : decode cX9_ground 2 = .ok (.invokevirtual 163, 3) := by decide +kernel
theorem dX9_ground_5 : decode cX9_ground 5 = .ok (.ifCond .eq 13, 3) := by decide +kernel
theorem dX9_ground_8 : decode cX9_ground 8 = .ok (.aload_n 0, 1) := by decide +kernel
theorem dX9_ground_9 : decode cX9_ground 9 = .ok (.iload_n 2, 1) := by decide +kernel
theorem dX9_ground_10 : decode cX9_ground 10 = .ok (.iconst 0, 1) := by decide +kernel
theorem dX9_ground_11 : decode cX9_ground 11 = .ok (.iconst 3, 1) := by decide +kernel
theorem dX9_ground_12 : decode cX9_ground 12 = .ok (.invokevirtual 155, 3) := by decide +kernel
theorem dX9_ground_15 : decode cX9_ground 15 = .ok (.ifCond .ne 6, 3) := by decide +kernel
theorem dX9_ground_18 : decode cX9_ground 18 = .ok (.bipush (-2), 2) := by decide +kernel
theorem dX9_ground_20 : decode cX9_ground 20 = .ok (.ireturn, 1) := by decide +kernel
theorem dX9_ground_21 : decode cX9_ground 21 = .ok (.aload_n 0, 1) := by decide +kernel
theorem dX9_ground_22 : decode cX9_ground 22 = .ok (.getfield 29, 3) := by decide +kernel
theorem dX9_ground_25 : decode cX9_ground 25 = .ok (.iload_n 1, 1) := by decide +kernel
theorem dX9_ground_26 : decode cX9_ground 26 = .ok (.baload, 1) := by decide +kernel
theorem dX9_ground_27 : decode cX9_ground 27 = .ok (.ifCond .eq 7, 3) := by decide +kernel
theorem dX9_ground_30 : decode cX9_ground 30 = .ok (.iconst 1, 1) := by decide +kernel
theorem dX9_ground_31 : decode cX9_ground 31 = .ok (.goto 4, 3) := by decide +kernel
theorem dX9_ground_34 : decode cX9_ground 34 = .ok (.iconst 0, 1) := by decide +kernel
theorem dX9_ground_35 : decode cX9_ground 35 = .ok (.aload_n 0, 1) := by decide +kernel
theorem dX9_ground_36 : decode cX9_ground 36 = .ok (.getfield 33, 3) := by decide +kernel
theorem dX9_ground_39 : decode cX9_ground 39 = .ok (.iload_n 1, 1) := by decide +kernel
theorem dX9_ground_40 : decode cX9_ground 40 = .ok (.baload, 1) := by decide +kernel
theorem dX9_ground_41 : decode cX9_ground 41 = .ok (.ifCond .eq 7, 3) := by decide +kernel
theorem dX9_ground_44 : decode cX9_ground 44 = .ok (.iconst 2, 1) := by decide +kernel
theorem dX9_ground_45 : decode cX9_ground 45 = .ok (.goto 4, 3) := by decide +kernel
theorem dX9_ground_48 : decode cX9_ground 48 = .ok (.iconst 0, 1) := by decide +kernel
theorem dX9_ground_49 : decode cX9_ground 49 = .ok (.iadd, 1) := by decide +kernel
theorem dX9_ground_50 : decode cX9_ground 50 = .ok (.istore_n 3, 1) := by decide +kernel
theorem dX9_ground_51 : decode cX9_ground 51 = .ok (.aload_n 0, 1) := by decide +kernel
theorem dX9_ground_52 : decode cX9_ground 52 = .ok (.getfield 29, 3) := by decide +kernel
theorem dX9_ground_55 : decode cX9_ground 55 = .ok (.iload_n 1, 1) := by decide +kernel
theorem dX9_ground_56 : decode cX9_ground 56 = .ok (.iload_n 2, 1) := by decide +kernel
theorem dX9_ground_57 : decode cX9_ground 57 = .ok (.iconst 1, 1) := by decide +kernel
theorem dX9_ground_58 : decode cX9_ground 58 = .ok (.iand, 1) := by decide +kernel
theorem dX9_ground_59 : decode cX9_ground 59 = .ok (.iconst 1, 1) := by decide +kernel
theorem dX9_ground_60 : decode cX9_ground 60 = .ok (.if_icmp .ne 7, 3) := by decide +kernel
theorem dX9_ground_63 : decode cX9_ground 63 = .ok (.iconst 1, 1) := by decide +kernel
theorem dX9_ground_64 : decode cX9_ground 64 = .ok (.goto 4, 3) := by decide +kernel
theorem dX9_ground_67 : decode cX9_ground 67 = .ok (.iconst 0, 1) := by decide +kernel
theorem dX9_ground_68 : decode cX9_ground 68 = .ok (.bastore, 1) := by decide +kernel
theorem dX9_ground_69 : decode cX9_ground 69 = .ok (.aload_n 0, 1) := by decide +kernel
theorem dX9_ground_70 : decode cX9_ground 70 = .ok (.getfield 33, 3) := by decide +kernel
theorem dX9_ground_73 : decode cX9_ground 73 = .ok (.iload_n 1, 1) := by decide +kernel
theorem dX9_ground_74 : decode cX9_ground 74 = .ok (.iload_n 2, 1) := by decide +kernel
theorem dX9_ground_75 : decode cX9_ground 75 = .ok (.iconst 1, 1) := by decide +kernel
theorem dX9_ground_76 : decode cX9_ground 76 = .ok (.if_icmp .le 7, 3) := by decide +kernel
theorem dX9_ground_79 : decode cX9_ground 79 = .ok (.iconst 1, 1) := by decide +kernel
theorem dX9_ground_80 : decode cX9_ground 80 = .ok (.goto 4, 3) := by decide +kernel
theorem dX9_ground_83 : decode cX9_ground 83 = .ok (.iconst 0, 1) := by decide +kernel
theorem dX9_ground_84 : decode cX9_ground 84 = .ok (.bastore, 1) := by decide +kernel
theorem dX9_ground_85 : decode cX9_ground 85 = .ok (.aload_n 0, 1) := by decide +kernel
theorem dX9_ground_86 : decode cX9_ground 86 = .ok (.invokevirtual 170, 3) := by decide +kernel
theorem dX9_ground_89 : decode cX9_ground 89 = .ok (.iload_n 3, 1) := by decide +kernel
theorem dX9_ground_90 : decode cX9_ground 90 = .ok (.ireturn, 1) := by decide +kernel
theorem dX9_tell_0 : decode cX9_tell 0 = .ok (.aload_n 0, 1) := by decide +kernel
theorem dX9_tell_1 : decode cX9_tell 1 = .ok (.iload_n 1, 1) := by decide +kernel
theorem dX9_tell_2 : decode cX9_tell 2 = .ok (.iconst 0, 1) := by decide +kernel
theorem dX9_tell_3 : decode cX9_tell 3 = .ok (.iconst 1, 1) := by decide +kernel
theorem dX9_tell_4 : decode cX9_tell 4 = .ok (.invokevirtual 155, 3) := by decide +kernel
theorem dX9_tell_7 : decode cX9_tell 7 = .ok (.ifCond .eq 29, 3) := by decide +kernel
theorem dX9_tell_10 : decode cX9_tell 10 = .ok (.aload_n 0, 1) := by decide +kernel
theorem dX9_tell_11 : decode cX9_tell 11 = .ok (.iload_n 2, 1) := by decide +kernel
theorem dX9_tell_12 : decode cX9_tell 12 = .ok (.iload_n 1, 1) := by decide +kernel
theorem dX9_tell_13 : decode cX9_tell 13 = .ok (.ifCond .ne 7, 3) := by decide +kernel
theorem dX9_tell_16 : decode cX9_tell 16 = .ok (.iconst 1, 1) := by decide +kernel
theorem dX9_tell_17 : decode cX9_tell 17 = .ok (.goto 4, 3) := by decide +kernel
theorem dX9_tell_20 : decode cX9_tell 20 = .ok (.iconst 0, 1) := by decide +kernel
theorem dX9_tell_21 : decode cX9_tell 21 = .ok (.iload_n 1, 1) := by decide +kernel
theorem dX9_tell_22 : decode cX9_tell 22 = .ok (.ifCond .ne 7, 3) := by decide +kernel
theorem dX9_tell_25 : decode cX9_tell 25 = .ok (.iconst 2, 1) := by decide +kernel
theorem dX9_tell_26 : decode cX9_tell 26 = .ok (.goto 4, 3) := by decide +kernel
theorem dX9_tell_29 : decode cX9_tell 29 = .ok (.iconst 3, 1) := by decide +kernel
theorem dX9_tell_30 : decode cX9_tell 30 = .ok (.invokevirtual 155, 3) := by decide +kernel
theorem dX9_tell_33 : decode cX9_tell 33 = .ok (.ifCond .ne 6, 3) := by decide +kernel
theorem dX9_tell_36 : decode cX9_tell 36 = .ok (.bipush (-2), 2) := by decide +kernel
theorem dX9_tell_38 : decode cX9_tell 38 = .ok (.ireturn, 1) := by decide +kernel
theorem dX9_tell_39 : decode cX9_tell 39 = .ok (.iload_n 1, 1) := by decide +kernel
theorem dX9_tell_40 : decode cX9_tell 40 = .ok (.ifCond .ne 10, 3) := by decide +kernel
theorem dX9_tell_43 : decode cX9_tell 43 = .ok (.aload_n 0, 1) := by decide +kernel
theorem dX9_tell_44 : decode cX9_tell 44 = .ok (.getfield 13, 3) := by decide +kernel
theorem dX9_tell_47 : decode cX9_tell 47 = .ok (.goto 7, 3) := by decide +kernel
theorem dX9_tell_50 : decode cX9_tell 50 = .ok (.aload_n 0, 1) := by decide +kernel
theorem dX9_tell_51 : decode cX9_tell 51 = .ok (.getfield 16, 3) := by decide +kernel
theorem dX9_tell_54 : decode cX9_tell 54 = .ok (.istore_n 3, 1) := by decide +kernel
theorem dX9_tell_55 : decode cX9_tell 55 = .ok (.iload_n 1, 1) := by decide +kernel
theorem dX9_tell_56 : decode cX9_tell 56 = .ok (.ifCond .ne 8, 3) := by decide +kernel
theorem dX9_tell_59 : decode cX9_tell 59 = .ok (.aload_n 0, 1) := by decide +kernel
theorem dX9_tell_60 : decode cX9_tell 60 = .ok (.iload_n 2, 1) := by decide +kernel
theorem dX9_tell_61 : decode cX9_tell 61 = .ok (.putfield 13, 3) := by decide +kernel
theorem dX9_tell_64 : decode cX9_tell 64 = .ok (.iload_n 1, 1) := by decide +kernel
theorem dX9_tell_65 : decode cX9_tell 65 = .ok (.iconst 1, 1) := by decide +kernel
theorem dX9_tell_66 : decode cX9_tell 66 = .ok (.if_icmp .ne 8, 3) := by decide +kernel
theorem dX9_tell_69 : decode cX9_tell 69 = .ok (.aload_n 0, 1) := by decide +kernel
theorem dX9_tell_70 : decode cX9_tell 70 = .ok (.iload_n 2, 1) := by decide +kernel
theorem dX9_tell_71 : decode cX9_tell 71 = .ok (.putfield 16, 3) := by decide +kernel
theorem dX9_tell_74 : decode cX9_tell 74 = .ok (.aload_n 0, 1) := by decide +kernel
theorem dX9_tell_75 : decode cX9_tell 75 = .ok (.invokevirtual 170, 3) := by decide +kernel
theorem dX9_tell_78 : decode cX9_tell 78 = .ok (.iload_n 3, 1) := by decide +kernel
theorem dX9_tell_79 : decode cX9_tell 79 = .ok (.ireturn, 1) := by decide +kernel
theorem dX9_standing_0 : decode cX9_standing 0 = .ok (.iload_n 1, 1) := by decide +kernel
theorem dX9_standing_1 : decode cX9_standing 1 = .ok (.bipush 8, 2) := by decide +kernel
theorem dX9_standing_3 : decode cX9_standing 3 = .ok (.imul, 1) := by decide +kernel
theorem dX9_standing_4 : decode cX9_standing 4 = .ok (.iload_n 2, 1) := by decide +kernel
theorem dX9_standing_5 : decode cX9_standing 5 = .ok (.iadd, 1) := by decide +kernel
theorem dX9_standing_6 : decode cX9_standing 6 = .ok (.bipush 8, 2) := by decide +kernel
theorem dX9_standing_8 : decode cX9_standing 8 = .ok (.imul, 1) := by decide +kernel
theorem dX9_standing_9 : decode cX9_standing 9 = .ok (.iload_n 3, 1) := by decide +kernel
theorem dX9_standing_10 : decode cX9_standing 10 = .ok (.iadd, 1) := by decide +kernel
theorem dX9_standing_11 : decode cX9_standing 11 = .ok (.iconst 2, 1) := by decide +kernel
theorem dX9_standing_12 : decode cX9_standing 12 = .ok (.imul, 1) := by decide +kernel
theorem dX9_standing_13 : decode cX9_standing 13 = .ok (.iload 4, 2) := by decide +kernel
theorem dX9_standing_15 : decode cX9_standing 15 = .ok (.iadd, 1) := by decide +kernel
theorem dX9_standing_16 : decode cX9_standing 16 = .ok (.bipush 9, 2) := by decide +kernel
theorem dX9_standing_18 : decode cX9_standing 18 = .ok (.imul, 1) := by decide +kernel
theorem dX9_standing_19 : decode cX9_standing 19 = .ok (.iload 5, 2) := by decide +kernel
theorem dX9_standing_21 : decode cX9_standing 21 = .ok (.iadd, 1) := by decide +kernel
theorem dX9_standing_22 : decode cX9_standing 22 = .ok (.ireturn, 1) := by decide +kernel
theorem dX9_firstOf_0 : decode cX9_firstOf 0 = .ok (.iload_n 1, 1) := by decide +kernel
theorem dX9_firstOf_1 : decode cX9_firstOf 1 = .ok (.sipush 1152, 3) := by decide +kernel
theorem dX9_firstOf_4 : decode cX9_firstOf 4 = .ok (.idiv, 1) := by decide +kernel
theorem dX9_firstOf_5 : decode cX9_firstOf 5 = .ok (.ireturn, 1) := by decide +kernel
theorem dX9_secondOf_0 : decode cX9_secondOf 0 = .ok (.iload_n 1, 1) := by decide +kernel
theorem dX9_secondOf_1 : decode cX9_secondOf 1 = .ok (.sipush 144, 3) := by decide +kernel
theorem dX9_secondOf_4 : decode cX9_secondOf 4 = .ok (.idiv, 1) := by decide +kernel
theorem dX9_secondOf_5 : decode cX9_secondOf 5 = .ok (.bipush 8, 2) := by decide +kernel
theorem dX9_secondOf_7 : decode cX9_secondOf 7 = .ok (.irem, 1) := by decide +kernel
theorem dX9_secondOf_8 : decode cX9_secondOf 8 = .ok (.ireturn, 1) := by decide +kernel
theorem dX9_runnerOf_0 : decode cX9_runnerOf 0 = .ok (.iload_n 1, 1) := by decide +kernel
theorem dX9_runnerOf_1 : decode cX9_runnerOf 1 = .ok (.bipush 18, 2) := by decide +kernel
theorem dX9_runnerOf_3 : decode cX9_runnerOf 3 = .ok (.idiv, 1) := by decide +kernel
theorem dX9_runnerOf_4 : decode cX9_runnerOf 4 = .ok (.bipush 8, 2) := by decide +kernel
theorem dX9_runnerOf_6 : decode cX9_runnerOf 6 = .ok (.irem, 1) := by decide +kernel
theorem dX9_runnerOf_7 : decode cX9_runnerOf 7 = .ok (.ireturn, 1) := by decide +kernel
theorem dX9_turnOf_0 : decode cX9_turnOf 0 = .ok (.iload_n 1, 1) := by decide +kernel
theorem dX9_turnOf_1 : decode cX9_turnOf 1 = .ok (.bipush 9, 2) := by decide +kernel
theorem dX9_turnOf_3 : decode cX9_turnOf 3 = .ok (.idiv, 1) := by decide +kernel
theorem dX9_turnOf_4 : decode cX9_turnOf 4 = .ok (.iconst 2, 1) := by decide +kernel
theorem dX9_turnOf_5 : decode cX9_turnOf 5 = .ok (.irem, 1) := by decide +kernel
theorem dX9_turnOf_6 : decode cX9_turnOf 6 = .ok (.ireturn, 1) := by decide +kernel
theorem dX9_shutOf_0 : decode cX9_shutOf 0 = .ok (.iload_n 1, 1) := by decide +kernel
theorem dX9_shutOf_1 : decode cX9_shutOf 1 = .ok (.bipush 9, 2) := by decide +kernel
theorem dX9_shutOf_3 : decode cX9_shutOf 3 = .ok (.irem, 1) := by decide +kernel
theorem dX9_shutOf_4 : decode cX9_shutOf 4 = .ok (.ireturn, 1) := by decide +kernel
theorem dX9_leads_0 : decode cX9_leads 0 = .ok (.aload_n 0, 1) := by decide +kernel
theorem dX9_leads_1 : decode cX9_leads 1 = .ok (.getfield 23, 3) := by decide +kernel
theorem dX9_leads_4 : decode cX9_leads 4 = .ok (.iload_n 1, 1) := by decide +kernel
theorem dX9_leads_5 : decode cX9_leads 5 = .ok (.iaload, 1) := by decide +kernel
theorem dX9_leads_6 : decode cX9_leads 6 = .ok (.iload_n 2, 1) := by decide +kernel
theorem dX9_leads_7 : decode cX9_leads 7 = .ok (.if_icmp .ne 12, 3) := by decide +kernel
theorem dX9_leads_10 : decode cX9_leads 10 = .ok (.aload_n 0, 1) := by decide +kernel
theorem dX9_leads_11 : decode cX9_leads 11 = .ok (.getfield 26, 3) := by decide +kernel
theorem dX9_leads_14 : decode cX9_leads 14 = .ok (.iload_n 1, 1) := by decide +kernel
theorem dX9_leads_15 : decode cX9_leads 15 = .ok (.iaload, 1) := by decide +kernel
theorem dX9_leads_16 : decode cX9_leads 16 = .ok (.goto 33, 3) := by decide +kernel
theorem dX9_leads_19 : decode cX9_leads 19 = .ok (.aload_n 0, 1) := by decide +kernel
theorem dX9_leads_20 : decode cX9_leads 20 = .ok (.getfield 26, 3) := by decide +kernel
theorem dX9_leads_23 : decode cX9_leads 23 = .ok (.iload_n 1, 1) := by decide +kernel
theorem dX9_leads_24 : decode cX9_leads 24 = .ok (.iaload, 1) := by decide +kernel
theorem dX9_leads_25 : decode cX9_leads 25 = .ok (.iload_n 2, 1) := by decide +kernel
theorem dX9_leads_26 : decode cX9_leads 26 = .ok (.if_icmp .ne 22, 3) := by decide +kernel
theorem dX9_leads_29 : decode cX9_leads 29 = .ok (.aload_n 0, 1) := by decide +kernel
theorem dX9_leads_30 : decode cX9_leads 30 = .ok (.getfield 19, 3) := by decide +kernel
theorem dX9_leads_33 : decode cX9_leads 33 = .ok (.iload_n 1, 1) := by decide +kernel
theorem dX9_leads_34 : decode cX9_leads 34 = .ok (.iaload, 1) := by decide +kernel
theorem dX9_leads_35 : decode cX9_leads 35 = .ok (.iconst 5, 1) := by decide +kernel
theorem dX9_leads_36 : decode cX9_leads 36 = .ok (.if_icmp .eq 12, 3) := by decide +kernel
theorem dX9_leads_39 : decode cX9_leads 39 = .ok (.aload_n 0, 1) := by decide +kernel
theorem dX9_leads_40 : decode cX9_leads 40 = .ok (.getfield 23, 3) := by decide +kernel
theorem dX9_leads_43 : decode cX9_leads 43 = .ok (.iload_n 1, 1) := by decide +kernel
theorem dX9_leads_44 : decode cX9_leads 44 = .ok (.iaload, 1) := by decide +kernel
theorem dX9_leads_45 : decode cX9_leads 45 = .ok (.goto 4, 3) := by decide +kernel
theorem dX9_leads_48 : decode cX9_leads 48 = .ok (.iconst (-1), 1) := by decide +kernel
theorem dX9_leads_49 : decode cX9_leads 49 = .ok (.ireturn, 1) := by decide +kernel
theorem dX9_isBeside_0 : decode cX9_isBeside 0 = .ok (.iconst 0, 1) := by decide +kernel
theorem dX9_isBeside_1 : decode cX9_isBeside 1 = .ok (.istore_n 3, 1) := by decide +kernel
theorem dX9_isBeside_2 : decode cX9_isBeside 2 = .ok (.iconst 0, 1) := by decide +kernel
theorem dX9_isBeside_3 : decode cX9_isBeside 3 = .ok (.istore 4, 2) := by decide +kernel
theorem dX9_isBeside_5 : decode cX9_isBeside 5 = .ok (.iload 4, 2) := by decide +kernel
theorem dX9_isBeside_7 : decode cX9_isBeside 7 = .ok (.aload_n 0, 1) := by decide +kernel
theorem dX9_isBeside_8 : decode cX9_isBeside 8 = .ok (.getfield 7, 3) := by decide +kernel
theorem dX9_isBeside_11 : decode cX9_isBeside 11 = .ok (.if_icmp .ge 63, 3) := by decide +kernel
theorem dX9_isBeside_14 : decode cX9_isBeside 14 = .ok (.iload_n 3, 1) := by decide +kernel
theorem dX9_isBeside_15 : decode cX9_isBeside 15 = .ok (.ifCond .ne 47, 3) := by decide +kernel
theorem dX9_isBeside_18 : decode cX9_isBeside 18 = .ok (.aload_n 0, 1) := by decide +kernel
theorem dX9_isBeside_19 : decode cX9_isBeside 19 = .ok (.getfield 23, 3) := by decide +kernel
theorem dX9_isBeside_22 : decode cX9_isBeside 22 = .ok (.iload 4, 2) := by decide +kernel
theorem dX9_isBeside_24 : decode cX9_isBeside 24 = .ok (.iaload, 1) := by decide +kernel
theorem dX9_isBeside_25 : decode cX9_isBeside 25 = .ok (.iload_n 1, 1) := by decide +kernel
theorem dX9_isBeside_26 : decode cX9_isBeside 26 = .ok (.if_icmp .ne 14, 3) := by decide +kernel
theorem dX9_isBeside_29 : decode cX9_isBeside 29 = .ok (.aload_n 0, 1) := by decide +kernel
theorem dX9_isBeside_30 : decode cX9_isBeside 30 = .ok (.getfield 26, 3) := by decide +kernel
theorem dX9_isBeside_33 : decode cX9_isBeside 33 = .ok (.iload 4, 2) := by decide +kernel
theorem dX9_isBeside_35 : decode cX9_isBeside 35 = .ok (.iaload, 1) := by decide +kernel
theorem dX9_isBeside_36 : decode cX9_isBeside 36 = .ok (.iload_n 2, 1) := by decide +kernel
theorem dX9_isBeside_37 : decode cX9_isBeside 37 = .ok (.if_icmp .eq 25, 3) := by decide +kernel
theorem dX9_isBeside_40 : decode cX9_isBeside 40 = .ok (.aload_n 0, 1) := by decide +kernel
theorem dX9_isBeside_41 : decode cX9_isBeside 41 = .ok (.getfield 23, 3) := by decide +kernel
theorem dX9_isBeside_44 : decode cX9_isBeside 44 = .ok (.iload 4, 2) := by decide +kernel
theorem dX9_isBeside_46 : decode cX9_isBeside 46 = .ok (.iaload, 1) := by decide +kernel
theorem dX9_isBeside_47 : decode cX9_isBeside 47 = .ok (.iload_n 2, 1) := by decide +kernel
theorem dX9_isBeside_48 : decode cX9_isBeside 48 = .ok (.if_icmp .ne 18, 3) := by decide +kernel
theorem dX9_isBeside_51 : decode cX9_isBeside 51 = .ok (.aload_n 0, 1) := by decide +kernel
theorem dX9_isBeside_52 : decode cX9_isBeside 52 = .ok (.getfield 26, 3) := by decide +kernel
theorem dX9_isBeside_55 : decode cX9_isBeside 55 = .ok (.iload 4, 2) := by decide +kernel
theorem dX9_isBeside_57 : decode cX9_isBeside 57 = .ok (.iaload, 1) := by decide +kernel
theorem dX9_isBeside_58 : decode cX9_isBeside 58 = .ok (.iload_n 1, 1) := by decide +kernel
theorem dX9_isBeside_59 : decode cX9_isBeside 59 = .ok (.if_icmp .ne 7, 3) := by decide +kernel
theorem dX9_isBeside_62 : decode cX9_isBeside 62 = .ok (.iconst 1, 1) := by decide +kernel
theorem dX9_isBeside_63 : decode cX9_isBeside 63 = .ok (.goto 4, 3) := by decide +kernel
theorem dX9_isBeside_66 : decode cX9_isBeside 66 = .ok (.iconst 0, 1) := by decide +kernel
theorem dX9_isBeside_67 : decode cX9_isBeside 67 = .ok (.istore_n 3, 1) := by decide +kernel
theorem dX9_isBeside_68 : decode cX9_isBeside 68 = .ok (.iinc 4 1, 3) := by decide +kernel
theorem dX9_isBeside_71 : decode cX9_isBeside 71 = .ok (.goto (-66), 3) := by decide +kernel
theorem dX9_isBeside_74 : decode cX9_isBeside 74 = .ok (.iload_n 3, 1) := by decide +kernel
theorem dX9_isBeside_75 : decode cX9_isBeside 75 = .ok (.ireturn, 1) := by decide +kernel
theorem dX9_isOpen_0 : decode cX9_isOpen 0 = .ok (.aload_n 0, 1) := by decide +kernel
theorem dX9_isOpen_1 : decode cX9_isOpen 1 = .ok (.iload_n 1, 1) := by decide +kernel
theorem dX9_isOpen_2 : decode cX9_isOpen 2 = .ok (.invokevirtual 173, 3) := by decide +kernel
theorem dX9_isOpen_5 : decode cX9_isOpen 5 = .ok (.istore_n 3, 1) := by decide +kernel
theorem dX9_isOpen_6 : decode cX9_isOpen 6 = .ok (.iload_n 3, 1) := by decide +kernel
theorem dX9_isOpen_7 : decode cX9_isOpen 7 = .ok (.ifCond .lt 19, 3) := by decide +kernel
theorem dX9_isOpen_10 : decode cX9_isOpen 10 = .ok (.iload_n 3, 1) := by decide +kernel
theorem dX9_isOpen_11 : decode cX9_isOpen 11 = .ok (.ifCond .ne 9, 3) := by decide +kernel
theorem dX9_isOpen_14 : decode cX9_isOpen 14 = .ok (.iload_n 2, 1) := by decide +kernel
theorem dX9_isOpen_15 : decode cX9_isOpen 15 = .ok (.iconst 3, 1) := by decide +kernel
theorem dX9_isOpen_16 : decode cX9_isOpen 16 = .ok (.irem, 1) := by decide +kernel
theorem dX9_isOpen_17 : decode cX9_isOpen 17 = .ok (.goto 6, 3) := by decide +kernel
theorem dX9_isOpen_20 : decode cX9_isOpen 20 = .ok (.iload_n 2, 1) := by decide +kernel
theorem dX9_isOpen_21 : decode cX9_isOpen 21 = .ok (.iconst 3, 1) := by decide +kernel
theorem dX9_isOpen_22 : decode cX9_isOpen 22 = .ok (.idiv, 1) := by decide +kernel
theorem dX9_isOpen_23 : decode cX9_isOpen 23 = .ok (.ifCond .ne 7, 3) := by decide +kernel
theorem dX9_isOpen_26 : decode cX9_isOpen 26 = .ok (.iconst 1, 1) := by decide +kernel
theorem dX9_isOpen_27 : decode cX9_isOpen 27 = .ok (.goto 4, 3) := by decide +kernel
theorem dX9_isOpen_30 : decode cX9_isOpen 30 = .ok (.iconst 0, 1) := by decide +kernel
theorem dX9_isOpen_31 : decode cX9_isOpen 31 = .ok (.ireturn, 1) := by decide +kernel
theorem dX9_shutBehind_0 : decode cX9_shutBehind 0 = .ok (.iload_n 1, 1) := by decide +kernel
theorem dX9_shutBehind_1 : decode cX9_shutBehind 1 = .ok (.iconst 3, 1) := by decide +kernel
theorem dX9_shutBehind_2 : decode cX9_shutBehind 2 = .ok (.irem, 1) := by decide +kernel
theorem dX9_shutBehind_3 : decode cX9_shutBehind 3 = .ok (.ifCond .le 11, 3) := by decide +kernel
theorem dX9_shutBehind_6 : decode cX9_shutBehind 6 = .ok (.iload_n 1, 1) := by decide +kernel
theorem dX9_shutBehind_7 : decode cX9_shutBehind 7 = .ok (.iconst 3, 1) := by decide +kernel
theorem dX9_shutBehind_8 : decode cX9_shutBehind 8 = .ok (.irem, 1) := by decide +kernel
theorem dX9_shutBehind_9 : decode cX9_shutBehind 9 = .ok (.iconst 1, 1) := by decide +kernel
theorem dX9_shutBehind_10 : decode cX9_shutBehind 10 = .ok (.isub, 1) := by decide +kernel
theorem dX9_shutBehind_11 : decode cX9_shutBehind 11 = .ok (.goto 4, 3) := by decide +kernel
theorem dX9_shutBehind_14 : decode cX9_shutBehind 14 = .ok (.iconst 0, 1) := by decide +kernel
theorem dX9_shutBehind_15 : decode cX9_shutBehind 15 = .ok (.istore_n 3, 1) := by decide +kernel
theorem dX9_shutBehind_16 : decode cX9_shutBehind 16 = .ok (.iload_n 1, 1) := by decide +kernel
theorem dX9_shutBehind_17 : decode cX9_shutBehind 17 = .ok (.iconst 3, 1) := by decide +kernel
theorem dX9_shutBehind_18 : decode cX9_shutBehind 18 = .ok (.idiv, 1) := by decide +kernel
theorem dX9_shutBehind_19 : decode cX9_shutBehind 19 = .ok (.ifCond .le 11, 3) := by decide +kernel
theorem dX9_shutBehind_22 : decode cX9_shutBehind 22 = .ok (.iload_n 1, 1) := by decide +kernel
theorem dX9_shutBehind_23 : decode cX9_shutBehind 23 = .ok (.iconst 3, 1) := by decide +kernel
theorem dX9_shutBehind_24 : decode cX9_shutBehind 24 = .ok (.idiv, 1) := by decide +kernel
theorem dX9_shutBehind_25 : decode cX9_shutBehind 25 = .ok (.iconst 1, 1) := by decide +kernel
theorem dX9_shutBehind_26 : decode cX9_shutBehind 26 = .ok (.isub, 1) := by decide +kernel
theorem dX9_shutBehind_27 : decode cX9_shutBehind 27 = .ok (.goto 4, 3) := by decide +kernel
theorem dX9_shutBehind_30 : decode cX9_shutBehind 30 = .ok (.iconst 0, 1) := by decide +kernel
theorem dX9_shutBehind_31 : decode cX9_shutBehind 31 = .ok (.istore 4, 2) := by decide +kernel
theorem dX9_shutBehind_33 : decode cX9_shutBehind 33 = .ok (.iload_n 2, 1) := by decide +kernel
theorem dX9_shutBehind_34 : decode cX9_shutBehind 34 = .ok (.ifCond .ge 7, 3) := by decide +kernel
theorem dX9_shutBehind_37 : decode cX9_shutBehind 37 = .ok (.iconst (-1), 1) := by decide +kernel
theorem dX9_shutBehind_38 : decode cX9_shutBehind 38 = .ok (.goto 8, 3) := by decide +kernel
theorem dX9_shutBehind_41 : decode cX9_shutBehind 41 = .ok (.aload_n 0, 1) := by decide +kernel
theorem dX9_shutBehind_42 : decode cX9_shutBehind 42 = .ok (.iload_n 2, 1) := by decide +kernel
theorem dX9_shutBehind_43 : decode cX9_shutBehind 43 = .ok (.invokevirtual 173, 3) := by decide +kernel
theorem dX9_shutBehind_46 : decode cX9_shutBehind 46 = .ok (.istore 5, 2) := by decide +kernel
theorem dX9_shutBehind_48 : decode cX9_shutBehind 48 = .ok (.iload 5, 2) := by decide +kernel
theorem dX9_shutBehind_50 : decode cX9_shutBehind 50 = .ok (.ifCond .ne 14, 3) := by decide +kernel
theorem dX9_shutBehind_53 : decode cX9_shutBehind 53 = .ok (.aload_n 0, 1) := by decide +kernel
theorem dX9_shutBehind_54 : decode cX9_shutBehind 54 = .ok (.aload_n 0, 1) := by decide +kernel
theorem dX9_shutBehind_55 : decode cX9_shutBehind 55 = .ok (.getfield 19, 3) := by decide +kernel
theorem dX9_shutBehind_58 : decode cX9_shutBehind 58 = .ok (.iload_n 2, 1) := by decide +kernel
theorem dX9_shutBehind_59 : decode cX9_shutBehind 59 = .ok (.iaload, 1) := by decide +kernel
theorem dX9_shutBehind_60 : decode cX9_shutBehind 60 = .ok (.invokevirtual 177, 3) := by decide +kernel
theorem dX9_shutBehind_63 : decode cX9_shutBehind 63 = .ok (.istore_n 3, 1) := by decide +kernel
theorem dX9_shutBehind_64 : decode cX9_shutBehind 64 = .ok (.iload 5, 2) := by decide +kernel
theorem dX9_shutBehind_66 : decode cX9_shutBehind 66 = .ok (.iconst 1, 1) := by decide +kernel
theorem dX9_shutBehind_67 : decode cX9_shutBehind 67 = .ok (.if_icmp .ne 15, 3) := by decide +kernel
theorem dX9_shutBehind_70 : decode cX9_shutBehind 70 = .ok (.aload_n 0, 1) := by decide +kernel
theorem dX9_shutBehind_71 : decode cX9_shutBehind 71 = .ok (.aload_n 0, 1) := by decide +kernel
theorem dX9_shutBehind_72 : decode cX9_shutBehind 72 = .ok (.getfield 19, 3) := by decide +kernel
theorem dX9_shutBehind_75 : decode cX9_shutBehind 75 = .ok (.iload_n 2, 1) := by decide +kernel
theorem dX9_shutBehind_76 : decode cX9_shutBehind 76 = .ok (.iaload, 1) := by decide +kernel
theorem dX9_shutBehind_77 : decode cX9_shutBehind 77 = .ok (.invokevirtual 177, 3) := by decide +kernel
theorem dX9_shutBehind_80 : decode cX9_shutBehind 80 = .ok (.istore 4, 2) := by decide +kernel
theorem dX9_shutBehind_82 : decode cX9_shutBehind 82 = .ok (.iconst 3, 1) := by decide +kernel
theorem dX9_shutBehind_83 : decode cX9_shutBehind 83 = .ok (.iload 4, 2) := by decide +kernel
theorem dX9_shutBehind_85 : decode cX9_shutBehind 85 = .ok (.imul, 1) := by decide +kernel
theorem dX9_shutBehind_86 : decode cX9_shutBehind 86 = .ok (.iload_n 3, 1) := by decide +kernel
theorem dX9_shutBehind_87 : decode cX9_shutBehind 87 = .ok (.iadd, 1) := by decide +kernel
theorem dX9_shutBehind_88 : decode cX9_shutBehind 88 = .ok (.ireturn, 1) := by decide +kernel
theorem dX9_sorted_0 : decode cX9_sorted 0 = .ok (.iload_n 1, 1) := by decide +kernel
theorem dX9_sorted_1 : decode cX9_sorted 1 = .ok (.iload_n 2, 1) := by decide +kernel
theorem dX9_sorted_2 : decode cX9_sorted 2 = .ok (.if_icmp .ge 17, 3) := by decide +kernel
theorem dX9_sorted_5 : decode cX9_sorted 5 = .ok (.aload_n 0, 1) := by decide +kernel
theorem dX9_sorted_6 : decode cX9_sorted 6 = .ok (.iload_n 1, 1) := by decide +kernel
theorem dX9_sorted_7 : decode cX9_sorted 7 = .ok (.iload_n 2, 1) := by decide +kernel
theorem dX9_sorted_8 : decode cX9_sorted 8 = .ok (.iload_n 3, 1) := by decide +kernel
theorem dX9_sorted_9 : decode cX9_sorted 9 = .ok (.iload 4, 2) := by decide +kernel
theorem dX9_sorted_11 : decode cX9_sorted 11 = .ok (.iload 5, 2) := by decide +kernel
theorem dX9_sorted_13 : decode cX9_sorted 13 = .ok (.invokevirtual 180, 3) := by decide +kernel
theorem dX9_sorted_16 : decode cX9_sorted 16 = .ok (.goto 14, 3) := by decide +kernel
theorem dX9_sorted_19 : decode cX9_sorted 19 = .ok (.aload_n 0, 1) := by decide +kernel
theorem dX9_sorted_20 : decode cX9_sorted 20 = .ok (.iload_n 2, 1) := by decide +kernel
theorem dX9_sorted_21 : decode cX9_sorted 21 = .ok (.iload_n 1, 1) := by decide +kernel
theorem dX9_sorted_22 : decode cX9_sorted 22 = .ok (.iload_n 3, 1) := by decide +kernel
theorem dX9_sorted_23 : decode cX9_sorted 23 = .ok (.iload 4, 2) := by decide +kernel
theorem dX9_sorted_25 : decode cX9_sorted 25 = .ok (.iload 5, 2) := by decide +kernel
theorem dX9_sorted_27 : decode cX9_sorted 27 = .ok (.invokevirtual 180, 3) := by decide +kernel
theorem dX9_sorted_30 : decode cX9_sorted 30 = .ok (.ireturn, 1) := by decide +kernel
theorem dX9_mayRun_0 : decode cX9_mayRun 0 = .ok (.aload_n 0, 1) := by decide +kernel
theorem dX9_mayRun_1 : decode cX9_mayRun 1 = .ok (.iload_n 1, 1) := by decide +kernel
theorem dX9_mayRun_2 : decode cX9_mayRun 2 = .ok (.iload_n 2, 1) := by decide +kernel
theorem dX9_mayRun_3 : decode cX9_mayRun 3 = .ok (.invokevirtual 184, 3) := by decide +kernel
theorem dX9_mayRun_6 : decode cX9_mayRun 6 = .ok (.ifCond .lt 23, 3) := by decide +kernel
theorem dX9_mayRun_9 : decode cX9_mayRun 9 = .ok (.aload_n 0, 1) := by decide +kernel
theorem dX9_mayRun_10 : decode cX9_mayRun 10 = .ok (.getfield 19, 3) := by decide +kernel
theorem dX9_mayRun_13 : decode cX9_mayRun 13 = .ok (.iload_n 1, 1) := by decide +kernel
theorem dX9_mayRun_14 : decode cX9_mayRun 14 = .ok (.iaload, 1) := by decide +kernel
theorem dX9_mayRun_15 : decode cX9_mayRun 15 = .ok (.iconst 3, 1) := by decide +kernel
theorem dX9_mayRun_16 : decode cX9_mayRun 16 = .ok (.if_icmp .eq 13, 3) := by decide +kernel
theorem dX9_mayRun_19 : decode cX9_mayRun 19 = .ok (.aload_n 0, 1) := by decide +kernel
theorem dX9_mayRun_20 : decode cX9_mayRun 20 = .ok (.iload_n 1, 1) := by decide +kernel
theorem dX9_mayRun_21 : decode cX9_mayRun 21 = .ok (.iload 5, 2) := by decide +kernel
theorem dX9_mayRun_23 : decode cX9_mayRun 23 = .ok (.invokevirtual 188, 3) := by decide +kernel
theorem dX9_mayRun_26 : decode cX9_mayRun 26 = .ok (.ifCond .ne 5, 3) := by decide +kernel
theorem dX9_mayRun_29 : decode cX9_mayRun 29 = .ok (.iconst 0, 1) := by decide +kernel
theorem dX9_mayRun_30 : decode cX9_mayRun 30 = .ok (.ireturn, 1) := by decide +kernel
theorem dX9_mayRun_31 : decode cX9_mayRun 31 = .ok (.aload_n 0, 1) := by decide +kernel
theorem dX9_mayRun_32 : decode cX9_mayRun 32 = .ok (.getfield 19, 3) := by decide +kernel
theorem dX9_mayRun_35 : decode cX9_mayRun 35 = .ok (.iload_n 1, 1) := by decide +kernel
theorem dX9_mayRun_36 : decode cX9_mayRun 36 = .ok (.iaload, 1) := by decide +kernel
theorem dX9_mayRun_37 : decode cX9_mayRun 37 = .ok (.iconst 4, 1) := by decide +kernel
theorem dX9_mayRun_38 : decode cX9_mayRun 38 = .ok (.if_icmp .ne 22, 3) := by decide +kernel
theorem dX9_mayRun_41 : decode cX9_mayRun 41 = .ok (.aload_n 0, 1) := by decide +kernel
theorem dX9_mayRun_42 : decode cX9_mayRun 42 = .ok (.iload_n 3, 1) := by decide +kernel
theorem dX9_mayRun_43 : decode cX9_mayRun 43 = .ok (.iload_n 2, 1) := by decide +kernel
theorem dX9_mayRun_44 : decode cX9_mayRun 44 = .ok (.invokevirtual 192, 3) := by decide +kernel
theorem dX9_mayRun_47 : decode cX9_mayRun 47 = .ok (.ifCond .ne 17, 3) := by decide +kernel
theorem dX9_mayRun_50 : decode cX9_mayRun 50 = .ok (.aload_n 0, 1) := by decide +kernel
theorem dX9_mayRun_51 : decode cX9_mayRun 51 = .ok (.iload 4, 2) := by decide +kernel
theorem dX9_mayRun_53 : decode cX9_mayRun 53 = .ok (.iload_n 2, 1) := by decide +kernel
theorem dX9_mayRun_54 : decode cX9_mayRun 54 = .ok (.invokevirtual 192, 3) := by decide +kernel
theorem dX9_mayRun_57 : decode cX9_mayRun 57 = .ok (.ifCond .ne 7, 3) := by decide +kernel
theorem dX9_mayRun_60 : decode cX9_mayRun 60 = .ok (.iconst 1, 1) := by decide +kernel
theorem dX9_mayRun_61 : decode cX9_mayRun 61 = .ok (.goto 4, 3) := by decide +kernel
theorem dX9_mayRun_64 : decode cX9_mayRun 64 = .ok (.iconst 0, 1) := by decide +kernel
theorem dX9_mayRun_65 : decode cX9_mayRun 65 = .ok (.ireturn, 1) := by decide +kernel
theorem dX9_behind_0 : decode cX9_behind 0 = .ok (.aload_n 0, 1) := by decide +kernel
theorem dX9_behind_1 : decode cX9_behind 1 = .ok (.iload_n 1, 1) := by decide +kernel
theorem dX9_behind_2 : decode cX9_behind 2 = .ok (.invokevirtual 195, 3) := by decide +kernel
theorem dX9_behind_5 : decode cX9_behind 5 = .ok (.istore_n 3, 1) := by decide +kernel
theorem dX9_behind_6 : decode cX9_behind 6 = .ok (.aload_n 0, 1) := by decide +kernel
theorem dX9_behind_7 : decode cX9_behind 7 = .ok (.iload_n 1, 1) := by decide +kernel
theorem dX9_behind_8 : decode cX9_behind 8 = .ok (.invokevirtual 198, 3) := by decide +kernel
theorem dX9_behind_11 : decode cX9_behind 11 = .ok (.istore 4, 2) := by decide +kernel
theorem dX9_behind_13 : decode cX9_behind 13 = .ok (.aload_n 0, 1) := by decide +kernel
theorem dX9_behind_14 : decode cX9_behind 14 = .ok (.iload_n 1, 1) := by decide +kernel
theorem dX9_behind_15 : decode cX9_behind 15 = .ok (.invokevirtual 201, 3) := by decide +kernel
theorem dX9_behind_18 : decode cX9_behind 18 = .ok (.istore 5, 2) := by decide +kernel
theorem dX9_behind_20 : decode cX9_behind 20 = .ok (.aload_n 0, 1) := by decide +kernel
theorem dX9_behind_21 : decode cX9_behind 21 = .ok (.iload_n 1, 1) := by decide +kernel
theorem dX9_behind_22 : decode cX9_behind 22 = .ok (.invokevirtual 204, 3) := by decide +kernel
theorem dX9_behind_25 : decode cX9_behind 25 = .ok (.istore 6, 2) := by decide +kernel
theorem dX9_behind_27 : decode cX9_behind 27 = .ok (.aload_n 0, 1) := by decide +kernel
theorem dX9_behind_28 : decode cX9_behind 28 = .ok (.iload_n 1, 1) := by decide +kernel
theorem dX9_behind_29 : decode cX9_behind 29 = .ok (.invokevirtual 207, 3) := by decide +kernel
theorem dX9_behind_32 : decode cX9_behind 32 = .ok (.iconst 1, 1) := by decide +kernel
theorem dX9_behind_33 : decode cX9_behind 33 = .ok (.if_icmp .ne 93, 3) := by decide +kernel
theorem dX9_behind_36 : decode cX9_behind 36 = .ok (.iload_n 2, 1) := by decide +kernel
theorem dX9_behind_37 : decode cX9_behind 37 = .ok (.ifCond .ne 35, 3) := by decide +kernel
theorem dX9_behind_40 : decode cX9_behind 40 = .ok (.aload_n 0, 1) := by decide +kernel
theorem dX9_behind_41 : decode cX9_behind 41 = .ok (.getfield 29, 3) := by decide +kernel
theorem dX9_behind_44 : decode cX9_behind 44 = .ok (.iload 5, 2) := by decide +kernel
theorem dX9_behind_46 : decode cX9_behind 46 = .ok (.baload, 1) := by decide +kernel
theorem dX9_behind_47 : decode cX9_behind 47 = .ok (.ifCond .eq 23, 3) := by decide +kernel
theorem dX9_behind_50 : decode cX9_behind 50 = .ok (.aload_n 0, 1) := by decide +kernel
theorem dX9_behind_51 : decode cX9_behind 51 = .ok (.iload_n 3, 1) := by decide +kernel
theorem dX9_behind_52 : decode cX9_behind 52 = .ok (.iload 4, 2) := by decide +kernel
theorem dX9_behind_54 : decode cX9_behind 54 = .ok (.iload 5, 2) := by decide +kernel
theorem dX9_behind_56 : decode cX9_behind 56 = .ok (.iconst 0, 1) := by decide +kernel
theorem dX9_behind_57 : decode cX9_behind 57 = .ok (.aload_n 0, 1) := by decide +kernel
theorem dX9_behind_58 : decode cX9_behind 58 = .ok (.iload 6, 2) := by decide +kernel
theorem dX9_behind_60 : decode cX9_behind 60 = .ok (.iconst (-1), 1) := by decide +kernel
theorem dX9_behind_61 : decode cX9_behind 61 = .ok (.invokevirtual 210, 3) := by decide +kernel
theorem dX9_behind_64 : decode cX9_behind 64 = .ok (.invokevirtual 180, 3) := by decide +kernel
theorem dX9_behind_67 : decode cX9_behind 67 = .ok (.goto 4, 3) := by decide +kernel
theorem dX9_behind_70 : decode cX9_behind 70 = .ok (.iconst (-1), 1) := by decide +kernel
theorem dX9_behind_71 : decode cX9_behind 71 = .ok (.ireturn, 1) := by decide +kernel
theorem dX9_behind_72 : decode cX9_behind 72 = .ok (.iload_n 2, 1) := by decide +kernel
theorem dX9_behind_73 : decode cX9_behind 73 = .ok (.aload_n 0, 1) := by decide +kernel
theorem dX9_behind_74 : decode cX9_behind 74 = .ok (.getfield 7, 3) := by decide +kernel
theorem dX9_behind_77 : decode cX9_behind 77 = .ok (.if_icmp .gt 20, 3) := by decide +kernel
theorem dX9_behind_80 : decode cX9_behind 80 = .ok (.aload_n 0, 1) := by decide +kernel
theorem dX9_behind_81 : decode cX9_behind 81 = .ok (.iload_n 2, 1) := by decide +kernel
theorem dX9_behind_82 : decode cX9_behind 82 = .ok (.iconst 1, 1) := by decide +kernel
theorem dX9_behind_83 : decode cX9_behind 83 = .ok (.isub, 1) := by decide +kernel
theorem dX9_behind_84 : decode cX9_behind 84 = .ok (.iload 5, 2) := by decide +kernel
theorem dX9_behind_86 : decode cX9_behind 86 = .ok (.iload_n 3, 1) := by decide +kernel
theorem dX9_behind_87 : decode cX9_behind 87 = .ok (.iload 4, 2) := by decide +kernel
theorem dX9_behind_89 : decode cX9_behind 89 = .ok (.iload 6, 2) := by decide +kernel
theorem dX9_behind_91 : decode cX9_behind 91 = .ok (.invokevirtual 213, 3) := by decide +kernel
theorem dX9_behind_94 : decode cX9_behind 94 = .ok (.ifCond .ne 5, 3) := by decide +kernel
theorem dX9_behind_97 : decode cX9_behind 97 = .ok (.iconst (-1), 1) := by decide +kernel
theorem dX9_behind_98 : decode cX9_behind 98 = .ok (.ireturn, 1) := by decide +kernel
theorem dX9_behind_99 : decode cX9_behind 99 = .ok (.aload_n 0, 1) := by decide +kernel
theorem dX9_behind_100 : decode cX9_behind 100 = .ok (.iload_n 3, 1) := by decide +kernel
theorem dX9_behind_101 : decode cX9_behind 101 = .ok (.iload 4, 2) := by decide +kernel
theorem dX9_behind_103 : decode cX9_behind 103 = .ok (.aload_n 0, 1) := by decide +kernel
theorem dX9_behind_104 : decode cX9_behind 104 = .ok (.iload_n 2, 1) := by decide +kernel
theorem dX9_behind_105 : decode cX9_behind 105 = .ok (.iconst 1, 1) := by decide +kernel
theorem dX9_behind_106 : decode cX9_behind 106 = .ok (.isub, 1) := by decide +kernel
theorem dX9_behind_107 : decode cX9_behind 107 = .ok (.iload 5, 2) := by decide +kernel
theorem dX9_behind_109 : decode cX9_behind 109 = .ok (.invokevirtual 184, 3) := by decide +kernel
theorem dX9_behind_112 : decode cX9_behind 112 = .ok (.iconst 0, 1) := by decide +kernel
theorem dX9_behind_113 : decode cX9_behind 113 = .ok (.aload_n 0, 1) := by decide +kernel
theorem dX9_behind_114 : decode cX9_behind 114 = .ok (.iload 6, 2) := by decide +kernel
theorem dX9_behind_116 : decode cX9_behind 116 = .ok (.iload_n 2, 1) := by decide +kernel
theorem dX9_behind_117 : decode cX9_behind 117 = .ok (.iconst 1, 1) := by decide +kernel
theorem dX9_behind_118 : decode cX9_behind 118 = .ok (.isub, 1) := by decide +kernel
theorem dX9_behind_119 : decode cX9_behind 119 = .ok (.invokevirtual 210, 3) := by decide +kernel
theorem dX9_behind_122 : decode cX9_behind 122 = .ok (.invokevirtual 180, 3) := by decide +kernel
theorem dX9_behind_125 : decode cX9_behind 125 = .ok (.ireturn, 1) := by decide +kernel
theorem dX9_behind_126 : decode cX9_behind 126 = .ok (.iload_n 2, 1) := by decide +kernel
theorem dX9_behind_127 : decode cX9_behind 127 = .ok (.ifCond .ne 21, 3) := by decide +kernel
theorem dX9_behind_130 : decode cX9_behind 130 = .ok (.aload_n 0, 1) := by decide +kernel
theorem dX9_behind_131 : decode cX9_behind 131 = .ok (.iload_n 3, 1) := by decide +kernel
theorem dX9_behind_132 : decode cX9_behind 132 = .ok (.iload 4, 2) := by decide +kernel
theorem dX9_behind_134 : decode cX9_behind 134 = .ok (.iload 5, 2) := by decide +kernel
theorem dX9_behind_136 : decode cX9_behind 136 = .ok (.iconst 1, 1) := by decide +kernel
theorem dX9_behind_137 : decode cX9_behind 137 = .ok (.aload_n 0, 1) := by decide +kernel
theorem dX9_behind_138 : decode cX9_behind 138 = .ok (.iload 6, 2) := by decide +kernel
theorem dX9_behind_140 : decode cX9_behind 140 = .ok (.iconst (-1), 1) := by decide +kernel
theorem dX9_behind_141 : decode cX9_behind 141 = .ok (.invokevirtual 210, 3) := by decide +kernel
theorem dX9_behind_144 : decode cX9_behind 144 = .ok (.invokevirtual 180, 3) := by decide +kernel
theorem dX9_behind_147 : decode cX9_behind 147 = .ok (.ireturn, 1) := by decide +kernel
theorem dX9_behind_148 : decode cX9_behind 148 = .ok (.iload_n 2, 1) := by decide +kernel
theorem dX9_behind_149 : decode cX9_behind 149 = .ok (.bipush 16, 2) := by decide +kernel
theorem dX9_behind_151 : decode cX9_behind 151 = .ok (.if_icmp .le 10, 3) := by decide +kernel
theorem dX9_behind_154 : decode cX9_behind 154 = .ok (.iload_n 2, 1) := by decide +kernel
theorem dX9_behind_155 : decode cX9_behind 155 = .ok (.bipush 17, 2) := by decide +kernel
theorem dX9_behind_157 : decode cX9_behind 157 = .ok (.isub, 1) := by decide +kernel
theorem dX9_behind_158 : decode cX9_behind 158 = .ok (.goto 6, 3) := by decide +kernel
theorem dX9_behind_161 : decode cX9_behind 161 = .ok (.iload_n 2, 1) := by decide +kernel
theorem dX9_behind_162 : decode cX9_behind 162 = .ok (.iconst 1, 1) := by decide +kernel
theorem dX9_behind_163 : decode cX9_behind 163 = .ok (.isub, 1) := by decide +kernel
theorem dX9_behind_164 : decode cX9_behind 164 = .ok (.istore 7, 2) := by decide +kernel
theorem dX9_behind_166 : decode cX9_behind 166 = .ok (.iload 7, 2) := by decide +kernel
theorem dX9_behind_168 : decode cX9_behind 168 = .ok (.aload_n 0, 1) := by decide +kernel
theorem dX9_behind_169 : decode cX9_behind 169 = .ok (.getfield 7, 3) := by decide +kernel
theorem dX9_behind_172 : decode cX9_behind 172 = .ok (.if_icmp .ge 23, 3) := by decide +kernel
theorem dX9_behind_175 : decode cX9_behind 175 = .ok (.iload_n 2, 1) := by decide +kernel
theorem dX9_behind_176 : decode cX9_behind 176 = .ok (.bipush 16, 2) := by decide +kernel
theorem dX9_behind_178 : decode cX9_behind 178 = .ok (.if_icmp .le 19, 3) := by decide +kernel
theorem dX9_behind_181 : decode cX9_behind 181 = .ok (.aload_n 0, 1) := by decide +kernel
theorem dX9_behind_182 : decode cX9_behind 182 = .ok (.getfield 13, 3) := by decide +kernel
theorem dX9_behind_185 : decode cX9_behind 185 = .ok (.iconst 1, 1) := by decide +kernel
theorem dX9_behind_186 : decode cX9_behind 186 = .ok (.if_icmp .eq 9, 3) := by decide +kernel
theorem dX9_behind_189 : decode cX9_behind 189 = .ok (.iload_n 3, 1) := by decide +kernel
theorem dX9_behind_190 : decode cX9_behind 190 = .ok (.iload 4, 2) := by decide +kernel
theorem dX9_behind_192 : decode cX9_behind 192 = .ok (.if_icmp .ne 5, 3) := by decide +kernel
theorem dX9_behind_195 : decode cX9_behind 195 = .ok (.iconst (-1), 1) := by decide +kernel
theorem dX9_behind_196 : decode cX9_behind 196 = .ok (.ireturn, 1) := by decide +kernel
theorem dX9_behind_197 : decode cX9_behind 197 = .ok (.aload_n 0, 1) := by decide +kernel
theorem dX9_behind_198 : decode cX9_behind 198 = .ok (.iload 7, 2) := by decide +kernel
theorem dX9_behind_200 : decode cX9_behind 200 = .ok (.iload_n 2, 1) := by decide +kernel
theorem dX9_behind_201 : decode cX9_behind 201 = .ok (.bipush 16, 2) := by decide +kernel
theorem dX9_behind_203 : decode cX9_behind 203 = .ok (.if_icmp .le 8, 3) := by decide +kernel
theorem dX9_behind_206 : decode cX9_behind 206 = .ok (.iload 4, 2) := by decide +kernel
theorem dX9_behind_208 : decode cX9_behind 208 = .ok (.goto 4, 3) := by decide +kernel
theorem dX9_behind_211 : decode cX9_behind 211 = .ok (.iload_n 3, 1) := by decide +kernel
theorem dX9_behind_212 : decode cX9_behind 212 = .ok (.invokevirtual 184, 3) := by decide +kernel
theorem dX9_behind_215 : decode cX9_behind 215 = .ok (.istore 8, 2) := by decide +kernel
theorem dX9_behind_217 : decode cX9_behind 217 = .ok (.iload 8, 2) := by decide +kernel
theorem dX9_behind_219 : decode cX9_behind 219 = .ok (.ifCond .lt 36, 3) := by decide +kernel
theorem dX9_behind_222 : decode cX9_behind 222 = .ok (.aload_n 0, 1) := by decide +kernel
theorem dX9_behind_223 : decode cX9_behind 223 = .ok (.getfield 19, 3) := by decide +kernel
theorem dX9_behind_226 : decode cX9_behind 226 = .ok (.iload 7, 2) := by decide +kernel
theorem dX9_behind_228 : decode cX9_behind 228 = .ok (.iaload, 1) := by decide +kernel
theorem dX9_behind_229 : decode cX9_behind 229 = .ok (.iconst 1, 1) := by decide +kernel
theorem dX9_behind_230 : decode cX9_behind 230 = .ok (.if_icmp .eq 25, 3) := by decide +kernel
theorem dX9_behind_233 : decode cX9_behind 233 = .ok (.aload_n 0, 1) := by decide +kernel
theorem dX9_behind_234 : decode cX9_behind 234 = .ok (.getfield 19, 3) := by decide +kernel
theorem dX9_behind_237 : decode cX9_behind 237 = .ok (.iload 7, 2) := by decide +kernel
theorem dX9_behind_239 : decode cX9_behind 239 = .ok (.iaload, 1) := by decide +kernel
theorem dX9_behind_240 : decode cX9_behind 240 = .ok (.iconst 4, 1) := by decide +kernel
theorem dX9_behind_241 : decode cX9_behind 241 = .ok (.if_icmp .eq 14, 3) := by decide +kernel
theorem dX9_behind_244 : decode cX9_behind 244 = .ok (.aload_n 0, 1) := by decide +kernel
theorem dX9_behind_245 : decode cX9_behind 245 = .ok (.iload 7, 2) := by decide +kernel
theorem dX9_behind_247 : decode cX9_behind 247 = .ok (.iload 6, 2) := by decide +kernel
theorem dX9_behind_249 : decode cX9_behind 249 = .ok (.invokevirtual 188, 3) := by decide +kernel
theorem dX9_behind_252 : decode cX9_behind 252 = .ok (.ifCond .ne 5, 3) := by decide +kernel
theorem dX9_behind_255 : decode cX9_behind 255 = .ok (.iconst (-1), 1) := by decide +kernel
theorem dX9_behind_256 : decode cX9_behind 256 = .ok (.ireturn, 1) := by decide +kernel
theorem dX9_behind_257 : decode cX9_behind 257 = .ok (.aload_n 0, 1) := by decide +kernel
theorem dX9_behind_258 : decode cX9_behind 258 = .ok (.iload 6, 2) := by decide +kernel
theorem dX9_behind_260 : decode cX9_behind 260 = .ok (.iload 7, 2) := by decide +kernel
theorem dX9_behind_262 : decode cX9_behind 262 = .ok (.invokevirtual 210, 3) := by decide +kernel
theorem dX9_behind_265 : decode cX9_behind 265 = .ok (.istore 9, 2) := by decide +kernel
theorem dX9_behind_267 : decode cX9_behind 267 = .ok (.aload_n 0, 1) := by decide +kernel
theorem dX9_behind_268 : decode cX9_behind 268 = .ok (.getfield 13, 3) := by decide +kernel
theorem dX9_behind_271 : decode cX9_behind 271 = .ok (.iconst 1, 1) := by decide +kernel
theorem dX9_behind_272 : decode cX9_behind 272 = .ok (.if_icmp .ne 19, 3) := by decide +kernel
theorem dX9_behind_275 : decode cX9_behind 275 = .ok (.aload_n 0, 1) := by decide +kernel
theorem dX9_behind_276 : decode cX9_behind 276 = .ok (.iload 8, 2) := by decide +kernel
theorem dX9_behind_278 : decode cX9_behind 278 = .ok (.iload 8, 2) := by decide +kernel
theorem dX9_behind_280 : decode cX9_behind 280 = .ok (.iload 5, 2) := by decide +kernel
theorem dX9_behind_282 : decode cX9_behind 282 = .ok (.iconst 1, 1) := by decide +kernel
theorem dX9_behind_283 : decode cX9_behind 283 = .ok (.iload 9, 2) := by decide +kernel
theorem dX9_behind_285 : decode cX9_behind 285 = .ok (.invokevirtual 180, 3) := by decide +kernel
theorem dX9_behind_288 : decode cX9_behind 288 = .ok (.goto 37, 3) := by decide +kernel
theorem dX9_behind_291 : decode cX9_behind 291 = .ok (.iload_n 2, 1) := by decide +kernel
theorem dX9_behind_292 : decode cX9_behind 292 = .ok (.bipush 16, 2) := by decide +kernel
theorem dX9_behind_294 : decode cX9_behind 294 = .ok (.if_icmp .le 18, 3) := by decide +kernel
theorem dX9_behind_297 : decode cX9_behind 297 = .ok (.aload_n 0, 1) := by decide +kernel
theorem dX9_behind_298 : decode cX9_behind 298 = .ok (.iload_n 3, 1) := by decide +kernel
theorem dX9_behind_299 : decode cX9_behind 299 = .ok (.iload 8, 2) := by decide +kernel
theorem dX9_behind_301 : decode cX9_behind 301 = .ok (.iload 5, 2) := by decide +kernel
theorem dX9_behind_303 : decode cX9_behind 303 = .ok (.iconst 1, 1) := by decide +kernel
theorem dX9_behind_304 : decode cX9_behind 304 = .ok (.iload 9, 2) := by decide +kernel
theorem dX9_behind_306 : decode cX9_behind 306 = .ok (.invokevirtual 217, 3) := by decide +kernel
theorem dX9_behind_309 : decode cX9_behind 309 = .ok (.goto 16, 3) := by decide +kernel
theorem dX9_behind_312 : decode cX9_behind 312 = .ok (.aload_n 0, 1) := by decide +kernel
theorem dX9_behind_313 : decode cX9_behind 313 = .ok (.iload 8, 2) := by decide +kernel
theorem dX9_behind_315 : decode cX9_behind 315 = .ok (.iload 4, 2) := by decide +kernel
theorem dX9_behind_317 : decode cX9_behind 317 = .ok (.iload 5, 2) := by decide +kernel
theorem dX9_behind_319 : decode cX9_behind 319 = .ok (.iconst 1, 1) := by decide +kernel
theorem dX9_behind_320 : decode cX9_behind 320 = .ok (.iload 9, 2) := by decide +kernel
theorem dX9_behind_322 : decode cX9_behind 322 = .ok (.invokevirtual 217, 3) := by decide +kernel
theorem dX9_behind_325 : decode cX9_behind 325 = .ok (.ireturn, 1) := by decide +kernel
theorem dX9_movesOf_0 : decode cX9_movesOf 0 = .ok (.iconst 0, 1) := by decide +kernel
theorem dX9_movesOf_1 : decode cX9_movesOf 1 = .ok (.istore_n 2, 1) := by decide +kernel
theorem dX9_movesOf_2 : decode cX9_movesOf 2 = .ok (.iconst 0, 1) := by decide +kernel
theorem dX9_movesOf_3 : decode cX9_movesOf 3 = .ok (.istore_n 3, 1) := by decide +kernel
theorem dX9_movesOf_4 : decode cX9_movesOf 4 = .ok (.iload_n 3, 1) := by decide +kernel
theorem dX9_movesOf_5 : decode cX9_movesOf 5 = .ok (.bipush 32, 2) := by decide +kernel
theorem dX9_movesOf_7 : decode cX9_movesOf 7 = .ok (.if_icmp .gt 40, 3) := by decide +kernel
theorem dX9_movesOf_10 : decode cX9_movesOf 10 = .ok (.iload_n 2, 1) := by decide +kernel
theorem dX9_movesOf_11 : decode cX9_movesOf 11 = .ok (.iload_n 3, 1) := by decide +kernel
theorem dX9_movesOf_12 : decode cX9_movesOf 12 = .ok (.bipush 16, 2) := by decide +kernel
theorem dX9_movesOf_14 : decode cX9_movesOf 14 = .ok (.if_icmp .le 11, 3) := by decide +kernel
theorem dX9_movesOf_17 : decode cX9_movesOf 17 = .ok (.aload_n 0, 1) := by decide +kernel
theorem dX9_movesOf_18 : decode cX9_movesOf 18 = .ok (.iload_n 1, 1) := by decide +kernel
theorem dX9_movesOf_19 : decode cX9_movesOf 19 = .ok (.invokevirtual 207, 3) := by decide +kernel
theorem dX9_movesOf_22 : decode cX9_movesOf 22 = .ok (.ifCond .ne 16, 3) := by decide +kernel
theorem dX9_movesOf_25 : decode cX9_movesOf 25 = .ok (.aload_n 0, 1) := by decide +kernel
theorem dX9_movesOf_26 : decode cX9_movesOf 26 = .ok (.iload_n 1, 1) := by decide +kernel
theorem dX9_movesOf_27 : decode cX9_movesOf 27 = .ok (.iload_n 3, 1) := by decide +kernel
theorem dX9_movesOf_28 : decode cX9_movesOf 28 = .ok (.invokevirtual 220, 3) := by decide +kernel
theorem dX9_movesOf_31 : decode cX9_movesOf 31 = .ok (.ifCond .lt 7, 3) := by decide +kernel
theorem dX9_movesOf_34 : decode cX9_movesOf 34 = .ok (.iconst 1, 1) := by decide +kernel
theorem dX9_movesOf_35 : decode cX9_movesOf 35 = .ok (.goto 4, 3) := by decide +kernel
theorem dX9_movesOf_38 : decode cX9_movesOf 38 = .ok (.iconst 0, 1) := by decide +kernel
theorem dX9_movesOf_39 : decode cX9_movesOf 39 = .ok (.iadd, 1) := by decide +kernel
theorem dX9_movesOf_40 : decode cX9_movesOf 40 = .ok (.istore_n 2, 1) := by decide +kernel
theorem dX9_movesOf_41 : decode cX9_movesOf 41 = .ok (.iinc 3 1, 3) := by decide +kernel
theorem dX9_movesOf_44 : decode cX9_movesOf 44 = .ok (.goto (-40), 3) := by decide +kernel
theorem dX9_movesOf_47 : decode cX9_movesOf 47 = .ok (.iload_n 2, 1) := by decide +kernel
theorem dX9_movesOf_48 : decode cX9_movesOf 48 = .ok (.ireturn, 1) := by decide +kernel
theorem dX9_isTaken_0 : decode cX9_isTaken 0 = .ok (.aload_n 0, 1) := by decide +kernel
theorem dX9_isTaken_1 : decode cX9_isTaken 1 = .ok (.iload_n 1, 1) := by decide +kernel
theorem dX9_isTaken_2 : decode cX9_isTaken 2 = .ok (.invokevirtual 195, 3) := by decide +kernel
theorem dX9_isTaken_5 : decode cX9_isTaken 5 = .ok (.aload_n 0, 1) := by decide +kernel
theorem dX9_isTaken_6 : decode cX9_isTaken 6 = .ok (.iload_n 1, 1) := by decide +kernel
theorem dX9_isTaken_7 : decode cX9_isTaken 7 = .ok (.invokevirtual 201, 3) := by decide +kernel
theorem dX9_isTaken_10 : decode cX9_isTaken 10 = .ok (.if_icmp .eq 16, 3) := by decide +kernel
theorem dX9_isTaken_13 : decode cX9_isTaken 13 = .ok (.aload_n 0, 1) := by decide +kernel
theorem dX9_isTaken_14 : decode cX9_isTaken 14 = .ok (.iload_n 1, 1) := by decide +kernel
theorem dX9_isTaken_15 : decode cX9_isTaken 15 = .ok (.invokevirtual 198, 3) := by decide +kernel
theorem dX9_isTaken_18 : decode cX9_isTaken 18 = .ok (.aload_n 0, 1) := by decide +kernel
theorem dX9_isTaken_19 : decode cX9_isTaken 19 = .ok (.iload_n 1, 1) := by decide +kernel
theorem dX9_isTaken_20 : decode cX9_isTaken 20 = .ok (.invokevirtual 201, 3) := by decide +kernel
theorem dX9_isTaken_23 : decode cX9_isTaken 23 = .ok (.if_icmp .ne 7, 3) := by decide +kernel
theorem dX9_isTaken_26 : decode cX9_isTaken 26 = .ok (.iconst 1, 1) := by decide +kernel
theorem dX9_isTaken_27 : decode cX9_isTaken 27 = .ok (.goto 4, 3) := by decide +kernel
theorem dX9_isTaken_30 : decode cX9_isTaken 30 = .ok (.iconst 0, 1) := by decide +kernel
theorem dX9_isTaken_31 : decode cX9_isTaken 31 = .ok (.ireturn, 1) := by decide +kernel
theorem dX9_isCaught_0 : decode cX9_isCaught 0 = .ok (.aload_n 0, 1) := by decide +kernel
theorem dX9_isCaught_1 : decode cX9_isCaught 1 = .ok (.iload_n 1, 1) := by decide +kernel
theorem dX9_isCaught_2 : decode cX9_isCaught 2 = .ok (.invokevirtual 223, 3) := by decide +kernel
theorem dX9_isCaught_5 : decode cX9_isCaught 5 = .ok (.ifCond .ne 20, 3) := by decide +kernel
theorem dX9_isCaught_8 : decode cX9_isCaught 8 = .ok (.aload_n 0, 1) := by decide +kernel
theorem dX9_isCaught_9 : decode cX9_isCaught 9 = .ok (.iload_n 1, 1) := by decide +kernel
theorem dX9_isCaught_10 : decode cX9_isCaught 10 = .ok (.invokevirtual 207, 3) := by decide +kernel
theorem dX9_isCaught_13 : decode cX9_isCaught 13 = .ok (.iconst 1, 1) := by decide +kernel
theorem dX9_isCaught_14 : decode cX9_isCaught 14 = .ok (.if_icmp .ne 15, 3) := by decide +kernel
theorem dX9_isCaught_17 : decode cX9_isCaught 17 = .ok (.aload_n 0, 1) := by decide +kernel
theorem dX9_isCaught_18 : decode cX9_isCaught 18 = .ok (.iload_n 1, 1) := by decide +kernel
theorem dX9_isCaught_19 : decode cX9_isCaught 19 = .ok (.invokevirtual 226, 3) := by decide +kernel
theorem dX9_isCaught_22 : decode cX9_isCaught 22 = .ok (.ifCond .ne 7, 3) := by decide +kernel
theorem dX9_isCaught_25 : decode cX9_isCaught 25 = .ok (.iconst 1, 1) := by decide +kernel
theorem dX9_isCaught_26 : decode cX9_isCaught 26 = .ok (.goto 4, 3) := by decide +kernel
theorem dX9_isCaught_29 : decode cX9_isCaught 29 = .ok (.iconst 0, 1) := by decide +kernel
theorem dX9_isCaught_30 : decode cX9_isCaught 30 = .ok (.ireturn, 1) := by decide +kernel
theorem dX9_isOne_0 : decode cX9_isOne 0 = .ok (.aload_n 0, 1) := by decide +kernel
theorem dX9_isOne_1 : decode cX9_isOne 1 = .ok (.iload_n 1, 1) := by decide +kernel
theorem dX9_isOne_2 : decode cX9_isOne 2 = .ok (.invokevirtual 195, 3) := by decide +kernel
theorem dX9_isOne_5 : decode cX9_isOne 5 = .ok (.aload_n 0, 1) := by decide +kernel
theorem dX9_isOne_6 : decode cX9_isOne 6 = .ok (.iload_n 1, 1) := by decide +kernel
theorem dX9_isOne_7 : decode cX9_isOne 7 = .ok (.invokevirtual 198, 3) := by decide +kernel
theorem dX9_isOne_10 : decode cX9_isOne 10 = .ok (.if_icmp .gt 64, 3) := by decide +kernel
theorem dX9_isOne_13 : decode cX9_isOne 13 = .ok (.aload_n 0, 1) := by decide +kernel
theorem dX9_isOne_14 : decode cX9_isOne 14 = .ok (.iload_n 1, 1) := by decide +kernel
theorem dX9_isOne_15 : decode cX9_isOne 15 = .ok (.invokevirtual 198, 3) := by decide +kernel
theorem dX9_isOne_18 : decode cX9_isOne 18 = .ok (.aload_n 0, 1) := by decide +kernel
theorem dX9_isOne_19 : decode cX9_isOne 19 = .ok (.getfield 149, 3) := by decide +kernel
theorem dX9_isOne_22 : decode cX9_isOne 22 = .ok (.if_icmp .ge 52, 3) := by decide +kernel
theorem dX9_isOne_25 : decode cX9_isOne 25 = .ok (.aload_n 0, 1) := by decide +kernel
theorem dX9_isOne_26 : decode cX9_isOne 26 = .ok (.iload_n 1, 1) := by decide +kernel
theorem dX9_isOne_27 : decode cX9_isOne 27 = .ok (.invokevirtual 201, 3) := by decide +kernel
theorem dX9_isOne_30 : decode cX9_isOne 30 = .ok (.aload_n 0, 1) := by decide +kernel
theorem dX9_isOne_31 : decode cX9_isOne 31 = .ok (.getfield 149, 3) := by decide +kernel
theorem dX9_isOne_34 : decode cX9_isOne 34 = .ok (.if_icmp .ge 40, 3) := by decide +kernel
theorem dX9_isOne_37 : decode cX9_isOne 37 = .ok (.aload_n 0, 1) := by decide +kernel
theorem dX9_isOne_38 : decode cX9_isOne 38 = .ok (.getfield 13, 3) := by decide +kernel
theorem dX9_isOne_41 : decode cX9_isOne 41 = .ok (.iconst 2, 1) := by decide +kernel
theorem dX9_isOne_42 : decode cX9_isOne 42 = .ok (.if_icmp .eq 16, 3) := by decide +kernel
theorem dX9_isOne_45 : decode cX9_isOne 45 = .ok (.aload_n 0, 1) := by decide +kernel
theorem dX9_isOne_46 : decode cX9_isOne 46 = .ok (.iload_n 1, 1) := by decide +kernel
theorem dX9_isOne_47 : decode cX9_isOne 47 = .ok (.invokevirtual 195, 3) := by decide +kernel
theorem dX9_isOne_50 : decode cX9_isOne 50 = .ok (.aload_n 0, 1) := by decide +kernel
theorem dX9_isOne_51 : decode cX9_isOne 51 = .ok (.iload_n 1, 1) := by decide +kernel
theorem dX9_isOne_52 : decode cX9_isOne 52 = .ok (.invokevirtual 198, 3) := by decide +kernel
theorem dX9_isOne_55 : decode cX9_isOne 55 = .ok (.if_icmp .ne 19, 3) := by decide +kernel
theorem dX9_isOne_58 : decode cX9_isOne 58 = .ok (.aload_n 0, 1) := by decide +kernel
theorem dX9_isOne_59 : decode cX9_isOne 59 = .ok (.aload_n 0, 1) := by decide +kernel
theorem dX9_isOne_60 : decode cX9_isOne 60 = .ok (.iload_n 1, 1) := by decide +kernel
theorem dX9_isOne_61 : decode cX9_isOne 61 = .ok (.invokevirtual 204, 3) := by decide +kernel
