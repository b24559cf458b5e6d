theorem dX0_init_0 : decode cX0_init 0 = .ok (.aload_n 0, 1) := by decide +kernel
theorem dX0_init_1 : decode cX0_init 1 = .ok (.invokespecial 3, 3) := by decide +kernel
theorem dX0_init_4 : decode cX0_init 4 = .ok (.aload_n 0, 1) := by decide +kernel
theorem dX0_init_5 : decode cX0_init 5 = .ok (.bipush 64, 2) := by decide +kernel
theorem dX0_init_7 : decode cX0_init 7 = .ok (.newarray .int, 2) := by decide +kernel
theorem dX0_init_9 : decode cX0_init 9 = .ok (.putfield 9, 3) := by decide +kernel
theorem dX0_init_12 : decode cX0_init 12 = .ok (.aload_n 0, 1) := by decide +kernel
theorem dX0_init_13 : decode cX0_init 13 = .ok (.bipush 64, 2) := by decide +kernel
theorem dX0_init_15 : decode cX0_init 15 = .ok (.newarray .int, 2) := by decide +kernel
theorem dX0_init_17 : decode cX0_init 17 = .ok (.putfield 15, 3) := by decide +kernel
theorem dX0_init_20 : decode cX0_init 20 = .ok (.return_, 1) := by decide +kernel
theorem dX0_begin_0 : decode cX0_begin 0 = .ok (.aload_n 0, 1) := by decide +kernel
theorem dX0_begin_1 : decode cX0_begin 1 = .ok (.iconst 1, 1) := by decide +kernel
theorem dX0_begin_2 : decode cX0_begin 2 = .ok (.putfield 18, 3) := by decide +kernel
theorem dX0_begin_5 : decode cX0_begin 5 = .ok (.aload_n 0, 1) := by decide +kernel
theorem dX0_begin_6 : decode cX0_begin 6 = .ok (.iconst 0, 1) := by decide +kernel
theorem dX0_begin_7 : decode cX0_begin 7 = .ok (.putfield 22, 3) := by decide +kernel
theorem dX0_begin_10 : decode cX0_begin 10 = .ok (.aload_n 0, 1) := by decide +kernel
theorem dX0_begin_11 : decode cX0_begin 11 = .ok (.iconst 0, 1) := by decide +kernel
theorem dX0_begin_12 : decode cX0_begin 12 = .ok (.putfield 26, 3) := by decide +kernel
theorem dX0_begin_15 : decode cX0_begin 15 = .ok (.aload_n 0, 1) := by decide +kernel
theorem dX0_begin_16 : decode cX0_begin 16 = .ok (.iload_n 2, 1) := by decide +kernel
theorem dX0_begin_17 : decode cX0_begin 17 = .ok (.bipush 8, 2) := by decide +kernel
theorem dX0_begin_19 : decode cX0_begin 19 = .ok (.imul, 1) := by decide +kernel
theorem dX0_begin_20 : decode cX0_begin 20 = .ok (.iload_n 3, 1) := by decide +kernel
theorem dX0_begin_21 : decode cX0_begin 21 = .ok (.iadd, 1) := by decide +kernel
theorem dX0_begin_22 : decode cX0_begin 22 = .ok (.putfield 29, 3) := by decide +kernel
theorem dX0_begin_25 : decode cX0_begin 25 = .ok (.aload_n 0, 1) := by decide +kernel
theorem dX0_begin_26 : decode cX0_begin 26 = .ok (.aload_n 1, 1) := by decide +kernel
theorem dX0_begin_27 : decode cX0_begin 27 = .ok (.invokevirtual 32, 3) := by decide +kernel
theorem dX0_begin_30 : decode cX0_begin 30 = .ok (.iload_n 2, 1) := by decide +kernel
theorem dX0_begin_31 : decode cX0_begin 31 = .ok (.invokestatic 38, 3) := by decide +kernel
theorem dX0_begin_34 : decode cX0_begin 34 = .ok (.iconst (-1), 1) := by decide +kernel
theorem dX0_begin_35 : decode cX0_begin 35 = .ok (.ixor, 1) := by decide +kernel
theorem dX0_begin_36 : decode cX0_begin 36 = .ok (.iand, 1) := by decide +kernel
theorem dX0_begin_37 : decode cX0_begin 37 = .ok (.putfield 42, 3) := by decide +kernel
theorem dX0_begin_40 : decode cX0_begin 40 = .ok (.aload_n 0, 1) := by decide +kernel
theorem dX0_begin_41 : decode cX0_begin 41 = .ok (.aload_n 1, 1) := by decide +kernel
theorem dX0_begin_42 : decode cX0_begin 42 = .ok (.invokevirtual 45, 3) := by decide +kernel
theorem dX0_begin_45 : decode cX0_begin 45 = .ok (.return_, 1) := by decide +kernel
theorem dX0_look_0 : decode cX0_look 0 = .ok (.aload_n 1, 1) := by decide +kernel
theorem dX0_look_1 : decode cX0_look 1 = .ok (.aload_n 0, 1) := by decide +kernel
theorem dX0_look_2 : decode cX0_look 2 = .ok (.getfield 29, 3) := by decide +kernel
theorem dX0_look_5 : decode cX0_look 5 = .ok (.iconst 3, 1) := by decide +kernel
theorem dX0_look_6 : decode cX0_look 6 = .ok (.ishr, 1) := by decide +kernel
theorem dX0_look_7 : decode cX0_look 7 = .ok (.bipush 63, 2) := by decide +kernel
theorem dX0_look_9 : decode cX0_look 9 = .ok (.iand, 1) := by decide +kernel
theorem dX0_look_10 : decode cX0_look 10 = .ok (.invokevirtual 49, 3) := by decide +kernel
theorem dX0_look_13 : decode cX0_look 13 = .ok (.istore_n 2, 1) := by decide +kernel
theorem dX0_look_14 : decode cX0_look 14 = .ok (.aload_n 0, 1) := by decide +kernel
theorem dX0_look_15 : decode cX0_look 15 = .ok (.getfield 29, 3) := by decide +kernel
theorem dX0_look_18 : decode cX0_look 18 = .ok (.bipush 7, 2) := by decide +kernel
theorem dX0_look_20 : decode cX0_look 20 = .ok (.iand, 1) := by decide +kernel
theorem dX0_look_21 : decode cX0_look 21 = .ok (.istore_n 3, 1) := by decide +kernel
theorem dX0_look_22 : decode cX0_look 22 = .ok (.aload_n 0, 1) := by decide +kernel
theorem dX0_look_23 : decode cX0_look 23 = .ok (.iload_n 2, 1) := by decide +kernel
theorem dX0_look_24 : decode cX0_look 24 = .ok (.iload_n 3, 1) := by decide +kernel
theorem dX0_look_25 : decode cX0_look 25 = .ok (.ishr, 1) := by decide +kernel
theorem dX0_look_26 : decode cX0_look 26 = .ok (.iconst 1, 1) := by decide +kernel
theorem dX0_look_27 : decode cX0_look 27 = .ok (.iand, 1) := by decide +kernel
theorem dX0_look_28 : decode cX0_look 28 = .ok (.ifCond .eq 9, 3) := by decide +kernel
theorem dX0_look_31 : decode cX0_look 31 = .ok (.iconst 1, 1) := by decide +kernel
theorem dX0_look_32 : decode cX0_look 32 = .ok (.iload_n 3, 1) := by decide +kernel
theorem dX0_look_33 : decode cX0_look 33 = .ok (.ishl, 1) := by decide +kernel
theorem dX0_look_34 : decode cX0_look 34 = .ok (.goto 11, 3) := by decide +kernel
theorem dX0_look_37 : decode cX0_look 37 = .ok (.aload_n 0, 1) := by decide +kernel
theorem dX0_look_38 : decode cX0_look 38 = .ok (.getfield 42, 3) := by decide +kernel
theorem dX0_look_41 : decode cX0_look 41 = .ok (.iload_n 2, 1) := by decide +kernel
theorem dX0_look_42 : decode cX0_look 42 = .ok (.iconst (-1), 1) := by decide +kernel
theorem dX0_look_43 : decode cX0_look 43 = .ok (.ixor, 1) := by decide +kernel
theorem dX0_look_44 : decode cX0_look 44 = .ok (.iand, 1) := by decide +kernel
theorem dX0_look_45 : decode cX0_look 45 = .ok (.putfield 42, 3) := by decide +kernel
theorem dX0_look_48 : decode cX0_look 48 = .ok (.return_, 1) := by decide +kernel
theorem dX0_turn_0 : decode cX0_turn 0 = .ok (.aload_n 1, 1) := by decide +kernel
theorem dX0_turn_1 : decode cX0_turn 1 = .ok (.aload_n 0, 1) := by decide +kernel
theorem dX0_turn_2 : decode cX0_turn 2 = .ok (.getfield 29, 3) := by decide +kernel
theorem dX0_turn_5 : decode cX0_turn 5 = .ok (.iload_n 2, 1) := by decide +kernel
theorem dX0_turn_6 : decode cX0_turn 6 = .ok (.invokevirtual 52, 3) := by decide +kernel
theorem dX0_turn_9 : decode cX0_turn 9 = .ok (.istore_n 3, 1) := by decide +kernel
theorem dX0_turn_10 : decode cX0_turn 10 = .ok (.iload_n 3, 1) := by decide +kernel
theorem dX0_turn_11 : decode cX0_turn 11 = .ok (.ifCond .ge 4, 3) := by decide +kernel
theorem dX0_turn_14 : decode cX0_turn 14 = .ok (.return_, 1) := by decide +kernel
theorem dX0_turn_15 : decode cX0_turn 15 = .ok (.aload_n 1, 1) := by decide +kernel
theorem dX0_turn_16 : decode cX0_turn 16 = .ok (.getfield 58, 3) := by decide +kernel
theorem dX0_turn_19 : decode cX0_turn 19 = .ok (.astore 4, 2) := by decide +kernel
theorem dX0_turn_21 : decode cX0_turn 21 = .ok (.aload_n 0, 1) := by decide +kernel
theorem dX0_turn_22 : decode cX0_turn 22 = .ok (.getfield 9, 3) := by decide +kernel
theorem dX0_turn_25 : decode cX0_turn 25 = .ok (.aload_n 0, 1) := by decide +kernel
theorem dX0_turn_26 : decode cX0_turn 26 = .ok (.getfield 22, 3) := by decide +kernel
theorem dX0_turn_29 : decode cX0_turn 29 = .ok (.bipush 64, 2) := by decide +kernel
theorem dX0_turn_31 : decode cX0_turn 31 = .ok (.irem, 1) := by decide +kernel
theorem dX0_turn_32 : decode cX0_turn 32 = .ok (.aload_n 0, 1) := by decide +kernel
theorem dX0_turn_33 : decode cX0_turn 33 = .ok (.getfield 29, 3) := by decide +kernel
theorem dX0_turn_36 : decode cX0_turn 36 = .ok (.iastore, 1) := by decide +kernel
theorem dX0_turn_37 : decode cX0_turn 37 = .ok (.aload_n 0, 1) := by decide +kernel
theorem dX0_turn_38 : decode cX0_turn 38 = .ok (.getfield 15, 3) := by decide +kernel
theorem dX0_turn_41 : decode cX0_turn 41 = .ok (.aload_n 0, 1) := by decide +kernel
theorem dX0_turn_42 : decode cX0_turn 42 = .ok (.getfield 22, 3) := by decide +kernel
theorem dX0_turn_45 : decode cX0_turn 45 = .ok (.bipush 64, 2) := by decide +kernel
theorem dX0_turn_47 : decode cX0_turn 47 = .ok (.irem, 1) := by decide +kernel
theorem dX0_turn_48 : decode cX0_turn 48 = .ok (.aload_n 0, 1) := by decide +kernel
theorem dX0_turn_49 : decode cX0_turn 49 = .ok (.getfield 42, 3) := by decide +kernel
theorem dX0_turn_52 : decode cX0_turn 52 = .ok (.iastore, 1) := by decide +kernel
theorem dX0_turn_53 : decode cX0_turn 53 = .ok (.aload_n 0, 1) := by decide +kernel
theorem dX0_turn_54 : decode cX0_turn 54 = .ok (.bipush 64, 2) := by decide +kernel
theorem dX0_turn_56 : decode cX0_turn 56 = .ok (.aload_n 0, 1) := by decide +kernel
theorem dX0_turn_57 : decode cX0_turn 57 = .ok (.getfield 26, 3) := by decide +kernel
theorem dX0_turn_60 : decode cX0_turn 60 = .ok (.iconst 1, 1) := by decide +kernel
theorem dX0_turn_61 : decode cX0_turn 61 = .ok (.iadd, 1) := by decide +kernel
theorem dX0_turn_62 : decode cX0_turn 62 = .ok (.invokestatic 62, 3) := by decide +kernel
theorem dX0_turn_65 : decode cX0_turn 65 = .ok (.putfield 26, 3) := by decide +kernel
theorem dX0_turn_68 : decode cX0_turn 68 = .ok (.aload_n 0, 1) := by decide +kernel
theorem dX0_turn_69 : decode cX0_turn 69 = .ok (.dup, 1) := by decide +kernel
theorem dX0_turn_70 : decode cX0_turn 70 = .ok (.getfield 22, 3) := by decide +kernel
theorem dX0_turn_73 : decode cX0_turn 73 = .ok (.iconst 1, 1) := by decide +kernel
theorem dX0_turn_74 : decode cX0_turn 74 = .ok (.iadd, 1) := by decide +kernel
theorem dX0_turn_75 : decode cX0_turn 75 = .ok (.putfield 22, 3) := by decide +kernel
theorem dX0_turn_78 : decode cX0_turn 78 = .ok (.aload_n 0, 1) := by decide +kernel
theorem dX0_turn_79 : decode cX0_turn 79 = .ok (.getfield 29, 3) := by decide +kernel
theorem dX0_turn_82 : decode cX0_turn 82 = .ok (.invokestatic 67, 3) := by decide +kernel
theorem dX0_turn_85 : decode cX0_turn 85 = .ok (.ifCond .eq 16, 3) := by decide +kernel
theorem dX0_turn_88 : decode cX0_turn 88 = .ok (.aload_n 0, 1) := by decide +kernel
theorem dX0_turn_89 : decode cX0_turn 89 = .ok (.aload_n 0, 1) := by decide +kernel
theorem dX0_turn_90 : decode cX0_turn 90 = .ok (.aload 4, 2) := by decide +kernel
theorem dX0_turn_92 : decode cX0_turn 92 = .ok (.invokevirtual 71, 3) := by decide +kernel
theorem dX0_turn_95 : decode cX0_turn 95 = .ok (.putfield 42, 3) := by decide +kernel
theorem dX0_turn_98 : decode cX0_turn 98 = .ok (.goto 23, 3) := by decide +kernel
theorem dX0_turn_101 : decode cX0_turn 101 = .ok (.aload_n 0, 1) := by decide +kernel
theorem dX0_turn_102 : decode cX0_turn 102 = .ok (.dup, 1) := by decide +kernel
theorem dX0_turn_103 : decode cX0_turn 103 = .ok (.getfield 42, 3) := by decide +kernel
theorem dX0_turn_106 : decode cX0_turn 106 = .ok (.iload_n 3, 1) := by decide +kernel
theorem dX0_turn_107 : decode cX0_turn 107 = .ok (.iconst 3, 1) := by decide +kernel
theorem dX0_turn_108 : decode cX0_turn 108 = .ok (.ishr, 1) := by decide +kernel
theorem dX0_turn_109 : decode cX0_turn 109 = .ok (.bipush 63, 2) := by decide +kernel
theorem dX0_turn_111 : decode cX0_turn 111 = .ok (.iand, 1) := by decide +kernel
theorem dX0_turn_112 : decode cX0_turn 112 = .ok (.invokestatic 38, 3) := by decide +kernel
theorem dX0_turn_115 : decode cX0_turn 115 = .ok (.iconst (-1), 1) := by decide +kernel
theorem dX0_turn_116 : decode cX0_turn 116 = .ok (.ixor, 1) := by decide +kernel
theorem dX0_turn_117 : decode cX0_turn 117 = .ok (.iand, 1) := by decide +kernel
theorem dX0_turn_118 : decode cX0_turn 118 = .ok (.putfield 42, 3) := by decide +kernel
theorem dX0_turn_121 : decode cX0_turn 121 = .ok (.aload_n 0, 1) := by decide +kernel
theorem dX0_turn_122 : decode cX0_turn 122 = .ok (.iload_n 3, 1) := by decide +kernel
theorem dX0_turn_123 : decode cX0_turn 123 = .ok (.putfield 29, 3) := by decide +kernel
theorem dX0_turn_126 : decode cX0_turn 126 = .ok (.aload_n 0, 1) := by decide +kernel
theorem dX0_turn_127 : decode cX0_turn 127 = .ok (.aload 4, 2) := by decide +kernel
theorem dX0_turn_129 : decode cX0_turn 129 = .ok (.invokevirtual 45, 3) := by decide +kernel
theorem dX0_turn_132 : decode cX0_turn 132 = .ok (.return_, 1) := by decide +kernel
theorem dX0_knownBehindRunner_0 : decode cX0_knownBehindRunner 0 = .ok (.iconst 0, 1) := by decide +kernel
theorem dX0_knownBehindRunner_1 : decode cX0_knownBehindRunner 1 = .ok (.istore_n 2, 1) := by decide +kernel
theorem dX0_knownBehindRunner_2 : decode cX0_knownBehindRunner 2 = .ok (.iconst 0, 1) := by decide +kernel
theorem dX0_knownBehindRunner_3 : decode cX0_knownBehindRunner 3 = .ok (.istore_n 3, 1) := by decide +kernel
theorem dX0_knownBehindRunner_4 : decode cX0_knownBehindRunner 4 = .ok (.iload_n 3, 1) := by decide +kernel
theorem dX0_knownBehindRunner_5 : decode cX0_knownBehindRunner 5 = .ok (.aload_n 1, 1) := by decide +kernel
theorem dX0_knownBehindRunner_6 : decode cX0_knownBehindRunner 6 = .ok (.getfield 75, 3) := by decide +kernel
theorem dX0_knownBehindRunner_9 : decode cX0_knownBehindRunner 9 = .ok (.if_icmp .ge 45, 3) := by decide +kernel
theorem dX0_knownBehindRunner_12 : decode cX0_knownBehindRunner 12 = .ok (.aload_n 0, 1) := by decide +kernel
theorem dX0_knownBehindRunner_13 : decode cX0_knownBehindRunner 13 = .ok (.getfield 42, 3) := by decide +kernel
theorem dX0_knownBehindRunner_16 : decode cX0_knownBehindRunner 16 = .ok (.iload_n 3, 1) := by decide +kernel
theorem dX0_knownBehindRunner_17 : decode cX0_knownBehindRunner 17 = .ok (.ishr, 1) := by decide +kernel
theorem dX0_knownBehindRunner_18 : decode cX0_knownBehindRunner 18 = .ok (.iconst 1, 1) := by decide +kernel
theorem dX0_knownBehindRunner_19 : decode cX0_knownBehindRunner 19 = .ok (.iand, 1) := by decide +kernel
theorem dX0_knownBehindRunner_20 : decode cX0_knownBehindRunner 20 = .ok (.ifCond .eq 28, 3) := by decide +kernel
theorem dX0_knownBehindRunner_23 : decode cX0_knownBehindRunner 23 = .ok (.iload_n 2, 1) := by decide +kernel
theorem dX0_knownBehindRunner_24 : decode cX0_knownBehindRunner 24 = .ok (.aload_n 1, 1) := by decide +kernel
theorem dX0_knownBehindRunner_25 : decode cX0_knownBehindRunner 25 = .ok (.iload_n 3, 1) := by decide +kernel
theorem dX0_knownBehindRunner_26 : decode cX0_knownBehindRunner 26 = .ok (.aload_n 0, 1) := by decide +kernel
theorem dX0_knownBehindRunner_27 : decode cX0_knownBehindRunner 27 = .ok (.getfield 29, 3) := by decide +kernel
theorem dX0_knownBehindRunner_30 : decode cX0_knownBehindRunner 30 = .ok (.iconst 3, 1) := by decide +kernel
theorem dX0_knownBehindRunner_31 : decode cX0_knownBehindRunner 31 = .ok (.ishr, 1) := by decide +kernel
theorem dX0_knownBehindRunner_32 : decode cX0_knownBehindRunner 32 = .ok (.bipush 63, 2) := by decide +kernel
theorem dX0_knownBehindRunner_34 : decode cX0_knownBehindRunner 34 = .ok (.iand, 1) := by decide +kernel
theorem dX0_knownBehindRunner_35 : decode cX0_knownBehindRunner 35 = .ok (.aload_n 0, 1) := by decide +kernel
theorem dX0_knownBehindRunner_36 : decode cX0_knownBehindRunner 36 = .ok (.getfield 29, 3) := by decide +kernel
theorem dX0_knownBehindRunner_39 : decode cX0_knownBehindRunner 39 = .ok (.sipush 1024, 3) := by decide +kernel
theorem dX0_knownBehindRunner_42 : decode cX0_knownBehindRunner 42 = .ok (.idiv, 1) := by decide +kernel
theorem dX0_knownBehindRunner_43 : decode cX0_knownBehindRunner 43 = .ok (.invokevirtual 78, 3) := by decide +kernel
theorem dX0_knownBehindRunner_46 : decode cX0_knownBehindRunner 46 = .ok (.ior, 1) := by decide +kernel
theorem dX0_knownBehindRunner_47 : decode cX0_knownBehindRunner 47 = .ok (.istore_n 2, 1) := by decide +kernel
theorem dX0_knownBehindRunner_48 : decode cX0_knownBehindRunner 48 = .ok (.iinc 3 1, 3) := by decide +kernel
theorem dX0_knownBehindRunner_51 : decode cX0_knownBehindRunner 51 = .ok (.goto (-47), 3) := by decide +kernel
theorem dX0_knownBehindRunner_54 : decode cX0_knownBehindRunner 54 = .ok (.iload_n 2, 1) := by decide +kernel
theorem dX0_knownBehindRunner_55 : decode cX0_knownBehindRunner 55 = .ok (.ireturn, 1) := by decide +kernel
theorem dX0_takeBack_0 : decode cX0_takeBack 0 = .ok (.aload_n 0, 1) := by decide +kernel
theorem dX0_takeBack_1 : decode cX0_takeBack 1 = .ok (.getfield 26, 3) := by decide +kernel
theorem dX0_takeBack_4 : decode cX0_takeBack 4 = .ok (.ifCond .eq 10, 3) := by decide +kernel
theorem dX0_takeBack_7 : decode cX0_takeBack 7 = .ok (.aload_n 0, 1) := by decide +kernel
theorem dX0_takeBack_8 : decode cX0_takeBack 8 = .ok (.getfield 22, 3) := by decide +kernel
theorem dX0_takeBack_11 : decode cX0_takeBack 11 = .ok (.ifCond .ne 4, 3) := by decide +kernel
theorem dX0_takeBack_14 : decode cX0_takeBack 14 = .ok (.return_, 1) := by decide +kernel
theorem dX0_takeBack_15 : decode cX0_takeBack 15 = .ok (.aload_n 0, 1) := by decide +kernel
theorem dX0_takeBack_16 : decode cX0_takeBack 16 = .ok (.dup, 1) := by decide +kernel
theorem dX0_takeBack_17 : decode cX0_takeBack 17 = .ok (.getfield 26, 3) := by decide +kernel
theorem dX0_takeBack_20 : decode cX0_takeBack 20 = .ok (.iconst 1, 1) := by decide +kernel
theorem dX0_takeBack_21 : decode cX0_takeBack 21 = .ok (.isub, 1) := by decide +kernel
theorem dX0_takeBack_22 : decode cX0_takeBack 22 = .ok (.putfield 26, 3) := by decide +kernel
theorem dX0_takeBack_25 : decode cX0_takeBack 25 = .ok (.aload_n 0, 1) := by decide +kernel
theorem dX0_takeBack_26 : decode cX0_takeBack 26 = .ok (.dup, 1) := by decide +kernel
theorem dX0_takeBack_27 : decode cX0_takeBack 27 = .ok (.getfield 22, 3) := by decide +kernel
theorem dX0_takeBack_30 : decode cX0_takeBack 30 = .ok (.iconst 1, 1) := by decide +kernel
theorem dX0_takeBack_31 : decode cX0_takeBack 31 = .ok (.isub, 1) := by decide +kernel
theorem dX0_takeBack_32 : decode cX0_takeBack 32 = .ok (.putfield 22, 3) := by decide +kernel
theorem dX0_takeBack_35 : decode cX0_takeBack 35 = .ok (.aload_n 0, 1) := by decide +kernel
theorem dX0_takeBack_36 : decode cX0_takeBack 36 = .ok (.aload_n 0, 1) := by decide +kernel
theorem dX0_takeBack_37 : decode cX0_takeBack 37 = .ok (.getfield 9, 3) := by decide +kernel
theorem dX0_takeBack_40 : decode cX0_takeBack 40 = .ok (.aload_n 0, 1) := by decide +kernel
theorem dX0_takeBack_41 : decode cX0_takeBack 41 = .ok (.getfield 22, 3) := by decide +kernel
theorem dX0_takeBack_44 : decode cX0_takeBack 44 = .ok (.bipush 64, 2) := by decide +kernel
theorem dX0_takeBack_46 : decode cX0_takeBack 46 = .ok (.irem, 1) := by decide +kernel
theorem dX0_takeBack_47 : decode cX0_takeBack 47 = .ok (.iaload, 1) := by decide +kernel
theorem dX0_takeBack_48 : decode cX0_takeBack 48 = .ok (.putfield 29, 3) := by decide +kernel
theorem dX0_takeBack_51 : decode cX0_takeBack 51 = .ok (.aload_n 0, 1) := by decide +kernel
theorem dX0_takeBack_52 : decode cX0_takeBack 52 = .ok (.aload_n 0, 1) := by decide +kernel
theorem dX0_takeBack_53 : decode cX0_takeBack 53 = .ok (.getfield 15, 3) := by decide +kernel
theorem dX0_takeBack_56 : decode cX0_takeBack 56 = .ok (.aload_n 0, 1) := by decide +kernel
theorem dX0_takeBack_57 : decode cX0_takeBack 57 = .ok (.getfield 22, 3) := by decide +kernel
theorem dX0_takeBack_60 : decode cX0_takeBack 60 = .ok (.bipush 64, 2) := by decide +kernel
theorem dX0_takeBack_62 : decode cX0_takeBack 62 = .ok (.irem, 1) := by decide +kernel
theorem dX0_takeBack_63 : decode cX0_takeBack 63 = .ok (.iaload, 1) := by decide +kernel
theorem dX0_takeBack_64 : decode cX0_takeBack 64 = .ok (.putfield 42, 3) := by decide +kernel
theorem dX0_takeBack_67 : decode cX0_takeBack 67 = .ok (.return_, 1) := by decide +kernel
theorem dX1_init_0 : decode cX1_init 0 = .ok (.aload_n 0, 1) := by decide +kernel
theorem dX1_init_1 : decode cX1_init 1 = .ok (.invokespecial 3, 3) := by decide +kernel
theorem dX1_init_4 : decode cX1_init 4 = .ok (.aload_n 0, 1) := by decide +kernel
theorem dX1_init_5 : decode cX1_init 5 = .ok (.iconst (-1), 1) := by decide +kernel
theorem dX1_init_6 : decode cX1_init 6 = .ok (.putfield 9, 3) := by decide +kernel
theorem dX1_init_9 : decode cX1_init 9 = .ok (.aload_n 0, 1) := by decide +kernel
theorem dX1_init_10 : decode cX1_init 10 = .ok (.sipush 4096, 3) := by decide +kernel
theorem dX1_init_13 : decode cX1_init 13 = .ok (.newarray .int, 2) := by decide +kernel
theorem dX1_init_15 : decode cX1_init 15 = .ok (.putfield 15, 3) := by decide +kernel
theorem dX1_init_18 : decode cX1_init 18 = .ok (.aload_n 0, 1) := by decide +kernel
theorem dX1_init_19 : decode cX1_init 19 = .ok (.sipush 4096, 3) := by decide +kernel
theorem dX1_init_22 : decode cX1_init 22 = .ok (.newarray .int, 2) := by decide +kernel
theorem dX1_init_24 : decode cX1_init 24 = .ok (.putfield 19, 3) := by decide +kernel
theorem dX1_init_27 : decode cX1_init 27 = .ok (.aload_n 0, 1) := by decide +kernel
theorem dX1_init_28 : decode cX1_init 28 = .ok (.bipush 64, 2) := by decide +kernel
theorem dX1_init_30 : decode cX1_init 30 = .ok (.newarray .int, 2) := by decide +kernel
theorem dX1_init_32 : decode cX1_init 32 = .ok (.putfield 22, 3) := by decide +kernel
theorem dX1_init_35 : decode cX1_init 35 = .ok (.return_, 1) := by decide +kernel
theorem dX1_solve_0 : decode cX1_solve 0 = .ok (.aload_n 0, 1) := by decide +kernel
theorem dX1_solve_1 : decode cX1_solve 1 = .ok (.aload_n 1, 1) := by decide +kernel
theorem dX1_solve_2 : decode cX1_solve 2 = .ok (.putfield 25, 3) := by decide +kernel
theorem dX1_solve_5 : decode cX1_solve 5 = .ok (.aload_n 0, 1) := by decide +kernel
theorem dX1_solve_6 : decode cX1_solve 6 = .ok (.aload_n 1, 1) := by decide +kernel
theorem dX1_solve_7 : decode cX1_solve 7 = .ok (.getfield 29, 3) := by decide +kernel
theorem dX1_solve_10 : decode cX1_solve 10 = .ok (.putfield 9, 3) := by decide +kernel
theorem dX1_solve_13 : decode cX1_solve 13 = .ok (.aload_n 0, 1) := by decide +kernel
theorem dX1_solve_14 : decode cX1_solve 14 = .ok (.getfield 25, 3) := by decide +kernel
theorem dX1_solve_17 : decode cX1_solve 17 = .ok (.getfield 32, 3) := by decide +kernel
theorem dX1_solve_20 : decode cX1_solve 20 = .ok (.bipush 6, 2) := by decide +kernel
theorem dX1_solve_22 : decode cX1_solve 22 = .ok (.if_icmp .le 4, 3) := by decide +kernel
theorem dX1_solve_25 : decode cX1_solve 25 = .ok (.return_, 1) := by decide +kernel
theorem dX1_solve_26 : decode cX1_solve 26 = .ok (.iconst 0, 1) := by decide +kernel
theorem dX1_solve_27 : decode cX1_solve 27 = .ok (.istore_n 2, 1) := by decide +kernel
theorem dX1_solve_28 : decode cX1_solve 28 = .ok (.iload_n 2, 1) := by decide +kernel
theorem dX1_solve_29 : decode cX1_solve 29 = .ok (.sipush 4096, 3) := by decide +kernel
theorem dX1_solve_32 : decode cX1_solve 32 = .ok (.if_icmp .ge 34, 3) := by decide +kernel
theorem dX1_solve_35 : decode cX1_solve 35 = .ok (.aload_n 0, 1) := by decide +kernel
theorem dX1_solve_36 : decode cX1_solve 36 = .ok (.getfield 15, 3) := by decide +kernel
theorem dX1_solve_39 : decode cX1_solve 39 = .ok (.iload_n 2, 1) := by decide +kernel
theorem dX1_solve_40 : decode cX1_solve 40 = .ok (.iload_n 2, 1) := by decide +kernel
theorem dX1_solve_41 : decode cX1_solve 41 = .ok (.bipush 64, 2) := by decide +kernel
theorem dX1_solve_43 : decode cX1_solve 43 = .ok (.irem, 1) := by decide +kernel
theorem dX1_solve_44 : decode cX1_solve 44 = .ok (.ifCond .ne 7, 3) := by decide +kernel
theorem dX1_solve_47 : decode cX1_solve 47 = .ok (.iconst 0, 1) := by decide +kernel
theorem dX1_solve_48 : decode cX1_solve 48 = .ok (.goto 4, 3) := by decide +kernel
theorem dX1_solve_51 : decode cX1_solve 51 = .ok (.iconst (-1), 1) := by decide +kernel
theorem dX1_solve_52 : decode cX1_solve 52 = .ok (.iastore, 1) := by decide +kernel
theorem dX1_solve_53 : decode cX1_solve 53 = .ok (.aload_n 0, 1) := by decide +kernel
theorem dX1_solve_54 : decode cX1_solve 54 = .ok (.getfield 19, 3) := by decide +kernel
theorem dX1_solve_57 : decode cX1_solve 57 = .ok (.iload_n 2, 1) := by decide +kernel
theorem dX1_solve_58 : decode cX1_solve 58 = .ok (.iconst 0, 1) := by decide +kernel
theorem dX1_solve_59 : decode cX1_solve 59 = .ok (.iastore, 1) := by decide +kernel
theorem dX1_solve_60 : decode cX1_solve 60 = .ok (.iinc 2 1, 3) := by decide +kernel
theorem dX1_solve_63 : decode cX1_solve 63 = .ok (.goto (-35), 3) := by decide +kernel
theorem dX1_solve_66 : decode cX1_solve 66 = .ok (.iconst 1, 1) := by decide +kernel
theorem dX1_solve_67 : decode cX1_solve 67 = .ok (.istore_n 2, 1) := by decide +kernel
theorem dX1_solve_68 : decode cX1_solve 68 = .ok (.iconst 1, 1) := by decide +kernel
theorem dX1_solve_69 : decode cX1_solve 69 = .ok (.istore_n 3, 1) := by decide +kernel
theorem dX1_solve_70 : decode cX1_solve 70 = .ok (.iload_n 3, 1) := by decide +kernel
theorem dX1_solve_71 : decode cX1_solve 71 = .ok (.bipush 12, 2) := by decide +kernel
theorem dX1_solve_73 : decode cX1_solve 73 = .ok (.if_icmp .gt 90, 3) := by decide +kernel
theorem dX1_solve_76 : decode cX1_solve 76 = .ok (.iload_n 2, 1) := by decide +kernel
theorem dX1_solve_77 : decode cX1_solve 77 = .ok (.ifCond .eq 86, 3) := by decide +kernel
theorem dX1_solve_80 : decode cX1_solve 80 = .ok (.iconst 0, 1) := by decide +kernel
theorem dX1_solve_81 : decode cX1_solve 81 = .ok (.istore_n 2, 1) := by decide +kernel
theorem dX1_solve_82 : decode cX1_solve 82 = .ok (.iconst 0, 1) := by decide +kernel
theorem dX1_solve_83 : decode cX1_solve 83 = .ok (.istore 4, 2) := by decide +kernel
theorem dX1_solve_85 : decode cX1_solve 85 = .ok (.iload 4, 2) := by decide +kernel
theorem dX1_solve_87 : decode cX1_solve 87 = .ok (.bipush 64, 2) := by decide +kernel
theorem dX1_solve_89 : decode cX1_solve 89 = .ok (.if_icmp .ge 28, 3) := by decide +kernel
theorem dX1_solve_92 : decode cX1_solve 92 = .ok (.aload_n 0, 1) := by decide +kernel
theorem dX1_solve_93 : decode cX1_solve 93 = .ok (.getfield 25, 3) := by decide +kernel
theorem dX1_solve_96 : decode cX1_solve 96 = .ok (.iload 4, 2) := by decide +kernel
theorem dX1_solve_98 : decode cX1_solve 98 = .ok (.invokevirtual 35, 3) := by decide +kernel
theorem dX1_solve_101 : decode cX1_solve 101 = .ok (.ifCond .eq 10, 3) := by decide +kernel
theorem dX1_solve_104 : decode cX1_solve 104 = .ok (.aload_n 0, 1) := by decide +kernel
theorem dX1_solve_105 : decode cX1_solve 105 = .ok (.iload 4, 2) := by decide +kernel
theorem dX1_solve_107 : decode cX1_solve 107 = .ok (.iload_n 3, 1) := by decide +kernel
theorem dX1_solve_108 : decode cX1_solve 108 = .ok (.invokevirtual 39, 3) := by decide +kernel
theorem dX1_solve_111 : decode cX1_solve 111 = .ok (.iinc 4 1, 3) := by decide +kernel
theorem dX1_solve_114 : decode cX1_solve 114 = .ok (.goto (-29), 3) := by decide +kernel
theorem dX1_solve_117 : decode cX1_solve 117 = .ok (.iconst 0, 1) := by decide +kernel
theorem dX1_solve_118 : decode cX1_solve 118 = .ok (.istore 4, 2) := by decide +kernel
theorem dX1_solve_120 : decode cX1_solve 120 = .ok (.iload 4, 2) := by decide +kernel
theorem dX1_solve_122 : decode cX1_solve 122 = .ok (.bipush 64, 2) := by decide +kernel
theorem dX1_solve_124 : decode cX1_solve 124 = .ok (.if_icmp .ge 33, 3) := by decide +kernel
theorem dX1_solve_127 : decode cX1_solve 127 = .ok (.aload_n 0, 1) := by decide +kernel
theorem dX1_solve_128 : decode cX1_solve 128 = .ok (.getfield 25, 3) := by decide +kernel
theorem dX1_solve_131 : decode cX1_solve 131 = .ok (.iload 4, 2) := by decide +kernel
theorem dX1_solve_133 : decode cX1_solve 133 = .ok (.invokevirtual 35, 3) := by decide +kernel
theorem dX1_solve_136 : decode cX1_solve 136 = .ok (.ifCond .eq 15, 3) := by decide +kernel
theorem dX1_solve_139 : decode cX1_solve 139 = .ok (.aload_n 0, 1) := by decide +kernel
theorem dX1_solve_140 : decode cX1_solve 140 = .ok (.iload 4, 2) := by decide +kernel
theorem dX1_solve_142 : decode cX1_solve 142 = .ok (.iload_n 3, 1) := by decide +kernel
theorem dX1_solve_143 : decode cX1_solve 143 = .ok (.invokevirtual 43, 3) := by decide +kernel
theorem dX1_solve_146 : decode cX1_solve 146 = .ok (.ifCond .eq 5, 3) := by decide +kernel
theorem dX1_solve_149 : decode cX1_solve 149 = .ok (.iconst 1, 1) := by decide +kernel
theorem dX1_solve_150 : decode cX1_solve 150 = .ok (.istore_n 2, 1) := by decide +kernel
theorem dX1_solve_151 : decode cX1_solve 151 = .ok (.iinc 4 1, 3) := by decide +kernel
theorem dX1_solve_154 : decode cX1_solve 154 = .ok (.goto (-34), 3) := by decide +kernel
theorem dX1_solve_157 : decode cX1_solve 157 = .ok (.iinc 3 1, 3) := by decide +kernel
theorem dX1_solve_160 : decode cX1_solve 160 = .ok (.goto (-90), 3) := by decide +kernel
theorem dX1_solve_163 : decode cX1_solve 163 = .ok (.return_, 1) := by decide +kernel
theorem dX1_findMoved_0 : decode cX1_findMoved 0 = .ok (.aload_n 0, 1) := by decide +kernel
theorem dX1_findMoved_1 : decode cX1_findMoved 1 = .ok (.aload_n 0, 1) := by decide +kernel
theorem dX1_findMoved_2 : decode cX1_findMoved 2 = .ok (.getfield 25, 3) := by decide +kernel
theorem dX1_findMoved_5 : decode cX1_findMoved 5 = .ok (.iload_n 1, 1) := by decide +kernel
theorem dX1_findMoved_6 : decode cX1_findMoved 6 = .ok (.invokevirtual 47, 3) := by decide +kernel
theorem dX1_findMoved_9 : decode cX1_findMoved 9 = .ok (.putfield 51, 3) := by decide +kernel
theorem dX1_findMoved_12 : decode cX1_findMoved 12 = .ok (.aload_n 0, 1) := by decide +kernel
theorem dX1_findMoved_13 : decode cX1_findMoved 13 = .ok (.iload_n 1, 1) := by decide +kernel
theorem dX1_findMoved_14 : decode cX1_findMoved 14 = .ok (.invokevirtual 54, 3) := by decide +kernel
theorem dX1_findMoved_17 : decode cX1_findMoved 17 = .ok (.iconst 0, 1) := by decide +kernel
theorem dX1_findMoved_18 : decode cX1_findMoved 18 = .ok (.istore_n 3, 1) := by decide +kernel
theorem dX1_findMoved_19 : decode cX1_findMoved 19 = .ok (.iconst 0, 1) := by decide +kernel
theorem dX1_findMoved_20 : decode cX1_findMoved 20 = .ok (.istore 4, 2) := by decide +kernel
theorem dX1_findMoved_22 : decode cX1_findMoved 22 = .ok (.iload 4, 2) := by decide +kernel
theorem dX1_findMoved_24 : decode cX1_findMoved 24 = .ok (.aload_n 0, 1) := by decide +kernel
theorem dX1_findMoved_25 : decode cX1_findMoved 25 = .ok (.getfield 25, 3) := by decide +kernel
theorem dX1_findMoved_28 : decode cX1_findMoved 28 = .ok (.getfield 32, 3) := by decide +kernel
theorem dX1_findMoved_31 : decode cX1_findMoved 31 = .ok (.if_icmp .ge 45, 3) := by decide +kernel
theorem dX1_findMoved_34 : decode cX1_findMoved 34 = .ok (.aload_n 0, 1) := by decide +kernel
theorem dX1_findMoved_35 : decode cX1_findMoved 35 = .ok (.getfield 51, 3) := by decide +kernel
theorem dX1_findMoved_38 : decode cX1_findMoved 38 = .ok (.iload 4, 2) := by decide +kernel
theorem dX1_findMoved_40 : decode cX1_findMoved 40 = .ok (.ishr, 1) := by decide +kernel
theorem dX1_findMoved_41 : decode cX1_findMoved 41 = .ok (.iconst 1, 1) := by decide +kernel
theorem dX1_findMoved_42 : decode cX1_findMoved 42 = .ok (.iand, 1) := by decide +kernel
theorem dX1_findMoved_43 : decode cX1_findMoved 43 = .ok (.ifCond .eq 27, 3) := by decide +kernel
theorem dX1_findMoved_46 : decode cX1_findMoved 46 = .ok (.aload_n 0, 1) := by decide +kernel
theorem dX1_findMoved_47 : decode cX1_findMoved 47 = .ok (.iload_n 1, 1) := by decide +kernel
theorem dX1_findMoved_48 : decode cX1_findMoved 48 = .ok (.aload_n 0, 1) := by decide +kernel
theorem dX1_findMoved_49 : decode cX1_findMoved 49 = .ok (.getfield 22, 3) := by decide +kernel
theorem dX1_findMoved_52 : decode cX1_findMoved 52 = .ok (.iconst 1, 1) := by decide +kernel
theorem dX1_findMoved_53 : decode cX1_findMoved 53 = .ok (.iload 4, 2) := by decide +kernel
theorem dX1_findMoved_55 : decode cX1_findMoved 55 = .ok (.ishl, 1) := by decide +kernel
theorem dX1_findMoved_56 : decode cX1_findMoved 56 = .ok (.iaload, 1) := by decide +kernel
theorem dX1_findMoved_57 : decode cX1_findMoved 57 = .ok (.invokevirtual 58, 3) := by decide +kernel
theorem dX1_findMoved_60 : decode cX1_findMoved 60 = .ok (.ifCond .eq 10, 3) := by decide +kernel
theorem dX1_findMoved_63 : decode cX1_findMoved 63 = .ok (.iload_n 3, 1) := by decide +kernel
theorem dX1_findMoved_64 : decode cX1_findMoved 64 = .ok (.iconst 1, 1) := by decide +kernel
theorem dX1_findMoved_65 : decode cX1_findMoved 65 = .ok (.iload 4, 2) := by decide +kernel
theorem dX1_findMoved_67 : decode cX1_findMoved 67 = .ok (.ishl, 1) := by decide +kernel
theorem dX1_findMoved_68 : decode cX1_findMoved 68 = .ok (.ior, 1) := by decide +kernel
theorem dX1_findMoved_69 : decode cX1_findMoved 69 = .ok (.istore_n 3, 1) := by decide +kernel
theorem dX1_findMoved_70 : decode cX1_findMoved 70 = .ok (.iinc 4 1, 3) := by decide +kernel
theorem dX1_findMoved_73 : decode cX1_findMoved 73 = .ok (.goto (-51), 3) := by decide +kernel
theorem dX1_findMoved_76 : decode cX1_findMoved 76 = .ok (.iconst 0, 1) := by decide +kernel
theorem dX1_findMoved_77 : decode cX1_findMoved 77 = .ok (.istore 4, 2) := by decide +kernel
theorem dX1_findMoved_79 : decode cX1_findMoved 79 = .ok (.iload 4, 2) := by decide +kernel
theorem dX1_findMoved_81 : decode cX1_findMoved 81 = .ok (.aload_n 0, 1) := by decide +kernel
theorem dX1_findMoved_82 : decode cX1_findMoved 82 = .ok (.getfield 25, 3) := by decide +kernel
theorem dX1_findMoved_85 : decode cX1_findMoved 85 = .ok (.invokevirtual 61, 3) := by decide +kernel
theorem dX1_findMoved_88 : decode cX1_findMoved 88 = .ok (.if_icmp .gt 72, 3) := by decide +kernel
theorem dX1_findMoved_91 : decode cX1_findMoved 91 = .ok (.iload_n 1, 1) := by decide +kernel
theorem dX1_findMoved_92 : decode cX1_findMoved 92 = .ok (.bipush 64, 2) := by decide +kernel
theorem dX1_findMoved_94 : decode cX1_findMoved 94 = .ok (.imul, 1) := by decide +kernel
theorem dX1_findMoved_95 : decode cX1_findMoved 95 = .ok (.iload 4, 2) := by decide +kernel
theorem dX1_findMoved_97 : decode cX1_findMoved 97 = .ok (.iadd, 1) := by decide +kernel
theorem dX1_findMoved_98 : decode cX1_findMoved 98 = .ok (.istore 5, 2) := by decide +kernel
theorem dX1_findMoved_100 : decode cX1_findMoved 100 = .ok (.aload_n 0, 1) := by decide +kernel
theorem dX1_findMoved_101 : decode cX1_findMoved 101 = .ok (.getfield 19, 3) := by decide +kernel
theorem dX1_findMoved_104 : decode cX1_findMoved 104 = .ok (.iload 5, 2) := by decide +kernel
theorem dX1_findMoved_106 : decode cX1_findMoved 106 = .ok (.iaload, 1) := by decide +kernel
theorem dX1_findMoved_107 : decode cX1_findMoved 107 = .ok (.ifCond .ne 47, 3) := by decide +kernel
theorem dX1_findMoved_110 : decode cX1_findMoved 110 = .ok (.iload 4, 2) := by decide +kernel
theorem dX1_findMoved_112 : decode cX1_findMoved 112 = .ok (.aload_n 0, 1) := by decide +kernel
theorem dX1_findMoved_113 : decode cX1_findMoved 113 = .ok (.getfield 51, 3) := by decide +kernel
theorem dX1_findMoved_116 : decode cX1_findMoved 116 = .ok (.iand, 1) := by decide +kernel
theorem dX1_findMoved_117 : decode cX1_findMoved 117 = .ok (.iload_n 3, 1) := by decide +kernel
theorem dX1_findMoved_118 : decode cX1_findMoved 118 = .ok (.iconst (-1), 1) := by decide +kernel
theorem dX1_findMoved_119 : decode cX1_findMoved 119 = .ok (.ixor, 1) := by decide +kernel
theorem dX1_findMoved_120 : decode cX1_findMoved 120 = .ok (.iand, 1) := by decide +kernel
theorem dX1_findMoved_121 : decode cX1_findMoved 121 = .ok (.ifCond .ne 33, 3) := by decide +kernel
theorem dX1_findMoved_124 : decode cX1_findMoved 124 = .ok (.aload_n 0, 1) := by decide +kernel
theorem dX1_findMoved_125 : decode cX1_findMoved 125 = .ok (.iload_n 1, 1) := by decide +kernel
theorem dX1_findMoved_126 : decode cX1_findMoved 126 = .ok (.aload_n 0, 1) := by decide +kernel
theorem dX1_findMoved_127 : decode cX1_findMoved 127 = .ok (.getfield 22, 3) := by decide +kernel
theorem dX1_findMoved_130 : decode cX1_findMoved 130 = .ok (.iload 4, 2) := by decide +kernel
theorem dX1_findMoved_132 : decode cX1_findMoved 132 = .ok (.aload_n 0, 1) := by decide +kernel
theorem dX1_findMoved_133 : decode cX1_findMoved 133 = .ok (.getfield 51, 3) := by decide +kernel
theorem dX1_findMoved_136 : decode cX1_findMoved 136 = .ok (.iconst (-1), 1) := by decide +kernel
theorem dX1_findMoved_137 : decode cX1_findMoved 137 = .ok (.ixor, 1) := by decide +kernel
theorem dX1_findMoved_138 : decode cX1_findMoved 138 = .ok (.iand, 1) := by decide +kernel
theorem dX1_findMoved_139 : decode cX1_findMoved 139 = .ok (.iaload, 1) := by decide +kernel
theorem dX1_findMoved_140 : decode cX1_findMoved 140 = .ok (.invokevirtual 58, 3) := by decide +kernel
theorem dX1_findMoved_143 : decode cX1_findMoved 143 = .ok (.ifCond .eq 11, 3) := by decide +kernel
theorem dX1_findMoved_146 : decode cX1_findMoved 146 = .ok (.aload_n 0, 1) := by decide +kernel
theorem dX1_findMoved_147 : decode cX1_findMoved 147 = .ok (.getfield 19, 3) := by decide +kernel
theorem dX1_findMoved_150 : decode cX1_findMoved 150 = .ok (.iload 5, 2) := by decide +kernel
theorem dX1_findMoved_152 : decode cX1_findMoved 152 = .ok (.iload_n 2, 1) := by decide +kernel
theorem dX1_findMoved_153 : decode cX1_findMoved 153 = .ok (.iastore, 1) := by decide +kernel
theorem dX1_findMoved_154 : decode cX1_findMoved 154 = .ok (.iinc 4 1, 3) := by decide +kernel
theorem dX1_findMoved_157 : decode cX1_findMoved 157 = .ok (.goto (-78), 3) := by decide +kernel
theorem dX1_findMoved_160 : decode cX1_findMoved 160 = .ok (.return_, 1) := by decide +kernel
theorem dX1_reckonReached_0 : decode cX1_reckonReached 0 = .ok (.aload_n 0, 1) := by decide +kernel
theorem dX1_reckonReached_1 : decode cX1_reckonReached 1 = .ok (.getfield 22, 3) := by decide +kernel
theorem dX1_reckonReached_4 : decode cX1_reckonReached 4 = .ok (.iconst 0, 1) := by decide +kernel
theorem dX1_reckonReached_5 : decode cX1_reckonReached 5 = .ok (.iconst 0, 1) := by decide +kernel
theorem dX1_reckonReached_6 : decode cX1_reckonReached 6 = .ok (.iastore, 1) := by decide +kernel
theorem dX1_reckonReached_7 : decode cX1_reckonReached 7 = .ok (.iconst 0, 1) := by decide +kernel
theorem dX1_reckonReached_8 : decode cX1_reckonReached 8 = .ok (.istore_n 2, 1) := by decide +kernel
theorem dX1_reckonReached_9 : decode cX1_reckonReached 9 = .ok (.iload_n 2, 1) := by decide +kernel
theorem dX1_reckonReached_10 : decode cX1_reckonReached 10 = .ok (.aload_n 0, 1) := by decide +kernel
theorem dX1_reckonReached_11 : decode cX1_reckonReached 11 = .ok (.getfield 25, 3) := by decide +kernel
theorem dX1_reckonReached_14 : decode cX1_reckonReached 14 = .ok (.getfield 32, 3) := by decide +kernel
theorem dX1_reckonReached_17 : decode cX1_reckonReached 17 = .ok (.if_icmp .ge 60, 3) := by decide +kernel
theorem dX1_reckonReached_20 : decode cX1_reckonReached 20 = .ok (.aload_n 0, 1) := by decide +kernel
theorem dX1_reckonReached_21 : decode cX1_reckonReached 21 = .ok (.getfield 25, 3) := by decide +kernel
theorem dX1_reckonReached_24 : decode cX1_reckonReached 24 = .ok (.iload_n 2, 1) := by decide +kernel
theorem dX1_reckonReached_25 : decode cX1_reckonReached 25 = .ok (.iload_n 1, 1) := by decide +kernel
theorem dX1_reckonReached_26 : decode cX1_reckonReached 26 = .ok (.iconst 0, 1) := by decide +kernel
theorem dX1_reckonReached_27 : decode cX1_reckonReached 27 = .ok (.invokevirtual 65, 3) := by decide +kernel
theorem dX1_reckonReached_30 : decode cX1_reckonReached 30 = .ok (.istore_n 3, 1) := by decide +kernel
theorem dX1_reckonReached_31 : decode cX1_reckonReached 31 = .ok (.iconst 1, 1) := by decide +kernel
theorem dX1_reckonReached_32 : decode cX1_reckonReached 32 = .ok (.iload_n 2, 1) := by decide +kernel
theorem dX1_reckonReached_33 : decode cX1_reckonReached 33 = .ok (.ishl, 1) := by decide +kernel
theorem dX1_reckonReached_34 : decode cX1_reckonReached 34 = .ok (.istore 4, 2) := by decide +kernel
theorem dX1_reckonReached_36 : decode cX1_reckonReached 36 = .ok (.iconst 0, 1) := by decide +kernel
theorem dX1_reckonReached_37 : decode cX1_reckonReached 37 = .ok (.istore 5, 2) := by decide +kernel
theorem dX1_reckonReached_39 : decode cX1_reckonReached 39 = .ok (.iload 5, 2) := by decide +kernel
theorem dX1_reckonReached_41 : decode cX1_reckonReached 41 = .ok (.iload 4, 2) := by decide +kernel
theorem dX1_reckonReached_43 : decode cX1_reckonReached 43 = .ok (.if_icmp .ge 28, 3) := by decide +kernel
theorem dX1_reckonReached_46 : decode cX1_reckonReached 46 = .ok (.aload_n 0, 1) := by decide +kernel
theorem dX1_reckonReached_47 : decode cX1_reckonReached 47 = .ok (.getfield 22, 3) := by decide +kernel
theorem dX1_reckonReached_50 : decode cX1_reckonReached 50 = .ok (.iload 4, 2) := by decide +kernel
theorem dX1_reckonReached_52 : decode cX1_reckonReached 52 = .ok (.iload 5, 2) := by decide +kernel
theorem dX1_reckonReached_54 : decode cX1_reckonReached 54 = .ok (.iadd, 1) := by decide +kernel
theorem dX1_reckonReached_55 : decode cX1_reckonReached 55 = .ok (.aload_n 0, 1) := by decide +kernel
theorem dX1_reckonReached_56 : decode cX1_reckonReached 56 = .ok (.getfield 22, 3) := by decide +kernel
theorem dX1_reckonReached_59 : decode cX1_reckonReached 59 = .ok (.iload 5, 2) := by decide +kernel
theorem dX1_reckonReached_61 : decode cX1_reckonReached 61 = .ok (.iaload, 1) := by decide +kernel
theorem dX1_reckonReached_62 : decode cX1_reckonReached 62 = .ok (.iload_n 3, 1) := by decide +kernel
theorem dX1_reckonReached_63 : decode cX1_reckonReached 63 = .ok (.ior, 1) := by decide +kernel
theorem dX1_reckonReached_64 : decode cX1_reckonReached 64 = .ok (.iastore, 1) := by decide +kernel
theorem dX1_reckonReached_65 : decode cX1_reckonReached 65 = .ok (.iinc 5 1, 3) := by decide +kernel
theorem dX1_reckonReached_68 : decode cX1_reckonReached 68 = .ok (.goto (-29), 3) := by decide +kernel
theorem dX1_reckonReached_71 : decode cX1_reckonReached 71 = .ok (.iinc 2 1, 3) := by decide +kernel
theorem dX1_reckonReached_74 : decode cX1_reckonReached 74 = .ok (.goto (-65), 3) := by decide +kernel
theorem dX1_reckonReached_77 : decode cX1_reckonReached 77 = .ok (.return_, 1) := by decide +kernel
theorem dX1_isSureBehind_0 : decode cX1_isSureBehind 0 = .ok (.iload_n 1, 1) := by decide +kernel
theorem dX1_isSureBehind_1 : decode cX1_isSureBehind 1 = .ok (.bipush 64, 2) := by decide +kernel
theorem dX1_isSureBehind_3 : decode cX1_isSureBehind 3 = .ok (.imul, 1) := by decide +kernel
theorem dX1_isSureBehind_4 : decode cX1_isSureBehind 4 = .ok (.istore_n 3, 1) := by decide +kernel
theorem dX1_isSureBehind_5 : decode cX1_isSureBehind 5 = .ok (.aload_n 0, 1) := by decide +kernel
theorem dX1_isSureBehind_6 : decode cX1_isSureBehind 6 = .ok (.getfield 15, 3) := by decide +kernel
theorem dX1_isSureBehind_9 : decode cX1_isSureBehind 9 = .ok (.iload_n 3, 1) := by decide +kernel
theorem dX1_isSureBehind_10 : decode cX1_isSureBehind 10 = .ok (.iload_n 2, 1) := by decide +kernel
theorem dX1_isSureBehind_11 : decode cX1_isSureBehind 11 = .ok (.aload_n 0, 1) := by decide +kernel
theorem dX1_isSureBehind_12 : decode cX1_isSureBehind 12 = .ok (.getfield 51, 3) := by decide +kernel
theorem dX1_isSureBehind_15 : decode cX1_isSureBehind 15 = .ok (.iconst (-1), 1) := by decide +kernel
theorem dX1_isSureBehind_16 : decode cX1_isSureBehind 16 = .ok (.ixor, 1) := by decide +kernel
theorem dX1_isSureBehind_17 : decode cX1_isSureBehind 17 = .ok (.iand, 1) := by decide +kernel
theorem dX1_isSureBehind_18 : decode cX1_isSureBehind 18 = .ok (.iadd, 1) := by decide +kernel
theorem dX1_isSureBehind_19 : decode cX1_isSureBehind 19 = .ok (.iaload, 1) := by decide +kernel
theorem dX1_isSureBehind_20 : decode cX1_isSureBehind 20 = .ok (.ifCond .ge 5, 3) := by decide +kernel
theorem dX1_isSureBehind_23 : decode cX1_isSureBehind 23 = .ok (.iconst 0, 1) := by decide +kernel
theorem dX1_isSureBehind_24 : decode cX1_isSureBehind 24 = .ok (.ireturn, 1) := by decide +kernel
theorem dX1_isSureBehind_25 : decode cX1_isSureBehind 25 = .ok (.iconst 0, 1) := by decide +kernel
theorem dX1_isSureBehind_26 : decode cX1_isSureBehind 26 = .ok (.istore 4, 2) := by decide +kernel
theorem dX1_isSureBehind_28 : decode cX1_isSureBehind 28 = .ok (.iload 4, 2) := by decide +kernel
theorem dX1_isSureBehind_30 : decode cX1_isSureBehind 30 = .ok (.aload_n 0, 1) := by decide +kernel
theorem dX1_isSureBehind_31 : decode cX1_isSureBehind 31 = .ok (.getfield 25, 3) := by decide +kernel
theorem dX1_isSureBehind_34 : decode cX1_isSureBehind 34 = .ok (.getfield 32, 3) := by decide +kernel
theorem dX1_isSureBehind_37 : decode cX1_isSureBehind 37 = .ok (.if_icmp .ge 39, 3) := by decide +kernel
theorem dX1_isSureBehind_40 : decode cX1_isSureBehind 40 = .ok (.iload_n 2, 1) := by decide +kernel
theorem dX1_isSureBehind_41 : decode cX1_isSureBehind 41 = .ok (.aload_n 0, 1) := by decide +kernel
theorem dX1_isSureBehind_42 : decode cX1_isSureBehind 42 = .ok (.getfield 51, 3) := by decide +kernel
theorem dX1_isSureBehind_45 : decode cX1_isSureBehind 45 = .ok (.iand, 1) := by decide +kernel
theorem dX1_isSureBehind_46 : decode cX1_isSureBehind 46 = .ok (.iconst 1, 1) := by decide +kernel
theorem dX1_isSureBehind_47 : decode cX1_isSureBehind 47 = .ok (.iload 4, 2) := by decide +kernel
theorem dX1_isSureBehind_49 : decode cX1_isSureBehind 49 = .ok (.ishl, 1) := by decide +kernel
theorem dX1_isSureBehind_50 : decode cX1_isSureBehind 50 = .ok (.iand, 1) := by decide +kernel
theorem dX1_isSureBehind_51 : decode cX1_isSureBehind 51 = .ok (.ifCond .eq 19, 3) := by decide +kernel
theorem dX1_isSureBehind_54 : decode cX1_isSureBehind 54 = .ok (.aload_n 0, 1) := by decide +kernel
theorem dX1_isSureBehind_55 : decode cX1_isSureBehind 55 = .ok (.getfield 15, 3) := by decide +kernel
theorem dX1_isSureBehind_58 : decode cX1_isSureBehind 58 = .ok (.iload_n 3, 1) := by decide +kernel
theorem dX1_isSureBehind_59 : decode cX1_isSureBehind 59 = .ok (.iconst 1, 1) := by decide +kernel
theorem dX1_isSureBehind_60 : decode cX1_isSureBehind 60 = .ok (.iload 4, 2) := by decide +kernel
theorem dX1_isSureBehind_62 : decode cX1_isSureBehind 62 = .ok (.ishl, 1) := by decide +kernel
theorem dX1_isSureBehind_63 : decode cX1_isSureBehind 63 = .ok (.iadd, 1) := by decide +kernel
theorem dX1_isSureBehind_64 : decode cX1_isSureBehind 64 = .ok (.iaload, 1) := by decide +kernel
theorem dX1_isSureBehind_65 : decode cX1_isSureBehind 65 = .ok (.ifCond .ge 5, 3) := by decide +kernel
theorem dX1_isSureBehind_68 : decode cX1_isSureBehind 68 = .ok (.iconst 0, 1) := by decide +kernel
theorem dX1_isSureBehind_69 : decode cX1_isSureBehind 69 = .ok (.ireturn, 1) := by decide +kernel
theorem dX1_isSureBehind_70 : decode cX1_isSureBehind 70 = .ok (.iinc 4 1, 3) := by decide +kernel
theorem dX1_isSureBehind_73 : decode cX1_isSureBehind 73 = .ok (.goto (-45), 3) := by decide +kernel
theorem dX1_isSureBehind_76 : decode cX1_isSureBehind 76 = .ok (.iconst 1, 1) := by decide +kernel
theorem dX1_isSureBehind_77 : decode cX1_isSureBehind 77 = .ok (.ireturn, 1) := by decide +kernel
theorem dX1_findLeast_0 : decode cX1_findLeast 0 = .ok (.iconst 0, 1) := by decide +kernel
theorem dX1_findLeast_1 : decode cX1_findLeast 1 = .ok (.istore_n 3, 1) := by decide +kernel
theorem dX1_findLeast_2 : decode cX1_findLeast 2 = .ok (.iconst 0, 1) := by decide +kernel
theorem dX1_findLeast_3 : decode cX1_findLeast 3 = .ok (.istore 4, 2) := by decide +kernel
theorem dX1_findLeast_5 : decode cX1_findLeast 5 = .ok (.iload 4, 2) := by decide +kernel
theorem dX1_findLeast_7 : decode cX1_findLeast 7 = .ok (.bipush 32, 2) := by decide +kernel
theorem dX1_findLeast_9 : decode cX1_findLeast 9 = .ok (.if_icmp .gt 94, 3) := by decide +kernel
theorem dX1_findLeast_12 : decode cX1_findLeast 12 = .ok (.aload_n 0, 1) := by decide +kernel
theorem dX1_findLeast_13 : decode cX1_findLeast 13 = .ok (.getfield 25, 3) := by decide +kernel
theorem dX1_findLeast_16 : decode cX1_findLeast 16 = .ok (.iload_n 1, 1) := by decide +kernel
theorem dX1_findLeast_17 : decode cX1_findLeast 17 = .ok (.iload 4, 2) := by decide +kernel
theorem dX1_findLeast_19 : decode cX1_findLeast 19 = .ok (.invokevirtual 69, 3) := by decide +kernel
theorem dX1_findLeast_22 : decode cX1_findLeast 22 = .ok (.istore 5, 2) := by decide +kernel
theorem dX1_findLeast_24 : decode cX1_findLeast 24 = .ok (.iload 5, 2) := by decide +kernel
theorem dX1_findLeast_26 : decode cX1_findLeast 26 = .ok (.ifCond .ge 6, 3) := by decide +kernel
theorem dX1_findLeast_29 : decode cX1_findLeast 29 = .ok (.goto 68, 3) := by decide +kernel
theorem dX1_findLeast_32 : decode cX1_findLeast 32 = .ok (.iconst 0, 1) := by decide +kernel
theorem dX1_findLeast_33 : decode cX1_findLeast 33 = .ok (.istore 6, 2) := by decide +kernel
theorem dX1_findLeast_35 : decode cX1_findLeast 35 = .ok (.iload 6, 2) := by decide +kernel
theorem dX1_findLeast_37 : decode cX1_findLeast 37 = .ok (.aload_n 0, 1) := by decide +kernel
theorem dX1_findLeast_38 : decode cX1_findLeast 38 = .ok (.getfield 25, 3) := by decide +kernel
theorem dX1_findLeast_41 : decode cX1_findLeast 41 = .ok (.invokevirtual 61, 3) := by decide +kernel
theorem dX1_findLeast_44 : decode cX1_findLeast 44 = .ok (.if_icmp .gt 53, 3) := by decide +kernel
theorem dX1_findLeast_47 : decode cX1_findLeast 47 = .ok (.iload_n 1, 1) := by decide +kernel
theorem dX1_findLeast_48 : decode cX1_findLeast 48 = .ok (.bipush 64, 2) := by decide +kernel
theorem dX1_findLeast_50 : decode cX1_findLeast 50 = .ok (.imul, 1) := by decide +kernel
theorem dX1_findLeast_51 : decode cX1_findLeast 51 = .ok (.iload 6, 2) := by decide +kernel
theorem dX1_findLeast_53 : decode cX1_findLeast 53 = .ok (.iadd, 1) := by decide +kernel
theorem dX1_findLeast_54 : decode cX1_findLeast 54 = .ok (.istore 7, 2) := by decide +kernel
theorem dX1_findLeast_56 : decode cX1_findLeast 56 = .ok (.aload_n 0, 1) := by decide +kernel
theorem dX1_findLeast_57 : decode cX1_findLeast 57 = .ok (.getfield 15, 3) := by decide +kernel
theorem dX1_findLeast_60 : decode cX1_findLeast 60 = .ok (.iload 7, 2) := by decide +kernel
theorem dX1_findLeast_62 : decode cX1_findLeast 62 = .ok (.iaload, 1) := by decide +kernel
theorem dX1_findLeast_63 : decode cX1_findLeast 63 = .ok (.ifCond .ge 28, 3) := by decide +kernel
theorem dX1_findLeast_66 : decode cX1_findLeast 66 = .ok (.aload_n 0, 1) := by decide +kernel
theorem dX1_findLeast_67 : decode cX1_findLeast 67 = .ok (.getfield 19, 3) := by decide +kernel
theorem dX1_findLeast_70 : decode cX1_findLeast 70 = .ok (.iload 5, 2) := by decide +kernel
theorem dX1_findLeast_72 : decode cX1_findLeast 72 = .ok (.iload 6, 2) := by decide +kernel
theorem dX1_findLeast_74 : decode cX1_findLeast 74 = .ok (.invokestatic 73, 3) := by decide +kernel
theorem dX1_findLeast_77 : decode cX1_findLeast 77 = .ok (.iaload, 1) := by decide +kernel
theorem dX1_findLeast_78 : decode cX1_findLeast 78 = .ok (.ifCond .le 13, 3) := by decide +kernel
theorem dX1_findLeast_81 : decode cX1_findLeast 81 = .ok (.aload_n 0, 1) := by decide +kernel
theorem dX1_findLeast_82 : decode cX1_findLeast 82 = .ok (.getfield 15, 3) := by decide +kernel
theorem dX1_findLeast_85 : decode cX1_findLeast 85 = .ok (.iload 7, 2) := by decide +kernel
theorem dX1_findLeast_87 : decode cX1_findLeast 87 = .ok (.iload_n 2, 1) := by decide +kernel
theorem dX1_findLeast_88 : decode cX1_findLeast 88 = .ok (.iastore, 1) := by decide +kernel
theorem dX1_findLeast_89 : decode cX1_findLeast 89 = .ok (.iconst 1, 1) := by decide +kernel
theorem dX1_findLeast_90 : decode cX1_findLeast 90 = .ok (.istore_n 3, 1) := by decide +kernel
theorem dX1_findLeast_91 : decode cX1_findLeast 91 = .ok (.iinc 6 1, 3) := by decide +kernel
theorem dX1_findLeast_94 : decode cX1_findLeast 94 = .ok (.goto (-59), 3) := by decide +kernel
theorem dX1_findLeast_97 : decode cX1_findLeast 97 = .ok (.iinc 4 1, 3) := by decide +kernel
theorem dX1_findLeast_100 : decode cX1_findLeast 100 = .ok (.goto (-95), 3) := by decide +kernel
theorem dX1_findLeast_103 : decode cX1_findLeast 103 = .ok (.iload_n 3, 1) := by decide +kernel
theorem dX1_findLeast_104 : decode cX1_findLeast 104 = .ok (.ireturn, 1) := by decide +kernel
theorem dX1_moved_0 : decode cX1_moved 0 = .ok (.iload_n 0, 1) := by decide +kernel
theorem dX1_moved_1 : decode cX1_moved 1 = .ok (.bipush 64, 2) := by decide +kernel
theorem dX1_moved_3 : decode cX1_moved 3 = .ok (.imul, 1) := by decide +kernel
theorem dX1_moved_4 : decode cX1_moved 4 = .ok (.iload_n 1, 1) := by decide +kernel
theorem dX1_moved_5 : decode cX1_moved 5 = .ok (.iload_n 0, 1) := by decide +kernel
theorem dX1_moved_6 : decode cX1_moved 6 = .ok (.invokestatic 76, 3) := by decide +kernel
theorem dX1_moved_9 : decode cX1_moved 9 = .ok (.iconst (-1), 1) := by decide +kernel
theorem dX1_moved_10 : decode cX1_moved 10 = .ok (.ixor, 1) := by decide +kernel
theorem dX1_moved_11 : decode cX1_moved 11 = .ok (.iand, 1) := by decide +kernel
theorem dX1_moved_12 : decode cX1_moved 12 = .ok (.iadd, 1) := by decide +kernel
theorem dX1_moved_13 : decode cX1_moved 13 = .ok (.ireturn, 1) := by decide +kernel
theorem dX1_leastRounds_0 : decode cX1_leastRounds 0 = .ok (.aload_n 0, 1) := by decide +kernel
theorem dX1_leastRounds_1 : decode cX1_leastRounds 1 = .ok (.getfield 15, 3) := by decide +kernel
theorem dX1_leastRounds_4 : decode cX1_leastRounds 4 = .ok (.iload_n 1, 1) := by decide +kernel
theorem dX1_leastRounds_5 : decode cX1_leastRounds 5 = .ok (.bipush 64, 2) := by decide +kernel
theorem dX1_leastRounds_7 : decode cX1_leastRounds 7 = .ok (.imul, 1) := by decide +kernel
theorem dX1_leastRounds_8 : decode cX1_leastRounds 8 = .ok (.iload_n 2, 1) := by decide +kernel
theorem dX1_leastRounds_9 : decode cX1_leastRounds 9 = .ok (.iadd, 1) := by decide +kernel
theorem dX1_leastRounds_10 : decode cX1_leastRounds 10 = .ok (.iaload, 1) := by decide +kernel
theorem dX1_leastRounds_11 : decode cX1_leastRounds 11 = .ok (.ireturn, 1) := by decide +kernel
theorem dX1_surestMove_0 : decode cX1_surestMove 0 = .ok (.aload_n 0, 1) := by decide +kernel
theorem dX1_surestMove_1 : decode cX1_surestMove 1 = .ok (.iload_n 1, 1) := by decide +kernel
theorem dX1_surestMove_2 : decode cX1_surestMove 2 = .ok (.iload_n 2, 1) := by decide +kernel
theorem dX1_surestMove_3 : decode cX1_surestMove 3 = .ok (.invokevirtual 79, 3) := by decide +kernel
theorem dX1_surestMove_6 : decode cX1_surestMove 6 = .ok (.istore_n 3, 1) := by decide +kernel
theorem dX1_surestMove_7 : decode cX1_surestMove 7 = .ok (.iconst 0, 1) := by decide +kernel
theorem dX1_surestMove_8 : decode cX1_surestMove 8 = .ok (.istore 4, 2) := by decide +kernel
theorem dX1_surestMove_10 : decode cX1_surestMove 10 = .ok (.iload 4, 2) := by decide +kernel
theorem dX1_surestMove_12 : decode cX1_surestMove 12 = .ok (.bipush 32, 2) := by decide +kernel
theorem dX1_surestMove_14 : decode cX1_surestMove 14 = .ok (.if_icmp .gt 57, 3) := by decide +kernel
theorem dX1_surestMove_17 : decode cX1_surestMove 17 = .ok (.iload_n 3, 1) := by decide +kernel
theorem dX1_surestMove_18 : decode cX1_surestMove 18 = .ok (.ifCond .le 53, 3) := by decide +kernel
theorem dX1_surestMove_21 : decode cX1_surestMove 21 = .ok (.aload_n 0, 1) := by decide +kernel
theorem dX1_surestMove_22 : decode cX1_surestMove 22 = .ok (.getfield 25, 3) := by decide +kernel
theorem dX1_surestMove_25 : decode cX1_surestMove 25 = .ok (.iload_n 1, 1) := by decide +kernel
theorem dX1_surestMove_26 : decode cX1_surestMove 26 = .ok (.iload 4, 2) := by decide +kernel
theorem dX1_surestMove_28 : decode cX1_surestMove 28 = .ok (.invokevirtual 69, 3) := by decide +kernel
theorem dX1_surestMove_31 : decode cX1_surestMove 31 = .ok (.istore 5, 2) := by decide +kernel
theorem dX1_surestMove_33 : decode cX1_surestMove 33 = .ok (.iload 5, 2) := by decide +kernel
theorem dX1_surestMove_35 : decode cX1_surestMove 35 = .ok (.ifCond .lt 30, 3) := by decide +kernel
theorem dX1_surestMove_38 : decode cX1_surestMove 38 = .ok (.aload_n 0, 1) := by decide +kernel
theorem dX1_surestMove_39 : decode cX1_surestMove 39 = .ok (.getfield 19, 3) := by decide +kernel
theorem dX1_surestMove_42 : decode cX1_surestMove 42 = .ok (.iload 5, 2) := by decide +kernel
theorem dX1_surestMove_44 : decode cX1_surestMove 44 = .ok (.iload_n 2, 1) := by decide +kernel
theorem dX1_surestMove_45 : decode cX1_surestMove 45 = .ok (.invokestatic 73, 3) := by decide +kernel
theorem dX1_surestMove_48 : decode cX1_surestMove 48 = .ok (.iaload, 1) := by decide +kernel
theorem dX1_surestMove_49 : decode cX1_surestMove 49 = .ok (.istore 6, 2) := by decide +kernel
theorem dX1_surestMove_51 : decode cX1_surestMove 51 = .ok (.iload 6, 2) := by decide +kernel
theorem dX1_surestMove_53 : decode cX1_surestMove 53 = .ok (.ifCond .le 12, 3) := by decide +kernel
theorem dX1_surestMove_56 : decode cX1_surestMove 56 = .ok (.iload 6, 2) := by decide +kernel
theorem dX1_surestMove_58 : decode cX1_surestMove 58 = .ok (.iload_n 3, 1) := by decide +kernel
theorem dX1_surestMove_59 : decode cX1_surestMove 59 = .ok (.if_icmp .gt 6, 3) := by decide +kernel
theorem dX1_surestMove_62 : decode cX1_surestMove 62 = .ok (.iload 4, 2) := by decide +kernel
theorem dX1_surestMove_64 : decode cX1_surestMove 64 = .ok (.ireturn, 1) := by decide +kernel
theorem dX1_surestMove_65 : decode cX1_surestMove 65 = .ok (.iinc 4 1, 3) := by decide +kernel
theorem dX1_surestMove_68 : decode cX1_surestMove 68 = .ok (.goto (-58), 3) := by decide +kernel
theorem dX1_surestMove_71 : decode cX1_surestMove 71 = .ok (.iconst (-1), 1) := by decide +kernel
theorem dX1_surestMove_72 : decode cX1_surestMove 72 = .ok (.ireturn, 1) := by decide +kernel
theorem dX2_init_0 : decode cX2_init 0 = .ok (.aload_n 0, 1) := by decide +kernel
theorem dX2_init_1 : decode cX2_init 1 = .ok (.invokespecial 3, 3) := by decide +kernel
theorem dX2_init_4 : decode cX2_init 4 = .ok (.aload_n 0, 1) := by decide +kernel
theorem dX2_init_5 : decode cX2_init 5 = .ok (.iconst (-1), 1) := by decide +kernel
theorem dX2_init_6 : decode cX2_init 6 = .ok (.putfield 9, 3) := by decide +kernel
theorem dX2_init_9 : decode cX2_init 9 = .ok (.aload_n 0, 1) := by decide +kernel
theorem dX2_init_10 : decode cX2_init 10 = .ok (.iconst (-1), 1) := by decide +kernel
theorem dX2_init_11 : decode cX2_init 11 = .ok (.putfield 15, 3) := by decide +kernel
theorem dX2_init_14 : decode cX2_init 14 = .ok (.aload_n 0, 1) := by decide +kernel
theorem dX2_init_15 : decode cX2_init 15 = .ok (.bipush 64, 2) := by decide +kernel
theorem dX2_init_17 : decode cX2_init 17 = .ok (.newarray .int, 2) := by decide +kernel
theorem dX2_init_19 : decode cX2_init 19 = .ok (.putfield 18, 3) := by decide +kernel
theorem dX2_init_22 : decode cX2_init 22 = .ok (.aload_n 0, 1) := by decide +kernel
theorem dX2_init_23 : decode cX2_init 23 = .ok (.bipush 8, 2) := by decide +kernel
theorem dX2_init_25 : decode cX2_init 25 = .ok (.newarray .int, 2) := by decide +kernel
theorem dX2_init_27 : decode cX2_init 27 = .ok (.putfield 22, 3) := by decide +kernel
theorem dX2_init_30 : decode cX2_init 30 = .ok (.return_, 1) := by decide +kernel
theorem dX2_take_0 : decode cX2_take 0 = .ok (.aload_n 0, 1) := by decide +kernel
theorem dX2_take_1 : decode cX2_take 1 = .ok (.getfield 9, 3) := by decide +kernel
theorem dX2_take_4 : decode cX2_take 4 = .ok (.aload_n 1, 1) := by decide +kernel
theorem dX2_take_5 : decode cX2_take 5 = .ok (.getfield 25, 3) := by decide +kernel
theorem dX2_take_8 : decode cX2_take 8 = .ok (.if_icmp .ne 4, 3) := by decide +kernel
theorem dX2_take_11 : decode cX2_take 11 = .ok (.return_, 1) := by decide +kernel
theorem dX2_take_12 : decode cX2_take 12 = .ok (.aload_n 0, 1) := by decide +kernel
theorem dX2_take_13 : decode cX2_take 13 = .ok (.aload_n 1, 1) := by decide +kernel
theorem dX2_take_14 : decode cX2_take 14 = .ok (.putfield 28, 3) := by decide +kernel
theorem dX2_take_17 : decode cX2_take 17 = .ok (.aload_n 0, 1) := by decide +kernel
theorem dX2_take_18 : decode cX2_take 18 = .ok (.aload_n 1, 1) := by decide +kernel
theorem dX2_take_19 : decode cX2_take 19 = .ok (.getfield 25, 3) := by decide +kernel
theorem dX2_take_22 : decode cX2_take 22 = .ok (.putfield 9, 3) := by decide +kernel
theorem dX2_take_25 : decode cX2_take 25 = .ok (.aload_n 0, 1) := by decide +kernel
theorem dX2_take_26 : decode cX2_take 26 = .ok (.iconst (-1), 1) := by decide +kernel
theorem dX2_take_27 : decode cX2_take 27 = .ok (.putfield 15, 3) := by decide +kernel
theorem dX2_take_30 : decode cX2_take 30 = .ok (.iconst 0, 1) := by decide +kernel
theorem dX2_take_31 : decode cX2_take 31 = .ok (.istore_n 2, 1) := by decide +kernel
theorem dX2_take_32 : decode cX2_take 32 = .ok (.iload_n 2, 1) := by decide +kernel
theorem dX2_take_33 : decode cX2_take 33 = .ok (.bipush 64, 2) := by decide +kernel
theorem dX2_take_35 : decode cX2_take 35 = .ok (.if_icmp .ge 16, 3) := by decide +kernel
theorem dX2_take_38 : decode cX2_take 38 = .ok (.aload_n 0, 1) := by decide +kernel
theorem dX2_take_39 : decode cX2_take 39 = .ok (.getfield 18, 3) := by decide +kernel
theorem dX2_take_42 : decode cX2_take 42 = .ok (.iload_n 2, 1) := by decide +kernel
theorem dX2_take_43 : decode cX2_take 43 = .ok (.iconst 0, 1) := by decide +kernel
theorem dX2_take_44 : decode cX2_take 44 = .ok (.iastore, 1) := by decide +kernel
theorem dX2_take_45 : decode cX2_take 45 = .ok (.iinc 2 1, 3) := by decide +kernel
theorem dX2_take_48 : decode cX2_take 48 = .ok (.goto (-16), 3) := by decide +kernel
theorem dX2_take_51 : decode cX2_take 51 = .ok (.iconst 0, 1) := by decide +kernel
theorem dX2_take_52 : decode cX2_take 52 = .ok (.istore_n 2, 1) := by decide +kernel
theorem dX2_take_53 : decode cX2_take 53 = .ok (.iload_n 2, 1) := by decide +kernel
theorem dX2_take_54 : decode cX2_take 54 = .ok (.aload_n 0, 1) := by decide +kernel
theorem dX2_take_55 : decode cX2_take 55 = .ok (.getfield 28, 3) := by decide +kernel
theorem dX2_take_58 : decode cX2_take 58 = .ok (.getfield 32, 3) := by decide +kernel
theorem dX2_take_61 : decode cX2_take 61 = .ok (.if_icmp .ge 98, 3) := by decide +kernel
theorem dX2_take_64 : decode cX2_take 64 = .ok (.iconst 1, 1) := by decide +kernel
theorem dX2_take_65 : decode cX2_take 65 = .ok (.iconst 5, 1) := by decide +kernel
theorem dX2_take_66 : decode cX2_take 66 = .ok (.aload_n 0, 1) := by decide +kernel
theorem dX2_take_67 : decode cX2_take 67 = .ok (.getfield 28, 3) := by decide +kernel
theorem dX2_take_70 : decode cX2_take 70 = .ok (.getfield 33, 3) := by decide +kernel
theorem dX2_take_73 : decode cX2_take 73 = .ok (.iload_n 2, 1) := by decide +kernel
theorem dX2_take_74 : decode cX2_take 74 = .ok (.iaload, 1) := by decide +kernel
theorem dX2_take_75 : decode cX2_take 75 = .ok (.imul, 1) := by decide +kernel
theorem dX2_take_76 : decode cX2_take 76 = .ok (.ishl, 1) := by decide +kernel
theorem dX2_take_77 : decode cX2_take 77 = .ok (.istore_n 3, 1) := by decide +kernel
theorem dX2_take_78 : decode cX2_take 78 = .ok (.aload_n 0, 1) := by decide +kernel
theorem dX2_take_79 : decode cX2_take 79 = .ok (.getfield 18, 3) := by decide +kernel
theorem dX2_take_82 : decode cX2_take 82 = .ok (.aload_n 0, 1) := by decide +kernel
theorem dX2_take_83 : decode cX2_take 83 = .ok (.getfield 28, 3) := by decide +kernel
theorem dX2_take_86 : decode cX2_take 86 = .ok (.getfield 36, 3) := by decide +kernel
theorem dX2_take_89 : decode cX2_take 89 = .ok (.iload_n 2, 1) := by decide +kernel
theorem dX2_take_90 : decode cX2_take 90 = .ok (.iaload, 1) := by decide +kernel
theorem dX2_take_91 : decode cX2_take 91 = .ok (.bipush 8, 2) := by decide +kernel
theorem dX2_take_93 : decode cX2_take 93 = .ok (.imul, 1) := by decide +kernel
theorem dX2_take_94 : decode cX2_take 94 = .ok (.aload_n 0, 1) := by decide +kernel
theorem dX2_take_95 : decode cX2_take 95 = .ok (.getfield 28, 3) := by decide +kernel
theorem dX2_take_98 : decode cX2_take 98 = .ok (.getfield 39, 3) := by decide +kernel
theorem dX2_take_101 : decode cX2_take 101 = .ok (.iload_n 2, 1) := by decide +kernel
theorem dX2_take_102 : decode cX2_take 102 = .ok (.iaload, 1) := by decide +kernel
theorem dX2_take_103 : decode cX2_take 103 = .ok (.iadd, 1) := by decide +kernel
theorem dX2_take_104 : decode cX2_take 104 = .ok (.dup2, 1) := by decide +kernel
theorem dX2_take_105 : decode cX2_take 105 = .ok (.iaload, 1) := by decide +kernel
theorem dX2_take_106 : decode cX2_take 106 = .ok (.iload_n 3, 1) := by decide +kernel
theorem dX2_take_107 : decode cX2_take 107 = .ok (.iadd, 1) := by decide +kernel
theorem dX2_take_108 : decode cX2_take 108 = .ok (.iastore, 1) := by decide +kernel
theorem dX2_take_109 : decode cX2_take 109 = .ok (.aload_n 0, 1) := by decide +kernel
theorem dX2_take_110 : decode cX2_take 110 = .ok (.getfield 28, 3) := by decide +kernel
theorem dX2_take_113 : decode cX2_take 113 = .ok (.getfield 33, 3) := by decide +kernel
theorem dX2_take_116 : decode cX2_take 116 = .ok (.iload_n 2, 1) := by decide +kernel
theorem dX2_take_117 : decode cX2_take 117 = .ok (.iaload, 1) := by decide +kernel
theorem dX2_take_118 : decode cX2_take 118 = .ok (.iconst 5, 1) := by decide +kernel
theorem dX2_take_119 : decode cX2_take 119 = .ok (.if_icmp .eq 34, 3) := by decide +kernel
theorem dX2_take_122 : decode cX2_take 122 = .ok (.aload_n 0, 1) := by decide +kernel
theorem dX2_take_123 : decode cX2_take 123 = .ok (.getfield 18, 3) := by decide +kernel
theorem dX2_take_126 : decode cX2_take 126 = .ok (.aload_n 0, 1) := by decide +kernel
theorem dX2_take_127 : decode cX2_take 127 = .ok (.getfield 28, 3) := by decide +kernel
theorem dX2_take_130 : decode cX2_take 130 = .ok (.getfield 39, 3) := by decide +kernel
theorem dX2_take_133 : decode cX2_take 133 = .ok (.iload_n 2, 1) := by decide +kernel
theorem dX2_take_134 : decode cX2_take 134 = .ok (.iaload, 1) := by decide +kernel
theorem dX2_take_135 : decode cX2_take 135 = .ok (.bipush 8, 2) := by decide +kernel
theorem dX2_take_137 : decode cX2_take 137 = .ok (.imul, 1) := by decide +kernel
theorem dX2_take_138 : decode cX2_take 138 = .ok (.aload_n 0, 1) := by decide +kernel
theorem dX2_take_139 : decode cX2_take 139 = .ok (.getfield 28, 3) := by decide +kernel
theorem dX2_take_142 : decode cX2_take 142 = .ok (.getfield 36, 3) := by decide +kernel
theorem dX2_take_145 : decode cX2_take 145 = .ok (.iload_n 2, 1) := by decide +kernel
theorem dX2_take_146 : decode cX2_take 146 = .ok (.iaload, 1) := by decide +kernel
theorem dX2_take_147 : decode cX2_take 147 = .ok (.iadd, 1) := by decide +kernel
theorem dX2_take_148 : decode cX2_take 148 = .ok (.dup2, 1) := by decide +kernel
theorem dX2_take_149 : decode cX2_take 149 = .ok (.iaload, 1) := by decide +kernel
theorem dX2_take_150 : decode cX2_take 150 = .ok (.iload_n 3, 1) := by decide +kernel
theorem dX2_take_151 : decode cX2_take 151 = .ok (.iadd, 1) := by decide +kernel
theorem dX2_take_152 : decode cX2_take 152 = .ok (.iastore, 1) := by decide +kernel
theorem dX2_take_153 : decode cX2_take 153 = .ok (.iinc 2 1, 3) := by decide +kernel
theorem dX2_take_156 : decode cX2_take 156 = .ok (.goto (-103), 3) := by decide +kernel
theorem dX2_take_159 : decode cX2_take 159 = .ok (.return_, 1) := by decide +kernel
theorem dX2_countOf_0 : decode cX2_countOf 0 = .ok (.aload_n 0, 1) := by decide +kernel
theorem dX2_countOf_1 : decode cX2_countOf 1 = .ok (.aload_n 1, 1) := by decide +kernel
theorem dX2_countOf_2 : decode cX2_countOf 2 = .ok (.invokevirtual 42, 3) := by decide +kernel
theorem dX2_countOf_5 : decode cX2_countOf 5 = .ok (.aload_n 0, 1) := by decide +kernel
theorem dX2_countOf_6 : decode cX2_countOf 6 = .ok (.getfield 15, 3) := by decide +kernel
theorem dX2_countOf_9 : decode cX2_countOf 9 = .ok (.ifCond .lt 8, 3) := by decide +kernel
theorem dX2_countOf_12 : decode cX2_countOf 12 = .ok (.aload_n 0, 1) := by decide +kernel
theorem dX2_countOf_13 : decode cX2_countOf 13 = .ok (.getfield 15, 3) := by decide +kernel
theorem dX2_countOf_16 : decode cX2_countOf 16 = .ok (.ireturn, 1) := by decide +kernel
theorem dX2_countOf_17 : decode cX2_countOf 17 = .ok (.iconst 1, 1) := by decide +kernel
theorem dX2_countOf_18 : decode cX2_countOf 18 = .ok (.istore_n 2, 1) := by decide +kernel
theorem dX2_countOf_19 : decode cX2_countOf 19 = .ok (.iconst 0, 1) := by decide +kernel
theorem dX2_countOf_20 : decode cX2_countOf 20 = .ok (.istore_n 3, 1) := by decide +kernel
theorem dX2_countOf_21 : decode cX2_countOf 21 = .ok (.iload_n 3, 1) := by decide +kernel
theorem dX2_countOf_22 : decode cX2_countOf 22 = .ok (.aload_n 0, 1) := by decide +kernel
theorem dX2_countOf_23 : decode cX2_countOf 23 = .ok (.getfield 28, 3) := by decide +kernel
theorem dX2_countOf_26 : decode cX2_countOf 26 = .ok (.getfield 46, 3) := by decide +kernel
theorem dX2_countOf_29 : decode cX2_countOf 29 = .ok (.if_icmp .ge 68, 3) := by decide +kernel
theorem dX2_countOf_32 : decode cX2_countOf 32 = .ok (.iconst 0, 1) := by decide +kernel
theorem dX2_countOf_33 : decode cX2_countOf 33 = .ok (.istore 4, 2) := by decide +kernel
theorem dX2_countOf_35 : decode cX2_countOf 35 = .ok (.iload_n 3, 1) := by decide +kernel
theorem dX2_countOf_36 : decode cX2_countOf 36 = .ok (.istore 5, 2) := by decide +kernel
theorem dX2_countOf_38 : decode cX2_countOf 38 = .ok (.iload 5, 2) := by decide +kernel
theorem dX2_countOf_40 : decode cX2_countOf 40 = .ok (.aload_n 0, 1) := by decide +kernel
theorem dX2_countOf_41 : decode cX2_countOf 41 = .ok (.getfield 28, 3) := by decide +kernel
theorem dX2_countOf_44 : decode cX2_countOf 44 = .ok (.getfield 46, 3) := by decide +kernel
theorem dX2_countOf_47 : decode cX2_countOf 47 = .ok (.if_icmp .ge 39, 3) := by decide +kernel
theorem dX2_countOf_50 : decode cX2_countOf 50 = .ok (.aload_n 0, 1) := by decide +kernel
theorem dX2_countOf_51 : decode cX2_countOf 51 = .ok (.invokevirtual 49, 3) := by decide +kernel
theorem dX2_countOf_54 : decode cX2_countOf 54 = .ok (.aload_n 0, 1) := by decide +kernel
theorem dX2_countOf_55 : decode cX2_countOf 55 = .ok (.iload_n 3, 1) := by decide +kernel
theorem dX2_countOf_56 : decode cX2_countOf 56 = .ok (.invokevirtual 52, 3) := by decide +kernel
theorem dX2_countOf_59 : decode cX2_countOf 59 = .ok (.aload_n 0, 1) := by decide +kernel
theorem dX2_countOf_60 : decode cX2_countOf 60 = .ok (.iload_n 3, 1) := by decide +kernel
theorem dX2_countOf_61 : decode cX2_countOf 61 = .ok (.iload 5, 2) := by decide +kernel
theorem dX2_countOf_63 : decode cX2_countOf 63 = .ok (.invokevirtual 56, 3) := by decide +kernel
theorem dX2_countOf_66 : decode cX2_countOf 66 = .ok (.ifCond .eq 14, 3) := by decide +kernel
theorem dX2_countOf_69 : decode cX2_countOf 69 = .ok (.aload_n 0, 1) := by decide +kernel
theorem dX2_countOf_70 : decode cX2_countOf 70 = .ok (.iconst 0, 1) := by decide +kernel
theorem dX2_countOf_71 : decode cX2_countOf 71 = .ok (.invokevirtual 60, 3) := by decide +kernel
theorem dX2_countOf_74 : decode cX2_countOf 74 = .ok (.ifCond .eq 6, 3) := by decide +kernel
theorem dX2_countOf_77 : decode cX2_countOf 77 = .ok (.iinc 4 1, 3) := by decide +kernel
theorem dX2_countOf_80 : decode cX2_countOf 80 = .ok (.iinc 5 1, 3) := by decide +kernel
theorem dX2_countOf_83 : decode cX2_countOf 83 = .ok (.goto (-45), 3) := by decide +kernel
theorem dX2_countOf_86 : decode cX2_countOf 86 = .ok (.iload_n 2, 1) := by decide +kernel
theorem dX2_countOf_87 : decode cX2_countOf 87 = .ok (.iload 4, 2) := by decide +kernel
theorem dX2_countOf_89 : decode cX2_countOf 89 = .ok (.imul, 1) := by decide +kernel
theorem dX2_countOf_90 : decode cX2_countOf 90 = .ok (.istore_n 2, 1) := by decide +kernel
theorem dX2_countOf_91 : decode cX2_countOf 91 = .ok (.iinc 3 1, 3) := by decide +kernel
theorem dX2_countOf_94 : decode cX2_countOf 94 = .ok (.goto (-73), 3) := by decide +kernel
theorem dX2_countOf_97 : decode cX2_countOf 97 = .ok (.aload_n 0, 1) := by decide +kernel
theorem dX2_countOf_98 : decode cX2_countOf 98 = .ok (.iload_n 2, 1) := by decide +kernel
theorem dX2_countOf_99 : decode cX2_countOf 99 = .ok (.putfield 15, 3) := by decide +kernel
theorem dX2_countOf_102 : decode cX2_countOf 102 = .ok (.aload_n 0, 1) := by decide +kernel
theorem dX2_countOf_103 : decode cX2_countOf 103 = .ok (.getfield 15, 3) := by decide +kernel
theorem dX2_countOf_106 : decode cX2_countOf 106 = .ok (.ireturn, 1) := by decide +kernel
theorem dX2_keepNamesBelow_0 : decode cX2_keepNamesBelow 0 = .ok (.iconst 0, 1) := by decide +kernel
theorem dX2_keepNamesBelow_1 : decode cX2_keepNamesBelow 1 = .ok (.istore_n 2, 1) := by decide +kernel
theorem dX2_keepNamesBelow_2 : decode cX2_keepNamesBelow 2 = .ok (.iload_n 2, 1) := by decide +kernel
theorem dX2_keepNamesBelow_3 : decode cX2_keepNamesBelow 3 = .ok (.iload_n 1, 1) := by decide +kernel
theorem dX2_keepNamesBelow_4 : decode cX2_keepNamesBelow 4 = .ok (.if_icmp .ge 16, 3) := by decide +kernel
theorem dX2_keepNamesBelow_7 : decode cX2_keepNamesBelow 7 = .ok (.aload_n 0, 1) := by decide +kernel
theorem dX2_keepNamesBelow_8 : decode cX2_keepNamesBelow 8 = .ok (.iload_n 2, 1) := by decide +kernel
theorem dX2_keepNamesBelow_9 : decode cX2_keepNamesBelow 9 = .ok (.iload_n 2, 1) := by decide +kernel
theorem dX2_keepNamesBelow_10 : decode cX2_keepNamesBelow 10 = .ok (.invokevirtual 56, 3) := by decide +kernel
theorem dX2_keepNamesBelow_13 : decode cX2_keepNamesBelow 13 = .ok (.pop, 1) := by decide +kernel
theorem dX2_keepNamesBelow_14 : decode cX2_keepNamesBelow 14 = .ok (.iinc 2 1, 3) := by decide +kernel
theorem dX2_keepNamesBelow_17 : decode cX2_keepNamesBelow 17 = .ok (.goto (-15), 3) := by decide +kernel
theorem dX2_keepNamesBelow_20 : decode cX2_keepNamesBelow 20 = .ok (.return_, 1) := by decide +kernel
theorem dX2_leastRow_0 : decode cX2_leastRow 0 = .ok (.aload_n 0, 1) := by decide +kernel
theorem dX2_leastRow_1 : decode cX2_leastRow 1 = .ok (.aload_n 1, 1) := by decide +kernel
theorem dX2_leastRow_2 : decode cX2_leastRow 2 = .ok (.invokevirtual 42, 3) := by decide +kernel
theorem dX2_leastRow_5 : decode cX2_leastRow 5 = .ok (.iconst 0, 1) := by decide +kernel
theorem dX2_leastRow_6 : decode cX2_leastRow 6 = .ok (.istore 4, 2) := by decide +kernel
theorem dX2_leastRow_8 : decode cX2_leastRow 8 = .ok (.iload 4, 2) := by decide +kernel
theorem dX2_leastRow_10 : decode cX2_leastRow 10 = .ok (.bipush 64, 2) := by decide +kernel
theorem dX2_leastRow_12 : decode cX2_leastRow 12 = .ok (.if_icmp .ge 105, 3) := by decide +kernel
theorem dX2_leastRow_15 : decode cX2_leastRow 15 = .ok (.iload 4, 2) := by decide +kernel
theorem dX2_leastRow_17 : decode cX2_leastRow 17 = .ok (.iconst 3, 1) := by decide +kernel
theorem dX2_leastRow_18 : decode cX2_leastRow 18 = .ok (.ishr, 1) := by decide +kernel
theorem dX2_leastRow_19 : decode cX2_leastRow 19 = .ok (.istore 5, 2) := by decide +kernel
theorem dX2_leastRow_21 : decode cX2_leastRow 21 = .ok (.iload 4, 2) := by decide +kernel
theorem dX2_leastRow_23 : decode cX2_leastRow 23 = .ok (.bipush 7, 2) := by decide +kernel
theorem dX2_leastRow_25 : decode cX2_leastRow 25 = .ok (.iand, 1) := by decide +kernel
theorem dX2_leastRow_26 : decode cX2_leastRow 26 = .ok (.istore 6, 2) := by decide +kernel
theorem dX2_leastRow_28 : decode cX2_leastRow 28 = .ok (.iload 5, 2) := by decide +kernel
theorem dX2_leastRow_30 : decode cX2_leastRow 30 = .ok (.iload 6, 2) := by decide +kernel
theorem dX2_leastRow_32 : decode cX2_leastRow 32 = .ok (.if_icmp .gt 79, 3) := by decide +kernel
theorem dX2_leastRow_35 : decode cX2_leastRow 35 = .ok (.iload 6, 2) := by decide +kernel
theorem dX2_leastRow_37 : decode cX2_leastRow 37 = .ok (.aload_n 0, 1) := by decide +kernel
theorem dX2_leastRow_38 : decode cX2_leastRow 38 = .ok (.getfield 28, 3) := by decide +kernel
theorem dX2_leastRow_41 : decode cX2_leastRow 41 = .ok (.getfield 46, 3) := by decide +kernel
theorem dX2_leastRow_44 : decode cX2_leastRow 44 = .ok (.if_icmp .lt 6, 3) := by decide +kernel
theorem dX2_leastRow_47 : decode cX2_leastRow 47 = .ok (.goto 64, 3) := by decide +kernel
theorem dX2_leastRow_50 : decode cX2_leastRow 50 = .ok (.iconst 0, 1) := by decide +kernel
theorem dX2_leastRow_51 : decode cX2_leastRow 51 = .ok (.istore 7, 2) := by decide +kernel
theorem dX2_leastRow_53 : decode cX2_leastRow 53 = .ok (.iload 7, 2) := by decide +kernel
theorem dX2_leastRow_55 : decode cX2_leastRow 55 = .ok (.aload_n 0, 1) := by decide +kernel
theorem dX2_leastRow_56 : decode cX2_leastRow 56 = .ok (.getfield 28, 3) := by decide +kernel
theorem dX2_leastRow_59 : decode cX2_leastRow 59 = .ok (.getfield 46, 3) := by decide +kernel
theorem dX2_leastRow_62 : decode cX2_leastRow 62 = .ok (.if_icmp .ge 49, 3) := by decide +kernel
theorem dX2_leastRow_65 : decode cX2_leastRow 65 = .ok (.aload_n 0, 1) := by decide +kernel
theorem dX2_leastRow_66 : decode cX2_leastRow 66 = .ok (.iload_n 2, 1) := by decide +kernel
theorem dX2_leastRow_67 : decode cX2_leastRow 67 = .ok (.iload_n 3, 1) := by decide +kernel
theorem dX2_leastRow_68 : decode cX2_leastRow 68 = .ok (.iload 4, 2) := by decide +kernel
theorem dX2_leastRow_70 : decode cX2_leastRow 70 = .ok (.iload 7, 2) := by decide +kernel
theorem dX2_leastRow_72 : decode cX2_leastRow 72 = .ok (.invokevirtual 64, 3) := by decide +kernel
theorem dX2_leastRow_75 : decode cX2_leastRow 75 = .ok (.ifCond .ne 22, 3) := by decide +kernel
theorem dX2_leastRow_78 : decode cX2_leastRow 78 = .ok (.aload_n 0, 1) := by decide +kernel
theorem dX2_leastRow_79 : decode cX2_leastRow 79 = .ok (.iload_n 2, 1) := by decide +kernel
theorem dX2_leastRow_80 : decode cX2_leastRow 80 = .ok (.iload_n 3, 1) := by decide +kernel
theorem dX2_leastRow_81 : decode cX2_leastRow 81 = .ok (.iload 6, 2) := by decide +kernel
theorem dX2_leastRow_83 : decode cX2_leastRow 83 = .ok (.bipush 8, 2) := by decide +kernel
theorem dX2_leastRow_85 : decode cX2_leastRow 85 = .ok (.imul, 1) := by decide +kernel
theorem dX2_leastRow_86 : decode cX2_leastRow 86 = .ok (.iload 5, 2) := by decide +kernel
theorem dX2_leastRow_88 : decode cX2_leastRow 88 = .ok (.iadd, 1) := by decide +kernel
theorem dX2_leastRow_89 : decode cX2_leastRow 89 = .ok (.iload 7, 2) := by decide +kernel
theorem dX2_leastRow_91 : decode cX2_leastRow 91 = .ok (.invokevirtual 64, 3) := by decide +kernel
theorem dX2_leastRow_94 : decode cX2_leastRow 94 = .ok (.ifCond .eq 11, 3) := by decide +kernel
theorem dX2_leastRow_97 : decode cX2_leastRow 97 = .ok (.iload 4, 2) := by decide +kernel
theorem dX2_leastRow_99 : decode cX2_leastRow 99 = .ok (.iload 7, 2) := by decide +kernel
theorem dX2_leastRow_101 : decode cX2_leastRow 101 = .ok (.invokestatic 68, 3) := by decide +kernel
theorem dX2_leastRow_104 : decode cX2_leastRow 104 = .ok (.ireturn, 1) := by decide +kernel
theorem dX2_leastRow_105 : decode cX2_leastRow 105 = .ok (.iinc 7 1, 3) := by decide +kernel
theorem dX2_leastRow_108 : decode cX2_leastRow 108 = .ok (.goto (-55), 3) := by decide +kernel
theorem dX2_leastRow_111 : decode cX2_leastRow 111 = .ok (.iinc 4 1, 3) := by decide +kernel
theorem dX2_leastRow_114 : decode cX2_leastRow 114 = .ok (.goto (-106), 3) := by decide +kernel
theorem dX2_leastRow_117 : decode cX2_leastRow 117 = .ok (.iload_n 2, 1) := by decide +kernel
theorem dX2_leastRow_118 : decode cX2_leastRow 118 = .ok (.iload_n 3, 1) := by decide +kernel
theorem dX2_leastRow_119 : decode cX2_leastRow 119 = .ok (.invokestatic 68, 3) := by decide +kernel
theorem dX2_leastRow_122 : decode cX2_leastRow 122 = .ok (.ireturn, 1) := by decide +kernel
theorem dX2_canTurn_0 : decode cX2_canTurn 0 = .ok (.aload_n 0, 1) := by decide +kernel
theorem dX2_canTurn_1 : decode cX2_canTurn 1 = .ok (.invokevirtual 49, 3) := by decide +kernel
theorem dX2_canTurn_4 : decode cX2_canTurn 4 = .ok (.aload_n 0, 1) := by decide +kernel
theorem dX2_canTurn_5 : decode cX2_canTurn 5 = .ok (.iload_n 1, 1) := by decide +kernel
theorem dX2_canTurn_6 : decode cX2_canTurn 6 = .ok (.iconst 3, 1) := by decide +kernel
theorem dX2_canTurn_7 : decode cX2_canTurn 7 = .ok (.ishr, 1) := by decide +kernel
theorem dX2_canTurn_8 : decode cX2_canTurn 8 = .ok (.iload_n 3, 1) := by decide +kernel
theorem dX2_canTurn_9 : decode cX2_canTurn 9 = .ok (.iconst 3, 1) := by decide +kernel
theorem dX2_canTurn_10 : decode cX2_canTurn 10 = .ok (.ishr, 1) := by decide +kernel
theorem dX2_canTurn_11 : decode cX2_canTurn 11 = .ok (.invokevirtual 56, 3) := by decide +kernel
theorem dX2_canTurn_14 : decode cX2_canTurn 14 = .ok (.ifCond .eq 40, 3) := by decide +kernel
theorem dX2_canTurn_17 : decode cX2_canTurn 17 = .ok (.aload_n 0, 1) := by decide +kernel
theorem dX2_canTurn_18 : decode cX2_canTurn 18 = .ok (.iload_n 1, 1) := by decide +kernel
theorem dX2_canTurn_19 : decode cX2_canTurn 19 = .ok (.bipush 7, 2) := by decide +kernel
theorem dX2_canTurn_21 : decode cX2_canTurn 21 = .ok (.iand, 1) := by decide +kernel
theorem dX2_canTurn_22 : decode cX2_canTurn 22 = .ok (.iload_n 3, 1) := by decide +kernel
theorem dX2_canTurn_23 : decode cX2_canTurn 23 = .ok (.bipush 7, 2) := by decide +kernel
theorem dX2_canTurn_25 : decode cX2_canTurn 25 = .ok (.iand, 1) := by decide +kernel
theorem dX2_canTurn_26 : decode cX2_canTurn 26 = .ok (.invokevirtual 56, 3) := by decide +kernel
theorem dX2_canTurn_29 : decode cX2_canTurn 29 = .ok (.ifCond .eq 25, 3) := by decide +kernel
theorem dX2_canTurn_32 : decode cX2_canTurn 32 = .ok (.aload_n 0, 1) := by decide +kernel
theorem dX2_canTurn_33 : decode cX2_canTurn 33 = .ok (.iload_n 2, 1) := by decide +kernel
theorem dX2_canTurn_34 : decode cX2_canTurn 34 = .ok (.iload 4, 2) := by decide +kernel
theorem dX2_canTurn_36 : decode cX2_canTurn 36 = .ok (.invokevirtual 56, 3) := by decide +kernel
theorem dX2_canTurn_39 : decode cX2_canTurn 39 = .ok (.ifCond .eq 15, 3) := by decide +kernel
theorem dX2_canTurn_42 : decode cX2_canTurn 42 = .ok (.aload_n 0, 1) := by decide +kernel
theorem dX2_canTurn_43 : decode cX2_canTurn 43 = .ok (.iconst 0, 1) := by decide +kernel
theorem dX2_canTurn_44 : decode cX2_canTurn 44 = .ok (.invokevirtual 60, 3) := by decide +kernel
theorem dX2_canTurn_47 : decode cX2_canTurn 47 = .ok (.ifCond .eq 7, 3) := by decide +kernel
theorem dX2_canTurn_50 : decode cX2_canTurn 50 = .ok (.iconst 1, 1) := by decide +kernel
theorem dX2_canTurn_51 : decode cX2_canTurn 51 = .ok (.goto 4, 3) := by decide +kernel
theorem dX2_canTurn_54 : decode cX2_canTurn 54 = .ok (.iconst 0, 1) := by decide +kernel
theorem dX2_canTurn_55 : decode cX2_canTurn 55 = .ok (.ireturn, 1) := by decide +kernel
theorem dX2_forgetNames_0 : decode cX2_forgetNames 0 = .ok (.aload_n 0, 1) := by decide +kernel
theorem dX2_forgetNames_1 : decode cX2_forgetNames 1 = .ok (.iconst 0, 1) := by decide +kernel
theorem dX2_forgetNames_2 : decode cX2_forgetNames 2 = .ok (.putfield 74, 3) := by decide +kernel
theorem dX2_forgetNames_5 : decode cX2_forgetNames 5 = .ok (.iconst 0, 1) := by decide +kernel
theorem dX2_forgetNames_6 : decode cX2_forgetNames 6 = .ok (.istore_n 1, 1) := by decide +kernel
theorem dX2_forgetNames_7 : decode cX2_forgetNames 7 = .ok (.iload_n 1, 1) := by decide +kernel
theorem dX2_forgetNames_8 : decode cX2_forgetNames 8 = .ok (.bipush 8, 2) := by decide +kernel
theorem dX2_forgetNames_10 : decode cX2_forgetNames 10 = .ok (.if_icmp .ge 16, 3) := by decide +kernel
theorem dX2_forgetNames_13 : decode cX2_forgetNames 13 = .ok (.aload_n 0, 1) := by decide +kernel
theorem dX2_forgetNames_14 : decode cX2_forgetNames 14 = .ok (.getfield 22, 3) := by decide +kernel
theorem dX2_forgetNames_17 : decode cX2_forgetNames 17 = .ok (.iload_n 1, 1) := by decide +kernel
theorem dX2_forgetNames_18 : decode cX2_forgetNames 18 = .ok (.iconst (-1), 1) := by decide +kernel
theorem dX2_forgetNames_19 : decode cX2_forgetNames 19 = .ok (.iastore, 1) := by decide +kernel
theorem dX2_forgetNames_20 : decode cX2_forgetNames 20 = .ok (.iinc 1 1, 3) := by decide +kernel
theorem dX2_forgetNames_23 : decode cX2_forgetNames 23 = .ok (.goto (-16), 3) := by decide +kernel
theorem dX2_forgetNames_26 : decode cX2_forgetNames 26 = .ok (.return_, 1) := by decide +kernel
theorem dX2_give_0 : decode cX2_give 0 = .ok (.aload_n 0, 1) := by decide +kernel
theorem dX2_give_1 : decode cX2_give 1 = .ok (.getfield 22, 3) := by decide +kernel
theorem dX2_give_4 : decode cX2_give 4 = .ok (.iload_n 1, 1) := by decide +kernel
theorem dX2_give_5 : decode cX2_give 5 = .ok (.iaload, 1) := by decide +kernel
theorem dX2_give_6 : decode cX2_give 6 = .ok (.ifCond .lt 19, 3) := by decide +kernel
theorem dX2_give_9 : decode cX2_give 9 = .ok (.aload_n 0, 1) := by decide +kernel
theorem dX2_give_10 : decode cX2_give 10 = .ok (.getfield 22, 3) := by decide +kernel
theorem dX2_give_13 : decode cX2_give 13 = .ok (.iload_n 1, 1) := by decide +kernel
theorem dX2_give_14 : decode cX2_give 14 = .ok (.iaload, 1) := by decide +kernel
theorem dX2_give_15 : decode cX2_give 15 = .ok (.iload_n 2, 1) := by decide +kernel
theorem dX2_give_16 : decode cX2_give 16 = .ok (.if_icmp .ne 7, 3) := by decide +kernel
theorem dX2_give_19 : decode cX2_give 19 = .ok (.iconst 1, 1) := by decide +kernel
theorem dX2_give_20 : decode cX2_give 20 = .ok (.goto 4, 3) := by decide +kernel
theorem dX2_give_23 : decode cX2_give 23 = .ok (.iconst 0, 1) := by decide +kernel
theorem dX2_give_24 : decode cX2_give 24 = .ok (.ireturn, 1) := by decide +kernel
theorem dX2_give_25 : decode cX2_give 25 = .ok (.aload_n 0, 1) := by decide +kernel
theorem dX2_give_26 : decode cX2_give 26 = .ok (.getfield 74, 3) := by decide +kernel
theorem dX2_give_29 : decode cX2_give 29 = .ok (.iload_n 2, 1) := by decide +kernel
theorem dX2_give_30 : decode cX2_give 30 = .ok (.ishr, 1) := by decide +kernel
theorem dX2_give_31 : decode cX2_give 31 = .ok (.iconst 1, 1) := by decide +kernel
theorem dX2_give_32 : decode cX2_give 32 = .ok (.iand, 1) := by decide +kernel
theorem dX2_give_33 : decode cX2_give 33 = .ok (.ifCond .ne 24, 3) := by decide +kernel
theorem dX2_give_36 : decode cX2_give 36 = .ok (.aload_n 0, 1) := by decide +kernel
theorem dX2_give_37 : decode cX2_give 37 = .ok (.getfield 28, 3) := by decide +kernel
theorem dX2_give_40 : decode cX2_give 40 = .ok (.getfield 77, 3) := by decide +kernel
theorem dX2_give_43 : decode cX2_give 43 = .ok (.iload_n 1, 1) := by decide +kernel
theorem dX2_give_44 : decode cX2_give 44 = .ok (.iaload, 1) := by decide +kernel
theorem dX2_give_45 : decode cX2_give 45 = .ok (.aload_n 0, 1) := by decide +kernel
theorem dX2_give_46 : decode cX2_give 46 = .ok (.getfield 28, 3) := by decide +kernel
theorem dX2_give_49 : decode cX2_give 49 = .ok (.getfield 77, 3) := by decide +kernel
theorem dX2_give_52 : decode cX2_give 52 = .ok (.iload_n 2, 1) := by decide +kernel
theorem dX2_give_53 : decode cX2_give 53 = .ok (.iaload, 1) := by decide +kernel
theorem dX2_give_54 : decode cX2_give 54 = .ok (.if_icmp .eq 5, 3) := by decide +kernel
theorem dX2_give_57 : decode cX2_give 57 = .ok (.iconst 0, 1) := by decide +kernel
theorem dX2_give_58 : decode cX2_give 58 = .ok (.ireturn, 1) := by decide +kernel
theorem dX2_give_59 : decode cX2_give 59 = .ok (.iconst 0, 1) := by decide +kernel
theorem dX2_give_60 : decode cX2_give 60 = .ok (.istore_n 3, 1) := by decide +kernel
theorem dX2_give_61 : decode cX2_give 61 = .ok (.iload_n 3, 1) := by decide +kernel
theorem dX2_give_62 : decode cX2_give 62 = .ok (.aload_n 0, 1) := by decide +kernel
theorem dX2_give_63 : decode cX2_give 63 = .ok (.getfield 28, 3) := by decide +kernel
theorem dX2_give_66 : decode cX2_give 66 = .ok (.getfield 46, 3) := by decide +kernel
theorem dX2_give_69 : decode cX2_give 69 = .ok (.if_icmp .ge 76, 3) := by decide +kernel
theorem dX2_give_72 : decode cX2_give 72 = .ok (.aload_n 0, 1) := by decide +kernel
theorem dX2_give_73 : decode cX2_give 73 = .ok (.getfield 22, 3) := by decide +kernel
theorem dX2_give_76 : decode cX2_give 76 = .ok (.iload_n 3, 1) := by decide +kernel
theorem dX2_give_77 : decode cX2_give 77 = .ok (.iaload, 1) := by decide +kernel
theorem dX2_give_78 : decode cX2_give 78 = .ok (.istore 4, 2) := by decide +kernel
theorem dX2_give_80 : decode cX2_give 80 = .ok (.iload 4, 2) := by decide +kernel
theorem dX2_give_82 : decode cX2_give 82 = .ok (.ifCond .lt 57, 3) := by decide +kernel
theorem dX2_give_85 : decode cX2_give 85 = .ok (.aload_n 0, 1) := by decide +kernel
theorem dX2_give_86 : decode cX2_give 86 = .ok (.getfield 18, 3) := by decide +kernel
theorem dX2_give_89 : decode cX2_give 89 = .ok (.iload_n 1, 1) := by decide +kernel
theorem dX2_give_90 : decode cX2_give 90 = .ok (.bipush 8, 2) := by decide +kernel
theorem dX2_give_92 : decode cX2_give 92 = .ok (.imul, 1) := by decide +kernel
theorem dX2_give_93 : decode cX2_give 93 = .ok (.iload_n 3, 1) := by decide +kernel
theorem dX2_give_94 : decode cX2_give 94 = .ok (.iadd, 1) := by decide +kernel
theorem dX2_give_95 : decode cX2_give 95 = .ok (.iaload, 1) := by decide +kernel
theorem dX2_give_96 : decode cX2_give 96 = .ok (.aload_n 0, 1) := by decide +kernel
theorem dX2_give_97 : decode cX2_give 97 = .ok (.getfield 18, 3) := by decide +kernel
theorem dX2_give_100 : decode cX2_give 100 = .ok (.iload_n 2, 1) := by decide +kernel
theorem dX2_give_101 : decode cX2_give 101 = .ok (.bipush 8, 2) := by decide +kernel
theorem dX2_give_103 : decode cX2_give 103 = .ok (.imul, 1) := by decide +kernel
theorem dX2_give_104 : decode cX2_give 104 = .ok (.iload 4, 2) := by decide +kernel
theorem dX2_give_106 : decode cX2_give 106 = .ok (.iadd, 1) := by decide +kernel
theorem dX2_give_107 : decode cX2_give 107 = .ok (.iaload, 1) := by decide +kernel
theorem dX2_give_108 : decode cX2_give 108 = .ok (.if_icmp .ne 29, 3) := by decide +kernel
theorem dX2_give_111 : decode cX2_give 111 = .ok (.aload_n 0, 1) := by decide +kernel
theorem dX2_give_112 : decode cX2_give 112 = .ok (.getfield 18, 3) := by decide +kernel
theorem dX2_give_115 : decode cX2_give 115 = .ok (.iload_n 3, 1) := by decide +kernel
theorem dX2_give_116 : decode cX2_give 116 = .ok (.bipush 8, 2) := by decide +kernel
theorem dX2_give_118 : decode cX2_give 118 = .ok (.imul, 1) := by decide +kernel
theorem dX2_give_119 : decode cX2_give 119 = .ok (.iload_n 1, 1) := by decide +kernel
theorem dX2_give_120 : decode cX2_give 120 = .ok (.iadd, 1) := by decide +kernel
theorem dX2_give_121 : decode cX2_give 121 = .ok (.iaload, 1) := by decide +kernel
theorem dX2_give_122 : decode cX2_give 122 = .ok (.aload_n 0, 1) := by decide +kernel
theorem dX2_give_123 : decode cX2_give 123 = .ok (.getfield 18, 3) := by decide +kernel
theorem dX2_give_126 : decode cX2_give 126 = .ok (.iload 4, 2) := by decide +kernel
theorem dX2_give_128 : decode cX2_give 128 = .ok (.bipush 8, 2) := by decide +kernel
theorem dX2_give_130 : decode cX2_give 130 = .ok (.imul, 1) := by decide +kernel
theorem dX2_give_131 : decode cX2_give 131 = .ok (.iload_n 2, 1) := by decide +kernel
theorem dX2_give_132 : decode cX2_give 132 = .ok (.iadd, 1) := by decide +kernel
theorem dX2_give_133 : decode cX2_give 133 = .ok (.iaload, 1) := by decide +kernel
theorem dX2_give_134 : decode cX2_give 134 = .ok (.if_icmp .eq 5, 3) := by decide +kernel
theorem dX2_give_137 : decode cX2_give 137 = .ok (.iconst 0, 1) := by decide +kernel
theorem dX2_give_138 : decode cX2_give 138 = .ok (.ireturn, 1) := by decide +kernel
theorem dX2_give_139 : decode cX2_give 139 = .ok (.iinc 3 1, 3) := by decide +kernel
theorem dX2_give_142 : decode cX2_give 142 = .ok (.goto (-81), 3) := by decide +kernel
theorem dX2_give_145 : decode cX2_give 145 = .ok (.aload_n 0, 1) := by decide +kernel
theorem dX2_give_146 : decode cX2_give 146 = .ok (.getfield 22, 3) := by decide +kernel
theorem dX2_give_149 : decode cX2_give 149 = .ok (.iload_n 1, 1) := by decide +kernel
theorem dX2_give_150 : decode cX2_give 150 = .ok (.iload_n 2, 1) := by decide +kernel
theorem dX2_give_151 : decode cX2_give 151 = .ok (.iastore, 1) := by decide +kernel
theorem dX2_give_152 : decode cX2_give 152 = .ok (.aload_n 0, 1) := by decide +kernel
theorem dX2_give_153 : decode cX2_give 153 = .ok (.dup, 1) := by decide +kernel
theorem dX2_give_154 : decode cX2_give 154 = .ok (.getfield 74, 3) := by decide +kernel
theorem dX2_give_157 : decode cX2_give 157 = .ok (.iconst 1, 1) := by decide +kernel
theorem dX2_give_158 : decode cX2_give 158 = .ok (.iload_n 2, 1) := by decide +kernel
theorem dX2_give_159 : decode cX2_give 159 = .ok (.ishl, 1) := by decide +kernel
theorem dX2_give_160 : decode cX2_give 160 = .ok (.ior, 1) := by decide +kernel
theorem dX2_give_161 : decode cX2_give 161 = .ok (.putfield 74, 3) := by decide +kernel
theorem dX2_give_164 : decode cX2_give 164 = .ok (.iconst 1, 1) := by decide +kernel
theorem dX2_give_165 : decode cX2_give 165 = .ok (.ireturn, 1) := by decide +kernel
theorem dX2_canNameRest_0 : decode cX2_canNameRest 0 = .ok (.iload_n 1, 1) := by decide +kernel
theorem dX2_canNameRest_1 : decode cX2_canNameRest 1 = .ok (.aload_n 0, 1) := by decide +kernel
theorem dX2_canNameRest_2 : decode cX2_canNameRest 2 = .ok (.getfield 28, 3) := by decide +kernel
theorem dX2_canNameRest_5 : decode cX2_canNameRest 5 = .ok (.getfield 46, 3) := by decide +kernel
theorem dX2_canNameRest_8 : decode cX2_canNameRest 8 = .ok (.if_icmp .lt 5, 3) := by decide +kernel
theorem dX2_canNameRest_11 : decode cX2_canNameRest 11 = .ok (.iconst 1, 1) := by decide +kernel
theorem dX2_canNameRest_12 : decode cX2_canNameRest 12 = .ok (.ireturn, 1) := by decide +kernel
theorem dX2_canNameRest_13 : decode cX2_canNameRest 13 = .ok (.aload_n 0, 1) := by decide +kernel
theorem dX2_canNameRest_14 : decode cX2_canNameRest 14 = .ok (.getfield 22, 3) := by decide +kernel
theorem dX2_canNameRest_17 : decode cX2_canNameRest 17 = .ok (.iload_n 1, 1) := by decide +kernel
theorem dX2_canNameRest_18 : decode cX2_canNameRest 18 = .ok (.iaload, 1) := by decide +kernel
theorem dX2_canNameRest_19 : decode cX2_canNameRest 19 = .ok (.ifCond .lt 11, 3) := by decide +kernel
theorem dX2_canNameRest_22 : decode cX2_canNameRest 22 = .ok (.aload_n 0, 1) := by decide +kernel
theorem dX2_canNameRest_23 : decode cX2_canNameRest 23 = .ok (.iload_n 1, 1) := by decide +kernel
theorem dX2_canNameRest_24 : decode cX2_canNameRest 24 = .ok (.iconst 1, 1) := by decide +kernel
theorem dX2_canNameRest_25 : decode cX2_canNameRest 25 = .ok (.iadd, 1) := by decide +kernel
theorem dX2_canNameRest_26 : decode cX2_canNameRest 26 = .ok (.invokevirtual 60, 3) := by decide +kernel
theorem dX2_canNameRest_29 : decode cX2_canNameRest 29 = .ok (.ireturn, 1) := by decide +kernel
theorem dX2_canNameRest_30 : decode cX2_canNameRest 30 = .ok (.iconst 0, 1) := by decide +kernel
theorem dX2_canNameRest_31 : decode cX2_canNameRest 31 = .ok (.istore_n 2, 1) := by decide +kernel
theorem dX2_canNameRest_32 : decode cX2_canNameRest 32 = .ok (.iload_n 2, 1) := by decide +kernel
theorem dX2_canNameRest_33 : decode cX2_canNameRest 33 = .ok (.aload_n 0, 1) := by decide +kernel
theorem dX2_canNameRest_34 : decode cX2_canNameRest 34 = .ok (.getfield 28, 3) := by decide +kernel
theorem dX2_canNameRest_37 : decode cX2_canNameRest 37 = .ok (.getfield 46, 3) := by decide +kernel
theorem dX2_canNameRest_40 : decode cX2_canNameRest 40 = .ok (.if_icmp .ge 51, 3) := by decide +kernel
theorem dX2_canNameRest_43 : decode cX2_canNameRest 43 = .ok (.aload_n 0, 1) := by decide +kernel
theorem dX2_canNameRest_44 : decode cX2_canNameRest 44 = .ok (.iload_n 1, 1) := by decide +kernel
theorem dX2_canNameRest_45 : decode cX2_canNameRest 45 = .ok (.iload_n 2, 1) := by decide +kernel
theorem dX2_canNameRest_46 : decode cX2_canNameRest 46 = .ok (.invokevirtual 56, 3) := by decide +kernel
theorem dX2_canNameRest_49 : decode cX2_canNameRest 49 = .ok (.ifCond .eq 36, 3) := by decide +kernel
theorem dX2_canNameRest_52 : decode cX2_canNameRest 52 = .ok (.aload_n 0, 1) := by decide +kernel
theorem dX2_canNameRest_53 : decode cX2_canNameRest 53 = .ok (.iload_n 1, 1) := by decide +kernel
theorem dX2_canNameRest_54 : decode cX2_canNameRest 54 = .ok (.iconst 1, 1) := by decide +kernel
theorem dX2_canNameRest_55 : decode cX2_canNameRest 55 = .ok (.iadd, 1) := by decide +kernel
theorem dX2_canNameRest_56 : decode cX2_canNameRest 56 = .ok (.invokevirtual 60, 3) := by decide +kernel
theorem dX2_canNameRest_59 : decode cX2_canNameRest 59 = .ok (.ifCond .eq 5, 3) := by decide +kernel
theorem dX2_canNameRest_62 : decode cX2_canNameRest 62 = .ok (.iconst 1, 1) := by decide +kernel
theorem dX2_canNameRest_63 : decode cX2_canNameRest 63 = .ok (.ireturn, 1) := by decide +kernel
theorem dX2_canNameRest_64 : decode cX2_canNameRest 64 = .ok (.aload_n 0, 1) := by decide +kernel
theorem dX2_canNameRest_65 : decode cX2_canNameRest 65 = .ok (.getfield 22, 3) := by decide +kernel
theorem dX2_canNameRest_68 : decode cX2_canNameRest 68 = .ok (.iload_n 1, 1) := by decide +kernel
theorem dX2_canNameRest_69 : decode cX2_canNameRest 69 = .ok (.iconst (-1), 1) := by decide +kernel
theorem dX2_canNameRest_70 : decode cX2_canNameRest 70 = .ok (.iastore, 1) := by decide +kernel
theorem dX2_canNameRest_71 : decode cX2_canNameRest 71 = .ok (.aload_n 0, 1) := by decide +kernel
theorem dX2_canNameRest_72 : decode cX2_canNameRest 72 = .ok (.dup, 1) := by decide +kernel
theorem dX2_canNameRest_73 : decode cX2_canNameRest 73 = .ok (.getfield 74, 3) := by decide +kernel
theorem dX2_canNameRest_76 : decode cX2_canNameRest 76 = .ok (.iconst 1, 1) := by decide +kernel
theorem dX2_canNameRest_77 : decode cX2_canNameRest 77 = .ok (.iload_n 2, 1) := by decide +kernel
theorem dX2_canNameRest_78 : decode cX2_canNameRest 78 = .ok (.ishl, 1) := by decide +kernel
theorem dX2_canNameRest_79 : decode cX2_canNameRest 79 = .ok (.iconst (-1), 1) := by decide +kernel
theorem dX2_canNameRest_80 : decode cX2_canNameRest 80 = .ok (.ixor, 1) := by decide +kernel
theorem dX2_canNameRest_81 : decode cX2_canNameRest 81 = .ok (.iand, 1) := by decide +kernel
theorem dX2_canNameRest_82 : decode cX2_canNameRest 82 = .ok (.putfield 74, 3) := by decide +kernel
theorem dX2_canNameRest_85 : decode cX2_canNameRest 85 = .ok (.iinc 2 1, 3) := by decide +kernel
theorem dX2_canNameRest_88 : decode cX2_canNameRest 88 = .ok (.goto (-56), 3) := by decide +kernel
theorem dX2_canNameRest_91 : decode cX2_canNameRest 91 = .ok (.iconst 0, 1) := by decide +kernel
theorem dX2_canNameRest_92 : decode cX2_canNameRest 92 = .ok (.ireturn, 1) := by decide +kernel
theorem dX3_init_0 : decode cX3_init 0 = .ok (.aload_n 0, 1) := by decide +kernel
theorem dX3_init_1 : decode cX3_init 1 = .ok (.invokespecial 3, 3) := by decide +kernel
theorem dX3_init_4 : decode cX3_init 4 = .ok (.aload_n 0, 1) := by decide +kernel
theorem dX3_init_5 : decode cX3_init 5 = .ok (.bipush 16, 2) := by decide +kernel
theorem dX3_init_7 : decode cX3_init 7 = .ok (.newarray .int, 2) := by decide +kernel
theorem dX3_init_9 : decode cX3_init 9 = .ok (.putfield 9, 3) := by decide +kernel
theorem dX3_init_12 : decode cX3_init 12 = .ok (.aload_n 0, 1) := by decide +kernel
theorem dX3_init_13 : decode cX3_init 13 = .ok (.bipush 16, 2) := by decide +kernel
theorem dX3_init_15 : decode cX3_init 15 = .ok (.newarray .int, 2) := by decide +kernel
theorem dX3_init_17 : decode cX3_init 17 = .ok (.putfield 15, 3) := by decide +kernel
theorem dX3_init_20 : decode cX3_init 20 = .ok (.aload_n 0, 1) := by decide +kernel
theorem dX3_init_21 : decode cX3_init 21 = .ok (.bipush 16, 2) := by decide +kernel
theorem dX3_init_23 : decode cX3_init 23 = .ok (.newarray .int, 2) := by decide +kernel
theorem dX3_init_25 : decode cX3_init 25 = .ok (.putfield 18, 3) := by decide +kernel
theorem dX3_init_28 : decode cX3_init 28 = .ok (.aload_n 0, 1) := by decide +kernel
theorem dX3_init_29 : decode cX3_init 29 = .ok (.bipush 16, 2) := by decide +kernel
theorem dX3_init_31 : decode cX3_init 31 = .ok (.newarray .int, 2) := by decide +kernel
theorem dX3_init_33 : decode cX3_init 33 = .ok (.putfield 21, 3) := by decide +kernel
theorem dX3_init_36 : decode cX3_init 36 = .ok (.aload_n 0, 1) := by decide +kernel
theorem dX3_init_37 : decode cX3_init 37 = .ok (.iconst 2, 1) := by decide +kernel
theorem dX3_init_38 : decode cX3_init 38 = .ok (.newarray .int, 2) := by decide +kernel
theorem dX3_init_40 : decode cX3_init 40 = .ok (.putfield 24, 3) := by decide +kernel
theorem dX3_init_43 : decode cX3_init 43 = .ok (.aload_n 0, 1) := by decide +kernel
theorem dX3_init_44 : decode cX3_init 44 = .ok (.bipush 8, 2) := by decide +kernel
theorem dX3_init_46 : decode cX3_init 46 = .ok (.newarray .int, 2) := by decide +kernel
theorem dX3_init_48 : decode cX3_init 48 = .ok (.putfield 27, 3) := by decide +kernel
theorem dX3_init_51 : decode cX3_init 51 = .ok (.aload_n 0, 1) := by decide +kernel
theorem dX3_init_52 : decode cX3_init 52 = .ok (.bipush 8, 2) := by decide +kernel
theorem dX3_init_54 : decode cX3_init 54 = .ok (.newarray .int, 2) := by decide +kernel
theorem dX3_init_56 : decode cX3_init 56 = .ok (.putfield 30, 3) := by decide +kernel
theorem dX3_init_59 : decode cX3_init 59 = .ok (.aload_n 0, 1) := by decide +kernel
theorem dX3_init_60 : decode cX3_init 60 = .ok (.iconst 1, 1) := by decide +kernel
theorem dX3_init_61 : decode cX3_init 61 = .ok (.putfield 33, 3) := by decide +kernel
theorem dX3_init_64 : decode cX3_init 64 = .ok (.aload_n 0, 1) := by decide +kernel
theorem dX3_init_65 : decode cX3_init 65 = .ok (.iconst 1, 1) := by decide +kernel
theorem dX3_init_66 : decode cX3_init 66 = .ok (.putfield 37, 3) := by decide +kernel
theorem dX3_init_69 : decode cX3_init 69 = .ok (.aload_n 0, 1) := by decide +kernel
theorem dX3_init_70 : decode cX3_init 70 = .ok (.iload_n 1, 1) := by decide +kernel
theorem dX3_init_71 : decode cX3_init 71 = .ok (.putfield 40, 3) := by decide +kernel
theorem dX3_init_74 : decode cX3_init 74 = .ok (.return_, 1) := by decide +kernel
theorem dX3_has_0 : decode cX3_has 0 = .ok (.iload_n 1, 1) := by decide +kernel
theorem dX3_has_1 : decode cX3_has 1 = .ok (.ifCond .lt 15, 3) := by decide +kernel
theorem dX3_has_4 : decode cX3_has 4 = .ok (.iload_n 1, 1) := by decide +kernel
theorem dX3_has_5 : decode cX3_has 5 = .ok (.aload_n 0, 1) := by decide +kernel
theorem dX3_has_6 : decode cX3_has 6 = .ok (.getfield 40, 3) := by decide +kernel
theorem dX3_has_9 : decode cX3_has 9 = .ok (.if_icmp .ge 7, 3) := by decide +kernel
theorem dX3_has_12 : decode cX3_has 12 = .ok (.iconst 1, 1) := by decide +kernel
theorem dX3_has_13 : decode cX3_has 13 = .ok (.goto 4, 3) := by decide +kernel
theorem dX3_has_16 : decode cX3_has 16 = .ok (.iconst 0, 1) := by decide +kernel
theorem dX3_has_17 : decode cX3_has 17 = .ok (.ireturn, 1) := by decide +kernel
theorem dX3_allPlaces_0 : decode cX3_allPlaces 0 = .ok (.iconst 1, 1) := by decide +kernel
theorem dX3_allPlaces_1 : decode cX3_allPlaces 1 = .ok (.aload_n 0, 1) := by decide +kernel
theorem dX3_allPlaces_2 : decode cX3_allPlaces 2 = .ok (.getfield 40, 3) := by decide +kernel
theorem dX3_allPlaces_5 : decode cX3_allPlaces 5 = .ok (.ishl, 1) := by decide +kernel
theorem dX3_allPlaces_6 : decode cX3_allPlaces 6 = .ok (.iconst 1, 1) := by decide +kernel
theorem dX3_allPlaces_7 : decode cX3_allPlaces 7 = .ok (.isub, 1) := by decide +kernel
theorem dX3_allPlaces_8 : decode cX3_allPlaces 8 = .ok (.ireturn, 1) := by decide +kernel
theorem dX3_shutStates_0 : decode cX3_shutStates 0 = .ok (.aload_n 0, 1) := by decide +kernel
theorem dX3_shutStates_1 : decode cX3_shutStates 1 = .ok (.getfield 43, 3) := by decide +kernel
theorem dX3_shutStates_4 : decode cX3_shutStates 4 = .ok (.ifCond .ne 7, 3) := by decide +kernel
theorem dX3_shutStates_7 : decode cX3_shutStates 7 = .ok (.iconst 1, 1) := by decide +kernel
theorem dX3_shutStates_8 : decode cX3_shutStates 8 = .ok (.goto 17, 3) := by decide +kernel
theorem dX3_shutStates_11 : decode cX3_shutStates 11 = .ok (.aload_n 0, 1) := by decide +kernel
theorem dX3_shutStates_12 : decode cX3_shutStates 12 = .ok (.getfield 43, 3) := by decide +kernel
theorem dX3_shutStates_15 : decode cX3_shutStates 15 = .ok (.iconst 1, 1) := by decide +kernel
theorem dX3_shutStates_16 : decode cX3_shutStates 16 = .ok (.if_icmp .ne 7, 3) := by decide +kernel
theorem dX3_shutStates_19 : decode cX3_shutStates 19 = .ok (.iconst 3, 1) := by decide +kernel
theorem dX3_shutStates_20 : decode cX3_shutStates 20 = .ok (.goto 5, 3) := by decide +kernel
theorem dX3_shutStates_23 : decode cX3_shutStates 23 = .ok (.bipush 9, 2) := by decide +kernel
theorem dX3_shutStates_25 : decode cX3_shutStates 25 = .ok (.ireturn, 1) := by decide +kernel
theorem dX3_refusalOf_0 : decode cX3_refusalOf 0 = .ok (.aload_n 0, 1) := by decide +kernel
theorem dX3_refusalOf_1 : decode cX3_refusalOf 1 = .ok (.iload_n 2, 1) := by decide +kernel
theorem dX3_refusalOf_2 : decode cX3_refusalOf 2 = .ok (.invokevirtual 46, 3) := by decide +kernel
theorem dX3_refusalOf_5 : decode cX3_refusalOf 5 = .ok (.ifCond .eq 26, 3) := by decide +kernel
theorem dX3_refusalOf_8 : decode cX3_refusalOf 8 = .ok (.aload_n 0, 1) := by decide +kernel
theorem dX3_refusalOf_9 : decode cX3_refusalOf 9 = .ok (.iload_n 3, 1) := by decide +kernel
theorem dX3_refusalOf_10 : decode cX3_refusalOf 10 = .ok (.invokevirtual 46, 3) := by decide +kernel
theorem dX3_refusalOf_13 : decode cX3_refusalOf 13 = .ok (.ifCond .eq 18, 3) := by decide +kernel
theorem dX3_refusalOf_16 : decode cX3_refusalOf 16 = .ok (.iload_n 2, 1) := by decide +kernel
theorem dX3_refusalOf_17 : decode cX3_refusalOf 17 = .ok (.iload_n 3, 1) := by decide +kernel
theorem dX3_refusalOf_18 : decode cX3_refusalOf 18 = .ok (.if_icmp .eq 13, 3) := by decide +kernel
theorem dX3_refusalOf_21 : decode cX3_refusalOf 21 = .ok (.iload_n 1, 1) := by decide +kernel
theorem dX3_refusalOf_22 : decode cX3_refusalOf 22 = .ok (.ifCond .lt 9, 3) := by decide +kernel
theorem dX3_refusalOf_25 : decode cX3_refusalOf 25 = .ok (.iload_n 1, 1) := by decide +kernel
theorem dX3_refusalOf_26 : decode cX3_refusalOf 26 = .ok (.bipush 6, 2) := by decide +kernel
theorem dX3_refusalOf_28 : decode cX3_refusalOf 28 = .ok (.if_icmp .lt 6, 3) := by decide +kernel
theorem dX3_refusalOf_31 : decode cX3_refusalOf 31 = .ok (.bipush (-2), 2) := by decide +kernel
theorem dX3_refusalOf_33 : decode cX3_refusalOf 33 = .ok (.ireturn, 1) := by decide +kernel
theorem dX3_refusalOf_34 : decode cX3_refusalOf 34 = .ok (.getstatic 50, 3) := by decide +kernel
theorem dX3_refusalOf_37 : decode cX3_refusalOf 37 = .ok (.iload_n 1, 1) := by decide +kernel
theorem dX3_refusalOf_38 : decode cX3_refusalOf 38 = .ok (.iaload, 1) := by decide +kernel
theorem dX3_refusalOf_39 : decode cX3_refusalOf 39 = .ok (.ifCond .le 15, 3) := by decide +kernel
theorem dX3_refusalOf_42 : decode cX3_refusalOf 42 = .ok (.aload_n 0, 1) := by decide +kernel
theorem dX3_refusalOf_43 : decode cX3_refusalOf 43 = .ok (.getfield 43, 3) := by decide +kernel
theorem dX3_refusalOf_46 : decode cX3_refusalOf 46 = .ok (.iconst 2, 1) := by decide +kernel
theorem dX3_refusalOf_47 : decode cX3_refusalOf 47 = .ok (.if_icmp .lt 7, 3) := by decide +kernel
theorem dX3_refusalOf_50 : decode cX3_refusalOf 50 = .ok (.iconst 1, 1) := by decide +kernel
theorem dX3_refusalOf_51 : decode cX3_refusalOf 51 = .ok (.goto 4, 3) := by decide +kernel
theorem dX3_refusalOf_54 : decode cX3_refusalOf 54 = .ok (.iconst 0, 1) := by decide +kernel
theorem dX3_refusalOf_55 : decode cX3_refusalOf 55 = .ok (.istore 4, 2) := by decide +kernel
theorem dX3_refusalOf_57 : decode cX3_refusalOf 57 = .ok (.aload_n 0, 1) := by decide +kernel
theorem dX3_refusalOf_58 : decode cX3_refusalOf 58 = .ok (.getfield 53, 3) := by decide +kernel
theorem dX3_refusalOf_61 : decode cX3_refusalOf 61 = .ok (.bipush 16, 2) := by decide +kernel
theorem dX3_refusalOf_63 : decode cX3_refusalOf 63 = .ok (.if_icmp .ge 8, 3) := by decide +kernel
theorem dX3_refusalOf_66 : decode cX3_refusalOf 66 = .ok (.iload 4, 2) := by decide +kernel
theorem dX3_refusalOf_68 : decode cX3_refusalOf 68 = .ok (.ifCond .eq 8, 3) := by decide +kernel
theorem dX3_refusalOf_71 : decode cX3_refusalOf 71 = .ok (.bipush (-4), 2) := by decide +kernel
theorem dX3_refusalOf_73 : decode cX3_refusalOf 73 = .ok (.goto 4, 3) := by decide +kernel
theorem dX3_refusalOf_76 : decode cX3_refusalOf 76 = .ok (.iconst 0, 1) := by decide +kernel
theorem dX3_refusalOf_77 : decode cX3_refusalOf 77 = .ok (.ireturn, 1) := by decide +kernel
theorem dX3_put_0 : decode cX3_put 0 = .ok (.aload_n 0, 1) := by decide +kernel
theorem dX3_put_1 : decode cX3_put 1 = .ok (.iload_n 1, 1) := by decide +kernel
theorem dX3_put_2 : decode cX3_put 2 = .ok (.iload_n 2, 1) := by decide +kernel
theorem dX3_put_3 : decode cX3_put 3 = .ok (.iload_n 3, 1) := by decide +kernel
theorem dX3_put_4 : decode cX3_put 4 = .ok (.invokevirtual 56, 3) := by decide +kernel
theorem dX3_put_7 : decode cX3_put 7 = .ok (.istore 4, 2) := by decide +kernel
theorem dX3_put_9 : decode cX3_put 9 = .ok (.iload 4, 2) := by decide +kernel
theorem dX3_put_11 : decode cX3_put 11 = .ok (.ifCond .eq 6, 3) := by decide +kernel
theorem dX3_put_14 : decode cX3_put 14 = .ok (.iload 4, 2) := by decide +kernel
theorem dX3_put_16 : decode cX3_put 16 = .ok (.ireturn, 1) := by decide +kernel
theorem dX3_put_17 : decode cX3_put 17 = .ok (.aload_n 0, 1) := by decide +kernel
theorem dX3_put_18 : decode cX3_put 18 = .ok (.getfield 9, 3) := by decide +kernel
theorem dX3_put_21 : decode cX3_put 21 = .ok (.aload_n 0, 1) := by decide +kernel
theorem dX3_put_22 : decode cX3_put 22 = .ok (.getfield 53, 3) := by decide +kernel
theorem dX3_put_25 : decode cX3_put 25 = .ok (.iload_n 1, 1) := by decide +kernel
theorem dX3_put_26 : decode cX3_put 26 = .ok (.iastore, 1) := by decide +kernel
theorem dX3_put_27 : decode cX3_put 27 = .ok (.aload_n 0, 1) := by decide +kernel
theorem dX3_put_28 : decode cX3_put 28 = .ok (.getfield 15, 3) := by decide +kernel
theorem dX3_put_31 : decode cX3_put 31 = .ok (.aload_n 0, 1) := by decide +kernel
theorem dX3_put_32 : decode cX3_put 32 = .ok (.getfield 53, 3) := by decide +kernel
theorem dX3_put_35 : decode cX3_put 35 = .ok (.iload_n 2, 1) := by decide +kernel
theorem dX3_put_36 : decode cX3_put 36 = .ok (.iastore, 1) := by decide +kernel
theorem dX3_put_37 : decode cX3_put 37 = .ok (.aload_n 0, 1) := by decide +kernel
theorem dX3_put_38 : decode cX3_put 38 = .ok (.getfield 18, 3) := by decide +kernel
theorem dX3_put_41 : decode cX3_put 41 = .ok (.aload_n 0, 1) := by decide +kernel
theorem dX3_put_42 : decode cX3_put 42 = .ok (.getfield 53, 3) := by decide +kernel
theorem dX3_put_45 : decode cX3_put 45 = .ok (.iload_n 3, 1) := by decide +kernel
theorem dX3_put_46 : decode cX3_put 46 = .ok (.iastore, 1) := by decide +kernel
theorem dX3_put_47 : decode cX3_put 47 = .ok (.aload_n 0, 1) := by decide +kernel
theorem dX3_put_48 : decode cX3_put 48 = .ok (.getfield 21, 3) := by decide +kernel
theorem dX3_put_51 : decode cX3_put 51 = .ok (.aload_n 0, 1) := by decide +kernel
theorem dX3_put_52 : decode cX3_put 52 = .ok (.getfield 53, 3) := by decide +kernel
theorem dX3_put_55 : decode cX3_put 55 = .ok (.iconst (-1), 1) := by decide +kernel
theorem dX3_put_56 : decode cX3_put 56 = .ok (.iastore, 1) := by decide +kernel
theorem dX3_put_57 : decode cX3_put 57 = .ok (.getstatic 50, 3) := by decide +kernel
theorem dX3_put_60 : decode cX3_put 60 = .ok (.iload_n 1, 1) := by decide +kernel
theorem dX3_put_61 : decode cX3_put 61 = .ok (.iaload, 1) := by decide +kernel
theorem dX3_put_62 : decode cX3_put 62 = .ok (.ifCond .le 37, 3) := by decide +kernel
theorem dX3_put_65 : decode cX3_put 65 = .ok (.aload_n 0, 1) := by decide +kernel
theorem dX3_put_66 : decode cX3_put 66 = .ok (.getfield 24, 3) := by decide +kernel
theorem dX3_put_69 : decode cX3_put 69 = .ok (.aload_n 0, 1) := by decide +kernel
theorem dX3_put_70 : decode cX3_put 70 = .ok (.getfield 43, 3) := by decide +kernel
theorem dX3_put_73 : decode cX3_put 73 = .ok (.getstatic 50, 3) := by decide +kernel
theorem dX3_put_76 : decode cX3_put 76 = .ok (.iload_n 1, 1) := by decide +kernel
theorem dX3_put_77 : decode cX3_put 77 = .ok (.iaload, 1) := by decide +kernel
theorem dX3_put_78 : decode cX3_put 78 = .ok (.iastore, 1) := by decide +kernel
theorem dX3_put_79 : decode cX3_put 79 = .ok (.aload_n 0, 1) := by decide +kernel
theorem dX3_put_80 : decode cX3_put 80 = .ok (.getfield 21, 3) := by decide +kernel
theorem dX3_put_83 : decode cX3_put 83 = .ok (.aload_n 0, 1) := by decide +kernel
theorem dX3_put_84 : decode cX3_put 84 = .ok (.getfield 53, 3) := by decide +kernel
theorem dX3_put_87 : decode cX3_put 87 = .ok (.aload_n 0, 1) := by decide +kernel
theorem dX3_put_88 : decode cX3_put 88 = .ok (.dup, 1) := by decide +kernel
theorem dX3_put_89 : decode cX3_put 89 = .ok (.getfield 43, 3) := by decide +kernel
theorem dX3_put_92 : decode cX3_put 92 = .ok (.dup_x1, 1) := by decide +kernel
theorem dX3_put_93 : decode cX3_put 93 = .ok (.iconst 1, 1) := by decide +kernel
theorem dX3_put_94 : decode cX3_put 94 = .ok (.iadd, 1) := by decide +kernel
theorem dX3_put_95 : decode cX3_put 95 = .ok (.putfield 43, 3) := by decide +kernel
theorem dX3_put_98 : decode cX3_put 98 = .ok (.iastore, 1) := by decide +kernel
theorem dX3_put_99 : decode cX3_put 99 = .ok (.aload_n 0, 1) := by decide +kernel
theorem dX3_put_100 : decode cX3_put 100 = .ok (.getfield 30, 3) := by decide +kernel
theorem dX3_put_103 : decode cX3_put 103 = .ok (.iload_n 2, 1) := by decide +kernel
theorem dX3_put_104 : decode cX3_put 104 = .ok (.dup2, 1) := by decide +kernel
theorem dX3_put_105 : decode cX3_put 105 = .ok (.iaload, 1) := by decide +kernel
theorem dX3_put_106 : decode cX3_put 106 = .ok (.iconst 1, 1) := by decide +kernel
theorem dX3_put_107 : decode cX3_put 107 = .ok (.iload_n 3, 1) := by decide +kernel
theorem dX3_put_108 : decode cX3_put 108 = .ok (.ishl, 1) := by decide +kernel
theorem dX3_put_109 : decode cX3_put 109 = .ok (.ior, 1) := by decide +kernel
theorem dX3_put_110 : decode cX3_put 110 = .ok (.iastore, 1) := by decide +kernel
theorem dX3_put_111 : decode cX3_put 111 = .ok (.aload_n 0, 1) := by decide +kernel
theorem dX3_put_112 : decode cX3_put 112 = .ok (.getfield 30, 3) := by decide +kernel
theorem dX3_put_115 : decode cX3_put 115 = .ok (.iload_n 3, 1) := by decide +kernel
theorem dX3_put_116 : decode cX3_put 116 = .ok (.dup2, 1) := by decide +kernel
theorem dX3_put_117 : decode cX3_put 117 = .ok (.iaload, 1) := by decide +kernel
theorem dX3_put_118 : decode cX3_put 118 = .ok (.iconst 1, 1) := by decide +kernel
theorem dX3_put_119 : decode cX3_put 119 = .ok (.iload_n 2, 1) := by decide +kernel
theorem dX3_put_120 : decode cX3_put 120 = .ok (.ishl, 1) := by decide +kernel
theorem dX3_put_121 : decode cX3_put 121 = .ok (.ior, 1) := by decide +kernel
theorem dX3_put_122 : decode cX3_put 122 = .ok (.iastore, 1) := by decide +kernel
theorem dX3_put_123 : decode cX3_put 123 = .ok (.aload_n 0, 1) := by decide +kernel
theorem dX3_put_124 : decode cX3_put 124 = .ok (.dup, 1) := by decide +kernel
theorem dX3_put_125 : decode cX3_put 125 = .ok (.getfield 60, 3) := by decide +kernel
theorem dX3_put_128 : decode cX3_put 128 = .ok (.iconst 1, 1) := by decide +kernel
theorem dX3_put_129 : decode cX3_put 129 = .ok (.iadd, 1) := by decide +kernel
theorem dX3_put_130 : decode cX3_put 130 = .ok (.putfield 60, 3) := by decide +kernel
theorem dX3_put_133 : decode cX3_put 133 = .ok (.aload_n 0, 1) := by decide +kernel
theorem dX3_put_134 : decode cX3_put 134 = .ok (.dup, 1) := by decide +kernel
theorem dX3_put_135 : decode cX3_put 135 = .ok (.getfield 53, 3) := by decide +kernel
theorem dX3_put_138 : decode cX3_put 138 = .ok (.dup_x1, 1) := by decide +kernel
theorem dX3_put_139 : decode cX3_put 139 = .ok (.iconst 1, 1) := by decide +kernel
theorem dX3_put_140 : decode cX3_put 140 = .ok (.iadd, 1) := by decide +kernel
theorem dX3_put_141 : decode cX3_put 141 = .ok (.putfield 53, 3) := by decide +kernel
theorem dX3_put_144 : decode cX3_put 144 = .ok (.ireturn, 1) := by decide +kernel
theorem dX3_dropLatest_0 : decode cX3_dropLatest 0 = .ok (.aload_n 0, 1) := by decide +kernel
theorem dX3_dropLatest_1 : decode cX3_dropLatest 1 = .ok (.getfield 53, 3) := by decide +kernel
theorem dX3_dropLatest_4 : decode cX3_dropLatest 4 = .ok (.ifCond .ne 4, 3) := by decide +kernel
theorem dX3_dropLatest_7 : decode cX3_dropLatest 7 = .ok (.return_, 1) := by decide +kernel
theorem dX3_dropLatest_8 : decode cX3_dropLatest 8 = .ok (.aload_n 0, 1) := by decide +kernel
theorem dX3_dropLatest_9 : decode cX3_dropLatest 9 = .ok (.dup, 1) := by decide +kernel
theorem dX3_dropLatest_10 : decode cX3_dropLatest 10 = .ok (.getfield 53, 3) := by decide +kernel
theorem dX3_dropLatest_13 : decode cX3_dropLatest 13 = .ok (.iconst 1, 1) := by decide +kernel
theorem dX3_dropLatest_14 : decode cX3_dropLatest 14 = .ok (.isub, 1) := by decide +kernel
theorem dX3_dropLatest_15 : decode cX3_dropLatest 15 = .ok (.putfield 53, 3) := by decide +kernel
theorem dX3_dropLatest_18 : decode cX3_dropLatest 18 = .ok (.aload_n 0, 1) := by decide +kernel
theorem dX3_dropLatest_19 : decode cX3_dropLatest 19 = .ok (.getfield 21, 3) := by decide +kernel
theorem dX3_dropLatest_22 : decode cX3_dropLatest 22 = .ok (.aload_n 0, 1) := by decide +kernel
theorem dX3_dropLatest_23 : decode cX3_dropLatest 23 = .ok (.getfield 53, 3) := by decide +kernel
theorem dX3_dropLatest_26 : decode cX3_dropLatest 26 = .ok (.iaload, 1) := by decide +kernel
theorem dX3_dropLatest_27 : decode cX3_dropLatest 27 = .ok (.ifCond .lt 13, 3) := by decide +kernel
theorem dX3_dropLatest_30 : decode cX3_dropLatest 30 = .ok (.aload_n 0, 1) := by decide +kernel
theorem dX3_dropLatest_31 : decode cX3_dropLatest 31 = .ok (.dup, 1) := by decide +kernel
theorem dX3_dropLatest_32 : decode cX3_dropLatest 32 = .ok (.getfield 43, 3) := by decide +kernel
theorem dX3_dropLatest_35 : decode cX3_dropLatest 35 = .ok (.iconst 1, 1) := by decide +kernel
theorem dX3_dropLatest_36 : decode cX3_dropLatest 36 = .ok (.isub, 1) := by decide +kernel
theorem dX3_dropLatest_37 : decode cX3_dropLatest 37 = .ok (.putfield 43, 3) := by decide +kernel
theorem dX3_dropLatest_40 : decode cX3_dropLatest 40 = .ok (.iconst 0, 1) := by decide +kernel
theorem dX3_dropLatest_41 : decode cX3_dropLatest 41 = .ok (.istore_n 1, 1) := by decide +kernel
theorem dX3_dropLatest_42 : decode cX3_dropLatest 42 = .ok (.iload_n 1, 1) := by decide +kernel
theorem dX3_dropLatest_43 : decode cX3_dropLatest 43 = .ok (.aload_n 0, 1) := by decide +kernel
theorem dX3_dropLatest_44 : decode cX3_dropLatest 44 = .ok (.getfield 40, 3) := by decide +kernel
theorem dX3_dropLatest_47 : decode cX3_dropLatest 47 = .ok (.if_icmp .ge 16, 3) := by decide +kernel
theorem dX3_dropLatest_50 : decode cX3_dropLatest 50 = .ok (.aload_n 0, 1) := by decide +kernel
theorem dX3_dropLatest_51 : decode cX3_dropLatest 51 = .ok (.getfield 30, 3) := by decide +kernel
theorem dX3_dropLatest_54 : decode cX3_dropLatest 54 = .ok (.iload_n 1, 1) := by decide +kernel
theorem dX3_dropLatest_55 : decode cX3_dropLatest 55 = .ok (.iconst 0, 1) := by decide +kernel
theorem dX3_dropLatest_56 : decode cX3_dropLatest 56 = .ok (.iastore, 1) := by decide +kernel
theorem dX3_dropLatest_57 : decode cX3_dropLatest 57 = .ok (.iinc 1 1, 3) := by decide +kernel
theorem dX3_dropLatest_60 : decode cX3_dropLatest 60 = .ok (.goto (-18), 3) := by decide +kernel
theorem dX3_dropLatest_63 : decode cX3_dropLatest 63 = .ok (.iconst 0, 1) := by decide +kernel
theorem dX3_dropLatest_64 : decode cX3_dropLatest 64 = .ok (.istore_n 1, 1) := by decide +kernel
theorem dX3_dropLatest_65 : decode cX3_dropLatest 65 = .ok (.iload_n 1, 1) := by decide +kernel
theorem dX3_dropLatest_66 : decode cX3_dropLatest 66 = .ok (.aload_n 0, 1) := by decide +kernel
theorem dX3_dropLatest_67 : decode cX3_dropLatest 67 = .ok (.getfield 53, 3) := by decide +kernel
theorem dX3_dropLatest_70 : decode cX3_dropLatest 70 = .ok (.if_icmp .ge 53, 3) := by decide +kernel
theorem dX3_dropLatest_73 : decode cX3_dropLatest 73 = .ok (.aload_n 0, 1) := by decide +kernel
theorem dX3_dropLatest_74 : decode cX3_dropLatest 74 = .ok (.getfield 30, 3) := by decide +kernel
theorem dX3_dropLatest_77 : decode cX3_dropLatest 77 = .ok (.aload_n 0, 1) := by decide +kernel
theorem dX3_dropLatest_78 : decode cX3_dropLatest 78 = .ok (.getfield 15, 3) := by decide +kernel
theorem dX3_dropLatest_81 : decode cX3_dropLatest 81 = .ok (.iload_n 1, 1) := by decide +kernel
theorem dX3_dropLatest_82 : decode cX3_dropLatest 82 = .ok (.iaload, 1) := by decide +kernel
theorem dX3_dropLatest_83 : decode cX3_dropLatest 83 = .ok (.dup2, 1) := by decide +kernel
theorem dX3_dropLatest_84 : decode cX3_dropLatest 84 = .ok (.iaload, 1) := by decide +kernel
theorem dX3_dropLatest_85 : decode cX3_dropLatest 85 = .ok (.iconst 1, 1) := by decide +kernel
theorem dX3_dropLatest_86 : decode cX3_dropLatest 86 = .ok (.aload_n 0, 1) := by decide +kernel
theorem dX3_dropLatest_87 : decode cX3_dropLatest 87 = .ok (.getfield 18, 3) := by decide +kernel
theorem dX3_dropLatest_90 : decode cX3_dropLatest 90 = .ok (.iload_n 1, 1) := by decide +kernel
theorem dX3_dropLatest_91 : decode cX3_dropLatest 91 = .ok (.iaload, 1) := by decide +kernel
theorem dX3_dropLatest_92 : decode cX3_dropLatest 92 = .ok (.ishl, 1) := by decide +kernel
theorem dX3_dropLatest_93 : decode cX3_dropLatest 93 = .ok (.ior, 1) := by decide +kernel
theorem dX3_dropLatest_94 : decode cX3_dropLatest 94 = .ok (.iastore, 1) := by decide +kernel
theorem dX3_dropLatest_95 : decode cX3_dropLatest 95 = .ok (.aload_n 0, 1) := by decide +kernel
theorem dX3_dropLatest_96 : decode cX3_dropLatest 96 = .ok (.getfield 30, 3) := by decide +kernel
theorem dX3_dropLatest_99 : decode cX3_dropLatest 99 = .ok (.aload_n 0, 1) := by decide +kernel
theorem dX3_dropLatest_100 : decode cX3_dropLatest 100 = .ok (.getfield 18, 3) := by decide +kernel
theorem dX3_dropLatest_103 : decode cX3_dropLatest 103 = .ok (.iload_n 1, 1) := by decide +kernel
theorem dX3_dropLatest_104 : decode cX3_dropLatest 104 = .ok (.iaload, 1) := by decide +kernel
theorem dX3_dropLatest_105 : decode cX3_dropLatest 105 = .ok (.dup2, 1) := by decide +kernel
theorem dX3_dropLatest_106 : decode cX3_dropLatest 106 = .ok (.iaload, 1) := by decide +kernel
theorem dX3_dropLatest_107 : decode cX3_dropLatest 107 = .ok (.iconst 1, 1) := by decide +kernel
theorem dX3_dropLatest_108 : decode cX3_dropLatest 108 = .ok (.aload_n 0, 1) := by decide +kernel
theorem dX3_dropLatest_109 : decode cX3_dropLatest 109 = .ok (.getfield 15, 3) := by decide +kernel
theorem dX3_dropLatest_112 : decode cX3_dropLatest 112 = .ok (.iload_n 1, 1) := by decide +kernel
theorem dX3_dropLatest_113 : decode cX3_dropLatest 113 = .ok (.iaload, 1) := by decide +kernel
theorem dX3_dropLatest_114 : decode cX3_dropLatest 114 = .ok (.ishl, 1) := by decide +kernel
theorem dX3_dropLatest_115 : decode cX3_dropLatest 115 = .ok (.ior, 1) := by decide +kernel
theorem dX3_dropLatest_116 : decode cX3_dropLatest 116 = .ok (.iastore, 1) := by decide +kernel
theorem dX3_dropLatest_117 : decode cX3_dropLatest 117 = .ok (.iinc 1 1, 3) := by decide +kernel
theorem dX3_dropLatest_120 : decode cX3_dropLatest 120 = .ok (.goto (-55), 3) := by decide +kernel
theorem dX3_dropLatest_123 : decode cX3_dropLatest 123 = .ok (.aload_n 0, 1) := by decide +kernel
theorem dX3_dropLatest_124 : decode cX3_dropLatest 124 = .ok (.dup, 1) := by decide +kernel
theorem dX3_dropLatest_125 : decode cX3_dropLatest 125 = .ok (.getfield 60, 3) := by decide +kernel
theorem dX3_dropLatest_128 : decode cX3_dropLatest 128 = .ok (.iconst 1, 1) := by decide +kernel
theorem dX3_dropLatest_129 : decode cX3_dropLatest 129 = .ok (.iadd, 1) := by decide +kernel
theorem dX3_dropLatest_130 : decode cX3_dropLatest 130 = .ok (.putfield 60, 3) := by decide +kernel
theorem dX3_dropLatest_133 : decode cX3_dropLatest 133 = .ok (.return_, 1) := by decide +kernel
theorem dX3_becomes_0 : decode cX3_becomes 0 = .ok (.aload_n 0, 1) := by decide +kernel
theorem dX3_becomes_1 : decode cX3_becomes 1 = .ok (.iconst 0, 1) := by decide +kernel
theorem dX3_becomes_2 : decode cX3_becomes 2 = .ok (.putfield 53, 3) := by decide +kernel
theorem dX3_becomes_5 : decode cX3_becomes 5 = .ok (.aload_n 0, 1) := by decide +kernel
theorem dX3_becomes_6 : decode cX3_becomes 6 = .ok (.iconst 0, 1) := by decide +kernel
theorem dX3_becomes_7 : decode cX3_becomes 7 = .ok (.putfield 43, 3) := by decide +kernel
theorem dX3_becomes_10 : decode cX3_becomes 10 = .ok (.aload_n 0, 1) := by decide +kernel
theorem dX3_becomes_11 : decode cX3_becomes 11 = .ok (.aload_n 1, 1) := by decide +kernel
theorem dX3_becomes_12 : decode cX3_becomes 12 = .ok (.getfield 33, 3) := by decide +kernel
theorem dX3_becomes_15 : decode cX3_becomes 15 = .ok (.putfield 33, 3) := by decide +kernel
theorem dX3_becomes_18 : decode cX3_becomes 18 = .ok (.aload_n 0, 1) := by decide +kernel
theorem dX3_becomes_19 : decode cX3_becomes 19 = .ok (.aload_n 1, 1) := by decide +kernel
theorem dX3_becomes_20 : decode cX3_becomes 20 = .ok (.getfield 37, 3) := by decide +kernel
theorem dX3_becomes_23 : decode cX3_becomes 23 = .ok (.putfield 37, 3) := by decide +kernel
theorem dX3_becomes_26 : decode cX3_becomes 26 = .ok (.iconst 0, 1) := by decide +kernel
theorem dX3_becomes_27 : decode cX3_becomes 27 = .ok (.istore_n 3, 1) := by decide +kernel
theorem dX3_becomes_28 : decode cX3_becomes 28 = .ok (.iload_n 3, 1) := by decide +kernel
theorem dX3_becomes_29 : decode cX3_becomes 29 = .ok (.aload_n 0, 1) := by decide +kernel
theorem dX3_becomes_30 : decode cX3_becomes 30 = .ok (.getfield 40, 3) := by decide +kernel
theorem dX3_becomes_33 : decode cX3_becomes 33 = .ok (.if_icmp .ge 28, 3) := by decide +kernel
theorem dX3_becomes_36 : decode cX3_becomes 36 = .ok (.aload_n 0, 1) := by decide +kernel
theorem dX3_becomes_37 : decode cX3_becomes 37 = .ok (.getfield 30, 3) := by decide +kernel
theorem dX3_becomes_40 : decode cX3_becomes 40 = .ok (.iload_n 3, 1) := by decide +kernel
theorem dX3_becomes_41 : decode cX3_becomes 41 = .ok (.iconst 0, 1) := by decide +kernel
theorem dX3_becomes_42 : decode cX3_becomes 42 = .ok (.iastore, 1) := by decide +kernel
theorem dX3_becomes_43 : decode cX3_becomes 43 = .ok (.aload_n 0, 1) := by decide +kernel
theorem dX3_becomes_44 : decode cX3_becomes 44 = .ok (.getfield 27, 3) := by decide +kernel
theorem dX3_becomes_47 : decode cX3_becomes 47 = .ok (.iload_n 3, 1) := by decide +kernel
theorem dX3_becomes_48 : decode cX3_becomes 48 = .ok (.aload_n 1, 1) := by decide +kernel
theorem dX3_becomes_49 : decode cX3_becomes 49 = .ok (.getfield 27, 3) := by decide +kernel
theorem dX3_becomes_52 : decode cX3_becomes 52 = .ok (.iload_n 3, 1) := by decide +kernel
theorem dX3_becomes_53 : decode cX3_becomes 53 = .ok (.iaload, 1) := by decide +kernel
theorem dX3_becomes_54 : decode cX3_becomes 54 = .ok (.iastore, 1) := by decide +kernel
theorem dX3_becomes_55 : decode cX3_becomes 55 = .ok (.iinc 3 1, 3) := by decide +kernel
theorem dX3_becomes_58 : decode cX3_becomes 58 = .ok (.goto (-30), 3) := by decide +kernel
theorem dX3_becomes_61 : decode cX3_becomes 61 = .ok (.iconst 0, 1) := by decide +kernel
theorem dX3_becomes_62 : decode cX3_becomes 62 = .ok (.istore_n 3, 1) := by decide +kernel
theorem dX3_becomes_63 : decode cX3_becomes 63 = .ok (.iload_n 3, 1) := by decide +kernel
theorem dX3_becomes_64 : decode cX3_becomes 64 = .ok (.aload_n 1, 1) := by decide +kernel
theorem dX3_becomes_65 : decode cX3_becomes 65 = .ok (.getfield 53, 3) := by decide +kernel
theorem dX3_becomes_68 : decode cX3_becomes 68 = .ok (.if_icmp .ge 37, 3) := by decide +kernel
theorem dX3_becomes_71 : decode cX3_becomes 71 = .ok (.iload_n 3, 1) := by decide +kernel
theorem dX3_becomes_72 : decode cX3_becomes 72 = .ok (.iload_n 2, 1) := by decide +kernel
theorem dX3_becomes_73 : decode cX3_becomes 73 = .ok (.if_icmp .eq 26, 3) := by decide +kernel
theorem dX3_becomes_76 : decode cX3_becomes 76 = .ok (.aload_n 0, 1) := by decide +kernel
theorem dX3_becomes_77 : decode cX3_becomes 77 = .ok (.aload_n 1, 1) := by decide +kernel
theorem dX3_becomes_78 : decode cX3_becomes 78 = .ok (.getfield 9, 3) := by decide +kernel
theorem dX3_becomes_81 : decode cX3_becomes 81 = .ok (.iload_n 3, 1) := by decide +kernel
theorem dX3_becomes_82 : decode cX3_becomes 82 = .ok (.iaload, 1) := by decide +kernel
theorem dX3_becomes_83 : decode cX3_becomes 83 = .ok (.aload_n 1, 1) := by decide +kernel
theorem dX3_becomes_84 : decode cX3_becomes 84 = .ok (.getfield 15, 3) := by decide +kernel
theorem dX3_becomes_87 : decode cX3_becomes 87 = .ok (.iload_n 3, 1) := by decide +kernel
theorem dX3_becomes_88 : decode cX3_becomes 88 = .ok (.iaload, 1) := by decide +kernel
theorem dX3_becomes_89 : decode cX3_becomes 89 = .ok (.aload_n 1, 1) := by decide +kernel
theorem dX3_becomes_90 : decode cX3_becomes 90 = .ok (.getfield 18, 3) := by decide +kernel
theorem dX3_becomes_93 : decode cX3_becomes 93 = .ok (.iload_n 3, 1) := by decide +kernel
theorem dX3_becomes_94 : decode cX3_becomes 94 = .ok (.iaload, 1) := by decide +kernel
theorem dX3_becomes_95 : decode cX3_becomes 95 = .ok (.invokevirtual 63, 3) := by decide +kernel
theorem dX3_becomes_98 : decode cX3_becomes 98 = .ok (.pop, 1) := by decide +kernel
theorem dX3_becomes_99 : decode cX3_becomes 99 = .ok (.iinc 3 1, 3) := by decide +kernel
theorem dX3_becomes_102 : decode cX3_becomes 102 = .ok (.goto (-39), 3) := by decide +kernel
theorem dX3_becomes_105 : decode cX3_becomes 105 = .ok (.return_, 1) := by decide +kernel
theorem dX3_sortedPair_0 : decode cX3_sortedPair 0 = .ok (.iload_n 0, 1) := by decide +kernel
theorem dX3_sortedPair_1 : decode cX3_sortedPair 1 = .ok (.iload_n 1, 1) := by decide +kernel
theorem dX3_sortedPair_2 : decode cX3_sortedPair 2 = .ok (.invokestatic 66, 3) := by decide +kernel
theorem dX3_sortedPair_5 : decode cX3_sortedPair 5 = .ok (.bipush 8, 2) := by decide +kernel
theorem dX3_sortedPair_7 : decode cX3_sortedPair 7 = .ok (.imul, 1) := by decide +kernel
theorem dX3_sortedPair_8 : decode cX3_sortedPair 8 = .ok (.iload_n 0, 1) := by decide +kernel
theorem dX3_sortedPair_9 : decode cX3_sortedPair 9 = .ok (.iload_n 1, 1) := by decide +kernel
theorem dX3_sortedPair_10 : decode cX3_sortedPair 10 = .ok (.invokestatic 72, 3) := by decide +kernel
theorem dX3_sortedPair_13 : decode cX3_sortedPair 13 = .ok (.iadd, 1) := by decide +kernel
theorem dX3_sortedPair_14 : decode cX3_sortedPair 14 = .ok (.ireturn, 1) := by decide +kernel
theorem dX3_placesOf_0 : decode cX3_placesOf 0 = .ok (.iconst 1, 1) := by decide +kernel
theorem dX3_placesOf_1 : decode cX3_placesOf 1 = .ok (.iload_n 0, 1) := by decide +kernel
theorem dX3_placesOf_2 : decode cX3_placesOf 2 = .ok (.iconst 3, 1) := by decide +kernel
theorem dX3_placesOf_3 : decode cX3_placesOf 3 = .ok (.ishr, 1) := by decide +kernel
theorem dX3_placesOf_4 : decode cX3_placesOf 4 = .ok (.ishl, 1) := by decide +kernel
theorem dX3_placesOf_5 : decode cX3_placesOf 5 = .ok (.iconst 1, 1) := by decide +kernel
theorem dX3_placesOf_6 : decode cX3_placesOf 6 = .ok (.iload_n 0, 1) := by decide +kernel
theorem dX3_placesOf_7 : decode cX3_placesOf 7 = .ok (.bipush 7, 2) := by decide +kernel
theorem dX3_placesOf_9 : decode cX3_placesOf 9 = .ok (.iand, 1) := by decide +kernel
theorem dX3_placesOf_10 : decode cX3_placesOf 10 = .ok (.ishl, 1) := by decide +kernel
theorem dX3_placesOf_11 : decode cX3_placesOf 11 = .ok (.ior, 1) := by decide +kernel
theorem dX3_placesOf_12 : decode cX3_placesOf 12 = .ok (.ireturn, 1) := by decide +kernel
theorem dX3_pairOf_0 : decode cX3_pairOf 0 = .ok (.aload_n 0, 1) := by decide +kernel
theorem dX3_pairOf_1 : decode cX3_pairOf 1 = .ok (.getfield 33, 3) := by decide +kernel
theorem dX3_pairOf_4 : decode cX3_pairOf 4 = .ok (.iconst 1, 1) := by decide +kernel
theorem dX3_pairOf_5 : decode cX3_pairOf 5 = .ok (.if_icmp .ne 7, 3) := by decide +kernel
theorem dX3_pairOf_8 : decode cX3_pairOf 8 = .ok (.iload_n 1, 1) := by decide +kernel
theorem dX3_pairOf_9 : decode cX3_pairOf 9 = .ok (.goto 4, 3) := by decide +kernel
theorem dX3_pairOf_12 : decode cX3_pairOf 12 = .ok (.iload_n 2, 1) := by decide +kernel
theorem dX3_pairOf_13 : decode cX3_pairOf 13 = .ok (.istore_n 3, 1) := by decide +kernel
theorem dX3_pairOf_14 : decode cX3_pairOf 14 = .ok (.aload_n 0, 1) := by decide +kernel
theorem dX3_pairOf_15 : decode cX3_pairOf 15 = .ok (.iload_n 1, 1) := by decide +kernel
theorem dX3_pairOf_16 : decode cX3_pairOf 16 = .ok (.invokevirtual 46, 3) := by decide +kernel
theorem dX3_pairOf_19 : decode cX3_pairOf 19 = .ok (.ifCond .eq 19, 3) := by decide +kernel
theorem dX3_pairOf_22 : decode cX3_pairOf 22 = .ok (.aload_n 0, 1) := by decide +kernel
theorem dX3_pairOf_23 : decode cX3_pairOf 23 = .ok (.iload_n 3, 1) := by decide +kernel
theorem dX3_pairOf_24 : decode cX3_pairOf 24 = .ok (.invokevirtual 46, 3) := by decide +kernel
theorem dX3_pairOf_27 : decode cX3_pairOf 27 = .ok (.ifCond .eq 11, 3) := by decide +kernel
theorem dX3_pairOf_30 : decode cX3_pairOf 30 = .ok (.iload_n 1, 1) := by decide +kernel
theorem dX3_pairOf_31 : decode cX3_pairOf 31 = .ok (.iload_n 3, 1) := by decide +kernel
theorem dX3_pairOf_32 : decode cX3_pairOf 32 = .ok (.invokestatic 75, 3) := by decide +kernel
theorem dX3_pairOf_35 : decode cX3_pairOf 35 = .ok (.goto 4, 3) := by decide +kernel
theorem dX3_pairOf_38 : decode cX3_pairOf 38 = .ok (.iconst (-1), 1) := by decide +kernel
theorem dX3_pairOf_39 : decode cX3_pairOf 39 = .ok (.ireturn, 1) := by decide +kernel
theorem dX3_isPair_0 : decode cX3_isPair 0 = .ok (.iload_n 1, 1) := by decide +kernel
theorem dX3_isPair_1 : decode cX3_isPair 1 = .ok (.iconst 3, 1) := by decide +kernel
theorem dX3_isPair_2 : decode cX3_isPair 2 = .ok (.ishr, 1) := by decide +kernel
theorem dX3_isPair_3 : decode cX3_isPair 3 = .ok (.istore_n 2, 1) := by decide +kernel
theorem dX3_isPair_4 : decode cX3_isPair 4 = .ok (.iload_n 1, 1) := by decide +kernel
theorem dX3_isPair_5 : decode cX3_isPair 5 = .ok (.bipush 7, 2) := by decide +kernel
theorem dX3_isPair_7 : decode cX3_isPair 7 = .ok (.iand, 1) := by decide +kernel
theorem dX3_isPair_8 : decode cX3_isPair 8 = .ok (.istore_n 3, 1) := by decide +kernel
theorem dX3_isPair_9 : decode cX3_isPair 9 = .ok (.aload_n 0, 1) := by decide +kernel
theorem dX3_isPair_10 : decode cX3_isPair 10 = .ok (.iload_n 2, 1) := by decide +kernel
theorem dX3_isPair_11 : decode cX3_isPair 11 = .ok (.invokevirtual 46, 3) := by decide +kernel
theorem dX3_isPair_14 : decode cX3_isPair 14 = .ok (.ifCond .eq 36, 3) := by decide +kernel
theorem dX3_isPair_17 : decode cX3_isPair 17 = .ok (.aload_n 0, 1) := by decide +kernel
theorem dX3_isPair_18 : decode cX3_isPair 18 = .ok (.iload_n 3, 1) := by decide +kernel
theorem dX3_isPair_19 : decode cX3_isPair 19 = .ok (.invokevirtual 46, 3) := by decide +kernel
theorem dX3_isPair_22 : decode cX3_isPair 22 = .ok (.ifCond .eq 28, 3) := by decide +kernel
theorem dX3_isPair_25 : decode cX3_isPair 25 = .ok (.aload_n 0, 1) := by decide +kernel
theorem dX3_isPair_26 : decode cX3_isPair 26 = .ok (.getfield 33, 3) := by decide +kernel
theorem dX3_isPair_29 : decode cX3_isPair 29 = .ok (.iconst 1, 1) := by decide +kernel
theorem dX3_isPair_30 : decode cX3_isPair 30 = .ok (.if_icmp .ne 11, 3) := by decide +kernel
theorem dX3_isPair_33 : decode cX3_isPair 33 = .ok (.iload_n 2, 1) := by decide +kernel
theorem dX3_isPair_34 : decode cX3_isPair 34 = .ok (.iload_n 3, 1) := by decide +kernel
theorem dX3_isPair_35 : decode cX3_isPair 35 = .ok (.if_icmp .ne 15, 3) := by decide +kernel
theorem dX3_isPair_38 : decode cX3_isPair 38 = .ok (.goto 8, 3) := by decide +kernel
theorem dX3_isPair_41 : decode cX3_isPair 41 = .ok (.iload_n 2, 1) := by decide +kernel
theorem dX3_isPair_42 : decode cX3_isPair 42 = .ok (.iload_n 3, 1) := by decide +kernel
theorem dX3_isPair_43 : decode cX3_isPair 43 = .ok (.if_icmp .gt 7, 3) := by decide +kernel
theorem dX3_isPair_46 : decode cX3_isPair 46 = .ok (.iconst 1, 1) := by decide +kernel
theorem dX3_isPair_47 : decode cX3_isPair 47 = .ok (.goto 4, 3) := by decide +kernel
theorem dX3_isPair_50 : decode cX3_isPair 50 = .ok (.iconst 0, 1) := by decide +kernel
theorem dX3_isPair_51 : decode cX3_isPair 51 = .ok (.ireturn, 1) := by decide +kernel
theorem dX3_isWell_0 : decode cX3_isWell 0 = .ok (.aload_n 0, 1) := by decide +kernel
theorem dX3_isWell_1 : decode cX3_isWell 1 = .ok (.getfield 27, 3) := by decide +kernel
theorem dX3_isWell_4 : decode cX3_isWell 4 = .ok (.iload_n 1, 1) := by decide +kernel
theorem dX3_isWell_5 : decode cX3_isWell 5 = .ok (.iaload, 1) := by decide +kernel
theorem dX3_isWell_6 : decode cX3_isWell 6 = .ok (.iconst 1, 1) := by decide +kernel
theorem dX3_isWell_7 : decode cX3_isWell 7 = .ok (.iand, 1) := by decide +kernel
theorem dX3_isWell_8 : decode cX3_isWell 8 = .ok (.ifCond .eq 7, 3) := by decide +kernel
theorem dX3_isWell_11 : decode cX3_isWell 11 = .ok (.iconst 1, 1) := by decide +kernel
