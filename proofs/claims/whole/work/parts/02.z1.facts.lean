theorem fl_RX4_32 : Cond.fieldLink RX4 32 (TX4 5).1 (TX4 5).2.1 (TX4 5).2.2.1 ∈ lw_g := mg (i := 330) (by decide +kernel) rfl
theorem fl_RX4_19 : Cond.fieldLink RX4 19 (TX4 4).1 (TX4 4).2.1 (TX4 4).2.2.1 ∈ lw_g := mg (i := 329) (by decide +kernel) rfl
theorem ml_RX4_86 : Cond.methodLink RX4 86 yJ0_length_8abf5 ∈ lw_g := mg (i := 1005) (by decide +kernel) rfl
theorem ml_RX4_91 : Cond.methodLink RX4 91 yJ0_charAt_5068e ∈ lw_g := mg (i := 1006) (by decide +kernel) rfl
theorem fl_RX4_23 : Cond.fieldLink RX4 23 (TX4 7).1 (TX4 7).2.1 (TX4 7).2.2.1 ∈ lw_g := mg (i := 332) (by decide +kernel) rfl
theorem fl_RX4_61 : Cond.fieldLink RX4 61 (TX4 8).1 (TX4 8).2.1 (TX4 8).2.2.1 ∈ lw_g := mg (i := 333) (by decide +kernel) rfl
theorem ml_RX4_64 : Cond.methodLink RX4 64 yX4_byteAt ∈ lw_g := mg (i := 993) (by decide +kernel) rfl
theorem cf_X4_byteAt : CalF yX4_byteAt cX4_byteAt 2 (some .int) 1 := ⟨mg (i := 996) (by decide +kernel) rfl, mg (i := 132) (by decide +kernel) rfl, ⟨by decide, by decide⟩, by decide +kernel, by decide⟩
theorem cv_X4_byteAt : Cond.instanceMethod yX4_byteAt ∈ lw_g ∧ Cond.selects yX4_byteAt.cls yX4_byteAt yX4_byteAt ∈ lw_g := ⟨mg (i := 995) (by decide +kernel) rfl, mg (i := 38) (by decide +kernel) rfl⟩
theorem fl_RX4_35 : Cond.fieldLink RX4 35 (TX4 6).1 (TX4 6).2.1 (TX4 6).2.2.1 ∈ lw_g := mg (i := 331) (by decide +kernel) rfl
theorem ml_RX4_68 : Cond.methodLink RX4 68 yX4_isLetter ∈ lw_g := mg (i := 997) (by decide +kernel) rfl
theorem cf_X4_isLetter : CalF yX4_isLetter cX4_isLetter 1 (some .boolean) 1 := ⟨mg (i := 999) (by decide +kernel) rfl, mg (i := 132) (by decide +kernel) rfl, ⟨by decide, by decide⟩, by decide +kernel, by decide⟩
theorem cv_X4_isLetter : Cond.static yX4_isLetter ∈ lw_g := mg (i := 998) (by decide +kernel) rfl
theorem ml_RX4_75 : Cond.methodLink RX4 75 yX4_isDigit ∈ lw_g := mg (i := 1007) (by decide +kernel) rfl
theorem cf_X4_isDigit : CalF yX4_isDigit cX4_isDigit 1 (some .boolean) 1 := ⟨mg (i := 1009) (by decide +kernel) rfl, mg (i := 132) (by decide +kernel) rfl, ⟨by decide, by decide⟩, by decide +kernel, by decide⟩
theorem cv_X4_isDigit : Cond.static yX4_isDigit ∈ lw_g := mg (i := 1008) (by decide +kernel) rfl
theorem fl_RX4_95 : Cond.fieldLink RX4 95 (TX4 9).1 (TX4 9).2.1 (TX4 9).2.2.1 ∈ lw_g := mg (i := 334) (by decide +kernel) rfl
theorem ml_RX4_81 : Cond.methodLink RX4 81 yX4_isSign ∈ lw_g := mg (i := 1014) (by decide +kernel) rfl
theorem cf_X4_isSign : CalF yX4_isSign cX4_isSign 1 (some .boolean) 1 := ⟨mg (i := 1016) (by decide +kernel) rfl, mg (i := 132) (by decide +kernel) rfl, ⟨by decide, by decide⟩, by decide +kernel, by decide⟩
theorem cv_X4_isSign : Cond.static yX4_isSign ∈ lw_g := mg (i := 1015) (by decide +kernel) rfl
theorem ml_RX4_78 : Cond.methodLink RX4 78 yX4_readNumber ∈ lw_g := mg (i := 1010) (by decide +kernel) rfl
theorem cf_X4_readNumber : CalF yX4_readNumber cX4_readNumber 1 none 0 := ⟨mg (i := 1013) (by decide +kernel) rfl, mg (i := 132) (by decide +kernel) rfl, ⟨by decide, by decide⟩, by decide +kernel, by decide⟩
theorem cv_X4_readNumber : Cond.instanceMethod yX4_readNumber ∈ lw_g ∧ Cond.selects yX4_readNumber.cls yX4_readNumber yX4_readNumber ∈ lw_g := ⟨mg (i := 1012) (by decide +kernel) rfl, mg (i := 40) (by decide +kernel) rfl⟩
theorem ml_RX4_72 : Cond.methodLink RX4 72 yX4_readWord ∈ lw_g := mg (i := 1000) (by decide +kernel) rfl
theorem cf_X4_readWord : CalF yX4_readWord cX4_readWord 7 none 0 := ⟨mg (i := 1003) (by decide +kernel) rfl, mg (i := 132) (by decide +kernel) rfl, ⟨by decide, by decide⟩, by decide +kernel, by decide⟩
theorem cv_X4_readWord : Cond.instanceMethod yX4_readWord ∈ lw_g ∧ Cond.selects yX4_readWord.cls yX4_readWord yX4_readWord ∈ lw_g := ⟨mg (i := 1002) (by decide +kernel) rfl, mg (i := 39) (by decide +kernel) rfl⟩
theorem fl_RX4_15 : Cond.fieldLink RX4 15 (TX4 3).1 (TX4 3).2.1 (TX4 3).2.2.1 ∈ lw_g := mg (i := 327) (by decide +kernel) rfl
theorem ml_RX4_58 : Cond.methodLink RX4 58 yX4_fail ∈ lw_g := mg (i := 1021) (by decide +kernel) rfl
theorem cf_X4_fail : CalF yX4_fail cX4_fail 1 none 0 := ⟨mg (i := 1024) (by decide +kernel) rfl, mg (i := 132) (by decide +kernel) rfl, ⟨by decide, by decide⟩, by decide +kernel, by decide⟩
theorem cv_X4_fail : Cond.instanceMethod yX4_fail ∈ lw_g ∧ Cond.selects yX4_fail.cls yX4_fail yX4_fail ∈ lw_g := ⟨mg (i := 1023) (by decide +kernel) rfl, mg (i := 42) (by decide +kernel) rfl⟩
theorem ml_RX4_41 : Cond.methodLink RX4 41 yX4_next ∈ lw_g := mg (i := 989) (by decide +kernel) rfl
theorem cf_X4_next : CalF yX4_next cX4_next 2 none 0 := ⟨mg (i := 992) (by decide +kernel) rfl, mg (i := 132) (by decide +kernel) rfl, ⟨by decide, by decide⟩, by decide +kernel, by decide⟩
theorem cv_X4_next : Cond.instanceMethod yX4_next ∈ lw_g ∧ Cond.selects yX4_next.cls yX4_next yX4_next ∈ lw_g := ⟨mg (i := 991) (by decide +kernel) rfl, mg (i := 37) (by decide +kernel) rfl⟩
theorem fl_RX4_38 : Cond.fieldLink RX4 38 (TX4 10).1 (TX4 10).2.1 (TX4 10).2.2.1 ∈ lw_g := mg (i := 335) (by decide +kernel) rfl
theorem ml_RX4_44 : Cond.methodLink RX4 44 yX4_expect ∈ lw_g := mg (i := 1017) (by decide +kernel) rfl
theorem cf_X4_expect : CalF yX4_expect cX4_expect 2 none 1 := ⟨mg (i := 1020) (by decide +kernel) rfl, mg (i := 132) (by decide +kernel) rfl, ⟨by decide, by decide⟩, by decide +kernel, by decide⟩
theorem cv_X4_expect : Cond.instanceMethod yX4_expect ∈ lw_g ∧ Cond.selects yX4_expect.cls yX4_expect yX4_expect ∈ lw_g := ⟨mg (i := 1019) (by decide +kernel) rfl, mg (i := 41) (by decide +kernel) rfl⟩
theorem ml_RX4_107 : Cond.methodLink RX4 107 yX4_opens ∈ lw_g := mg (i := 1041) (by decide +kernel) rfl
theorem cf_X4_opens : CalF yX4_opens cX4_opens 1 (some .boolean) 0 := ⟨mg (i := 1044) (by decide +kernel) rfl, mg (i := 132) (by decide +kernel) rfl, ⟨by decide, by decide⟩, by decide +kernel, by decide⟩
theorem cv_X4_opens : Cond.instanceMethod yX4_opens ∈ lw_g ∧ Cond.selects yX4_opens.cls yX4_opens yX4_opens ∈ lw_g := ⟨mg (i := 1043) (by decide +kernel) rfl, mg (i := 47) (by decide +kernel) rfl⟩
theorem ml_RX4_48 : Cond.methodLink RX4 48 yX4_readE ∈ lw_g := mg (i := 1025) (by decide +kernel) rfl
theorem cf_X4_readE : CalF yX4_readE cX4_readE 4 (some .int) 0 := ⟨mg (i := 1028) (by decide +kernel) rfl, mg (i := 132) (by decide +kernel) rfl, ⟨by decide, by decide⟩, by decide +kernel, by decide⟩
theorem cv_X4_readE : Cond.instanceMethod yX4_readE ∈ lw_g ∧ Cond.selects yX4_readE.cls yX4_readE yX4_readE ∈ lw_g := ⟨mg (i := 1027) (by decide +kernel) rfl, mg (i := 43) (by decide +kernel) rfl⟩
theorem ml_RX4_117 : Cond.methodLink RX4 117 yX4_readOne ∈ lw_g := mg (i := 1053) (by decide +kernel) rfl
theorem cf_X4_readOne : CalF yX4_readOne cX4_readOne 3 (some .int) 0 := ⟨mg (i := 1056) (by decide +kernel) rfl, mg (i := 132) (by decide +kernel) rfl, ⟨by decide, by decide⟩, by decide +kernel, by decide⟩
theorem cv_X4_readOne : Cond.instanceMethod yX4_readOne ∈ lw_g ∧ Cond.selects yX4_readOne.cls yX4_readOne yX4_readOne ∈ lw_g := ⟨mg (i := 1055) (by decide +kernel) rfl, mg (i := 50) (by decide +kernel) rfl⟩
theorem ml_RX4_101 : Cond.methodLink RX4 101 yX4_isNow ∈ lw_g := mg (i := 1037) (by decide +kernel) rfl
theorem cf_X4_isNow : CalF yX4_isNow cX4_isNow 2 (some .boolean) 1 := ⟨mg (i := 1040) (by decide +kernel) rfl, mg (i := 132) (by decide +kernel) rfl, ⟨by decide, by decide⟩, by decide +kernel, by decide⟩
theorem cv_X4_isNow : Cond.instanceMethod yX4_isNow ∈ lw_g ∧ Cond.selects yX4_isNow.cls yX4_isNow yX4_isNow ∈ lw_g := ⟨mg (i := 1039) (by decide +kernel) rfl, mg (i := 46) (by decide +kernel) rfl⟩
theorem fl_RX4_11 : Cond.fieldLink RX4 11 (TX4 0).1 (TX4 0).2.1 (TX4 0).2.2.1 ∈ lw_g := mg (i := 321) (by decide +kernel) rfl
theorem ml_RX4_114 : Cond.methodLink RX4 114 yX4_readTerm ∈ lw_g := mg (i := 1049) (by decide +kernel) rfl
theorem cf_X4_readTerm : CalF yX4_readTerm cX4_readTerm 3 (some .int) 0 := ⟨mg (i := 1052) (by decide +kernel) rfl, mg (i := 132) (by decide +kernel) rfl, ⟨by decide, by decide⟩, by decide +kernel, by decide⟩
theorem cv_X4_readTerm : Cond.instanceMethod yX4_readTerm ∈ lw_g ∧ Cond.selects yX4_readTerm.cls yX4_readTerm yX4_readTerm ∈ lw_g := ⟨mg (i := 1051) (by decide +kernel) rfl, mg (i := 49) (by decide +kernel) rfl⟩
theorem ml_RX4_111 : Cond.methodLink RX4 111 yX4_readSum ∈ lw_g := mg (i := 1045) (by decide +kernel) rfl
theorem cf_X4_readSum : CalF yX4_readSum cX4_readSum 5 (some .int) 0 := ⟨mg (i := 1048) (by decide +kernel) rfl, mg (i := 132) (by decide +kernel) rfl, ⟨by decide, by decide⟩, by decide +kernel, by decide⟩
theorem cv_X4_readSum : Cond.instanceMethod yX4_readSum ∈ lw_g ∧ Cond.selects yX4_readSum.cls yX4_readSum yX4_readSum ∈ lw_g := ⟨mg (i := 1047) (by decide +kernel) rfl, mg (i := 48) (by decide +kernel) rfl⟩
theorem ml_RX4_104 : Cond.methodLink RX4 104 yX4_readNot ∈ lw_g := mg (i := 1033) (by decide +kernel) rfl
theorem cf_X4_readNot : CalF yX4_readNot cX4_readNot 2 (some .int) 0 := ⟨mg (i := 1036) (by decide +kernel) rfl, mg (i := 132) (by decide +kernel) rfl, ⟨by decide, by decide⟩, by decide +kernel, by decide⟩
theorem cv_X4_readNot : Cond.instanceMethod yX4_readNot ∈ lw_g ∧ Cond.selects yX4_readNot.cls yX4_readNot yX4_readNot ∈ lw_g := ⟨mg (i := 1035) (by decide +kernel) rfl, mg (i := 45) (by decide +kernel) rfl⟩
theorem ml_RX4_98 : Cond.methodLink RX4 98 yX4_readAnd ∈ lw_g := mg (i := 1029) (by decide +kernel) rfl
theorem cf_X4_readAnd : CalF yX4_readAnd cX4_readAnd 4 (some .int) 0 := ⟨mg (i := 1032) (by decide +kernel) rfl, mg (i := 132) (by decide +kernel) rfl, ⟨by decide, by decide⟩, by decide +kernel, by decide⟩
theorem cv_X4_readAnd : Cond.instanceMethod yX4_readAnd ∈ lw_g ∧ Cond.selects yX4_readAnd.cls yX4_readAnd yX4_readAnd ∈ lw_g := ⟨mg (i := 1031) (by decide +kernel) rfl, mg (i := 44) (by decide +kernel) rfl⟩
theorem ml_RX4_26 : Cond.methodLink RX4 26 Lib.Math.min.name ∈ lw_g := mg (i := 988) (by decide +kernel) rfl
theorem fl_RX4_52 : Cond.fieldLink RX4 52 (TX4 1).1 (TX4 1).2.1 (TX4 1).2.2.1 ∈ lw_g := mg (i := 323) (by decide +kernel) rfl
theorem fl_RX4_55 : Cond.fieldLink RX4 55 (TX4 2).1 (TX4 2).2.1 (TX4 2).2.2.1 ∈ lw_g := mg (i := 325) (by decide +kernel) rfl
theorem fl_RX5_15 : Cond.fieldLink RX5 15 (TX5 2).1 (TX5 2).2.1 (TX5 2).2.2.1 ∈ lw_g := mg (i := 526) (by decide +kernel) rfl
theorem fl_RX5_9 : Cond.fieldLink RX5 9 (TX5 0).1 (TX5 0).2.1 (TX5 0).2.2.1 ∈ lw_g := mg (i := 523) (by decide +kernel) rfl
theorem ml_RX5_19 : Cond.methodLink RX5 19 Lib.Math.min.name ∈ lw_g := mg (i := 1089) (by decide +kernel) rfl
theorem ml_RX5_25 : Cond.methodLink RX5 25 Lib.Math.max.name ∈ lw_g := mg (i := 1090) (by decide +kernel) rfl
theorem fl_RX5_28 : Cond.fieldLink RX5 28 (TX5 1).1 (TX5 1).2.1 (TX5 1).2.2.1 ∈ lw_g := mg (i := 525) (by decide +kernel) rfl
theorem ml_RX5_31 : Cond.methodLink RX5 31 yX5_has ∈ lw_g := mg (i := 1103) (by decide +kernel) rfl
theorem cf_X5_has : CalF yX5_has cX5_has 2 (some .boolean) 1 := ⟨mg (i := 1098) (by decide +kernel) rfl, mg (i := 139) (by decide +kernel) rfl, ⟨by decide, by decide⟩, by decide +kernel, by decide⟩
theorem cv_X5_has : Cond.instanceMethod yX5_has ∈ lw_g ∧ Cond.selects yX5_has.cls yX5_has yX5_has ∈ lw_g := ⟨mg (i := 1096) (by decide +kernel) rfl, mg (i := 1097) (by decide +kernel) rfl⟩
theorem fl_RX6_25 : Cond.fieldLink RX6 25 (TX6 9).1 (TX6 9).2.1 (TX6 9).2.2.1 ∈ lw_g := mg (i := 172) (by decide +kernel) rfl
theorem fl_RX6_37 : Cond.fieldLink RX6 37 (TX6 14).1 (TX6 14).2.1 (TX6 14).2.2.1 ∈ lw_g := mg (i := 177) (by decide +kernel) rfl
theorem fl_RX6_15 : Cond.fieldLink RX6 15 (TX6 5).1 (TX6 5).2.1 (TX6 5).2.2.1 ∈ lw_g := mg (i := 167) (by decide +kernel) rfl
theorem fl_RX6_19 : Cond.fieldLink RX6 19 (TX6 6).1 (TX6 6).2.1 (TX6 6).2.2.1 ∈ lw_g := mg (i := 169) (by decide +kernel) rfl
theorem ml_RX6_87 : Cond.methodLink RX6 87 yX3_shutStates ∈ lw_g := mg (i := 646) (by decide +kernel) rfl
theorem cf_X3_shutStates : CalF yX3_shutStates cX3_shutStates 1 (some .int) 0 := ⟨mg (i := 633) (by decide +kernel) rfl, mg (i := 138) (by decide +kernel) rfl, ⟨by decide, by decide⟩, by decide +kernel, by decide⟩
theorem cv_X3_shutStates : Cond.instanceMethod yX3_shutStates ∈ lw_g ∧ Cond.selects yX3_shutStates.cls yX3_shutStates yX3_shutStates ∈ lw_g := ⟨mg (i := 631) (by decide +kernel) rfl, mg (i := 632) (by decide +kernel) rfl⟩
theorem fl_RX6_91 : Cond.fieldLink RX6 91 (TX6 8).1 (TX6 8).2.1 (TX6 8).2.2.1 ∈ lw_g := mg (i := 171) (by decide +kernel) rfl
theorem fl_RX6_94 : Cond.fieldLink RX6 94 (TX6 13).1 (TX6 13).2.1 (TX6 13).2.2.1 ∈ lw_g := mg (i := 176) (by decide +kernel) rfl
theorem ml_RX6_107 : Cond.methodLink RX6 107 Lib.Math.max.name ∈ lw_g := mg (i := 655) (by decide +kernel) rfl
theorem fl_RX6_104 : Cond.fieldLink RX6 104 (TX3 5).1 (TX3 5).2.1 (TX3 5).2.2.1 ∈ lw_g := mg (i := 469) (by decide +kernel) rfl
theorem fl_RX6_43 : Cond.fieldLink RX6 43 (TX6 16).1 (TX6 16).2.1 (TX6 16).2.2.1 ∈ lw_g := mg (i := 179) (by decide +kernel) rfl
theorem ml_RX6_100 : Cond.methodLink RX6 100 yX6_oneShutThen ∈ lw_g := mg (i := 651) (by decide +kernel) rfl
theorem cf_X6_oneShutThen : CalF yX6_oneShutThen cX6_oneShutThen 4 (some .int) 3 := ⟨mg (i := 654) (by decide +kernel) rfl, mg (i := 127) (by decide +kernel) rfl, ⟨by decide, by decide⟩, by decide +kernel, by decide⟩
theorem cv_X6_oneShutThen : Cond.instanceMethod yX6_oneShutThen ∈ lw_g ∧ Cond.selects yX6_oneShutThen.cls yX6_oneShutThen yX6_oneShutThen ∈ lw_g := ⟨mg (i := 653) (by decide +kernel) rfl, mg (i := 5) (by decide +kernel) rfl⟩
theorem fl_RX6_97 : Cond.fieldLink RX6 97 (TX3 9).1 (TX3 9).2.1 (TX3 9).2.2.1 ∈ lw_g := mg (i := 480) (by decide +kernel) rfl
theorem fl_RX6_31 : Cond.fieldLink RX6 31 (TX6 11).1 (TX6 11).2.1 (TX6 11).2.2.1 ∈ lw_g := mg (i := 174) (by decide +kernel) rfl
theorem fl_RX6_34 : Cond.fieldLink RX6 34 (TX6 12).1 (TX6 12).2.1 (TX6 12).2.2.1 ∈ lw_g := mg (i := 175) (by decide +kernel) rfl
theorem fl_RX6_28 : Cond.fieldLink RX6 28 (TX6 10).1 (TX6 10).2.1 (TX6 10).2.2.1 ∈ lw_g := mg (i := 173) (by decide +kernel) rfl
theorem fl_RX6_123 : Cond.fieldLink RX6 123 (TX3 0).1 (TX3 0).2.1 (TX3 0).2.2.1 ∈ lw_g := mg (i := 455) (by decide +kernel) rfl
theorem ml_RX6_126 : Cond.methodLink RX6 126 yX6_addEdge ∈ lw_g := mg (i := 683) (by decide +kernel) rfl
theorem cf_X6_addEdge : CalF yX6_addEdge cX6_addEdge 4 none 3 := ⟨mg (i := 686) (by decide +kernel) rfl, mg (i := 127) (by decide +kernel) rfl, ⟨by decide, by decide⟩, by decide +kernel, by decide⟩
theorem cv_X6_addEdge : Cond.instanceMethod yX6_addEdge ∈ lw_g ∧ Cond.selects yX6_addEdge.cls yX6_addEdge yX6_addEdge ∈ lw_g := ⟨mg (i := 685) (by decide +kernel) rfl, mg (i := 9) (by decide +kernel) rfl⟩
theorem ml_RX6_113 : Cond.methodLink RX6 113 yX3_placesOf ∈ lw_g := mg (i := 664) (by decide +kernel) rfl
theorem fl_RX6_130 : Cond.fieldLink RX6 130 (TX3 8).1 (TX3 8).2.1 (TX3 8).2.2.1 ∈ lw_g := mg (i := 478) (by decide +kernel) rfl
theorem ml_RX6_136 : Cond.methodLink RX6 136 yX6_countMove ∈ lw_g := mg (i := 704) (by decide +kernel) rfl
theorem cf_X6_countMove : CalF yX6_countMove cX6_countMove 5 none 2 := ⟨mg (i := 707) (by decide +kernel) rfl, mg (i := 127) (by decide +kernel) rfl, ⟨by decide, by decide⟩, by decide +kernel, by decide⟩
theorem cv_X6_countMove : Cond.instanceMethod yX6_countMove ∈ lw_g ∧ Cond.selects yX6_countMove.cls yX6_countMove yX6_countMove ∈ lw_g := ⟨mg (i := 706) (by decide +kernel) rfl, mg (i := 12) (by decide +kernel) rfl⟩
theorem fl_RX6_22 : Cond.fieldLink RX6 22 (TX6 7).1 (TX6 7).2.1 (TX6 7).2.2.1 ∈ lw_g := mg (i := 170) (by decide +kernel) rfl
theorem ml_RX6_140 : Cond.methodLink RX6 140 yX6_decide ∈ lw_g := mg (i := 712) (by decide +kernel) rfl
theorem cf_X6_decide : CalF yX6_decide cX6_decide 3 none 2 := ⟨mg (i := 715) (by decide +kernel) rfl, mg (i := 127) (by decide +kernel) rfl, ⟨by decide, by decide⟩, by decide +kernel, by decide⟩
theorem cv_X6_decide : Cond.instanceMethod yX6_decide ∈ lw_g ∧ Cond.selects yX6_decide.cls yX6_decide yX6_decide ∈ lw_g := ⟨mg (i := 714) (by decide +kernel) rfl, mg (i := 14) (by decide +kernel) rfl⟩
theorem ml_RX6_143 : Cond.methodLink RX6 143 yX6_leadsTo ∈ lw_g := mg (i := 720) (by decide +kernel) rfl
theorem cf_X6_leadsTo : CalF yX6_leadsTo cX6_leadsTo 3 none 2 := ⟨mg (i := 723) (by decide +kernel) rfl, mg (i := 127) (by decide +kernel) rfl, ⟨by decide, by decide⟩, by decide +kernel, by decide⟩
theorem cv_X6_leadsTo : Cond.instanceMethod yX6_leadsTo ∈ lw_g ∧ Cond.selects yX6_leadsTo.cls yX6_leadsTo yX6_leadsTo ∈ lw_g := ⟨mg (i := 722) (by decide +kernel) rfl, mg (i := 16) (by decide +kernel) rfl⟩
theorem ml_RX6_164 : Cond.methodLink RX6 164 yX3_has ∈ lw_g := mg (i := 735) (by decide +kernel) rfl
theorem ml_RX6_67 : Cond.methodLink RX6 67 yX3_isPair ∈ lw_g := mg (i := 656) (by decide +kernel) rfl
theorem ml_RX6_158 : Cond.methodLink RX6 158 yX6_isCounted ∈ lw_g := mg (i := 731) (by decide +kernel) rfl
theorem cf_X6_isCounted : CalF yX6_isCounted cX6_isCounted 4 (some .boolean) 1 := ⟨mg (i := 734) (by decide +kernel) rfl, mg (i := 127) (by decide +kernel) rfl, ⟨by decide, by decide⟩, by decide +kernel, by decide⟩
theorem cv_X6_isCounted : Cond.instanceMethod yX6_isCounted ∈ lw_g ∧ Cond.selects yX6_isCounted.cls yX6_isCounted yX6_isCounted ∈ lw_g := ⟨mg (i := 733) (by decide +kernel) rfl, mg (i := 18) (by decide +kernel) rfl⟩
theorem fl_RX6_152 : Cond.fieldLink RX6 152 (TX6 3).1 (TX6 3).2.1 (TX6 3).2.2.1 ∈ lw_g := mg (i := 164) (by decide +kernel) rfl
theorem fl_RX6_149 : Cond.fieldLink RX6 149 (TX6 2).1 (TX6 2).2.1 (TX6 2).2.2.1 ∈ lw_g := mg (i := 162) (by decide +kernel) rfl
theorem fl_RX6_155 : Cond.fieldLink RX6 155 (TX6 4).1 (TX6 4).2.1 (TX6 4).2.2.1 ∈ lw_g := mg (i := 166) (by decide +kernel) rfl
theorem ml_RX6_81 : Cond.methodLink RX6 81 yX6_spreadBackward ∈ lw_g := mg (i := 716) (by decide +kernel) rfl
theorem cf_X6_spreadBackward : CalF yX6_spreadBackward cX6_spreadBackward 8 none 0 := ⟨mg (i := 719) (by decide +kernel) rfl, mg (i := 127) (by decide +kernel) rfl, ⟨by decide, by decide⟩, by decide +kernel, by decide⟩
theorem cv_X6_spreadBackward : Cond.instanceMethod yX6_spreadBackward ∈ lw_g ∧ Cond.selects yX6_spreadBackward.cls yX6_spreadBackward yX6_spreadBackward ∈ lw_g := ⟨mg (i := 718) (by decide +kernel) rfl, mg (i := 15) (by decide +kernel) rfl⟩
theorem ml_RX6_84 : Cond.methodLink RX6 84 yX6_countWon ∈ lw_g := mg (i := 727) (by decide +kernel) rfl
theorem cf_X6_countWon : CalF yX6_countWon cX6_countWon 2 none 0 := ⟨mg (i := 730) (by decide +kernel) rfl, mg (i := 127) (by decide +kernel) rfl, ⟨by decide, by decide⟩, by decide +kernel, by decide⟩
theorem cv_X6_countWon : Cond.instanceMethod yX6_countWon ∈ lw_g ∧ Cond.selects yX6_countWon.cls yX6_countWon yX6_countWon ∈ lw_g := ⟨mg (i := 729) (by decide +kernel) rfl, mg (i := 17) (by decide +kernel) rfl⟩
theorem ml_RX6_78 : Cond.methodLink RX6 78 yX6_queueCaught ∈ lw_g := mg (i := 708) (by decide +kernel) rfl
theorem cf_X6_queueCaught : CalF yX6_queueCaught cX6_queueCaught 7 none 1 := ⟨mg (i := 711) (by decide +kernel) rfl, mg (i := 127) (by decide +kernel) rfl, ⟨by decide, by decide⟩, by decide +kernel, by decide⟩
theorem cv_X6_queueCaught : Cond.instanceMethod yX6_queueCaught ∈ lw_g ∧ Cond.selects yX6_queueCaught.cls yX6_queueCaught yX6_queueCaught ∈ lw_g := ⟨mg (i := 710) (by decide +kernel) rfl, mg (i := 13) (by decide +kernel) rfl⟩
theorem ml_RX6_71 : Cond.methodLink RX6 71 yX6_linkHunters ∈ lw_g := mg (i := 660) (by decide +kernel) rfl
theorem cf_X6_linkHunters : CalF yX6_linkHunters cX6_linkHunters 7 none 1 := ⟨mg (i := 663) (by decide +kernel) rfl, mg (i := 127) (by decide +kernel) rfl, ⟨by decide, by decide⟩, by decide +kernel, by decide⟩
theorem cv_X6_linkHunters : Cond.instanceMethod yX6_linkHunters ∈ lw_g ∧ Cond.selects yX6_linkHunters.cls yX6_linkHunters yX6_linkHunters ∈ lw_g := ⟨mg (i := 662) (by decide +kernel) rfl, mg (i := 6) (by decide +kernel) rfl⟩
theorem ml_RX6_75 : Cond.methodLink RX6 75 yX6_linkRunner ∈ lw_g := mg (i := 687) (by decide +kernel) rfl
theorem cf_X6_linkRunner : CalF yX6_linkRunner cX6_linkRunner 8 none 1 := ⟨mg (i := 690) (by decide +kernel) rfl, mg (i := 127) (by decide +kernel) rfl, ⟨by decide, by decide⟩, by decide +kernel, by decide⟩
theorem cv_X6_linkRunner : Cond.instanceMethod yX6_linkRunner ∈ lw_g ∧ Cond.selects yX6_linkRunner.cls yX6_linkRunner yX6_linkRunner ∈ lw_g := ⟨mg (i := 689) (by decide +kernel) rfl, mg (i := 10) (by decide +kernel) rfl⟩
theorem fl_RX6_54 : Cond.fieldLink RX6 54 (TX3 12).1 (TX3 12).2.1 (TX3 12).2.2.1 ∈ lw_g := mg (i := 487) (by decide +kernel) rfl
theorem fl_RX6_9 : Cond.fieldLink RX6 9 (TX6 1).1 (TX6 1).2.1 (TX6 1).2.2.1 ∈ lw_g := mg (i := 159) (by decide +kernel) rfl
theorem fl_RX6_57 : Cond.fieldLink RX6 57 (TX6 18).1 (TX6 18).2.1 (TX6 18).2.2.1 ∈ lw_g := mg (i := 181) (by decide +kernel) rfl
theorem ml_RX6_61 : Cond.methodLink RX6 61 yX6_clearRows ∈ lw_g := mg (i := 642) (by decide +kernel) rfl
theorem cf_X6_clearRows : CalF yX6_clearRows cX6_clearRows 2 none 0 := ⟨mg (i := 645) (by decide +kernel) rfl, mg (i := 127) (by decide +kernel) rfl, ⟨by decide, by decide⟩, by decide +kernel, by decide⟩
theorem cv_X6_clearRows : Cond.instanceMethod yX6_clearRows ∈ lw_g ∧ Cond.selects yX6_clearRows.cls yX6_clearRows yX6_clearRows ∈ lw_g := ⟨mg (i := 644) (by decide +kernel) rfl, mg (i := 3) (by decide +kernel) rfl⟩
theorem ml_RX6_64 : Cond.methodLink RX6 64 yX6_reckonShutting ∈ lw_g := mg (i := 647) (by decide +kernel) rfl
theorem cf_X6_reckonShutting : CalF yX6_reckonShutting cX6_reckonShutting 7 none 0 := ⟨mg (i := 650) (by decide +kernel) rfl, mg (i := 127) (by decide +kernel) rfl, ⟨by decide, by decide⟩, by decide +kernel, by decide⟩
theorem cv_X6_reckonShutting : Cond.instanceMethod yX6_reckonShutting ∈ lw_g ∧ Cond.selects yX6_reckonShutting.cls yX6_reckonShutting yX6_reckonShutting ∈ lw_g := ⟨mg (i := 649) (by decide +kernel) rfl, mg (i := 4) (by decide +kernel) rfl⟩
theorem ml_RX6_161 : Cond.methodLink RX6 161 Lib.Math.abs.name ∈ lw_g := mg (i := 843) (by decide +kernel) rfl
theorem ml_RX6_167 : Cond.methodLink RX6 167 yX6_after ∈ lw_g := mg (i := 744) (by decide +kernel) rfl
theorem cn_RX6_170 : Cond.constant RX6 170 (1073741824 : Int32) ∈ lw_g := mg (i := 748) (by decide +kernel) rfl
theorem fl_RX6_46 : Cond.fieldLink RX6 46 (TX6 17).1 (TX6 17).2.1 (TX6 17).2.2.1 ∈ lw_g := mg (i := 180) (by decide +kernel) rfl
theorem ml_RX6_171 : Cond.methodLink RX6 171 yX6_shortestMoves ∈ lw_g := mg (i := 773) (by decide +kernel) rfl
theorem cf_X6_shortestMoves : CalF yX6_shortestMoves cX6_shortestMoves 5 (some .int) 1 := ⟨mg (i := 776) (by decide +kernel) rfl, mg (i := 127) (by decide +kernel) rfl, ⟨by decide, by decide⟩, by decide +kernel, by decide⟩
theorem cv_X6_shortestMoves : Cond.instanceMethod yX6_shortestMoves ∈ lw_g ∧ Cond.selects yX6_shortestMoves.cls yX6_shortestMoves yX6_shortestMoves ∈ lw_g := ⟨mg (i := 775) (by decide +kernel) rfl, mg (i := 20) (by decide +kernel) rfl⟩
theorem ml_RX6_174 : Cond.methodLink RX6 174 yX6_findLone ∈ lw_g := mg (i := 769) (by decide +kernel) rfl
theorem cf_X6_findLone : CalF yX6_findLone cX6_findLone 2 none 0 := ⟨mg (i := 772) (by decide +kernel) rfl, mg (i := 127) (by decide +kernel) rfl, ⟨by decide, by decide⟩, by decide +kernel, by decide⟩
theorem cv_X6_findLone : Cond.instanceMethod yX6_findLone ∈ lw_g ∧ Cond.selects yX6_findLone.cls yX6_findLone yX6_findLone ∈ lw_g := ⟨mg (i := 771) (by decide +kernel) rfl, mg (i := 19) (by decide +kernel) rfl⟩
theorem ml_RX6_177 : Cond.methodLink RX6 177 yX6_rowTold ∈ lw_g := mg (i := 781) (by decide +kernel) rfl
theorem fl_RX7_24 : Cond.fieldLink RX7 24 (TX7 4).1 (TX7 4).2.1 (TX7 4).2.2.1 ∈ lw_g := mg (i := 420) (by decide +kernel) rfl
theorem fl_RX7_53 : Cond.fieldLink RX7 53 (TX7 1).1 (TX7 1).2.1 (TX7 1).2.2.1 ∈ lw_g := mg (i := 414) (by decide +kernel) rfl
theorem fl_RX7_31 : Cond.fieldLink RX7 31 (TX7 6).1 (TX7 6).2.1 (TX7 6).2.2.1 ∈ lw_g := mg (i := 423) (by decide +kernel) rfl
theorem fl_RX7_9 : Cond.fieldLink RX7 9 (TX7 0).1 (TX7 0).2.1 (TX7 0).2.2.1 ∈ lw_g := mg (i := 412) (by decide +kernel) rfl
theorem ml_RX7_56 : Cond.methodLink RX7 56 yX4_read ∈ lw_g := mg (i := 984) (by decide +kernel) rfl
theorem cf_X4_read : CalF yX4_read cX4_read 3 none 2 := ⟨mg (i := 987) (by decide +kernel) rfl, mg (i := 132) (by decide +kernel) rfl, ⟨by decide, by decide⟩, by decide +kernel, by decide⟩
theorem cv_X4_read : Cond.instanceMethod yX4_read ∈ lw_g ∧ Cond.selects yX4_read.cls yX4_read yX4_read ∈ lw_g := ⟨mg (i := 985) (by decide +kernel) rfl, mg (i := 986) (by decide +kernel) rfl⟩
theorem fl_RX7_60 : Cond.fieldLink RX7 60 (TX4 3).1 (TX4 3).2.1 (TX4 3).2.2.1 ∈ lw_g := mg (i := 328) (by decide +kernel) rfl
theorem fl_RX7_17 : Cond.fieldLink RX7 17 (TX7 2).1 (TX7 2).2.1 (TX7 2).2.2.1 ∈ lw_g := mg (i := 416) (by decide +kernel) rfl
