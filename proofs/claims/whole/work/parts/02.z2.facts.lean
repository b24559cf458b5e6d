theorem ml_RX7_63 : Cond.methodLink RX7 63 arraycopyName ∈ lw_g := mg (i := 1057) (by decide +kernel) rfl
theorem fl_RX7_20 : Cond.fieldLink RX7 20 (TX7 3).1 (TX7 3).2.1 (TX7 3).2.2.1 ∈ lw_g := mg (i := 418) (by decide +kernel) rfl
theorem fl_RX8_68 : Cond.fieldLink RX8 68 (TX8 0).1 (TX8 0).2.1 (TX8 0).2.2.1 ∈ lw_g := mg (i := 535) (by decide +kernel) rfl
theorem ml_RX8_76 : Cond.methodLink RX8 76 yX3_refusalOf ∈ lw_g := mg (i := 570) (by decide +kernel) rfl
theorem fl_RX8_33 : Cond.fieldLink RX8 33 (TX8 5).1 (TX8 5).2.1 (TX8 5).2.2.1 ∈ lw_g := mg (i := 540) (by decide +kernel) rfl
theorem fl_RX8_80 : Cond.fieldLink RX8 80 (TX0 0).1 (TX0 0).2.1 (TX0 0).2.2.1 ∈ lw_g := mg (i := 281) (by decide +kernel) rfl
theorem ml_RX8_84 : Cond.methodLink RX8 84 yX3_put ∈ lw_g := mg (i := 580) (by decide +kernel) rfl
theorem fl_RX8_87 : Cond.fieldLink RX8 87 (TX3 8).1 (TX3 8).2.1 (TX3 8).2.2.1 ∈ lw_g := mg (i := 476) (by decide +kernel) rfl
theorem ml_RX8_90 : Cond.methodLink RX8 90 yX3_dropLatest ∈ lw_g := mg (i := 589) (by decide +kernel) rfl
theorem cf_X3_dropLatest : CalF yX3_dropLatest cX3_dropLatest 2 none 0 := ⟨mg (i := 592) (by decide +kernel) rfl, mg (i := 138) (by decide +kernel) rfl, ⟨by decide, by decide⟩, by decide +kernel, by decide⟩
theorem cv_X3_dropLatest : Cond.instanceMethod yX3_dropLatest ∈ lw_g ∧ Cond.selects yX3_dropLatest.cls yX3_dropLatest yX3_dropLatest ∈ lw_g := ⟨mg (i := 590) (by decide +kernel) rfl, mg (i := 591) (by decide +kernel) rfl⟩
theorem fl_RX8_93 : Cond.fieldLink RX8 93 (TX3 1).1 (TX3 1).2.1 (TX3 1).2.2.1 ∈ lw_g := mg (i := 459) (by decide +kernel) rfl
theorem fl_RX8_97 : Cond.fieldLink RX8 97 (TX3 2).1 (TX3 2).2.1 (TX3 2).2.2.1 ∈ lw_g := mg (i := 462) (by decide +kernel) rfl
theorem fl_RX8_100 : Cond.fieldLink RX8 100 (TX3 3).1 (TX3 3).2.1 (TX3 3).2.2.1 ∈ lw_g := mg (i := 465) (by decide +kernel) rfl
theorem fl_RX8_103 : Cond.fieldLink RX8 103 (TX3 4).1 (TX3 4).2.1 (TX3 4).2.2.1 ∈ lw_g := mg (i := 467) (by decide +kernel) rfl
theorem fs_RX8_106 : Cond.fieldLink RX8 106 "WolfVillage" "KIND_SHUT_FOR" "[I" ∈ lw_g := mg (i := 597) (by decide +kernel) rfl
theorem fl_RX8_125 : Cond.fieldLink RX8 125 (TX3 12).1 (TX3 12).2.1 (TX3 12).2.2.1 ∈ lw_g := mg (i := 490) (by decide +kernel) rfl
theorem ml_RX8_109 : Cond.methodLink RX8 109 yX3_has ∈ lw_g := mg (i := 602) (by decide +kernel) rfl
theorem fl_RX8_113 : Cond.fieldLink RX8 113 (TX3 6).1 (TX3 6).2.1 (TX3 6).2.2.1 ∈ lw_g := mg (i := 471) (by decide +kernel) rfl
theorem ml_RX8_116 : Cond.methodLink RX8 116 yX8_planChanged ∈ lw_g := mg (i := 603) (by decide +kernel) rfl
theorem cf_X8_planChanged : CalF yX8_planChanged cX8_planChanged 1 none 0 := ⟨mg (i := 606) (by decide +kernel) rfl, mg (i := 126) (by decide +kernel) rfl, ⟨by decide, by decide⟩, by decide +kernel, by decide⟩
theorem cv_X8_planChanged : Cond.instanceMethod yX8_planChanged ∈ lw_g ∧ Cond.selects yX8_planChanged.cls yX8_planChanged yX8_planChanged ∈ lw_g := ⟨mg (i := 605) (by decide +kernel) rfl, mg (i := 0) (by decide +kernel) rfl⟩
theorem fl_RX8_119 : Cond.fieldLink RX8 119 (TX3 10).1 (TX3 10).2.1 (TX3 10).2.2.1 ∈ lw_g := mg (i := 483) (by decide +kernel) rfl
theorem fl_RX8_122 : Cond.fieldLink RX8 122 (TX3 11).1 (TX3 11).2.1 (TX3 11).2.2.1 ∈ lw_g := mg (i := 485) (by decide +kernel) rfl
theorem ml_RX8_167 : Cond.methodLink RX8 167 yX3_pairOf ∈ lw_g := mg (i := 619) (by decide +kernel) rfl
theorem cf_X3_pairOf : CalF yX3_pairOf cX3_pairOf 4 (some .int) 2 := ⟨mg (i := 622) (by decide +kernel) rfl, mg (i := 138) (by decide +kernel) rfl, ⟨by decide, by decide⟩, by decide +kernel, by decide⟩
theorem cv_X3_pairOf : Cond.instanceMethod yX3_pairOf ∈ lw_g ∧ Cond.selects yX3_pairOf.cls yX3_pairOf yX3_pairOf ∈ lw_g := ⟨mg (i := 620) (by decide +kernel) rfl, mg (i := 621) (by decide +kernel) rfl⟩
theorem ml_RX8_170 : Cond.methodLink RX8 170 yX3_shutStates ∈ lw_g := mg (i := 630) (by decide +kernel) rfl
theorem fl_RX8_12 : Cond.fieldLink RX8 12 (TX8 2).1 (TX8 2).2.1 (TX8 2).2.2.1 ∈ lw_g := mg (i := 537) (by decide +kernel) rfl
theorem ml_RX8_163 : Cond.methodLink RX8 163 yX6_solve ∈ lw_g := mg (i := 638) (by decide +kernel) rfl
theorem cf_X6_solve : CalF yX6_solve cX6_solve 3 none 1 := ⟨mg (i := 641) (by decide +kernel) rfl, mg (i := 127) (by decide +kernel) rfl, ⟨by decide, by decide⟩, by decide +kernel, by decide⟩
theorem cv_X6_solve : Cond.instanceMethod yX6_solve ∈ lw_g ∧ Cond.selects yX6_solve.cls yX6_solve yX6_solve ∈ lw_g := ⟨mg (i := 639) (by decide +kernel) rfl, mg (i := 640) (by decide +kernel) rfl⟩
theorem fl_RX8_161 : Cond.fieldLink RX8 161 (TX6 0).1 (TX6 0).2.1 (TX6 0).2.2.1 ∈ lw_g := mg (i := 158) (by decide +kernel) rfl
theorem fl_RX8_162 : Cond.fieldLink RX8 162 (TX6 1).1 (TX6 1).2.1 (TX6 1).2.2.1 ∈ lw_g := mg (i := 160) (by decide +kernel) rfl
theorem ml_RX8_128 : Cond.methodLink RX8 128 yX8_standingOf ∈ lw_g := mg (i := 615) (by decide +kernel) rfl
theorem cf_X8_standingOf : CalF yX8_standingOf cX8_standingOf 7 (some .int) 5 := ⟨mg (i := 618) (by decide +kernel) rfl, mg (i := 126) (by decide +kernel) rfl, ⟨by decide, by decide⟩, by decide +kernel, by decide⟩
theorem cv_X8_standingOf : Cond.instanceMethod yX8_standingOf ∈ lw_g ∧ Cond.selects yX8_standingOf.cls yX8_standingOf yX8_standingOf ∈ lw_g := ⟨mg (i := 617) (by decide +kernel) rfl, mg (i := 1) (by decide +kernel) rfl⟩
theorem ml_RX8_132 : Cond.methodLink RX8 132 yX8_solvedStandings ∈ lw_g := mg (i := 634) (by decide +kernel) rfl
theorem cf_X8_solvedStandings : CalF yX8_solvedStandings cX8_solvedStandings 1 (some (.object "WolfVillage$Standings")) 0 := ⟨mg (i := 637) (by decide +kernel) rfl, mg (i := 126) (by decide +kernel) rfl, ⟨by decide, by decide⟩, by decide +kernel, by decide⟩
theorem cv_X8_solvedStandings : Cond.instanceMethod yX8_solvedStandings ∈ lw_g ∧ Cond.selects yX8_solvedStandings.cls yX8_solvedStandings yX8_solvedStandings ∈ lw_g := ⟨mg (i := 636) (by decide +kernel) rfl, mg (i := 2) (by decide +kernel) rfl⟩
theorem fl_RX8_136 : Cond.fieldLink RX8 136 (TX6 5).1 (TX6 5).2.1 (TX6 5).2.2.1 ∈ lw_g := mg (i := 168) (by decide +kernel) rfl
theorem ml_RX8_139 : Cond.methodLink RX8 139 yX6_bestMove ∈ lw_g := mg (i := 740) (by decide +kernel) rfl
theorem cf_X6_bestMove : CalF yX6_bestMove cX6_bestMove 8 (some .int) 1 := ⟨mg (i := 743) (by decide +kernel) rfl, mg (i := 127) (by decide +kernel) rfl, ⟨by decide, by decide⟩, by decide +kernel, by decide⟩
theorem cv_X6_bestMove : Cond.instanceMethod yX6_bestMove ∈ lw_g ∧ Cond.selects yX6_bestMove.cls yX6_bestMove yX6_bestMove ∈ lw_g := ⟨mg (i := 741) (by decide +kernel) rfl, mg (i := 742) (by decide +kernel) rfl⟩
theorem ml_RX8_143 : Cond.methodLink RX8 143 yX6_moveCount ∈ lw_g := mg (i := 753) (by decide +kernel) rfl
theorem cf_X6_moveCount : CalF yX6_moveCount cX6_moveCount 4 (some .int) 1 := ⟨mg (i := 756) (by decide +kernel) rfl, mg (i := 127) (by decide +kernel) rfl, ⟨by decide, by decide⟩, by decide +kernel, by decide⟩
theorem cv_X6_moveCount : Cond.instanceMethod yX6_moveCount ∈ lw_g ∧ Cond.selects yX6_moveCount.cls yX6_moveCount yX6_moveCount ∈ lw_g := ⟨mg (i := 754) (by decide +kernel) rfl, mg (i := 755) (by decide +kernel) rfl⟩
theorem fl_RX8_146 : Cond.fieldLink RX8 146 (TX6 2).1 (TX6 2).2.1 (TX6 2).2.2.1 ∈ lw_g := mg (i := 161) (by decide +kernel) rfl
theorem fl_RX8_149 : Cond.fieldLink RX8 149 (TX6 3).1 (TX6 3).2.1 (TX6 3).2.2.1 ∈ lw_g := mg (i := 163) (by decide +kernel) rfl
theorem fl_RX8_152 : Cond.fieldLink RX8 152 (TX6 4).1 (TX6 4).2.1 (TX6 4).2.2.1 ∈ lw_g := mg (i := 165) (by decide +kernel) rfl
theorem ml_RX8_158 : Cond.methodLink RX8 158 yX6_puzzleAt ∈ lw_g := mg (i := 777) (by decide +kernel) rfl
theorem cf_X6_puzzleAt : CalF yX6_puzzleAt cX6_puzzleAt 5 (some .int) 2 := ⟨mg (i := 780) (by decide +kernel) rfl, mg (i := 127) (by decide +kernel) rfl, ⟨by decide, by decide⟩, by decide +kernel, by decide⟩
theorem cv_X6_puzzleAt : Cond.instanceMethod yX6_puzzleAt ∈ lw_g ∧ Cond.selects yX6_puzzleAt.cls yX6_puzzleAt yX6_puzzleAt ∈ lw_g := ⟨mg (i := 778) (by decide +kernel) rfl, mg (i := 779) (by decide +kernel) rfl⟩
theorem ml_RX8_155 : Cond.methodLink RX8 155 yX6_puzzleCount ∈ lw_g := mg (i := 765) (by decide +kernel) rfl
theorem cf_X6_puzzleCount : CalF yX6_puzzleCount cX6_puzzleCount 4 (some .int) 1 := ⟨mg (i := 768) (by decide +kernel) rfl, mg (i := 127) (by decide +kernel) rfl, ⟨by decide, by decide⟩, by decide +kernel, by decide⟩
theorem cv_X6_puzzleCount : Cond.instanceMethod yX6_puzzleCount ∈ lw_g ∧ Cond.selects yX6_puzzleCount.cls yX6_puzzleCount yX6_puzzleCount ∈ lw_g := ⟨mg (i := 766) (by decide +kernel) rfl, mg (i := 767) (by decide +kernel) rfl⟩
theorem fl_RX8_19 : Cond.fieldLink RX8 19 (TX8 3).1 (TX8 3).2.1 (TX8 3).2.2.1 ∈ lw_g := mg (i := 538) (by decide +kernel) rfl
theorem ml_RX8_174 : Cond.methodLink RX8 174 yX2_countOf ∈ lw_g := mg (i := 788) (by decide +kernel) rfl
theorem cf_X2_countOf : CalF yX2_countOf cX2_countOf 6 (some .int) 1 := ⟨mg (i := 791) (by decide +kernel) rfl, mg (i := 128) (by decide +kernel) rfl, ⟨by decide, by decide⟩, by decide +kernel, by decide⟩
theorem cv_X2_countOf : Cond.instanceMethod yX2_countOf ∈ lw_g ∧ Cond.selects yX2_countOf.cls yX2_countOf yX2_countOf ∈ lw_g := ⟨mg (i := 789) (by decide +kernel) rfl, mg (i := 790) (by decide +kernel) rfl⟩
theorem ml_RX8_178 : Cond.methodLink RX8 178 yX2_leastRow ∈ lw_g := mg (i := 816) (by decide +kernel) rfl
theorem cf_X2_leastRow : CalF yX2_leastRow cX2_leastRow 8 (some .int) 3 := ⟨mg (i := 819) (by decide +kernel) rfl, mg (i := 128) (by decide +kernel) rfl, ⟨by decide, by decide⟩, by decide +kernel, by decide⟩
theorem cv_X2_leastRow : Cond.instanceMethod yX2_leastRow ∈ lw_g ∧ Cond.selects yX2_leastRow.cls yX2_leastRow yX2_leastRow ∈ lw_g := ⟨mg (i := 817) (by decide +kernel) rfl, mg (i := 818) (by decide +kernel) rfl⟩
theorem fl_RX8_196 : Cond.fieldLink RX8 196 (TX3 0).1 (TX3 0).2.1 (TX3 0).2.2.1 ∈ lw_g := mg (i := 456) (by decide +kernel) rfl
theorem fl_RX8_199 : Cond.fieldLink RX8 199 (TX3 7).1 (TX3 7).2.1 (TX3 7).2.2.1 ∈ lw_g := mg (i := 474) (by decide +kernel) rfl
theorem fl_RX8_72 : Cond.fieldLink RX8 72 (TX8 1).1 (TX8 1).2.1 (TX8 1).2.2.1 ∈ lw_g := mg (i := 536) (by decide +kernel) rfl
theorem ml_RX8_189 : Cond.methodLink RX8 189 yX3_becomes ∈ lw_g := mg (i := 834) (by decide +kernel) rfl
theorem cf_X3_becomes : CalF yX3_becomes cX3_becomes 4 none 2 := ⟨mg (i := 837) (by decide +kernel) rfl, mg (i := 138) (by decide +kernel) rfl, ⟨by decide, by decide⟩, by decide +kernel, by decide⟩
theorem cv_X3_becomes : Cond.instanceMethod yX3_becomes ∈ lw_g ∧ Cond.selects yX3_becomes.cls yX3_becomes yX3_becomes ∈ lw_g := ⟨mg (i := 835) (by decide +kernel) rfl, mg (i := 836) (by decide +kernel) rfl⟩
theorem ml_RX8_193 : Cond.methodLink RX8 193 yX6_unfairness ∈ lw_g := mg (i := 839) (by decide +kernel) rfl
theorem cf_X6_unfairness : CalF yX6_unfairness cX6_unfairness 1 (some .int) 0 := ⟨mg (i := 842) (by decide +kernel) rfl, mg (i := 127) (by decide +kernel) rfl, ⟨by decide, by decide⟩, by decide +kernel, by decide⟩
theorem cv_X6_unfairness : Cond.instanceMethod yX6_unfairness ∈ lw_g ∧ Cond.selects yX6_unfairness.cls yX6_unfairness yX6_unfairness ∈ lw_g := ⟨mg (i := 840) (by decide +kernel) rfl, mg (i := 841) (by decide +kernel) rfl⟩
theorem cn_RX8_188 : Cond.constant RX8 188 (1073741824 : Int32) ∈ lw_g := mg (i := 833) (by decide +kernel) rfl
theorem fl_RX8_182 : Cond.fieldLink RX8 182 (TX3 9).1 (TX3 9).2.1 (TX3 9).2.2.1 ∈ lw_g := mg (i := 481) (by decide +kernel) rfl
theorem fl_RX8_54 : Cond.fieldLink RX8 54 (TX8 9).1 (TX8 9).2.1 (TX8 9).2.2.1 ∈ lw_g := mg (i := 544) (by decide +kernel) rfl
theorem fl_RX8_50 : Cond.fieldLink RX8 50 (TX8 8).1 (TX8 8).2.1 (TX8 8).2.2.1 ∈ lw_g := mg (i := 543) (by decide +kernel) rfl
theorem ml_RX8_185 : Cond.methodLink RX8 185 yX8_fairestChange ∈ lw_g := mg (i := 829) (by decide +kernel) rfl
theorem cf_X8_fairestChange : CalF yX8_fairestChange cX8_fairestChange 6 (some .int) 0 := ⟨mg (i := 832) (by decide +kernel) rfl, mg (i := 126) (by decide +kernel) rfl, ⟨by decide, by decide⟩, by decide +kernel, by decide⟩
theorem cv_X8_fairestChange : Cond.instanceMethod yX8_fairestChange ∈ lw_g ∧ Cond.selects yX8_fairestChange.cls yX8_fairestChange yX8_fairestChange ∈ lw_g := ⟨mg (i := 831) (by decide +kernel) rfl, mg (i := 27) (by decide +kernel) rfl⟩
theorem ml_RX8_202 : Cond.methodLink RX8 202 yX3_seenFrom ∈ lw_g := mg (i := 850) (by decide +kernel) rfl
theorem ml_RX8_218 : Cond.methodLink RX8 218 yX3_allPlaces ∈ lw_g := mg (i := 866) (by decide +kernel) rfl
theorem fl_RX8_26 : Cond.fieldLink RX8 26 (TX8 4).1 (TX8 4).2.1 (TX8 4).2.2.1 ∈ lw_g := mg (i := 539) (by decide +kernel) rfl
theorem fl_RX8_221 : Cond.fieldLink RX8 221 (TX1 0).1 (TX1 0).2.1 (TX1 0).2.2.1 ∈ lw_g := mg (i := 255) (by decide +kernel) rfl
theorem ml_RX8_222 : Cond.methodLink RX8 222 yX1_solve ∈ lw_g := mg (i := 874) (by decide +kernel) rfl
theorem cf_X1_solve : CalF yX1_solve cX1_solve 5 none 1 := ⟨mg (i := 877) (by decide +kernel) rfl, mg (i := 129) (by decide +kernel) rfl, ⟨by decide, by decide⟩, by decide +kernel, by decide⟩
theorem cv_X1_solve : Cond.instanceMethod yX1_solve ∈ lw_g ∧ Cond.selects yX1_solve.cls yX1_solve yX1_solve ∈ lw_g := ⟨mg (i := 875) (by decide +kernel) rfl, mg (i := 876) (by decide +kernel) rfl⟩
theorem ml_RX8_205 : Cond.methodLink RX8 205 yX8_hiddenRefusal ∈ lw_g := mg (i := 862) (by decide +kernel) rfl
theorem cf_X8_hiddenRefusal : CalF yX8_hiddenRefusal cX8_hiddenRefusal 4 (some .int) 3 := ⟨mg (i := 865) (by decide +kernel) rfl, mg (i := 126) (by decide +kernel) rfl, ⟨by decide, by decide⟩, by decide +kernel, by decide⟩
theorem cv_X8_hiddenRefusal : Cond.instanceMethod yX8_hiddenRefusal ∈ lw_g ∧ Cond.selects yX8_hiddenRefusal.cls yX8_hiddenRefusal yX8_hiddenRefusal ∈ lw_g := ⟨mg (i := 864) (by decide +kernel) rfl, mg (i := 29) (by decide +kernel) rfl⟩
theorem ml_RX8_208 : Cond.methodLink RX8 208 yX8_solvedHidden ∈ lw_g := mg (i := 870) (by decide +kernel) rfl
theorem cf_X8_solvedHidden : CalF yX8_solvedHidden cX8_solvedHidden 1 (some (.object "WolfVillage$Hidden")) 0 := ⟨mg (i := 873) (by decide +kernel) rfl, mg (i := 126) (by decide +kernel) rfl, ⟨by decide, by decide⟩, by decide +kernel, by decide⟩
theorem cv_X8_solvedHidden : Cond.instanceMethod yX8_solvedHidden ∈ lw_g ∧ Cond.selects yX8_solvedHidden.cls yX8_solvedHidden yX8_solvedHidden ∈ lw_g := ⟨mg (i := 872) (by decide +kernel) rfl, mg (i := 30) (by decide +kernel) rfl⟩
theorem ml_RX8_212 : Cond.methodLink RX8 212 yX1_leastRounds ∈ lw_g := mg (i := 910) (by decide +kernel) rfl
theorem ml_RX8_215 : Cond.methodLink RX8 215 yX1_surestMove ∈ lw_g := mg (i := 918) (by decide +kernel) rfl
theorem cf_X1_surestMove : CalF yX1_surestMove cX1_surestMove 7 (some .int) 2 := ⟨mg (i := 921) (by decide +kernel) rfl, mg (i := 129) (by decide +kernel) rfl, ⟨by decide, by decide⟩, by decide +kernel, by decide⟩
theorem cv_X1_surestMove : Cond.instanceMethod yX1_surestMove ∈ lw_g ∧ Cond.selects yX1_surestMove.cls yX1_surestMove yX1_surestMove ∈ lw_g := ⟨mg (i := 919) (by decide +kernel) rfl, mg (i := 920) (by decide +kernel) rfl⟩
theorem ml_RX8_223 : Cond.methodLink RX8 223 yX3_placesOf ∈ lw_g := mg (i := 927) (by decide +kernel) rfl
theorem ml_RX8_226 : Cond.methodLink RX8 226 yX0_begin ∈ lw_g := mg (i := 928) (by decide +kernel) rfl
theorem cf_X0_begin : CalF yX0_begin cX0_begin 4 none 3 := ⟨mg (i := 931) (by decide +kernel) rfl, mg (i := 130) (by decide +kernel) rfl, ⟨by decide, by decide⟩, by decide +kernel, by decide⟩
theorem cv_X0_begin : Cond.instanceMethod yX0_begin ∈ lw_g ∧ Cond.selects yX0_begin.cls yX0_begin yX0_begin ∈ lw_g := ⟨mg (i := 929) (by decide +kernel) rfl, mg (i := 930) (by decide +kernel) rfl⟩
theorem fl_RX8_230 : Cond.fieldLink RX8 230 (TX0 2).1 (TX0 2).2.1 (TX0 2).2.2.1 ∈ lw_g := mg (i := 285) (by decide +kernel) rfl
theorem fl_RX8_233 : Cond.fieldLink RX8 233 (TX0 1).1 (TX0 1).2.1 (TX0 1).2.2.1 ∈ lw_g := mg (i := 283) (by decide +kernel) rfl
theorem ml_RX8_236 : Cond.methodLink RX8 236 yX6_after ∈ lw_g := mg (i := 943) (by decide +kernel) rfl
theorem ml_RX8_239 : Cond.methodLink RX8 239 yX0_turn ∈ lw_g := mg (i := 944) (by decide +kernel) rfl
theorem cf_X0_turn : CalF yX0_turn cX0_turn 5 none 2 := ⟨mg (i := 947) (by decide +kernel) rfl, mg (i := 130) (by decide +kernel) rfl, ⟨by decide, by decide⟩, by decide +kernel, by decide⟩
theorem cv_X0_turn : Cond.instanceMethod yX0_turn ∈ lw_g ∧ Cond.selects yX0_turn.cls yX0_turn yX0_turn ∈ lw_g := ⟨mg (i := 945) (by decide +kernel) rfl, mg (i := 946) (by decide +kernel) rfl⟩
theorem fl_RX8_243 : Cond.fieldLink RX8 243 (TX0 4).1 (TX0 4).2.1 (TX0 4).2.2.1 ∈ lw_g := mg (i := 289) (by decide +kernel) rfl
theorem ml_RX8_246 : Cond.methodLink RX8 246 yX0_takeBack ∈ lw_g := mg (i := 964) (by decide +kernel) rfl
theorem cf_X0_takeBack : CalF yX0_takeBack cX0_takeBack 1 none 0 := ⟨mg (i := 967) (by decide +kernel) rfl, mg (i := 130) (by decide +kernel) rfl, ⟨by decide, by decide⟩, by decide +kernel, by decide⟩
theorem cv_X0_takeBack : Cond.instanceMethod yX0_takeBack ∈ lw_g ∧ Cond.selects yX0_takeBack.cls yX0_takeBack yX0_takeBack ∈ lw_g := ⟨mg (i := 965) (by decide +kernel) rfl, mg (i := 966) (by decide +kernel) rfl⟩
theorem fl_RX8_249 : Cond.fieldLink RX8 249 (TX0 3).1 (TX0 3).2.1 (TX0 3).2.2.1 ∈ lw_g := mg (i := 287) (by decide +kernel) rfl
theorem fl_RX8_40 : Cond.fieldLink RX8 40 (TX8 6).1 (TX8 6).2.1 (TX8 6).2.2.1 ∈ lw_g := mg (i := 541) (by decide +kernel) rfl
theorem fl_RX8_252 : Cond.fieldLink RX8 252 (TX7 1).1 (TX7 1).2.1 (TX7 1).2.2.1 ∈ lw_g := mg (i := 415) (by decide +kernel) rfl
theorem fl_RX8_255 : Cond.fieldLink RX8 255 (TX7 0).1 (TX7 0).2.1 (TX7 0).2.2.1 ∈ lw_g := mg (i := 413) (by decide +kernel) rfl
theorem ml_RX8_259 : Cond.methodLink RX8 259 yX7_takeTape ∈ lw_g := mg (i := 980) (by decide +kernel) rfl
theorem cf_X7_takeTape : CalF yX7_takeTape cX7_takeTape 2 (some .int) 0 := ⟨mg (i := 983) (by decide +kernel) rfl, mg (i := 131) (by decide +kernel) rfl, ⟨by decide, by decide⟩, by decide +kernel, by decide⟩
theorem cv_X7_takeTape : Cond.instanceMethod yX7_takeTape ∈ lw_g ∧ Cond.selects yX7_takeTape.cls yX7_takeTape yX7_takeTape ∈ lw_g := ⟨mg (i := 981) (by decide +kernel) rfl, mg (i := 982) (by decide +kernel) rfl⟩
theorem fl_RX8_262 : Cond.fieldLink RX8 262 (TX7 4).1 (TX7 4).2.1 (TX7 4).2.2.1 ∈ lw_g := mg (i := 421) (by decide +kernel) rfl
theorem fl_RX8_263 : Cond.fieldLink RX8 263 (TX7 5).1 (TX7 5).2.1 (TX7 5).2.2.1 ∈ lw_g := mg (i := 422) (by decide +kernel) rfl
theorem cn_RX8_266 : Cond.constantLong RX8 266 (-4611686018427387904 : Int64) ∈ lw_g := mg (i := 1068) (by decide +kernel) rfl
theorem fl_RX8_268 : Cond.fieldLink RX8 268 (TX7 6).1 (TX7 6).2.1 (TX7 6).2.2.1 ∈ lw_g := mg (i := 424) (by decide +kernel) rfl
theorem fl_RX8_272 : Cond.fieldLink RX8 272 (TX4 0).1 (TX4 0).2.1 (TX4 0).2.2.1 ∈ lw_g := mg (i := 322) (by decide +kernel) rfl
theorem ml_RX8_277 : Cond.methodLink RX8 277 yX6_allPuzzles ∈ lw_g := mg (i := 1069) (by decide +kernel) rfl
theorem cf_X6_allPuzzles : CalF yX6_allPuzzles cX6_allPuzzles 3 (some .int) 0 := ⟨mg (i := 1072) (by decide +kernel) rfl, mg (i := 127) (by decide +kernel) rfl, ⟨by decide, by decide⟩, by decide +kernel, by decide⟩
theorem cv_X6_allPuzzles : Cond.instanceMethod yX6_allPuzzles ∈ lw_g ∧ Cond.selects yX6_allPuzzles.cls yX6_allPuzzles yX6_allPuzzles ∈ lw_g := ⟨mg (i := 1070) (by decide +kernel) rfl, mg (i := 1071) (by decide +kernel) rfl⟩
theorem fl_RX8_280 : Cond.fieldLink RX8 280 (TX7 2).1 (TX7 2).2.1 (TX7 2).2.2.1 ∈ lw_g := mg (i := 417) (by decide +kernel) rfl
theorem fl_RX8_284 : Cond.fieldLink RX8 284 (TX7 3).1 (TX7 3).2.1 (TX7 3).2.2.1 ∈ lw_g := mg (i := 419) (by decide +kernel) rfl
theorem ml_RX8_287 : Cond.methodLink RX8 287 yX4_read ∈ lw_g := mg (i := 1073) (by decide +kernel) rfl
theorem fl_RX8_294 : Cond.fieldLink RX8 294 (TX4 2).1 (TX4 2).2.1 (TX4 2).2.2.1 ∈ lw_g := mg (i := 326) (by decide +kernel) rfl
theorem fl_RX8_291 : Cond.fieldLink RX8 291 (TX4 1).1 (TX4 1).2.1 (TX4 1).2.2.1 ∈ lw_g := mg (i := 324) (by decide +kernel) rfl
theorem ml_RX8_297 : Cond.methodLink RX8 297 yX8_isSheet ∈ lw_g := mg (i := 1082) (by decide +kernel) rfl
theorem cf_X8_isSheet : CalF yX8_isSheet cX8_isSheet 1 (some .boolean) 1 := ⟨mg (i := 1084) (by decide +kernel) rfl, mg (i := 126) (by decide +kernel) rfl, ⟨by decide, by decide⟩, by decide +kernel, by decide⟩
theorem cv_X8_isSheet : Cond.static yX8_isSheet ∈ lw_g := mg (i := 1083) (by decide +kernel) rfl
theorem fl_RX8_46 : Cond.fieldLink RX8 46 (TX8 7).1 (TX8 7).2.1 (TX8 7).2.2.1 ∈ lw_g := mg (i := 542) (by decide +kernel) rfl
theorem ml_RX8_300 : Cond.methodLink RX8 300 yX5_become ∈ lw_g := mg (i := 1085) (by decide +kernel) rfl
theorem cf_X5_become : CalF yX5_become cX5_become 4 none 2 := ⟨mg (i := 1088) (by decide +kernel) rfl, mg (i := 139) (by decide +kernel) rfl, ⟨by decide, by decide⟩, by decide +kernel, by decide⟩
theorem cv_X5_become : Cond.instanceMethod yX5_become ∈ lw_g ∧ Cond.selects yX5_become.cls yX5_become yX5_become ∈ lw_g := ⟨mg (i := 1086) (by decide +kernel) rfl, mg (i := 1087) (by decide +kernel) rfl⟩
theorem fl_RX8_304 : Cond.fieldLink RX8 304 (TX5 0).1 (TX5 0).2.1 (TX5 0).2.2.1 ∈ lw_g := mg (i := 524) (by decide +kernel) rfl
theorem ml_RX8_307 : Cond.methodLink RX8 307 yX5_has ∈ lw_g := mg (i := 1095) (by decide +kernel) rfl
theorem ml_RX8_308 : Cond.methodLink RX8 308 yX5_put ∈ lw_g := mg (i := 1099) (by decide +kernel) rfl
theorem cf_X5_put : CalF yX5_put cX5_put 3 none 2 := ⟨mg (i := 1102) (by decide +kernel) rfl, mg (i := 139) (by decide +kernel) rfl, ⟨by decide, by decide⟩, by decide +kernel, by decide⟩
theorem cv_X5_put : Cond.instanceMethod yX5_put ∈ lw_g ∧ Cond.selects yX5_put.cls yX5_put yX5_put ∈ lw_g := ⟨mg (i := 1100) (by decide +kernel) rfl, mg (i := 1101) (by decide +kernel) rfl⟩
theorem fl_RX8_310 : Cond.fieldLink RX8 310 (TX5 2).1 (TX5 2).2.1 (TX5 2).2.2.1 ∈ lw_g := mg (i := 527) (by decide +kernel) rfl
theorem ml_RX8_313 : Cond.methodLink RX8 313 yX8_way ∈ lw_g := mg (i := 1108) (by decide +kernel) rfl
theorem cf_X8_way : CalF yX8_way cX8_way 5 (some .int) 3 := ⟨mg (i := 569) (by decide +kernel) rfl, mg (i := 126) (by decide +kernel) rfl, ⟨by decide, by decide⟩, by decide +kernel, by decide⟩
theorem cv_X8_way : Cond.instanceMethod yX8_way ∈ lw_g ∧ Cond.selects yX8_way.cls yX8_way yX8_way ∈ lw_g := ⟨mg (i := 567) (by decide +kernel) rfl, mg (i := 568) (by decide +kernel) rfl⟩
theorem fs_RX8_316 : Cond.fieldLink RX8 316 "WolfVillage" "KIND_ABOVE" "[I" ∈ lw_g := mg (i := 1113) (by decide +kernel) rfl
theorem fl_RX9_149 : Cond.fieldLink RX9 149 (TX9 0).1 (TX9 0).2.1 (TX9 0).2.2.1 ∈ lw_g := mg (i := 1128) (by decide +kernel) rfl
theorem ml_RX9_155 : Cond.methodLink RX9 155 yX9_in ∈ lw_g := mg (i := 1271) (by decide +kernel) rfl
theorem cf_X9_in : CalF yX9_in cX9_in 4 (some .boolean) 3 := ⟨mg (i := 1274) (by decide +kernel) rfl, mg (i := 140) (by decide +kernel) rfl, ⟨by decide, by decide⟩, by decide +kernel, by decide⟩
theorem cv_X9_in : Cond.instanceMethod yX9_in ∈ lw_g ∧ Cond.selects yX9_in.cls yX9_in yX9_in ∈ lw_g := ⟨mg (i := 1273) (by decide +kernel) rfl, mg (i := 52) (by decide +kernel) rfl⟩
theorem fl_RX9_7 : Cond.fieldLink RX9 7 (TX9 1).1 (TX9 1).2.1 (TX9 1).2.2.1 ∈ lw_g := mg (i := 1129) (by decide +kernel) rfl
theorem fl_RX9_19 : Cond.fieldLink RX9 19 (TX9 4).1 (TX9 4).2.1 (TX9 4).2.2.1 ∈ lw_g := mg (i := 1132) (by decide +kernel) rfl
theorem ml_RX9_159 : Cond.methodLink RX9 159 yX9_isShutter ∈ lw_g := mg (i := 1279) (by decide +kernel) rfl
theorem cf_X9_isShutter : CalF yX9_isShutter cX9_isShutter 2 (some .boolean) 1 := ⟨mg (i := 1282) (by decide +kernel) rfl, mg (i := 140) (by decide +kernel) rfl, ⟨by decide, by decide⟩, by decide +kernel, by decide⟩
theorem cv_X9_isShutter : Cond.instanceMethod yX9_isShutter ∈ lw_g ∧ Cond.selects yX9_isShutter.cls yX9_isShutter yX9_isShutter ∈ lw_g := ⟨mg (i := 1281) (by decide +kernel) rfl, mg (i := 54) (by decide +kernel) rfl⟩
theorem fl_RX9_36 : Cond.fieldLink RX9 36 (TX9 9).1 (TX9 9).2.1 (TX9 9).2.2.1 ∈ lw_g := mg (i := 1137) (by decide +kernel) rfl
theorem fl_RX9_67 : Cond.fieldLink RX9 67 (TX9 19).1 (TX9 19).2.1 (TX9 19).2.2.1 ∈ lw_g := mg (i := 1147) (by decide +kernel) rfl
theorem fl_RX9_55 : Cond.fieldLink RX9 55 (TX9 15).1 (TX9 15).2.1 (TX9 15).2.2.1 ∈ lw_g := mg (i := 1143) (by decide +kernel) rfl
theorem fl_RX9_23 : Cond.fieldLink RX9 23 (TX9 5).1 (TX9 5).2.1 (TX9 5).2.2.1 ∈ lw_g := mg (i := 1133) (by decide +kernel) rfl
