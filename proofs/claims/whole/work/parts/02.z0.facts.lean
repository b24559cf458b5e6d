theorem fl_RX3_40 : Cond.fieldLink RX3 40 (TX3 0).1 (TX3 0).2.1 (TX3 0).2.2.1 ∈ lw_g := mg (i := 451) (by decide +kernel) rfl
theorem fl_RX3_30 : Cond.fieldLink RX3 30 (TX3 7).1 (TX3 7).2.1 (TX3 7).2.2.1 ∈ lw_g := mg (i := 473) (by decide +kernel) rfl
theorem fl_RX3_27 : Cond.fieldLink RX3 27 (TX3 6).1 (TX3 6).2.1 (TX3 6).2.2.1 ∈ lw_g := mg (i := 470) (by decide +kernel) rfl
theorem fl_RX3_37 : Cond.fieldLink RX3 37 (TX3 11).1 (TX3 11).2.1 (TX3 11).2.2.1 ∈ lw_g := mg (i := 484) (by decide +kernel) rfl
theorem ml_RX3_98 : Cond.methodLink RX3 98 yX3_seenFromPlace ∈ lw_g := mg (i := 854) (by decide +kernel) rfl
theorem cf_X3_seenFromPlace : CalF yX3_seenFromPlace cX3_seenFromPlace 7 (some .int) 1 := ⟨mg (i := 857) (by decide +kernel) rfl, mg (i := 138) (by decide +kernel) rfl, ⟨by decide, by decide⟩, by decide +kernel, by decide⟩
theorem cv_X3_seenFromPlace : Cond.instanceMethod yX3_seenFromPlace ∈ lw_g ∧ Cond.selects yX3_seenFromPlace.cls yX3_seenFromPlace yX3_seenFromPlace ∈ lw_g := ⟨mg (i := 856) (by decide +kernel) rfl, mg (i := 28) (by decide +kernel) rfl⟩
theorem fl_RX0_29 : Cond.fieldLink RX0 29 (TX0 1).1 (TX0 1).2.1 (TX0 1).2.2.1 ∈ lw_g := mg (i := 282) (by decide +kernel) rfl
theorem ml_RX0_49 : Cond.methodLink RX0 49 yX3_seenFrom ∈ lw_g := mg (i := 938) (by decide +kernel) rfl
theorem cf_X3_seenFrom : CalF yX3_seenFrom cX3_seenFrom 2 (some .int) 1 := ⟨mg (i := 853) (by decide +kernel) rfl, mg (i := 138) (by decide +kernel) rfl, ⟨by decide, by decide⟩, by decide +kernel, by decide⟩
theorem cv_X3_seenFrom : Cond.instanceMethod yX3_seenFrom ∈ lw_g ∧ Cond.selects yX3_seenFrom.cls yX3_seenFrom yX3_seenFrom ∈ lw_g := ⟨mg (i := 851) (by decide +kernel) rfl, mg (i := 852) (by decide +kernel) rfl⟩
theorem fl_RX0_42 : Cond.fieldLink RX0 42 (TX0 2).1 (TX0 2).2.1 (TX0 2).2.2.1 ∈ lw_g := mg (i := 284) (by decide +kernel) rfl
theorem fl_RX0_18 : Cond.fieldLink RX0 18 (TX0 0).1 (TX0 0).2.1 (TX0 0).2.2.1 ∈ lw_g := mg (i := 280) (by decide +kernel) rfl
theorem fl_RX0_22 : Cond.fieldLink RX0 22 (TX0 3).1 (TX0 3).2.1 (TX0 3).2.2.1 ∈ lw_g := mg (i := 286) (by decide +kernel) rfl
theorem fl_RX0_26 : Cond.fieldLink RX0 26 (TX0 4).1 (TX0 4).2.1 (TX0 4).2.2.1 ∈ lw_g := mg (i := 288) (by decide +kernel) rfl
theorem ml_RX0_32 : Cond.methodLink RX0 32 yX3_allPlaces ∈ lw_g := mg (i := 932) (by decide +kernel) rfl
theorem cf_X3_allPlaces : CalF yX3_allPlaces cX3_allPlaces 1 (some .int) 0 := ⟨mg (i := 869) (by decide +kernel) rfl, mg (i := 138) (by decide +kernel) rfl, ⟨by decide, by decide⟩, by decide +kernel, by decide⟩
theorem cv_X3_allPlaces : Cond.instanceMethod yX3_allPlaces ∈ lw_g ∧ Cond.selects yX3_allPlaces.cls yX3_allPlaces yX3_allPlaces ∈ lw_g := ⟨mg (i := 867) (by decide +kernel) rfl, mg (i := 868) (by decide +kernel) rfl⟩
theorem ml_RX0_38 : Cond.methodLink RX0 38 yX3_placesOf ∈ lw_g := mg (i := 933) (by decide +kernel) rfl
theorem cf_X3_placesOf : CalF yX3_placesOf cX3_placesOf 1 (some .int) 1 := ⟨mg (i := 666) (by decide +kernel) rfl, mg (i := 138) (by decide +kernel) rfl, ⟨by decide, by decide⟩, by decide +kernel, by decide⟩
theorem cv_X3_placesOf : Cond.static yX3_placesOf ∈ lw_g := mg (i := 665) (by decide +kernel) rfl
theorem ml_RX0_45 : Cond.methodLink RX0 45 yX0_look ∈ lw_g := mg (i := 934) (by decide +kernel) rfl
theorem cf_X0_look : CalF yX0_look cX0_look 4 none 1 := ⟨mg (i := 937) (by decide +kernel) rfl, mg (i := 130) (by decide +kernel) rfl, ⟨by decide, by decide⟩, by decide +kernel, by decide⟩
theorem cv_X0_look : Cond.instanceMethod yX0_look ∈ lw_g ∧ Cond.selects yX0_look.cls yX0_look yX0_look ∈ lw_g := ⟨mg (i := 936) (by decide +kernel) rfl, mg (i := 35) (by decide +kernel) rfl⟩
theorem fl_RX3_15 : Cond.fieldLink RX3 15 (TX3 2).1 (TX3 2).2.1 (TX3 2).2.2.1 ∈ lw_g := mg (i := 460) (by decide +kernel) rfl
theorem fl_RX3_18 : Cond.fieldLink RX3 18 (TX3 3).1 (TX3 3).2.1 (TX3 3).2.2.1 ∈ lw_g := mg (i := 463) (by decide +kernel) rfl
theorem fl_RX3_9 : Cond.fieldLink RX3 9 (TX3 1).1 (TX3 1).2.1 (TX3 1).2.2.1 ∈ lw_g := mg (i := 457) (by decide +kernel) rfl
theorem ml_RX3_78 : Cond.methodLink RX3 78 yX3_otherEnd ∈ lw_g := mg (i := 675) (by decide +kernel) rfl
theorem cf_X3_otherEnd : CalF yX3_otherEnd cX3_otherEnd 3 (some .int) 2 := ⟨mg (i := 678) (by decide +kernel) rfl, mg (i := 138) (by decide +kernel) rfl, ⟨by decide, by decide⟩, by decide +kernel, by decide⟩
theorem cv_X3_otherEnd : Cond.instanceMethod yX3_otherEnd ∈ lw_g ∧ Cond.selects yX3_otherEnd.cls yX3_otherEnd yX3_otherEnd ∈ lw_g := ⟨mg (i := 677) (by decide +kernel) rfl, mg (i := 8) (by decide +kernel) rfl⟩
theorem ml_RX3_81 : Cond.methodLink RX3 81 yX3_placesOf ∈ lw_g := mg (i := 703) (by decide +kernel) rfl
theorem fl_RX3_53 : Cond.fieldLink RX3 53 (TX3 8).1 (TX3 8).2.1 (TX3 8).2.2.1 ∈ lw_g := mg (i := 477) (by decide +kernel) rfl
theorem ml_RX3_91 : Cond.methodLink RX3 91 yX3_runnerEnd ∈ lw_g := mg (i := 699) (by decide +kernel) rfl
theorem cf_X3_runnerEnd : CalF yX3_runnerEnd cX3_runnerEnd 5 (some .int) 3 := ⟨mg (i := 702) (by decide +kernel) rfl, mg (i := 138) (by decide +kernel) rfl, ⟨by decide, by decide⟩, by decide +kernel, by decide⟩
theorem cv_X3_runnerEnd : Cond.instanceMethod yX3_runnerEnd ∈ lw_g ∧ Cond.selects yX3_runnerEnd.cls yX3_runnerEnd yX3_runnerEnd ∈ lw_g := ⟨mg (i := 701) (by decide +kernel) rfl, mg (i := 11) (by decide +kernel) rfl⟩
theorem ml_RX3_88 : Cond.methodLink RX3 88 yX3_isWell ∈ lw_g := mg (i := 695) (by decide +kernel) rfl
theorem cf_X3_isWell : CalF yX3_isWell cX3_isWell 2 (some .boolean) 1 := ⟨mg (i := 698) (by decide +kernel) rfl, mg (i := 138) (by decide +kernel) rfl, ⟨by decide, by decide⟩, by decide +kernel, by decide⟩
theorem cv_X3_isWell : Cond.instanceMethod yX3_isWell ∈ lw_g ∧ Cond.selects yX3_isWell.cls yX3_isWell yX3_isWell ∈ lw_g := ⟨mg (i := 696) (by decide +kernel) rfl, mg (i := 697) (by decide +kernel) rfl⟩
theorem ml_RX3_66 : Cond.methodLink RX3 66 Lib.Math.min.name ∈ lw_g := mg (i := 626) (by decide +kernel) rfl
theorem ml_RX3_72 : Cond.methodLink RX3 72 Lib.Math.max.name ∈ lw_g := mg (i := 627) (by decide +kernel) rfl
theorem ml_RX3_75 : Cond.methodLink RX3 75 yX3_sortedPair ∈ lw_g := mg (i := 623) (by decide +kernel) rfl
theorem cf_X3_sortedPair : CalF yX3_sortedPair cX3_sortedPair 2 (some .int) 2 := ⟨mg (i := 625) (by decide +kernel) rfl, mg (i := 138) (by decide +kernel) rfl, ⟨by decide, by decide⟩, by decide +kernel, by decide⟩
theorem cv_X3_sortedPair : Cond.static yX3_sortedPair ∈ lw_g := mg (i := 624) (by decide +kernel) rfl
theorem ml_RX3_85 : Cond.methodLink RX3 85 yX3_hunterEnd ∈ lw_g := mg (i := 671) (by decide +kernel) rfl
theorem cf_X3_hunterEnd : CalF yX3_hunterEnd cX3_hunterEnd 4 (some .int) 2 := ⟨mg (i := 674) (by decide +kernel) rfl, mg (i := 138) (by decide +kernel) rfl, ⟨by decide, by decide⟩, by decide +kernel, by decide⟩
theorem cv_X3_hunterEnd : Cond.instanceMethod yX3_hunterEnd ∈ lw_g ∧ Cond.selects yX3_hunterEnd.cls yX3_hunterEnd yX3_hunterEnd ∈ lw_g := ⟨mg (i := 673) (by decide +kernel) rfl, mg (i := 7) (by decide +kernel) rfl⟩
theorem fl_RX3_33 : Cond.fieldLink RX3 33 (TX3 10).1 (TX3 10).2.1 (TX3 10).2.2.1 ∈ lw_g := mg (i := 482) (by decide +kernel) rfl
theorem fl_RX3_21 : Cond.fieldLink RX3 21 (TX3 4).1 (TX3 4).2.1 (TX3 4).2.2.1 ∈ lw_g := mg (i := 466) (by decide +kernel) rfl
theorem fl_RX6_40 : Cond.fieldLink RX6 40 (TX6 15).1 (TX6 15).2.1 (TX6 15).2.2.1 ∈ lw_g := mg (i := 178) (by decide +kernel) rfl
theorem fl_RX6_50 : Cond.fieldLink RX6 50 (TX6 0).1 (TX6 0).2.1 (TX6 0).2.2.1 ∈ lw_g := mg (i := 156) (by decide +kernel) rfl
theorem ml_RX6_120 : Cond.methodLink RX6 120 yX3_shutterPassed ∈ lw_g := mg (i := 679) (by decide +kernel) rfl
theorem cf_X3_shutterPassed : CalF yX3_shutterPassed cX3_shutterPassed 2 (some .int) 1 := ⟨mg (i := 682) (by decide +kernel) rfl, mg (i := 138) (by decide +kernel) rfl, ⟨by decide, by decide⟩, by decide +kernel, by decide⟩
theorem cv_X3_shutterPassed : Cond.instanceMethod yX3_shutterPassed ∈ lw_g ∧ Cond.selects yX3_shutterPassed.cls yX3_shutterPassed yX3_shutterPassed ∈ lw_g := ⟨mg (i := 680) (by decide +kernel) rfl, mg (i := 681) (by decide +kernel) rfl⟩
theorem ml_RX6_146 : Cond.methodLink RX6 146 yX6_isRunnersTurn ∈ lw_g := mg (i := 724) (by decide +kernel) rfl
theorem cf_X6_isRunnersTurn : CalF yX6_isRunnersTurn cX6_isRunnersTurn 1 (some .boolean) 1 := ⟨mg (i := 726) (by decide +kernel) rfl, mg (i := 127) (by decide +kernel) rfl, ⟨by decide, by decide⟩, by decide +kernel, by decide⟩
theorem cv_X6_isRunnersTurn : Cond.static yX6_isRunnersTurn ∈ lw_g := mg (i := 725) (by decide +kernel) rfl
theorem ml_RX6_117 : Cond.methodLink RX6 117 yX3_pairAfter ∈ lw_g := mg (i := 667) (by decide +kernel) rfl
theorem cf_X3_pairAfter : CalF yX3_pairAfter cX3_pairAfter 8 (some .int) 2 := ⟨mg (i := 670) (by decide +kernel) rfl, mg (i := 138) (by decide +kernel) rfl, ⟨by decide, by decide⟩, by decide +kernel, by decide⟩
theorem cv_X3_pairAfter : Cond.instanceMethod yX3_pairAfter ∈ lw_g ∧ Cond.selects yX3_pairAfter.cls yX3_pairAfter yX3_pairAfter ∈ lw_g := ⟨mg (i := 668) (by decide +kernel) rfl, mg (i := 669) (by decide +kernel) rfl⟩
theorem ml_RX6_133 : Cond.methodLink RX6 133 yX3_runnerAfter ∈ lw_g := mg (i := 691) (by decide +kernel) rfl
theorem cf_X3_runnerAfter : CalF yX3_runnerAfter cX3_runnerAfter 4 (some .int) 3 := ⟨mg (i := 694) (by decide +kernel) rfl, mg (i := 138) (by decide +kernel) rfl, ⟨by decide, by decide⟩, by decide +kernel, by decide⟩
theorem cv_X3_runnerAfter : Cond.instanceMethod yX3_runnerAfter ∈ lw_g ∧ Cond.selects yX3_runnerAfter.cls yX3_runnerAfter yX3_runnerAfter ∈ lw_g := ⟨mg (i := 692) (by decide +kernel) rfl, mg (i := 693) (by decide +kernel) rfl⟩
theorem ml_RX3_94 : Cond.methodLink RX3 94 yX3_isOpen ∈ lw_g := mg (i := 892) (by decide +kernel) rfl
theorem cf_X3_isOpen : CalF yX3_isOpen cX3_isOpen 4 (some .boolean) 2 := ⟨mg (i := 895) (by decide +kernel) rfl, mg (i := 138) (by decide +kernel) rfl, ⟨by decide, by decide⟩, by decide +kernel, by decide⟩
theorem cv_X3_isOpen : Cond.instanceMethod yX3_isOpen ∈ lw_g ∧ Cond.selects yX3_isOpen.cls yX3_isOpen yX3_isOpen ∈ lw_g := ⟨mg (i := 893) (by decide +kernel) rfl, mg (i := 894) (by decide +kernel) rfl⟩
theorem fl_RX0_75 : Cond.fieldLink RX0 75 (TX3 0).1 (TX3 0).2.1 (TX3 0).2.2.1 ∈ lw_g := mg (i := 454) (by decide +kernel) rfl
theorem ml_RX0_78 : Cond.methodLink RX0 78 yX3_reachOf ∈ lw_g := mg (i := 955) (by decide +kernel) rfl
theorem cf_X3_reachOf : CalF yX3_reachOf cX3_reachOf 7 (some .int) 3 := ⟨mg (i := 891) (by decide +kernel) rfl, mg (i := 138) (by decide +kernel) rfl, ⟨by decide, by decide⟩, by decide +kernel, by decide⟩
theorem cv_X3_reachOf : Cond.instanceMethod yX3_reachOf ∈ lw_g ∧ Cond.selects yX3_reachOf.cls yX3_reachOf yX3_reachOf ∈ lw_g := ⟨mg (i := 889) (by decide +kernel) rfl, mg (i := 890) (by decide +kernel) rfl⟩
theorem ml_RX0_52 : Cond.methodLink RX0 52 yX6_after ∈ lw_g := mg (i := 948) (by decide +kernel) rfl
theorem cf_X6_after : CalF yX6_after cX6_after 9 (some .int) 2 := ⟨mg (i := 747) (by decide +kernel) rfl, mg (i := 127) (by decide +kernel) rfl, ⟨by decide, by decide⟩, by decide +kernel, by decide⟩
theorem cv_X6_after : Cond.instanceMethod yX6_after ∈ lw_g ∧ Cond.selects yX6_after.cls yX6_after yX6_after ∈ lw_g := ⟨mg (i := 745) (by decide +kernel) rfl, mg (i := 746) (by decide +kernel) rfl⟩
theorem fl_RX0_58 : Cond.fieldLink RX0 58 (TX6 0).1 (TX6 0).2.1 (TX6 0).2.2.1 ∈ lw_g := mg (i := 157) (by decide +kernel) rfl
theorem fl_RX0_9 : Cond.fieldLink RX0 9 (TX0 5).1 (TX0 5).2.1 (TX0 5).2.2.1 ∈ lw_g := mg (i := 290) (by decide +kernel) rfl
theorem fl_RX0_15 : Cond.fieldLink RX0 15 (TX0 6).1 (TX0 6).2.1 (TX0 6).2.2.1 ∈ lw_g := mg (i := 291) (by decide +kernel) rfl
theorem ml_RX0_62 : Cond.methodLink RX0 62 Lib.Math.min.name ∈ lw_g := mg (i := 949) (by decide +kernel) rfl
theorem ml_RX0_67 : Cond.methodLink RX0 67 yX6_isRunnersTurn ∈ lw_g := mg (i := 950) (by decide +kernel) rfl
theorem ml_RX0_71 : Cond.methodLink RX0 71 yX0_knownBehindRunner ∈ lw_g := mg (i := 951) (by decide +kernel) rfl
theorem cf_X0_knownBehindRunner : CalF yX0_knownBehindRunner cX0_knownBehindRunner 4 (some .int) 1 := ⟨mg (i := 954) (by decide +kernel) rfl, mg (i := 130) (by decide +kernel) rfl, ⟨by decide, by decide⟩, by decide +kernel, by decide⟩
theorem cv_X0_knownBehindRunner : Cond.instanceMethod yX0_knownBehindRunner ∈ lw_g ∧ Cond.selects yX0_knownBehindRunner.cls yX0_knownBehindRunner yX0_knownBehindRunner ∈ lw_g := ⟨mg (i := 953) (by decide +kernel) rfl, mg (i := 36) (by decide +kernel) rfl⟩
theorem ml_RX3_46 : Cond.methodLink RX3 46 yX3_has ∈ lw_g := mg (i := 574) (by decide +kernel) rfl
theorem cf_X3_has : CalF yX3_has cX3_has 2 (some .boolean) 1 := ⟨mg (i := 577) (by decide +kernel) rfl, mg (i := 138) (by decide +kernel) rfl, ⟨by decide, by decide⟩, by decide +kernel, by decide⟩
theorem cv_X3_has : Cond.instanceMethod yX3_has ∈ lw_g ∧ Cond.selects yX3_has.cls yX3_has yX3_has ∈ lw_g := ⟨mg (i := 575) (by decide +kernel) rfl, mg (i := 576) (by decide +kernel) rfl⟩
theorem fl_RX1_22 : Cond.fieldLink RX1 22 (TX1 4).1 (TX1 4).2.1 (TX1 4).2.2.1 ∈ lw_g := mg (i := 259) (by decide +kernel) rfl
theorem fl_RX1_25 : Cond.fieldLink RX1 25 (TX1 1).1 (TX1 1).2.1 (TX1 1).2.2.1 ∈ lw_g := mg (i := 256) (by decide +kernel) rfl
theorem fl_RX1_32 : Cond.fieldLink RX1 32 (TX3 0).1 (TX3 0).2.1 (TX3 0).2.2.1 ∈ lw_g := mg (i := 452) (by decide +kernel) rfl
theorem ml_RX1_65 : Cond.methodLink RX1 65 yX3_reachOf ∈ lw_g := mg (i := 888) (by decide +kernel) rfl
theorem fl_RX1_51 : Cond.fieldLink RX1 51 (TX1 5).1 (TX1 5).2.1 (TX1 5).2.2.1 ∈ lw_g := mg (i := 260) (by decide +kernel) rfl
theorem fl_RX1_15 : Cond.fieldLink RX1 15 (TX1 2).1 (TX1 2).2.1 (TX1 2).2.2.1 ∈ lw_g := mg (i := 257) (by decide +kernel) rfl
theorem ml_RX1_61 : Cond.methodLink RX1 61 yX3_allPlaces ∈ lw_g := mg (i := 900) (by decide +kernel) rfl
theorem fl_RX1_19 : Cond.fieldLink RX1 19 (TX1 3).1 (TX1 3).2.1 (TX1 3).2.2.1 ∈ lw_g := mg (i := 258) (by decide +kernel) rfl
theorem ml_RX1_58 : Cond.methodLink RX1 58 yX1_isSureBehind ∈ lw_g := mg (i := 896) (by decide +kernel) rfl
theorem cf_X1_isSureBehind : CalF yX1_isSureBehind cX1_isSureBehind 5 (some .boolean) 2 := ⟨mg (i := 899) (by decide +kernel) rfl, mg (i := 129) (by decide +kernel) rfl, ⟨by decide, by decide⟩, by decide +kernel, by decide⟩
theorem cv_X1_isSureBehind : Cond.instanceMethod yX1_isSureBehind ∈ lw_g ∧ Cond.selects yX1_isSureBehind.cls yX1_isSureBehind yX1_isSureBehind ∈ lw_g := ⟨mg (i := 898) (by decide +kernel) rfl, mg (i := 33) (by decide +kernel) rfl⟩
theorem ml_RX1_47 : Cond.methodLink RX1 47 yX3_seenFrom ∈ lw_g := mg (i := 883) (by decide +kernel) rfl
theorem ml_RX1_54 : Cond.methodLink RX1 54 yX1_reckonReached ∈ lw_g := mg (i := 884) (by decide +kernel) rfl
theorem cf_X1_reckonReached : CalF yX1_reckonReached cX1_reckonReached 6 none 1 := ⟨mg (i := 887) (by decide +kernel) rfl, mg (i := 129) (by decide +kernel) rfl, ⟨by decide, by decide⟩, by decide +kernel, by decide⟩
theorem cv_X1_reckonReached : Cond.instanceMethod yX1_reckonReached ∈ lw_g ∧ Cond.selects yX1_reckonReached.cls yX1_reckonReached yX1_reckonReached ∈ lw_g := ⟨mg (i := 886) (by decide +kernel) rfl, mg (i := 32) (by decide +kernel) rfl⟩
theorem ml_RX1_76 : Cond.methodLink RX1 76 yX3_placesOf ∈ lw_g := mg (i := 909) (by decide +kernel) rfl
theorem ml_RX1_73 : Cond.methodLink RX1 73 yX1_moved ∈ lw_g := mg (i := 906) (by decide +kernel) rfl
theorem cf_X1_moved : CalF yX1_moved cX1_moved 2 (some .int) 2 := ⟨mg (i := 908) (by decide +kernel) rfl, mg (i := 129) (by decide +kernel) rfl, ⟨by decide, by decide⟩, by decide +kernel, by decide⟩
theorem cv_X1_moved : Cond.static yX1_moved ∈ lw_g := mg (i := 907) (by decide +kernel) rfl
theorem ml_RX1_69 : Cond.methodLink RX1 69 yX3_pairAfter ∈ lw_g := mg (i := 905) (by decide +kernel) rfl
theorem ml_RX1_35 : Cond.methodLink RX1 35 yX3_isPair ∈ lw_g := mg (i := 878) (by decide +kernel) rfl
theorem cf_X3_isPair : CalF yX3_isPair cX3_isPair 4 (some .boolean) 1 := ⟨mg (i := 659) (by decide +kernel) rfl, mg (i := 138) (by decide +kernel) rfl, ⟨by decide, by decide⟩, by decide +kernel, by decide⟩
theorem cv_X3_isPair : Cond.instanceMethod yX3_isPair ∈ lw_g ∧ Cond.selects yX3_isPair.cls yX3_isPair yX3_isPair ∈ lw_g := ⟨mg (i := 657) (by decide +kernel) rfl, mg (i := 658) (by decide +kernel) rfl⟩
theorem ml_RX1_43 : Cond.methodLink RX1 43 yX1_findLeast ∈ lw_g := mg (i := 901) (by decide +kernel) rfl
theorem cf_X1_findLeast : CalF yX1_findLeast cX1_findLeast 8 (some .boolean) 2 := ⟨mg (i := 904) (by decide +kernel) rfl, mg (i := 129) (by decide +kernel) rfl, ⟨by decide, by decide⟩, by decide +kernel, by decide⟩
theorem cv_X1_findLeast : Cond.instanceMethod yX1_findLeast ∈ lw_g ∧ Cond.selects yX1_findLeast.cls yX1_findLeast yX1_findLeast ∈ lw_g := ⟨mg (i := 903) (by decide +kernel) rfl, mg (i := 34) (by decide +kernel) rfl⟩
theorem ml_RX1_39 : Cond.methodLink RX1 39 yX1_findMoved ∈ lw_g := mg (i := 879) (by decide +kernel) rfl
theorem cf_X1_findMoved : CalF yX1_findMoved cX1_findMoved 6 none 2 := ⟨mg (i := 882) (by decide +kernel) rfl, mg (i := 129) (by decide +kernel) rfl, ⟨by decide, by decide⟩, by decide +kernel, by decide⟩
theorem cv_X1_findMoved : Cond.instanceMethod yX1_findMoved ∈ lw_g ∧ Cond.selects yX1_findMoved.cls yX1_findMoved yX1_findMoved ∈ lw_g := ⟨mg (i := 881) (by decide +kernel) rfl, mg (i := 31) (by decide +kernel) rfl⟩
theorem fl_RX1_29 : Cond.fieldLink RX1 29 (TX3 12).1 (TX3 12).2.1 (TX3 12).2.2.1 ∈ lw_g := mg (i := 488) (by decide +kernel) rfl
theorem fl_RX1_9 : Cond.fieldLink RX1 9 (TX1 0).1 (TX1 0).2.1 (TX1 0).2.2.1 ∈ lw_g := mg (i := 254) (by decide +kernel) rfl
theorem ml_RX1_79 : Cond.methodLink RX1 79 yX1_leastRounds ∈ lw_g := mg (i := 922) (by decide +kernel) rfl
theorem cf_X1_leastRounds : CalF yX1_leastRounds cX1_leastRounds 3 (some .int) 2 := ⟨mg (i := 913) (by decide +kernel) rfl, mg (i := 129) (by decide +kernel) rfl, ⟨by decide, by decide⟩, by decide +kernel, by decide⟩
theorem cv_X1_leastRounds : Cond.instanceMethod yX1_leastRounds ∈ lw_g ∧ Cond.selects yX1_leastRounds.cls yX1_leastRounds yX1_leastRounds ∈ lw_g := ⟨mg (i := 911) (by decide +kernel) rfl, mg (i := 912) (by decide +kernel) rfl⟩
theorem fl_RX2_28 : Cond.fieldLink RX2 28 (TX2 0).1 (TX2 0).2.1 (TX2 0).2.2.1 ∈ lw_g := mg (i := 229) (by decide +kernel) rfl
theorem fl_RX2_32 : Cond.fieldLink RX2 32 (TX3 8).1 (TX3 8).2.1 (TX3 8).2.2.1 ∈ lw_g := mg (i := 475) (by decide +kernel) rfl
theorem fl_RX2_33 : Cond.fieldLink RX2 33 (TX3 1).1 (TX3 1).2.1 (TX3 1).2.2.1 ∈ lw_g := mg (i := 458) (by decide +kernel) rfl
theorem fl_RX2_18 : Cond.fieldLink RX2 18 (TX2 3).1 (TX2 3).2.1 (TX2 3).2.2.1 ∈ lw_g := mg (i := 232) (by decide +kernel) rfl
theorem fl_RX2_36 : Cond.fieldLink RX2 36 (TX3 2).1 (TX3 2).2.1 (TX3 2).2.2.1 ∈ lw_g := mg (i := 461) (by decide +kernel) rfl
theorem fl_RX2_39 : Cond.fieldLink RX2 39 (TX3 3).1 (TX3 3).2.1 (TX3 3).2.2.1 ∈ lw_g := mg (i := 464) (by decide +kernel) rfl
theorem fl_RX2_9 : Cond.fieldLink RX2 9 (TX2 1).1 (TX2 1).2.1 (TX2 1).2.2.1 ∈ lw_g := mg (i := 230) (by decide +kernel) rfl
theorem fl_RX2_25 : Cond.fieldLink RX2 25 (TX3 12).1 (TX3 12).2.1 (TX3 12).2.2.1 ∈ lw_g := mg (i := 486) (by decide +kernel) rfl
theorem fl_RX2_15 : Cond.fieldLink RX2 15 (TX2 2).1 (TX2 2).2.1 (TX2 2).2.2.1 ∈ lw_g := mg (i := 231) (by decide +kernel) rfl
theorem fl_RX2_22 : Cond.fieldLink RX2 22 (TX2 4).1 (TX2 4).2.1 (TX2 4).2.2.1 ∈ lw_g := mg (i := 233) (by decide +kernel) rfl
theorem fl_RX2_74 : Cond.fieldLink RX2 74 (TX2 5).1 (TX2 5).2.1 (TX2 5).2.2.1 ∈ lw_g := mg (i := 234) (by decide +kernel) rfl
theorem fl_RX2_46 : Cond.fieldLink RX2 46 (TX3 0).1 (TX3 0).2.1 (TX3 0).2.2.1 ∈ lw_g := mg (i := 453) (by decide +kernel) rfl
theorem fl_RX2_77 : Cond.fieldLink RX2 77 (TX3 6).1 (TX3 6).2.1 (TX3 6).2.2.1 ∈ lw_g := mg (i := 472) (by decide +kernel) rfl
theorem ml_RX2_56 : Cond.methodLink RX2 56 yX2_give ∈ lw_g := mg (i := 804) (by decide +kernel) rfl
theorem cf_X2_give : CalF yX2_give cX2_give 5 (some .boolean) 2 := ⟨mg (i := 807) (by decide +kernel) rfl, mg (i := 128) (by decide +kernel) rfl, ⟨by decide, by decide⟩, by decide +kernel, by decide⟩
theorem cv_X2_give : Cond.instanceMethod yX2_give ∈ lw_g ∧ Cond.selects yX2_give.cls yX2_give yX2_give ∈ lw_g := ⟨mg (i := 806) (by decide +kernel) rfl, mg (i := 24) (by decide +kernel) rfl⟩
theorem ml_RX2_60 : Cond.methodLink RX2 60 yX2_canNameRest ∈ lw_g := mg (i := 808) (by decide +kernel) rfl
theorem cf_X2_canNameRest : CalF yX2_canNameRest cX2_canNameRest 3 (some .boolean) 1 := ⟨mg (i := 811) (by decide +kernel) rfl, mg (i := 128) (by decide +kernel) rfl, ⟨by decide, by decide⟩, by decide +kernel, by decide⟩
theorem cv_X2_canNameRest : Cond.instanceMethod yX2_canNameRest ∈ lw_g ∧ Cond.selects yX2_canNameRest.cls yX2_canNameRest yX2_canNameRest ∈ lw_g := ⟨mg (i := 810) (by decide +kernel) rfl, mg (i := 25) (by decide +kernel) rfl⟩
theorem ml_RX2_49 : Cond.methodLink RX2 49 yX2_forgetNames ∈ lw_g := mg (i := 796) (by decide +kernel) rfl
theorem cf_X2_forgetNames : CalF yX2_forgetNames cX2_forgetNames 2 none 0 := ⟨mg (i := 799) (by decide +kernel) rfl, mg (i := 128) (by decide +kernel) rfl, ⟨by decide, by decide⟩, by decide +kernel, by decide⟩
theorem cv_X2_forgetNames : Cond.instanceMethod yX2_forgetNames ∈ lw_g ∧ Cond.selects yX2_forgetNames.cls yX2_forgetNames yX2_forgetNames ∈ lw_g := ⟨mg (i := 798) (by decide +kernel) rfl, mg (i := 22) (by decide +kernel) rfl⟩
theorem ml_RX2_52 : Cond.methodLink RX2 52 yX2_keepNamesBelow ∈ lw_g := mg (i := 800) (by decide +kernel) rfl
theorem cf_X2_keepNamesBelow : CalF yX2_keepNamesBelow cX2_keepNamesBelow 3 none 1 := ⟨mg (i := 803) (by decide +kernel) rfl, mg (i := 128) (by decide +kernel) rfl, ⟨by decide, by decide⟩, by decide +kernel, by decide⟩
theorem cv_X2_keepNamesBelow : Cond.instanceMethod yX2_keepNamesBelow ∈ lw_g ∧ Cond.selects yX2_keepNamesBelow.cls yX2_keepNamesBelow yX2_keepNamesBelow ∈ lw_g := ⟨mg (i := 802) (by decide +kernel) rfl, mg (i := 23) (by decide +kernel) rfl⟩
theorem ml_RX2_42 : Cond.methodLink RX2 42 yX2_take ∈ lw_g := mg (i := 792) (by decide +kernel) rfl
theorem cf_X2_take : CalF yX2_take cX2_take 4 none 1 := ⟨mg (i := 795) (by decide +kernel) rfl, mg (i := 128) (by decide +kernel) rfl, ⟨by decide, by decide⟩, by decide +kernel, by decide⟩
theorem cv_X2_take : Cond.instanceMethod yX2_take ∈ lw_g ∧ Cond.selects yX2_take.cls yX2_take yX2_take ∈ lw_g := ⟨mg (i := 794) (by decide +kernel) rfl, mg (i := 21) (by decide +kernel) rfl⟩
theorem ml_RX2_68 : Cond.methodLink RX2 68 yX6_rowTold ∈ lw_g := mg (i := 824) (by decide +kernel) rfl
theorem cf_X6_rowTold : CalF yX6_rowTold cX6_rowTold 2 (some .int) 2 := ⟨mg (i := 783) (by decide +kernel) rfl, mg (i := 127) (by decide +kernel) rfl, ⟨by decide, by decide⟩, by decide +kernel, by decide⟩
theorem cv_X6_rowTold : Cond.static yX6_rowTold ∈ lw_g := mg (i := 782) (by decide +kernel) rfl
theorem ml_RX2_64 : Cond.methodLink RX2 64 yX2_canTurn ∈ lw_g := mg (i := 820) (by decide +kernel) rfl
theorem cf_X2_canTurn : CalF yX2_canTurn cX2_canTurn 5 (some .boolean) 4 := ⟨mg (i := 823) (by decide +kernel) rfl, mg (i := 128) (by decide +kernel) rfl, ⟨by decide, by decide⟩, by decide +kernel, by decide⟩
theorem cv_X2_canTurn : Cond.instanceMethod yX2_canTurn ∈ lw_g ∧ Cond.selects yX2_canTurn.cls yX2_canTurn yX2_canTurn ∈ lw_g := ⟨mg (i := 822) (by decide +kernel) rfl, mg (i := 26) (by decide +kernel) rfl⟩
theorem fl_RX3_43 : Cond.fieldLink RX3 43 (TX3 9).1 (TX3 9).2.1 (TX3 9).2.2.1 ∈ lw_g := mg (i := 479) (by decide +kernel) rfl
theorem fl_RX3_60 : Cond.fieldLink RX3 60 (TX3 12).1 (TX3 12).2.1 (TX3 12).2.2.1 ∈ lw_g := mg (i := 489) (by decide +kernel) rfl
theorem ml_RX3_56 : Cond.methodLink RX3 56 yX3_refusalOf ∈ lw_g := mg (i := 584) (by decide +kernel) rfl
theorem cf_X3_refusalOf : CalF yX3_refusalOf cX3_refusalOf 5 (some .int) 3 := ⟨mg (i := 573) (by decide +kernel) rfl, mg (i := 138) (by decide +kernel) rfl, ⟨by decide, by decide⟩, by decide +kernel, by decide⟩
theorem cv_X3_refusalOf : Cond.instanceMethod yX3_refusalOf ∈ lw_g ∧ Cond.selects yX3_refusalOf.cls yX3_refusalOf yX3_refusalOf ∈ lw_g := ⟨mg (i := 571) (by decide +kernel) rfl, mg (i := 572) (by decide +kernel) rfl⟩
theorem fl_RX3_24 : Cond.fieldLink RX3 24 (TX3 5).1 (TX3 5).2.1 (TX3 5).2.2.1 ∈ lw_g := mg (i := 468) (by decide +kernel) rfl
theorem ml_RX3_63 : Cond.methodLink RX3 63 yX3_put ∈ lw_g := mg (i := 838) (by decide +kernel) rfl
theorem cf_X3_put : CalF yX3_put cX3_put 5 (some .int) 3 := ⟨mg (i := 583) (by decide +kernel) rfl, mg (i := 138) (by decide +kernel) rfl, ⟨by decide, by decide⟩, by decide +kernel, by decide⟩
theorem cv_X3_put : Cond.instanceMethod yX3_put ∈ lw_g ∧ Cond.selects yX3_put.cls yX3_put yX3_put ∈ lw_g := ⟨mg (i := 581) (by decide +kernel) rfl, mg (i := 582) (by decide +kernel) rfl⟩
