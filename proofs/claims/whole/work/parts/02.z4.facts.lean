theorem cv_X9_leastRounds : Cond.instanceMethod yX9_leastRounds ∈ lw_g ∧ Cond.selects yX9_leastRounds.cls yX9_leastRounds yX9_leastRounds ∈ lw_g := ⟨mg (i := 1494) (by decide +kernel) rfl, mg (i := 93) (by decide +kernel) rfl⟩
theorem fl_RX9_70 : Cond.fieldLink RX9 70 (TX9 20).1 (TX9 20).2.1 (TX9 20).2.2.1 ∈ lw_g := mg (i := 1148) (by decide +kernel) rfl
theorem fl_RX9_73 : Cond.fieldLink RX9 73 (TX9 21).1 (TX9 21).2.1 (TX9 21).2.2.1 ∈ lw_g := mg (i := 1149) (by decide +kernel) rfl
theorem fl_RX9_76 : Cond.fieldLink RX9 76 (TX9 22).1 (TX9 22).2.1 (TX9 22).2.2.1 ∈ lw_g := mg (i := 1150) (by decide +kernel) rfl
theorem fl_RX9_79 : Cond.fieldLink RX9 79 (TX9 23).1 (TX9 23).2.1 (TX9 23).2.2.1 ∈ lw_g := mg (i := 1151) (by decide +kernel) rfl
theorem ml_RX9_322 : Cond.methodLink RX9 322 yX9_look ∈ lw_g := mg (i := 1540) (by decide +kernel) rfl
theorem cf_X9_look : CalF yX9_look cX9_look 3 none 0 := ⟨mg (i := 1543) (by decide +kernel) rfl, mg (i := 140) (by decide +kernel) rfl, ⟨by decide, by decide⟩, by decide +kernel, by decide⟩
theorem cv_X9_look : Cond.instanceMethod yX9_look ∈ lw_g ∧ Cond.selects yX9_look.cls yX9_look yX9_look ∈ lw_g := ⟨mg (i := 1542) (by decide +kernel) rfl, mg (i := 103) (by decide +kernel) rfl⟩
theorem fl_RX9_82 : Cond.fieldLink RX9 82 (TX9 24).1 (TX9 24).2.1 (TX9 24).2.2.1 ∈ lw_g := mg (i := 1152) (by decide +kernel) rfl
theorem fl_RX9_85 : Cond.fieldLink RX9 85 (TX9 25).1 (TX9 25).2.1 (TX9 25).2.2.1 ∈ lw_g := mg (i := 1153) (by decide +kernel) rfl
theorem ml_RX9_325 : Cond.methodLink RX9 325 yX9_turn ∈ lw_g := mg (i := 1548) (by decide +kernel) rfl
theorem cf_X9_turn : CalF yX9_turn cX9_turn 3 none 1 := ⟨mg (i := 1551) (by decide +kernel) rfl, mg (i := 140) (by decide +kernel) rfl, ⟨by decide, by decide⟩, by decide +kernel, by decide⟩
theorem cv_X9_turn : Cond.instanceMethod yX9_turn ∈ lw_g ∧ Cond.selects yX9_turn.cls yX9_turn yX9_turn ∈ lw_g := ⟨mg (i := 1550) (by decide +kernel) rfl, mg (i := 104) (by decide +kernel) rfl⟩
theorem fl_RX9_101 : Cond.fieldLink RX9 101 (TX9 30).1 (TX9 30).2.1 (TX9 30).2.2.1 ∈ lw_g := mg (i := 1158) (by decide +kernel) rfl
theorem fl_RX9_104 : Cond.fieldLink RX9 104 (TX9 31).1 (TX9 31).2.1 (TX9 31).2.2.1 ∈ lw_g := mg (i := 1159) (by decide +kernel) rfl
theorem fl_RX9_92 : Cond.fieldLink RX9 92 (TX9 27).1 (TX9 27).2.1 (TX9 27).2.2.1 ∈ lw_g := mg (i := 1155) (by decide +kernel) rfl
theorem fl_RX9_88 : Cond.fieldLink RX9 88 (TX9 26).1 (TX9 26).2.1 (TX9 26).2.2.1 ∈ lw_g := mg (i := 1154) (by decide +kernel) rfl
theorem fl_RX9_116 : Cond.fieldLink RX9 116 (TX9 35).1 (TX9 35).2.1 (TX9 35).2.2.1 ∈ lw_g := mg (i := 1163) (by decide +kernel) rfl
theorem cn_RX9_329 : Cond.constantLong RX9 329 (31 : Int64) ∈ lw_g := mg (i := 1593) (by decide +kernel) rfl
theorem fl_RX9_107 : Cond.fieldLink RX9 107 (TX9 32).1 (TX9 32).2.1 (TX9 32).2.2.1 ∈ lw_g := mg (i := 1160) (by decide +kernel) rfl
theorem fl_RX9_113 : Cond.fieldLink RX9 113 (TX9 34).1 (TX9 34).2.1 (TX9 34).2.2.1 ∈ lw_g := mg (i := 1162) (by decide +kernel) rfl
theorem fl_RX9_110 : Cond.fieldLink RX9 110 (TX9 33).1 (TX9 33).2.1 (TX9 33).2.2.1 ∈ lw_g := mg (i := 1161) (by decide +kernel) rfl
theorem cn_RX9_350 : Cond.constantLong RX9 350 (7931013 : Int64) ∈ lw_g := mg (i := 1599) (by decide +kernel) rfl
theorem ml_RX9_336 : Cond.methodLink RX9 336 yX9_isWord ∈ lw_g := mg (i := 1589) (by decide +kernel) rfl
theorem cf_X9_isWord : CalF yX9_isWord cX9_isWord 6 (some .boolean) 1 := ⟨mg (i := 1592) (by decide +kernel) rfl, mg (i := 140) (by decide +kernel) rfl, ⟨by decide, by decide⟩, by decide +kernel, by decide⟩
theorem cv_X9_isWord : Cond.instanceMethod yX9_isWord ∈ lw_g ∧ Cond.selects yX9_isWord.cls yX9_isWord yX9_isWord ∈ lw_g := ⟨mg (i := 1591) (by decide +kernel) rfl, mg (i := 109) (by decide +kernel) rfl⟩
theorem cn_RX9_352 : Cond.constantLong RX9 352 (197938 : Int64) ∈ lw_g := mg (i := 1600) (by decide +kernel) rfl
theorem cn_RX9_354 : Cond.constantLong RX9 354 (498 : Int64) ∈ lw_g := mg (i := 1601) (by decide +kernel) rfl
theorem cn_RX9_356 : Cond.constantLong RX9 356 (1476 : Int64) ∈ lw_g := mg (i := 1602) (by decide +kernel) rfl
theorem cn_RX9_358 : Cond.constantLong RX9 358 (14836 : Int64) ∈ lw_g := mg (i := 1603) (by decide +kernel) rfl
theorem cn_RX9_334 : Cond.constantLong RX9 334 (24046 : Int64) ∈ lw_g := mg (i := 1588) (by decide +kernel) rfl
theorem cn_RX9_340 : Cond.constantLong RX9 340 (1420 : Int64) ∈ lw_g := mg (i := 1594) (by decide +kernel) rfl
theorem cn_RX9_342 : Cond.constantLong RX9 342 (13403133556 : Int64) ∈ lw_g := mg (i := 1595) (by decide +kernel) rfl
theorem cn_RX9_344 : Cond.constantLong RX9 344 (17912639667 : Int64) ∈ lw_g := mg (i := 1596) (by decide +kernel) rfl
theorem cn_RX9_346 : Cond.constantLong RX9 346 (755507 : Int64) ∈ lw_g := mg (i := 1597) (by decide +kernel) rfl
theorem cn_RX9_348 : Cond.constantLong RX9 348 (710362314995 : Int64) ∈ lw_g := mg (i := 1598) (by decide +kernel) rfl
theorem ml_RX9_331 : Cond.methodLink RX9 331 yX9_isLetter ∈ lw_g := mg (i := 1580) (by decide +kernel) rfl
theorem cf_X9_isLetter : CalF yX9_isLetter cX9_isLetter 2 (some .boolean) 1 := ⟨mg (i := 1583) (by decide +kernel) rfl, mg (i := 140) (by decide +kernel) rfl, ⟨by decide, by decide⟩, by decide +kernel, by decide⟩
theorem cv_X9_isLetter : Cond.instanceMethod yX9_isLetter ∈ lw_g ∧ Cond.selects yX9_isLetter.cls yX9_isLetter yX9_isLetter ∈ lw_g := ⟨mg (i := 1582) (by decide +kernel) rfl, mg (i := 107) (by decide +kernel) rfl⟩
theorem ml_RX9_363 : Cond.methodLink RX9 363 yX9_isDigit ∈ lw_g := mg (i := 1604) (by decide +kernel) rfl
theorem cf_X9_isDigit : CalF yX9_isDigit cX9_isDigit 2 (some .boolean) 1 := ⟨mg (i := 1607) (by decide +kernel) rfl, mg (i := 140) (by decide +kernel) rfl, ⟨by decide, by decide⟩, by decide +kernel, by decide⟩
theorem cv_X9_isDigit : Cond.instanceMethod yX9_isDigit ∈ lw_g ∧ Cond.selects yX9_isDigit.cls yX9_isDigit yX9_isDigit ∈ lw_g := ⟨mg (i := 1606) (by decide +kernel) rfl, mg (i := 110) (by decide +kernel) rfl⟩
theorem ml_RX9_360 : Cond.methodLink RX9 360 yX9_wordToken ∈ lw_g := mg (i := 1584) (by decide +kernel) rfl
theorem cf_X9_wordToken : CalF yX9_wordToken cX9_wordToken 1 none 0 := ⟨mg (i := 1587) (by decide +kernel) rfl, mg (i := 140) (by decide +kernel) rfl, ⟨by decide, by decide⟩, by decide +kernel, by decide⟩
theorem cv_X9_wordToken : Cond.instanceMethod yX9_wordToken ∈ lw_g ∧ Cond.selects yX9_wordToken.cls yX9_wordToken yX9_wordToken ∈ lw_g := ⟨mg (i := 1586) (by decide +kernel) rfl, mg (i := 108) (by decide +kernel) rfl⟩
theorem fl_RX9_134 : Cond.fieldLink RX9 134 (TX9 41).1 (TX9 41).2.1 (TX9 41).2.2.1 ∈ lw_g := mg (i := 1169) (by decide +kernel) rfl
theorem fl_RX9_131 : Cond.fieldLink RX9 131 (TX9 40).1 (TX9 40).2.1 (TX9 40).2.2.1 ∈ lw_g := mg (i := 1168) (by decide +kernel) rfl
theorem fl_RX9_125 : Cond.fieldLink RX9 125 (TX9 38).1 (TX9 38).2.1 (TX9 38).2.2.1 ∈ lw_g := mg (i := 1166) (by decide +kernel) rfl
theorem fl_RX9_119 : Cond.fieldLink RX9 119 (TX9 36).1 (TX9 36).2.1 (TX9 36).2.2.1 ∈ lw_g := mg (i := 1164) (by decide +kernel) rfl
theorem ml_RX9_366 : Cond.methodLink RX9 366 yX9_rank ∈ lw_g := mg (i := 1636) (by decide +kernel) rfl
theorem cf_X9_rank : CalF yX9_rank cX9_rank 2 (some .int) 1 := ⟨mg (i := 1639) (by decide +kernel) rfl, mg (i := 140) (by decide +kernel) rfl, ⟨by decide, by decide⟩, by decide +kernel, by decide⟩
theorem cv_X9_rank : Cond.instanceMethod yX9_rank ∈ lw_g ∧ Cond.selects yX9_rank.cls yX9_rank yX9_rank ∈ lw_g := ⟨mg (i := 1638) (by decide +kernel) rfl, mg (i := 118) (by decide +kernel) rfl⟩
theorem ml_RX9_369 : Cond.methodLink RX9 369 yX9_put ∈ lw_g := mg (i := 1628) (by decide +kernel) rfl
theorem cf_X9_put : CalF yX9_put cX9_put 2 none 1 := ⟨mg (i := 1631) (by decide +kernel) rfl, mg (i := 140) (by decide +kernel) rfl, ⟨by decide, by decide⟩, by decide +kernel, by decide⟩
theorem cv_X9_put : Cond.instanceMethod yX9_put ∈ lw_g ∧ Cond.selects yX9_put.cls yX9_put yX9_put ∈ lw_g := ⟨mg (i := 1630) (by decide +kernel) rfl, mg (i := 116) (by decide +kernel) rfl⟩
theorem ml_RX9_372 : Cond.methodLink RX9 372 yX9_isKey ∈ lw_g := mg (i := 1608) (by decide +kernel) rfl
theorem cf_X9_isKey : CalF yX9_isKey cX9_isKey 2 (some .boolean) 1 := ⟨mg (i := 1611) (by decide +kernel) rfl, mg (i := 140) (by decide +kernel) rfl, ⟨by decide, by decide⟩, by decide +kernel, by decide⟩
theorem cv_X9_isKey : Cond.instanceMethod yX9_isKey ∈ lw_g ∧ Cond.selects yX9_isKey.cls yX9_isKey yX9_isKey ∈ lw_g := ⟨mg (i := 1610) (by decide +kernel) rfl, mg (i := 111) (by decide +kernel) rfl⟩
theorem ml_RX9_375 : Cond.methodLink RX9 375 yX9_isSign ∈ lw_g := mg (i := 1620) (by decide +kernel) rfl
theorem cf_X9_isSign : CalF yX9_isSign cX9_isSign 2 (some .boolean) 1 := ⟨mg (i := 1623) (by decide +kernel) rfl, mg (i := 140) (by decide +kernel) rfl, ⟨by decide, by decide⟩, by decide +kernel, by decide⟩
theorem cv_X9_isSign : Cond.instanceMethod yX9_isSign ∈ lw_g ∧ Cond.selects yX9_isSign.cls yX9_isSign yX9_isSign ∈ lw_g := ⟨mg (i := 1622) (by decide +kernel) rfl, mg (i := 114) (by decide +kernel) rfl⟩
theorem ml_RX9_387 : Cond.methodLink RX9 387 yX9_next ∈ lw_g := mg (i := 1576) (by decide +kernel) rfl
theorem cf_X9_next : CalF yX9_next cX9_next 2 none 0 := ⟨mg (i := 1579) (by decide +kernel) rfl, mg (i := 140) (by decide +kernel) rfl, ⟨by decide, by decide⟩, by decide +kernel, by decide⟩
theorem cv_X9_next : Cond.instanceMethod yX9_next ∈ lw_g ∧ Cond.selects yX9_next.cls yX9_next yX9_next ∈ lw_g := ⟨mg (i := 1578) (by decide +kernel) rfl, mg (i := 106) (by decide +kernel) rfl⟩
theorem ml_RX9_384 : Cond.methodLink RX9 384 yX9_settle ∈ lw_g := mg (i := 1632) (by decide +kernel) rfl
theorem cf_X9_settle : CalF yX9_settle cX9_settle 2 none 1 := ⟨mg (i := 1635) (by decide +kernel) rfl, mg (i := 140) (by decide +kernel) rfl, ⟨by decide, by decide⟩, by decide +kernel, by decide⟩
theorem cv_X9_settle : Cond.instanceMethod yX9_settle ∈ lw_g ∧ Cond.selects yX9_settle.cls yX9_settle yX9_settle ∈ lw_g := ⟨mg (i := 1634) (by decide +kernel) rfl, mg (i := 117) (by decide +kernel) rfl⟩
theorem ml_RX9_381 : Cond.methodLink RX9 381 yX9_hold ∈ lw_g := mg (i := 1624) (by decide +kernel) rfl
theorem cf_X9_hold : CalF yX9_hold cX9_hold 2 none 1 := ⟨mg (i := 1627) (by decide +kernel) rfl, mg (i := 140) (by decide +kernel) rfl, ⟨by decide, by decide⟩, by decide +kernel, by decide⟩
theorem cv_X9_hold : Cond.instanceMethod yX9_hold ∈ lw_g ∧ Cond.selects yX9_hold.cls yX9_hold yX9_hold ∈ lw_g := ⟨mg (i := 1626) (by decide +kernel) rfl, mg (i := 115) (by decide +kernel) rfl⟩
theorem fl_RX9_122 : Cond.fieldLink RX9 122 (TX9 37).1 (TX9 37).2.1 (TX9 37).2.2.1 ∈ lw_g := mg (i := 1165) (by decide +kernel) rfl
theorem fl_RX9_128 : Cond.fieldLink RX9 128 (TX9 39).1 (TX9 39).2.1 (TX9 39).2.2.1 ∈ lw_g := mg (i := 1167) (by decide +kernel) rfl
theorem ml_RX9_390 : Cond.methodLink RX9 390 yX9_signOf ∈ lw_g := mg (i := 1640) (by decide +kernel) rfl
theorem cf_X9_signOf : CalF yX9_signOf cX9_signOf 1 (some .int) 0 := ⟨mg (i := 1643) (by decide +kernel) rfl, mg (i := 140) (by decide +kernel) rfl, ⟨by decide, by decide⟩, by decide +kernel, by decide⟩
theorem cv_X9_signOf : Cond.instanceMethod yX9_signOf ∈ lw_g ∧ Cond.selects yX9_signOf.cls yX9_signOf yX9_signOf ∈ lw_g := ⟨mg (i := 1642) (by decide +kernel) rfl, mg (i := 119) (by decide +kernel) rfl⟩
theorem ml_RX9_378 : Cond.methodLink RX9 378 yX9_ahead ∈ lw_g := mg (i := 1616) (by decide +kernel) rfl
theorem cf_X9_ahead : CalF yX9_ahead cX9_ahead 2 (some .boolean) 1 := ⟨mg (i := 1619) (by decide +kernel) rfl, mg (i := 140) (by decide +kernel) rfl, ⟨by decide, by decide⟩, by decide +kernel, by decide⟩
theorem cv_X9_ahead : Cond.instanceMethod yX9_ahead ∈ lw_g ∧ Cond.selects yX9_ahead.cls yX9_ahead yX9_ahead ∈ lw_g := ⟨mg (i := 1618) (by decide +kernel) rfl, mg (i := 113) (by decide +kernel) rfl⟩
theorem fl_RX9_95 : Cond.fieldLink RX9 95 (TX9 28).1 (TX9 28).2.1 (TX9 28).2.2.1 ∈ lw_g := mg (i := 1156) (by decide +kernel) rfl
theorem ml_RX9_393 : Cond.methodLink RX9 393 yX9_part ∈ lw_g := mg (i := 1612) (by decide +kernel) rfl
theorem cf_X9_part : CalF yX9_part cX9_part 4 (some .boolean) 0 := ⟨mg (i := 1615) (by decide +kernel) rfl, mg (i := 140) (by decide +kernel) rfl, ⟨by decide, by decide⟩, by decide +kernel, by decide⟩
theorem cv_X9_part : Cond.instanceMethod yX9_part ∈ lw_g ∧ Cond.selects yX9_part.cls yX9_part yX9_part ∈ lw_g := ⟨mg (i := 1614) (by decide +kernel) rfl, mg (i := 112) (by decide +kernel) rfl⟩
theorem ml_RX9_397 : Cond.methodLink RX9 397 yX9_isText ∈ lw_g := mg (i := 1572) (by decide +kernel) rfl
theorem cf_X9_isText : CalF yX9_isText cX9_isText 2 (some .boolean) 0 := ⟨mg (i := 1575) (by decide +kernel) rfl, mg (i := 140) (by decide +kernel) rfl, ⟨by decide, by decide⟩, by decide +kernel, by decide⟩
theorem cv_X9_isText : Cond.instanceMethod yX9_isText ∈ lw_g ∧ Cond.selects yX9_isText.cls yX9_isText yX9_isText ∈ lw_g := ⟨mg (i := 1574) (by decide +kernel) rfl, mg (i := 105) (by decide +kernel) rfl⟩
theorem fl_RX9_98 : Cond.fieldLink RX9 98 (TX9 29).1 (TX9 29).2.1 (TX9 29).2.2.1 ∈ lw_g := mg (i := 1157) (by decide +kernel) rfl
theorem ml_RX9_403 : Cond.methodLink RX9 403 yX9_turnings ∈ lw_g := mg (i := 1661) (by decide +kernel) rfl
theorem cf_X9_turnings : CalF yX9_turnings cX9_turnings 3 (some .int) 0 := ⟨mg (i := 1439) (by decide +kernel) rfl, mg (i := 140) (by decide +kernel) rfl, ⟨by decide, by decide⟩, by decide +kernel, by decide⟩
theorem cv_X9_turnings : Cond.instanceMethod yX9_turnings ∈ lw_g ∧ Cond.selects yX9_turnings.cls yX9_turnings yX9_turnings ∈ lw_g := ⟨mg (i := 1437) (by decide +kernel) rfl, mg (i := 1438) (by decide +kernel) rfl⟩
theorem ml_RX9_400 : Cond.methodLink RX9 400 yX9_puzzles ∈ lw_g := mg (i := 1657) (by decide +kernel) rfl
theorem cf_X9_puzzles : CalF yX9_puzzles cX9_puzzles 3 (some .int) 0 := ⟨mg (i := 1660) (by decide +kernel) rfl, mg (i := 140) (by decide +kernel) rfl, ⟨by decide, by decide⟩, by decide +kernel, by decide⟩
theorem cv_X9_puzzles : Cond.instanceMethod yX9_puzzles ∈ lw_g ∧ Cond.selects yX9_puzzles.cls yX9_puzzles yX9_puzzles ∈ lw_g := ⟨mg (i := 1659) (by decide +kernel) rfl, mg (i := 121) (by decide +kernel) rfl⟩
theorem fl_RX9_137 : Cond.fieldLink RX9 137 (TX9 42).1 (TX9 42).2.1 (TX9 42).2.2.1 ∈ lw_g := mg (i := 1170) (by decide +kernel) rfl
theorem ml_RX9_410 : Cond.methodLink RX9 410 yX9_both ∈ lw_g := mg (i := 1662) (by decide +kernel) rfl
theorem cf_X9_both : CalF yX9_both cX9_both 4 (some .int) 3 := ⟨mg (i := 1665) (by decide +kernel) rfl, mg (i := 140) (by decide +kernel) rfl, ⟨by decide, by decide⟩, by decide +kernel, by decide⟩
theorem cv_X9_both : Cond.instanceMethod yX9_both ∈ lw_g ∧ Cond.selects yX9_both.cls yX9_both yX9_both ∈ lw_g := ⟨mg (i := 1664) (by decide +kernel) rfl, mg (i := 122) (by decide +kernel) rfl⟩
theorem ml_RX9_408 : Cond.methodLink RX9 408 yX9_named ∈ lw_g := mg (i := 1653) (by decide +kernel) rfl
theorem cf_X9_named : CalF yX9_named cX9_named 2 (some .int) 1 := ⟨mg (i := 1656) (by decide +kernel) rfl, mg (i := 140) (by decide +kernel) rfl, ⟨by decide, by decide⟩, by decide +kernel, by decide⟩
theorem cv_X9_named : Cond.instanceMethod yX9_named ∈ lw_g ∧ Cond.selects yX9_named.cls yX9_named yX9_named ∈ lw_g := ⟨mg (i := 1655) (by decide +kernel) rfl, mg (i := 120) (by decide +kernel) rfl⟩
theorem cn_RX9_406 : Cond.constantLong RX9 406 (-4611686018427387904 : Int64) ∈ lw_g := mg (i := 1652) (by decide +kernel) rfl
theorem fl_RX9_146 : Cond.fieldLink RX9 146 (TX9 45).1 (TX9 45).2.1 (TX9 45).2.2.1 ∈ lw_g := mg (i := 1173) (by decide +kernel) rfl
theorem fl_RX9_140 : Cond.fieldLink RX9 140 (TX9 43).1 (TX9 43).2.1 (TX9 43).2.2.1 ∈ lw_g := mg (i := 1171) (by decide +kernel) rfl
theorem fl_RX9_143 : Cond.fieldLink RX9 143 (TX9 44).1 (TX9 44).2.1 (TX9 44).2.2.1 ∈ lw_g := mg (i := 1172) (by decide +kernel) rfl
theorem ml_RX9_413 : Cond.methodLink RX9 413 yX9_isSheet ∈ lw_g := mg (i := 1674) (by decide +kernel) rfl
theorem cf_X9_isSheet : CalF yX9_isSheet cX9_isSheet 2 (some .boolean) 1 := ⟨mg (i := 1677) (by decide +kernel) rfl, mg (i := 140) (by decide +kernel) rfl, ⟨by decide, by decide⟩, by decide +kernel, by decide⟩
theorem cv_X9_isSheet : Cond.instanceMethod yX9_isSheet ∈ lw_g ∧ Cond.selects yX9_isSheet.cls yX9_isSheet yX9_isSheet ∈ lw_g := ⟨mg (i := 1676) (by decide +kernel) rfl, mg (i := 123) (by decide +kernel) rfl⟩
theorem ml_RX9_416 : Cond.methodLink RX9 416 yX9_way ∈ lw_g := mg (i := 1686) (by decide +kernel) rfl
theorem cf_X9_way : CalF yX9_way cX9_way 4 (some .int) 3 := ⟨mg (i := 1270) (by decide +kernel) rfl, mg (i := 140) (by decide +kernel) rfl, ⟨by decide, by decide⟩, by decide +kernel, by decide⟩
theorem cv_X9_way : Cond.instanceMethod yX9_way ∈ lw_g ∧ Cond.selects yX9_way.cls yX9_way yX9_way ∈ lw_g := ⟨mg (i := 1268) (by decide +kernel) rfl, mg (i := 1269) (by decide +kernel) rfl⟩
theorem ml_RX9_419 : Cond.methodLink RX9 419 yX9_isUnder ∈ lw_g := mg (i := 1691) (by decide +kernel) rfl
theorem cf_X9_isUnder : CalF yX9_isUnder cX9_isUnder 3 (some .boolean) 2 := ⟨mg (i := 1694) (by decide +kernel) rfl, mg (i := 140) (by decide +kernel) rfl, ⟨by decide, by decide⟩, by decide +kernel, by decide⟩
theorem cv_X9_isUnder : Cond.instanceMethod yX9_isUnder ∈ lw_g ∧ Cond.selects yX9_isUnder.cls yX9_isUnder yX9_isUnder ∈ lw_g := ⟨mg (i := 1693) (by decide +kernel) rfl, mg (i := 124) (by decide +kernel) rfl⟩
