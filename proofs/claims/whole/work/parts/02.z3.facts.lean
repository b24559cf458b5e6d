theorem fl_RX9_26 : Cond.fieldLink RX9 26 (TX9 6).1 (TX9 6).2.1 (TX9 6).2.2.1 ∈ lw_g := mg (i := 1134) (by decide +kernel) rfl
theorem ml_RX9_170 : Cond.methodLink RX9 170 yX9_changed ∈ lw_g := mg (i := 1287) (by decide +kernel) rfl
theorem cf_X9_changed : CalF yX9_changed cX9_changed 1 none 0 := ⟨mg (i := 1290) (by decide +kernel) rfl, mg (i := 140) (by decide +kernel) rfl, ⟨by decide, by decide⟩, by decide +kernel, by decide⟩
theorem cv_X9_changed : Cond.instanceMethod yX9_changed ∈ lw_g ∧ Cond.selects yX9_changed.cls yX9_changed yX9_changed ∈ lw_g := ⟨mg (i := 1289) (by decide +kernel) rfl, mg (i := 56) (by decide +kernel) rfl⟩
theorem ml_RX9_163 : Cond.methodLink RX9 163 yX9_isPlace ∈ lw_g := mg (i := 1275) (by decide +kernel) rfl
theorem cf_X9_isPlace : CalF yX9_isPlace cX9_isPlace 2 (some .boolean) 1 := ⟨mg (i := 1278) (by decide +kernel) rfl, mg (i := 140) (by decide +kernel) rfl, ⟨by decide, by decide⟩, by decide +kernel, by decide⟩
theorem cv_X9_isPlace : Cond.instanceMethod yX9_isPlace ∈ lw_g ∧ Cond.selects yX9_isPlace.cls yX9_isPlace yX9_isPlace ∈ lw_g := ⟨mg (i := 1277) (by decide +kernel) rfl, mg (i := 53) (by decide +kernel) rfl⟩
theorem ml_RX9_166 : Cond.methodLink RX9 166 yX9_shutters ∈ lw_g := mg (i := 1283) (by decide +kernel) rfl
theorem cf_X9_shutters : CalF yX9_shutters cX9_shutters 3 (some .int) 0 := ⟨mg (i := 1286) (by decide +kernel) rfl, mg (i := 140) (by decide +kernel) rfl, ⟨by decide, by decide⟩, by decide +kernel, by decide⟩
theorem cv_X9_shutters : Cond.instanceMethod yX9_shutters ∈ lw_g ∧ Cond.selects yX9_shutters.cls yX9_shutters yX9_shutters ∈ lw_g := ⟨mg (i := 1285) (by decide +kernel) rfl, mg (i := 55) (by decide +kernel) rfl⟩
theorem ml_RX9_177 : Cond.methodLink RX9 177 yX9_shutFor ∈ lw_g := mg (i := 1303) (by decide +kernel) rfl
theorem cf_X9_shutFor : CalF yX9_shutFor cX9_shutFor 2 (some .int) 1 := ⟨mg (i := 1306) (by decide +kernel) rfl, mg (i := 140) (by decide +kernel) rfl, ⟨by decide, by decide⟩, by decide +kernel, by decide⟩
theorem cv_X9_shutFor : Cond.instanceMethod yX9_shutFor ∈ lw_g ∧ Cond.selects yX9_shutFor.cls yX9_shutFor yX9_shutFor ∈ lw_g := ⟨mg (i := 1305) (by decide +kernel) rfl, mg (i := 58) (by decide +kernel) rfl⟩
theorem ml_RX9_173 : Cond.methodLink RX9 173 yX9_shutterOf ∈ lw_g := mg (i := 1299) (by decide +kernel) rfl
theorem cf_X9_shutterOf : CalF yX9_shutterOf cX9_shutterOf 4 (some .int) 1 := ⟨mg (i := 1302) (by decide +kernel) rfl, mg (i := 140) (by decide +kernel) rfl, ⟨by decide, by decide⟩, by decide +kernel, by decide⟩
theorem cv_X9_shutterOf : Cond.instanceMethod yX9_shutterOf ∈ lw_g ∧ Cond.selects yX9_shutterOf.cls yX9_shutterOf yX9_shutterOf ∈ lw_g := ⟨mg (i := 1301) (by decide +kernel) rfl, mg (i := 57) (by decide +kernel) rfl⟩
theorem fl_RX9_33 : Cond.fieldLink RX9 33 (TX9 8).1 (TX9 8).2.1 (TX9 8).2.2.1 ∈ lw_g := mg (i := 1136) (by decide +kernel) rfl
theorem fl_RX9_29 : Cond.fieldLink RX9 29 (TX9 7).1 (TX9 7).2.1 (TX9 7).2.2.1 ∈ lw_g := mg (i := 1135) (by decide +kernel) rfl
theorem fl_RX9_16 : Cond.fieldLink RX9 16 (TX9 3).1 (TX9 3).2.1 (TX9 3).2.2.1 ∈ lw_g := mg (i := 1131) (by decide +kernel) rfl
theorem fl_RX9_13 : Cond.fieldLink RX9 13 (TX9 2).1 (TX9 2).2.1 (TX9 2).2.2.1 ∈ lw_g := mg (i := 1130) (by decide +kernel) rfl
theorem ml_RX9_180 : Cond.methodLink RX9 180 yX9_standing ∈ lw_g := mg (i := 1331) (by decide +kernel) rfl
theorem cf_X9_standing : CalF yX9_standing cX9_standing 6 (some .int) 5 := ⟨mg (i := 1334) (by decide +kernel) rfl, mg (i := 140) (by decide +kernel) rfl, ⟨by decide, by decide⟩, by decide +kernel, by decide⟩
theorem cv_X9_standing : Cond.instanceMethod yX9_standing ∈ lw_g ∧ Cond.selects yX9_standing.cls yX9_standing yX9_standing ∈ lw_g := ⟨mg (i := 1333) (by decide +kernel) rfl, mg (i := 62) (by decide +kernel) rfl⟩
theorem ml_RX9_184 : Cond.methodLink RX9 184 yX9_leads ∈ lw_g := mg (i := 1387) (by decide +kernel) rfl
theorem cf_X9_leads : CalF yX9_leads cX9_leads 3 (some .int) 2 := ⟨mg (i := 1390) (by decide +kernel) rfl, mg (i := 140) (by decide +kernel) rfl, ⟨by decide, by decide⟩, by decide +kernel, by decide⟩
theorem cv_X9_leads : Cond.instanceMethod yX9_leads ∈ lw_g ∧ Cond.selects yX9_leads.cls yX9_leads yX9_leads ∈ lw_g := ⟨mg (i := 1389) (by decide +kernel) rfl, mg (i := 76) (by decide +kernel) rfl⟩
theorem ml_RX9_188 : Cond.methodLink RX9 188 yX9_isOpen ∈ lw_g := mg (i := 1391) (by decide +kernel) rfl
theorem cf_X9_isOpen : CalF yX9_isOpen cX9_isOpen 4 (some .boolean) 2 := ⟨mg (i := 1394) (by decide +kernel) rfl, mg (i := 140) (by decide +kernel) rfl, ⟨by decide, by decide⟩, by decide +kernel, by decide⟩
theorem cv_X9_isOpen : Cond.instanceMethod yX9_isOpen ∈ lw_g ∧ Cond.selects yX9_isOpen.cls yX9_isOpen yX9_isOpen ∈ lw_g := ⟨mg (i := 1393) (by decide +kernel) rfl, mg (i := 77) (by decide +kernel) rfl⟩
theorem ml_RX9_192 : Cond.methodLink RX9 192 yX9_isBeside ∈ lw_g := mg (i := 1395) (by decide +kernel) rfl
theorem cf_X9_isBeside : CalF yX9_isBeside cX9_isBeside 5 (some .boolean) 2 := ⟨mg (i := 1398) (by decide +kernel) rfl, mg (i := 140) (by decide +kernel) rfl, ⟨by decide, by decide⟩, by decide +kernel, by decide⟩
theorem cv_X9_isBeside : Cond.instanceMethod yX9_isBeside ∈ lw_g ∧ Cond.selects yX9_isBeside.cls yX9_isBeside yX9_isBeside ∈ lw_g := ⟨mg (i := 1397) (by decide +kernel) rfl, mg (i := 78) (by decide +kernel) rfl⟩
theorem ml_RX9_210 : Cond.methodLink RX9 210 yX9_shutBehind ∈ lw_g := mg (i := 1379) (by decide +kernel) rfl
theorem cf_X9_shutBehind : CalF yX9_shutBehind cX9_shutBehind 6 (some .int) 2 := ⟨mg (i := 1382) (by decide +kernel) rfl, mg (i := 140) (by decide +kernel) rfl, ⟨by decide, by decide⟩, by decide +kernel, by decide⟩
theorem cv_X9_shutBehind : Cond.instanceMethod yX9_shutBehind ∈ lw_g ∧ Cond.selects yX9_shutBehind.cls yX9_shutBehind yX9_shutBehind ∈ lw_g := ⟨mg (i := 1381) (by decide +kernel) rfl, mg (i := 74) (by decide +kernel) rfl⟩
theorem ml_RX9_217 : Cond.methodLink RX9 217 yX9_sorted ∈ lw_g := mg (i := 1327) (by decide +kernel) rfl
theorem cf_X9_sorted : CalF yX9_sorted cX9_sorted 6 (some .int) 5 := ⟨mg (i := 1330) (by decide +kernel) rfl, mg (i := 140) (by decide +kernel) rfl, ⟨by decide, by decide⟩, by decide +kernel, by decide⟩
theorem cv_X9_sorted : Cond.instanceMethod yX9_sorted ∈ lw_g ∧ Cond.selects yX9_sorted.cls yX9_sorted yX9_sorted ∈ lw_g := ⟨mg (i := 1329) (by decide +kernel) rfl, mg (i := 61) (by decide +kernel) rfl⟩
theorem ml_RX9_195 : Cond.methodLink RX9 195 yX9_firstOf ∈ lw_g := mg (i := 1343) (by decide +kernel) rfl
theorem cf_X9_firstOf : CalF yX9_firstOf cX9_firstOf 2 (some .int) 1 := ⟨mg (i := 1346) (by decide +kernel) rfl, mg (i := 140) (by decide +kernel) rfl, ⟨by decide, by decide⟩, by decide +kernel, by decide⟩
theorem cv_X9_firstOf : Cond.instanceMethod yX9_firstOf ∈ lw_g ∧ Cond.selects yX9_firstOf.cls yX9_firstOf yX9_firstOf ∈ lw_g := ⟨mg (i := 1345) (by decide +kernel) rfl, mg (i := 65) (by decide +kernel) rfl⟩
theorem ml_RX9_198 : Cond.methodLink RX9 198 yX9_secondOf ∈ lw_g := mg (i := 1347) (by decide +kernel) rfl
theorem cf_X9_secondOf : CalF yX9_secondOf cX9_secondOf 2 (some .int) 1 := ⟨mg (i := 1350) (by decide +kernel) rfl, mg (i := 140) (by decide +kernel) rfl, ⟨by decide, by decide⟩, by decide +kernel, by decide⟩
theorem cv_X9_secondOf : Cond.instanceMethod yX9_secondOf ∈ lw_g ∧ Cond.selects yX9_secondOf.cls yX9_secondOf yX9_secondOf ∈ lw_g := ⟨mg (i := 1349) (by decide +kernel) rfl, mg (i := 66) (by decide +kernel) rfl⟩
theorem ml_RX9_201 : Cond.methodLink RX9 201 yX9_runnerOf ∈ lw_g := mg (i := 1351) (by decide +kernel) rfl
theorem cf_X9_runnerOf : CalF yX9_runnerOf cX9_runnerOf 2 (some .int) 1 := ⟨mg (i := 1354) (by decide +kernel) rfl, mg (i := 140) (by decide +kernel) rfl, ⟨by decide, by decide⟩, by decide +kernel, by decide⟩
theorem cv_X9_runnerOf : Cond.instanceMethod yX9_runnerOf ∈ lw_g ∧ Cond.selects yX9_runnerOf.cls yX9_runnerOf yX9_runnerOf ∈ lw_g := ⟨mg (i := 1353) (by decide +kernel) rfl, mg (i := 67) (by decide +kernel) rfl⟩
theorem ml_RX9_204 : Cond.methodLink RX9 204 yX9_shutOf ∈ lw_g := mg (i := 1355) (by decide +kernel) rfl
theorem cf_X9_shutOf : CalF yX9_shutOf cX9_shutOf 2 (some .int) 1 := ⟨mg (i := 1358) (by decide +kernel) rfl, mg (i := 140) (by decide +kernel) rfl, ⟨by decide, by decide⟩, by decide +kernel, by decide⟩
theorem cv_X9_shutOf : Cond.instanceMethod yX9_shutOf ∈ lw_g ∧ Cond.selects yX9_shutOf.cls yX9_shutOf yX9_shutOf ∈ lw_g := ⟨mg (i := 1357) (by decide +kernel) rfl, mg (i := 68) (by decide +kernel) rfl⟩
theorem ml_RX9_207 : Cond.methodLink RX9 207 yX9_turnOf ∈ lw_g := mg (i := 1367) (by decide +kernel) rfl
theorem cf_X9_turnOf : CalF yX9_turnOf cX9_turnOf 2 (some .int) 1 := ⟨mg (i := 1370) (by decide +kernel) rfl, mg (i := 140) (by decide +kernel) rfl, ⟨by decide, by decide⟩, by decide +kernel, by decide⟩
theorem cv_X9_turnOf : Cond.instanceMethod yX9_turnOf ∈ lw_g ∧ Cond.selects yX9_turnOf.cls yX9_turnOf yX9_turnOf ∈ lw_g := ⟨mg (i := 1369) (by decide +kernel) rfl, mg (i := 71) (by decide +kernel) rfl⟩
theorem ml_RX9_213 : Cond.methodLink RX9 213 yX9_mayRun ∈ lw_g := mg (i := 1383) (by decide +kernel) rfl
theorem cf_X9_mayRun : CalF yX9_mayRun cX9_mayRun 6 (some .boolean) 5 := ⟨mg (i := 1386) (by decide +kernel) rfl, mg (i := 140) (by decide +kernel) rfl, ⟨by decide, by decide⟩, by decide +kernel, by decide⟩
theorem cv_X9_mayRun : Cond.instanceMethod yX9_mayRun ∈ lw_g ∧ Cond.selects yX9_mayRun.cls yX9_mayRun yX9_mayRun ∈ lw_g := ⟨mg (i := 1385) (by decide +kernel) rfl, mg (i := 75) (by decide +kernel) rfl⟩
theorem ml_RX9_220 : Cond.methodLink RX9 220 yX9_behind ∈ lw_g := mg (i := 1375) (by decide +kernel) rfl
theorem cf_X9_behind : CalF yX9_behind cX9_behind 10 (some .int) 2 := ⟨mg (i := 1378) (by decide +kernel) rfl, mg (i := 140) (by decide +kernel) rfl, ⟨by decide, by decide⟩, by decide +kernel, by decide⟩
theorem cv_X9_behind : Cond.instanceMethod yX9_behind ∈ lw_g ∧ Cond.selects yX9_behind.cls yX9_behind yX9_behind ∈ lw_g := ⟨mg (i := 1377) (by decide +kernel) rfl, mg (i := 73) (by decide +kernel) rfl⟩
theorem ml_RX9_223 : Cond.methodLink RX9 223 yX9_isTaken ∈ lw_g := mg (i := 1363) (by decide +kernel) rfl
theorem cf_X9_isTaken : CalF yX9_isTaken cX9_isTaken 2 (some .boolean) 1 := ⟨mg (i := 1366) (by decide +kernel) rfl, mg (i := 140) (by decide +kernel) rfl, ⟨by decide, by decide⟩, by decide +kernel, by decide⟩
theorem cv_X9_isTaken : Cond.instanceMethod yX9_isTaken ∈ lw_g ∧ Cond.selects yX9_isTaken.cls yX9_isTaken yX9_isTaken ∈ lw_g := ⟨mg (i := 1365) (by decide +kernel) rfl, mg (i := 70) (by decide +kernel) rfl⟩
theorem ml_RX9_226 : Cond.methodLink RX9 226 yX9_movesOf ∈ lw_g := mg (i := 1371) (by decide +kernel) rfl
theorem cf_X9_movesOf : CalF yX9_movesOf cX9_movesOf 4 (some .int) 1 := ⟨mg (i := 1374) (by decide +kernel) rfl, mg (i := 140) (by decide +kernel) rfl, ⟨by decide, by decide⟩, by decide +kernel, by decide⟩
theorem cv_X9_movesOf : Cond.instanceMethod yX9_movesOf ∈ lw_g ∧ Cond.selects yX9_movesOf.cls yX9_movesOf yX9_movesOf ∈ lw_g := ⟨mg (i := 1373) (by decide +kernel) rfl, mg (i := 72) (by decide +kernel) rfl⟩
theorem ml_RX9_229 : Cond.methodLink RX9 229 yX9_isShutRight ∈ lw_g := mg (i := 1323) (by decide +kernel) rfl
theorem cf_X9_isShutRight : CalF yX9_isShutRight cX9_isShutRight 2 (some .boolean) 1 := ⟨mg (i := 1326) (by decide +kernel) rfl, mg (i := 140) (by decide +kernel) rfl, ⟨by decide, by decide⟩, by decide +kernel, by decide⟩
theorem cv_X9_isShutRight : Cond.instanceMethod yX9_isShutRight ∈ lw_g ∧ Cond.selects yX9_isShutRight.cls yX9_isShutRight yX9_isShutRight ∈ lw_g := ⟨mg (i := 1325) (by decide +kernel) rfl, mg (i := 60) (by decide +kernel) rfl⟩
theorem fl_RX9_40 : Cond.fieldLink RX9 40 (TX9 10).1 (TX9 10).2.1 (TX9 10).2.2.1 ∈ lw_g := mg (i := 1138) (by decide +kernel) rfl
theorem fl_RX9_43 : Cond.fieldLink RX9 43 (TX9 11).1 (TX9 11).2.1 (TX9 11).2.2.1 ∈ lw_g := mg (i := 1139) (by decide +kernel) rfl
theorem ml_RX9_232 : Cond.methodLink RX9 232 yX9_isOne ∈ lw_g := mg (i := 1339) (by decide +kernel) rfl
theorem cf_X9_isOne : CalF yX9_isOne cX9_isOne 2 (some .boolean) 1 := ⟨mg (i := 1342) (by decide +kernel) rfl, mg (i := 140) (by decide +kernel) rfl, ⟨by decide, by decide⟩, by decide +kernel, by decide⟩
theorem cv_X9_isOne : Cond.instanceMethod yX9_isOne ∈ lw_g ∧ Cond.selects yX9_isOne.cls yX9_isOne yX9_isOne ∈ lw_g := ⟨mg (i := 1341) (by decide +kernel) rfl, mg (i := 64) (by decide +kernel) rfl⟩
theorem ml_RX9_238 : Cond.methodLink RX9 238 yX9_isOf ∈ lw_g := mg (i := 1399) (by decide +kernel) rfl
theorem cf_X9_isOf : CalF yX9_isOf cX9_isOf 7 (some .boolean) 2 := ⟨mg (i := 1402) (by decide +kernel) rfl, mg (i := 140) (by decide +kernel) rfl, ⟨by decide, by decide⟩, by decide +kernel, by decide⟩
theorem cv_X9_isOf : Cond.instanceMethod yX9_isOf ∈ lw_g ∧ Cond.selects yX9_isOf.cls yX9_isOf yX9_isOf ∈ lw_g := ⟨mg (i := 1401) (by decide +kernel) rfl, mg (i := 79) (by decide +kernel) rfl⟩
theorem ml_RX9_235 : Cond.methodLink RX9 235 yX9_isCaught ∈ lw_g := mg (i := 1359) (by decide +kernel) rfl
theorem cf_X9_isCaught : CalF yX9_isCaught cX9_isCaught 2 (some .boolean) 1 := ⟨mg (i := 1362) (by decide +kernel) rfl, mg (i := 140) (by decide +kernel) rfl, ⟨by decide, by decide⟩, by decide +kernel, by decide⟩
theorem cv_X9_isCaught : Cond.instanceMethod yX9_isCaught ∈ lw_g ∧ Cond.selects yX9_isCaught.cls yX9_isCaught yX9_isCaught ∈ lw_g := ⟨mg (i := 1361) (by decide +kernel) rfl, mg (i := 69) (by decide +kernel) rfl⟩
theorem ml_RX9_241 : Cond.methodLink RX9 241 yX9_standingOf ∈ lw_g := mg (i := 1319) (by decide +kernel) rfl
theorem cf_X9_standingOf : CalF yX9_standingOf cX9_standingOf 7 (some .int) 5 := ⟨mg (i := 1322) (by decide +kernel) rfl, mg (i := 140) (by decide +kernel) rfl, ⟨by decide, by decide⟩, by decide +kernel, by decide⟩
theorem cv_X9_standingOf : Cond.instanceMethod yX9_standingOf ∈ lw_g ∧ Cond.selects yX9_standingOf.cls yX9_standingOf yX9_standingOf ∈ lw_g := ⟨mg (i := 1321) (by decide +kernel) rfl, mg (i := 59) (by decide +kernel) rfl⟩
theorem ml_RX9_244 : Cond.methodLink RX9 244 yX9_solve ∈ lw_g := mg (i := 1335) (by decide +kernel) rfl
theorem cf_X9_solve : CalF yX9_solve cX9_solve 4 none 0 := ⟨mg (i := 1338) (by decide +kernel) rfl, mg (i := 140) (by decide +kernel) rfl, ⟨by decide, by decide⟩, by decide +kernel, by decide⟩
theorem cv_X9_solve : Cond.instanceMethod yX9_solve ∈ lw_g ∧ Cond.selects yX9_solve.cls yX9_solve yX9_solve ∈ lw_g := ⟨mg (i := 1337) (by decide +kernel) rfl, mg (i := 63) (by decide +kernel) rfl⟩
theorem cn_RX9_247 : Cond.constant RX9 247 (100000 : Int32) ∈ lw_g := mg (i := 1411) (by decide +kernel) rfl
theorem ml_RX9_248 : Cond.methodLink RX9 248 yX9_bestOf ∈ lw_g := mg (i := 1407) (by decide +kernel) rfl
theorem cf_X9_bestOf : CalF yX9_bestOf cX9_bestOf 8 (some .int) 1 := ⟨mg (i := 1410) (by decide +kernel) rfl, mg (i := 140) (by decide +kernel) rfl, ⟨by decide, by decide⟩, by decide +kernel, by decide⟩
theorem cv_X9_bestOf : Cond.instanceMethod yX9_bestOf ∈ lw_g ∧ Cond.selects yX9_bestOf.cls yX9_bestOf yX9_bestOf ∈ lw_g := ⟨mg (i := 1409) (by decide +kernel) rfl, mg (i := 80) (by decide +kernel) rfl⟩
theorem ml_RX9_251 : Cond.methodLink RX9 251 yX9_counts ∈ lw_g := mg (i := 1424) (by decide +kernel) rfl
theorem cf_X9_counts : CalF yX9_counts cX9_counts 2 (some .boolean) 1 := ⟨mg (i := 1427) (by decide +kernel) rfl, mg (i := 140) (by decide +kernel) rfl, ⟨by decide, by decide⟩, by decide +kernel, by decide⟩
theorem cv_X9_counts : Cond.instanceMethod yX9_counts ∈ lw_g ∧ Cond.selects yX9_counts.cls yX9_counts yX9_counts ∈ lw_g := ⟨mg (i := 1426) (by decide +kernel) rfl, mg (i := 82) (by decide +kernel) rfl⟩
theorem ml_RX9_254 : Cond.methodLink RX9 254 yX9_solvedOf ∈ lw_g := mg (i := 1420) (by decide +kernel) rfl
theorem cf_X9_solvedOf : CalF yX9_solvedOf cX9_solvedOf 4 (some .int) 1 := ⟨mg (i := 1423) (by decide +kernel) rfl, mg (i := 140) (by decide +kernel) rfl, ⟨by decide, by decide⟩, by decide +kernel, by decide⟩
theorem cv_X9_solvedOf : Cond.instanceMethod yX9_solvedOf ∈ lw_g ∧ Cond.selects yX9_solvedOf.cls yX9_solvedOf yX9_solvedOf ∈ lw_g := ⟨mg (i := 1422) (by decide +kernel) rfl, mg (i := 81) (by decide +kernel) rfl⟩
theorem ml_RX9_257 : Cond.methodLink RX9 257 yX9_isPuzzle ∈ lw_g := mg (i := 1432) (by decide +kernel) rfl
theorem cf_X9_isPuzzle : CalF yX9_isPuzzle cX9_isPuzzle 4 (some .boolean) 1 := ⟨mg (i := 1435) (by decide +kernel) rfl, mg (i := 140) (by decide +kernel) rfl, ⟨by decide, by decide⟩, by decide +kernel, by decide⟩
theorem cv_X9_isPuzzle : Cond.instanceMethod yX9_isPuzzle ∈ lw_g ∧ Cond.selects yX9_isPuzzle.cls yX9_isPuzzle yX9_isPuzzle ∈ lw_g := ⟨mg (i := 1434) (by decide +kernel) rfl, mg (i := 83) (by decide +kernel) rfl⟩
theorem fl_RX9_49 : Cond.fieldLink RX9 49 (TX9 13).1 (TX9 13).2.1 (TX9 13).2.2.1 ∈ lw_g := mg (i := 1141) (by decide +kernel) rfl
theorem fl_RX9_46 : Cond.fieldLink RX9 46 (TX9 12).1 (TX9 12).2.1 (TX9 12).2.2.1 ∈ lw_g := mg (i := 1140) (by decide +kernel) rfl
theorem ml_RX9_260 : Cond.methodLink RX9 260 yX9_isRight ∈ lw_g := mg (i := 1448) (by decide +kernel) rfl
theorem cf_X9_isRight : CalF yX9_isRight cX9_isRight 5 (some .boolean) 1 := ⟨mg (i := 1451) (by decide +kernel) rfl, mg (i := 140) (by decide +kernel) rfl, ⟨by decide, by decide⟩, by decide +kernel, by decide⟩
theorem cv_X9_isRight : Cond.instanceMethod yX9_isRight ∈ lw_g ∧ Cond.selects yX9_isRight.cls yX9_isRight yX9_isRight ∈ lw_g := ⟨mg (i := 1450) (by decide +kernel) rfl, mg (i := 86) (by decide +kernel) rfl⟩
theorem ml_RX9_266 : Cond.methodLink RX9 266 yX9_nextTurning ∈ lw_g := mg (i := 1444) (by decide +kernel) rfl
theorem cf_X9_nextTurning : CalF yX9_nextTurning cX9_nextTurning 3 (some .boolean) 1 := ⟨mg (i := 1447) (by decide +kernel) rfl, mg (i := 140) (by decide +kernel) rfl, ⟨by decide, by decide⟩, by decide +kernel, by decide⟩
theorem cv_X9_nextTurning : Cond.instanceMethod yX9_nextTurning ∈ lw_g ∧ Cond.selects yX9_nextTurning.cls yX9_nextTurning yX9_nextTurning ∈ lw_g := ⟨mg (i := 1446) (by decide +kernel) rfl, mg (i := 85) (by decide +kernel) rfl⟩
theorem ml_RX9_263 : Cond.methodLink RX9 263 yX9_countWays ∈ lw_g := mg (i := 1440) (by decide +kernel) rfl
theorem cf_X9_countWays : CalF yX9_countWays cX9_countWays 2 none 0 := ⟨mg (i := 1443) (by decide +kernel) rfl, mg (i := 140) (by decide +kernel) rfl, ⟨by decide, by decide⟩, by decide +kernel, by decide⟩
theorem cv_X9_countWays : Cond.instanceMethod yX9_countWays ∈ lw_g ∧ Cond.selects yX9_countWays.cls yX9_countWays yX9_countWays ∈ lw_g := ⟨mg (i := 1442) (by decide +kernel) rfl, mg (i := 84) (by decide +kernel) rfl⟩
theorem ml_RX9_270 : Cond.methodLink RX9 270 yX9_shift ∈ lw_g := mg (i := 1464) (by decide +kernel) rfl
theorem cf_X9_shift : CalF yX9_shift cX9_shift 5 none 2 := ⟨mg (i := 1467) (by decide +kernel) rfl, mg (i := 140) (by decide +kernel) rfl, ⟨by decide, by decide⟩, by decide +kernel, by decide⟩
theorem cv_X9_shift : Cond.instanceMethod yX9_shift ∈ lw_g ∧ Cond.selects yX9_shift.cls yX9_shift yX9_shift ∈ lw_g := ⟨mg (i := 1466) (by decide +kernel) rfl, mg (i := 88) (by decide +kernel) rfl⟩
theorem ml_RX9_274 : Cond.methodLink RX9 274 yX9_unfair ∈ lw_g := mg (i := 1468) (by decide +kernel) rfl
theorem cf_X9_unfair : CalF yX9_unfair cX9_unfair 2 (some .int) 0 := ⟨mg (i := 1471) (by decide +kernel) rfl, mg (i := 140) (by decide +kernel) rfl, ⟨by decide, by decide⟩, by decide +kernel, by decide⟩
theorem cv_X9_unfair : Cond.instanceMethod yX9_unfair ∈ lw_g ∧ Cond.selects yX9_unfair.cls yX9_unfair yX9_unfair ∈ lw_g := ⟨mg (i := 1470) (by decide +kernel) rfl, mg (i := 89) (by decide +kernel) rfl⟩
theorem ml_RX9_277 : Cond.methodLink RX9 277 yX9_withoutWay ∈ lw_g := mg (i := 1460) (by decide +kernel) rfl
theorem cf_X9_withoutWay : CalF yX9_withoutWay cX9_withoutWay 6 (some .int) 1 := ⟨mg (i := 1463) (by decide +kernel) rfl, mg (i := 140) (by decide +kernel) rfl, ⟨by decide, by decide⟩, by decide +kernel, by decide⟩
theorem cv_X9_withoutWay : Cond.instanceMethod yX9_withoutWay ∈ lw_g ∧ Cond.selects yX9_withoutWay.cls yX9_withoutWay yX9_withoutWay ∈ lw_g := ⟨mg (i := 1462) (by decide +kernel) rfl, mg (i := 87) (by decide +kernel) rfl⟩
theorem ml_RX9_280 : Cond.methodLink RX9 280 yX9_seesFrom ∈ lw_g := mg (i := 1480) (by decide +kernel) rfl
theorem cf_X9_seesFrom : CalF yX9_seesFrom cX9_seesFrom 7 (some .int) 1 := ⟨mg (i := 1483) (by decide +kernel) rfl, mg (i := 140) (by decide +kernel) rfl, ⟨by decide, by decide⟩, by decide +kernel, by decide⟩
theorem cv_X9_seesFrom : Cond.instanceMethod yX9_seesFrom ∈ lw_g ∧ Cond.selects yX9_seesFrom.cls yX9_seesFrom yX9_seesFrom ∈ lw_g := ⟨mg (i := 1482) (by decide +kernel) rfl, mg (i := 91) (by decide +kernel) rfl⟩
theorem ml_RX9_283 : Cond.methodLink RX9 283 yX9_seenBy ∈ lw_g := mg (i := 1476) (by decide +kernel) rfl
theorem cf_X9_seenBy : CalF yX9_seenBy cX9_seenBy 3 (some .int) 2 := ⟨mg (i := 1479) (by decide +kernel) rfl, mg (i := 140) (by decide +kernel) rfl, ⟨by decide, by decide⟩, by decide +kernel, by decide⟩
theorem cv_X9_seenBy : Cond.instanceMethod yX9_seenBy ∈ lw_g ∧ Cond.selects yX9_seenBy.cls yX9_seenBy yX9_seenBy ∈ lw_g := ⟨mg (i := 1478) (by decide +kernel) rfl, mg (i := 90) (by decide +kernel) rfl⟩
theorem fl_RX9_61 : Cond.fieldLink RX9 61 (TX9 17).1 (TX9 17).2.1 (TX9 17).2.2.1 ∈ lw_g := mg (i := 1145) (by decide +kernel) rfl
theorem fl_RX9_52 : Cond.fieldLink RX9 52 (TX9 14).1 (TX9 14).2.1 (TX9 14).2.2.1 ∈ lw_g := mg (i := 1142) (by decide +kernel) rfl
theorem ml_RX9_286 : Cond.methodLink RX9 286 yX9_hidden ∈ lw_g := mg (i := 1508) (by decide +kernel) rfl
theorem cf_X9_hidden : CalF yX9_hidden cX9_hidden 4 (some .int) 3 := ⟨mg (i := 1511) (by decide +kernel) rfl, mg (i := 140) (by decide +kernel) rfl, ⟨by decide, by decide⟩, by decide +kernel, by decide⟩
theorem cv_X9_hidden : Cond.instanceMethod yX9_hidden ∈ lw_g ∧ Cond.selects yX9_hidden.cls yX9_hidden yX9_hidden ∈ lw_g := ⟨mg (i := 1510) (by decide +kernel) rfl, mg (i := 97) (by decide +kernel) rfl⟩
theorem fl_RX9_58 : Cond.fieldLink RX9 58 (TX9 16).1 (TX9 16).2.1 (TX9 16).2.2.1 ∈ lw_g := mg (i := 1144) (by decide +kernel) rfl
theorem ml_RX9_294 : Cond.methodLink RX9 294 yX9_runsFrom ∈ lw_g := mg (i := 1528) (by decide +kernel) rfl
theorem cf_X9_runsFrom : CalF yX9_runsFrom cX9_runsFrom 6 (some .int) 3 := ⟨mg (i := 1531) (by decide +kernel) rfl, mg (i := 140) (by decide +kernel) rfl, ⟨by decide, by decide⟩, by decide +kernel, by decide⟩
theorem cv_X9_runsFrom : Cond.instanceMethod yX9_runsFrom ∈ lw_g ∧ Cond.selects yX9_runsFrom.cls yX9_runsFrom yX9_runsFrom ∈ lw_g := ⟨mg (i := 1530) (by decide +kernel) rfl, mg (i := 102) (by decide +kernel) rfl⟩
theorem ml_RX9_290 : Cond.methodLink RX9 290 yX9_allDone ∈ lw_g := mg (i := 1524) (by decide +kernel) rfl
theorem cf_X9_allDone : CalF yX9_allDone cX9_allDone 7 (some .boolean) 4 := ⟨mg (i := 1527) (by decide +kernel) rfl, mg (i := 140) (by decide +kernel) rfl, ⟨by decide, by decide⟩, by decide +kernel, by decide⟩
theorem cv_X9_allDone : Cond.instanceMethod yX9_allDone ∈ lw_g ∧ Cond.selects yX9_allDone.cls yX9_allDone yX9_allDone ∈ lw_g := ⟨mg (i := 1526) (by decide +kernel) rfl, mg (i := 101) (by decide +kernel) rfl⟩
theorem ml_RX9_297 : Cond.methodLink RX9 297 yX9_huntersBehind ∈ lw_g := mg (i := 1516) (by decide +kernel) rfl
theorem cf_X9_huntersBehind : CalF yX9_huntersBehind cX9_huntersBehind 6 (some .int) 3 := ⟨mg (i := 1519) (by decide +kernel) rfl, mg (i := 140) (by decide +kernel) rfl, ⟨by decide, by decide⟩, by decide +kernel, by decide⟩
theorem cv_X9_huntersBehind : Cond.instanceMethod yX9_huntersBehind ∈ lw_g ∧ Cond.selects yX9_huntersBehind.cls yX9_huntersBehind yX9_huntersBehind ∈ lw_g := ⟨mg (i := 1518) (by decide +kernel) rfl, mg (i := 99) (by decide +kernel) rfl⟩
theorem ml_RX9_300 : Cond.methodLink RX9 300 yX9_isDone ∈ lw_g := mg (i := 1520) (by decide +kernel) rfl
theorem cf_X9_isDone : CalF yX9_isDone cX9_isDone 8 (some .boolean) 4 := ⟨mg (i := 1523) (by decide +kernel) rfl, mg (i := 140) (by decide +kernel) rfl, ⟨by decide, by decide⟩, by decide +kernel, by decide⟩
theorem cv_X9_isDone : Cond.instanceMethod yX9_isDone ∈ lw_g ∧ Cond.selects yX9_isDone.cls yX9_isDone yX9_isDone ∈ lw_g := ⟨mg (i := 1522) (by decide +kernel) rfl, mg (i := 100) (by decide +kernel) rfl⟩
theorem ml_RX9_303 : Cond.methodLink RX9 303 yX9_runs ∈ lw_g := mg (i := 1504) (by decide +kernel) rfl
theorem cf_X9_runs : CalF yX9_runs cX9_runs 8 (some .int) 4 := ⟨mg (i := 1507) (by decide +kernel) rfl, mg (i := 140) (by decide +kernel) rfl, ⟨by decide, by decide⟩, by decide +kernel, by decide⟩
theorem cv_X9_runs : Cond.instanceMethod yX9_runs ∈ lw_g ∧ Cond.selects yX9_runs.cls yX9_runs yX9_runs ∈ lw_g := ⟨mg (i := 1506) (by decide +kernel) rfl, mg (i := 96) (by decide +kernel) rfl⟩
theorem fl_RX9_64 : Cond.fieldLink RX9 64 (TX9 18).1 (TX9 18).2.1 (TX9 18).2.2.1 ∈ lw_g := mg (i := 1146) (by decide +kernel) rfl
theorem ml_RX9_310 : Cond.methodLink RX9 310 yX9_canIn ∈ lw_g := mg (i := 1512) (by decide +kernel) rfl
theorem cf_X9_canIn : CalF yX9_canIn cX9_canIn 7 (some .boolean) 4 := ⟨mg (i := 1515) (by decide +kernel) rfl, mg (i := 140) (by decide +kernel) rfl, ⟨by decide, by decide⟩, by decide +kernel, by decide⟩
theorem cv_X9_canIn : Cond.instanceMethod yX9_canIn ∈ lw_g ∧ Cond.selects yX9_canIn.cls yX9_canIn yX9_canIn ∈ lw_g := ⟨mg (i := 1514) (by decide +kernel) rfl, mg (i := 98) (by decide +kernel) rfl⟩
theorem ml_RX9_307 : Cond.methodLink RX9 307 yX9_prepare ∈ lw_g := mg (i := 1500) (by decide +kernel) rfl
theorem cf_X9_prepare : CalF yX9_prepare cX9_prepare 4 none 0 := ⟨mg (i := 1503) (by decide +kernel) rfl, mg (i := 140) (by decide +kernel) rfl, ⟨by decide, by decide⟩, by decide +kernel, by decide⟩
theorem cv_X9_prepare : Cond.instanceMethod yX9_prepare ∈ lw_g ∧ Cond.selects yX9_prepare.cls yX9_prepare yX9_prepare ∈ lw_g := ⟨mg (i := 1502) (by decide +kernel) rfl, mg (i := 95) (by decide +kernel) rfl⟩
theorem ml_RX9_313 : Cond.methodLink RX9 313 yX9_findRounds ∈ lw_g := mg (i := 1496) (by decide +kernel) rfl
theorem cf_X9_findRounds : CalF yX9_findRounds cX9_findRounds 5 none 0 := ⟨mg (i := 1499) (by decide +kernel) rfl, mg (i := 140) (by decide +kernel) rfl, ⟨by decide, by decide⟩, by decide +kernel, by decide⟩
theorem cv_X9_findRounds : Cond.instanceMethod yX9_findRounds ∈ lw_g ∧ Cond.selects yX9_findRounds.cls yX9_findRounds yX9_findRounds ∈ lw_g := ⟨mg (i := 1498) (by decide +kernel) rfl, mg (i := 94) (by decide +kernel) rfl⟩
theorem ml_RX9_316 : Cond.methodLink RX9 316 yX9_lacksHidden ∈ lw_g := mg (i := 1488) (by decide +kernel) rfl
theorem cf_X9_lacksHidden : CalF yX9_lacksHidden cX9_lacksHidden 5 (some .int) 3 := ⟨mg (i := 1491) (by decide +kernel) rfl, mg (i := 140) (by decide +kernel) rfl, ⟨by decide, by decide⟩, by decide +kernel, by decide⟩
theorem cv_X9_lacksHidden : Cond.instanceMethod yX9_lacksHidden ∈ lw_g ∧ Cond.selects yX9_lacksHidden.cls yX9_lacksHidden yX9_lacksHidden ∈ lw_g := ⟨mg (i := 1490) (by decide +kernel) rfl, mg (i := 92) (by decide +kernel) rfl⟩
theorem ml_RX9_319 : Cond.methodLink RX9 319 yX9_leastRounds ∈ lw_g := mg (i := 1492) (by decide +kernel) rfl
theorem cf_X9_leastRounds : CalF yX9_leastRounds cX9_leastRounds 6 (some .int) 3 := ⟨mg (i := 1495) (by decide +kernel) rfl, mg (i := 140) (by decide +kernel) rfl, ⟨by decide, by decide⟩, by decide +kernel, by decide⟩
