def fL_law_b1207 (FU : Nat) (L : Nat) (xs : Nat → Int32) (k28 : Int32 → Mem → Option (Int32 × Mem)) (x3 : Int32) (M : Mem) : Option (Int32 × Mem) := k28 (x3 + (6 : Int32)) M
def fL_law_L28 (FU : Nat) (L : Nat) (xs : Nat → Int32)   : Nat → Int32 → Mem → Option (Int32 × Mem)
  | 0, _, _ => none
  | F + 1, x3, M => if ((Int32.ofNat L) - (6 : Int32)) < x3 then (some ((1 : Int32), M)) else ((scr L xs x3).bind fun a39 => if (a39 &&& (31 : Int32)) = (0 : Int32) then ((scr L xs (x3 + (1 : Int32))).bind fun a181 => (scr L xs (x3 + (2 : Int32))).bind fun a186 => (scr L xs (x3 + (3 : Int32))).bind fun a191 => (rc 8 (some 0)).bind fun b192 => bd2 (fX8_way FU b192 a181 a186 a191 M) fun r192 M192 => (scr L xs (x3 + (1 : Int32))).bind fun a200 => (scr L xs (x3 + (2 : Int32))).bind fun a205 => (scr L xs (x3 + (3 : Int32))).bind fun a210 => (rc 9 (some 60)).bind fun b211 => bd2 (fX9_way FU b211 a200 a205 a210 M192) fun r211 M211 => if r192 = r211 then (fL_law_b1207 FU L xs (fL_law_L28 FU L xs F) x3 M211) else (some ((0 : Int32), M211))) else if (a39 &&& (31 : Int32)) = (1 : Int32) then ((rc 8 (some 0)).bind fun b220 => bd2 (fX8_unway FU b220  M) fun r220 M220 => (rc 9 (some 60)).bind fun b224 => bd2 (fX9_unway FU b224  M220) fun r224 M224 => if r220 = r224 then (fL_law_b1207 FU L xs (fL_law_L28 FU L xs F) x3 M224) else (some ((0 : Int32), M224))) else if (a39 &&& (31 : Int32)) = (2 : Int32) then ((scr L xs (x3 + (1 : Int32))).bind fun a237 => (scr L xs (x3 + (2 : Int32))).bind fun a242 => (rc 8 (some 0)).bind fun b243 => bd2 (fX8_wayTold FU b243 a237 a242 M) fun r243 M243 => (scr L xs (x3 + (1 : Int32))).bind fun a251 => (scr L xs (x3 + (2 : Int32))).bind fun a256 => (rc 9 (some 60)).bind fun b257 => bd2 (fX9_wayTold FU b257 a251 a256 M243) fun r257 M257 => if r243 = r257 then (fL_law_b1207 FU L xs (fL_law_L28 FU L xs F) x3 M257) else (some ((0 : Int32), M257))) else if (a39 &&& (31 : Int32)) = (3 : Int32) then ((scr L xs (x3 + (1 : Int32))).bind fun a270 => (scr L xs (x3 + (2 : Int32))).bind fun a275 => (rc 8 (some 0)).bind fun b276 => bd2 (fX8_ground FU b276 a270 a275 M) fun r276 M276 => (scr L xs (x3 + (1 : Int32))).bind fun a284 => (scr L xs (x3 + (2 : Int32))).bind fun a289 => (rc 9 (some 60)).bind fun b290 => bd2 (fX9_ground FU b290 a284 a289 M276) fun r290 M290 => if r276 = r290 then (fL_law_b1207 FU L xs (fL_law_L28 FU L xs F) x3 M290) else (some ((0 : Int32), M290))) else if (a39 &&& (31 : Int32)) = (4 : Int32) then ((scr L xs (x3 + (1 : Int32))).bind fun a303 => (scr L xs (x3 + (2 : Int32))).bind fun a308 => (rc 8 (some 0)).bind fun b309 => bd2 (fX8_tell FU b309 a303 a308 M) fun r309 M309 => (scr L xs (x3 + (1 : Int32))).bind fun a317 => (scr L xs (x3 + (2 : Int32))).bind fun a322 => (rc 9 (some 60)).bind fun b323 => bd2 (fX9_tell FU b323 a317 a322 M309) fun r323 M323 => if r309 = r323 then (fL_law_b1207 FU L xs (fL_law_L28 FU L xs F) x3 M323) else (some ((0 : Int32), M323))) else if (a39 &&& (31 : Int32)) = (5 : Int32) then ((scr L xs (x3 + (1 : Int32))).bind fun a336 => (scr L xs (x3 + (2 : Int32))).bind fun a341 => (scr L xs (x3 + (3 : Int32))).bind fun a346 => (scr L xs (x3 + (4 : Int32))).bind fun a351 => (scr L xs (x3 + (5 : Int32))).bind fun a356 => (rc 8 (some 0)).bind fun b357 => bd2 (fX8_length FU b357 a336 a341 a346 a351 a356 M) fun r357 M357 => (scr L xs (x3 + (1 : Int32))).bind fun a365 => (scr L xs (x3 + (2 : Int32))).bind fun a370 => (scr L xs (x3 + (3 : Int32))).bind fun a375 => (scr L xs (x3 + (4 : Int32))).bind fun a380 => (scr L xs (x3 + (5 : Int32))).bind fun a385 => (rc 9 (some 60)).bind fun b386 => bd2 (fX9_length FU b386 a365 a370 a375 a380 a385 M357) fun r386 M386 => if r357 = r386 then (fL_law_b1207 FU L xs (fL_law_L28 FU L xs F) x3 M386) else (some ((0 : Int32), M386))) else if (a39 &&& (31 : Int32)) = (6 : Int32) then ((scr L xs (x3 + (1 : Int32))).bind fun a399 => (scr L xs (x3 + (2 : Int32))).bind fun a404 => (scr L xs (x3 + (3 : Int32))).bind fun a409 => (scr L xs (x3 + (4 : Int32))).bind fun a414 => (scr L xs (x3 + (5 : Int32))).bind fun a419 => (rc 8 (some 0)).bind fun b420 => bd2 (fX8_best FU b420 a399 a404 a409 a414 a419 M) fun r420 M420 => (scr L xs (x3 + (1 : Int32))).bind fun a428 => (scr L xs (x3 + (2 : Int32))).bind fun a433 => (scr L xs (x3 + (3 : Int32))).bind fun a438 => (scr L xs (x3 + (4 : Int32))).bind fun a443 => (scr L xs (x3 + (5 : Int32))).bind fun a448 => (rc 9 (some 60)).bind fun b449 => bd2 (fX9_best FU b449 a428 a433 a438 a443 a448 M420) fun r449 M449 => if r420 = r449 then (fL_law_b1207 FU L xs (fL_law_L28 FU L xs F) x3 M449) else (some ((0 : Int32), M449))) else if (a39 &&& (31 : Int32)) = (7 : Int32) then ((scr L xs (x3 + (1 : Int32))).bind fun a462 => (scr L xs (x3 + (2 : Int32))).bind fun a467 => (scr L xs (x3 + (3 : Int32))).bind fun a472 => (scr L xs (x3 + (4 : Int32))).bind fun a477 => (scr L xs (x3 + (5 : Int32))).bind fun a482 => (rc 8 (some 0)).bind fun b483 => bd2 (fX8_moves FU b483 a462 a467 a472 a477 a482 M) fun r483 M483 => (scr L xs (x3 + (1 : Int32))).bind fun a491 => (scr L xs (x3 + (2 : Int32))).bind fun a496 => (scr L xs (x3 + (3 : Int32))).bind fun a501 => (scr L xs (x3 + (4 : Int32))).bind fun a506 => (scr L xs (x3 + (5 : Int32))).bind fun a511 => (rc 9 (some 60)).bind fun b512 => bd2 (fX9_moves FU b512 a491 a496 a501 a506 a511 M483) fun r512 M512 => if r483 = r512 then (fL_law_b1207 FU L xs (fL_law_L28 FU L xs F) x3 M512) else (some ((0 : Int32), M512))) else if (a39 &&& (31 : Int32)) = (8 : Int32) then ((scr L xs (x3 + (1 : Int32))).bind fun a525 => (rc 8 (some 0)).bind fun b526 => bd2 (fX8_solved FU b526 a525 M) fun r526 M526 => (scr L xs (x3 + (1 : Int32))).bind fun a534 => (rc 9 (some 60)).bind fun b535 => bd2 (fX9_solved FU b535 a534 M526) fun r535 M535 => if r526 = r535 then (fL_law_b1207 FU L xs (fL_law_L28 FU L xs F) x3 M535) else (some ((0 : Int32), M535))) else if (a39 &&& (31 : Int32)) = (9 : Int32) then ((scr L xs (x3 + (1 : Int32))).bind fun a548 => (scr L xs (x3 + (2 : Int32))).bind fun a553 => (rc 8 (some 0)).bind fun b554 => bd2 (fX8_puzzle FU b554 a548 a553 M) fun r554 M554 => (scr L xs (x3 + (1 : Int32))).bind fun a562 => (scr L xs (x3 + (2 : Int32))).bind fun a567 => (rc 9 (some 60)).bind fun b568 => bd2 (fX9_puzzle FU b568 a562 a567 M554) fun r568 M568 => if r554 = r568 then (fL_law_b1207 FU L xs (fL_law_L28 FU L xs F) x3 M568) else (some ((0 : Int32), M568))) else if (a39 &&& (31 : Int32)) = (10 : Int32) then ((rc 8 (some 0)).bind fun b577 => bd2 (fX8_turnings FU b577  M) fun r577 M577 => (rc 9 (some 60)).bind fun b581 => bd2 (fX9_turnings FU b581  M577) fun r581 M581 => if r577 = r581 then (fL_law_b1207 FU L xs (fL_law_L28 FU L xs F) x3 M581) else (some ((0 : Int32), M581))) else if (a39 &&& (31 : Int32)) = (11 : Int32) then ((scr L xs (x3 + (1 : Int32))).bind fun a594 => (scr L xs (x3 + (2 : Int32))).bind fun a599 => (scr L xs (x3 + (3 : Int32))).bind fun a604 => (rc 8 (some 0)).bind fun b605 => bd2 (fX8_alike FU b605 a594 a599 a604 M) fun r605 M605 => (scr L xs (x3 + (1 : Int32))).bind fun a613 => (scr L xs (x3 + (2 : Int32))).bind fun a618 => (scr L xs (x3 + (3 : Int32))).bind fun a623 => (rc 9 (some 60)).bind fun b624 => bd2 (fX9_alike FU b624 a613 a618 a623 M605) fun r624 M624 => if r605 = r624 then (fL_law_b1207 FU L xs (fL_law_L28 FU L xs F) x3 M624) else (some ((0 : Int32), M624))) else if (a39 &&& (31 : Int32)) = (12 : Int32) then ((rc 8 (some 0)).bind fun b633 => bd2 (fX8_fairer FU b633  M) fun r633 M633 => (rc 9 (some 60)).bind fun b637 => bd2 (fX9_fairer FU b637  M633) fun r637 M637 => if r633 = r637 then (fL_law_b1207 FU L xs (fL_law_L28 FU L xs F) x3 M637) else (some ((0 : Int32), M637))) else if (a39 &&& (31 : Int32)) = (13 : Int32) then ((scr L xs (x3 + (1 : Int32))).bind fun a650 => (scr L xs (x3 + (2 : Int32))).bind fun a655 => (rc 8 (some 0)).bind fun b656 => bd2 (fX8_sees FU b656 a650 a655 M) fun r656 M656 => (scr L xs (x3 + (1 : Int32))).bind fun a664 => (scr L xs (x3 + (2 : Int32))).bind fun a669 => (rc 9 (some 60)).bind fun b670 => bd2 (fX9_sees FU b670 a664 a669 M656) fun r670 M670 => if r656 = r670 then (fL_law_b1207 FU L xs (fL_law_L28 FU L xs F) x3 M670) else (some ((0 : Int32), M670))) else if (a39 &&& (31 : Int32)) = (14 : Int32) then ((scr L xs (x3 + (1 : Int32))).bind fun a683 => (scr L xs (x3 + (2 : Int32))).bind fun a688 => (scr L xs (x3 + (3 : Int32))).bind fun a693 => (rc 8 (some 0)).bind fun b694 => bd2 (fX8_sure FU b694 a683 a688 a693 M) fun r694 M694 => (scr L xs (x3 + (1 : Int32))).bind fun a702 => (scr L xs (x3 + (2 : Int32))).bind fun a707 => (scr L xs (x3 + (3 : Int32))).bind fun a712 => (rc 9 (some 60)).bind fun b713 => bd2 (fX9_sure FU b713 a702 a707 a712 M694) fun r713 M713 => if r694 = r713 then (fL_law_b1207 FU L xs (fL_law_L28 FU L xs F) x3 M713) else (some ((0 : Int32), M713))) else if (a39 &&& (31 : Int32)) = (15 : Int32) then ((scr L xs (x3 + (1 : Int32))).bind fun a726 => (scr L xs (x3 + (2 : Int32))).bind fun a731 => (scr L xs (x3 + (3 : Int32))).bind fun a736 => (rc 8 (some 0)).bind fun b737 => bd2 (fX8_first FU b737 a726 a731 a736 M) fun r737 M737 => (scr L xs (x3 + (1 : Int32))).bind fun a745 => (scr L xs (x3 + (2 : Int32))).bind fun a750 => (scr L xs (x3 + (3 : Int32))).bind fun a755 => (rc 9 (some 60)).bind fun b756 => bd2 (fX9_first FU b756 a745 a750 a755 M737) fun r756 M756 => if r737 = r756 then (fL_law_b1207 FU L xs (fL_law_L28 FU L xs F) x3 M756) else (some ((0 : Int32), M756))) else if (a39 &&& (31 : Int32)) = (16 : Int32) then ((scr L xs (x3 + (1 : Int32))).bind fun a769 => (scr L xs (x3 + (2 : Int32))).bind fun a774 => (scr L xs (x3 + (3 : Int32))).bind fun a779 => (rc 8 (some 0)).bind fun b780 => bd2 (fX8_start FU b780 a769 a774 a779 M) fun r780 M780 => (scr L xs (x3 + (1 : Int32))).bind fun a788 => (scr L xs (x3 + (2 : Int32))).bind fun a793 => (scr L xs (x3 + (3 : Int32))).bind fun a798 => (rc 9 (some 60)).bind fun b799 => bd2 (fX9_start FU b799 a788 a793 a798 M780) fun r799 M799 => if r780 = r799 then (fL_law_b1207 FU L xs (fL_law_L28 FU L xs F) x3 M799) else (some ((0 : Int32), M799))) else if (a39 &&& (31 : Int32)) = (17 : Int32) then ((scr L xs (x3 + (1 : Int32))).bind fun a812 => (rc 8 (some 0)).bind fun b813 => bd2 (fX8_move FU b813 a812 M) fun r813 M813 => (scr L xs (x3 + (1 : Int32))).bind fun a821 => (rc 9 (some 60)).bind fun b822 => bd2 (fX9_move FU b822 a821 M813) fun r822 M822 => if r813 = r822 then (fL_law_b1207 FU L xs (fL_law_L28 FU L xs F) x3 M822) else (some ((0 : Int32), M822))) else if (a39 &&& (31 : Int32)) = (18 : Int32) then ((scr L xs (x3 + (1 : Int32))).bind fun a835 => (rc 8 (some 0)).bind fun b836 => bd2 (fX8_play FU b836 a835 M) fun r836 M836 => (scr L xs (x3 + (1 : Int32))).bind fun a844 => (rc 9 (some 60)).bind fun b845 => bd2 (fX9_play FU b845 a844 M836) fun r845 M845 => if r836 = r845 then (fL_law_b1207 FU L xs (fL_law_L28 FU L xs F) x3 M845) else (some ((0 : Int32), M845))) else if (a39 &&& (31 : Int32)) = (19 : Int32) then ((rc 8 (some 0)).bind fun b854 => bd2 (fX8_back FU b854  M) fun r854 M854 => (rc 9 (some 60)).bind fun b858 => bd2 (fX9_back FU b858  M854) fun r858 M858 => if r854 = r858 then (fL_law_b1207 FU L xs (fL_law_L28 FU L xs F) x3 M858) else (some ((0 : Int32), M858))) else if (a39 &&& (31 : Int32)) = (20 : Int32) then ((scr L xs (x3 + (1 : Int32))).bind fun a871 => (rc 8 (some 0)).bind fun b872 => bd2 (fX8_told FU b872 a871 M) fun r872 M872 => (scr L xs (x3 + (1 : Int32))).bind fun a880 => (rc 9 (some 60)).bind fun b881 => bd2 (fX9_told FU b881 a880 M872) fun r881 M881 => if r872 = r881 then (fL_law_b1207 FU L xs (fL_law_L28 FU L xs F) x3 M881) else (some ((0 : Int32), M881))) else if (a39 &&& (31 : Int32)) = (21 : Int32) then ((scr L xs (x3 + (1 : Int32))).bind fun a894 => (scr L xs (x3 + (2 : Int32))).bind fun a899 => (scr L xs (x3 + (3 : Int32))).bind fun a908 => (rc 8 (some 0)).bind fun b915 => bd2 (fX8_feed FU b915 a894 ((a899.toInt64 <<< ((32 : Int32).toInt64 &&& 63)) ||| (a908.toInt64 &&& (4294967295 : Int64))) M) fun r915 M915 => (scr L xs (x3 + (1 : Int32))).bind fun a923 => (scr L xs (x3 + (2 : Int32))).bind fun a928 => (scr L xs (x3 + (3 : Int32))).bind fun a937 => (rc 9 (some 60)).bind fun b944 => bd2 (fX9_feed FU b944 a923 ((a928.toInt64 <<< ((32 : Int32).toInt64 &&& 63)) ||| (a937.toInt64 &&& (4294967295 : Int64))) M915) fun r944 M944 => if r915 = r944 then (fL_law_b1207 FU L xs (fL_law_L28 FU L xs F) x3 M944) else (some ((0 : Int32), M944))) else if (a39 &&& (31 : Int32)) = (22 : Int32) then ((rc 8 (some 0)).bind fun b953 => bd2 (fX8_text FU b953  M) fun r953 M953 => (rc 9 (some 60)).bind fun b957 => bd2 (fX9_text FU b957  M953) fun r957 M957 => if r953 = r957 then (fL_law_b1207 FU L xs (fL_law_L28 FU L xs F) x3 M957) else (some ((0 : Int32), M957))) else if (a39 &&& (31 : Int32)) = (23 : Int32) then ((scr L xs (x3 + (1 : Int32))).bind fun a970 => (rc 8 (some 0)).bind fun b971 => bd2 (fX8_force FU b971 a970 M) fun r971 M971 => (scr L xs (x3 + (1 : Int32))).bind fun a979 => (rc 9 (some 60)).bind fun b980 => bd2 (fX9_force FU b980 a979 M971) fun r980 M980 => if r971 = r980 then (fL_law_b1207 FU L xs (fL_law_L28 FU L xs F) x3 M980) else (some ((0 : Int32), M980))) else if (a39 &&& (31 : Int32)) = (24 : Int32) then ((scr L xs (x3 + (1 : Int32))).bind fun a993 => (rc 8 (some 0)).bind fun b994 => bd2 (fX8_says FU b994 a993 M) fun r994 M994 => (scr L xs (x3 + (1 : Int32))).bind fun a1002 => (rc 9 (some 60)).bind fun b1003 => bd2 (fX9_says FU b1003 a1002 M994) fun r1003 M1003 => if (lg_cmp r994 r1003) = 0 then (fL_law_b1207 FU L xs (fL_law_L28 FU L xs F) x3 M1003) else (some ((0 : Int32), M1003))) else if (a39 &&& (31 : Int32)) = (25 : Int32) then ((scr L xs (x3 + (1 : Int32))).bind fun a1017 => (rc 8 (some 0)).bind fun b1018 => bd2 (fX8_count FU b1018 a1017 M) fun r1018 M1018 => (scr L xs (x3 + (1 : Int32))).bind fun a1026 => (rc 9 (some 60)).bind fun b1027 => bd2 (fX9_count FU b1027 a1026 M1018) fun r1027 M1027 => if r1018 = r1027 then (fL_law_b1207 FU L xs (fL_law_L28 FU L xs F) x3 M1027) else (some ((0 : Int32), M1027))) else if (a39 &&& (31 : Int32)) = (26 : Int32) then ((scr L xs (x3 + (1 : Int32))).bind fun a1040 => (scr L xs (x3 + (2 : Int32))).bind fun a1045 => (scr L xs (x3 + (3 : Int32))).bind fun a1050 => (rc 8 (some 0)).bind fun b1051 => bd2 (fX8_sheet FU b1051 a1040 a1045 a1050 M) fun r1051 M1051 => (scr L xs (x3 + (1 : Int32))).bind fun a1059 => (scr L xs (x3 + (2 : Int32))).bind fun a1064 => (scr L xs (x3 + (3 : Int32))).bind fun a1069 => (rc 9 (some 60)).bind fun b1070 => bd2 (fX9_sheet FU b1070 a1059 a1064 a1069 M1051) fun r1070 M1070 => if r1051 = r1070 then (fL_law_b1207 FU L xs (fL_law_L28 FU L xs F) x3 M1070) else (some ((0 : Int32), M1070))) else if (a39 &&& (31 : Int32)) = (27 : Int32) then ((scr L xs (x3 + (1 : Int32))).bind fun a1083 => (scr L xs (x3 + (2 : Int32))).bind fun a1088 => (scr L xs (x3 + (3 : Int32))).bind fun a1093 => (rc 8 (some 0)).bind fun b1094 => bd2 (fX8_cell FU b1094 a1083 a1088 a1093 M) fun r1094 M1094 => (scr L xs (x3 + (1 : Int32))).bind fun a1102 => (scr L xs (x3 + (2 : Int32))).bind fun a1107 => (scr L xs (x3 + (3 : Int32))).bind fun a1112 => (rc 9 (some 60)).bind fun b1113 => bd2 (fX9_cell FU b1113 a1102 a1107 a1112 M1094) fun r1113 M1113 => if r1094 = r1113 then (fL_law_b1207 FU L xs (fL_law_L28 FU L xs F) x3 M1113) else (some ((0 : Int32), M1113))) else if (a39 &&& (31 : Int32)) = (28 : Int32) then ((scr L xs (x3 + (1 : Int32))).bind fun a1126 => (scr L xs (x3 + (2 : Int32))).bind fun a1131 => (scr L xs (x3 + (3 : Int32))).bind fun a1136 => (scr L xs (x3 + (4 : Int32))).bind fun a1141 => (rc 8 (some 0)).bind fun b1142 => bd2 (fX8_ways FU b1142 a1126 a1131 a1136 a1141 M) fun r1142 M1142 => (scr L xs (x3 + (1 : Int32))).bind fun a1150 => (scr L xs (x3 + (2 : Int32))).bind fun a1155 => (scr L xs (x3 + (3 : Int32))).bind fun a1160 => (scr L xs (x3 + (4 : Int32))).bind fun a1165 => (rc 9 (some 60)).bind fun b1166 => bd2 (fX9_ways FU b1166 a1150 a1155 a1160 a1165 M1142) fun r1166 M1166 => if r1142 = r1166 then (fL_law_b1207 FU L xs (fL_law_L28 FU L xs F) x3 M1166) else (some ((0 : Int32), M1166))) else if (a39 &&& (31 : Int32)) = (29 : Int32) then ((scr L xs (x3 + (1 : Int32))).bind fun a1179 => (scr L xs (x3 + (2 : Int32))).bind fun a1184 => (rc 8 (some 0)).bind fun b1185 => bd2 (fX8_taken FU b1185 a1179 a1184 M) fun r1185 M1185 => (scr L xs (x3 + (1 : Int32))).bind fun a1193 => (scr L xs (x3 + (2 : Int32))).bind fun a1198 => (rc 9 (some 60)).bind fun b1199 => bd2 (fX9_taken FU b1199 a1193 a1198 M1185) fun r1199 M1199 => if r1185 = r1199 then (fL_law_b1207 FU L xs (fL_law_L28 FU L xs F) x3 M1199) else (some ((0 : Int32), M1199))) else (fL_law_b1207 FU L xs (fL_law_L28 FU L xs F) x3 M))
set_option maxHeartbeats 4000000 in
set_option maxRecDepth 100000 in
theorem jL_law_b1207 {ad : Nat → Nat} {ca : Nat → ClassId} {D : va_G} {FU d : Nat} {N : Mem} {b : Nat} {L : Nat} {xs : Nat → Int32} {k28 : Int32 → Mem → Option (Int32 × Mem)} {x3 : Int32} {M : Mem}  (hk28 : ∀ (y3 : Int32) (M : Mem), k28 y3 M = some ((1 : Int32), N) → J ad ca D cL_law RL 4 (d + 124) (Gl ad b L xs) 28 [(0, vR (some 300)), (1, vR (some 0)), (2, vR (some 60)), (3, vI y3)] [] M) (h : fL_law_b1207 FU L xs k28 x3 M = some ((1 : Int32), N)) : J ad ca D cL_law RL 4 (d + 124) (Gl ad b L xs) 1207 [(0, vR (some 300)), (1, vR (some 0)), (2, vR (some 60)), (3, vI x3)] [] M := by
  unfold fL_law_b1207 at h
  refine J_iinc (pc := 1207) (q := 3) rfl (v := x3 + (6 : Int32)) rfl (by decide) (lv' := [(0, vR (some 300)), (1, vR (some 0)), (2, vR (some 60)), (3, vI (x3 + (6 : Int32)))]) rfl dL_law_1207 ?_
  refine J_goto (pc := 1210) (tgt := 28) (by decide) dL_law_1210 ?_
  exact hk28 _ _ h
set_option maxHeartbeats 4000000 in
set_option maxRecDepth 100000 in
theorem jL_law_L28 {ad : Nat → Nat} {ca : Nat → ClassId} {D : va_G} {FU d : Nat} {N : Mem} {b : Nat} {L : Nat} {xs : Nat → Int32}     : ∀ (F : Nat) (x3 : Int32) (M : Mem), fL_law_L28 FU L xs F x3 M = some ((1 : Int32), N) → J ad ca D cL_law RL 4 (d + 124) (Gl ad b L xs) 28 [(0, vR (some 300)), (1, vR (some 0)), (2, vR (some 60)), (3, vI x3)] [] M := by
  intro F
  induction F with
  | zero =>
    intro x3 M h
    rw [fL_law_L28] at h
    cases h
  | succ F hk28 =>
    intro x3 M h
    rw [fL_law_L28] at h
    refine J_iload_n (pc := 28) (q := 3) rfl rfl dL_law_28 ?_
    refine J_aload_n (pc := 29) (q := 0) rfl rfl dL_law_29 ?_
    refine J_slen (pc := 30) dL_law_30 ?_
    refine J_bipush (pc := 31) (v := (6 : Int32)) (by decide) dL_law_31 ?_
    refine J_isub (pc := 33) dL_law_33 ?_
    refine J_icgt (pc := 34) (tgt := 1213) (by decide) dL_law_34 (fun hc34 => ?_) (fun hc34 => ?_)
    · rw [if_pos hc34] at h
      refine J_iconst (pc := 1213) (v := (1 : Int32)) (by decide) dL_law_1213 ?_
      exact J_lawend (pc := 1214) dL_law_1214
    · rw [if_neg hc34] at h
      refine J_aload_n (pc := 37) (q := 0) rfl rfl dL_law_37 ?_
      refine J_iload_n (pc := 38) (q := 3) rfl rfl dL_law_38 ?_
      obtain ⟨a39, h39, g_1⟩ := bnd h
      refine J_sld (pc := 39) h39 dL_law_39 ?_
      refine J_bipush (pc := 40) (v := (31 : Int32)) (by decide) dL_law_40 ?_
      refine J_iand (pc := 42) dL_law_42 ?_
      by_cases hc43_0 : (a39 &&& (31 : Int32)) = (0 : Int32)
      · rw [if_pos hc43_0] at g_1
        refine J_tin (pc := 43) (tgt := 176) (off := (133)) (by rw [hc43_0]; decide) (by rw [hc43_0]; decide) (by rw [hc43_0]; decide) (by decide) dL_law_43 ?_
        refine J_aload_n (pc := 176) (q := 1) rfl rfl dL_law_176 ?_
        refine J_aload_n (pc := 177) (q := 0) rfl rfl dL_law_177 ?_
        refine J_iload_n (pc := 178) (q := 3) rfl rfl dL_law_178 ?_
        refine J_iconst (pc := 179) (v := (1 : Int32)) (by decide) dL_law_179 ?_
        refine J_iadd (pc := 180) dL_law_180 ?_
        obtain ⟨a181, h181, g_2⟩ := bnd g_1
        refine J_sld (pc := 181) h181 dL_law_181 ?_
        refine J_aload_n (pc := 182) (q := 0) rfl rfl dL_law_182 ?_
        refine J_iload_n (pc := 183) (q := 3) rfl rfl dL_law_183 ?_
        refine J_iconst (pc := 184) (v := (2 : Int32)) (by decide) dL_law_184 ?_
        refine J_iadd (pc := 185) dL_law_185 ?_
        obtain ⟨a186, h186, g_3⟩ := bnd g_2
        refine J_sld (pc := 186) h186 dL_law_186 ?_
        refine J_aload_n (pc := 187) (q := 0) rfl rfl dL_law_187 ?_
        refine J_iload_n (pc := 188) (q := 3) rfl rfl dL_law_188 ?_
        refine J_iconst (pc := 189) (v := (3 : Int32)) (by decide) dL_law_189 ?_
        refine J_iadd (pc := 190) dL_law_190 ?_
        obtain ⟨a191, h191, g_4⟩ := bnd g_3
        refine J_sld (pc := 191) h191 dL_law_191 ?_
        obtain ⟨b192, hb192, g_5⟩ := bnd g_4
        obtain ⟨r192, M192, h192, g_6⟩ := bnd2 g_5
        refine J_callVI (pc := 192) (as := [vI a181, vI a186, vI a191]) (tX8_way (d := d)  h192) cf_X8_way cv_X8_way clF8 hb192 ml_RL_21 (by omega) (Nat.le_of_ble_eq_true rfl) dL_law_192 ?_
        refine J_aload_n (pc := 195) (q := 2) rfl rfl dL_law_195 ?_
        refine J_aload_n (pc := 196) (q := 0) rfl rfl dL_law_196 ?_
        refine J_iload_n (pc := 197) (q := 3) rfl rfl dL_law_197 ?_
        refine J_iconst (pc := 198) (v := (1 : Int32)) (by decide) dL_law_198 ?_
        refine J_iadd (pc := 199) dL_law_199 ?_
        obtain ⟨a200, h200, g_7⟩ := bnd g_6
        refine J_sld (pc := 200) h200 dL_law_200 ?_
        refine J_aload_n (pc := 201) (q := 0) rfl rfl dL_law_201 ?_
        refine J_iload_n (pc := 202) (q := 3) rfl rfl dL_law_202 ?_
        refine J_iconst (pc := 203) (v := (2 : Int32)) (by decide) dL_law_203 ?_
        refine J_iadd (pc := 204) dL_law_204 ?_
        obtain ⟨a205, h205, g_8⟩ := bnd g_7
        refine J_sld (pc := 205) h205 dL_law_205 ?_
        refine J_aload_n (pc := 206) (q := 0) rfl rfl dL_law_206 ?_
        refine J_iload_n (pc := 207) (q := 3) rfl rfl dL_law_207 ?_
        refine J_iconst (pc := 208) (v := (3 : Int32)) (by decide) dL_law_208 ?_
        refine J_iadd (pc := 209) dL_law_209 ?_
        obtain ⟨a210, h210, g_9⟩ := bnd g_8
        refine J_sld (pc := 210) h210 dL_law_210 ?_
        obtain ⟨b211, hb211, g_10⟩ := bnd g_9
        obtain ⟨r211, M211, h211, g_11⟩ := bnd2 g_10
        refine J_callVI (pc := 211) (as := [vI a200, vI a205, vI a210]) (tX9_way (d := d)  h211) cf_X9_way cv_X9_way clF9 hb211 ml_RL_25 (by omega) (Nat.le_of_ble_eq_true rfl) dL_law_211 ?_
        refine J_iceq (pc := 214) (tgt := 1207) (by decide) dL_law_214 (fun hc214 => ?_) (fun hc214 => ?_)
        · rw [if_pos hc214] at g_11
          exact jL_law_b1207 hk28 g_11
        · rw [if_neg hc214] at g_11
          refine J_iconst (pc := 217) (v := (0 : Int32)) (by decide) dL_law_217 ?_
          exact absurd (show (0 : Int32) = 1 from congrArg Prod.fst (Option.some.inj g_11)) (by decide)
      rw [if_neg hc43_0] at g_1
      by_cases hc43_1 : (a39 &&& (31 : Int32)) = (1 : Int32)
      · rw [if_pos hc43_1] at g_1
        refine J_tin (pc := 43) (tgt := 219) (off := (176)) (by rw [hc43_1]; decide) (by rw [hc43_1]; decide) (by rw [hc43_1]; decide) (by decide) dL_law_43 ?_
        refine J_aload_n (pc := 219) (q := 1) rfl rfl dL_law_219 ?_
        obtain ⟨b220, hb220, g_12⟩ := bnd g_1
        obtain ⟨r220, M220, h220, g_13⟩ := bnd2 g_12
        refine J_callVI (pc := 220) (as := []) (tX8_unway (d := d)  h220) cf_X8_unway cv_X8_unway clF8 hb220 ml_RL_26 (by omega) (Nat.le_of_ble_eq_true rfl) dL_law_220 ?_
        refine J_aload_n (pc := 223) (q := 2) rfl rfl dL_law_223 ?_
        obtain ⟨b224, hb224, g_14⟩ := bnd g_13
        obtain ⟨r224, M224, h224, g_15⟩ := bnd2 g_14
        refine J_callVI (pc := 224) (as := []) (tX9_unway (d := d)  h224) cf_X9_unway cv_X9_unway clF9 hb224 ml_RL_30 (by omega) (Nat.le_of_ble_eq_true rfl) dL_law_224 ?_
        refine J_iceq (pc := 227) (tgt := 1207) (by decide) dL_law_227 (fun hc227 => ?_) (fun hc227 => ?_)
        · rw [if_pos hc227] at g_15
          exact jL_law_b1207 hk28 g_15
        · rw [if_neg hc227] at g_15
          refine J_iconst (pc := 230) (v := (0 : Int32)) (by decide) dL_law_230 ?_
          exact absurd (show (0 : Int32) = 1 from congrArg Prod.fst (Option.some.inj g_15)) (by decide)
      rw [if_neg hc43_1] at g_1
      by_cases hc43_2 : (a39 &&& (31 : Int32)) = (2 : Int32)
      · rw [if_pos hc43_2] at g_1
        refine J_tin (pc := 43) (tgt := 232) (off := (189)) (by rw [hc43_2]; decide) (by rw [hc43_2]; decide) (by rw [hc43_2]; decide) (by decide) dL_law_43 ?_
        refine J_aload_n (pc := 232) (q := 1) rfl rfl dL_law_232 ?_
        refine J_aload_n (pc := 233) (q := 0) rfl rfl dL_law_233 ?_
        refine J_iload_n (pc := 234) (q := 3) rfl rfl dL_law_234 ?_
        refine J_iconst (pc := 235) (v := (1 : Int32)) (by decide) dL_law_235 ?_
        refine J_iadd (pc := 236) dL_law_236 ?_
        obtain ⟨a237, h237, g_16⟩ := bnd g_1
        refine J_sld (pc := 237) h237 dL_law_237 ?_
        refine J_aload_n (pc := 238) (q := 0) rfl rfl dL_law_238 ?_
        refine J_iload_n (pc := 239) (q := 3) rfl rfl dL_law_239 ?_
        refine J_iconst (pc := 240) (v := (2 : Int32)) (by decide) dL_law_240 ?_
        refine J_iadd (pc := 241) dL_law_241 ?_
        obtain ⟨a242, h242, g_17⟩ := bnd g_16
        refine J_sld (pc := 242) h242 dL_law_242 ?_
        obtain ⟨b243, hb243, g_18⟩ := bnd g_17
        obtain ⟨r243, M243, h243, g_19⟩ := bnd2 g_18
        refine J_callVI (pc := 243) (as := [vI a237, vI a242]) (tX8_wayTold (d := d)  h243) cf_X8_wayTold cv_X8_wayTold clF8 hb243 ml_RL_31 (by omega) (Nat.le_of_ble_eq_true rfl) dL_law_243 ?_
        refine J_aload_n (pc := 246) (q := 2) rfl rfl dL_law_246 ?_
        refine J_aload_n (pc := 247) (q := 0) rfl rfl dL_law_247 ?_
        refine J_iload_n (pc := 248) (q := 3) rfl rfl dL_law_248 ?_
        refine J_iconst (pc := 249) (v := (1 : Int32)) (by decide) dL_law_249 ?_
        refine J_iadd (pc := 250) dL_law_250 ?_
        obtain ⟨a251, h251, g_20⟩ := bnd g_19
        refine J_sld (pc := 251) h251 dL_law_251 ?_
        refine J_aload_n (pc := 252) (q := 0) rfl rfl dL_law_252 ?_
        refine J_iload_n (pc := 253) (q := 3) rfl rfl dL_law_253 ?_
        refine J_iconst (pc := 254) (v := (2 : Int32)) (by decide) dL_law_254 ?_
        refine J_iadd (pc := 255) dL_law_255 ?_
        obtain ⟨a256, h256, g_21⟩ := bnd g_20
        refine J_sld (pc := 256) h256 dL_law_256 ?_
        obtain ⟨b257, hb257, g_22⟩ := bnd g_21
        obtain ⟨r257, M257, h257, g_23⟩ := bnd2 g_22
        refine J_callVI (pc := 257) (as := [vI a251, vI a256]) (tX9_wayTold (d := d)  h257) cf_X9_wayTold cv_X9_wayTold clF9 hb257 ml_RL_35 (by omega) (Nat.le_of_ble_eq_true rfl) dL_law_257 ?_
        refine J_iceq (pc := 260) (tgt := 1207) (by decide) dL_law_260 (fun hc260 => ?_) (fun hc260 => ?_)
        · rw [if_pos hc260] at g_23
          exact jL_law_b1207 hk28 g_23
        · rw [if_neg hc260] at g_23
          refine J_iconst (pc := 263) (v := (0 : Int32)) (by decide) dL_law_263 ?_
          exact absurd (show (0 : Int32) = 1 from congrArg Prod.fst (Option.some.inj g_23)) (by decide)
      rw [if_neg hc43_2] at g_1
      by_cases hc43_3 : (a39 &&& (31 : Int32)) = (3 : Int32)
      · rw [if_pos hc43_3] at g_1
        refine J_tin (pc := 43) (tgt := 265) (off := (222)) (by rw [hc43_3]; decide) (by rw [hc43_3]; decide) (by rw [hc43_3]; decide) (by decide) dL_law_43 ?_
        refine J_aload_n (pc := 265) (q := 1) rfl rfl dL_law_265 ?_
        refine J_aload_n (pc := 266) (q := 0) rfl rfl dL_law_266 ?_
        refine J_iload_n (pc := 267) (q := 3) rfl rfl dL_law_267 ?_
        refine J_iconst (pc := 268) (v := (1 : Int32)) (by decide) dL_law_268 ?_
        refine J_iadd (pc := 269) dL_law_269 ?_
        obtain ⟨a270, h270, g_24⟩ := bnd g_1
        refine J_sld (pc := 270) h270 dL_law_270 ?_
        refine J_aload_n (pc := 271) (q := 0) rfl rfl dL_law_271 ?_
        refine J_iload_n (pc := 272) (q := 3) rfl rfl dL_law_272 ?_
        refine J_iconst (pc := 273) (v := (2 : Int32)) (by decide) dL_law_273 ?_
        refine J_iadd (pc := 274) dL_law_274 ?_
        obtain ⟨a275, h275, g_25⟩ := bnd g_24
        refine J_sld (pc := 275) h275 dL_law_275 ?_
        obtain ⟨b276, hb276, g_26⟩ := bnd g_25
        obtain ⟨r276, M276, h276, g_27⟩ := bnd2 g_26
        refine J_callVI (pc := 276) (as := [vI a270, vI a275]) (tX8_ground (d := d)  h276) cf_X8_ground cv_X8_ground clF8 hb276 ml_RL_36 (by omega) (Nat.le_of_ble_eq_true rfl) dL_law_276 ?_
        refine J_aload_n (pc := 279) (q := 2) rfl rfl dL_law_279 ?_
        refine J_aload_n (pc := 280) (q := 0) rfl rfl dL_law_280 ?_
        refine J_iload_n (pc := 281) (q := 3) rfl rfl dL_law_281 ?_
        refine J_iconst (pc := 282) (v := (1 : Int32)) (by decide) dL_law_282 ?_
        refine J_iadd (pc := 283) dL_law_283 ?_
        obtain ⟨a284, h284, g_28⟩ := bnd g_27
        refine J_sld (pc := 284) h284 dL_law_284 ?_
        refine J_aload_n (pc := 285) (q := 0) rfl rfl dL_law_285 ?_
        refine J_iload_n (pc := 286) (q := 3) rfl rfl dL_law_286 ?_
        refine J_iconst (pc := 287) (v := (2 : Int32)) (by decide) dL_law_287 ?_
        refine J_iadd (pc := 288) dL_law_288 ?_
        obtain ⟨a289, h289, g_29⟩ := bnd g_28
        refine J_sld (pc := 289) h289 dL_law_289 ?_
        obtain ⟨b290, hb290, g_30⟩ := bnd g_29
        obtain ⟨r290, M290, h290, g_31⟩ := bnd2 g_30
        refine J_callVI (pc := 290) (as := [vI a284, vI a289]) (tX9_ground (d := d)  h290) cf_X9_ground cv_X9_ground clF9 hb290 ml_RL_39 (by omega) (Nat.le_of_ble_eq_true rfl) dL_law_290 ?_
        refine J_iceq (pc := 293) (tgt := 1207) (by decide) dL_law_293 (fun hc293 => ?_) (fun hc293 => ?_)
        · rw [if_pos hc293] at g_31
          exact jL_law_b1207 hk28 g_31
        · rw [if_neg hc293] at g_31
          refine J_iconst (pc := 296) (v := (0 : Int32)) (by decide) dL_law_296 ?_
          exact absurd (show (0 : Int32) = 1 from congrArg Prod.fst (Option.some.inj g_31)) (by decide)
      rw [if_neg hc43_3] at g_1
      by_cases hc43_4 : (a39 &&& (31 : Int32)) = (4 : Int32)
      · rw [if_pos hc43_4] at g_1
        refine J_tin (pc := 43) (tgt := 298) (off := (255)) (by rw [hc43_4]; decide) (by rw [hc43_4]; decide) (by rw [hc43_4]; decide) (by decide) dL_law_43 ?_
        refine J_aload_n (pc := 298) (q := 1) rfl rfl dL_law_298 ?_
        refine J_aload_n (pc := 299) (q := 0) rfl rfl dL_law_299 ?_
        refine J_iload_n (pc := 300) (q := 3) rfl rfl dL_law_300 ?_
        refine J_iconst (pc := 301) (v := (1 : Int32)) (by decide) dL_law_301 ?_
        refine J_iadd (pc := 302) dL_law_302 ?_
        obtain ⟨a303, h303, g_32⟩ := bnd g_1
        refine J_sld (pc := 303) h303 dL_law_303 ?_
        refine J_aload_n (pc := 304) (q := 0) rfl rfl dL_law_304 ?_
        refine J_iload_n (pc := 305) (q := 3) rfl rfl dL_law_305 ?_
        refine J_iconst (pc := 306) (v := (2 : Int32)) (by decide) dL_law_306 ?_
        refine J_iadd (pc := 307) dL_law_307 ?_
        obtain ⟨a308, h308, g_33⟩ := bnd g_32
        refine J_sld (pc := 308) h308 dL_law_308 ?_
        obtain ⟨b309, hb309, g_34⟩ := bnd g_33
        obtain ⟨r309, M309, h309, g_35⟩ := bnd2 g_34
        refine J_callVI (pc := 309) (as := [vI a303, vI a308]) (tX8_tell (d := d)  h309) cf_X8_tell cv_X8_tell clF8 hb309 ml_RL_40 (by omega) (Nat.le_of_ble_eq_true rfl) dL_law_309 ?_
        refine J_aload_n (pc := 312) (q := 2) rfl rfl dL_law_312 ?_
        refine J_aload_n (pc := 313) (q := 0) rfl rfl dL_law_313 ?_
        refine J_iload_n (pc := 314) (q := 3) rfl rfl dL_law_314 ?_
        refine J_iconst (pc := 315) (v := (1 : Int32)) (by decide) dL_law_315 ?_
        refine J_iadd (pc := 316) dL_law_316 ?_
        obtain ⟨a317, h317, g_36⟩ := bnd g_35
        refine J_sld (pc := 317) h317 dL_law_317 ?_
        refine J_aload_n (pc := 318) (q := 0) rfl rfl dL_law_318 ?_
        refine J_iload_n (pc := 319) (q := 3) rfl rfl dL_law_319 ?_
        refine J_iconst (pc := 320) (v := (2 : Int32)) (by decide) dL_law_320 ?_
        refine J_iadd (pc := 321) dL_law_321 ?_
        obtain ⟨a322, h322, g_37⟩ := bnd g_36
        refine J_sld (pc := 322) h322 dL_law_322 ?_
        obtain ⟨b323, hb323, g_38⟩ := bnd g_37
        obtain ⟨r323, M323, h323, g_39⟩ := bnd2 g_38
        refine J_callVI (pc := 323) (as := [vI a317, vI a322]) (tX9_tell (d := d)  h323) cf_X9_tell cv_X9_tell clF9 hb323 ml_RL_43 (by omega) (Nat.le_of_ble_eq_true rfl) dL_law_323 ?_
        refine J_iceq (pc := 326) (tgt := 1207) (by decide) dL_law_326 (fun hc326 => ?_) (fun hc326 => ?_)
        · rw [if_pos hc326] at g_39
          exact jL_law_b1207 hk28 g_39
        · rw [if_neg hc326] at g_39
          refine J_iconst (pc := 329) (v := (0 : Int32)) (by decide) dL_law_329 ?_
          exact absurd (show (0 : Int32) = 1 from congrArg Prod.fst (Option.some.inj g_39)) (by decide)
      rw [if_neg hc43_4] at g_1
      by_cases hc43_5 : (a39 &&& (31 : Int32)) = (5 : Int32)
      · rw [if_pos hc43_5] at g_1
        refine J_tin (pc := 43) (tgt := 331) (off := (288)) (by rw [hc43_5]; decide) (by rw [hc43_5]; decide) (by rw [hc43_5]; decide) (by decide) dL_law_43 ?_
        refine J_aload_n (pc := 331) (q := 1) rfl rfl dL_law_331 ?_
        refine J_aload_n (pc := 332) (q := 0) rfl rfl dL_law_332 ?_
        refine J_iload_n (pc := 333) (q := 3) rfl rfl dL_law_333 ?_
        refine J_iconst (pc := 334) (v := (1 : Int32)) (by decide) dL_law_334 ?_
        refine J_iadd (pc := 335) dL_law_335 ?_
        obtain ⟨a336, h336, g_40⟩ := bnd g_1
        refine J_sld (pc := 336) h336 dL_law_336 ?_
        refine J_aload_n (pc := 337) (q := 0) rfl rfl dL_law_337 ?_
        refine J_iload_n (pc := 338) (q := 3) rfl rfl dL_law_338 ?_
        refine J_iconst (pc := 339) (v := (2 : Int32)) (by decide) dL_law_339 ?_
        refine J_iadd (pc := 340) dL_law_340 ?_
        obtain ⟨a341, h341, g_41⟩ := bnd g_40
        refine J_sld (pc := 341) h341 dL_law_341 ?_
        refine J_aload_n (pc := 342) (q := 0) rfl rfl dL_law_342 ?_
        refine J_iload_n (pc := 343) (q := 3) rfl rfl dL_law_343 ?_
        refine J_iconst (pc := 344) (v := (3 : Int32)) (by decide) dL_law_344 ?_
        refine J_iadd (pc := 345) dL_law_345 ?_
        obtain ⟨a346, h346, g_42⟩ := bnd g_41
        refine J_sld (pc := 346) h346 dL_law_346 ?_
        refine J_aload_n (pc := 347) (q := 0) rfl rfl dL_law_347 ?_
        refine J_iload_n (pc := 348) (q := 3) rfl rfl dL_law_348 ?_
        refine J_iconst (pc := 349) (v := (4 : Int32)) (by decide) dL_law_349 ?_
        refine J_iadd (pc := 350) dL_law_350 ?_
        obtain ⟨a351, h351, g_43⟩ := bnd g_42
        refine J_sld (pc := 351) h351 dL_law_351 ?_
        refine J_aload_n (pc := 352) (q := 0) rfl rfl dL_law_352 ?_
        refine J_iload_n (pc := 353) (q := 3) rfl rfl dL_law_353 ?_
        refine J_iconst (pc := 354) (v := (5 : Int32)) (by decide) dL_law_354 ?_
        refine J_iadd (pc := 355) dL_law_355 ?_
        obtain ⟨a356, h356, g_44⟩ := bnd g_43
        refine J_sld (pc := 356) h356 dL_law_356 ?_
        obtain ⟨b357, hb357, g_45⟩ := bnd g_44
        obtain ⟨r357, M357, h357, g_46⟩ := bnd2 g_45
        refine J_callVI (pc := 357) (as := [vI a336, vI a341, vI a346, vI a351, vI a356]) (tX8_length (d := d)  h357) cf_X8_length cv_X8_length clF8 hb357 ml_RL_44 (by omega) (Nat.le_of_ble_eq_true rfl) dL_law_357 ?_
        refine J_aload_n (pc := 360) (q := 2) rfl rfl dL_law_360 ?_
        refine J_aload_n (pc := 361) (q := 0) rfl rfl dL_law_361 ?_
        refine J_iload_n (pc := 362) (q := 3) rfl rfl dL_law_362 ?_
        refine J_iconst (pc := 363) (v := (1 : Int32)) (by decide) dL_law_363 ?_
        refine J_iadd (pc := 364) dL_law_364 ?_
        obtain ⟨a365, h365, g_47⟩ := bnd g_46
        refine J_sld (pc := 365) h365 dL_law_365 ?_
        refine J_aload_n (pc := 366) (q := 0) rfl rfl dL_law_366 ?_
        refine J_iload_n (pc := 367) (q := 3) rfl rfl dL_law_367 ?_
        refine J_iconst (pc := 368) (v := (2 : Int32)) (by decide) dL_law_368 ?_
        refine J_iadd (pc := 369) dL_law_369 ?_
        obtain ⟨a370, h370, g_48⟩ := bnd g_47
        refine J_sld (pc := 370) h370 dL_law_370 ?_
        refine J_aload_n (pc := 371) (q := 0) rfl rfl dL_law_371 ?_
        refine J_iload_n (pc := 372) (q := 3) rfl rfl dL_law_372 ?_
        refine J_iconst (pc := 373) (v := (3 : Int32)) (by decide) dL_law_373 ?_
        refine J_iadd (pc := 374) dL_law_374 ?_
        obtain ⟨a375, h375, g_49⟩ := bnd g_48
        refine J_sld (pc := 375) h375 dL_law_375 ?_
        refine J_aload_n (pc := 376) (q := 0) rfl rfl dL_law_376 ?_
        refine J_iload_n (pc := 377) (q := 3) rfl rfl dL_law_377 ?_
        refine J_iconst (pc := 378) (v := (4 : Int32)) (by decide) dL_law_378 ?_
        refine J_iadd (pc := 379) dL_law_379 ?_
        obtain ⟨a380, h380, g_50⟩ := bnd g_49
        refine J_sld (pc := 380) h380 dL_law_380 ?_
        refine J_aload_n (pc := 381) (q := 0) rfl rfl dL_law_381 ?_
        refine J_iload_n (pc := 382) (q := 3) rfl rfl dL_law_382 ?_
        refine J_iconst (pc := 383) (v := (5 : Int32)) (by decide) dL_law_383 ?_
        refine J_iadd (pc := 384) dL_law_384 ?_
        obtain ⟨a385, h385, g_51⟩ := bnd g_50
        refine J_sld (pc := 385) h385 dL_law_385 ?_
        obtain ⟨b386, hb386, g_52⟩ := bnd g_51
        obtain ⟨r386, M386, h386, g_53⟩ := bnd2 g_52
        refine J_callVI (pc := 386) (as := [vI a365, vI a370, vI a375, vI a380, vI a385]) (tX9_length (d := d)  h386) cf_X9_length cv_X9_length clF9 hb386 ml_RL_48 (by omega) (Nat.le_of_ble_eq_true rfl) dL_law_386 ?_
        refine J_iceq (pc := 389) (tgt := 1207) (by decide) dL_law_389 (fun hc389 => ?_) (fun hc389 => ?_)
        · rw [if_pos hc389] at g_53
          exact jL_law_b1207 hk28 g_53
        · rw [if_neg hc389] at g_53
          refine J_iconst (pc := 392) (v := (0 : Int32)) (by decide) dL_law_392 ?_
          exact absurd (show (0 : Int32) = 1 from congrArg Prod.fst (Option.some.inj g_53)) (by decide)
      rw [if_neg hc43_5] at g_1
      by_cases hc43_6 : (a39 &&& (31 : Int32)) = (6 : Int32)
      · rw [if_pos hc43_6] at g_1
        refine J_tin (pc := 43) (tgt := 394) (off := (351)) (by rw [hc43_6]; decide) (by rw [hc43_6]; decide) (by rw [hc43_6]; decide) (by decide) dL_law_43 ?_
        refine J_aload_n (pc := 394) (q := 1) rfl rfl dL_law_394 ?_
        refine J_aload_n (pc := 395) (q := 0) rfl rfl dL_law_395 ?_
        refine J_iload_n (pc := 396) (q := 3) rfl rfl dL_law_396 ?_
        refine J_iconst (pc := 397) (v := (1 : Int32)) (by decide) dL_law_397 ?_
        refine J_iadd (pc := 398) dL_law_398 ?_
        obtain ⟨a399, h399, g_54⟩ := bnd g_1
        refine J_sld (pc := 399) h399 dL_law_399 ?_
        refine J_aload_n (pc := 400) (q := 0) rfl rfl dL_law_400 ?_
        refine J_iload_n (pc := 401) (q := 3) rfl rfl dL_law_401 ?_
        refine J_iconst (pc := 402) (v := (2 : Int32)) (by decide) dL_law_402 ?_
        refine J_iadd (pc := 403) dL_law_403 ?_
        obtain ⟨a404, h404, g_55⟩ := bnd g_54
        refine J_sld (pc := 404) h404 dL_law_404 ?_
        refine J_aload_n (pc := 405) (q := 0) rfl rfl dL_law_405 ?_
        refine J_iload_n (pc := 406) (q := 3) rfl rfl dL_law_406 ?_
        refine J_iconst (pc := 407) (v := (3 : Int32)) (by decide) dL_law_407 ?_
        refine J_iadd (pc := 408) dL_law_408 ?_
        obtain ⟨a409, h409, g_56⟩ := bnd g_55
        refine J_sld (pc := 409) h409 dL_law_409 ?_
        refine J_aload_n (pc := 410) (q := 0) rfl rfl dL_law_410 ?_
        refine J_iload_n (pc := 411) (q := 3) rfl rfl dL_law_411 ?_
        refine J_iconst (pc := 412) (v := (4 : Int32)) (by decide) dL_law_412 ?_
        refine J_iadd (pc := 413) dL_law_413 ?_
        obtain ⟨a414, h414, g_57⟩ := bnd g_56
        refine J_sld (pc := 414) h414 dL_law_414 ?_
        refine J_aload_n (pc := 415) (q := 0) rfl rfl dL_law_415 ?_
        refine J_iload_n (pc := 416) (q := 3) rfl rfl dL_law_416 ?_
        refine J_iconst (pc := 417) (v := (5 : Int32)) (by decide) dL_law_417 ?_
        refine J_iadd (pc := 418) dL_law_418 ?_
        obtain ⟨a419, h419, g_58⟩ := bnd g_57
        refine J_sld (pc := 419) h419 dL_law_419 ?_
        obtain ⟨b420, hb420, g_59⟩ := bnd g_58
        obtain ⟨r420, M420, h420, g_60⟩ := bnd2 g_59
        refine J_callVI (pc := 420) (as := [vI a399, vI a404, vI a409, vI a414, vI a419]) (tX8_best (d := d)  h420) cf_X8_best cv_X8_best clF8 hb420 ml_RL_49 (by omega) (Nat.le_of_ble_eq_true rfl) dL_law_420 ?_
        refine J_aload_n (pc := 423) (q := 2) rfl rfl dL_law_423 ?_
        refine J_aload_n (pc := 424) (q := 0) rfl rfl dL_law_424 ?_
        refine J_iload_n (pc := 425) (q := 3) rfl rfl dL_law_425 ?_
        refine J_iconst (pc := 426) (v := (1 : Int32)) (by decide) dL_law_426 ?_
        refine J_iadd (pc := 427) dL_law_427 ?_
        obtain ⟨a428, h428, g_61⟩ := bnd g_60
        refine J_sld (pc := 428) h428 dL_law_428 ?_
        refine J_aload_n (pc := 429) (q := 0) rfl rfl dL_law_429 ?_
        refine J_iload_n (pc := 430) (q := 3) rfl rfl dL_law_430 ?_
        refine J_iconst (pc := 431) (v := (2 : Int32)) (by decide) dL_law_431 ?_
        refine J_iadd (pc := 432) dL_law_432 ?_
        obtain ⟨a433, h433, g_62⟩ := bnd g_61
        refine J_sld (pc := 433) h433 dL_law_433 ?_
        refine J_aload_n (pc := 434) (q := 0) rfl rfl dL_law_434 ?_
        refine J_iload_n (pc := 435) (q := 3) rfl rfl dL_law_435 ?_
        refine J_iconst (pc := 436) (v := (3 : Int32)) (by decide) dL_law_436 ?_
        refine J_iadd (pc := 437) dL_law_437 ?_
        obtain ⟨a438, h438, g_63⟩ := bnd g_62
        refine J_sld (pc := 438) h438 dL_law_438 ?_
        refine J_aload_n (pc := 439) (q := 0) rfl rfl dL_law_439 ?_
        refine J_iload_n (pc := 440) (q := 3) rfl rfl dL_law_440 ?_
        refine J_iconst (pc := 441) (v := (4 : Int32)) (by decide) dL_law_441 ?_
        refine J_iadd (pc := 442) dL_law_442 ?_
        obtain ⟨a443, h443, g_64⟩ := bnd g_63
        refine J_sld (pc := 443) h443 dL_law_443 ?_
        refine J_aload_n (pc := 444) (q := 0) rfl rfl dL_law_444 ?_
        refine J_iload_n (pc := 445) (q := 3) rfl rfl dL_law_445 ?_
        refine J_iconst (pc := 446) (v := (5 : Int32)) (by decide) dL_law_446 ?_
        refine J_iadd (pc := 447) dL_law_447 ?_
        obtain ⟨a448, h448, g_65⟩ := bnd g_64
        refine J_sld (pc := 448) h448 dL_law_448 ?_
        obtain ⟨b449, hb449, g_66⟩ := bnd g_65
        obtain ⟨r449, M449, h449, g_67⟩ := bnd2 g_66
        refine J_callVI (pc := 449) (as := [vI a428, vI a433, vI a438, vI a443, vI a448]) (tX9_best (d := d)  h449) cf_X9_best cv_X9_best clF9 hb449 ml_RL_52 (by omega) (Nat.le_of_ble_eq_true rfl) dL_law_449 ?_
        refine J_iceq (pc := 452) (tgt := 1207) (by decide) dL_law_452 (fun hc452 => ?_) (fun hc452 => ?_)
        · rw [if_pos hc452] at g_67
          exact jL_law_b1207 hk28 g_67
        · rw [if_neg hc452] at g_67
          refine J_iconst (pc := 455) (v := (0 : Int32)) (by decide) dL_law_455 ?_
          exact absurd (show (0 : Int32) = 1 from congrArg Prod.fst (Option.some.inj g_67)) (by decide)
      rw [if_neg hc43_6] at g_1
      by_cases hc43_7 : (a39 &&& (31 : Int32)) = (7 : Int32)
      · rw [if_pos hc43_7] at g_1
        refine J_tin (pc := 43) (tgt := 457) (off := (414)) (by rw [hc43_7]; decide) (by rw [hc43_7]; decide) (by rw [hc43_7]; decide) (by decide) dL_law_43 ?_
        refine J_aload_n (pc := 457) (q := 1) rfl rfl dL_law_457 ?_
        refine J_aload_n (pc := 458) (q := 0) rfl rfl dL_law_458 ?_
        refine J_iload_n (pc := 459) (q := 3) rfl rfl dL_law_459 ?_
        refine J_iconst (pc := 460) (v := (1 : Int32)) (by decide) dL_law_460 ?_
        refine J_iadd (pc := 461) dL_law_461 ?_
        obtain ⟨a462, h462, g_68⟩ := bnd g_1
        refine J_sld (pc := 462) h462 dL_law_462 ?_
        refine J_aload_n (pc := 463) (q := 0) rfl rfl dL_law_463 ?_
        refine J_iload_n (pc := 464) (q := 3) rfl rfl dL_law_464 ?_
        refine J_iconst (pc := 465) (v := (2 : Int32)) (by decide) dL_law_465 ?_
        refine J_iadd (pc := 466) dL_law_466 ?_
        obtain ⟨a467, h467, g_69⟩ := bnd g_68
        refine J_sld (pc := 467) h467 dL_law_467 ?_
        refine J_aload_n (pc := 468) (q := 0) rfl rfl dL_law_468 ?_
        refine J_iload_n (pc := 469) (q := 3) rfl rfl dL_law_469 ?_
        refine J_iconst (pc := 470) (v := (3 : Int32)) (by decide) dL_law_470 ?_
        refine J_iadd (pc := 471) dL_law_471 ?_
        obtain ⟨a472, h472, g_70⟩ := bnd g_69
        refine J_sld (pc := 472) h472 dL_law_472 ?_
        refine J_aload_n (pc := 473) (q := 0) rfl rfl dL_law_473 ?_
        refine J_iload_n (pc := 474) (q := 3) rfl rfl dL_law_474 ?_
        refine J_iconst (pc := 475) (v := (4 : Int32)) (by decide) dL_law_475 ?_
        refine J_iadd (pc := 476) dL_law_476 ?_
        obtain ⟨a477, h477, g_71⟩ := bnd g_70
        refine J_sld (pc := 477) h477 dL_law_477 ?_
        refine J_aload_n (pc := 478) (q := 0) rfl rfl dL_law_478 ?_
        refine J_iload_n (pc := 479) (q := 3) rfl rfl dL_law_479 ?_
        refine J_iconst (pc := 480) (v := (5 : Int32)) (by decide) dL_law_480 ?_
        refine J_iadd (pc := 481) dL_law_481 ?_
        obtain ⟨a482, h482, g_72⟩ := bnd g_71
        refine J_sld (pc := 482) h482 dL_law_482 ?_
        obtain ⟨b483, hb483, g_73⟩ := bnd g_72
        obtain ⟨r483, M483, h483, g_74⟩ := bnd2 g_73
        refine J_callVI (pc := 483) (as := [vI a462, vI a467, vI a472, vI a477, vI a482]) (tX8_moves (d := d)  h483) cf_X8_moves cv_X8_moves clF8 hb483 ml_RL_53 (by omega) (Nat.le_of_ble_eq_true rfl) dL_law_483 ?_
        refine J_aload_n (pc := 486) (q := 2) rfl rfl dL_law_486 ?_
        refine J_aload_n (pc := 487) (q := 0) rfl rfl dL_law_487 ?_
        refine J_iload_n (pc := 488) (q := 3) rfl rfl dL_law_488 ?_
        refine J_iconst (pc := 489) (v := (1 : Int32)) (by decide) dL_law_489 ?_
        refine J_iadd (pc := 490) dL_law_490 ?_
        obtain ⟨a491, h491, g_75⟩ := bnd g_74
        refine J_sld (pc := 491) h491 dL_law_491 ?_
        refine J_aload_n (pc := 492) (q := 0) rfl rfl dL_law_492 ?_
        refine J_iload_n (pc := 493) (q := 3) rfl rfl dL_law_493 ?_
        refine J_iconst (pc := 494) (v := (2 : Int32)) (by decide) dL_law_494 ?_
        refine J_iadd (pc := 495) dL_law_495 ?_
        obtain ⟨a496, h496, g_76⟩ := bnd g_75
        refine J_sld (pc := 496) h496 dL_law_496 ?_
        refine J_aload_n (pc := 497) (q := 0) rfl rfl dL_law_497 ?_
        refine J_iload_n (pc := 498) (q := 3) rfl rfl dL_law_498 ?_
        refine J_iconst (pc := 499) (v := (3 : Int32)) (by decide) dL_law_499 ?_
        refine J_iadd (pc := 500) dL_law_500 ?_
        obtain ⟨a501, h501, g_77⟩ := bnd g_76
        refine J_sld (pc := 501) h501 dL_law_501 ?_
        refine J_aload_n (pc := 502) (q := 0) rfl rfl dL_law_502 ?_
        refine J_iload_n (pc := 503) (q := 3) rfl rfl dL_law_503 ?_
        refine J_iconst (pc := 504) (v := (4 : Int32)) (by decide) dL_law_504 ?_
        refine J_iadd (pc := 505) dL_law_505 ?_
        obtain ⟨a506, h506, g_78⟩ := bnd g_77
        refine J_sld (pc := 506) h506 dL_law_506 ?_
        refine J_aload_n (pc := 507) (q := 0) rfl rfl dL_law_507 ?_
        refine J_iload_n (pc := 508) (q := 3) rfl rfl dL_law_508 ?_
        refine J_iconst (pc := 509) (v := (5 : Int32)) (by decide) dL_law_509 ?_
        refine J_iadd (pc := 510) dL_law_510 ?_
        obtain ⟨a511, h511, g_79⟩ := bnd g_78
        refine J_sld (pc := 511) h511 dL_law_511 ?_
        obtain ⟨b512, hb512, g_80⟩ := bnd g_79
        obtain ⟨r512, M512, h512, g_81⟩ := bnd2 g_80
        refine J_callVI (pc := 512) (as := [vI a491, vI a496, vI a501, vI a506, vI a511]) (tX9_moves (d := d)  h512) cf_X9_moves cv_X9_moves clF9 hb512 ml_RL_56 (by omega) (Nat.le_of_ble_eq_true rfl) dL_law_512 ?_
        refine J_iceq (pc := 515) (tgt := 1207) (by decide) dL_law_515 (fun hc515 => ?_) (fun hc515 => ?_)
        · rw [if_pos hc515] at g_81
          exact jL_law_b1207 hk28 g_81
        · rw [if_neg hc515] at g_81
          refine J_iconst (pc := 518) (v := (0 : Int32)) (by decide) dL_law_518 ?_
          exact absurd (show (0 : Int32) = 1 from congrArg Prod.fst (Option.some.inj g_81)) (by decide)
      rw [if_neg hc43_7] at g_1
      by_cases hc43_8 : (a39 &&& (31 : Int32)) = (8 : Int32)
      · rw [if_pos hc43_8] at g_1
        refine J_tin (pc := 43) (tgt := 520) (off := (477)) (by rw [hc43_8]; decide) (by rw [hc43_8]; decide) (by rw [hc43_8]; decide) (by decide) dL_law_43 ?_
        refine J_aload_n (pc := 520) (q := 1) rfl rfl dL_law_520 ?_
        refine J_aload_n (pc := 521) (q := 0) rfl rfl dL_law_521 ?_
        refine J_iload_n (pc := 522) (q := 3) rfl rfl dL_law_522 ?_
        refine J_iconst (pc := 523) (v := (1 : Int32)) (by decide) dL_law_523 ?_
        refine J_iadd (pc := 524) dL_law_524 ?_
        obtain ⟨a525, h525, g_82⟩ := bnd g_1
        refine J_sld (pc := 525) h525 dL_law_525 ?_
        obtain ⟨b526, hb526, g_83⟩ := bnd g_82
        obtain ⟨r526, M526, h526, g_84⟩ := bnd2 g_83
        refine J_callVI (pc := 526) (as := [vI a525]) (tX8_solved (d := d)  h526) cf_X8_solved cv_X8_solved clF8 hb526 ml_RL_57 (by omega) (Nat.le_of_ble_eq_true rfl) dL_law_526 ?_
        refine J_aload_n (pc := 529) (q := 2) rfl rfl dL_law_529 ?_
        refine J_aload_n (pc := 530) (q := 0) rfl rfl dL_law_530 ?_
        refine J_iload_n (pc := 531) (q := 3) rfl rfl dL_law_531 ?_
        refine J_iconst (pc := 532) (v := (1 : Int32)) (by decide) dL_law_532 ?_
        refine J_iadd (pc := 533) dL_law_533 ?_
        obtain ⟨a534, h534, g_85⟩ := bnd g_84
        refine J_sld (pc := 534) h534 dL_law_534 ?_
        obtain ⟨b535, hb535, g_86⟩ := bnd g_85
        obtain ⟨r535, M535, h535, g_87⟩ := bnd2 g_86
        refine J_callVI (pc := 535) (as := [vI a534]) (tX9_solved (d := d)  h535) cf_X9_solved cv_X9_solved clF9 hb535 ml_RL_61 (by omega) (Nat.le_of_ble_eq_true rfl) dL_law_535 ?_
        refine J_iceq (pc := 538) (tgt := 1207) (by decide) dL_law_538 (fun hc538 => ?_) (fun hc538 => ?_)
        · rw [if_pos hc538] at g_87
          exact jL_law_b1207 hk28 g_87
        · rw [if_neg hc538] at g_87
          refine J_iconst (pc := 541) (v := (0 : Int32)) (by decide) dL_law_541 ?_
          exact absurd (show (0 : Int32) = 1 from congrArg Prod.fst (Option.some.inj g_87)) (by decide)
      rw [if_neg hc43_8] at g_1
      by_cases hc43_9 : (a39 &&& (31 : Int32)) = (9 : Int32)
      · rw [if_pos hc43_9] at g_1
        refine J_tin (pc := 43) (tgt := 543) (off := (500)) (by rw [hc43_9]; decide) (by rw [hc43_9]; decide) (by rw [hc43_9]; decide) (by decide) dL_law_43 ?_
        refine J_aload_n (pc := 543) (q := 1) rfl rfl dL_law_543 ?_
        refine J_aload_n (pc := 544) (q := 0) rfl rfl dL_law_544 ?_
        refine J_iload_n (pc := 545) (q := 3) rfl rfl dL_law_545 ?_
        refine J_iconst (pc := 546) (v := (1 : Int32)) (by decide) dL_law_546 ?_
        refine J_iadd (pc := 547) dL_law_547 ?_
        obtain ⟨a548, h548, g_88⟩ := bnd g_1
        refine J_sld (pc := 548) h548 dL_law_548 ?_
        refine J_aload_n (pc := 549) (q := 0) rfl rfl dL_law_549 ?_
        refine J_iload_n (pc := 550) (q := 3) rfl rfl dL_law_550 ?_
        refine J_iconst (pc := 551) (v := (2 : Int32)) (by decide) dL_law_551 ?_
        refine J_iadd (pc := 552) dL_law_552 ?_
        obtain ⟨a553, h553, g_89⟩ := bnd g_88
        refine J_sld (pc := 553) h553 dL_law_553 ?_
        obtain ⟨b554, hb554, g_90⟩ := bnd g_89
        obtain ⟨r554, M554, h554, g_91⟩ := bnd2 g_90
        refine J_callVI (pc := 554) (as := [vI a548, vI a553]) (tX8_puzzle (d := d)  h554) cf_X8_puzzle cv_X8_puzzle clF8 hb554 ml_RL_62 (by omega) (Nat.le_of_ble_eq_true rfl) dL_law_554 ?_
        refine J_aload_n (pc := 557) (q := 2) rfl rfl dL_law_557 ?_
        refine J_aload_n (pc := 558) (q := 0) rfl rfl dL_law_558 ?_
        refine J_iload_n (pc := 559) (q := 3) rfl rfl dL_law_559 ?_
        refine J_iconst (pc := 560) (v := (1 : Int32)) (by decide) dL_law_560 ?_
        refine J_iadd (pc := 561) dL_law_561 ?_
        obtain ⟨a562, h562, g_92⟩ := bnd g_91
        refine J_sld (pc := 562) h562 dL_law_562 ?_
        refine J_aload_n (pc := 563) (q := 0) rfl rfl dL_law_563 ?_
        refine J_iload_n (pc := 564) (q := 3) rfl rfl dL_law_564 ?_
        refine J_iconst (pc := 565) (v := (2 : Int32)) (by decide) dL_law_565 ?_
        refine J_iadd (pc := 566) dL_law_566 ?_
        obtain ⟨a567, h567, g_93⟩ := bnd g_92
        refine J_sld (pc := 567) h567 dL_law_567 ?_
        obtain ⟨b568, hb568, g_94⟩ := bnd g_93
        obtain ⟨r568, M568, h568, g_95⟩ := bnd2 g_94
        refine J_callVI (pc := 568) (as := [vI a562, vI a567]) (tX9_puzzle (d := d)  h568) cf_X9_puzzle cv_X9_puzzle clF9 hb568 ml_RL_65 (by omega) (Nat.le_of_ble_eq_true rfl) dL_law_568 ?_
        refine J_iceq (pc := 571) (tgt := 1207) (by decide) dL_law_571 (fun hc571 => ?_) (fun hc571 => ?_)
        · rw [if_pos hc571] at g_95
          exact jL_law_b1207 hk28 g_95
        · rw [if_neg hc571] at g_95
          refine J_iconst (pc := 574) (v := (0 : Int32)) (by decide) dL_law_574 ?_
          exact absurd (show (0 : Int32) = 1 from congrArg Prod.fst (Option.some.inj g_95)) (by decide)
      rw [if_neg hc43_9] at g_1
      by_cases hc43_10 : (a39 &&& (31 : Int32)) = (10 : Int32)
      · rw [if_pos hc43_10] at g_1
        refine J_tin (pc := 43) (tgt := 576) (off := (533)) (by rw [hc43_10]; decide) (by rw [hc43_10]; decide) (by rw [hc43_10]; decide) (by decide) dL_law_43 ?_
        refine J_aload_n (pc := 576) (q := 1) rfl rfl dL_law_576 ?_
        obtain ⟨b577, hb577, g_96⟩ := bnd g_1
        obtain ⟨r577, M577, h577, g_97⟩ := bnd2 g_96
        refine J_callVI (pc := 577) (as := []) (tX8_turnings (d := d)  h577) cf_X8_turnings cv_X8_turnings clF8 hb577 ml_RL_66 (by omega) (Nat.le_of_ble_eq_true rfl) dL_law_577 ?_
        refine J_aload_n (pc := 580) (q := 2) rfl rfl dL_law_580 ?_
        obtain ⟨b581, hb581, g_98⟩ := bnd g_97
        obtain ⟨r581, M581, h581, g_99⟩ := bnd2 g_98
        refine J_callVI (pc := 581) (as := []) (tX9_turnings (d := d)  h581) cf_X9_turnings cv_X9_turnings clF9 hb581 ml_RL_69 (by omega) (Nat.le_of_ble_eq_true rfl) dL_law_581 ?_
        refine J_iceq (pc := 584) (tgt := 1207) (by decide) dL_law_584 (fun hc584 => ?_) (fun hc584 => ?_)
        · rw [if_pos hc584] at g_99
          exact jL_law_b1207 hk28 g_99
        · rw [if_neg hc584] at g_99
          refine J_iconst (pc := 587) (v := (0 : Int32)) (by decide) dL_law_587 ?_
          exact absurd (show (0 : Int32) = 1 from congrArg Prod.fst (Option.some.inj g_99)) (by decide)
      rw [if_neg hc43_10] at g_1
      by_cases hc43_11 : (a39 &&& (31 : Int32)) = (11 : Int32)
      · rw [if_pos hc43_11] at g_1
        refine J_tin (pc := 43) (tgt := 589) (off := (546)) (by rw [hc43_11]; decide) (by rw [hc43_11]; decide) (by rw [hc43_11]; decide) (by decide) dL_law_43 ?_
        refine J_aload_n (pc := 589) (q := 1) rfl rfl dL_law_589 ?_
        refine J_aload_n (pc := 590) (q := 0) rfl rfl dL_law_590 ?_
        refine J_iload_n (pc := 591) (q := 3) rfl rfl dL_law_591 ?_
        refine J_iconst (pc := 592) (v := (1 : Int32)) (by decide) dL_law_592 ?_
        refine J_iadd (pc := 593) dL_law_593 ?_
        obtain ⟨a594, h594, g_100⟩ := bnd g_1
        refine J_sld (pc := 594) h594 dL_law_594 ?_
        refine J_aload_n (pc := 595) (q := 0) rfl rfl dL_law_595 ?_
        refine J_iload_n (pc := 596) (q := 3) rfl rfl dL_law_596 ?_
        refine J_iconst (pc := 597) (v := (2 : Int32)) (by decide) dL_law_597 ?_
        refine J_iadd (pc := 598) dL_law_598 ?_
        obtain ⟨a599, h599, g_101⟩ := bnd g_100
        refine J_sld (pc := 599) h599 dL_law_599 ?_
        refine J_aload_n (pc := 600) (q := 0) rfl rfl dL_law_600 ?_
        refine J_iload_n (pc := 601) (q := 3) rfl rfl dL_law_601 ?_
        refine J_iconst (pc := 602) (v := (3 : Int32)) (by decide) dL_law_602 ?_
        refine J_iadd (pc := 603) dL_law_603 ?_
        obtain ⟨a604, h604, g_102⟩ := bnd g_101
        refine J_sld (pc := 604) h604 dL_law_604 ?_
        obtain ⟨b605, hb605, g_103⟩ := bnd g_102
        obtain ⟨r605, M605, h605, g_104⟩ := bnd2 g_103
        refine J_callVI (pc := 605) (as := [vI a594, vI a599, vI a604]) (tX8_alike (d := d)  h605) cf_X8_alike cv_X8_alike clF8 hb605 ml_RL_70 (by omega) (Nat.le_of_ble_eq_true rfl) dL_law_605 ?_
        refine J_aload_n (pc := 608) (q := 2) rfl rfl dL_law_608 ?_
        refine J_aload_n (pc := 609) (q := 0) rfl rfl dL_law_609 ?_
        refine J_iload_n (pc := 610) (q := 3) rfl rfl dL_law_610 ?_
        refine J_iconst (pc := 611) (v := (1 : Int32)) (by decide) dL_law_611 ?_
        refine J_iadd (pc := 612) dL_law_612 ?_
        obtain ⟨a613, h613, g_105⟩ := bnd g_104
        refine J_sld (pc := 613) h613 dL_law_613 ?_
        refine J_aload_n (pc := 614) (q := 0) rfl rfl dL_law_614 ?_
        refine J_iload_n (pc := 615) (q := 3) rfl rfl dL_law_615 ?_
        refine J_iconst (pc := 616) (v := (2 : Int32)) (by decide) dL_law_616 ?_
        refine J_iadd (pc := 617) dL_law_617 ?_
        obtain ⟨a618, h618, g_106⟩ := bnd g_105
        refine J_sld (pc := 618) h618 dL_law_618 ?_
        refine J_aload_n (pc := 619) (q := 0) rfl rfl dL_law_619 ?_
        refine J_iload_n (pc := 620) (q := 3) rfl rfl dL_law_620 ?_
        refine J_iconst (pc := 621) (v := (3 : Int32)) (by decide) dL_law_621 ?_
        refine J_iadd (pc := 622) dL_law_622 ?_
        obtain ⟨a623, h623, g_107⟩ := bnd g_106
        refine J_sld (pc := 623) h623 dL_law_623 ?_
        obtain ⟨b624, hb624, g_108⟩ := bnd g_107
        obtain ⟨r624, M624, h624, g_109⟩ := bnd2 g_108
        refine J_callVI (pc := 624) (as := [vI a613, vI a618, vI a623]) (tX9_alike (d := d)  h624) cf_X9_alike cv_X9_alike clF9 hb624 ml_RL_73 (by omega) (Nat.le_of_ble_eq_true rfl) dL_law_624 ?_
        refine J_iceq (pc := 627) (tgt := 1207) (by decide) dL_law_627 (fun hc627 => ?_) (fun hc627 => ?_)
        · rw [if_pos hc627] at g_109
          exact jL_law_b1207 hk28 g_109
        · rw [if_neg hc627] at g_109
          refine J_iconst (pc := 630) (v := (0 : Int32)) (by decide) dL_law_630 ?_
          exact absurd (show (0 : Int32) = 1 from congrArg Prod.fst (Option.some.inj g_109)) (by decide)
      rw [if_neg hc43_11] at g_1
      by_cases hc43_12 : (a39 &&& (31 : Int32)) = (12 : Int32)
      · rw [if_pos hc43_12] at g_1
        refine J_tin (pc := 43) (tgt := 632) (off := (589)) (by rw [hc43_12]; decide) (by rw [hc43_12]; decide) (by rw [hc43_12]; decide) (by decide) dL_law_43 ?_
        refine J_aload_n (pc := 632) (q := 1) rfl rfl dL_law_632 ?_
        obtain ⟨b633, hb633, g_110⟩ := bnd g_1
        obtain ⟨r633, M633, h633, g_111⟩ := bnd2 g_110
        refine J_callVI (pc := 633) (as := []) (tX8_fairer (d := d)  h633) cf_X8_fairer cv_X8_fairer clF8 hb633 ml_RL_74 (by omega) (Nat.le_of_ble_eq_true rfl) dL_law_633 ?_
        refine J_aload_n (pc := 636) (q := 2) rfl rfl dL_law_636 ?_
        obtain ⟨b637, hb637, g_112⟩ := bnd g_111
        obtain ⟨r637, M637, h637, g_113⟩ := bnd2 g_112
        refine J_callVI (pc := 637) (as := []) (tX9_fairer (d := d)  h637) cf_X9_fairer cv_X9_fairer clF9 hb637 ml_RL_77 (by omega) (Nat.le_of_ble_eq_true rfl) dL_law_637 ?_
        refine J_iceq (pc := 640) (tgt := 1207) (by decide) dL_law_640 (fun hc640 => ?_) (fun hc640 => ?_)
        · rw [if_pos hc640] at g_113
          exact jL_law_b1207 hk28 g_113
        · rw [if_neg hc640] at g_113
          refine J_iconst (pc := 643) (v := (0 : Int32)) (by decide) dL_law_643 ?_
          exact absurd (show (0 : Int32) = 1 from congrArg Prod.fst (Option.some.inj g_113)) (by decide)
      rw [if_neg hc43_12] at g_1
      by_cases hc43_13 : (a39 &&& (31 : Int32)) = (13 : Int32)
      · rw [if_pos hc43_13] at g_1
        refine J_tin (pc := 43) (tgt := 645) (off := (602)) (by rw [hc43_13]; decide) (by rw [hc43_13]; decide) (by rw [hc43_13]; decide) (by decide) dL_law_43 ?_
        refine J_aload_n (pc := 645) (q := 1) rfl rfl dL_law_645 ?_
        refine J_aload_n (pc := 646) (q := 0) rfl rfl dL_law_646 ?_
        refine J_iload_n (pc := 647) (q := 3) rfl rfl dL_law_647 ?_
        refine J_iconst (pc := 648) (v := (1 : Int32)) (by decide) dL_law_648 ?_
        refine J_iadd (pc := 649) dL_law_649 ?_
        obtain ⟨a650, h650, g_114⟩ := bnd g_1
        refine J_sld (pc := 650) h650 dL_law_650 ?_
        refine J_aload_n (pc := 651) (q := 0) rfl rfl dL_law_651 ?_
        refine J_iload_n (pc := 652) (q := 3) rfl rfl dL_law_652 ?_
        refine J_iconst (pc := 653) (v := (2 : Int32)) (by decide) dL_law_653 ?_
        refine J_iadd (pc := 654) dL_law_654 ?_
        obtain ⟨a655, h655, g_115⟩ := bnd g_114
        refine J_sld (pc := 655) h655 dL_law_655 ?_
        obtain ⟨b656, hb656, g_116⟩ := bnd g_115
        obtain ⟨r656, M656, h656, g_117⟩ := bnd2 g_116
        refine J_callVI (pc := 656) (as := [vI a650, vI a655]) (tX8_sees (d := d)  h656) cf_X8_sees cv_X8_sees clF8 hb656 ml_RL_78 (by omega) (Nat.le_of_ble_eq_true rfl) dL_law_656 ?_
        refine J_aload_n (pc := 659) (q := 2) rfl rfl dL_law_659 ?_
        refine J_aload_n (pc := 660) (q := 0) rfl rfl dL_law_660 ?_
        refine J_iload_n (pc := 661) (q := 3) rfl rfl dL_law_661 ?_
        refine J_iconst (pc := 662) (v := (1 : Int32)) (by decide) dL_law_662 ?_
        refine J_iadd (pc := 663) dL_law_663 ?_
        obtain ⟨a664, h664, g_118⟩ := bnd g_117
        refine J_sld (pc := 664) h664 dL_law_664 ?_
        refine J_aload_n (pc := 665) (q := 0) rfl rfl dL_law_665 ?_
        refine J_iload_n (pc := 666) (q := 3) rfl rfl dL_law_666 ?_
        refine J_iconst (pc := 667) (v := (2 : Int32)) (by decide) dL_law_667 ?_
        refine J_iadd (pc := 668) dL_law_668 ?_
        obtain ⟨a669, h669, g_119⟩ := bnd g_118
        refine J_sld (pc := 669) h669 dL_law_669 ?_
        obtain ⟨b670, hb670, g_120⟩ := bnd g_119
        obtain ⟨r670, M670, h670, g_121⟩ := bnd2 g_120
        refine J_callVI (pc := 670) (as := [vI a664, vI a669]) (tX9_sees (d := d)  h670) cf_X9_sees cv_X9_sees clF9 hb670 ml_RL_81 (by omega) (Nat.le_of_ble_eq_true rfl) dL_law_670 ?_
        refine J_iceq (pc := 673) (tgt := 1207) (by decide) dL_law_673 (fun hc673 => ?_) (fun hc673 => ?_)
        · rw [if_pos hc673] at g_121
          exact jL_law_b1207 hk28 g_121
        · rw [if_neg hc673] at g_121
          refine J_iconst (pc := 676) (v := (0 : Int32)) (by decide) dL_law_676 ?_
          exact absurd (show (0 : Int32) = 1 from congrArg Prod.fst (Option.some.inj g_121)) (by decide)
      rw [if_neg hc43_13] at g_1
      by_cases hc43_14 : (a39 &&& (31 : Int32)) = (14 : Int32)
      · rw [if_pos hc43_14] at g_1
        refine J_tin (pc := 43) (tgt := 678) (off := (635)) (by rw [hc43_14]; decide) (by rw [hc43_14]; decide) (by rw [hc43_14]; decide) (by decide) dL_law_43 ?_
        refine J_aload_n (pc := 678) (q := 1) rfl rfl dL_law_678 ?_
        refine J_aload_n (pc := 679) (q := 0) rfl rfl dL_law_679 ?_
        refine J_iload_n (pc := 680) (q := 3) rfl rfl dL_law_680 ?_
        refine J_iconst (pc := 681) (v := (1 : Int32)) (by decide) dL_law_681 ?_
        refine J_iadd (pc := 682) dL_law_682 ?_
        obtain ⟨a683, h683, g_122⟩ := bnd g_1
        refine J_sld (pc := 683) h683 dL_law_683 ?_
        refine J_aload_n (pc := 684) (q := 0) rfl rfl dL_law_684 ?_
        refine J_iload_n (pc := 685) (q := 3) rfl rfl dL_law_685 ?_
        refine J_iconst (pc := 686) (v := (2 : Int32)) (by decide) dL_law_686 ?_
        refine J_iadd (pc := 687) dL_law_687 ?_
        obtain ⟨a688, h688, g_123⟩ := bnd g_122
        refine J_sld (pc := 688) h688 dL_law_688 ?_
        refine J_aload_n (pc := 689) (q := 0) rfl rfl dL_law_689 ?_
        refine J_iload_n (pc := 690) (q := 3) rfl rfl dL_law_690 ?_
        refine J_iconst (pc := 691) (v := (3 : Int32)) (by decide) dL_law_691 ?_
        refine J_iadd (pc := 692) dL_law_692 ?_
        obtain ⟨a693, h693, g_124⟩ := bnd g_123
        refine J_sld (pc := 693) h693 dL_law_693 ?_
        obtain ⟨b694, hb694, g_125⟩ := bnd g_124
        obtain ⟨r694, M694, h694, g_126⟩ := bnd2 g_125
        refine J_callVI (pc := 694) (as := [vI a683, vI a688, vI a693]) (tX8_sure (d := d)  h694) cf_X8_sure cv_X8_sure clF8 hb694 ml_RL_82 (by omega) (Nat.le_of_ble_eq_true rfl) dL_law_694 ?_
        refine J_aload_n (pc := 697) (q := 2) rfl rfl dL_law_697 ?_
        refine J_aload_n (pc := 698) (q := 0) rfl rfl dL_law_698 ?_
        refine J_iload_n (pc := 699) (q := 3) rfl rfl dL_law_699 ?_
        refine J_iconst (pc := 700) (v := (1 : Int32)) (by decide) dL_law_700 ?_
        refine J_iadd (pc := 701) dL_law_701 ?_
        obtain ⟨a702, h702, g_127⟩ := bnd g_126
        refine J_sld (pc := 702) h702 dL_law_702 ?_
        refine J_aload_n (pc := 703) (q := 0) rfl rfl dL_law_703 ?_
        refine J_iload_n (pc := 704) (q := 3) rfl rfl dL_law_704 ?_
        refine J_iconst (pc := 705) (v := (2 : Int32)) (by decide) dL_law_705 ?_
        refine J_iadd (pc := 706) dL_law_706 ?_
        obtain ⟨a707, h707, g_128⟩ := bnd g_127
        refine J_sld (pc := 707) h707 dL_law_707 ?_
        refine J_aload_n (pc := 708) (q := 0) rfl rfl dL_law_708 ?_
        refine J_iload_n (pc := 709) (q := 3) rfl rfl dL_law_709 ?_
        refine J_iconst (pc := 710) (v := (3 : Int32)) (by decide) dL_law_710 ?_
        refine J_iadd (pc := 711) dL_law_711 ?_
        obtain ⟨a712, h712, g_129⟩ := bnd g_128
        refine J_sld (pc := 712) h712 dL_law_712 ?_
        obtain ⟨b713, hb713, g_130⟩ := bnd g_129
        obtain ⟨r713, M713, h713, g_131⟩ := bnd2 g_130
        refine J_callVI (pc := 713) (as := [vI a702, vI a707, vI a712]) (tX9_sure (d := d)  h713) cf_X9_sure cv_X9_sure clF9 hb713 ml_RL_85 (by omega) (Nat.le_of_ble_eq_true rfl) dL_law_713 ?_
        refine J_iceq (pc := 716) (tgt := 1207) (by decide) dL_law_716 (fun hc716 => ?_) (fun hc716 => ?_)
        · rw [if_pos hc716] at g_131
          exact jL_law_b1207 hk28 g_131
        · rw [if_neg hc716] at g_131
          refine J_iconst (pc := 719) (v := (0 : Int32)) (by decide) dL_law_719 ?_
          exact absurd (show (0 : Int32) = 1 from congrArg Prod.fst (Option.some.inj g_131)) (by decide)
      rw [if_neg hc43_14] at g_1
      by_cases hc43_15 : (a39 &&& (31 : Int32)) = (15 : Int32)
      · rw [if_pos hc43_15] at g_1
        refine J_tin (pc := 43) (tgt := 721) (off := (678)) (by rw [hc43_15]; decide) (by rw [hc43_15]; decide) (by rw [hc43_15]; decide) (by decide) dL_law_43 ?_
        refine J_aload_n (pc := 721) (q := 1) rfl rfl dL_law_721 ?_
        refine J_aload_n (pc := 722) (q := 0) rfl rfl dL_law_722 ?_
        refine J_iload_n (pc := 723) (q := 3) rfl rfl dL_law_723 ?_
        refine J_iconst (pc := 724) (v := (1 : Int32)) (by decide) dL_law_724 ?_
        refine J_iadd (pc := 725) dL_law_725 ?_
        obtain ⟨a726, h726, g_132⟩ := bnd g_1
        refine J_sld (pc := 726) h726 dL_law_726 ?_
        refine J_aload_n (pc := 727) (q := 0) rfl rfl dL_law_727 ?_
        refine J_iload_n (pc := 728) (q := 3) rfl rfl dL_law_728 ?_
        refine J_iconst (pc := 729) (v := (2 : Int32)) (by decide) dL_law_729 ?_
        refine J_iadd (pc := 730) dL_law_730 ?_
        obtain ⟨a731, h731, g_133⟩ := bnd g_132
        refine J_sld (pc := 731) h731 dL_law_731 ?_
        refine J_aload_n (pc := 732) (q := 0) rfl rfl dL_law_732 ?_
        refine J_iload_n (pc := 733) (q := 3) rfl rfl dL_law_733 ?_
        refine J_iconst (pc := 734) (v := (3 : Int32)) (by decide) dL_law_734 ?_
        refine J_iadd (pc := 735) dL_law_735 ?_
        obtain ⟨a736, h736, g_134⟩ := bnd g_133
        refine J_sld (pc := 736) h736 dL_law_736 ?_
        obtain ⟨b737, hb737, g_135⟩ := bnd g_134
        obtain ⟨r737, M737, h737, g_136⟩ := bnd2 g_135
        refine J_callVI (pc := 737) (as := [vI a726, vI a731, vI a736]) (tX8_first (d := d)  h737) cf_X8_first cv_X8_first clF8 hb737 ml_RL_86 (by omega) (Nat.le_of_ble_eq_true rfl) dL_law_737 ?_
        refine J_aload_n (pc := 740) (q := 2) rfl rfl dL_law_740 ?_
        refine J_aload_n (pc := 741) (q := 0) rfl rfl dL_law_741 ?_
        refine J_iload_n (pc := 742) (q := 3) rfl rfl dL_law_742 ?_
        refine J_iconst (pc := 743) (v := (1 : Int32)) (by decide) dL_law_743 ?_
        refine J_iadd (pc := 744) dL_law_744 ?_
        obtain ⟨a745, h745, g_137⟩ := bnd g_136
        refine J_sld (pc := 745) h745 dL_law_745 ?_
        refine J_aload_n (pc := 746) (q := 0) rfl rfl dL_law_746 ?_
        refine J_iload_n (pc := 747) (q := 3) rfl rfl dL_law_747 ?_
        refine J_iconst (pc := 748) (v := (2 : Int32)) (by decide) dL_law_748 ?_
        refine J_iadd (pc := 749) dL_law_749 ?_
        obtain ⟨a750, h750, g_138⟩ := bnd g_137
        refine J_sld (pc := 750) h750 dL_law_750 ?_
        refine J_aload_n (pc := 751) (q := 0) rfl rfl dL_law_751 ?_
        refine J_iload_n (pc := 752) (q := 3) rfl rfl dL_law_752 ?_
        refine J_iconst (pc := 753) (v := (3 : Int32)) (by decide) dL_law_753 ?_
        refine J_iadd (pc := 754) dL_law_754 ?_
        obtain ⟨a755, h755, g_139⟩ := bnd g_138
        refine J_sld (pc := 755) h755 dL_law_755 ?_
        obtain ⟨b756, hb756, g_140⟩ := bnd g_139
        obtain ⟨r756, M756, h756, g_141⟩ := bnd2 g_140
        refine J_callVI (pc := 756) (as := [vI a745, vI a750, vI a755]) (tX9_first (d := d)  h756) cf_X9_first cv_X9_first clF9 hb756 ml_RL_89 (by omega) (Nat.le_of_ble_eq_true rfl) dL_law_756 ?_
        refine J_iceq (pc := 759) (tgt := 1207) (by decide) dL_law_759 (fun hc759 => ?_) (fun hc759 => ?_)
        · rw [if_pos hc759] at g_141
          exact jL_law_b1207 hk28 g_141
        · rw [if_neg hc759] at g_141
          refine J_iconst (pc := 762) (v := (0 : Int32)) (by decide) dL_law_762 ?_
          exact absurd (show (0 : Int32) = 1 from congrArg Prod.fst (Option.some.inj g_141)) (by decide)
      rw [if_neg hc43_15] at g_1
      by_cases hc43_16 : (a39 &&& (31 : Int32)) = (16 : Int32)
      · rw [if_pos hc43_16] at g_1
        refine J_tin (pc := 43) (tgt := 764) (off := (721)) (by rw [hc43_16]; decide) (by rw [hc43_16]; decide) (by rw [hc43_16]; decide) (by decide) dL_law_43 ?_
        refine J_aload_n (pc := 764) (q := 1) rfl rfl dL_law_764 ?_
        refine J_aload_n (pc := 765) (q := 0) rfl rfl dL_law_765 ?_
        refine J_iload_n (pc := 766) (q := 3) rfl rfl dL_law_766 ?_
        refine J_iconst (pc := 767) (v := (1 : Int32)) (by decide) dL_law_767 ?_
        refine J_iadd (pc := 768) dL_law_768 ?_
        obtain ⟨a769, h769, g_142⟩ := bnd g_1
        refine J_sld (pc := 769) h769 dL_law_769 ?_
        refine J_aload_n (pc := 770) (q := 0) rfl rfl dL_law_770 ?_
        refine J_iload_n (pc := 771) (q := 3) rfl rfl dL_law_771 ?_
        refine J_iconst (pc := 772) (v := (2 : Int32)) (by decide) dL_law_772 ?_
        refine J_iadd (pc := 773) dL_law_773 ?_
        obtain ⟨a774, h774, g_143⟩ := bnd g_142
        refine J_sld (pc := 774) h774 dL_law_774 ?_
        refine J_aload_n (pc := 775) (q := 0) rfl rfl dL_law_775 ?_
        refine J_iload_n (pc := 776) (q := 3) rfl rfl dL_law_776 ?_
        refine J_iconst (pc := 777) (v := (3 : Int32)) (by decide) dL_law_777 ?_
        refine J_iadd (pc := 778) dL_law_778 ?_
        obtain ⟨a779, h779, g_144⟩ := bnd g_143
        refine J_sld (pc := 779) h779 dL_law_779 ?_
        obtain ⟨b780, hb780, g_145⟩ := bnd g_144
        obtain ⟨r780, M780, h780, g_146⟩ := bnd2 g_145
        refine J_callVI (pc := 780) (as := [vI a769, vI a774, vI a779]) (tX8_start (d := d)  h780) cf_X8_start cv_X8_start clF8 hb780 ml_RL_90 (by omega) (Nat.le_of_ble_eq_true rfl) dL_law_780 ?_
        refine J_aload_n (pc := 783) (q := 2) rfl rfl dL_law_783 ?_
        refine J_aload_n (pc := 784) (q := 0) rfl rfl dL_law_784 ?_
        refine J_iload_n (pc := 785) (q := 3) rfl rfl dL_law_785 ?_
        refine J_iconst (pc := 786) (v := (1 : Int32)) (by decide) dL_law_786 ?_
        refine J_iadd (pc := 787) dL_law_787 ?_
        obtain ⟨a788, h788, g_147⟩ := bnd g_146
        refine J_sld (pc := 788) h788 dL_law_788 ?_
        refine J_aload_n (pc := 789) (q := 0) rfl rfl dL_law_789 ?_
        refine J_iload_n (pc := 790) (q := 3) rfl rfl dL_law_790 ?_
        refine J_iconst (pc := 791) (v := (2 : Int32)) (by decide) dL_law_791 ?_
        refine J_iadd (pc := 792) dL_law_792 ?_
        obtain ⟨a793, h793, g_148⟩ := bnd g_147
        refine J_sld (pc := 793) h793 dL_law_793 ?_
        refine J_aload_n (pc := 794) (q := 0) rfl rfl dL_law_794 ?_
        refine J_iload_n (pc := 795) (q := 3) rfl rfl dL_law_795 ?_
        refine J_iconst (pc := 796) (v := (3 : Int32)) (by decide) dL_law_796 ?_
        refine J_iadd (pc := 797) dL_law_797 ?_
        obtain ⟨a798, h798, g_149⟩ := bnd g_148
        refine J_sld (pc := 798) h798 dL_law_798 ?_
        obtain ⟨b799, hb799, g_150⟩ := bnd g_149
        obtain ⟨r799, M799, h799, g_151⟩ := bnd2 g_150
        refine J_callVI (pc := 799) (as := [vI a788, vI a793, vI a798]) (tX9_start (d := d)  h799) cf_X9_start cv_X9_start clF9 hb799 ml_RL_93 (by omega) (Nat.le_of_ble_eq_true rfl) dL_law_799 ?_
        refine J_iceq (pc := 802) (tgt := 1207) (by decide) dL_law_802 (fun hc802 => ?_) (fun hc802 => ?_)
        · rw [if_pos hc802] at g_151
          exact jL_law_b1207 hk28 g_151
        · rw [if_neg hc802] at g_151
          refine J_iconst (pc := 805) (v := (0 : Int32)) (by decide) dL_law_805 ?_
          exact absurd (show (0 : Int32) = 1 from congrArg Prod.fst (Option.some.inj g_151)) (by decide)
      rw [if_neg hc43_16] at g_1
      by_cases hc43_17 : (a39 &&& (31 : Int32)) = (17 : Int32)
      · rw [if_pos hc43_17] at g_1
        refine J_tin (pc := 43) (tgt := 807) (off := (764)) (by rw [hc43_17]; decide) (by rw [hc43_17]; decide) (by rw [hc43_17]; decide) (by decide) dL_law_43 ?_
        refine J_aload_n (pc := 807) (q := 1) rfl rfl dL_law_807 ?_
        refine J_aload_n (pc := 808) (q := 0) rfl rfl dL_law_808 ?_
        refine J_iload_n (pc := 809) (q := 3) rfl rfl dL_law_809 ?_
        refine J_iconst (pc := 810) (v := (1 : Int32)) (by decide) dL_law_810 ?_
        refine J_iadd (pc := 811) dL_law_811 ?_
        obtain ⟨a812, h812, g_152⟩ := bnd g_1
        refine J_sld (pc := 812) h812 dL_law_812 ?_
        obtain ⟨b813, hb813, g_153⟩ := bnd g_152
        obtain ⟨r813, M813, h813, g_154⟩ := bnd2 g_153
        refine J_callVI (pc := 813) (as := [vI a812]) (tX8_move (d := d)  h813) cf_X8_move cv_X8_move clF8 hb813 ml_RL_94 (by omega) (Nat.le_of_ble_eq_true rfl) dL_law_813 ?_
        refine J_aload_n (pc := 816) (q := 2) rfl rfl dL_law_816 ?_
        refine J_aload_n (pc := 817) (q := 0) rfl rfl dL_law_817 ?_
        refine J_iload_n (pc := 818) (q := 3) rfl rfl dL_law_818 ?_
        refine J_iconst (pc := 819) (v := (1 : Int32)) (by decide) dL_law_819 ?_
        refine J_iadd (pc := 820) dL_law_820 ?_
        obtain ⟨a821, h821, g_155⟩ := bnd g_154
        refine J_sld (pc := 821) h821 dL_law_821 ?_
        obtain ⟨b822, hb822, g_156⟩ := bnd g_155
        obtain ⟨r822, M822, h822, g_157⟩ := bnd2 g_156
        refine J_callVI (pc := 822) (as := [vI a821]) (tX9_move (d := d)  h822) cf_X9_move cv_X9_move clF9 hb822 ml_RL_97 (by omega) (Nat.le_of_ble_eq_true rfl) dL_law_822 ?_
        refine J_iceq (pc := 825) (tgt := 1207) (by decide) dL_law_825 (fun hc825 => ?_) (fun hc825 => ?_)
        · rw [if_pos hc825] at g_157
          exact jL_law_b1207 hk28 g_157
        · rw [if_neg hc825] at g_157
          refine J_iconst (pc := 828) (v := (0 : Int32)) (by decide) dL_law_828 ?_
          exact absurd (show (0 : Int32) = 1 from congrArg Prod.fst (Option.some.inj g_157)) (by decide)
      rw [if_neg hc43_17] at g_1
      by_cases hc43_18 : (a39 &&& (31 : Int32)) = (18 : Int32)
      · rw [if_pos hc43_18] at g_1
        refine J_tin (pc := 43) (tgt := 830) (off := (787)) (by rw [hc43_18]; decide) (by rw [hc43_18]; decide) (by rw [hc43_18]; decide) (by decide) dL_law_43 ?_
        refine J_aload_n (pc := 830) (q := 1) rfl rfl dL_law_830 ?_
        refine J_aload_n (pc := 831) (q := 0) rfl rfl dL_law_831 ?_
        refine J_iload_n (pc := 832) (q := 3) rfl rfl dL_law_832 ?_
        refine J_iconst (pc := 833) (v := (1 : Int32)) (by decide) dL_law_833 ?_
        refine J_iadd (pc := 834) dL_law_834 ?_
        obtain ⟨a835, h835, g_158⟩ := bnd g_1
        refine J_sld (pc := 835) h835 dL_law_835 ?_
        obtain ⟨b836, hb836, g_159⟩ := bnd g_158
        obtain ⟨r836, M836, h836, g_160⟩ := bnd2 g_159
        refine J_callVI (pc := 836) (as := [vI a835]) (tX8_play (d := d)  h836) cf_X8_play cv_X8_play clF8 hb836 ml_RL_98 (by omega) (Nat.le_of_ble_eq_true rfl) dL_law_836 ?_
        refine J_aload_n (pc := 839) (q := 2) rfl rfl dL_law_839 ?_
        refine J_aload_n (pc := 840) (q := 0) rfl rfl dL_law_840 ?_
        refine J_iload_n (pc := 841) (q := 3) rfl rfl dL_law_841 ?_
        refine J_iconst (pc := 842) (v := (1 : Int32)) (by decide) dL_law_842 ?_
        refine J_iadd (pc := 843) dL_law_843 ?_
        obtain ⟨a844, h844, g_161⟩ := bnd g_160
        refine J_sld (pc := 844) h844 dL_law_844 ?_
        obtain ⟨b845, hb845, g_162⟩ := bnd g_161
        obtain ⟨r845, M845, h845, g_163⟩ := bnd2 g_162
        refine J_callVI (pc := 845) (as := [vI a844]) (tX9_play (d := d)  h845) cf_X9_play cv_X9_play clF9 hb845 ml_RL_101 (by omega) (Nat.le_of_ble_eq_true rfl) dL_law_845 ?_
        refine J_iceq (pc := 848) (tgt := 1207) (by decide) dL_law_848 (fun hc848 => ?_) (fun hc848 => ?_)
        · rw [if_pos hc848] at g_163
          exact jL_law_b1207 hk28 g_163
        · rw [if_neg hc848] at g_163
          refine J_iconst (pc := 851) (v := (0 : Int32)) (by decide) dL_law_851 ?_
          exact absurd (show (0 : Int32) = 1 from congrArg Prod.fst (Option.some.inj g_163)) (by decide)
      rw [if_neg hc43_18] at g_1
      by_cases hc43_19 : (a39 &&& (31 : Int32)) = (19 : Int32)
      · rw [if_pos hc43_19] at g_1
        refine J_tin (pc := 43) (tgt := 853) (off := (810)) (by rw [hc43_19]; decide) (by rw [hc43_19]; decide) (by rw [hc43_19]; decide) (by decide) dL_law_43 ?_
        refine J_aload_n (pc := 853) (q := 1) rfl rfl dL_law_853 ?_
        obtain ⟨b854, hb854, g_164⟩ := bnd g_1
        obtain ⟨r854, M854, h854, g_165⟩ := bnd2 g_164
        refine J_callVI (pc := 854) (as := []) (tX8_back (d := d)  h854) cf_X8_back cv_X8_back clF8 hb854 ml_RL_102 (by omega) (Nat.le_of_ble_eq_true rfl) dL_law_854 ?_
        refine J_aload_n (pc := 857) (q := 2) rfl rfl dL_law_857 ?_
        obtain ⟨b858, hb858, g_166⟩ := bnd g_165
        obtain ⟨r858, M858, h858, g_167⟩ := bnd2 g_166
        refine J_callVI (pc := 858) (as := []) (tX9_back (d := d)  h858) cf_X9_back cv_X9_back clF9 hb858 ml_RL_105 (by omega) (Nat.le_of_ble_eq_true rfl) dL_law_858 ?_
        refine J_iceq (pc := 861) (tgt := 1207) (by decide) dL_law_861 (fun hc861 => ?_) (fun hc861 => ?_)
        · rw [if_pos hc861] at g_167
          exact jL_law_b1207 hk28 g_167
        · rw [if_neg hc861] at g_167
          refine J_iconst (pc := 864) (v := (0 : Int32)) (by decide) dL_law_864 ?_
          exact absurd (show (0 : Int32) = 1 from congrArg Prod.fst (Option.some.inj g_167)) (by decide)
      rw [if_neg hc43_19] at g_1
      by_cases hc43_20 : (a39 &&& (31 : Int32)) = (20 : Int32)
      · rw [if_pos hc43_20] at g_1
        refine J_tin (pc := 43) (tgt := 866) (off := (823)) (by rw [hc43_20]; decide) (by rw [hc43_20]; decide) (by rw [hc43_20]; decide) (by decide) dL_law_43 ?_
        refine J_aload_n (pc := 866) (q := 1) rfl rfl dL_law_866 ?_
        refine J_aload_n (pc := 867) (q := 0) rfl rfl dL_law_867 ?_
        refine J_iload_n (pc := 868) (q := 3) rfl rfl dL_law_868 ?_
        refine J_iconst (pc := 869) (v := (1 : Int32)) (by decide) dL_law_869 ?_
        refine J_iadd (pc := 870) dL_law_870 ?_
        obtain ⟨a871, h871, g_168⟩ := bnd g_1
        refine J_sld (pc := 871) h871 dL_law_871 ?_
        obtain ⟨b872, hb872, g_169⟩ := bnd g_168
        obtain ⟨r872, M872, h872, g_170⟩ := bnd2 g_169
        refine J_callVI (pc := 872) (as := [vI a871]) (tX8_told (d := d)  h872) cf_X8_told cv_X8_told clF8 hb872 ml_RL_106 (by omega) (Nat.le_of_ble_eq_true rfl) dL_law_872 ?_
        refine J_aload_n (pc := 875) (q := 2) rfl rfl dL_law_875 ?_
        refine J_aload_n (pc := 876) (q := 0) rfl rfl dL_law_876 ?_
        refine J_iload_n (pc := 877) (q := 3) rfl rfl dL_law_877 ?_
        refine J_iconst (pc := 878) (v := (1 : Int32)) (by decide) dL_law_878 ?_
        refine J_iadd (pc := 879) dL_law_879 ?_
        obtain ⟨a880, h880, g_171⟩ := bnd g_170
        refine J_sld (pc := 880) h880 dL_law_880 ?_
        obtain ⟨b881, hb881, g_172⟩ := bnd g_171
        obtain ⟨r881, M881, h881, g_173⟩ := bnd2 g_172
        refine J_callVI (pc := 881) (as := [vI a880]) (tX9_told (d := d)  h881) cf_X9_told cv_X9_told clF9 hb881 ml_RL_109 (by omega) (Nat.le_of_ble_eq_true rfl) dL_law_881 ?_
        refine J_iceq (pc := 884) (tgt := 1207) (by decide) dL_law_884 (fun hc884 => ?_) (fun hc884 => ?_)
        · rw [if_pos hc884] at g_173
          exact jL_law_b1207 hk28 g_173
        · rw [if_neg hc884] at g_173
          refine J_iconst (pc := 887) (v := (0 : Int32)) (by decide) dL_law_887 ?_
          exact absurd (show (0 : Int32) = 1 from congrArg Prod.fst (Option.some.inj g_173)) (by decide)
      rw [if_neg hc43_20] at g_1
      by_cases hc43_21 : (a39 &&& (31 : Int32)) = (21 : Int32)
      · rw [if_pos hc43_21] at g_1
        refine J_tin (pc := 43) (tgt := 889) (off := (846)) (by rw [hc43_21]; decide) (by rw [hc43_21]; decide) (by rw [hc43_21]; decide) (by decide) dL_law_43 ?_
        refine J_aload_n (pc := 889) (q := 1) rfl rfl dL_law_889 ?_
        refine J_aload_n (pc := 890) (q := 0) rfl rfl dL_law_890 ?_
        refine J_iload_n (pc := 891) (q := 3) rfl rfl dL_law_891 ?_
        refine J_iconst (pc := 892) (v := (1 : Int32)) (by decide) dL_law_892 ?_
        refine J_iadd (pc := 893) dL_law_893 ?_
        obtain ⟨a894, h894, g_174⟩ := bnd g_1
        refine J_sld (pc := 894) h894 dL_law_894 ?_
        refine J_aload_n (pc := 895) (q := 0) rfl rfl dL_law_895 ?_
        refine J_iload_n (pc := 896) (q := 3) rfl rfl dL_law_896 ?_
        refine J_iconst (pc := 897) (v := (2 : Int32)) (by decide) dL_law_897 ?_
        refine J_iadd (pc := 898) dL_law_898 ?_
        obtain ⟨a899, h899, g_175⟩ := bnd g_174
        refine J_sld (pc := 899) h899 dL_law_899 ?_
        refine J_i2l (pc := 900) dL_law_900 ?_
        refine J_bipush (pc := 901) (v := (32 : Int32)) (by decide) dL_law_901 ?_
        refine J_lshl (pc := 903) dL_law_903 ?_
        refine J_aload_n (pc := 904) (q := 0) rfl rfl dL_law_904 ?_
        refine J_iload_n (pc := 905) (q := 3) rfl rfl dL_law_905 ?_
        refine J_iconst (pc := 906) (v := (3 : Int32)) (by decide) dL_law_906 ?_
        refine J_iadd (pc := 907) dL_law_907 ?_
        obtain ⟨a908, h908, g_176⟩ := bnd g_175
        refine J_sld (pc := 908) h908 dL_law_908 ?_
        refine J_i2l (pc := 909) dL_law_909 ?_
        refine J_ldc2 (pc := 910) cn_RL_110 dL_law_910 ?_
        refine J_land (pc := 913) dL_law_913 ?_
        refine J_lor (pc := 914) dL_law_914 ?_
        obtain ⟨b915, hb915, g_177⟩ := bnd g_176
        obtain ⟨r915, M915, h915, g_178⟩ := bnd2 g_177
        refine J_callVI (pc := 915) (as := [vI a894, vL ((a899.toInt64 <<< ((32 : Int32).toInt64 &&& 63)) ||| (a908.toInt64 &&& (4294967295 : Int64)))]) (tX8_feed (d := d)  h915) cf_X8_feed cv_X8_feed clF8 hb915 ml_RL_112 (by omega) (Nat.le_of_ble_eq_true rfl) dL_law_915 ?_
        refine J_aload_n (pc := 918) (q := 2) rfl rfl dL_law_918 ?_
        refine J_aload_n (pc := 919) (q := 0) rfl rfl dL_law_919 ?_
        refine J_iload_n (pc := 920) (q := 3) rfl rfl dL_law_920 ?_
        refine J_iconst (pc := 921) (v := (1 : Int32)) (by decide) dL_law_921 ?_
        refine J_iadd (pc := 922) dL_law_922 ?_
        obtain ⟨a923, h923, g_179⟩ := bnd g_178
        refine J_sld (pc := 923) h923 dL_law_923 ?_
        refine J_aload_n (pc := 924) (q := 0) rfl rfl dL_law_924 ?_
        refine J_iload_n (pc := 925) (q := 3) rfl rfl dL_law_925 ?_
        refine J_iconst (pc := 926) (v := (2 : Int32)) (by decide) dL_law_926 ?_
        refine J_iadd (pc := 927) dL_law_927 ?_
        obtain ⟨a928, h928, g_180⟩ := bnd g_179
        refine J_sld (pc := 928) h928 dL_law_928 ?_
        refine J_i2l (pc := 929) dL_law_929 ?_
        refine J_bipush (pc := 930) (v := (32 : Int32)) (by decide) dL_law_930 ?_
        refine J_lshl (pc := 932) dL_law_932 ?_
        refine J_aload_n (pc := 933) (q := 0) rfl rfl dL_law_933 ?_
        refine J_iload_n (pc := 934) (q := 3) rfl rfl dL_law_934 ?_
        refine J_iconst (pc := 935) (v := (3 : Int32)) (by decide) dL_law_935 ?_
        refine J_iadd (pc := 936) dL_law_936 ?_
        obtain ⟨a937, h937, g_181⟩ := bnd g_180
        refine J_sld (pc := 937) h937 dL_law_937 ?_
        refine J_i2l (pc := 938) dL_law_938 ?_
        refine J_ldc2 (pc := 939) cn_RL_110 dL_law_939 ?_
        refine J_land (pc := 942) dL_law_942 ?_
        refine J_lor (pc := 943) dL_law_943 ?_
        obtain ⟨b944, hb944, g_182⟩ := bnd g_181
        obtain ⟨r944, M944, h944, g_183⟩ := bnd2 g_182
        refine J_callVI (pc := 944) (as := [vI a923, vL ((a928.toInt64 <<< ((32 : Int32).toInt64 &&& 63)) ||| (a937.toInt64 &&& (4294967295 : Int64)))]) (tX9_feed (d := d)  h944) cf_X9_feed cv_X9_feed clF9 hb944 ml_RL_116 (by omega) (Nat.le_of_ble_eq_true rfl) dL_law_944 ?_
        refine J_iceq (pc := 947) (tgt := 1207) (by decide) dL_law_947 (fun hc947 => ?_) (fun hc947 => ?_)
        · rw [if_pos hc947] at g_183
          exact jL_law_b1207 hk28 g_183
        · rw [if_neg hc947] at g_183
          refine J_iconst (pc := 950) (v := (0 : Int32)) (by decide) dL_law_950 ?_
          exact absurd (show (0 : Int32) = 1 from congrArg Prod.fst (Option.some.inj g_183)) (by decide)
      rw [if_neg hc43_21] at g_1
      by_cases hc43_22 : (a39 &&& (31 : Int32)) = (22 : Int32)
      · rw [if_pos hc43_22] at g_1
        refine J_tin (pc := 43) (tgt := 952) (off := (909)) (by rw [hc43_22]; decide) (by rw [hc43_22]; decide) (by rw [hc43_22]; decide) (by decide) dL_law_43 ?_
        refine J_aload_n (pc := 952) (q := 1) rfl rfl dL_law_952 ?_
        obtain ⟨b953, hb953, g_184⟩ := bnd g_1
        obtain ⟨r953, M953, h953, g_185⟩ := bnd2 g_184
        refine J_callVI (pc := 953) (as := []) (tX8_text (d := d)  h953) cf_X8_text cv_X8_text clF8 hb953 ml_RL_117 (by omega) (Nat.le_of_ble_eq_true rfl) dL_law_953 ?_
        refine J_aload_n (pc := 956) (q := 2) rfl rfl dL_law_956 ?_
        obtain ⟨b957, hb957, g_186⟩ := bnd g_185
        obtain ⟨r957, M957, h957, g_187⟩ := bnd2 g_186
        refine J_callVI (pc := 957) (as := []) (tX9_text (d := d)  h957) cf_X9_text cv_X9_text clF9 hb957 ml_RL_120 (by omega) (Nat.le_of_ble_eq_true rfl) dL_law_957 ?_
        refine J_iceq (pc := 960) (tgt := 1207) (by decide) dL_law_960 (fun hc960 => ?_) (fun hc960 => ?_)
        · rw [if_pos hc960] at g_187
          exact jL_law_b1207 hk28 g_187
        · rw [if_neg hc960] at g_187
          refine J_iconst (pc := 963) (v := (0 : Int32)) (by decide) dL_law_963 ?_
          exact absurd (show (0 : Int32) = 1 from congrArg Prod.fst (Option.some.inj g_187)) (by decide)
      rw [if_neg hc43_22] at g_1
      by_cases hc43_23 : (a39 &&& (31 : Int32)) = (23 : Int32)
      · rw [if_pos hc43_23] at g_1
        refine J_tin (pc := 43) (tgt := 965) (off := (922)) (by rw [hc43_23]; decide) (by rw [hc43_23]; decide) (by rw [hc43_23]; decide) (by decide) dL_law_43 ?_
        refine J_aload_n (pc := 965) (q := 1) rfl rfl dL_law_965 ?_
        refine J_aload_n (pc := 966) (q := 0) rfl rfl dL_law_966 ?_
        refine J_iload_n (pc := 967) (q := 3) rfl rfl dL_law_967 ?_
        refine J_iconst (pc := 968) (v := (1 : Int32)) (by decide) dL_law_968 ?_
        refine J_iadd (pc := 969) dL_law_969 ?_
        obtain ⟨a970, h970, g_188⟩ := bnd g_1
        refine J_sld (pc := 970) h970 dL_law_970 ?_
        obtain ⟨b971, hb971, g_189⟩ := bnd g_188
        obtain ⟨r971, M971, h971, g_190⟩ := bnd2 g_189
        refine J_callVI (pc := 971) (as := [vI a970]) (tX8_force (d := d)  h971) cf_X8_force cv_X8_force clF8 hb971 ml_RL_121 (by omega) (Nat.le_of_ble_eq_true rfl) dL_law_971 ?_
        refine J_aload_n (pc := 974) (q := 2) rfl rfl dL_law_974 ?_
        refine J_aload_n (pc := 975) (q := 0) rfl rfl dL_law_975 ?_
        refine J_iload_n (pc := 976) (q := 3) rfl rfl dL_law_976 ?_
        refine J_iconst (pc := 977) (v := (1 : Int32)) (by decide) dL_law_977 ?_
        refine J_iadd (pc := 978) dL_law_978 ?_
        obtain ⟨a979, h979, g_191⟩ := bnd g_190
        refine J_sld (pc := 979) h979 dL_law_979 ?_
        obtain ⟨b980, hb980, g_192⟩ := bnd g_191
        obtain ⟨r980, M980, h980, g_193⟩ := bnd2 g_192
        refine J_callVI (pc := 980) (as := [vI a979]) (tX9_force (d := d)  h980) cf_X9_force cv_X9_force clF9 hb980 ml_RL_124 (by omega) (Nat.le_of_ble_eq_true rfl) dL_law_980 ?_
        refine J_iceq (pc := 983) (tgt := 1207) (by decide) dL_law_983 (fun hc983 => ?_) (fun hc983 => ?_)
        · rw [if_pos hc983] at g_193
          exact jL_law_b1207 hk28 g_193
        · rw [if_neg hc983] at g_193
          refine J_iconst (pc := 986) (v := (0 : Int32)) (by decide) dL_law_986 ?_
          exact absurd (show (0 : Int32) = 1 from congrArg Prod.fst (Option.some.inj g_193)) (by decide)
      rw [if_neg hc43_23] at g_1
      by_cases hc43_24 : (a39 &&& (31 : Int32)) = (24 : Int32)
      · rw [if_pos hc43_24] at g_1
        refine J_tin (pc := 43) (tgt := 988) (off := (945)) (by rw [hc43_24]; decide) (by rw [hc43_24]; decide) (by rw [hc43_24]; decide) (by decide) dL_law_43 ?_
        refine J_aload_n (pc := 988) (q := 1) rfl rfl dL_law_988 ?_
        refine J_aload_n (pc := 989) (q := 0) rfl rfl dL_law_989 ?_
        refine J_iload_n (pc := 990) (q := 3) rfl rfl dL_law_990 ?_
        refine J_iconst (pc := 991) (v := (1 : Int32)) (by decide) dL_law_991 ?_
        refine J_iadd (pc := 992) dL_law_992 ?_
        obtain ⟨a993, h993, g_194⟩ := bnd g_1
        refine J_sld (pc := 993) h993 dL_law_993 ?_
        obtain ⟨b994, hb994, g_195⟩ := bnd g_194
        obtain ⟨r994, M994, h994, g_196⟩ := bnd2 g_195
        refine J_callVL (pc := 994) (as := [vI a993]) (tX8_says (d := d)  h994) cf_X8_says cv_X8_says clF8 hb994 ml_RL_125 (by omega) (Nat.le_of_ble_eq_true rfl) dL_law_994 ?_
        refine J_aload_n (pc := 997) (q := 2) rfl rfl dL_law_997 ?_
        refine J_aload_n (pc := 998) (q := 0) rfl rfl dL_law_998 ?_
        refine J_iload_n (pc := 999) (q := 3) rfl rfl dL_law_999 ?_
        refine J_iconst (pc := 1000) (v := (1 : Int32)) (by decide) dL_law_1000 ?_
        refine J_iadd (pc := 1001) dL_law_1001 ?_
        obtain ⟨a1002, h1002, g_197⟩ := bnd g_196
        refine J_sld (pc := 1002) h1002 dL_law_1002 ?_
        obtain ⟨b1003, hb1003, g_198⟩ := bnd g_197
        obtain ⟨r1003, M1003, h1003, g_199⟩ := bnd2 g_198
        refine J_callVL (pc := 1003) (as := [vI a1002]) (tX9_says (d := d)  h1003) cf_X9_says cv_X9_says clF9 hb1003 ml_RL_129 (by omega) (Nat.le_of_ble_eq_true rfl) dL_law_1003 ?_
        refine J_lcmp (pc := 1006) dL_law_1006 ?_
        refine J_ifeq (pc := 1007) (tgt := 1207) (by decide) dL_law_1007 (fun hc1007 => ?_) (fun hc1007 => ?_)
        · rw [if_pos hc1007] at g_199
          exact jL_law_b1207 hk28 g_199
        · rw [if_neg hc1007] at g_199
          refine J_iconst (pc := 1010) (v := (0 : Int32)) (by decide) dL_law_1010 ?_
          exact absurd (show (0 : Int32) = 1 from congrArg Prod.fst (Option.some.inj g_199)) (by decide)
      rw [if_neg hc43_24] at g_1
      by_cases hc43_25 : (a39 &&& (31 : Int32)) = (25 : Int32)
      · rw [if_pos hc43_25] at g_1
        refine J_tin (pc := 43) (tgt := 1012) (off := (969)) (by rw [hc43_25]; decide) (by rw [hc43_25]; decide) (by rw [hc43_25]; decide) (by decide) dL_law_43 ?_
        refine J_aload_n (pc := 1012) (q := 1) rfl rfl dL_law_1012 ?_
        refine J_aload_n (pc := 1013) (q := 0) rfl rfl dL_law_1013 ?_
        refine J_iload_n (pc := 1014) (q := 3) rfl rfl dL_law_1014 ?_
        refine J_iconst (pc := 1015) (v := (1 : Int32)) (by decide) dL_law_1015 ?_
        refine J_iadd (pc := 1016) dL_law_1016 ?_
        obtain ⟨a1017, h1017, g_200⟩ := bnd g_1
        refine J_sld (pc := 1017) h1017 dL_law_1017 ?_
        obtain ⟨b1018, hb1018, g_201⟩ := bnd g_200
        obtain ⟨r1018, M1018, h1018, g_202⟩ := bnd2 g_201
        refine J_callVI (pc := 1018) (as := [vI a1017]) (tX8_count (d := d)  h1018) cf_X8_count cv_X8_count clF8 hb1018 ml_RL_130 (by omega) (Nat.le_of_ble_eq_true rfl) dL_law_1018 ?_
        refine J_aload_n (pc := 1021) (q := 2) rfl rfl dL_law_1021 ?_
        refine J_aload_n (pc := 1022) (q := 0) rfl rfl dL_law_1022 ?_
        refine J_iload_n (pc := 1023) (q := 3) rfl rfl dL_law_1023 ?_
        refine J_iconst (pc := 1024) (v := (1 : Int32)) (by decide) dL_law_1024 ?_
        refine J_iadd (pc := 1025) dL_law_1025 ?_
        obtain ⟨a1026, h1026, g_203⟩ := bnd g_202
        refine J_sld (pc := 1026) h1026 dL_law_1026 ?_
        obtain ⟨b1027, hb1027, g_204⟩ := bnd g_203
        obtain ⟨r1027, M1027, h1027, g_205⟩ := bnd2 g_204
        refine J_callVI (pc := 1027) (as := [vI a1026]) (tX9_count (d := d)  h1027) cf_X9_count cv_X9_count clF9 hb1027 ml_RL_133 (by omega) (Nat.le_of_ble_eq_true rfl) dL_law_1027 ?_
        refine J_iceq (pc := 1030) (tgt := 1207) (by decide) dL_law_1030 (fun hc1030 => ?_) (fun hc1030 => ?_)
        · rw [if_pos hc1030] at g_205
          exact jL_law_b1207 hk28 g_205
        · rw [if_neg hc1030] at g_205
          refine J_iconst (pc := 1033) (v := (0 : Int32)) (by decide) dL_law_1033 ?_
          exact absurd (show (0 : Int32) = 1 from congrArg Prod.fst (Option.some.inj g_205)) (by decide)
      rw [if_neg hc43_25] at g_1
      by_cases hc43_26 : (a39 &&& (31 : Int32)) = (26 : Int32)
      · rw [if_pos hc43_26] at g_1
        refine J_tin (pc := 43) (tgt := 1035) (off := (992)) (by rw [hc43_26]; decide) (by rw [hc43_26]; decide) (by rw [hc43_26]; decide) (by decide) dL_law_43 ?_
        refine J_aload_n (pc := 1035) (q := 1) rfl rfl dL_law_1035 ?_
        refine J_aload_n (pc := 1036) (q := 0) rfl rfl dL_law_1036 ?_
        refine J_iload_n (pc := 1037) (q := 3) rfl rfl dL_law_1037 ?_
        refine J_iconst (pc := 1038) (v := (1 : Int32)) (by decide) dL_law_1038 ?_
        refine J_iadd (pc := 1039) dL_law_1039 ?_
        obtain ⟨a1040, h1040, g_206⟩ := bnd g_1
        refine J_sld (pc := 1040) h1040 dL_law_1040 ?_
        refine J_aload_n (pc := 1041) (q := 0) rfl rfl dL_law_1041 ?_
        refine J_iload_n (pc := 1042) (q := 3) rfl rfl dL_law_1042 ?_
        refine J_iconst (pc := 1043) (v := (2 : Int32)) (by decide) dL_law_1043 ?_
        refine J_iadd (pc := 1044) dL_law_1044 ?_
        obtain ⟨a1045, h1045, g_207⟩ := bnd g_206
        refine J_sld (pc := 1045) h1045 dL_law_1045 ?_
        refine J_aload_n (pc := 1046) (q := 0) rfl rfl dL_law_1046 ?_
        refine J_iload_n (pc := 1047) (q := 3) rfl rfl dL_law_1047 ?_
        refine J_iconst (pc := 1048) (v := (3 : Int32)) (by decide) dL_law_1048 ?_
        refine J_iadd (pc := 1049) dL_law_1049 ?_
        obtain ⟨a1050, h1050, g_208⟩ := bnd g_207
        refine J_sld (pc := 1050) h1050 dL_law_1050 ?_
        obtain ⟨b1051, hb1051, g_209⟩ := bnd g_208
        obtain ⟨r1051, M1051, h1051, g_210⟩ := bnd2 g_209
        refine J_callVI (pc := 1051) (as := [vI a1040, vI a1045, vI a1050]) (tX8_sheet (d := d)  h1051) cf_X8_sheet cv_X8_sheet clF8 hb1051 ml_RL_134 (by omega) (Nat.le_of_ble_eq_true rfl) dL_law_1051 ?_
        refine J_aload_n (pc := 1054) (q := 2) rfl rfl dL_law_1054 ?_
        refine J_aload_n (pc := 1055) (q := 0) rfl rfl dL_law_1055 ?_
        refine J_iload_n (pc := 1056) (q := 3) rfl rfl dL_law_1056 ?_
        refine J_iconst (pc := 1057) (v := (1 : Int32)) (by decide) dL_law_1057 ?_
        refine J_iadd (pc := 1058) dL_law_1058 ?_
        obtain ⟨a1059, h1059, g_211⟩ := bnd g_210
        refine J_sld (pc := 1059) h1059 dL_law_1059 ?_
        refine J_aload_n (pc := 1060) (q := 0) rfl rfl dL_law_1060 ?_
        refine J_iload_n (pc := 1061) (q := 3) rfl rfl dL_law_1061 ?_
        refine J_iconst (pc := 1062) (v := (2 : Int32)) (by decide) dL_law_1062 ?_
        refine J_iadd (pc := 1063) dL_law_1063 ?_
        obtain ⟨a1064, h1064, g_212⟩ := bnd g_211
        refine J_sld (pc := 1064) h1064 dL_law_1064 ?_
        refine J_aload_n (pc := 1065) (q := 0) rfl rfl dL_law_1065 ?_
        refine J_iload_n (pc := 1066) (q := 3) rfl rfl dL_law_1066 ?_
        refine J_iconst (pc := 1067) (v := (3 : Int32)) (by decide) dL_law_1067 ?_
        refine J_iadd (pc := 1068) dL_law_1068 ?_
        obtain ⟨a1069, h1069, g_213⟩ := bnd g_212
        refine J_sld (pc := 1069) h1069 dL_law_1069 ?_
        obtain ⟨b1070, hb1070, g_214⟩ := bnd g_213
        obtain ⟨r1070, M1070, h1070, g_215⟩ := bnd2 g_214
        refine J_callVI (pc := 1070) (as := [vI a1059, vI a1064, vI a1069]) (tX9_sheet (d := d)  h1070) cf_X9_sheet cv_X9_sheet clF9 hb1070 ml_RL_137 (by omega) (Nat.le_of_ble_eq_true rfl) dL_law_1070 ?_
        refine J_iceq (pc := 1073) (tgt := 1207) (by decide) dL_law_1073 (fun hc1073 => ?_) (fun hc1073 => ?_)
        · rw [if_pos hc1073] at g_215
          exact jL_law_b1207 hk28 g_215
        · rw [if_neg hc1073] at g_215
          refine J_iconst (pc := 1076) (v := (0 : Int32)) (by decide) dL_law_1076 ?_
          exact absurd (show (0 : Int32) = 1 from congrArg Prod.fst (Option.some.inj g_215)) (by decide)
      rw [if_neg hc43_26] at g_1
      by_cases hc43_27 : (a39 &&& (31 : Int32)) = (27 : Int32)
      · rw [if_pos hc43_27] at g_1
        refine J_tin (pc := 43) (tgt := 1078) (off := (1035)) (by rw [hc43_27]; decide) (by rw [hc43_27]; decide) (by rw [hc43_27]; decide) (by decide) dL_law_43 ?_
        refine J_aload_n (pc := 1078) (q := 1) rfl rfl dL_law_1078 ?_
        refine J_aload_n (pc := 1079) (q := 0) rfl rfl dL_law_1079 ?_
        refine J_iload_n (pc := 1080) (q := 3) rfl rfl dL_law_1080 ?_
        refine J_iconst (pc := 1081) (v := (1 : Int32)) (by decide) dL_law_1081 ?_
        refine J_iadd (pc := 1082) dL_law_1082 ?_
        obtain ⟨a1083, h1083, g_216⟩ := bnd g_1
        refine J_sld (pc := 1083) h1083 dL_law_1083 ?_
        refine J_aload_n (pc := 1084) (q := 0) rfl rfl dL_law_1084 ?_
        refine J_iload_n (pc := 1085) (q := 3) rfl rfl dL_law_1085 ?_
        refine J_iconst (pc := 1086) (v := (2 : Int32)) (by decide) dL_law_1086 ?_
        refine J_iadd (pc := 1087) dL_law_1087 ?_
        obtain ⟨a1088, h1088, g_217⟩ := bnd g_216
        refine J_sld (pc := 1088) h1088 dL_law_1088 ?_
        refine J_aload_n (pc := 1089) (q := 0) rfl rfl dL_law_1089 ?_
        refine J_iload_n (pc := 1090) (q := 3) rfl rfl dL_law_1090 ?_
        refine J_iconst (pc := 1091) (v := (3 : Int32)) (by decide) dL_law_1091 ?_
        refine J_iadd (pc := 1092) dL_law_1092 ?_
        obtain ⟨a1093, h1093, g_218⟩ := bnd g_217
        refine J_sld (pc := 1093) h1093 dL_law_1093 ?_
        obtain ⟨b1094, hb1094, g_219⟩ := bnd g_218
        obtain ⟨r1094, M1094, h1094, g_220⟩ := bnd2 g_219
        refine J_callVI (pc := 1094) (as := [vI a1083, vI a1088, vI a1093]) (tX8_cell (d := d)  h1094) cf_X8_cell cv_X8_cell clF8 hb1094 ml_RL_138 (by omega) (Nat.le_of_ble_eq_true rfl) dL_law_1094 ?_
        refine J_aload_n (pc := 1097) (q := 2) rfl rfl dL_law_1097 ?_
        refine J_aload_n (pc := 1098) (q := 0) rfl rfl dL_law_1098 ?_
        refine J_iload_n (pc := 1099) (q := 3) rfl rfl dL_law_1099 ?_
        refine J_iconst (pc := 1100) (v := (1 : Int32)) (by decide) dL_law_1100 ?_
        refine J_iadd (pc := 1101) dL_law_1101 ?_
        obtain ⟨a1102, h1102, g_221⟩ := bnd g_220
        refine J_sld (pc := 1102) h1102 dL_law_1102 ?_
        refine J_aload_n (pc := 1103) (q := 0) rfl rfl dL_law_1103 ?_
        refine J_iload_n (pc := 1104) (q := 3) rfl rfl dL_law_1104 ?_
        refine J_iconst (pc := 1105) (v := (2 : Int32)) (by decide) dL_law_1105 ?_
        refine J_iadd (pc := 1106) dL_law_1106 ?_
        obtain ⟨a1107, h1107, g_222⟩ := bnd g_221
        refine J_sld (pc := 1107) h1107 dL_law_1107 ?_
        refine J_aload_n (pc := 1108) (q := 0) rfl rfl dL_law_1108 ?_
        refine J_iload_n (pc := 1109) (q := 3) rfl rfl dL_law_1109 ?_
        refine J_iconst (pc := 1110) (v := (3 : Int32)) (by decide) dL_law_1110 ?_
        refine J_iadd (pc := 1111) dL_law_1111 ?_
        obtain ⟨a1112, h1112, g_223⟩ := bnd g_222
        refine J_sld (pc := 1112) h1112 dL_law_1112 ?_
        obtain ⟨b1113, hb1113, g_224⟩ := bnd g_223
        obtain ⟨r1113, M1113, h1113, g_225⟩ := bnd2 g_224
        refine J_callVI (pc := 1113) (as := [vI a1102, vI a1107, vI a1112]) (tX9_cell (d := d)  h1113) cf_X9_cell cv_X9_cell clF9 hb1113 ml_RL_140 (by omega) (Nat.le_of_ble_eq_true rfl) dL_law_1113 ?_
        refine J_iceq (pc := 1116) (tgt := 1207) (by decide) dL_law_1116 (fun hc1116 => ?_) (fun hc1116 => ?_)
        · rw [if_pos hc1116] at g_225
          exact jL_law_b1207 hk28 g_225
        · rw [if_neg hc1116] at g_225
          refine J_iconst (pc := 1119) (v := (0 : Int32)) (by decide) dL_law_1119 ?_
          exact absurd (show (0 : Int32) = 1 from congrArg Prod.fst (Option.some.inj g_225)) (by decide)
      rw [if_neg hc43_27] at g_1
      by_cases hc43_28 : (a39 &&& (31 : Int32)) = (28 : Int32)
      · rw [if_pos hc43_28] at g_1
        refine J_tin (pc := 43) (tgt := 1121) (off := (1078)) (by rw [hc43_28]; decide) (by rw [hc43_28]; decide) (by rw [hc43_28]; decide) (by decide) dL_law_43 ?_
        refine J_aload_n (pc := 1121) (q := 1) rfl rfl dL_law_1121 ?_
        refine J_aload_n (pc := 1122) (q := 0) rfl rfl dL_law_1122 ?_
        refine J_iload_n (pc := 1123) (q := 3) rfl rfl dL_law_1123 ?_
        refine J_iconst (pc := 1124) (v := (1 : Int32)) (by decide) dL_law_1124 ?_
        refine J_iadd (pc := 1125) dL_law_1125 ?_
        obtain ⟨a1126, h1126, g_226⟩ := bnd g_1
        refine J_sld (pc := 1126) h1126 dL_law_1126 ?_
        refine J_aload_n (pc := 1127) (q := 0) rfl rfl dL_law_1127 ?_
        refine J_iload_n (pc := 1128) (q := 3) rfl rfl dL_law_1128 ?_
        refine J_iconst (pc := 1129) (v := (2 : Int32)) (by decide) dL_law_1129 ?_
        refine J_iadd (pc := 1130) dL_law_1130 ?_
        obtain ⟨a1131, h1131, g_227⟩ := bnd g_226
        refine J_sld (pc := 1131) h1131 dL_law_1131 ?_
        refine J_aload_n (pc := 1132) (q := 0) rfl rfl dL_law_1132 ?_
        refine J_iload_n (pc := 1133) (q := 3) rfl rfl dL_law_1133 ?_
        refine J_iconst (pc := 1134) (v := (3 : Int32)) (by decide) dL_law_1134 ?_
        refine J_iadd (pc := 1135) dL_law_1135 ?_
        obtain ⟨a1136, h1136, g_228⟩ := bnd g_227
        refine J_sld (pc := 1136) h1136 dL_law_1136 ?_
        refine J_aload_n (pc := 1137) (q := 0) rfl rfl dL_law_1137 ?_
        refine J_iload_n (pc := 1138) (q := 3) rfl rfl dL_law_1138 ?_
        refine J_iconst (pc := 1139) (v := (4 : Int32)) (by decide) dL_law_1139 ?_
        refine J_iadd (pc := 1140) dL_law_1140 ?_
        obtain ⟨a1141, h1141, g_229⟩ := bnd g_228
        refine J_sld (pc := 1141) h1141 dL_law_1141 ?_
        obtain ⟨b1142, hb1142, g_230⟩ := bnd g_229
        obtain ⟨r1142, M1142, h1142, g_231⟩ := bnd2 g_230
        refine J_callVI (pc := 1142) (as := [vI a1126, vI a1131, vI a1136, vI a1141]) (tX8_ways (d := d)  h1142) cf_X8_ways cv_X8_ways clF8 hb1142 ml_RL_141 (by omega) (Nat.le_of_ble_eq_true rfl) dL_law_1142 ?_
        refine J_aload_n (pc := 1145) (q := 2) rfl rfl dL_law_1145 ?_
        refine J_aload_n (pc := 1146) (q := 0) rfl rfl dL_law_1146 ?_
        refine J_iload_n (pc := 1147) (q := 3) rfl rfl dL_law_1147 ?_
        refine J_iconst (pc := 1148) (v := (1 : Int32)) (by decide) dL_law_1148 ?_
        refine J_iadd (pc := 1149) dL_law_1149 ?_
        obtain ⟨a1150, h1150, g_232⟩ := bnd g_231
        refine J_sld (pc := 1150) h1150 dL_law_1150 ?_
        refine J_aload_n (pc := 1151) (q := 0) rfl rfl dL_law_1151 ?_
        refine J_iload_n (pc := 1152) (q := 3) rfl rfl dL_law_1152 ?_
        refine J_iconst (pc := 1153) (v := (2 : Int32)) (by decide) dL_law_1153 ?_
        refine J_iadd (pc := 1154) dL_law_1154 ?_
        obtain ⟨a1155, h1155, g_233⟩ := bnd g_232
        refine J_sld (pc := 1155) h1155 dL_law_1155 ?_
        refine J_aload_n (pc := 1156) (q := 0) rfl rfl dL_law_1156 ?_
        refine J_iload_n (pc := 1157) (q := 3) rfl rfl dL_law_1157 ?_
        refine J_iconst (pc := 1158) (v := (3 : Int32)) (by decide) dL_law_1158 ?_
        refine J_iadd (pc := 1159) dL_law_1159 ?_
        obtain ⟨a1160, h1160, g_234⟩ := bnd g_233
        refine J_sld (pc := 1160) h1160 dL_law_1160 ?_
        refine J_aload_n (pc := 1161) (q := 0) rfl rfl dL_law_1161 ?_
        refine J_iload_n (pc := 1162) (q := 3) rfl rfl dL_law_1162 ?_
        refine J_iconst (pc := 1163) (v := (4 : Int32)) (by decide) dL_law_1163 ?_
        refine J_iadd (pc := 1164) dL_law_1164 ?_
        obtain ⟨a1165, h1165, g_235⟩ := bnd g_234
        refine J_sld (pc := 1165) h1165 dL_law_1165 ?_
        obtain ⟨b1166, hb1166, g_236⟩ := bnd g_235
        obtain ⟨r1166, M1166, h1166, g_237⟩ := bnd2 g_236
        refine J_callVI (pc := 1166) (as := [vI a1150, vI a1155, vI a1160, vI a1165]) (tX9_ways (d := d)  h1166) cf_X9_ways cv_X9_ways clF9 hb1166 ml_RL_145 (by omega) (Nat.le_of_ble_eq_true rfl) dL_law_1166 ?_
        refine J_iceq (pc := 1169) (tgt := 1207) (by decide) dL_law_1169 (fun hc1169 => ?_) (fun hc1169 => ?_)
        · rw [if_pos hc1169] at g_237
          exact jL_law_b1207 hk28 g_237
        · rw [if_neg hc1169] at g_237
          refine J_iconst (pc := 1172) (v := (0 : Int32)) (by decide) dL_law_1172 ?_
          exact absurd (show (0 : Int32) = 1 from congrArg Prod.fst (Option.some.inj g_237)) (by decide)
      rw [if_neg hc43_28] at g_1
      by_cases hc43_29 : (a39 &&& (31 : Int32)) = (29 : Int32)
      · rw [if_pos hc43_29] at g_1
        refine J_tin (pc := 43) (tgt := 1174) (off := (1131)) (by rw [hc43_29]; decide) (by rw [hc43_29]; decide) (by rw [hc43_29]; decide) (by decide) dL_law_43 ?_
        refine J_aload_n (pc := 1174) (q := 1) rfl rfl dL_law_1174 ?_
        refine J_aload_n (pc := 1175) (q := 0) rfl rfl dL_law_1175 ?_
        refine J_iload_n (pc := 1176) (q := 3) rfl rfl dL_law_1176 ?_
        refine J_iconst (pc := 1177) (v := (1 : Int32)) (by decide) dL_law_1177 ?_
        refine J_iadd (pc := 1178) dL_law_1178 ?_
        obtain ⟨a1179, h1179, g_238⟩ := bnd g_1
        refine J_sld (pc := 1179) h1179 dL_law_1179 ?_
        refine J_aload_n (pc := 1180) (q := 0) rfl rfl dL_law_1180 ?_
        refine J_iload_n (pc := 1181) (q := 3) rfl rfl dL_law_1181 ?_
        refine J_iconst (pc := 1182) (v := (2 : Int32)) (by decide) dL_law_1182 ?_
        refine J_iadd (pc := 1183) dL_law_1183 ?_
        obtain ⟨a1184, h1184, g_239⟩ := bnd g_238
        refine J_sld (pc := 1184) h1184 dL_law_1184 ?_
        obtain ⟨b1185, hb1185, g_240⟩ := bnd g_239
        obtain ⟨r1185, M1185, h1185, g_241⟩ := bnd2 g_240
        refine J_callVI (pc := 1185) (as := [vI a1179, vI a1184]) (tX8_taken (d := d)  h1185) cf_X8_taken cv_X8_taken clF8 hb1185 ml_RL_146 (by omega) (Nat.le_of_ble_eq_true rfl) dL_law_1185 ?_
        refine J_aload_n (pc := 1188) (q := 2) rfl rfl dL_law_1188 ?_
        refine J_aload_n (pc := 1189) (q := 0) rfl rfl dL_law_1189 ?_
        refine J_iload_n (pc := 1190) (q := 3) rfl rfl dL_law_1190 ?_
        refine J_iconst (pc := 1191) (v := (1 : Int32)) (by decide) dL_law_1191 ?_
        refine J_iadd (pc := 1192) dL_law_1192 ?_
        obtain ⟨a1193, h1193, g_242⟩ := bnd g_241
        refine J_sld (pc := 1193) h1193 dL_law_1193 ?_
        refine J_aload_n (pc := 1194) (q := 0) rfl rfl dL_law_1194 ?_
        refine J_iload_n (pc := 1195) (q := 3) rfl rfl dL_law_1195 ?_
        refine J_iconst (pc := 1196) (v := (2 : Int32)) (by decide) dL_law_1196 ?_
        refine J_iadd (pc := 1197) dL_law_1197 ?_
        obtain ⟨a1198, h1198, g_243⟩ := bnd g_242
        refine J_sld (pc := 1198) h1198 dL_law_1198 ?_
        obtain ⟨b1199, hb1199, g_244⟩ := bnd g_243
        obtain ⟨r1199, M1199, h1199, g_245⟩ := bnd2 g_244
        refine J_callVI (pc := 1199) (as := [vI a1193, vI a1198]) (tX9_taken (d := d)  h1199) cf_X9_taken cv_X9_taken clF9 hb1199 ml_RL_149 (by omega) (Nat.le_of_ble_eq_true rfl) dL_law_1199 ?_
        refine J_iceq (pc := 1202) (tgt := 1207) (by decide) dL_law_1202 (fun hc1202 => ?_) (fun hc1202 => ?_)
        · rw [if_pos hc1202] at g_245
          exact jL_law_b1207 hk28 g_245
        · rw [if_neg hc1202] at g_245
          refine J_iconst (pc := 1205) (v := (0 : Int32)) (by decide) dL_law_1205 ?_
          exact absurd (show (0 : Int32) = 1 from congrArg Prod.fst (Option.some.inj g_245)) (by decide)
      rw [if_neg hc43_29] at g_1
      refine J_tout (pc := 43) (tgt := 1207) (by decide) (by have hn0 := i32ne hc43_0 (z := 0) (by decide); have hn1 := i32ne hc43_1 (z := 1) (by decide); have hn2 := i32ne hc43_2 (z := 2) (by decide); have hn3 := i32ne hc43_3 (z := 3) (by decide); have hn4 := i32ne hc43_4 (z := 4) (by decide); have hn5 := i32ne hc43_5 (z := 5) (by decide); have hn6 := i32ne hc43_6 (z := 6) (by decide); have hn7 := i32ne hc43_7 (z := 7) (by decide); have hn8 := i32ne hc43_8 (z := 8) (by decide); have hn9 := i32ne hc43_9 (z := 9) (by decide); have hn10 := i32ne hc43_10 (z := 10) (by decide); have hn11 := i32ne hc43_11 (z := 11) (by decide); have hn12 := i32ne hc43_12 (z := 12) (by decide); have hn13 := i32ne hc43_13 (z := 13) (by decide); have hn14 := i32ne hc43_14 (z := 14) (by decide); have hn15 := i32ne hc43_15 (z := 15) (by decide); have hn16 := i32ne hc43_16 (z := 16) (by decide); have hn17 := i32ne hc43_17 (z := 17) (by decide); have hn18 := i32ne hc43_18 (z := 18) (by decide); have hn19 := i32ne hc43_19 (z := 19) (by decide); have hn20 := i32ne hc43_20 (z := 20) (by decide); have hn21 := i32ne hc43_21 (z := 21) (by decide); have hn22 := i32ne hc43_22 (z := 22) (by decide); have hn23 := i32ne hc43_23 (z := 23) (by decide); have hn24 := i32ne hc43_24 (z := 24) (by decide); have hn25 := i32ne hc43_25 (z := 25) (by decide); have hn26 := i32ne hc43_26 (z := 26) (by decide); have hn27 := i32ne hc43_27 (z := 27) (by decide); have hn28 := i32ne hc43_28 (z := 28) (by decide); have hn29 := i32ne hc43_29 (z := 29) (by decide); omega) dL_law_43 ?_
      exact jL_law_b1207 hk28 g_1
