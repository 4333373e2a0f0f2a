abbrev mX0_size : rM := (RX0, yX0_size, cX0_size, 1, (some .int), 0, 0)
set_option maxRecDepth 100000 in
theorem oX0_size : okV mX0_size 0 0 := ⟨⟨gW_in (List.mem_of_getElem? (i := 700) (by rfl)) rfl, gW_in (List.mem_of_getElem? (i := 48) (by decide +kernel)) rfl, by decide +kernel, by decide +kernel⟩, gW_in (List.mem_of_getElem? (i := 698) (by decide +kernel)) rfl, gW_in (List.mem_of_getElem? (i := 699) (by decide +kernel)) rfl, _, rfl, rfl⟩
abbrev mX0_clear : rM := (RX0, yX0_clear, cX0_clear, 1, none, 0, 0)
set_option maxRecDepth 100000 in
theorem oX0_clear : okV mX0_clear 0 0 := ⟨⟨gW_in (List.mem_of_getElem? (i := 494) (by rfl)) rfl, gW_in (List.mem_of_getElem? (i := 48) (by decide +kernel)) rfl, by decide +kernel, by decide +kernel⟩, gW_in (List.mem_of_getElem? (i := 492) (by decide +kernel)) rfl, gW_in (List.mem_of_getElem? (i := 493) (by decide +kernel)) rfl, _, rfl, rfl⟩
abbrev mX0_hasRoom : rM := (RX0, yX0_hasRoom, cX0_hasRoom, 1, (some .boolean), 0, 0)
set_option maxRecDepth 100000 in
theorem oX0_hasRoom : okV mX0_hasRoom 0 0 := ⟨⟨gW_in (List.mem_of_getElem? (i := 560) (by rfl)) rfl, gW_in (List.mem_of_getElem? (i := 48) (by decide +kernel)) rfl, by decide +kernel, by decide +kernel⟩, gW_in (List.mem_of_getElem? (i := 558) (by decide +kernel)) rfl, gW_in (List.mem_of_getElem? (i := 559) (by decide +kernel)) rfl, _, rfl, rfl⟩
abbrev mX0_enter : rM := (RX0, yX0_enter, cX0_enter, 7, (some .int), 0, 0)
set_option maxRecDepth 100000 in
theorem oX0_enter : okV mX0_enter 5 0 := ⟨⟨gW_in (List.mem_of_getElem? (i := 582) (by rfl)) rfl, gW_in (List.mem_of_getElem? (i := 48) (by decide +kernel)) rfl, by decide +kernel, by decide +kernel⟩, gW_in (List.mem_of_getElem? (i := 580) (by decide +kernel)) rfl, gW_in (List.mem_of_getElem? (i := 581) (by decide +kernel)) rfl, _, rfl, rfl⟩
abbrev mX0_sayerOf : rM := (RX0, yX0_sayerOf, cX0_sayerOf, 2, (some .int), 1, 21)
set_option maxRecDepth 100000 in
theorem oX0_sayerOf : okV mX0_sayerOf 1 0 := ⟨⟨gW_in (List.mem_of_getElem? (i := 619) (by rfl)) rfl, gW_in (List.mem_of_getElem? (i := 48) (by decide +kernel)) rfl, by decide +kernel, by decide +kernel⟩, gW_in (List.mem_of_getElem? (i := 617) (by decide +kernel)) rfl, gW_in (List.mem_of_getElem? (i := 618) (by decide +kernel)) rfl, _, rfl, rfl⟩
abbrev mX0_hearerOf : rM := (RX0, yX0_hearerOf, cX0_hearerOf, 2, (some .int), 1, 21)
set_option maxRecDepth 100000 in
theorem oX0_hearerOf : okV mX0_hearerOf 1 0 := ⟨⟨gW_in (List.mem_of_getElem? (i := 623) (by rfl)) rfl, gW_in (List.mem_of_getElem? (i := 48) (by decide +kernel)) rfl, by decide +kernel, by decide +kernel⟩, gW_in (List.mem_of_getElem? (i := 621) (by decide +kernel)) rfl, gW_in (List.mem_of_getElem? (i := 622) (by decide +kernel)) rfl, _, rfl, rfl⟩
abbrev mX0_placeIn : rM := (RX0, yX0_placeIn, cX0_placeIn, 2, (some .int), 1, 21)
set_option maxRecDepth 100000 in
theorem oX0_placeIn : okV mX0_placeIn 1 0 := ⟨⟨gW_in (List.mem_of_getElem? (i := 627) (by rfl)) rfl, gW_in (List.mem_of_getElem? (i := 48) (by decide +kernel)) rfl, by decide +kernel, by decide +kernel⟩, gW_in (List.mem_of_getElem? (i := 625) (by decide +kernel)) rfl, gW_in (List.mem_of_getElem? (i := 626) (by decide +kernel)) rfl, _, rfl, rfl⟩
abbrev mX0_dayOf : rM := (RX0, yX0_dayOf, cX0_dayOf, 2, (some .int), 1, 21)
set_option maxRecDepth 100000 in
theorem oX0_dayOf : okV mX0_dayOf 1 0 := ⟨⟨gW_in (List.mem_of_getElem? (i := 631) (by rfl)) rfl, gW_in (List.mem_of_getElem? (i := 48) (by decide +kernel)) rfl, by decide +kernel, by decide +kernel⟩, gW_in (List.mem_of_getElem? (i := 629) (by decide +kernel)) rfl, gW_in (List.mem_of_getElem? (i := 630) (by decide +kernel)) rfl, _, rfl, rfl⟩
abbrev mX0_standingOf : rM := (RX0, yX0_standingOf, cX0_standingOf, 2, (some .int), 1, 21)
set_option maxRecDepth 100000 in
theorem oX0_standingOf : okV mX0_standingOf 1 0 := ⟨⟨gW_in (List.mem_of_getElem? (i := 531) (by rfl)) rfl, gW_in (List.mem_of_getElem? (i := 48) (by decide +kernel)) rfl, by decide +kernel, by decide +kernel⟩, gW_in (List.mem_of_getElem? (i := 529) (by decide +kernel)) rfl, gW_in (List.mem_of_getElem? (i := 530) (by decide +kernel)) rfl, _, rfl, rfl⟩
abbrev mX0_lastDayOf : rM := (RX0, yX0_lastDayOf, cX0_lastDayOf, 2, (some .int), 3, 64)
set_option maxRecDepth 100000 in
theorem oX0_lastDayOf : okV mX0_lastDayOf 1 0 := ⟨⟨gW_in (List.mem_of_getElem? (i := 635) (by rfl)) rfl, gW_in (List.mem_of_getElem? (i := 48) (by decide +kernel)) rfl, by decide +kernel, by decide +kernel⟩, gW_in (List.mem_of_getElem? (i := 633) (by decide +kernel)) rfl, gW_in (List.mem_of_getElem? (i := 634) (by decide +kernel)) rfl, _, rfl, rfl⟩
abbrev mX0_engages : rM := (RX0, yX0_engages, cX0_engages, 3, (some .boolean), 3, 64)
set_option maxRecDepth 100000 in
theorem oX0_engages : okV mX0_engages 1 0 := ⟨⟨gW_in (List.mem_of_getElem? (i := 573) (by rfl)) rfl, gW_in (List.mem_of_getElem? (i := 48) (by decide +kernel)) rfl, by decide +kernel, by decide +kernel⟩, gW_in (List.mem_of_getElem? (i := 571) (by decide +kernel)) rfl, gW_in (List.mem_of_getElem? (i := 572) (by decide +kernel)) rfl, _, rfl, rfl⟩
abbrev mX0_take : rM := (RX0, yX0_take, cX0_take, 3, none, 3, 66)
set_option maxRecDepth 100000 in
theorem oX0_take : okV mX0_take 2 0 := ⟨⟨gW_in (List.mem_of_getElem? (i := 591) (by rfl)) rfl, gW_in (List.mem_of_getElem? (i := 48) (by decide +kernel)) rfl, by decide +kernel, by decide +kernel⟩, gW_in (List.mem_of_getElem? (i := 589) (by decide +kernel)) rfl, gW_in (List.mem_of_getElem? (i := 590) (by decide +kernel)) rfl, _, rfl, rfl⟩
abbrev mX0_change : rM := (RX0, yX0_change, cX0_change, 3, none, 1, 21)
set_option maxRecDepth 100000 in
theorem oX0_change : okV mX0_change 2 0 := ⟨⟨gW_in (List.mem_of_getElem? (i := 595) (by rfl)) rfl, gW_in (List.mem_of_getElem? (i := 48) (by decide +kernel)) rfl, by decide +kernel, by decide +kernel⟩, gW_in (List.mem_of_getElem? (i := 593) (by decide +kernel)) rfl, gW_in (List.mem_of_getElem? (i := 594) (by decide +kernel)) rfl, _, rfl, rfl⟩
abbrev mX0_hasSworn : rM := (RX0, yX0_hasSworn, cX0_hasSworn, 3, (some .boolean), 1, 21)
set_option maxRecDepth 100000 in
theorem oX0_hasSworn : okV mX0_hasSworn 2 0 := ⟨⟨gW_in (List.mem_of_getElem? (i := 603) (by rfl)) rfl, gW_in (List.mem_of_getElem? (i := 48) (by decide +kernel)) rfl, by decide +kernel, by decide +kernel⟩, gW_in (List.mem_of_getElem? (i := 601) (by decide +kernel)) rfl, gW_in (List.mem_of_getElem? (i := 602) (by decide +kernel)) rfl, _, rfl, rfl⟩
abbrev mX0_hearOath : rM := (RX0, yX0_hearOath, cX0_hearOath, 4, none, 2, 45)
set_option maxRecDepth 100000 in
theorem oX0_hearOath : okV mX0_hearOath 3 0 := ⟨⟨gW_in (List.mem_of_getElem? (i := 607) (by rfl)) rfl, gW_in (List.mem_of_getElem? (i := 48) (by decide +kernel)) rfl, by decide +kernel, by decide +kernel⟩, gW_in (List.mem_of_getElem? (i := 605) (by decide +kernel)) rfl, gW_in (List.mem_of_getElem? (i := 606) (by decide +kernel)) rfl, _, rfl, rfl⟩
abbrev mX0_judgeBeyond : rM := (RX0, yX0_judgeBeyond, cX0_judgeBeyond, 4, none, 5, 111)
set_option maxRecDepth 100000 in
theorem oX0_judgeBeyond : okV mX0_judgeBeyond 2 0 := ⟨⟨gW_in (List.mem_of_getElem? (i := 523) (by rfl)) rfl, gW_in (List.mem_of_getElem? (i := 48) (by decide +kernel)) rfl, by decide +kernel, by decide +kernel⟩, gW_in (List.mem_of_getElem? (i := 521) (by decide +kernel)) rfl, gW_in (List.mem_of_getElem? (i := 522) (by decide +kernel)) rfl, _, rfl, rfl⟩
abbrev mX0_judgeAll : rM := (RX0, yX0_judgeAll, cX0_judgeAll, 3, none, 5, 111)
set_option maxRecDepth 100000 in
theorem oX0_judgeAll : okV mX0_judgeAll 1 0 := ⟨⟨gW_in (List.mem_of_getElem? (i := 643) (by rfl)) rfl, gW_in (List.mem_of_getElem? (i := 48) (by decide +kernel)) rfl, by decide +kernel, by decide +kernel⟩, gW_in (List.mem_of_getElem? (i := 641) (by decide +kernel)) rfl, gW_in (List.mem_of_getElem? (i := 642) (by decide +kernel)) rfl, _, rfl, rfl⟩
abbrev mX0_foreseeVerdicts : rM := (RX0, yX0_foreseeVerdicts, cX0_foreseeVerdicts, 3, none, 4, 89)
set_option maxRecDepth 100000 in
theorem oX0_foreseeVerdicts : okV mX0_foreseeVerdicts 1 0 := ⟨⟨gW_in (List.mem_of_getElem? (i := 688) (by rfl)) rfl, gW_in (List.mem_of_getElem? (i := 48) (by decide +kernel)) rfl, by decide +kernel, by decide +kernel⟩, gW_in (List.mem_of_getElem? (i := 686) (by decide +kernel)) rfl, gW_in (List.mem_of_getElem? (i := 687) (by decide +kernel)) rfl, _, rfl, rfl⟩
abbrev mX0_judge : rM := (RX0, yX0_judge, cX0_judge, 3, none, 4, 89)
set_option maxRecDepth 100000 in
theorem oX0_judge : okV mX0_judge 2 0 := ⟨⟨gW_in (List.mem_of_getElem? (i := 539) (by rfl)) rfl, gW_in (List.mem_of_getElem? (i := 48) (by decide +kernel)) rfl, by decide +kernel, by decide +kernel⟩, gW_in (List.mem_of_getElem? (i := 538) (by decide +kernel)) rfl, gW_in (List.mem_of_getElem? (i := 17) (by decide +kernel)) rfl, _, rfl, rfl⟩
abbrev mX0_verdictOn : rM := (RX0, yX0_verdictOn, cX0_verdictOn, 4, (some .int), 2, 42)
set_option maxRecDepth 100000 in
theorem oX0_verdictOn : okV mX0_verdictOn 2 0 := ⟨⟨gW_in (List.mem_of_getElem? (i := 543) (by rfl)) rfl, gW_in (List.mem_of_getElem? (i := 48) (by decide +kernel)) rfl, by decide +kernel, by decide +kernel⟩, gW_in (List.mem_of_getElem? (i := 542) (by decide +kernel)) rfl, gW_in (List.mem_of_getElem? (i := 18) (by decide +kernel)) rfl, _, rfl, rfl⟩
abbrev mX0_carryOut : rM := (RX0, yX0_carryOut, cX0_carryOut, 4, none, 3, 66)
set_option maxRecDepth 100000 in
theorem oX0_carryOut : okV mX0_carryOut 3 0 := ⟨⟨gW_in (List.mem_of_getElem? (i := 548) (by rfl)) rfl, gW_in (List.mem_of_getElem? (i := 48) (by decide +kernel)) rfl, by decide +kernel, by decide +kernel⟩, gW_in (List.mem_of_getElem? (i := 547) (by decide +kernel)) rfl, gW_in (List.mem_of_getElem? (i := 19) (by decide +kernel)) rfl, _, rfl, rfl⟩
abbrev mX0_isRunning : rM := (RX0, yX0_isRunning, cX0_isRunning, 3, (some .boolean), 2, 42)
set_option maxRecDepth 100000 in
theorem oX0_isRunning : okV mX0_isRunning 1 0 := ⟨⟨gW_in (List.mem_of_getElem? (i := 527) (by rfl)) rfl, gW_in (List.mem_of_getElem? (i := 48) (by decide +kernel)) rfl, by decide +kernel, by decide +kernel⟩, gW_in (List.mem_of_getElem? (i := 526) (by decide +kernel)) rfl, gW_in (List.mem_of_getElem? (i := 15) (by decide +kernel)) rfl, _, rfl, rfl⟩
abbrev mX0_has : rM := (RX0, yX0_has, cX0_has, 2, (some .boolean), 0, 0)
set_option maxRecDepth 100000 in
theorem oX0_has : okV mX0_has 1 0 := ⟨⟨gW_in (List.mem_of_getElem? (i := 535) (by rfl)) rfl, gW_in (List.mem_of_getElem? (i := 48) (by decide +kernel)) rfl, by decide +kernel, by decide +kernel⟩, gW_in (List.mem_of_getElem? (i := 534) (by decide +kernel)) rfl, gW_in (List.mem_of_getElem? (i := 16) (by decide +kernel)) rfl, _, rfl, rfl⟩
abbrev mX1_faultKind : rM := (RX1, yX1_faultKind, cX1_faultKind, 1, (some .int), 0, 0)
set_option maxRecDepth 100000 in
theorem oX1_faultKind : okV mX1_faultKind 0 1 := ⟨⟨gW_in (List.mem_of_getElem? (i := 417) (by rfl)) rfl, gW_in (List.mem_of_getElem? (i := 46) (by decide +kernel)) rfl, by decide +kernel, by decide +kernel⟩, gW_in (List.mem_of_getElem? (i := 415) (by decide +kernel)) rfl, gW_in (List.mem_of_getElem? (i := 416) (by decide +kernel)) rfl, _, rfl, rfl⟩
abbrev mX1_faultPlace : rM := (RX1, yX1_faultPlace, cX1_faultPlace, 1, (some .int), 0, 0)
set_option maxRecDepth 100000 in
theorem oX1_faultPlace : okV mX1_faultPlace 0 1 := ⟨⟨gW_in (List.mem_of_getElem? (i := 421) (by rfl)) rfl, gW_in (List.mem_of_getElem? (i := 46) (by decide +kernel)) rfl, by decide +kernel, by decide +kernel⟩, gW_in (List.mem_of_getElem? (i := 419) (by decide +kernel)) rfl, gW_in (List.mem_of_getElem? (i := 420) (by decide +kernel)) rfl, _, rfl, rfl⟩
abbrev mX1_read : rM := (RX1, yX1_read, cX1_read, 4, (some .boolean), 8, 176)
set_option maxRecDepth 100000 in
theorem oX1_read : okV mX1_read 2 1 := ⟨⟨gW_in (List.mem_of_getElem? (i := 254) (by rfl)) rfl, gW_in (List.mem_of_getElem? (i := 46) (by decide +kernel)) rfl, by decide +kernel, by decide +kernel⟩, gW_in (List.mem_of_getElem? (i := 252) (by decide +kernel)) rfl, gW_in (List.mem_of_getElem? (i := 253) (by decide +kernel)) rfl, _, rfl, rfl⟩
abbrev mX1_isSound : rM := (RX1, yX1_isSound, cX1_isSound, 1, (some .boolean), 0, 0)
set_option maxRecDepth 100000 in
theorem oX1_isSound : okV mX1_isSound 0 1 := ⟨⟨gW_in (List.mem_of_getElem? (i := 262) (by rfl)) rfl, gW_in (List.mem_of_getElem? (i := 46) (by decide +kernel)) rfl, by decide +kernel, by decide +kernel⟩, gW_in (List.mem_of_getElem? (i := 261) (by decide +kernel)) rfl, gW_in (List.mem_of_getElem? (i := 0) (by decide +kernel)) rfl, _, rfl, rfl⟩
abbrev mX1_blame : rM := (RX1, yX1_blame, cX1_blame, 3, none, 0, 0)
set_option maxRecDepth 100000 in
theorem oX1_blame : okV mX1_blame 2 1 := ⟨⟨gW_in (List.mem_of_getElem? (i := 356) (by rfl)) rfl, gW_in (List.mem_of_getElem? (i := 46) (by decide +kernel)) rfl, by decide +kernel, by decide +kernel⟩, gW_in (List.mem_of_getElem? (i := 355) (by decide +kernel)) rfl, gW_in (List.mem_of_getElem? (i := 7) (by decide +kernel)) rfl, _, rfl, rfl⟩
abbrev mX1_readLine : rM := (RX1, yX1_readLine, cX1_readLine, 4, none, 7, 153)
set_option maxRecDepth 100000 in
theorem oX1_readLine : okV mX1_readLine 1 1 := ⟨⟨gW_in (List.mem_of_getElem? (i := 277) (by rfl)) rfl, gW_in (List.mem_of_getElem? (i := 46) (by decide +kernel)) rfl, by decide +kernel, by decide +kernel⟩, gW_in (List.mem_of_getElem? (i := 276) (by decide +kernel)) rfl, gW_in (List.mem_of_getElem? (i := 2) (by decide +kernel)) rfl, _, rfl, rfl⟩
abbrev mX1_readBurden : rM := (RX1, yX1_readBurden, cX1_readBurden, 5, none, 6, 129)
set_option maxRecDepth 100000 in
theorem oX1_readBurden : okV mX1_readBurden 1 1 := ⟨⟨gW_in (List.mem_of_getElem? (i := 347) (by rfl)) rfl, gW_in (List.mem_of_getElem? (i := 46) (by decide +kernel)) rfl, by decide +kernel, by decide +kernel⟩, gW_in (List.mem_of_getElem? (i := 346) (by decide +kernel)) rfl, gW_in (List.mem_of_getElem? (i := 5) (by decide +kernel)) rfl, _, rfl, rfl⟩
abbrev mX1_passSettingWord : rM := (RX1, yX1_passSettingWord, cX1_passSettingWord, 2, (some .int), 5, 108)
set_option maxRecDepth 100000 in
theorem oX1_passSettingWord : okV mX1_passSettingWord 0 1 := ⟨⟨gW_in (List.mem_of_getElem? (i := 281) (by rfl)) rfl, gW_in (List.mem_of_getElem? (i := 46) (by decide +kernel)) rfl, by decide +kernel, by decide +kernel⟩, gW_in (List.mem_of_getElem? (i := 280) (by decide +kernel)) rfl, gW_in (List.mem_of_getElem? (i := 3) (by decide +kernel)) rfl, _, rfl, rfl⟩
abbrev mX1_expectWord : rM := (RX1, yX1_expectWord, cX1_expectWord, 2, none, 5, 108)
set_option maxRecDepth 100000 in
theorem oX1_expectWord : okV mX1_expectWord 1 1 := ⟨⟨gW_in (List.mem_of_getElem? (i := 352) (by rfl)) rfl, gW_in (List.mem_of_getElem? (i := 46) (by decide +kernel)) rfl, by decide +kernel, by decide +kernel⟩, gW_in (List.mem_of_getElem? (i := 351) (by decide +kernel)) rfl, gW_in (List.mem_of_getElem? (i := 6) (by decide +kernel)) rfl, _, rfl, rfl⟩
abbrev mX1_expectNewName : rM := (RX1, yX1_expectNewName, cX1_expectNewName, 3, (some .int), 2, 42)
set_option maxRecDepth 100000 in
theorem oX1_expectNewName : okV mX1_expectNewName 1 1 := ⟨⟨gW_in (List.mem_of_getElem? (i := 360) (by rfl)) rfl, gW_in (List.mem_of_getElem? (i := 46) (by decide +kernel)) rfl, by decide +kernel, by decide +kernel⟩, gW_in (List.mem_of_getElem? (i := 359) (by decide +kernel)) rfl, gW_in (List.mem_of_getElem? (i := 8) (by decide +kernel)) rfl, _, rfl, rfl⟩
abbrev mX1_expectNumber : rM := (RX1, yX1_expectNumber, cX1_expectNumber, 5, (some .int), 2, 41)
set_option maxRecDepth 100000 in
theorem oX1_expectNumber : okV mX1_expectNumber 2 1 := ⟨⟨gW_in (List.mem_of_getElem? (i := 373) (by rfl)) rfl, gW_in (List.mem_of_getElem? (i := 46) (by decide +kernel)) rfl, by decide +kernel, by decide +kernel⟩, gW_in (List.mem_of_getElem? (i := 372) (by decide +kernel)) rfl, gW_in (List.mem_of_getElem? (i := 10) (by decide +kernel)) rfl, _, rfl, rfl⟩
abbrev mX1_expectSemicolon : rM := (RX1, yX1_expectSemicolon, cX1_expectSemicolon, 1, none, 2, 41)
set_option maxRecDepth 100000 in
theorem oX1_expectSemicolon : okV mX1_expectSemicolon 0 1 := ⟨⟨gW_in (List.mem_of_getElem? (i := 397) (by rfl)) rfl, gW_in (List.mem_of_getElem? (i := 46) (by decide +kernel)) rfl, by decide +kernel, by decide +kernel⟩, gW_in (List.mem_of_getElem? (i := 396) (by decide +kernel)) rfl, gW_in (List.mem_of_getElem? (i := 11) (by decide +kernel)) rfl, _, rfl, rfl⟩
abbrev mX1_nextSign : rM := (RX1, yX1_nextSign, cX1_nextSign, 1, (some .int), 1, 21)
set_option maxRecDepth 100000 in
theorem oX1_nextSign : okV mX1_nextSign 0 1 := ⟨⟨gW_in (List.mem_of_getElem? (i := 266) (by rfl)) rfl, gW_in (List.mem_of_getElem? (i := 46) (by decide +kernel)) rfl, by decide +kernel, by decide +kernel⟩, gW_in (List.mem_of_getElem? (i := 265) (by decide +kernel)) rfl, gW_in (List.mem_of_getElem? (i := 1) (by decide +kernel)) rfl, _, rfl, rfl⟩
abbrev mX1_passWord : rM := (RX1, yX1_passWord, cX1_passWord, 4, (some .boolean), 4, 85)
set_option maxRecDepth 100000 in
theorem oX1_passWord : okV mX1_passWord 1 1 := ⟨⟨gW_in (List.mem_of_getElem? (i := 292) (by rfl)) rfl, gW_in (List.mem_of_getElem? (i := 46) (by decide +kernel)) rfl, by decide +kernel, by decide +kernel⟩, gW_in (List.mem_of_getElem? (i := 291) (by decide +kernel)) rfl, gW_in (List.mem_of_getElem? (i := 4) (by decide +kernel)) rfl, _, rfl, rfl⟩
abbrev mX1_wordOf : rM := (RX1, yX1_wordOf, cX1_wordOf, 1, (some (.object "java/lang/String")), 0, 0)
set_option maxRecDepth 100000 in
theorem oX1_wordOf : okM mX1_wordOf 1 := ⟨gW_in (List.mem_of_getElem? (i := 284) (by rfl)) rfl, gW_in (List.mem_of_getElem? (i := 46) (by decide +kernel)) rfl, by decide +kernel, by decide +kernel⟩
theorem sX1_wordOf : Cond.static (mY mX1_wordOf) ∈ gW := gW_in (List.mem_of_getElem? (i := 283) (by decide +kernel)) rfl
abbrev mX1_mostOf : rM := (RX1, yX1_mostOf, cX1_mostOf, 1, (some .int), 0, 0)
set_option maxRecDepth 100000 in
theorem oX1_mostOf : okM mX1_mostOf 1 := ⟨gW_in (List.mem_of_getElem? (i := 388) (by rfl)) rfl, gW_in (List.mem_of_getElem? (i := 46) (by decide +kernel)) rfl, by decide +kernel, by decide +kernel⟩
theorem sX1_mostOf : Cond.static (mY mX1_mostOf) ∈ gW := gW_in (List.mem_of_getElem? (i := 387) (by decide +kernel)) rfl
abbrev mX1_isBlank : rM := (RX1, yX1_isBlank, cX1_isBlank, 1, (some .boolean), 0, 0)
set_option maxRecDepth 100000 in
theorem oX1_isBlank : okM mX1_isBlank 1 := ⟨gW_in (List.mem_of_getElem? (i := 273) (by rfl)) rfl, gW_in (List.mem_of_getElem? (i := 46) (by decide +kernel)) rfl, by decide +kernel, by decide +kernel⟩
theorem sX1_isBlank : Cond.static (mY mX1_isBlank) ∈ gW := gW_in (List.mem_of_getElem? (i := 272) (by decide +kernel)) rfl
abbrev mX1_isDigit : rM := (RX1, yX1_isDigit, cX1_isDigit, 1, (some .boolean), 0, 0)
set_option maxRecDepth 100000 in
theorem oX1_isDigit : okM mX1_isDigit 1 := ⟨gW_in (List.mem_of_getElem? (i := 376) (by rfl)) rfl, gW_in (List.mem_of_getElem? (i := 46) (by decide +kernel)) rfl, by decide +kernel, by decide +kernel⟩
theorem sX1_isDigit : Cond.static (mY mX1_isDigit) ∈ gW := gW_in (List.mem_of_getElem? (i := 375) (by decide +kernel)) rfl
abbrev mX1_isSmallLetter : rM := (RX1, yX1_isSmallLetter, cX1_isSmallLetter, 1, (some .boolean), 0, 0)
set_option maxRecDepth 100000 in
theorem oX1_isSmallLetter : okM mX1_isSmallLetter 1 := ⟨gW_in (List.mem_of_getElem? (i := 295) (by rfl)) rfl, gW_in (List.mem_of_getElem? (i := 46) (by decide +kernel)) rfl, by decide +kernel, by decide +kernel⟩
theorem sX1_isSmallLetter : Cond.static (mY mX1_isSmallLetter) ∈ gW := gW_in (List.mem_of_getElem? (i := 294) (by decide +kernel)) rfl
abbrev mX2_copyFrom : rM := (RX2, yX2_copyFrom, cX2_copyFrom, 3, none, 0, 0)
set_option maxRecDepth 100000 in
theorem oX2_copyFrom : okV mX2_copyFrom 1 2 := ⟨⟨gW_in (List.mem_of_getElem? (i := 684) (by rfl)) rfl, gW_in (List.mem_of_getElem? (i := 47) (by decide +kernel)) rfl, by decide +kernel, by decide +kernel⟩, gW_in (List.mem_of_getElem? (i := 682) (by decide +kernel)) rfl, gW_in (List.mem_of_getElem? (i := 683) (by decide +kernel)) rfl, _, rfl, rfl⟩
abbrev mX2_size : rM := (RX2, yX2_size, cX2_size, 1, (some .int), 0, 0)
set_option maxRecDepth 100000 in
theorem oX2_size : okV mX2_size 0 2 := ⟨⟨gW_in (List.mem_of_getElem? (i := 696) (by rfl)) rfl, gW_in (List.mem_of_getElem? (i := 47) (by decide +kernel)) rfl, by decide +kernel, by decide +kernel⟩, gW_in (List.mem_of_getElem? (i := 694) (by decide +kernel)) rfl, gW_in (List.mem_of_getElem? (i := 695) (by decide +kernel)) rfl, _, rfl, rfl⟩
abbrev mX2_has : rM := (RX2, yX2_has, cX2_has, 2, (some .boolean), 0, 0)
set_option maxRecDepth 100000 in
theorem oX2_has : okV mX2_has 1 2 := ⟨⟨gW_in (List.mem_of_getElem? (i := 441) (by rfl)) rfl, gW_in (List.mem_of_getElem? (i := 47) (by decide +kernel)) rfl, by decide +kernel, by decide +kernel⟩, gW_in (List.mem_of_getElem? (i := 439) (by decide +kernel)) rfl, gW_in (List.mem_of_getElem? (i := 440) (by decide +kernel)) rfl, _, rfl, rfl⟩
abbrev mX2_enter : rM := (RX2, yX2_enter, cX2_enter, 4, (some .int), 0, 0)
set_option maxRecDepth 100000 in
theorem oX2_enter : okV mX2_enter 2 2 := ⟨⟨gW_in (List.mem_of_getElem? (i := 433) (by rfl)) rfl, gW_in (List.mem_of_getElem? (i := 47) (by decide +kernel)) rfl, by decide +kernel, by decide +kernel⟩, gW_in (List.mem_of_getElem? (i := 431) (by decide +kernel)) rfl, gW_in (List.mem_of_getElem? (i := 432) (by decide +kernel)) rfl, _, rfl, rfl⟩
abbrev mX2_declaredOf : rM := (RX2, yX2_declaredOf, cX2_declaredOf, 2, (some .int), 1, 21)
set_option maxRecDepth 100000 in
theorem oX2_declaredOf : okV mX2_declaredOf 1 2 := ⟨⟨gW_in (List.mem_of_getElem? (i := 466) (by rfl)) rfl, gW_in (List.mem_of_getElem? (i := 47) (by decide +kernel)) rfl, by decide +kernel, by decide +kernel⟩, gW_in (List.mem_of_getElem? (i := 464) (by decide +kernel)) rfl, gW_in (List.mem_of_getElem? (i := 465) (by decide +kernel)) rfl, _, rfl, rfl⟩
abbrev mX2_hiddenOf : rM := (RX2, yX2_hiddenOf, cX2_hiddenOf, 2, (some .int), 1, 21)
set_option maxRecDepth 100000 in
theorem oX2_hiddenOf : okV mX2_hiddenOf 1 2 := ⟨⟨gW_in (List.mem_of_getElem? (i := 445) (by rfl)) rfl, gW_in (List.mem_of_getElem? (i := 47) (by decide +kernel)) rfl, by decide +kernel, by decide +kernel⟩, gW_in (List.mem_of_getElem? (i := 443) (by decide +kernel)) rfl, gW_in (List.mem_of_getElem? (i := 444) (by decide +kernel)) rfl, _, rfl, rfl⟩
abbrev mX2_worthOf : rM := (RX2, yX2_worthOf, cX2_worthOf, 2, (some .int), 2, 42)
set_option maxRecDepth 100000 in
theorem oX2_worthOf : okV mX2_worthOf 1 2 := ⟨⟨gW_in (List.mem_of_getElem? (i := 675) (by rfl)) rfl, gW_in (List.mem_of_getElem? (i := 47) (by decide +kernel)) rfl, by decide +kernel, by decide +kernel⟩, gW_in (List.mem_of_getElem? (i := 673) (by decide +kernel)) rfl, gW_in (List.mem_of_getElem? (i := 674) (by decide +kernel)) rfl, _, rfl, rfl⟩
abbrev mX2_placeOf : rM := (RX2, yX2_placeOf, cX2_placeOf, 2, (some .int), 1, 21)
set_option maxRecDepth 100000 in
theorem oX2_placeOf : okV mX2_placeOf 1 2 := ⟨⟨gW_in (List.mem_of_getElem? (i := 564) (by rfl)) rfl, gW_in (List.mem_of_getElem? (i := 47) (by decide +kernel)) rfl, by decide +kernel, by decide +kernel⟩, gW_in (List.mem_of_getElem? (i := 562) (by decide +kernel)) rfl, gW_in (List.mem_of_getElem? (i := 563) (by decide +kernel)) rfl, _, rfl, rfl⟩
abbrev mX2_freeFromOf : rM := (RX2, yX2_freeFromOf, cX2_freeFromOf, 2, (some .int), 1, 21)
set_option maxRecDepth 100000 in
theorem oX2_freeFromOf : okV mX2_freeFromOf 1 2 := ⟨⟨gW_in (List.mem_of_getElem? (i := 780) (by rfl)) rfl, gW_in (List.mem_of_getElem? (i := 47) (by decide +kernel)) rfl, by decide +kernel, by decide +kernel⟩, gW_in (List.mem_of_getElem? (i := 778) (by decide +kernel)) rfl, gW_in (List.mem_of_getElem? (i := 779) (by decide +kernel)) rfl, _, rfl, rfl⟩
abbrev mX2_yearsBorneOf : rM := (RX2, yX2_yearsBorneOf, cX2_yearsBorneOf, 2, (some .int), 1, 21)
set_option maxRecDepth 100000 in
theorem oX2_yearsBorneOf : okV mX2_yearsBorneOf 1 2 := ⟨⟨gW_in (List.mem_of_getElem? (i := 784) (by rfl)) rfl, gW_in (List.mem_of_getElem? (i := 47) (by decide +kernel)) rfl, by decide +kernel, by decide +kernel⟩, gW_in (List.mem_of_getElem? (i := 782) (by decide +kernel)) rfl, gW_in (List.mem_of_getElem? (i := 783) (by decide +kernel)) rfl, _, rfl, rfl⟩
abbrev mX2_bearerAt : rM := (RX2, yX2_bearerAt, cX2_bearerAt, 2, (some .int), 1, 20)
set_option maxRecDepth 100000 in
theorem oX2_bearerAt : okV mX2_bearerAt 1 2 := ⟨⟨gW_in (List.mem_of_getElem? (i := 483) (by rfl)) rfl, gW_in (List.mem_of_getElem? (i := 47) (by decide +kernel)) rfl, by decide +kernel, by decide +kernel⟩, gW_in (List.mem_of_getElem? (i := 481) (by decide +kernel)) rfl, gW_in (List.mem_of_getElem? (i := 482) (by decide +kernel)) rfl, _, rfl, rfl⟩
abbrev mX2_hasBorne : rM := (RX2, yX2_hasBorne, cX2_hasBorne, 3, (some .boolean), 1, 21)
set_option maxRecDepth 100000 in
theorem oX2_hasBorne : okV mX2_hasBorne 2 2 := ⟨⟨gW_in (List.mem_of_getElem? (i := 577) (by rfl)) rfl, gW_in (List.mem_of_getElem? (i := 47) (by decide +kernel)) rfl, by decide +kernel, by decide +kernel⟩, gW_in (List.mem_of_getElem? (i := 575) (by decide +kernel)) rfl, gW_in (List.mem_of_getElem? (i := 576) (by decide +kernel)) rfl, _, rfl, rfl⟩
abbrev mX2_uncover : rM := (RX2, yX2_uncover, cX2_uncover, 3, none, 1, 21)
set_option maxRecDepth 100000 in
theorem oX2_uncover : okV mX2_uncover 2 2 := ⟨⟨gW_in (List.mem_of_getElem? (i := 450) (by rfl)) rfl, gW_in (List.mem_of_getElem? (i := 47) (by decide +kernel)) rfl, by decide +kernel, by decide +kernel⟩, gW_in (List.mem_of_getElem? (i := 448) (by decide +kernel)) rfl, gW_in (List.mem_of_getElem? (i := 449) (by decide +kernel)) rfl, _, rfl, rfl⟩
abbrev mX2_exchangeEstates : rM := (RX2, yX2_exchangeEstates, cX2_exchangeEstates, 5, none, 1, 21)
set_option maxRecDepth 100000 in
theorem oX2_exchangeEstates : okV mX2_exchangeEstates 2 2 := ⟨⟨gW_in (List.mem_of_getElem? (i := 611) (by rfl)) rfl, gW_in (List.mem_of_getElem? (i := 47) (by decide +kernel)) rfl, by decide +kernel, by decide +kernel⟩, gW_in (List.mem_of_getElem? (i := 609) (by decide +kernel)) rfl, gW_in (List.mem_of_getElem? (i := 610) (by decide +kernel)) rfl, _, rfl, rfl⟩
abbrev mX2_manOfRank : rM := (RX2, yX2_manOfRank, cX2_manOfRank, 3, (some .int), 3, 66)
set_option maxRecDepth 100000 in
theorem oX2_manOfRank : okV mX2_manOfRank 1 2 := ⟨⟨gW_in (List.mem_of_getElem? (i := 458) (by rfl)) rfl, gW_in (List.mem_of_getElem? (i := 47) (by decide +kernel)) rfl, by decide +kernel, by decide +kernel⟩, gW_in (List.mem_of_getElem? (i := 456) (by decide +kernel)) rfl, gW_in (List.mem_of_getElem? (i := 457) (by decide +kernel)) rfl, _, rfl, rfl⟩
abbrev mX2_rankOf : rM := (RX2, yX2_rankOf, cX2_rankOf, 5, (some .int), 2, 42)
set_option maxRecDepth 100000 in
theorem oX2_rankOf : okV mX2_rankOf 1 2 := ⟨⟨gW_in (List.mem_of_getElem? (i := 462) (by rfl)) rfl, gW_in (List.mem_of_getElem? (i := 47) (by decide +kernel)) rfl, by decide +kernel, by decide +kernel⟩, gW_in (List.mem_of_getElem? (i := 461) (by decide +kernel)) rfl, gW_in (List.mem_of_getElem? (i := 12) (by decide +kernel)) rfl, _, rfl, rfl⟩
abbrev mX2_isFit : rM := (RX2, yX2_isFit, cX2_isFit, 4, (some .boolean), 1, 21)
set_option maxRecDepth 100000 in
theorem oX2_isFit : okV mX2_isFit 3 2 := ⟨⟨gW_in (List.mem_of_getElem? (i := 507) (by rfl)) rfl, gW_in (List.mem_of_getElem? (i := 47) (by decide +kernel)) rfl, by decide +kernel, by decide +kernel⟩, gW_in (List.mem_of_getElem? (i := 505) (by decide +kernel)) rfl, gW_in (List.mem_of_getElem? (i := 506) (by decide +kernel)) rfl, _, rfl, rfl⟩
abbrev mX2_fillPlaces : rM := (RX2, yX2_fillPlaces, cX2_fillPlaces, 6, (some .int), 3, 68)
set_option maxRecDepth 100000 in
theorem oX2_fillPlaces : okV mX2_fillPlaces 2 2 := ⟨⟨gW_in (List.mem_of_getElem? (i := 498) (by rfl)) rfl, gW_in (List.mem_of_getElem? (i := 47) (by decide +kernel)) rfl, by decide +kernel, by decide +kernel⟩, gW_in (List.mem_of_getElem? (i := 496) (by decide +kernel)) rfl, gW_in (List.mem_of_getElem? (i := 497) (by decide +kernel)) rfl, _, rfl, rfl⟩
abbrev mX2_richestFit : rM := (RX2, yX2_richestFit, cX2_richestFit, 5, (some .int), 2, 44)
set_option maxRecDepth 100000 in
theorem oX2_richestFit : okV mX2_richestFit 2 2 := ⟨⟨gW_in (List.mem_of_getElem? (i := 503) (by rfl)) rfl, gW_in (List.mem_of_getElem? (i := 47) (by decide +kernel)) rfl, by decide +kernel, by decide +kernel⟩, gW_in (List.mem_of_getElem? (i := 502) (by decide +kernel)) rfl, gW_in (List.mem_of_getElem? (i := 13) (by decide +kernel)) rfl, _, rfl, rfl⟩
abbrev mX2_handOver : rM := (RX2, yX2_handOver, cX2_handOver, 4, none, 2, 43)
set_option maxRecDepth 100000 in
theorem oX2_handOver : okV mX2_handOver 3 2 := ⟨⟨gW_in (List.mem_of_getElem? (i := 552) (by rfl)) rfl, gW_in (List.mem_of_getElem? (i := 47) (by decide +kernel)) rfl, by decide +kernel, by decide +kernel⟩, gW_in (List.mem_of_getElem? (i := 550) (by decide +kernel)) rfl, gW_in (List.mem_of_getElem? (i := 551) (by decide +kernel)) rfl, _, rfl, rfl⟩
abbrev mX2_layOn : rM := (RX2, yX2_layOn, cX2_layOn, 3, none, 1, 21)
set_option maxRecDepth 100000 in
theorem oX2_layOn : okV mX2_layOn 2 2 := ⟨⟨gW_in (List.mem_of_getElem? (i := 515) (by rfl)) rfl, gW_in (List.mem_of_getElem? (i := 47) (by decide +kernel)) rfl, by decide +kernel, by decide +kernel⟩, gW_in (List.mem_of_getElem? (i := 514) (by decide +kernel)) rfl, gW_in (List.mem_of_getElem? (i := 14) (by decide +kernel)) rfl, _, rfl, rfl⟩
abbrev mX2_partAt : rM := (RX2, yX2_partAt, cX2_partAt, 6, (some .int), 2, 45)
set_option maxRecDepth 100000 in
theorem oX2_partAt : okV mX2_partAt 2 2 := ⟨⟨gW_in (List.mem_of_getElem? (i := 652) (by rfl)) rfl, gW_in (List.mem_of_getElem? (i := 47) (by decide +kernel)) rfl, by decide +kernel, by decide +kernel⟩, gW_in (List.mem_of_getElem? (i := 650) (by decide +kernel)) rfl, gW_in (List.mem_of_getElem? (i := 651) (by decide +kernel)) rfl, _, rfl, rfl⟩
abbrev mX2_settle : rM := (RX2, yX2_settle, cX2_settle, 7, (some .int), 3, 70)
set_option maxRecDepth 100000 in
theorem oX2_settle : okV mX2_settle 2 2 := ⟨⟨gW_in (List.mem_of_getElem? (i := 647) (by rfl)) rfl, gW_in (List.mem_of_getElem? (i := 47) (by decide +kernel)) rfl, by decide +kernel, by decide +kernel⟩, gW_in (List.mem_of_getElem? (i := 645) (by decide +kernel)) rfl, gW_in (List.mem_of_getElem? (i := 646) (by decide +kernel)) rfl, _, rfl, rfl⟩
abbrev mX2_layDownAll : rM := (RX2, yX2_layDownAll, cX2_layDownAll, 2, none, 0, 0)
set_option maxRecDepth 100000 in
theorem oX2_layDownAll : okV mX2_layDownAll 0 2 := ⟨⟨gW_in (List.mem_of_getElem? (i := 661) (by rfl)) rfl, gW_in (List.mem_of_getElem? (i := 47) (by decide +kernel)) rfl, by decide +kernel, by decide +kernel⟩, gW_in (List.mem_of_getElem? (i := 660) (by decide +kernel)) rfl, gW_in (List.mem_of_getElem? (i := 21) (by decide +kernel)) rfl, _, rfl, rfl⟩
abbrev mX2_isPlace : rM := (RX2, yX2_isPlace, cX2_isPlace, 1, (some .boolean), 0, 0)
set_option maxRecDepth 100000 in
theorem oX2_isPlace : okM mX2_isPlace 1 := ⟨gW_in (List.mem_of_getElem? (i := 486) (by rfl)) rfl, gW_in (List.mem_of_getElem? (i := 47) (by decide +kernel)) rfl, by decide +kernel, by decide +kernel⟩
theorem sX2_isPlace : Cond.static (mY mX2_isPlace) ∈ gW := gW_in (List.mem_of_getElem? (i := 485) (by decide +kernel)) rfl
abbrev mX3_clear : rM := (RX3, yX3_clear, cX3_clear, 2, none, 0, 0)
set_option maxRecDepth 100000 in
theorem oX3_clear : okV mX3_clear 0 3 := ⟨⟨gW_in (List.mem_of_getElem? (i := 258) (by rfl)) rfl, gW_in (List.mem_of_getElem? (i := 49) (by decide +kernel)) rfl, by decide +kernel, by decide +kernel⟩, gW_in (List.mem_of_getElem? (i := 256) (by decide +kernel)) rfl, gW_in (List.mem_of_getElem? (i := 257) (by decide +kernel)) rfl, _, rfl, rfl⟩
abbrev mX3_hasBurden : rM := (RX3, yX3_hasBurden, cX3_hasBurden, 2, (some .boolean), 1, 21)
set_option maxRecDepth 100000 in
theorem oX3_hasBurden : okV mX3_hasBurden 1 3 := ⟨⟨gW_in (List.mem_of_getElem? (i := 364) (by rfl)) rfl, gW_in (List.mem_of_getElem? (i := 49) (by decide +kernel)) rfl, by decide +kernel, by decide +kernel⟩, gW_in (List.mem_of_getElem? (i := 362) (by decide +kernel)) rfl, gW_in (List.mem_of_getElem? (i := 363) (by decide +kernel)) rfl, _, rfl, rfl⟩
abbrev mX3_tellBurden : rM := (RX3, yX3_tellBurden, cX3_tellBurden, 4, none, 0, 0)
set_option maxRecDepth 100000 in
theorem oX3_tellBurden : okV mX3_tellBurden 3 3 := ⟨⟨gW_in (List.mem_of_getElem? (i := 385) (by rfl)) rfl, gW_in (List.mem_of_getElem? (i := 49) (by decide +kernel)) rfl, by decide +kernel, by decide +kernel⟩, gW_in (List.mem_of_getElem? (i := 383) (by decide +kernel)) rfl, gW_in (List.mem_of_getElem? (i := 384) (by decide +kernel)) rfl, _, rfl, rfl⟩
abbrev mX3_tellSetting : rM := (RX3, yX3_tellSetting, cX3_tellSetting, 3, none, 0, 0)
set_option maxRecDepth 100000 in
theorem oX3_tellSetting : okV mX3_tellSetting 2 3 := ⟨⟨gW_in (List.mem_of_getElem? (i := 393) (by rfl)) rfl, gW_in (List.mem_of_getElem? (i := 49) (by decide +kernel)) rfl, by decide +kernel, by decide +kernel⟩, gW_in (List.mem_of_getElem? (i := 391) (by decide +kernel)) rfl, gW_in (List.mem_of_getElem? (i := 392) (by decide +kernel)) rfl, _, rfl, rfl⟩
abbrev mX3_numberPlaces : rM := (RX3, yX3_numberPlaces, cX3_numberPlaces, 3, none, 0, 0)
set_option maxRecDepth 100000 in
theorem oX3_numberPlaces : okV mX3_numberPlaces 0 3 := ⟨⟨gW_in (List.mem_of_getElem? (i := 401) (by rfl)) rfl, gW_in (List.mem_of_getElem? (i := 49) (by decide +kernel)) rfl, by decide +kernel, by decide +kernel⟩, gW_in (List.mem_of_getElem? (i := 399) (by decide +kernel)) rfl, gW_in (List.mem_of_getElem? (i := 400) (by decide +kernel)) rfl, _, rfl, rfl⟩
abbrev mX3_setting : rM := (RX3, yX3_setting, cX3_setting, 2, (some .int), 0, 0)
set_option maxRecDepth 100000 in
theorem oX3_setting : okV mX3_setting 1 3 := ⟨⟨gW_in (List.mem_of_getElem? (i := 511) (by rfl)) rfl, gW_in (List.mem_of_getElem? (i := 49) (by decide +kernel)) rfl, by decide +kernel, by decide +kernel⟩, gW_in (List.mem_of_getElem? (i := 509) (by decide +kernel)) rfl, gW_in (List.mem_of_getElem? (i := 510) (by decide +kernel)) rfl, _, rfl, rfl⟩
abbrev mX3_places : rM := (RX3, yX3_places, cX3_places, 1, (some .int), 0, 0)
set_option maxRecDepth 100000 in
theorem oX3_places : okV mX3_places 0 3 := ⟨⟨gW_in (List.mem_of_getElem? (i := 409) (by rfl)) rfl, gW_in (List.mem_of_getElem? (i := 49) (by decide +kernel)) rfl, by decide +kernel, by decide +kernel⟩, gW_in (List.mem_of_getElem? (i := 407) (by decide +kernel)) rfl, gW_in (List.mem_of_getElem? (i := 408) (by decide +kernel)) rfl, _, rfl, rfl⟩
abbrev mX3_hasPlace : rM := (RX3, yX3_hasPlace, cX3_hasPlace, 2, (some .boolean), 0, 0)
set_option maxRecDepth 100000 in
theorem oX3_hasPlace : okV mX3_hasPlace 1 3 := ⟨⟨gW_in (List.mem_of_getElem? (i := 474) (by rfl)) rfl, gW_in (List.mem_of_getElem? (i := 49) (by decide +kernel)) rfl, by decide +kernel, by decide +kernel⟩, gW_in (List.mem_of_getElem? (i := 472) (by decide +kernel)) rfl, gW_in (List.mem_of_getElem? (i := 473) (by decide +kernel)) rfl, _, rfl, rfl⟩
abbrev mX3_burdenAt : rM := (RX3, yX3_burdenAt, cX3_burdenAt, 2, (some .int), 1, 21)
set_option maxRecDepth 100000 in
theorem oX3_burdenAt : okV mX3_burdenAt 1 3 := ⟨⟨gW_in (List.mem_of_getElem? (i := 478) (by rfl)) rfl, gW_in (List.mem_of_getElem? (i := 49) (by decide +kernel)) rfl, by decide +kernel, by decide +kernel⟩, gW_in (List.mem_of_getElem? (i := 476) (by decide +kernel)) rfl, gW_in (List.mem_of_getElem? (i := 477) (by decide +kernel)) rfl, _, rfl, rfl⟩
abbrev mX3_partBehind : rM := (RX3, yX3_partBehind, cX3_partBehind, 5, (some .int), 1, 21)
set_option maxRecDepth 100000 in
theorem oX3_partBehind : okV mX3_partBehind 2 3 := ⟨⟨gW_in (List.mem_of_getElem? (i := 657) (by rfl)) rfl, gW_in (List.mem_of_getElem? (i := 49) (by decide +kernel)) rfl, by decide +kernel, by decide +kernel⟩, gW_in (List.mem_of_getElem? (i := 655) (by decide +kernel)) rfl, gW_in (List.mem_of_getElem? (i := 656) (by decide +kernel)) rfl, _, rfl, rfl⟩
abbrev mX3_shareOf : rM := (RX3, yX3_shareOf, cX3_shareOf, 2, (some .int), 0, 0)
set_option maxRecDepth 100000 in
theorem oX3_shareOf : okV mX3_shareOf 1 3 := ⟨⟨gW_in (List.mem_of_getElem? (i := 368) (by rfl)) rfl, gW_in (List.mem_of_getElem? (i := 49) (by decide +kernel)) rfl, by decide +kernel, by decide +kernel⟩, gW_in (List.mem_of_getElem? (i := 367) (by decide +kernel)) rfl, gW_in (List.mem_of_getElem? (i := 9) (by decide +kernel)) rfl, _, rfl, rfl⟩
abbrev mX4_length : rM := (RX4, yX4_length, cX4_length, 1, (some .int), 0, 0)
set_option maxRecDepth 100000 in
theorem oX4_length : okV mX4_length 0 4 := ⟨⟨gW_in (List.mem_of_getElem? (i := 246) (by rfl)) rfl, gW_in (List.mem_of_getElem? (i := 45) (by decide +kernel)) rfl, by decide +kernel, by decide +kernel⟩, gW_in (List.mem_of_getElem? (i := 244) (by decide +kernel)) rfl, gW_in (List.mem_of_getElem? (i := 245) (by decide +kernel)) rfl, _, rfl, rfl⟩
abbrev mX4_hasRoom : rM := (RX4, yX4_hasRoom, cX4_hasRoom, 2, (some .boolean), 0, 0)
set_option maxRecDepth 100000 in
theorem oX4_hasRoom : okV mX4_hasRoom 1 4 := ⟨⟨gW_in (List.mem_of_getElem? (i := 238) (by rfl)) rfl, gW_in (List.mem_of_getElem? (i := 45) (by decide +kernel)) rfl, by decide +kernel, by decide +kernel⟩, gW_in (List.mem_of_getElem? (i := 236) (by decide +kernel)) rfl, gW_in (List.mem_of_getElem? (i := 237) (by decide +kernel)) rfl, _, rfl, rfl⟩
abbrev mX4_append : rM := (RX4, yX4_append, cX4_append, 3, none, 0, 0)
set_option maxRecDepth 100000 in
theorem oX4_append : okV mX4_append 1 4 := ⟨⟨gW_in (List.mem_of_getElem? (i := 242) (by rfl)) rfl, gW_in (List.mem_of_getElem? (i := 45) (by decide +kernel)) rfl, by decide +kernel, by decide +kernel⟩, gW_in (List.mem_of_getElem? (i := 240) (by decide +kernel)) rfl, gW_in (List.mem_of_getElem? (i := 241) (by decide +kernel)) rfl, _, rfl, rfl⟩
abbrev mX4_at : rM := (RX4, yX4_at, cX4_at, 2, (some .int), 0, 0)
set_option maxRecDepth 100000 in
theorem oX4_at : okV mX4_at 1 4 := ⟨⟨gW_in (List.mem_of_getElem? (i := 270) (by rfl)) rfl, gW_in (List.mem_of_getElem? (i := 45) (by decide +kernel)) rfl, by decide +kernel, by decide +kernel⟩, gW_in (List.mem_of_getElem? (i := 268) (by decide +kernel)) rfl, gW_in (List.mem_of_getElem? (i := 269) (by decide +kernel)) rfl, _, rfl, rfl⟩
abbrev mX4_clear : rM := (RX4, yX4_clear, cX4_clear, 1, none, 0, 0)
set_option maxRecDepth 100000 in
theorem oX4_clear : okV mX4_clear 0 4 := ⟨⟨gW_in (List.mem_of_getElem? (i := 405) (by rfl)) rfl, gW_in (List.mem_of_getElem? (i := 45) (by decide +kernel)) rfl, by decide +kernel, by decide +kernel⟩, gW_in (List.mem_of_getElem? (i := 403) (by decide +kernel)) rfl, gW_in (List.mem_of_getElem? (i := 404) (by decide +kernel)) rfl, _, rfl, rfl⟩
abbrev mX5_feed : rM := (RX5, yX5_feed, cX5_feed, 6, (some .int), 1, 22)
set_option maxRecDepth 100000 in
theorem oX5_feed : okV mX5_feed 5 5 := ⟨⟨gW_in (List.mem_of_getElem? (i := 234) (by rfl)) rfl, gW_in (List.mem_of_getElem? (i := 44) (by decide +kernel)) rfl, by decide +kernel, by decide +kernel⟩, gW_in (List.mem_of_getElem? (i := 232) (by decide +kernel)) rfl, gW_in (List.mem_of_getElem? (i := 233) (by decide +kernel)) rfl, _, rfl, rfl⟩
abbrev mX5_statutes : rM := (RX5, yX5_statutes, cX5_statutes, 4, (some .int), 9, 199)
set_option maxRecDepth 100000 in
theorem oX5_statutes : okV mX5_statutes 1 5 := ⟨⟨gW_in (List.mem_of_getElem? (i := 250) (by rfl)) rfl, gW_in (List.mem_of_getElem? (i := 44) (by decide +kernel)) rfl, by decide +kernel, by decide +kernel⟩, gW_in (List.mem_of_getElem? (i := 248) (by decide +kernel)) rfl, gW_in (List.mem_of_getElem? (i := 249) (by decide +kernel)) rfl, _, rfl, rfl⟩
abbrev mX5_fault : rM := (RX5, yX5_fault, cX5_fault, 2, (some .int), 1, 20)
set_option maxRecDepth 100000 in
theorem oX5_fault : okV mX5_fault 1 5 := ⟨⟨gW_in (List.mem_of_getElem? (i := 413) (by rfl)) rfl, gW_in (List.mem_of_getElem? (i := 44) (by decide +kernel)) rfl, by decide +kernel, by decide +kernel⟩, gW_in (List.mem_of_getElem? (i := 411) (by decide +kernel)) rfl, gW_in (List.mem_of_getElem? (i := 412) (by decide +kernel)) rfl, _, rfl, rfl⟩
abbrev mX5_man : rM := (RX5, yX5_man, cX5_man, 3, (some .int), 1, 23)
set_option maxRecDepth 100000 in
theorem oX5_man : okV mX5_man 2 5 := ⟨⟨gW_in (List.mem_of_getElem? (i := 425) (by rfl)) rfl, gW_in (List.mem_of_getElem? (i := 44) (by decide +kernel)) rfl, by decide +kernel, by decide +kernel⟩, gW_in (List.mem_of_getElem? (i := 423) (by decide +kernel)) rfl, gW_in (List.mem_of_getElem? (i := 424) (by decide +kernel)) rfl, _, rfl, rfl⟩
abbrev mX5_found : rM := (RX5, yX5_found, cX5_found, 3, (some .boolean), 2, 43)
set_option maxRecDepth 100000 in
theorem oX5_found : okV mX5_found 2 5 := ⟨⟨gW_in (List.mem_of_getElem? (i := 437) (by rfl)) rfl, gW_in (List.mem_of_getElem? (i := 44) (by decide +kernel)) rfl, by decide +kernel, by decide +kernel⟩, gW_in (List.mem_of_getElem? (i := 435) (by decide +kernel)) rfl, gW_in (List.mem_of_getElem? (i := 436) (by decide +kernel)) rfl, _, rfl, rfl⟩
abbrev mX5_look : rM := (RX5, yX5_look, cX5_look, 3, (some .int), 3, 65)
set_option maxRecDepth 100000 in
theorem oX5_look : okV mX5_look 2 5 := ⟨⟨gW_in (List.mem_of_getElem? (i := 709) (by rfl)) rfl, gW_in (List.mem_of_getElem? (i := 44) (by decide +kernel)) rfl, by decide +kernel, by decide +kernel⟩, gW_in (List.mem_of_getElem? (i := 707) (by decide +kernel)) rfl, gW_in (List.mem_of_getElem? (i := 708) (by decide +kernel)) rfl, _, rfl, rfl⟩
abbrev mX5_richest : rM := (RX5, yX5_richest, cX5_richest, 2, (some .int), 4, 88)
set_option maxRecDepth 100000 in
theorem oX5_richest : okV mX5_richest 1 5 := ⟨⟨gW_in (List.mem_of_getElem? (i := 454) (by rfl)) rfl, gW_in (List.mem_of_getElem? (i := 44) (by decide +kernel)) rfl, by decide +kernel, by decide +kernel⟩, gW_in (List.mem_of_getElem? (i := 452) (by decide +kernel)) rfl, gW_in (List.mem_of_getElem? (i := 453) (by decide +kernel)) rfl, _, rfl, rfl⟩
abbrev mX5_place : rM := (RX5, yX5_place, cX5_place, 3, (some .int), 2, 42)
set_option maxRecDepth 100000 in
theorem oX5_place : okV mX5_place 2 5 := ⟨⟨gW_in (List.mem_of_getElem? (i := 470) (by rfl)) rfl, gW_in (List.mem_of_getElem? (i := 44) (by decide +kernel)) rfl, by decide +kernel, by decide +kernel⟩, gW_in (List.mem_of_getElem? (i := 468) (by decide +kernel)) rfl, gW_in (List.mem_of_getElem? (i := 469) (by decide +kernel)) rfl, _, rfl, rfl⟩
abbrev mX5_begin : rM := (RX5, yX5_begin, cX5_begin, 2, (some .int), 4, 93)
set_option maxRecDepth 100000 in
theorem oX5_begin : okV mX5_begin 0 5 := ⟨⟨gW_in (List.mem_of_getElem? (i := 490) (by rfl)) rfl, gW_in (List.mem_of_getElem? (i := 44) (by decide +kernel)) rfl, by decide +kernel, by decide +kernel⟩, gW_in (List.mem_of_getElem? (i := 488) (by decide +kernel)) rfl, gW_in (List.mem_of_getElem? (i := 489) (by decide +kernel)) rfl, _, rfl, rfl⟩
abbrev mX5_pass : rM := (RX5, yX5_pass, cX5_pass, 2, (some .int), 6, 134)
set_option maxRecDepth 100000 in
theorem oX5_pass : okV mX5_pass 1 5 := ⟨⟨gW_in (List.mem_of_getElem? (i := 519) (by rfl)) rfl, gW_in (List.mem_of_getElem? (i := 44) (by decide +kernel)) rfl, by decide +kernel, by decide +kernel⟩, gW_in (List.mem_of_getElem? (i := 517) (by decide +kernel)) rfl, gW_in (List.mem_of_getElem? (i := 518) (by decide +kernel)) rfl, _, rfl, rfl⟩
abbrev mX5_challenge : rM := (RX5, yX5_challenge, cX5_challenge, 4, (some .int), 4, 86)
set_option maxRecDepth 100000 in
theorem oX5_challenge : okV mX5_challenge 2 5 := ⟨⟨gW_in (List.mem_of_getElem? (i := 556) (by rfl)) rfl, gW_in (List.mem_of_getElem? (i := 44) (by decide +kernel)) rfl, by decide +kernel, by decide +kernel⟩, gW_in (List.mem_of_getElem? (i := 554) (by decide +kernel)) rfl, gW_in (List.mem_of_getElem? (i := 555) (by decide +kernel)) rfl, _, rfl, rfl⟩
abbrev mX5_answer : rM := (RX5, yX5_answer, cX5_answer, 3, (some .boolean), 4, 88)
set_option maxRecDepth 100000 in
theorem oX5_answer : okV mX5_answer 2 5 := ⟨⟨gW_in (List.mem_of_getElem? (i := 586) (by rfl)) rfl, gW_in (List.mem_of_getElem? (i := 44) (by decide +kernel)) rfl, by decide +kernel, by decide +kernel⟩, gW_in (List.mem_of_getElem? (i := 584) (by decide +kernel)) rfl, gW_in (List.mem_of_getElem? (i := 585) (by decide +kernel)) rfl, _, rfl, rfl⟩
abbrev mX5_swear : rM := (RX5, yX5_swear, cX5_swear, 3, (some .boolean), 3, 68)
set_option maxRecDepth 100000 in
theorem oX5_swear : okV mX5_swear 2 5 := ⟨⟨gW_in (List.mem_of_getElem? (i := 599) (by rfl)) rfl, gW_in (List.mem_of_getElem? (i := 44) (by decide +kernel)) rfl, by decide +kernel, by decide +kernel⟩, gW_in (List.mem_of_getElem? (i := 597) (by decide +kernel)) rfl, gW_in (List.mem_of_getElem? (i := 598) (by decide +kernel)) rfl, _, rfl, rfl⟩
abbrev mX5_told : rM := (RX5, yX5_told, cX5_told, 3, (some .int), 4, 85)
set_option maxRecDepth 100000 in
theorem oX5_told : okV mX5_told 2 5 := ⟨⟨gW_in (List.mem_of_getElem? (i := 615) (by rfl)) rfl, gW_in (List.mem_of_getElem? (i := 44) (by decide +kernel)) rfl, by decide +kernel, by decide +kernel⟩, gW_in (List.mem_of_getElem? (i := 613) (by decide +kernel)) rfl, gW_in (List.mem_of_getElem? (i := 614) (by decide +kernel)) rfl, _, rfl, rfl⟩
abbrev mX5_end : rM := (RX5, yX5_end, cX5_end, 2, (some .int), 6, 133)
set_option maxRecDepth 100000 in
theorem oX5_end : okV mX5_end 0 5 := ⟨⟨gW_in (List.mem_of_getElem? (i := 639) (by rfl)) rfl, gW_in (List.mem_of_getElem? (i := 44) (by decide +kernel)) rfl, by decide +kernel, by decide +kernel⟩, gW_in (List.mem_of_getElem? (i := 637) (by decide +kernel)) rfl, gW_in (List.mem_of_getElem? (i := 638) (by decide +kernel)) rfl, _, rfl, rfl⟩
abbrev mX5_part : rM := (RX5, yX5_part, cX5_part, 2, (some .int), 3, 70)
set_option maxRecDepth 100000 in
theorem oX5_part : okV mX5_part 1 5 := ⟨⟨gW_in (List.mem_of_getElem? (i := 665) (by rfl)) rfl, gW_in (List.mem_of_getElem? (i := 44) (by decide +kernel)) rfl, by decide +kernel, by decide +kernel⟩, gW_in (List.mem_of_getElem? (i := 663) (by decide +kernel)) rfl, gW_in (List.mem_of_getElem? (i := 664) (by decide +kernel)) rfl, _, rfl, rfl⟩
abbrev mX5_gain : rM := (RX5, yX5_gain, cX5_gain, 9, (some .int), 3, 70)
set_option maxRecDepth 100000 in
theorem oX5_gain : okV mX5_gain 2 5 := ⟨⟨gW_in (List.mem_of_getElem? (i := 670) (by rfl)) rfl, gW_in (List.mem_of_getElem? (i := 44) (by decide +kernel)) rfl, by decide +kernel, by decide +kernel⟩, gW_in (List.mem_of_getElem? (i := 668) (by decide +kernel)) rfl, gW_in (List.mem_of_getElem? (i := 669) (by decide +kernel)) rfl, _, rfl, rfl⟩
abbrev mX5_ahead : rM := (RX5, yX5_ahead, cX5_ahead, 3, (some .int), 5, 111)
set_option maxRecDepth 100000 in
theorem oX5_ahead : okV mX5_ahead 1 5 := ⟨⟨gW_in (List.mem_of_getElem? (i := 680) (by rfl)) rfl, gW_in (List.mem_of_getElem? (i := 44) (by decide +kernel)) rfl, by decide +kernel, by decide +kernel⟩, gW_in (List.mem_of_getElem? (i := 678) (by decide +kernel)) rfl, gW_in (List.mem_of_getElem? (i := 679) (by decide +kernel)) rfl, _, rfl, rfl⟩
abbrev mX5_count : rM := (RX5, yX5_count, cX5_count, 2, (some .int), 1, 20)
set_option maxRecDepth 100000 in
theorem oX5_count : okV mX5_count 1 5 := ⟨⟨gW_in (List.mem_of_getElem? (i := 692) (by rfl)) rfl, gW_in (List.mem_of_getElem? (i := 44) (by decide +kernel)) rfl, by decide +kernel, by decide +kernel⟩, gW_in (List.mem_of_getElem? (i := 690) (by decide +kernel)) rfl, gW_in (List.mem_of_getElem? (i := 691) (by decide +kernel)) rfl, _, rfl, rfl⟩
abbrev mX5_areCoins : rM := (RX5, yX5_areCoins, cX5_areCoins, 1, (some .boolean), 0, 0)
set_option maxRecDepth 100000 in
theorem oX5_areCoins : okM mX5_areCoins 1 := ⟨gW_in (List.mem_of_getElem? (i := 428) (by rfl)) rfl, gW_in (List.mem_of_getElem? (i := 44) (by decide +kernel)) rfl, by decide +kernel, by decide +kernel⟩
theorem sX5_areCoins : Cond.static (mY mX5_areCoins) ∈ gW := gW_in (List.mem_of_getElem? (i := 427) (by decide +kernel)) rfl
abbrev mX5_isFitNow : rM := (RX5, yX5_isFitNow, cX5_isFitNow, 2, (some .boolean), 2, 44)
set_option maxRecDepth 100000 in
theorem oX5_isFitNow : okV mX5_isFitNow 1 5 := ⟨⟨gW_in (List.mem_of_getElem? (i := 568) (by rfl)) rfl, gW_in (List.mem_of_getElem? (i := 44) (by decide +kernel)) rfl, by decide +kernel, by decide +kernel⟩, gW_in (List.mem_of_getElem? (i := 567) (by decide +kernel)) rfl, gW_in (List.mem_of_getElem? (i := 20) (by decide +kernel)) rfl, _, rfl, rfl⟩
abbrev mX6_thrown : rM := (RX6, yX6_thrown, cX6_thrown, 1, (some .int), 0, 0)
set_option maxRecDepth 100000 in
theorem oX6_thrown : okV mX6_thrown 0 6 := ⟨⟨gW_in (List.mem_of_getElem? (i := 922) (by rfl)) rfl, gW_in (List.mem_of_getElem? (i := 50) (by decide +kernel)) rfl, by decide +kernel, by decide +kernel⟩, gW_in (List.mem_of_getElem? (i := 920) (by decide +kernel)) rfl, gW_in (List.mem_of_getElem? (i := 921) (by decide +kernel)) rfl, _, rfl, rfl⟩
abbrev mX6_feed : rM := (RX6, yX6_feed, cX6_feed, 8, (some .int), 0, 0)
set_option maxRecDepth 100000 in
theorem oX6_feed : okV mX6_feed 5 6 := ⟨⟨gW_in (List.mem_of_getElem? (i := 926) (by rfl)) rfl, gW_in (List.mem_of_getElem? (i := 50) (by decide +kernel)) rfl, by decide +kernel, by decide +kernel⟩, gW_in (List.mem_of_getElem? (i := 924) (by decide +kernel)) rfl, gW_in (List.mem_of_getElem? (i := 925) (by decide +kernel)) rfl, _, rfl, rfl⟩
abbrev mX6_wrong : rM := (RX6, yX6_wrong, cX6_wrong, 3, (some .boolean), 0, 0)
set_option maxRecDepth 100000 in
theorem oX6_wrong : okV mX6_wrong 2 6 := ⟨⟨gW_in (List.mem_of_getElem? (i := 955) (by rfl)) rfl, gW_in (List.mem_of_getElem? (i := 50) (by decide +kernel)) rfl, by decide +kernel, by decide +kernel⟩, gW_in (List.mem_of_getElem? (i := 954) (by decide +kernel)) rfl, gW_in (List.mem_of_getElem? (i := 28) (by decide +kernel)) rfl, _, rfl, rfl⟩
abbrev mX6_wordAt : rM := (RX6, yX6_wordAt, cX6_wordAt, 8, (some .int), 0, 0)
set_option maxRecDepth 100000 in
theorem oX6_wordAt : okV mX6_wordAt 2 6 := ⟨⟨gW_in (List.mem_of_getElem? (i := 942) (by rfl)) rfl, gW_in (List.mem_of_getElem? (i := 50) (by decide +kernel)) rfl, by decide +kernel, by decide +kernel⟩, gW_in (List.mem_of_getElem? (i := 941) (by decide +kernel)) rfl, gW_in (List.mem_of_getElem? (i := 25) (by decide +kernel)) rfl, _, rfl, rfl⟩
abbrev mX6_isSmall : rM := (RX6, yX6_isSmall, cX6_isSmall, 2, (some .boolean), 0, 0)
set_option maxRecDepth 100000 in
theorem oX6_isSmall : okV mX6_isSmall 1 6 := ⟨⟨gW_in (List.mem_of_getElem? (i := 938) (by rfl)) rfl, gW_in (List.mem_of_getElem? (i := 50) (by decide +kernel)) rfl, by decide +kernel, by decide +kernel⟩, gW_in (List.mem_of_getElem? (i := 937) (by decide +kernel)) rfl, gW_in (List.mem_of_getElem? (i := 24) (by decide +kernel)) rfl, _, rfl, rfl⟩
abbrev mX6_isDigit : rM := (RX6, yX6_isDigit, cX6_isDigit, 2, (some .boolean), 0, 0)
set_option maxRecDepth 100000 in
theorem oX6_isDigit : okV mX6_isDigit 1 6 := ⟨⟨gW_in (List.mem_of_getElem? (i := 946) (by rfl)) rfl, gW_in (List.mem_of_getElem? (i := 50) (by decide +kernel)) rfl, by decide +kernel, by decide +kernel⟩, gW_in (List.mem_of_getElem? (i := 945) (by decide +kernel)) rfl, gW_in (List.mem_of_getElem? (i := 26) (by decide +kernel)) rfl, _, rfl, rfl⟩
abbrev mX6_take : rM := (RX6, yX6_take, cX6_take, 1, none, 1, 27)
set_option maxRecDepth 100000 in
theorem oX6_take : okV mX6_take 0 6 := ⟨⟨gW_in (List.mem_of_getElem? (i := 934) (by rfl)) rfl, gW_in (List.mem_of_getElem? (i := 50) (by decide +kernel)) rfl, by decide +kernel, by decide +kernel⟩, gW_in (List.mem_of_getElem? (i := 933) (by decide +kernel)) rfl, gW_in (List.mem_of_getElem? (i := 23) (by decide +kernel)) rfl, _, rfl, rfl⟩
abbrev mX6_word : rM := (RX6, yX6_word, cX6_word, 2, (some .boolean), 2, 47)
set_option maxRecDepth 100000 in
theorem oX6_word : okV mX6_word 1 6 := ⟨⟨gW_in (List.mem_of_getElem? (i := 963) (by rfl)) rfl, gW_in (List.mem_of_getElem? (i := 50) (by decide +kernel)) rfl, by decide +kernel, by decide +kernel⟩, gW_in (List.mem_of_getElem? (i := 962) (by decide +kernel)) rfl, gW_in (List.mem_of_getElem? (i := 30) (by decide +kernel)) rfl, _, rfl, rfl⟩
abbrev mX6_number : rM := (RX6, yX6_number, cX6_number, 3, (some .boolean), 2, 47)
set_option maxRecDepth 100000 in
theorem oX6_number : okV mX6_number 2 6 := ⟨⟨gW_in (List.mem_of_getElem? (i := 967) (by rfl)) rfl, gW_in (List.mem_of_getElem? (i := 50) (by decide +kernel)) rfl, by decide +kernel, by decide +kernel⟩, gW_in (List.mem_of_getElem? (i := 966) (by decide +kernel)) rfl, gW_in (List.mem_of_getElem? (i := 31) (by decide +kernel)) rfl, _, rfl, rfl⟩
abbrev mX6_burdenLine : rM := (RX6, yX6_burdenLine, cX6_burdenLine, 2, (some .boolean), 3, 69)
set_option maxRecDepth 100000 in
theorem oX6_burdenLine : okV mX6_burdenLine 0 6 := ⟨⟨gW_in (List.mem_of_getElem? (i := 959) (by rfl)) rfl, gW_in (List.mem_of_getElem? (i := 50) (by decide +kernel)) rfl, by decide +kernel, by decide +kernel⟩, gW_in (List.mem_of_getElem? (i := 958) (by decide +kernel)) rfl, gW_in (List.mem_of_getElem? (i := 29) (by decide +kernel)) rfl, _, rfl, rfl⟩
abbrev mX6_line : rM := (RX6, yX6_line, cX6_line, 3, (some .boolean), 4, 90)
set_option maxRecDepth 100000 in
theorem oX6_line : okV mX6_line 0 6 := ⟨⟨gW_in (List.mem_of_getElem? (i := 951) (by rfl)) rfl, gW_in (List.mem_of_getElem? (i := 50) (by decide +kernel)) rfl, by decide +kernel, by decide +kernel⟩, gW_in (List.mem_of_getElem? (i := 950) (by decide +kernel)) rfl, gW_in (List.mem_of_getElem? (i := 27) (by decide +kernel)) rfl, _, rfl, rfl⟩
abbrev mX6_statutes : rM := (RX6, yX6_statutes, cX6_statutes, 4, (some .int), 5, 112)
set_option maxRecDepth 100000 in
theorem oX6_statutes : okV mX6_statutes 1 6 := ⟨⟨gW_in (List.mem_of_getElem? (i := 930) (by rfl)) rfl, gW_in (List.mem_of_getElem? (i := 50) (by decide +kernel)) rfl, by decide +kernel, by decide +kernel⟩, gW_in (List.mem_of_getElem? (i := 928) (by decide +kernel)) rfl, gW_in (List.mem_of_getElem? (i := 929) (by decide +kernel)) rfl, _, rfl, rfl⟩
abbrev mX6_fault : rM := (RX6, yX6_fault, cX6_fault, 2, (some .int), 0, 0)
set_option maxRecDepth 100000 in
theorem oX6_fault : okV mX6_fault 1 6 := ⟨⟨gW_in (List.mem_of_getElem? (i := 972) (by rfl)) rfl, gW_in (List.mem_of_getElem? (i := 50) (by decide +kernel)) rfl, by decide +kernel, by decide +kernel⟩, gW_in (List.mem_of_getElem? (i := 970) (by decide +kernel)) rfl, gW_in (List.mem_of_getElem? (i := 971) (by decide +kernel)) rfl, _, rfl, rfl⟩
abbrev mX6_man : rM := (RX6, yX6_man, cX6_man, 3, (some .int), 0, 0)
set_option maxRecDepth 100000 in
theorem oX6_man : okV mX6_man 2 6 := ⟨⟨gW_in (List.mem_of_getElem? (i := 976) (by rfl)) rfl, gW_in (List.mem_of_getElem? (i := 50) (by decide +kernel)) rfl, by decide +kernel, by decide +kernel⟩, gW_in (List.mem_of_getElem? (i := 974) (by decide +kernel)) rfl, gW_in (List.mem_of_getElem? (i := 975) (by decide +kernel)) rfl, _, rfl, rfl⟩
abbrev mX6_isMan : rM := (RX6, yX6_isMan, cX6_isMan, 2, (some .boolean), 0, 0)
set_option maxRecDepth 100000 in
theorem oX6_isMan : okV mX6_isMan 1 6 := ⟨⟨gW_in (List.mem_of_getElem? (i := 984) (by rfl)) rfl, gW_in (List.mem_of_getElem? (i := 50) (by decide +kernel)) rfl, by decide +kernel, by decide +kernel⟩, gW_in (List.mem_of_getElem? (i := 983) (by decide +kernel)) rfl, gW_in (List.mem_of_getElem? (i := 32) (by decide +kernel)) rfl, _, rfl, rfl⟩
abbrev mX6_found : rM := (RX6, yX6_found, cX6_found, 3, (some .boolean), 1, 21)
set_option maxRecDepth 100000 in
theorem oX6_found : okV mX6_found 2 6 := ⟨⟨gW_in (List.mem_of_getElem? (i := 980) (by rfl)) rfl, gW_in (List.mem_of_getElem? (i := 50) (by decide +kernel)) rfl, by decide +kernel, by decide +kernel⟩, gW_in (List.mem_of_getElem? (i := 978) (by decide +kernel)) rfl, gW_in (List.mem_of_getElem? (i := 979) (by decide +kernel)) rfl, _, rfl, rfl⟩
abbrev mX6_bears : rM := (RX6, yX6_bears, cX6_bears, 4, (some .int), 0, 0)
set_option maxRecDepth 100000 in
theorem oX6_bears : okV mX6_bears 2 6 := ⟨⟨gW_in (List.mem_of_getElem? (i := 996) (by rfl)) rfl, gW_in (List.mem_of_getElem? (i := 50) (by decide +kernel)) rfl, by decide +kernel, by decide +kernel⟩, gW_in (List.mem_of_getElem? (i := 995) (by decide +kernel)) rfl, gW_in (List.mem_of_getElem? (i := 34) (by decide +kernel)) rfl, _, rfl, rfl⟩
abbrev mX6_isFit : rM := (RX6, yX6_isFit, cX6_isFit, 5, (some .boolean), 1, 23)
set_option maxRecDepth 100000 in
theorem oX6_isFit : okV mX6_isFit 4 6 := ⟨⟨gW_in (List.mem_of_getElem? (i := 1000) (by rfl)) rfl, gW_in (List.mem_of_getElem? (i := 50) (by decide +kernel)) rfl, by decide +kernel, by decide +kernel⟩, gW_in (List.mem_of_getElem? (i := 999) (by decide +kernel)) rfl, gW_in (List.mem_of_getElem? (i := 35) (by decide +kernel)) rfl, _, rfl, rfl⟩
abbrev mX6_fails : rM := (RX6, yX6_fails, cX6_fails, 2, (some .int), 0, 0)
set_option maxRecDepth 100000 in
theorem oX6_fails : okV mX6_fails 1 6 := ⟨⟨gW_in (List.mem_of_getElem? (i := 992) (by rfl)) rfl, gW_in (List.mem_of_getElem? (i := 50) (by decide +kernel)) rfl, by decide +kernel, by decide +kernel⟩, gW_in (List.mem_of_getElem? (i := 991) (by decide +kernel)) rfl, gW_in (List.mem_of_getElem? (i := 33) (by decide +kernel)) rfl, _, rfl, rfl⟩
abbrev mX6_look : rM := (RX6, yX6_look, cX6_look, 3, (some .int), 2, 47)
set_option maxRecDepth 100000 in
theorem oX6_look : okV mX6_look 2 6 := ⟨⟨gW_in (List.mem_of_getElem? (i := 988) (by rfl)) rfl, gW_in (List.mem_of_getElem? (i := 50) (by decide +kernel)) rfl, by decide +kernel, by decide +kernel⟩, gW_in (List.mem_of_getElem? (i := 986) (by decide +kernel)) rfl, gW_in (List.mem_of_getElem? (i := 987) (by decide +kernel)) rfl, _, rfl, rfl⟩
abbrev mX6_richest : rM := (RX6, yX6_richest, cX6_richest, 5, (some .int), 0, 0)
set_option maxRecDepth 100000 in
theorem oX6_richest : okV mX6_richest 1 6 := ⟨⟨gW_in (List.mem_of_getElem? (i := 1004) (by rfl)) rfl, gW_in (List.mem_of_getElem? (i := 50) (by decide +kernel)) rfl, by decide +kernel, by decide +kernel⟩, gW_in (List.mem_of_getElem? (i := 1002) (by decide +kernel)) rfl, gW_in (List.mem_of_getElem? (i := 1003) (by decide +kernel)) rfl, _, rfl, rfl⟩
abbrev mX6_place : rM := (RX6, yX6_place, cX6_place, 3, (some .int), 0, 0)
set_option maxRecDepth 100000 in
theorem oX6_place : okV mX6_place 2 6 := ⟨⟨gW_in (List.mem_of_getElem? (i := 1008) (by rfl)) rfl, gW_in (List.mem_of_getElem? (i := 50) (by decide +kernel)) rfl, by decide +kernel, by decide +kernel⟩, gW_in (List.mem_of_getElem? (i := 1006) (by decide +kernel)) rfl, gW_in (List.mem_of_getElem? (i := 1007) (by decide +kernel)) rfl, _, rfl, rfl⟩
abbrev mX6_fill : rM := (RX6, yX6_fill, cX6_fill, 8, (some .int), 2, 47)
set_option maxRecDepth 100000 in
theorem oX6_fill : okV mX6_fill 3 6 := ⟨⟨gW_in (List.mem_of_getElem? (i := 1016) (by rfl)) rfl, gW_in (List.mem_of_getElem? (i := 50) (by decide +kernel)) rfl, by decide +kernel, by decide +kernel⟩, gW_in (List.mem_of_getElem? (i := 1015) (by decide +kernel)) rfl, gW_in (List.mem_of_getElem? (i := 36) (by decide +kernel)) rfl, _, rfl, rfl⟩
abbrev mX6_begin : rM := (RX6, yX6_begin, cX6_begin, 3, (some .int), 3, 74)
set_option maxRecDepth 100000 in
theorem oX6_begin : okV mX6_begin 0 6 := ⟨⟨gW_in (List.mem_of_getElem? (i := 1012) (by rfl)) rfl, gW_in (List.mem_of_getElem? (i := 50) (by decide +kernel)) rfl, by decide +kernel, by decide +kernel⟩, gW_in (List.mem_of_getElem? (i := 1010) (by decide +kernel)) rfl, gW_in (List.mem_of_getElem? (i := 1011) (by decide +kernel)) rfl, _, rfl, rfl⟩
abbrev mX6_pays : rM := (RX6, yX6_pays, cX6_pays, 6, (some .int), 0, 0)
set_option maxRecDepth 100000 in
theorem oX6_pays : okV mX6_pays 2 6 := ⟨⟨gW_in (List.mem_of_getElem? (i := 1064) (by rfl)) rfl, gW_in (List.mem_of_getElem? (i := 50) (by decide +kernel)) rfl, by decide +kernel, by decide +kernel⟩, gW_in (List.mem_of_getElem? (i := 1063) (by decide +kernel)) rfl, gW_in (List.mem_of_getElem? (i := 42) (by decide +kernel)) rfl, _, rfl, rfl⟩
abbrev mX6_ends : rM := (RX6, yX6_ends, cX6_ends, 8, (some .int), 1, 25)
set_option maxRecDepth 100000 in
theorem oX6_ends : okV mX6_ends 3 6 := ⟨⟨gW_in (List.mem_of_getElem? (i := 1060) (by rfl)) rfl, gW_in (List.mem_of_getElem? (i := 50) (by decide +kernel)) rfl, by decide +kernel, by decide +kernel⟩, gW_in (List.mem_of_getElem? (i := 1059) (by decide +kernel)) rfl, gW_in (List.mem_of_getElem? (i := 41) (by decide +kernel)) rfl, _, rfl, rfl⟩
abbrev mX6_isOpen : rM := (RX6, yX6_isOpen, cX6_isOpen, 2, (some .boolean), 0, 0)
set_option maxRecDepth 100000 in
theorem oX6_isOpen : okV mX6_isOpen 1 6 := ⟨⟨gW_in (List.mem_of_getElem? (i := 1024) (by rfl)) rfl, gW_in (List.mem_of_getElem? (i := 50) (by decide +kernel)) rfl, by decide +kernel, by decide +kernel⟩, gW_in (List.mem_of_getElem? (i := 1023) (by decide +kernel)) rfl, gW_in (List.mem_of_getElem? (i := 37) (by decide +kernel)) rfl, _, rfl, rfl⟩
abbrev mX6_goesOver : rM := (RX6, yX6_goesOver, cX6_goesOver, 2, (some .boolean), 0, 0)
set_option maxRecDepth 100000 in
theorem oX6_goesOver : okV mX6_goesOver 1 6 := ⟨⟨gW_in (List.mem_of_getElem? (i := 1032) (by rfl)) rfl, gW_in (List.mem_of_getElem? (i := 50) (by decide +kernel)) rfl, by decide +kernel, by decide +kernel⟩, gW_in (List.mem_of_getElem? (i := 1031) (by decide +kernel)) rfl, gW_in (List.mem_of_getElem? (i := 39) (by decide +kernel)) rfl, _, rfl, rfl⟩
abbrev mX6_over : rM := (RX6, yX6_over, cX6_over, 2, none, 0, 0)
set_option maxRecDepth 100000 in
theorem oX6_over : okV mX6_over 1 6 := ⟨⟨gW_in (List.mem_of_getElem? (i := 1036) (by rfl)) rfl, gW_in (List.mem_of_getElem? (i := 50) (by decide +kernel)) rfl, by decide +kernel, by decide +kernel⟩, gW_in (List.mem_of_getElem? (i := 1035) (by decide +kernel)) rfl, gW_in (List.mem_of_getElem? (i := 40) (by decide +kernel)) rfl, _, rfl, rfl⟩
abbrev mX6_judge : rM := (RX6, yX6_judge, cX6_judge, 3, none, 1, 21)
set_option maxRecDepth 100000 in
theorem oX6_judge : okV mX6_judge 1 6 := ⟨⟨gW_in (List.mem_of_getElem? (i := 1028) (by rfl)) rfl, gW_in (List.mem_of_getElem? (i := 50) (by decide +kernel)) rfl, by decide +kernel, by decide +kernel⟩, gW_in (List.mem_of_getElem? (i := 1027) (by decide +kernel)) rfl, gW_in (List.mem_of_getElem? (i := 38) (by decide +kernel)) rfl, _, rfl, rfl⟩
abbrev mX6_pass : rM := (RX6, yX6_pass, cX6_pass, 3, (some .int), 2, 43)
set_option maxRecDepth 100000 in
theorem oX6_pass : okV mX6_pass 1 6 := ⟨⟨gW_in (List.mem_of_getElem? (i := 1020) (by rfl)) rfl, gW_in (List.mem_of_getElem? (i := 50) (by decide +kernel)) rfl, by decide +kernel, by decide +kernel⟩, gW_in (List.mem_of_getElem? (i := 1018) (by decide +kernel)) rfl, gW_in (List.mem_of_getElem? (i := 1019) (by decide +kernel)) rfl, _, rfl, rfl⟩
abbrev mX6_challenge : rM := (RX6, yX6_challenge, cX6_challenge, 5, (some .int), 2, 47)
set_option maxRecDepth 100000 in
theorem oX6_challenge : okV mX6_challenge 2 6 := ⟨⟨gW_in (List.mem_of_getElem? (i := 1040) (by rfl)) rfl, gW_in (List.mem_of_getElem? (i := 50) (by decide +kernel)) rfl, by decide +kernel, by decide +kernel⟩, gW_in (List.mem_of_getElem? (i := 1038) (by decide +kernel)) rfl, gW_in (List.mem_of_getElem? (i := 1039) (by decide +kernel)) rfl, _, rfl, rfl⟩
abbrev mX6_answer : rM := (RX6, yX6_answer, cX6_answer, 3, (some .boolean), 1, 21)
set_option maxRecDepth 100000 in
theorem oX6_answer : okV mX6_answer 2 6 := ⟨⟨gW_in (List.mem_of_getElem? (i := 1044) (by rfl)) rfl, gW_in (List.mem_of_getElem? (i := 50) (by decide +kernel)) rfl, by decide +kernel, by decide +kernel⟩, gW_in (List.mem_of_getElem? (i := 1042) (by decide +kernel)) rfl, gW_in (List.mem_of_getElem? (i := 1043) (by decide +kernel)) rfl, _, rfl, rfl⟩
abbrev mX6_swear : rM := (RX6, yX6_swear, cX6_swear, 7, (some .boolean), 0, 0)
set_option maxRecDepth 100000 in
theorem oX6_swear : okV mX6_swear 2 6 := ⟨⟨gW_in (List.mem_of_getElem? (i := 1048) (by rfl)) rfl, gW_in (List.mem_of_getElem? (i := 50) (by decide +kernel)) rfl, by decide +kernel, by decide +kernel⟩, gW_in (List.mem_of_getElem? (i := 1046) (by decide +kernel)) rfl, gW_in (List.mem_of_getElem? (i := 1047) (by decide +kernel)) rfl, _, rfl, rfl⟩
abbrev mX6_told : rM := (RX6, yX6_told, cX6_told, 3, (some .int), 1, 21)
set_option maxRecDepth 100000 in
theorem oX6_told : okV mX6_told 2 6 := ⟨⟨gW_in (List.mem_of_getElem? (i := 1052) (by rfl)) rfl, gW_in (List.mem_of_getElem? (i := 50) (by decide +kernel)) rfl, by decide +kernel, by decide +kernel⟩, gW_in (List.mem_of_getElem? (i := 1050) (by decide +kernel)) rfl, gW_in (List.mem_of_getElem? (i := 1051) (by decide +kernel)) rfl, _, rfl, rfl⟩
abbrev mX6_end : rM := (RX6, yX6_end, cX6_end, 2, (some .int), 2, 52)
set_option maxRecDepth 100000 in
theorem oX6_end : okV mX6_end 0 6 := ⟨⟨gW_in (List.mem_of_getElem? (i := 1056) (by rfl)) rfl, gW_in (List.mem_of_getElem? (i := 50) (by decide +kernel)) rfl, by decide +kernel, by decide +kernel⟩, gW_in (List.mem_of_getElem? (i := 1054) (by decide +kernel)) rfl, gW_in (List.mem_of_getElem? (i := 1055) (by decide +kernel)) rfl, _, rfl, rfl⟩
abbrev mX6_part : rM := (RX6, yX6_part, cX6_part, 2, (some .int), 1, 25)
set_option maxRecDepth 100000 in
theorem oX6_part : okV mX6_part 1 6 := ⟨⟨gW_in (List.mem_of_getElem? (i := 1068) (by rfl)) rfl, gW_in (List.mem_of_getElem? (i := 50) (by decide +kernel)) rfl, by decide +kernel, by decide +kernel⟩, gW_in (List.mem_of_getElem? (i := 1066) (by decide +kernel)) rfl, gW_in (List.mem_of_getElem? (i := 1067) (by decide +kernel)) rfl, _, rfl, rfl⟩
abbrev mX6_gain : rM := (RX6, yX6_gain, cX6_gain, 7, (some .int), 1, 25)
set_option maxRecDepth 100000 in
theorem oX6_gain : okV mX6_gain 2 6 := ⟨⟨gW_in (List.mem_of_getElem? (i := 1072) (by rfl)) rfl, gW_in (List.mem_of_getElem? (i := 50) (by decide +kernel)) rfl, by decide +kernel, by decide +kernel⟩, gW_in (List.mem_of_getElem? (i := 1070) (by decide +kernel)) rfl, gW_in (List.mem_of_getElem? (i := 1071) (by decide +kernel)) rfl, _, rfl, rfl⟩
abbrev mX6_ahead : rM := (RX6, yX6_ahead, cX6_ahead, 5, (some .int), 3, 74)
set_option maxRecDepth 100000 in
theorem oX6_ahead : okV mX6_ahead 1 6 := ⟨⟨gW_in (List.mem_of_getElem? (i := 1077) (by rfl)) rfl, gW_in (List.mem_of_getElem? (i := 50) (by decide +kernel)) rfl, by decide +kernel, by decide +kernel⟩, gW_in (List.mem_of_getElem? (i := 1075) (by decide +kernel)) rfl, gW_in (List.mem_of_getElem? (i := 1076) (by decide +kernel)) rfl, _, rfl, rfl⟩
abbrev mX6_count : rM := (RX6, yX6_count, cX6_count, 2, (some .int), 0, 0)
set_option maxRecDepth 100000 in
theorem oX6_count : okV mX6_count 1 6 := ⟨⟨gW_in (List.mem_of_getElem? (i := 1081) (by rfl)) rfl, gW_in (List.mem_of_getElem? (i := 50) (by decide +kernel)) rfl, by decide +kernel, by decide +kernel⟩, gW_in (List.mem_of_getElem? (i := 1079) (by decide +kernel)) rfl, gW_in (List.mem_of_getElem? (i := 1080) (by decide +kernel)) rfl, _, rfl, rfl⟩
abbrev mJ9_min_7cf53 : rM := (RJ9, yJ9_min_7cf53, cJ9_min_7cf53, 2, (some .int), 0, 0)
set_option maxRecDepth 100000 in
theorem oJ9_min_7cf53 : okM mJ9_min_7cf53 2 := ⟨gW_in (List.mem_of_getElem? (i := 380) (by rfl)) rfl, gW_in (List.mem_of_getElem? (i := 55) (by decide +kernel)) rfl, by decide +kernel, by decide +kernel⟩
theorem sJ9_min_7cf53 : Cond.static (mY mJ9_min_7cf53) ∈ gW := gW_in (List.mem_of_getElem? (i := 379) (by decide +kernel)) rfl
abbrev mJ0_length_8abf5 : rM := (RJ0, yJ0_length_8abf5, cJ0_length_8abf5, 1, (some .int), 1, 20)
set_option maxRecDepth 100000 in
theorem oJ0_length_8abf5 : okM mJ0_length_8abf5 0 := ⟨gW_in (List.mem_of_getElem? (i := 299) (by rfl)) rfl, gW_in (List.mem_of_getElem? (i := 51) (by decide +kernel)) rfl, by decide +kernel, by decide +kernel⟩
theorem oiJ0_length_8abf5 : Cond.instanceMethod (mY mJ0_length_8abf5) ∈ gW ∧ Cond.selects (mY mJ0_length_8abf5).cls (mY mJ0_length_8abf5) (mY mJ0_length_8abf5) ∈ gW := ⟨gW_in (List.mem_of_getElem? (i := 297) (by decide +kernel)) rfl, gW_in (List.mem_of_getElem? (i := 298) (by decide +kernel)) rfl⟩
abbrev mJ0_charAt_5068e : rM := (RJ0, yJ0_charAt_5068e, cJ0_charAt_5068e, 2, (some .char), 3, 64)
set_option maxRecDepth 100000 in
theorem oJ0_charAt_5068e : okM mJ0_charAt_5068e 1 := ⟨gW_in (List.mem_of_getElem? (i := 309) (by rfl)) rfl, gW_in (List.mem_of_getElem? (i := 51) (by decide +kernel)) rfl, by decide +kernel, by decide +kernel⟩
theorem oiJ0_charAt_5068e : Cond.instanceMethod (mY mJ0_charAt_5068e) ∈ gW ∧ Cond.selects (mY mJ0_charAt_5068e).cls (mY mJ0_charAt_5068e) (mY mJ0_charAt_5068e) ∈ gW := ⟨gW_in (List.mem_of_getElem? (i := 307) (by decide +kernel)) rfl, gW_in (List.mem_of_getElem? (i := 308) (by decide +kernel)) rfl⟩
abbrev mJ0_coder_7d493 : rM := (RJ0, yJ0_coder_7d493, cJ0_coder_7d493, 1, (some .byte), 0, 0)
set_option maxRecDepth 100000 in
theorem oJ0_coder_7d493 : okM mJ0_coder_7d493 0 := ⟨gW_in (List.mem_of_getElem? (i := 303) (by rfl)) rfl, gW_in (List.mem_of_getElem? (i := 51) (by decide +kernel)) rfl, by decide +kernel, by decide +kernel⟩
theorem oiJ0_coder_7d493 : Cond.instanceMethod (mY mJ0_coder_7d493) ∈ gW ∧ Cond.selects (mY mJ0_coder_7d493).cls (mY mJ0_coder_7d493) (mY mJ0_coder_7d493) ∈ gW := ⟨gW_in (List.mem_of_getElem? (i := 301) (by decide +kernel)) rfl, gW_in (List.mem_of_getElem? (i := 302) (by decide +kernel)) rfl⟩
abbrev mJ0_isLatin1_aae02 : rM := (RJ0, yJ0_isLatin1_aae02, cJ0_isLatin1_aae02, 1, (some .boolean), 0, 0)
set_option maxRecDepth 100000 in
theorem oJ0_isLatin1_aae02 : okM mJ0_isLatin1_aae02 0 := ⟨gW_in (List.mem_of_getElem? (i := 313) (by rfl)) rfl, gW_in (List.mem_of_getElem? (i := 51) (by decide +kernel)) rfl, by decide +kernel, by decide +kernel⟩
theorem oiJ0_isLatin1_aae02 : Cond.instanceMethod (mY mJ0_isLatin1_aae02) ∈ gW ∧ Cond.selects (mY mJ0_isLatin1_aae02).cls (mY mJ0_isLatin1_aae02) (mY mJ0_isLatin1_aae02) ∈ gW := ⟨gW_in (List.mem_of_getElem? (i := 311) (by decide +kernel)) rfl, gW_in (List.mem_of_getElem? (i := 312) (by decide +kernel)) rfl⟩
abbrev mJ0_checkIndex_df160 : rM := (RJ0, yJ0_checkIndex_df160, cJ0_checkIndex_df160, 2, none, 1, 22)
set_option maxRecDepth 100000 in
theorem oJ0_checkIndex_df160 : okM mJ0_checkIndex_df160 2 := ⟨gW_in (List.mem_of_getElem? (i := 319) (by rfl)) rfl, gW_in (List.mem_of_getElem? (i := 51) (by decide +kernel)) rfl, by decide +kernel, by decide +kernel⟩
theorem sJ0_checkIndex_df160 : Cond.static (mY mJ0_checkIndex_df160) ∈ gW := gW_in (List.mem_of_getElem? (i := 318) (by decide +kernel)) rfl
abbrev mJ1_charAt_3b067 : rM := (RJ1, yJ1_charAt_3b067, cJ1_charAt_3b067, 2, (some .char), 2, 43)
set_option maxRecDepth 100000 in
theorem oJ1_charAt_3b067 : okM mJ1_charAt_3b067 2 := ⟨gW_in (List.mem_of_getElem? (i := 316) (by rfl)) rfl, gW_in (List.mem_of_getElem? (i := 52) (by decide +kernel)) rfl, by decide +kernel, by decide +kernel⟩
theorem sJ1_charAt_3b067 : Cond.static (mY mJ1_charAt_3b067) ∈ gW := gW_in (List.mem_of_getElem? (i := 315) (by decide +kernel)) rfl
abbrev mJ3_checkIndex_8e157 : rM := (RJ3, yJ3_checkIndex_8e157, cJ3_checkIndex_8e157, 3, (some .int), 0, 0)
set_option maxRecDepth 100000 in
theorem oJ3_checkIndex_8e157 : okM mJ3_checkIndex_8e157 3 := ⟨gW_in (List.mem_of_getElem? (i := 324) (by rfl)) rfl, gW_in (List.mem_of_getElem? (i := 53) (by decide +kernel)) rfl, by decide +kernel, by decide +kernel⟩
theorem sJ3_checkIndex_8e157 : Cond.static (mY mJ3_checkIndex_8e157) ∈ gW := gW_in (List.mem_of_getElem? (i := 323) (by decide +kernel)) rfl
theorem fX0_37 : Cond.fieldLink RX0 37 (TX0 8).1 (TX0 8).2.1 (TX0 8).2.2.1 ∈ gW := gW_in (List.mem_of_getElem? (i := 155) (by decide +kernel)) rfl
theorem fX0_9 : Cond.fieldLink RX0 9 (TX0 0).1 (TX0 0).2.1 (TX0 0).2.2.1 ∈ gW := gW_in (List.mem_of_getElem? (i := 147) (by decide +kernel)) rfl
theorem fX0_15 : Cond.fieldLink RX0 15 (TX0 1).1 (TX0 1).2.1 (TX0 1).2.2.1 ∈ gW := gW_in (List.mem_of_getElem? (i := 148) (by decide +kernel)) rfl
theorem fX0_18 : Cond.fieldLink RX0 18 (TX0 2).1 (TX0 2).2.1 (TX0 2).2.2.1 ∈ gW := gW_in (List.mem_of_getElem? (i := 149) (by decide +kernel)) rfl
theorem fX0_21 : Cond.fieldLink RX0 21 (TX0 3).1 (TX0 3).2.1 (TX0 3).2.2.1 ∈ gW := gW_in (List.mem_of_getElem? (i := 150) (by decide +kernel)) rfl
theorem fX0_24 : Cond.fieldLink RX0 24 (TX0 4).1 (TX0 4).2.1 (TX0 4).2.2.1 ∈ gW := gW_in (List.mem_of_getElem? (i := 151) (by decide +kernel)) rfl
theorem fX0_27 : Cond.fieldLink RX0 27 (TX0 5).1 (TX0 5).2.1 (TX0 5).2.2.1 ∈ gW := gW_in (List.mem_of_getElem? (i := 152) (by decide +kernel)) rfl
theorem fX0_30 : Cond.fieldLink RX0 30 (TX0 6).1 (TX0 6).2.1 (TX0 6).2.2.1 ∈ gW := gW_in (List.mem_of_getElem? (i := 153) (by decide +kernel)) rfl
theorem fX0_34 : Cond.fieldLink RX0 34 (TX0 7).1 (TX0 7).2.1 (TX0 7).2.2.1 ∈ gW := gW_in (List.mem_of_getElem? (i := 154) (by decide +kernel)) rfl
theorem lX0_41 : Cond.methodLink RX0 41 yX0_has ∈ gW := gW_in (List.mem_of_getElem? (i := 532) (by decide +kernel)) rfl
theorem lX0_45 : Cond.methodLink RX0 45 yX0_isRunning ∈ gW := gW_in (List.mem_of_getElem? (i := 524) (by decide +kernel)) rfl
theorem lX0_48 : Cond.methodLink RX0 48 yX2_handOver ∈ gW := gW_in (List.mem_of_getElem? (i := 549) (by decide +kernel)) rfl
theorem lX0_54 : Cond.methodLink RX0 54 yX2_exchangeEstates ∈ gW := gW_in (List.mem_of_getElem? (i := 608) (by decide +kernel)) rfl
theorem lX0_58 : Cond.methodLink RX0 58 yX0_judge ∈ gW := gW_in (List.mem_of_getElem? (i := 536) (by decide +kernel)) rfl
theorem lX0_62 : Cond.methodLink RX0 62 yX0_verdictOn ∈ gW := gW_in (List.mem_of_getElem? (i := 540) (by decide +kernel)) rfl
theorem lX0_66 : Cond.methodLink RX0 66 yX0_carryOut ∈ gW := gW_in (List.mem_of_getElem? (i := 545) (by decide +kernel)) rfl
theorem lX0_70 : Cond.methodLink RX0 70 yX2_declaredOf ∈ gW := gW_in (List.mem_of_getElem? (i := 544) (by decide +kernel)) rfl
theorem lX0_74 : Cond.methodLink RX0 74 yX0_standingOf ∈ gW := gW_in (List.mem_of_getElem? (i := 528) (by decide +kernel)) rfl
theorem fX1_26 : Cond.fieldLink RX1 26 (TX1 4).1 (TX1 4).2.1 (TX1 4).2.2.1 ∈ gW := gW_in (List.mem_of_getElem? (i := 93) (by decide +kernel)) rfl
theorem fX1_29 : Cond.fieldLink RX1 29 (TX1 5).1 (TX1 5).2.1 (TX1 5).2.2.1 ∈ gW := gW_in (List.mem_of_getElem? (i := 94) (by decide +kernel)) rfl
theorem fX1_19 : Cond.fieldLink RX1 19 (TX1 2).1 (TX1 2).2.1 (TX1 2).2.2.1 ∈ gW := gW_in (List.mem_of_getElem? (i := 91) (by decide +kernel)) rfl
theorem fX1_23 : Cond.fieldLink RX1 23 (TX1 3).1 (TX1 3).2.1 (TX1 3).2.2.1 ∈ gW := gW_in (List.mem_of_getElem? (i := 92) (by decide +kernel)) rfl
theorem fX1_15 : Cond.fieldLink RX1 15 (TX1 1).1 (TX1 1).2.1 (TX1 1).2.2.1 ∈ gW := gW_in (List.mem_of_getElem? (i := 90) (by decide +kernel)) rfl
theorem lX1_32 : Cond.methodLink RX1 32 yX3_clear ∈ gW := gW_in (List.mem_of_getElem? (i := 255) (by decide +kernel)) rfl
theorem lX1_37 : Cond.methodLink RX1 37 yX1_isSound ∈ gW := gW_in (List.mem_of_getElem? (i := 259) (by decide +kernel)) rfl
theorem lX1_41 : Cond.methodLink RX1 41 yX1_nextSign ∈ gW := gW_in (List.mem_of_getElem? (i := 263) (by decide +kernel)) rfl
theorem lX1_45 : Cond.methodLink RX1 45 yX1_readLine ∈ gW := gW_in (List.mem_of_getElem? (i := 274) (by decide +kernel)) rfl
theorem lX1_49 : Cond.methodLink RX1 49 yX3_numberPlaces ∈ gW := gW_in (List.mem_of_getElem? (i := 398) (by decide +kernel)) rfl
theorem lX1_52 : Cond.methodLink RX1 52 yX1_passSettingWord ∈ gW := gW_in (List.mem_of_getElem? (i := 278) (by decide +kernel)) rfl
theorem lX1_55 : Cond.methodLink RX1 55 yX1_readBurden ∈ gW := gW_in (List.mem_of_getElem? (i := 344) (by decide +kernel)) rfl
theorem lX1_58 : Cond.methodLink RX1 58 yX1_blame ∈ gW := gW_in (List.mem_of_getElem? (i := 353) (by decide +kernel)) rfl
theorem lX1_62 : Cond.methodLink RX1 62 yX1_mostOf ∈ gW := gW_in (List.mem_of_getElem? (i := 386) (by decide +kernel)) rfl
theorem lX1_66 : Cond.methodLink RX1 66 yX1_expectNumber ∈ gW := gW_in (List.mem_of_getElem? (i := 370) (by decide +kernel)) rfl
theorem lX1_70 : Cond.methodLink RX1 70 yX3_tellSetting ∈ gW := gW_in (List.mem_of_getElem? (i := 390) (by decide +kernel)) rfl
theorem lX1_73 : Cond.methodLink RX1 73 yX1_expectSemicolon ∈ gW := gW_in (List.mem_of_getElem? (i := 394) (by decide +kernel)) rfl
theorem lX1_78 : Cond.methodLink RX1 78 yX1_expectWord ∈ gW := gW_in (List.mem_of_getElem? (i := 349) (by decide +kernel)) rfl
theorem lX1_82 : Cond.methodLink RX1 82 yX1_expectNewName ∈ gW := gW_in (List.mem_of_getElem? (i := 357) (by decide +kernel)) rfl
theorem lX1_90 : Cond.methodLink RX1 90 yX3_tellBurden ∈ gW := gW_in (List.mem_of_getElem? (i := 382) (by decide +kernel)) rfl
theorem lX1_94 : Cond.methodLink RX1 94 yX1_wordOf ∈ gW := gW_in (List.mem_of_getElem? (i := 282) (by decide +kernel)) rfl
theorem lX1_98 : Cond.methodLink RX1 98 yX1_passWord ∈ gW := gW_in (List.mem_of_getElem? (i := 289) (by decide +kernel)) rfl
theorem lX1_102 : Cond.methodLink RX1 102 yX3_hasBurden ∈ gW := gW_in (List.mem_of_getElem? (i := 361) (by decide +kernel)) rfl
theorem lX1_106 : Cond.methodLink RX1 106 yX1_isDigit ∈ gW := gW_in (List.mem_of_getElem? (i := 374) (by decide +kernel)) rfl
theorem fX1_9 : Cond.fieldLink RX1 9 (TX1 0).1 (TX1 0).2.1 (TX1 0).2.2.1 ∈ gW := gW_in (List.mem_of_getElem? (i := 89) (by decide +kernel)) rfl
theorem lX1_109 : Cond.methodLink RX1 109 yX4_at ∈ gW := gW_in (List.mem_of_getElem? (i := 267) (by decide +kernel)) rfl
theorem lX1_115 : Cond.methodLink RX1 115 yJ9_min_7cf53 ∈ gW := gW_in (List.mem_of_getElem? (i := 378) (by decide +kernel)) rfl
theorem lX1_120 : Cond.methodLink RX1 120 yX1_isBlank ∈ gW := gW_in (List.mem_of_getElem? (i := 271) (by decide +kernel)) rfl
theorem lX1_123 : Cond.methodLink RX1 123 yX1_isSmallLetter ∈ gW := gW_in (List.mem_of_getElem? (i := 293) (by decide +kernel)) rfl
theorem lX1_126 : Cond.methodLink RX1 126 yJ0_length_8abf5 ∈ gW := gW_in (List.mem_of_getElem? (i := 296) (by decide +kernel)) rfl
theorem lX1_131 : Cond.methodLink RX1 131 yJ0_charAt_5068e ∈ gW := gW_in (List.mem_of_getElem? (i := 306) (by decide +kernel)) rfl
theorem fX2_33 : Cond.fieldLink RX2 33 (TX2 7).1 (TX2 7).2.1 (TX2 7).2.2.1 ∈ gW := gW_in (List.mem_of_getElem? (i := 122) (by decide +kernel)) rfl
theorem fX2_9 : Cond.fieldLink RX2 9 (TX2 0).1 (TX2 0).2.1 (TX2 0).2.2.1 ∈ gW := gW_in (List.mem_of_getElem? (i := 115) (by decide +kernel)) rfl
theorem fX2_15 : Cond.fieldLink RX2 15 (TX2 1).1 (TX2 1).2.1 (TX2 1).2.2.1 ∈ gW := gW_in (List.mem_of_getElem? (i := 116) (by decide +kernel)) rfl
theorem fX2_18 : Cond.fieldLink RX2 18 (TX2 2).1 (TX2 2).2.1 (TX2 2).2.2.1 ∈ gW := gW_in (List.mem_of_getElem? (i := 117) (by decide +kernel)) rfl
theorem fX2_21 : Cond.fieldLink RX2 21 (TX2 3).1 (TX2 3).2.1 (TX2 3).2.2.1 ∈ gW := gW_in (List.mem_of_getElem? (i := 118) (by decide +kernel)) rfl
theorem fX2_24 : Cond.fieldLink RX2 24 (TX2 4).1 (TX2 4).2.1 (TX2 4).2.2.1 ∈ gW := gW_in (List.mem_of_getElem? (i := 119) (by decide +kernel)) rfl
theorem fX2_27 : Cond.fieldLink RX2 27 (TX2 5).1 (TX2 5).2.1 (TX2 5).2.2.1 ∈ gW := gW_in (List.mem_of_getElem? (i := 120) (by decide +kernel)) rfl
theorem fX2_30 : Cond.fieldLink RX2 30 (TX2 6).1 (TX2 6).2.1 (TX2 6).2.2.1 ∈ gW := gW_in (List.mem_of_getElem? (i := 121) (by decide +kernel)) rfl
theorem lX2_37 : Cond.methodLink RX2 37 yX2_has ∈ gW := gW_in (List.mem_of_getElem? (i := 446) (by decide +kernel)) rfl
theorem lX2_41 : Cond.methodLink RX2 41 yX2_declaredOf ∈ gW := gW_in (List.mem_of_getElem? (i := 463) (by decide +kernel)) rfl
theorem lX2_45 : Cond.methodLink RX2 45 yX2_hiddenOf ∈ gW := gW_in (List.mem_of_getElem? (i := 676) (by decide +kernel)) rfl
theorem lX2_48 : Cond.methodLink RX2 48 yX2_isPlace ∈ gW := gW_in (List.mem_of_getElem? (i := 484) (by decide +kernel)) rfl
theorem lX2_51 : Cond.methodLink RX2 51 yX2_rankOf ∈ gW := gW_in (List.mem_of_getElem? (i := 459) (by decide +kernel)) rfl
theorem lX2_54 : Cond.methodLink RX2 54 yX3_setting ∈ gW := gW_in (List.mem_of_getElem? (i := 508) (by decide +kernel)) rfl
theorem lX2_59 : Cond.methodLink RX2 59 yX3_places ∈ gW := gW_in (List.mem_of_getElem? (i := 499) (by decide +kernel)) rfl
theorem lX2_63 : Cond.methodLink RX2 63 yX2_richestFit ∈ gW := gW_in (List.mem_of_getElem? (i := 500) (by decide +kernel)) rfl
theorem lX2_67 : Cond.methodLink RX2 67 yX2_layOn ∈ gW := gW_in (List.mem_of_getElem? (i := 512) (by decide +kernel)) rfl
theorem lX2_71 : Cond.methodLink RX2 71 yX2_isFit ∈ gW := gW_in (List.mem_of_getElem? (i := 504) (by decide +kernel)) rfl
theorem lX2_75 : Cond.methodLink RX2 75 yX3_burdenAt ∈ gW := gW_in (List.mem_of_getElem? (i := 653) (by decide +kernel)) rfl
theorem lX2_78 : Cond.methodLink RX2 78 yX3_partBehind ∈ gW := gW_in (List.mem_of_getElem? (i := 654) (by decide +kernel)) rfl
theorem lX2_82 : Cond.methodLink RX2 82 yX2_bearerAt ∈ gW := gW_in (List.mem_of_getElem? (i := 648) (by decide +kernel)) rfl
theorem lX2_84 : Cond.methodLink RX2 84 yX2_partAt ∈ gW := gW_in (List.mem_of_getElem? (i := 649) (by decide +kernel)) rfl
theorem lX2_87 : Cond.methodLink RX2 87 yX2_layDownAll ∈ gW := gW_in (List.mem_of_getElem? (i := 658) (by decide +kernel)) rfl
theorem fX3_9 : Cond.fieldLink RX3 9 (TX3 0).1 (TX3 0).2.1 (TX3 0).2.2.1 ∈ gW := gW_in (List.mem_of_getElem? (i := 181) (by decide +kernel)) rfl
theorem fX3_15 : Cond.fieldLink RX3 15 (TX3 1).1 (TX3 1).2.1 (TX3 1).2.2.1 ∈ gW := gW_in (List.mem_of_getElem? (i := 182) (by decide +kernel)) rfl
theorem fX3_18 : Cond.fieldLink RX3 18 (TX3 2).1 (TX3 2).2.1 (TX3 2).2.2.1 ∈ gW := gW_in (List.mem_of_getElem? (i := 183) (by decide +kernel)) rfl
theorem fX3_24 : Cond.fieldLink RX3 24 (TX3 4).1 (TX3 4).2.1 (TX3 4).2.2.1 ∈ gW := gW_in (List.mem_of_getElem? (i := 185) (by decide +kernel)) rfl
theorem lX3_28 : Cond.methodLink RX3 28 yX3_shareOf ∈ gW := gW_in (List.mem_of_getElem? (i := 365) (by decide +kernel)) rfl
theorem fX3_21 : Cond.fieldLink RX3 21 (TX3 3).1 (TX3 3).2.1 (TX3 3).2.2.1 ∈ gW := gW_in (List.mem_of_getElem? (i := 184) (by decide +kernel)) rfl
theorem lX3_32 : Cond.methodLink RX3 32 yX3_hasPlace ∈ gW := gW_in (List.mem_of_getElem? (i := 479) (by decide +kernel)) rfl
theorem fX4_15 : Cond.fieldLink RX4 15 (TX4 1).1 (TX4 1).2.1 (TX4 1).2.2.1 ∈ gW := gW_in (List.mem_of_getElem? (i := 76) (by decide +kernel)) rfl
theorem fX4_9 : Cond.fieldLink RX4 9 (TX4 0).1 (TX4 0).2.1 (TX4 0).2.2.1 ∈ gW := gW_in (List.mem_of_getElem? (i := 75) (by decide +kernel)) rfl
theorem fX5_10 : Cond.fieldLink RX5 10 (TX5 0).1 (TX5 0).2.1 (TX5 0).2.2.1 ∈ gW := gW_in (List.mem_of_getElem? (i := 197) (by decide +kernel)) rfl
theorem lX5_66 : Cond.methodLink RX5 66 yX4_hasRoom ∈ gW := gW_in (List.mem_of_getElem? (i := 235) (by decide +kernel)) rfl
theorem lX5_70 : Cond.methodLink RX5 70 yX4_append ∈ gW := gW_in (List.mem_of_getElem? (i := 239) (by decide +kernel)) rfl
theorem lX5_74 : Cond.methodLink RX5 74 yX4_length ∈ gW := gW_in (List.mem_of_getElem? (i := 243) (by decide +kernel)) rfl
theorem fX5_52 : Cond.fieldLink RX5 52 (TX5 7).1 (TX5 7).2.1 (TX5 7).2.2.1 ∈ gW := gW_in (List.mem_of_getElem? (i := 204) (by decide +kernel)) rfl
theorem fX5_21 : Cond.fieldLink RX5 21 (TX5 1).1 (TX5 1).2.1 (TX5 1).2.2.1 ∈ gW := gW_in (List.mem_of_getElem? (i := 198) (by decide +kernel)) rfl
theorem fX5_49 : Cond.fieldLink RX5 49 (TX5 6).1 (TX5 6).2.1 (TX5 6).2.2.1 ∈ gW := gW_in (List.mem_of_getElem? (i := 203) (by decide +kernel)) rfl
theorem lX5_78 : Cond.methodLink RX5 78 yX1_read ∈ gW := gW_in (List.mem_of_getElem? (i := 251) (by decide +kernel)) rfl
theorem lX5_82 : Cond.methodLink RX5 82 yX4_clear ∈ gW := gW_in (List.mem_of_getElem? (i := 402) (by decide +kernel)) rfl
theorem fX5_45 : Cond.fieldLink RX5 45 (TX5 5).1 (TX5 5).2.1 (TX5 5).2.2.1 ∈ gW := gW_in (List.mem_of_getElem? (i := 202) (by decide +kernel)) rfl
theorem lX5_85 : Cond.methodLink RX5 85 yX3_places ∈ gW := gW_in (List.mem_of_getElem? (i := 406) (by decide +kernel)) rfl
theorem lX5_88 : Cond.methodLink RX5 88 yX1_faultKind ∈ gW := gW_in (List.mem_of_getElem? (i := 414) (by decide +kernel)) rfl
theorem lX5_91 : Cond.methodLink RX5 91 yX1_faultPlace ∈ gW := gW_in (List.mem_of_getElem? (i := 418) (by decide +kernel)) rfl
theorem lX5_94 : Cond.methodLink RX5 94 yX5_areCoins ∈ gW := gW_in (List.mem_of_getElem? (i := 426) (by decide +kernel)) rfl
theorem fX5_28 : Cond.fieldLink RX5 28 (TX5 2).1 (TX5 2).2.1 (TX5 2).2.2.1 ∈ gW := gW_in (List.mem_of_getElem? (i := 199) (by decide +kernel)) rfl
theorem lX5_97 : Cond.methodLink RX5 97 yX2_enter ∈ gW := gW_in (List.mem_of_getElem? (i := 430) (by decide +kernel)) rfl
theorem lX5_101 : Cond.methodLink RX5 101 yX2_has ∈ gW := gW_in (List.mem_of_getElem? (i := 438) (by decide +kernel)) rfl
theorem lX5_104 : Cond.methodLink RX5 104 yX2_hiddenOf ∈ gW := gW_in (List.mem_of_getElem? (i := 442) (by decide +kernel)) rfl
theorem lX5_108 : Cond.methodLink RX5 108 yX2_uncover ∈ gW := gW_in (List.mem_of_getElem? (i := 447) (by decide +kernel)) rfl
theorem lX5_119 : Cond.methodLink RX5 119 yX2_declaredOf ∈ gW := gW_in (List.mem_of_getElem? (i := 776) (by decide +kernel)) rfl
theorem lX5_122 : Cond.methodLink RX5 122 yX2_placeOf ∈ gW := gW_in (List.mem_of_getElem? (i := 561) (by decide +kernel)) rfl
theorem lX5_125 : Cond.methodLink RX5 125 yX2_freeFromOf ∈ gW := gW_in (List.mem_of_getElem? (i := 777) (by decide +kernel)) rfl
theorem lX5_128 : Cond.methodLink RX5 128 yX2_yearsBorneOf ∈ gW := gW_in (List.mem_of_getElem? (i := 781) (by decide +kernel)) rfl
theorem lX5_131 : Cond.methodLink RX5 131 yX5_isFitNow ∈ gW := gW_in (List.mem_of_getElem? (i := 565) (by decide +kernel)) rfl
theorem lX5_139 : Cond.methodLink RX5 139 yX2_manOfRank ∈ gW := gW_in (List.mem_of_getElem? (i := 455) (by decide +kernel)) rfl
theorem lX5_142 : Cond.methodLink RX5 142 yX3_hasPlace ∈ gW := gW_in (List.mem_of_getElem? (i := 471) (by decide +kernel)) rfl
theorem lX5_145 : Cond.methodLink RX5 145 yX3_burdenAt ∈ gW := gW_in (List.mem_of_getElem? (i := 475) (by decide +kernel)) rfl
theorem lX5_148 : Cond.methodLink RX5 148 yX2_bearerAt ∈ gW := gW_in (List.mem_of_getElem? (i := 480) (by decide +kernel)) rfl
theorem fX5_56 : Cond.fieldLink RX5 56 (TX5 8).1 (TX5 8).2.1 (TX5 8).2.2.1 ∈ gW := gW_in (List.mem_of_getElem? (i := 205) (by decide +kernel)) rfl
theorem fX5_60 : Cond.fieldLink RX5 60 (TX5 9).1 (TX5 9).2.1 (TX5 9).2.2.1 ∈ gW := gW_in (List.mem_of_getElem? (i := 206) (by decide +kernel)) rfl
theorem fX5_38 : Cond.fieldLink RX5 38 (TX5 4).1 (TX5 4).2.1 (TX5 4).2.2.1 ∈ gW := gW_in (List.mem_of_getElem? (i := 201) (by decide +kernel)) rfl
theorem lX5_151 : Cond.methodLink RX5 151 yX0_clear ∈ gW := gW_in (List.mem_of_getElem? (i := 491) (by decide +kernel)) rfl
theorem lX5_152 : Cond.methodLink RX5 152 yX2_fillPlaces ∈ gW := gW_in (List.mem_of_getElem? (i := 495) (by decide +kernel)) rfl
theorem lX5_156 : Cond.methodLink RX5 156 yX0_judgeBeyond ∈ gW := gW_in (List.mem_of_getElem? (i := 520) (by decide +kernel)) rfl
theorem lX5_160 : Cond.methodLink RX5 160 yX0_hasRoom ∈ gW := gW_in (List.mem_of_getElem? (i := 557) (by decide +kernel)) rfl
theorem lX5_163 : Cond.methodLink RX5 163 yX0_engages ∈ gW := gW_in (List.mem_of_getElem? (i := 570) (by decide +kernel)) rfl
theorem lX5_166 : Cond.methodLink RX5 166 yX2_hasBorne ∈ gW := gW_in (List.mem_of_getElem? (i := 574) (by decide +kernel)) rfl
theorem lX5_170 : Cond.methodLink RX5 170 yX3_setting ∈ gW := gW_in (List.mem_of_getElem? (i := 578) (by decide +kernel)) rfl
theorem lX5_173 : Cond.methodLink RX5 173 yX0_enter ∈ gW := gW_in (List.mem_of_getElem? (i := 579) (by decide +kernel)) rfl
theorem lX5_176 : Cond.methodLink RX5 176 yX0_standingOf ∈ gW := gW_in (List.mem_of_getElem? (i := 587) (by decide +kernel)) rfl
theorem lX5_179 : Cond.methodLink RX5 179 yX0_take ∈ gW := gW_in (List.mem_of_getElem? (i := 588) (by decide +kernel)) rfl
theorem lX5_182 : Cond.methodLink RX5 182 yX0_change ∈ gW := gW_in (List.mem_of_getElem? (i := 592) (by decide +kernel)) rfl
theorem lX5_185 : Cond.methodLink RX5 185 yX0_hasSworn ∈ gW := gW_in (List.mem_of_getElem? (i := 600) (by decide +kernel)) rfl
theorem lX5_189 : Cond.methodLink RX5 189 yX0_hearOath ∈ gW := gW_in (List.mem_of_getElem? (i := 604) (by decide +kernel)) rfl
theorem lX5_193 : Cond.methodLink RX5 193 yX0_sayerOf ∈ gW := gW_in (List.mem_of_getElem? (i := 616) (by decide +kernel)) rfl
theorem lX5_196 : Cond.methodLink RX5 196 yX0_hearerOf ∈ gW := gW_in (List.mem_of_getElem? (i := 620) (by decide +kernel)) rfl
theorem lX5_199 : Cond.methodLink RX5 199 yX0_placeIn ∈ gW := gW_in (List.mem_of_getElem? (i := 624) (by decide +kernel)) rfl
theorem lX5_202 : Cond.methodLink RX5 202 yX0_dayOf ∈ gW := gW_in (List.mem_of_getElem? (i := 628) (by decide +kernel)) rfl
theorem lX5_205 : Cond.methodLink RX5 205 yX0_lastDayOf ∈ gW := gW_in (List.mem_of_getElem? (i := 632) (by decide +kernel)) rfl
theorem lX5_208 : Cond.methodLink RX5 208 yX0_judgeAll ∈ gW := gW_in (List.mem_of_getElem? (i := 640) (by decide +kernel)) rfl
theorem lX5_212 : Cond.methodLink RX5 212 yX2_settle ∈ gW := gW_in (List.mem_of_getElem? (i := 644) (by decide +kernel)) rfl
theorem fX5_63 : Cond.fieldLink RX5 63 (TX5 10).1 (TX5 10).2.1 (TX5 10).2.2.1 ∈ gW := gW_in (List.mem_of_getElem? (i := 207) (by decide +kernel)) rfl
theorem lX5_215 : Cond.methodLink RX5 215 yX2_partAt ∈ gW := gW_in (List.mem_of_getElem? (i := 666) (by decide +kernel)) rfl
theorem lX5_221 : Cond.methodLink RX5 221 yX2_worthOf ∈ gW := gW_in (List.mem_of_getElem? (i := 672) (by decide +kernel)) rfl
theorem fX5_32 : Cond.fieldLink RX5 32 (TX5 3).1 (TX5 3).2.1 (TX5 3).2.2.1 ∈ gW := gW_in (List.mem_of_getElem? (i := 200) (by decide +kernel)) rfl
theorem lX5_224 : Cond.methodLink RX5 224 yX2_copyFrom ∈ gW := gW_in (List.mem_of_getElem? (i := 681) (by decide +kernel)) rfl
theorem lX5_227 : Cond.methodLink RX5 227 yX0_foreseeVerdicts ∈ gW := gW_in (List.mem_of_getElem? (i := 685) (by decide +kernel)) rfl
theorem lX5_230 : Cond.methodLink RX5 230 yX2_size ∈ gW := gW_in (List.mem_of_getElem? (i := 693) (by decide +kernel)) rfl
theorem lX5_233 : Cond.methodLink RX5 233 yX0_size ∈ gW := gW_in (List.mem_of_getElem? (i := 697) (by decide +kernel)) rfl
theorem lX5_235 : Cond.methodLink RX5 235 yX2_isFit ∈ gW := gW_in (List.mem_of_getElem? (i := 569) (by decide +kernel)) rfl
theorem fX6_75 : Cond.fieldLink RX6 75 (TX6 2).1 (TX6 2).2.1 (TX6 2).2.2.1 ∈ gW := gW_in (List.mem_of_getElem? (i := 809) (by decide +kernel)) rfl
theorem fX6_78 : Cond.fieldLink RX6 78 (TX6 1).1 (TX6 1).2.1 (TX6 1).2.2.1 ∈ gW := gW_in (List.mem_of_getElem? (i := 808) (by decide +kernel)) rfl
theorem fX6_7 : Cond.fieldLink RX6 7 (TX6 0).1 (TX6 0).2.1 (TX6 0).2.2.1 ∈ gW := gW_in (List.mem_of_getElem? (i := 807) (by decide +kernel)) rfl
theorem fX6_81 : Cond.fieldLink RX6 81 (TX6 8).1 (TX6 8).2.1 (TX6 8).2.2.1 ∈ gW := gW_in (List.mem_of_getElem? (i := 815) (by decide +kernel)) rfl
theorem fX6_25 : Cond.fieldLink RX6 25 (TX6 9).1 (TX6 9).2.1 (TX6 9).2.2.1 ∈ gW := gW_in (List.mem_of_getElem? (i := 816) (by decide +kernel)) rfl
theorem fX6_72 : Cond.fieldLink RX6 72 (TX6 30).1 (TX6 30).2.1 (TX6 30).2.2.1 ∈ gW := gW_in (List.mem_of_getElem? (i := 837) (by decide +kernel)) rfl
theorem fX6_84 : Cond.fieldLink RX6 84 (TX6 31).1 (TX6 31).2.1 (TX6 31).2.2.1 ∈ gW := gW_in (List.mem_of_getElem? (i := 838) (by decide +kernel)) rfl
theorem fX6_87 : Cond.fieldLink RX6 87 (TX6 32).1 (TX6 32).2.1 (TX6 32).2.2.1 ∈ gW := gW_in (List.mem_of_getElem? (i := 839) (by decide +kernel)) rfl
theorem fX6_90 : Cond.fieldLink RX6 90 (TX6 35).1 (TX6 35).2.1 (TX6 35).2.2.1 ∈ gW := gW_in (List.mem_of_getElem? (i := 842) (by decide +kernel)) rfl
theorem fX6_93 : Cond.fieldLink RX6 93 (TX6 33).1 (TX6 33).2.1 (TX6 33).2.2.1 ∈ gW := gW_in (List.mem_of_getElem? (i := 840) (by decide +kernel)) rfl
theorem lX6_96 : Cond.methodLink RX6 96 yX6_isSmall ∈ gW := gW_in (List.mem_of_getElem? (i := 935) (by decide +kernel)) rfl
theorem lX6_100 : Cond.methodLink RX6 100 yX6_wordAt ∈ gW := gW_in (List.mem_of_getElem? (i := 939) (by decide +kernel)) rfl
theorem fX6_104 : Cond.fieldLink RX6 104 (TX6 34).1 (TX6 34).2.1 (TX6 34).2.2.1 ∈ gW := gW_in (List.mem_of_getElem? (i := 841) (by decide +kernel)) rfl
theorem lX6_107 : Cond.methodLink RX6 107 yX6_isDigit ∈ gW := gW_in (List.mem_of_getElem? (i := 943) (by decide +kernel)) rfl
theorem lX6_111 : Cond.methodLink RX6 111 yX6_wrong ∈ gW := gW_in (List.mem_of_getElem? (i := 952) (by decide +kernel)) rfl
theorem lX6_115 : Cond.methodLink RX6 115 yX6_take ∈ gW := gW_in (List.mem_of_getElem? (i := 931) (by decide +kernel)) rfl
theorem fX6_118 : Cond.fieldLink RX6 118 (TX6 36).1 (TX6 36).2.1 (TX6 36).2.2.1 ∈ gW := gW_in (List.mem_of_getElem? (i := 843) (by decide +kernel)) rfl
theorem fX6_16 : Cond.fieldLink RX6 16 (TX6 4).1 (TX6 4).2.1 (TX6 4).2.2.1 ∈ gW := gW_in (List.mem_of_getElem? (i := 811) (by decide +kernel)) rfl
theorem lX6_121 : Cond.methodLink RX6 121 yX6_word ∈ gW := gW_in (List.mem_of_getElem? (i := 960) (by decide +kernel)) rfl
theorem lX6_124 : Cond.methodLink RX6 124 yX6_number ∈ gW := gW_in (List.mem_of_getElem? (i := 964) (by decide +kernel)) rfl
theorem fX6_13 : Cond.fieldLink RX6 13 (TX6 3).1 (TX6 3).2.1 (TX6 3).2.2.1 ∈ gW := gW_in (List.mem_of_getElem? (i := 810) (by decide +kernel)) rfl
theorem lX6_127 : Cond.methodLink RX6 127 yX6_burdenLine ∈ gW := gW_in (List.mem_of_getElem? (i := 956) (by decide +kernel)) rfl
theorem fX6_19 : Cond.fieldLink RX6 19 (TX6 5).1 (TX6 5).2.1 (TX6 5).2.2.1 ∈ gW := gW_in (List.mem_of_getElem? (i := 812) (by decide +kernel)) rfl
theorem fX6_132 : Cond.fieldLink RX6 132 (TX6 16).1 (TX6 16).2.1 (TX6 16).2.2.1 ∈ gW := gW_in (List.mem_of_getElem? (i := 823) (by decide +kernel)) rfl
theorem lX6_136 : Cond.methodLink RX6 136 yX6_line ∈ gW := gW_in (List.mem_of_getElem? (i := 948) (by decide +kernel)) rfl
theorem fX6_139 : Cond.fieldLink RX6 139 (TX6 6).1 (TX6 6).2.1 (TX6 6).2.2.1 ∈ gW := gW_in (List.mem_of_getElem? (i := 813) (by decide +kernel)) rfl
theorem fX6_22 : Cond.fieldLink RX6 22 (TX6 7).1 (TX6 7).2.1 (TX6 7).2.2.1 ∈ gW := gW_in (List.mem_of_getElem? (i := 814) (by decide +kernel)) rfl
theorem fX6_142 : Cond.fieldLink RX6 142 (TX6 10).1 (TX6 10).2.1 (TX6 10).2.2.1 ∈ gW := gW_in (List.mem_of_getElem? (i := 817) (by decide +kernel)) rfl
theorem fX6_29 : Cond.fieldLink RX6 29 (TX6 11).1 (TX6 11).2.1 (TX6 11).2.2.1 ∈ gW := gW_in (List.mem_of_getElem? (i := 818) (by decide +kernel)) rfl
theorem fX6_32 : Cond.fieldLink RX6 32 (TX6 12).1 (TX6 12).2.1 (TX6 12).2.2.1 ∈ gW := gW_in (List.mem_of_getElem? (i := 819) (by decide +kernel)) rfl
theorem lX6_145 : Cond.methodLink RX6 145 yX6_isMan ∈ gW := gW_in (List.mem_of_getElem? (i := 981) (by decide +kernel)) rfl
theorem fX6_41 : Cond.fieldLink RX6 41 (TX6 18).1 (TX6 18).2.1 (TX6 18).2.2.1 ∈ gW := gW_in (List.mem_of_getElem? (i := 825) (by decide +kernel)) rfl
theorem fX6_35 : Cond.fieldLink RX6 35 (TX6 13).1 (TX6 13).2.1 (TX6 13).2.2.1 ∈ gW := gW_in (List.mem_of_getElem? (i := 820) (by decide +kernel)) rfl
theorem lX6_148 : Cond.methodLink RX6 148 yX6_bears ∈ gW := gW_in (List.mem_of_getElem? (i := 993) (by decide +kernel)) rfl
theorem lX6_151 : Cond.methodLink RX6 151 yX6_fails ∈ gW := gW_in (List.mem_of_getElem? (i := 989) (by decide +kernel)) rfl
theorem fX6_38 : Cond.fieldLink RX6 38 (TX6 14).1 (TX6 14).2.1 (TX6 14).2.2.1 ∈ gW := gW_in (List.mem_of_getElem? (i := 821) (by decide +kernel)) rfl
theorem fX6_155 : Cond.fieldLink RX6 155 (TX6 15).1 (TX6 15).2.1 (TX6 15).2.2.1 ∈ gW := gW_in (List.mem_of_getElem? (i := 822) (by decide +kernel)) rfl
theorem lX6_158 : Cond.methodLink RX6 158 yX6_isFit ∈ gW := gW_in (List.mem_of_getElem? (i := 997) (by decide +kernel)) rfl
theorem fX6_162 : Cond.fieldLink RX6 162 (TX6 17).1 (TX6 17).2.1 (TX6 17).2.2.1 ∈ gW := gW_in (List.mem_of_getElem? (i := 824) (by decide +kernel)) rfl
theorem fX6_165 : Cond.fieldLink RX6 165 (TX6 21).1 (TX6 21).2.1 (TX6 21).2.2.1 ∈ gW := gW_in (List.mem_of_getElem? (i := 828) (by decide +kernel)) rfl
theorem lX6_168 : Cond.methodLink RX6 168 yX6_fill ∈ gW := gW_in (List.mem_of_getElem? (i := 1013) (by decide +kernel)) rfl
theorem fX6_44 : Cond.fieldLink RX6 44 (TX6 19).1 (TX6 19).2.1 (TX6 19).2.2.1 ∈ gW := gW_in (List.mem_of_getElem? (i := 826) (by decide +kernel)) rfl
theorem lX6_172 : Cond.methodLink RX6 172 yX6_pays ∈ gW := gW_in (List.mem_of_getElem? (i := 1061) (by decide +kernel)) rfl
theorem fX6_60 : Cond.fieldLink RX6 60 (TX6 26).1 (TX6 26).2.1 (TX6 26).2.2.1 ∈ gW := gW_in (List.mem_of_getElem? (i := 833) (by decide +kernel)) rfl
theorem fX6_51 : Cond.fieldLink RX6 51 (TX6 23).1 (TX6 23).2.1 (TX6 23).2.2.1 ∈ gW := gW_in (List.mem_of_getElem? (i := 830) (by decide +kernel)) rfl
theorem fX6_48 : Cond.fieldLink RX6 48 (TX6 22).1 (TX6 22).2.1 (TX6 22).2.2.1 ∈ gW := gW_in (List.mem_of_getElem? (i := 829) (by decide +kernel)) rfl
theorem fX6_66 : Cond.fieldLink RX6 66 (TX6 28).1 (TX6 28).2.1 (TX6 28).2.2.1 ∈ gW := gW_in (List.mem_of_getElem? (i := 835) (by decide +kernel)) rfl
theorem fX6_69 : Cond.fieldLink RX6 69 (TX6 29).1 (TX6 29).2.1 (TX6 29).2.2.1 ∈ gW := gW_in (List.mem_of_getElem? (i := 836) (by decide +kernel)) rfl
theorem fX6_54 : Cond.fieldLink RX6 54 (TX6 24).1 (TX6 24).2.1 (TX6 24).2.2.1 ∈ gW := gW_in (List.mem_of_getElem? (i := 831) (by decide +kernel)) rfl
theorem lX6_175 : Cond.methodLink RX6 175 yX6_goesOver ∈ gW := gW_in (List.mem_of_getElem? (i := 1029) (by decide +kernel)) rfl
theorem lX6_178 : Cond.methodLink RX6 178 yX6_over ∈ gW := gW_in (List.mem_of_getElem? (i := 1033) (by decide +kernel)) rfl
theorem lX6_182 : Cond.methodLink RX6 182 yX6_isOpen ∈ gW := gW_in (List.mem_of_getElem? (i := 1021) (by decide +kernel)) rfl
theorem fX6_63 : Cond.fieldLink RX6 63 (TX6 27).1 (TX6 27).2.1 (TX6 27).2.2.1 ∈ gW := gW_in (List.mem_of_getElem? (i := 834) (by decide +kernel)) rfl
theorem lX6_185 : Cond.methodLink RX6 185 yX6_judge ∈ gW := gW_in (List.mem_of_getElem? (i := 1025) (by decide +kernel)) rfl
theorem fX6_57 : Cond.fieldLink RX6 57 (TX6 25).1 (TX6 25).2.1 (TX6 25).2.2.1 ∈ gW := gW_in (List.mem_of_getElem? (i := 832) (by decide +kernel)) rfl
theorem lX6_188 : Cond.methodLink RX6 188 yX6_ends ∈ gW := gW_in (List.mem_of_getElem? (i := 1057) (by decide +kernel)) rfl
theorem fX6_191 : Cond.fieldLink RX6 191 (TX6 20).1 (TX6 20).2.1 (TX6 20).2.2.1 ∈ gW := gW_in (List.mem_of_getElem? (i := 827) (by decide +kernel)) rfl
theorem lJ0_335 : Cond.methodLink RJ0 335 yJ0_coder_7d493 ∈ gW := gW_in (List.mem_of_getElem? (i := 300) (by decide +kernel)) rfl
theorem lJ0_492 : Cond.methodLink RJ0 492 yJ0_isLatin1_aae02 ∈ gW := gW_in (List.mem_of_getElem? (i := 310) (by decide +kernel)) rfl
theorem lJ0_495 : Cond.methodLink RJ0 495 yJ1_charAt_3b067 ∈ gW := gW_in (List.mem_of_getElem? (i := 314) (by decide +kernel)) rfl
theorem lJ1_9 : Cond.methodLink RJ1 9 yJ0_checkIndex_df160 ∈ gW := gW_in (List.mem_of_getElem? (i := 317) (by decide +kernel)) rfl
theorem lJ0_1059 : Cond.methodLink RJ0 1059 yJ3_checkIndex_8e157 ∈ gW := gW_in (List.mem_of_getElem? (i := 322) (by decide +kernel)) rfl
theorem fJ0_9 : Cond.fieldLink RJ0 9 "java/lang/String" "value" "[B" ∈ gW := gW_in (List.mem_of_getElem? (i := 1095) (by decide +kernel)) rfl
theorem fJ0_15 : Cond.fieldLink RJ0 15 "java/lang/String" "coder" "B" ∈ gW := gW_in (List.mem_of_getElem? (i := 1096) (by decide +kernel)) rfl
theorem fJ0_38 : Cond.fieldLink RJ0 38 "java/lang/String" "COMPACT_STRINGS" "Z" ∈ gW := gW_in (List.mem_of_getElem? (i := 304) (by decide +kernel)) rfl
theorem fJ0_1053 : Cond.fieldLink RJ0 1053 "jdk/internal/util/Preconditions" "SIOOBE_FORMATTER" "Ljava/util/function/BiFunction;" ∈ gW := gW_in (List.mem_of_getElem? (i := 320) (by decide +kernel)) rfl
theorem kX1_114 : Cond.constant RX1 114 (1000000) ∈ gW := gW_in (List.mem_of_getElem? (i := 377) (by decide +kernel)) rfl
theorem kX1_143 : Cond.constant RX1 143 (100000) ∈ gW := gW_in (List.mem_of_getElem? (i := 389) (by decide +kernel)) rfl
theorem kX5_234 : Cond.constant RX5 234 (100000) ∈ gW := gW_in (List.mem_of_getElem? (i := 429) (by decide +kernel)) rfl
theorem kX5_220 : Cond.constant RX5 220 (-2147483648) ∈ gW := gW_in (List.mem_of_getElem? (i := 671) (by decide +kernel)) rfl
theorem kX6_110 : Cond.constant RX6 110 (999999) ∈ gW := gW_in (List.mem_of_getElem? (i := 947) (by decide +kernel)) rfl
theorem kX6_131 : Cond.constant RX6 131 (100000) ∈ gW := gW_in (List.mem_of_getElem? (i := 968) (by decide +kernel)) rfl
theorem kX6_194 : Cond.constant RX6 194 (-2147483648) ∈ gW := gW_in (List.mem_of_getElem? (i := 1073) (by decide +kernel)) rfl
