/-! rows of all methods; small facts -/
def mw_nlo (o : Option mw_V) : Bool := match o with
  | some (.inr (.inl _)) => false
  | _ => true
theorem mw_nl_of {lv : mw_L} {i : Nat} {o : Option mw_V} (h : lv[i]? = some o) (ho : mw_nlo o = true) : mw_nl lv (i + 1) = true := by
  unfold mw_nl
  simp only [h]
  rcases o with _ | z | z | a | u <;> first | rfl | exact absurd ho (by decide) | (simp [mw_nlo] at ho)
set_option maxRecDepth 100000 in
theorem mq0 : mw_mT[0]? = some (yX0_empty, cX0_empty, 1, none, 0, 0, 1) := rfl
set_option maxRecDepth 100000 in
theorem mq1 : mw_mT[1]? = some (yX0_become, cX0_become, 2, none, 0, 1, 1) := rfl
set_option maxRecDepth 100000 in
theorem mq2 : mw_mT[2]? = some (yX0_setUp, cX0_setUp, 3, none, 0, 1, 1) := rfl
set_option maxRecDepth 100000 in
theorem mq3 : mw_mT[3]? = some (yX0_addPerson, cX0_addPerson, 3, none, 0, 2, 1) := rfl
set_option maxRecDepth 100000 in
theorem mq4 : mw_mT[4]? = some (yX0_addThing, cX0_addThing, 2, none, 0, 1, 1) := rfl
set_option maxRecDepth 100000 in
theorem mq5 : mw_mT[5]? = some (yX0_addRule, cX0_addRule, 4, none, 0, 3, 1) := rfl
set_option maxRecDepth 100000 in
theorem mq6 : mw_mT[6]? = some (yX0_addCode, cX0_addCode, 2, none, 0, 1, 1) := rfl
set_option maxRecDepth 100000 in
theorem mq7 : mw_mT[7]? = some (yX1_owed, cX1_owed, 3, (some .int), 1, 3, 0) := rfl
set_option maxRecDepth 100000 in
theorem mq8 : mw_mT[8]? = some (yX1_add, cX1_add, 4, none, 1, 4, 0) := rfl
set_option maxRecDepth 100000 in
theorem mq9 : mw_mT[9]? = some (yX1_netOf, cX1_netOf, 4, (some .int), 1, 2, 0) := rfl
set_option maxRecDepth 100000 in
theorem mq10 : mw_mT[10]? = some (yX1_takeOffRings, cX1_takeOffRings, 5, (some .int), 1, 2, 0) := rfl
set_option maxRecDepth 100000 in
theorem mq11 : mw_mT[11]? = some (yX1_takeOffPair, cX1_takeOffPair, 4, (some .int), 1, 3, 0) := rfl
set_option maxRecDepth 100000 in
theorem mq12 : mw_mT[12]? = some (yX1_takeOffThree, cX1_takeOffThree, 4, (some .int), 1, 3, 0) := rfl
set_option maxRecDepth 100000 in
theorem mq13 : mw_mT[13]? = some (yX1_fewestPayments, cX1_fewestPayments, 4, (some .int), 1, 2, 0) := rfl
set_option maxRecDepth 100000 in
theorem mq14 : mw_mT[14]? = some (yX2_solve, cX2_solve, 6, none, 2, 2, 2) := rfl
set_option maxRecDepth 100000 in
theorem mq15 : mw_mT[15]? = some (yX2_firstWinning, cX2_firstWinning, 2, (some .int), 2, 1, 2) := rfl
set_option maxRecDepth 100000 in
theorem mq16 : mw_mT[16]? = some (yX2_winnable, cX2_winnable, 1, (some .int), 2, 0, 2) := rfl
set_option maxRecDepth 100000 in
theorem mq17 : mw_mT[17]? = some (yX2_leastWinning, cX2_leastWinning, 4, (some .int), 2, 2, 2) := rfl
set_option maxRecDepth 100000 in
theorem mq18 : mw_mT[18]? = some (yX2_isWinning, cX2_isWinning, 7, (some .boolean), 2, 3, 2) := rfl
set_option maxRecDepth 100000 in
theorem mq19 : mw_mT[19]? = some (yX3_startCells, cX3_startCells, 1, none, 3, 0, 3) := rfl
set_option maxRecDepth 100000 in
theorem mq20 : mw_mT[20]? = some (yX3_addCell, cX3_addCell, 2, none, 3, 1, 3) := rfl
set_option maxRecDepth 100000 in
theorem mq21 : mw_mT[21]? = some (yX3_findRows, cX3_findRows, 5, none, 3, 4, 3) := rfl
set_option maxRecDepth 100000 in
theorem mq22 : mw_mT[22]? = some (yX3_findFrom, cX3_findFrom, 5, none, 3, 2, 3) := rfl
set_option maxRecDepth 100000 in
theorem mq23 : mw_mT[23]? = some (yX3_findLast, cX3_findLast, 8, none, 3, 2, 3) := rfl
set_option maxRecDepth 100000 in
theorem mq24 : mw_mT[24]? = some (yX3_takeAllFrom, cX3_takeAllFrom, 4, none, 3, 2, 3) := rfl
set_option maxRecDepth 100000 in
theorem mq25 : mw_mT[25]? = some (yX3_weightOf, cX3_weightOf, 9, (some .long), 3, 5, 3) := rfl
set_option maxRecDepth 100000 in
theorem mq26 : mw_mT[26]? = some (yX3_spreadWeights, cX3_spreadWeights, 4, none, 3, 1, 3) := rfl
set_option maxRecDepth 100000 in
theorem mq27 : mw_mT[27]? = some (yX4_keep, cX4_keep, 3, none, 4, 2, 4) := rfl
set_option maxRecDepth 100000 in
theorem mq28 : mw_mT[28]? = some (yX5_learn, cX5_learn, 5, none, 5, 2, 5) := rfl
set_option maxRecDepth 100000 in
theorem mq29 : mw_mT[29]? = some (yX5_learnFor, cX5_learnFor, 7, none, 5, 1, 5) := rfl
set_option maxRecDepth 100000 in
theorem mq30 : mw_mT[30]? = some (yX5_doingAt, cX5_doingAt, 4, (some .int), 5, 2, 5) := rfl
set_option maxRecDepth 100000 in
theorem mq31 : mw_mT[31]? = some (yX5_openLaws, cX5_openLaws, 2, (some .int), 5, 1, 5) := rfl
set_option maxRecDepth 100000 in
theorem mq32 : mw_mT[32]? = some (yX5_fitting, cX5_fitting, 3, (some .int), 5, 0, 5) := rfl
set_option maxRecDepth 100000 in
theorem mq33 : mw_mT[33]? = some (yX5_latenessOfSmallest, cX5_latenessOfSmallest, 5, (some .int), 5, 0, 5) := rfl
set_option maxRecDepth 100000 in
theorem mq34 : mw_mT[34]? = some (yX5_leftOutByAll, cX5_leftOutByAll, 3, (some .int), 5, 0, 5) := rfl
set_option maxRecDepth 100000 in
theorem mq35 : mw_mT[35]? = some (yX5_chooseTelling, cX5_chooseTelling, 3, none, 5, 0, 5) := rfl
set_option maxRecDepth 100000 in
theorem mq36 : mw_mT[36]? = some (yX5_mostLeftTogether, cX5_mostLeftTogether, 4, (some .int), 5, 1, 5) := rfl
set_option maxRecDepth 100000 in
theorem mq37 : mw_mT[37]? = some (yX5_partLaws, cX5_partLaws, 7, none, 5, 1, 5) := rfl
set_option maxRecDepth 100000 in
theorem mq38 : mw_mT[38]? = some (yX5_keyOf, cX5_keyOf, 5, (some .int), 5, 1, 5) := rfl
set_option maxRecDepth 100000 in
theorem mq39 : mw_mT[39]? = some (yX5_addPart, cX5_addPart, 4, none, 5, 2, 5) := rfl
set_option maxRecDepth 100000 in
theorem mq40 : mw_mT[40]? = some (yX6_forget, cX6_forget, 1, none, 6, 0, 6) := rfl
set_option maxRecDepth 100000 in
theorem mq41 : mw_mT[41]? = some (yX6_remember, cX6_remember, 2, none, 6, 1, 6) := rfl
set_option maxRecDepth 100000 in
theorem mq42 : mw_mT[42]? = some (yX6_goBack, cX6_goBack, 3, none, 6, 2, 6) := rfl
set_option maxRecDepth 100000 in
theorem mq43 : mw_mT[43]? = some (yX7_hasRoom, cX7_hasRoom, 1, (some .boolean), 7, 0, 7) := rfl
set_option maxRecDepth 100000 in
theorem mq44 : mw_mT[44]? = some (yX7_tapeInt, cX7_tapeInt, 3, none, 7, 1, 7) := rfl
set_option maxRecDepth 100000 in
theorem mq45 : mw_mT[45]? = some (yX7_readText, cX7_readText, 4, (some .boolean), 7, 1, 7) := rfl
set_option maxRecDepth 100000 in
theorem mq46 : mw_mT[46]? = some (yX7_readDeep, cX7_readDeep, 1, (some .boolean), 7, 0, 7) := rfl
set_option maxRecDepth 100000 in
theorem mq47 : mw_mT[47]? = some (yX7_readPerson, cX7_readPerson, 3, (some .boolean), 7, 0, 7) := rfl
set_option maxRecDepth 100000 in
theorem mq48 : mw_mT[48]? = some (yX7_readThing, cX7_readThing, 2, (some .boolean), 7, 0, 7) := rfl
set_option maxRecDepth 100000 in
theorem mq49 : mw_mT[49]? = some (yX7_readMiss, cX7_readMiss, 1, (some .boolean), 7, 0, 7) := rfl
set_option maxRecDepth 100000 in
theorem mq50 : mw_mT[50]? = some (yX7_readRule, cX7_readRule, 4, (some .boolean), 7, 0, 7) := rfl
set_option maxRecDepth 100000 in
theorem mq51 : mw_mT[51]? = some (yX7_readTruth, cX7_readTruth, 3, (some .boolean), 7, 0, 7) := rfl
set_option maxRecDepth 100000 in
theorem mq52 : mw_mT[52]? = some (yX7_startUnit, cX7_startUnit, 1, none, 7, 0, 7) := rfl
set_option maxRecDepth 100000 in
theorem mq53 : mw_mT[53]? = some (yX7_isUnitWhole, cX7_isUnitWhole, 1, (some .boolean), 7, 0, 7) := rfl
set_option maxRecDepth 100000 in
theorem mq54 : mw_mT[54]? = some (yX7_readOperand, cX7_readOperand, 2, (some .boolean), 7, 0, 7) := rfl
set_option maxRecDepth 100000 in
theorem mq55 : mw_mT[55]? = some (yX7_goWithin, cX7_goWithin, 2, (some .boolean), 7, 1, 7) := rfl
set_option maxRecDepth 100000 in
theorem mq56 : mw_mT[56]? = some (yX7_readSumSign, cX7_readSumSign, 3, (some .boolean), 7, 0, 7) := rfl
set_option maxRecDepth 100000 in
theorem mq57 : mw_mT[57]? = some (yX7_readTruthSign, cX7_readTruthSign, 2, (some .boolean), 7, 0, 7) := rfl
set_option maxRecDepth 100000 in
theorem mq58 : mw_mT[58]? = some (yX7_join, cX7_join, 3, none, 7, 1, 7) := rfl
set_option maxRecDepth 100000 in
theorem mq59 : mw_mT[59]? = some (yX7_hold, cX7_hold, 2, none, 7, 1, 7) := rfl
set_option maxRecDepth 100000 in
theorem mq60 : mw_mT[60]? = some (yX7_release, cX7_release, 3, none, 7, 1, 7) := rfl
set_option maxRecDepth 100000 in
theorem mq61 : mw_mT[61]? = some (yX7_settleTop, cX7_settleTop, 1, none, 7, 0, 7) := rfl
set_option maxRecDepth 100000 in
theorem mq62 : mw_mT[62]? = some (yX7_bindingOf, cX7_bindingOf, 1, (some .int), 7, 1, 0) := rfl
set_option maxRecDepth 100000 in
theorem mq63 : mw_mT[63]? = some (yX7_signOfByte, cX7_signOfByte, 1, (some .int), 7, 0, 7) := rfl
set_option maxRecDepth 100000 in
theorem mq64 : mw_mT[64]? = some (yX7_nameOfWord, cX7_nameOfWord, 1, (some .int), 7, 0, 7) := rfl
set_option maxRecDepth 100000 in
theorem mq65 : mw_mT[65]? = some (yX7_doingOfWord, cX7_doingOfWord, 1, (some .int), 7, 0, 7) := rfl
set_option maxRecDepth 100000 in
theorem mq66 : mw_mT[66]? = some (yX7_isWord, cX7_isWord, 3, (some .boolean), 7, 1, 7) := rfl
set_option maxRecDepth 100000 in
theorem mq67 : mw_mT[67]? = some (yX7_isSign, cX7_isSign, 2, (some .boolean), 7, 1, 7) := rfl
set_option maxRecDepth 100000 in
theorem mq68 : mw_mT[68]? = some (yX7_passSign, cX7_passSign, 2, (some .boolean), 7, 1, 7) := rfl
set_option maxRecDepth 100000 in
theorem mq69 : mw_mT[69]? = some (yX7_isNumberIn, cX7_isNumberIn, 3, (some .boolean), 7, 2, 7) := rfl
set_option maxRecDepth 100000 in
theorem mq70 : mw_mT[70]? = some (yX7_refuse, cX7_refuse, 1, (some .boolean), 7, 0, 7) := rfl
set_option maxRecDepth 100000 in
theorem mq71 : mw_mT[71]? = some (yX7_faultHere, cX7_faultHere, 2, (some .boolean), 7, 1, 7) := rfl
set_option maxRecDepth 100000 in
theorem mq72 : mw_mT[72]? = some (yX7_nextToken, cX7_nextToken, 1, none, 7, 0, 7) := rfl
set_option maxRecDepth 100000 in
theorem mq73 : mw_mT[73]? = some (yX7_readWord, cX7_readWord, 1, none, 7, 0, 7) := rfl
set_option maxRecDepth 100000 in
theorem mq74 : mw_mT[74]? = some (yX7_readDigits, cX7_readDigits, 1, none, 7, 0, 7) := rfl
set_option maxRecDepth 100000 in
theorem mq75 : mw_mT[75]? = some (yX7_isLetter, cX7_isLetter, 1, (some .boolean), 7, 1, 0) := rfl
set_option maxRecDepth 100000 in
theorem mq76 : mw_mT[76]? = some (yX7_isDigit, cX7_isDigit, 1, (some .boolean), 7, 1, 0) := rfl
set_option maxRecDepth 100000 in
theorem mq77 : mw_mT[77]? = some (yX7_isSignByte, cX7_isSignByte, 1, (some .boolean), 7, 1, 0) := rfl
set_option maxRecDepth 100000 in
theorem mq78 : mw_mT[78]? = some (yX8_fewestSteps, cX8_fewestSteps, 6, (some .int), 8, 4, 8) := rfl
set_option maxRecDepth 100000 in
theorem mq79 : mw_mT[79]? = some (yX8_doingOfWay, cX8_doingOfWay, 2, (some .int), 8, 1, 8) := rfl
set_option maxRecDepth 100000 in
theorem mq80 : mw_mT[80]? = some (yX8_isSought, cX8_isSought, 3, (some .boolean), 8, 2, 8) := rfl
set_option maxRecDepth 100000 in
theorem mq81 : mw_mT[81]? = some (yX8_isFoundBehind, cX8_isFoundBehind, 6, (some .boolean), 8, 2, 8) := rfl
set_option maxRecDepth 100000 in
theorem mq82 : mw_mT[82]? = some (yX8_cellsBehind, cX8_cellsBehind, 4, (some .int), 8, 3, 8) := rfl
set_option maxRecDepth 100000 in
theorem mq83 : mw_mT[83]? = some (yX8_cellsFrom, cX8_cellsFrom, 6, (some .int), 8, 2, 8) := rfl
set_option maxRecDepth 100000 in
theorem mq84 : mw_mT[84]? = some (yX8_goRound, cX8_goRound, 7, none, 8, 3, 8) := rfl
set_option maxRecDepth 100000 in
theorem mq85 : mw_mT[85]? = some (yX8_bodyOf, cX8_bodyOf, 4, (some .long), 8, 1, 0) := rfl
set_option maxRecDepth 100000 in
theorem mq86 : mw_mT[86]? = some (yX8_tellingOf, cX8_tellingOf, 4, (some .long), 8, 1, 0) := rfl
set_option maxRecDepth 100000 in
theorem mq87 : mw_mT[87]? = some (yX9_areDoings, cX9_areDoings, 3, (some .boolean), 9, 1, 9) := rfl
set_option maxRecDepth 100000 in
theorem mq88 : mw_mT[88]? = some (yX9_advance, cX9_advance, 7, (some .int), 9, 2, 9) := rfl
set_option maxRecDepth 100000 in
theorem mq89 : mw_mT[89]? = some (yX9_copyDoing, cX9_copyDoing, 5, (some .int), 9, 3, 9) := rfl
set_option maxRecDepth 100000 in
theorem mq90 : mw_mT[90]? = some (yX9_isStayForNow, cX9_isStayForNow, 3, (some .boolean), 9, 2, 9) := rfl
set_option maxRecDepth 100000 in
theorem mq91 : mw_mT[91]? = some (yX9_moved, cX9_moved, 3, (some .int), 9, 2, 9) := rfl
set_option maxRecDepth 100000 in
theorem mq92 : mw_mT[92]? = some (yX9_lateDoing, cX9_lateDoing, 3, (some .int), 9, 2, 9) := rfl
set_option maxRecDepth 100000 in
theorem mq93 : mw_mT[93]? = some (yX9_toldBehind, cX9_toldBehind, 2, (some .int), 9, 2, 0) := rfl
set_option maxRecDepth 100000 in
theorem mq94 : mw_mT[94]? = some (yX9_mirrored, cX9_mirrored, 1, (some .int), 9, 1, 0) := rfl
set_option maxRecDepth 100000 in
theorem mq95 : mw_mT[95]? = some (yX9_boredThen, cX9_boredThen, 3, (some .int), 9, 3, 0) := rfl
set_option maxRecDepth 100000 in
theorem mq96 : mw_mT[96]? = some (yX9_handPlace, cX9_handPlace, 3, (some .int), 9, 2, 9) := rfl
set_option maxRecDepth 100000 in
theorem mq97 : mw_mT[97]? = some (yX9_thingAt, cX9_thingAt, 4, (some .int), 9, 2, 9) := rfl
set_option maxRecDepth 100000 in
theorem mq98 : mw_mT[98]? = some (yX9_ground, cX9_ground, 2, (some .int), 9, 2, 0) := rfl
set_option maxRecDepth 100000 in
theorem mq99 : mw_mT[99]? = some (yX9_isAble, cX9_isAble, 5, (some .boolean), 9, 3, 9) := rfl
set_option maxRecDepth 100000 in
theorem mq100 : mw_mT[100]? = some (yX9_act, cX9_act, 4, (some .int), 9, 3, 9) := rfl
set_option maxRecDepth 100000 in
theorem mq101 : mw_mT[101]? = some (yX9_carry, cX9_carry, 5, none, 9, 3, 9) := rfl
set_option maxRecDepth 100000 in
theorem mq102 : mw_mT[102]? = some (yX9_passThings, cX9_passThings, 7, (some .int), 9, 1, 9) := rfl
set_option maxRecDepth 100000 in
theorem mq103 : mw_mT[103]? = some (yX9_passWithFirst, cX9_passWithFirst, 13, (some .int), 9, 4, 9) := rfl
set_option maxRecDepth 100000 in
theorem mq104 : mw_mT[104]? = some (yX9_chosen, cX9_chosen, 7, (some .int), 9, 5, 9) := rfl
set_option maxRecDepth 100000 in
theorem mq105 : mw_mT[105]? = some (yX9_holds, cX9_holds, 4, (some .int), 9, 3, 9) := rfl
set_option maxRecDepth 100000 in
theorem mq106 : mw_mT[106]? = some (yX9_isTrue, cX9_isTrue, 5, (some .boolean), 9, 1, 9) := rfl
set_option maxRecDepth 100000 in
theorem mq107 : mw_mT[107]? = some (yX9_joined, cX9_joined, 3, (some .long), 9, 3, 0) := rfl
set_option maxRecDepth 100000 in
theorem mq108 : mw_mT[108]? = some (yX9_kept, cX9_kept, 2, (some .int), 9, 1, 0) := rfl
set_option maxRecDepth 100000 in
theorem mq109 : mw_mT[109]? = some (yX9_spendHours, cX9_spendHours, 7, none, 9, 3, 9) := rfl
set_option maxRecDepth 100000 in
theorem mq110 : mw_mT[110]? = some (yX9_noteFailures, cX9_noteFailures, 3, none, 9, 1, 9) := rfl
set_option maxRecDepth 100000 in
theorem mq111 : mw_mT[111]? = some (yX9_spendDay, cX9_spendDay, 9, (some .int), 9, 3, 9) := rfl
set_option maxRecDepth 100000 in
theorem mq112 : mw_mT[112]? = some (yX10_isTray, cX10_isTray, 2, (some .boolean), 10, 1, 10) := rfl
set_option maxRecDepth 100000 in
theorem mq113 : mw_mT[113]? = some (yX10_isMissing, cX10_isMissing, 2, (some .boolean), 10, 1, 10) := rfl
set_option maxRecDepth 100000 in
theorem mq114 : mw_mT[114]? = some (yX10_size, cX10_size, 2, (some .int), 10, 1, 10) := rfl
set_option maxRecDepth 100000 in
theorem mq115 : mw_mT[115]? = some (yX10_at, cX10_at, 3, (some .long), 10, 2, 10) := rfl
set_option maxRecDepth 100000 in
theorem mq116 : mw_mT[116]? = some (yX10_layOut, cX10_layOut, 5, none, 10, 3, 10) := rfl
set_option maxRecDepth 100000 in
theorem mq117 : mw_mT[117]? = some (yX10_put, cX10_put, 5, (some .long), 10, 3, 10) := rfl
set_option maxRecDepth 100000 in
theorem mq118 : mw_mT[118]? = some (yX10_cut, cX10_cut, 3, (some .long), 10, 2, 0) := rfl
set_option maxRecDepth 100000 in
theorem mq119 : mw_mT[119]? = some (yX11_feed, cX11_feed, 6, (some .int), 11, 5, 11) := rfl
set_option maxRecDepth 100000 in
theorem mq120 : mw_mT[120]? = some (yX11_arcade, cX11_arcade, 2, (some .int), 11, 1, 11) := rfl
set_option maxRecDepth 100000 in
theorem mq121 : mw_mT[121]? = some (yX11_fault, cX11_fault, 2, (some .int), 11, 1, 11) := rfl
set_option maxRecDepth 100000 in
theorem mq122 : mw_mT[122]? = some (yX11_person, cX11_person, 3, (some .int), 11, 2, 11) := rfl
set_option maxRecDepth 100000 in
theorem mq123 : mw_mT[123]? = some (yX11_copy, cX11_copy, 4, (some .int), 11, 2, 11) := rfl
set_option maxRecDepth 100000 in
theorem mq124 : mw_mT[124]? = some (yX11_thing, cX11_thing, 2, (some .int), 11, 1, 11) := rfl
set_option maxRecDepth 100000 in
theorem mq125 : mw_mT[125]? = some (yX11_can, cX11_can, 3, (some .int), 11, 2, 11) := rfl
set_option maxRecDepth 100000 in
theorem mq126 : mw_mT[126]? = some (yX11_would, cX11_would, 3, (some .int), 11, 2, 11) := rfl
set_option maxRecDepth 100000 in
theorem mq127 : mw_mT[127]? = some (yX11_step, cX11_step, 2, (some .int), 11, 1, 11) := rfl
set_option maxRecDepth 100000 in
theorem mq128 : mw_mT[128]? = some (yX11_undo, cX11_undo, 2, (some .int), 11, 1, 11) := rfl
set_option maxRecDepth 100000 in
theorem mq129 : mw_mT[129]? = some (yX11_judge, cX11_judge, 3, (some .int), 11, 2, 11) := rfl
set_option maxRecDepth 100000 in
theorem mq130 : mw_mT[130]? = some (yX11_perform, cX11_perform, 2, (some .int), 11, 1, 11) := rfl
set_option maxRecDepth 100000 in
theorem mq131 : mw_mT[131]? = some (yX11_day, cX11_day, 3, (some .int), 11, 2, 11) := rfl
set_option maxRecDepth 100000 in
theorem mq132 : mw_mT[132]? = some (yX11_fails, cX11_fails, 3, (some .int), 11, 2, 11) := rfl
set_option maxRecDepth 100000 in
theorem mq133 : mw_mT[133]? = some (yX11_round, cX11_round, 4, (some .int), 11, 2, 11) := rfl
set_option maxRecDepth 100000 in
theorem mq134 : mw_mT[134]? = some (yX11_soonest, cX11_soonest, 7, (some .int), 11, 4, 11) := rfl
set_option maxRecDepth 100000 in
theorem mq135 : mw_mT[135]? = some (yX11_states, cX11_states, 3, (some .int), 11, 2, 11) := rfl
set_option maxRecDepth 100000 in
theorem mq136 : mw_mT[136]? = some (yX11_reach, cX11_reach, 3, (some .int), 11, 2, 11) := rfl
set_option maxRecDepth 100000 in
theorem mq137 : mw_mT[137]? = some (yX11_fits, cX11_fits, 3, (some .int), 11, 1, 11) := rfl
set_option maxRecDepth 100000 in
theorem mq138 : mw_mT[138]? = some (yX11_smallest, cX11_smallest, 5, (some .int), 11, 2, 11) := rfl
set_option maxRecDepth 100000 in
theorem mq139 : mw_mT[139]? = some (yX11_sure, cX11_sure, 3, (some .int), 11, 1, 11) := rfl
set_option maxRecDepth 100000 in
theorem mq140 : mw_mT[140]? = some (yX11_telling, cX11_telling, 4, (some .int), 11, 2, 11) := rfl
set_option maxRecDepth 100000 in
theorem mq141 : mw_mT[141]? = some (yX11_meant, cX11_meant, 5, (some .int), 11, 3, 11) := rfl
set_option maxRecDepth 100000 in
theorem mq142 : mw_mT[142]? = some (yX11_maybe, cX11_maybe, 5, (some .int), 11, 3, 11) := rfl
set_option maxRecDepth 100000 in
theorem mq143 : mw_mT[143]? = some (yX11_odds, cX11_odds, 5, (some .long), 11, 3, 11) := rfl
set_option maxRecDepth 100000 in
theorem mq144 : mw_mT[144]? = some (yX11_win, cX11_win, 4, (some .int), 11, 3, 11) := rfl
set_option maxRecDepth 100000 in
theorem mq145 : mw_mT[145]? = some (yX11_wins, cX11_wins, 3, (some .int), 11, 2, 11) := rfl
set_option maxRecDepth 100000 in
theorem mq146 : mw_mT[146]? = some (yX11_lends, cX11_lends, 5, (some .int), 11, 3, 11) := rfl
set_option maxRecDepth 100000 in
theorem mq147 : mw_mT[147]? = some (yX11_owes, cX11_owes, 4, (some .int), 11, 3, 11) := rfl
set_option maxRecDepth 100000 in
theorem mq148 : mw_mT[148]? = some (yX11_balance, cX11_balance, 4, (some .int), 11, 2, 11) := rfl
set_option maxRecDepth 100000 in
theorem mq149 : mw_mT[149]? = some (yX11_clear, cX11_clear, 2, (some .int), 11, 0, 11) := rfl
set_option maxRecDepth 100000 in
theorem mq150 : mw_mT[150]? = some (yX11_payments, cX11_payments, 1, (some .int), 11, 0, 11) := rfl
set_option maxRecDepth 100000 in
theorem mq151 : mw_mT[151]? = some (yX11_numbers, cX11_numbers, 4, (some .int), 11, 3, 11) := rfl
set_option maxRecDepth 100000 in
theorem mq152 : mw_mT[152]? = some (yX11_write, cX11_write, 5, (some .long), 11, 3, 11) := rfl
set_option maxRecDepth 100000 in
theorem mq153 : mw_mT[153]? = some (yX11_lists, cX11_lists, 4, (some .int), 11, 1, 11) := rfl
set_option maxRecDepth 100000 in
theorem mq154 : mw_mT[154]? = some (yX11_image, cX11_image, 3, (some .int), 11, 1, 11) := rfl
set_option maxRecDepth 100000 in
theorem mq155 : mw_mT[155]? = some (yX11_restore, cX11_restore, 3, (some .int), 11, 1, 11) := rfl
set_option maxRecDepth 100000 in
theorem mq156 : mw_mT[156]? = some (yX11_count, cX11_count, 2, (some .int), 11, 1, 11) := rfl
set_option maxRecDepth 100000 in
theorem mq157 : mw_mT[157]? = some (yX11_isPerson, cX11_isPerson, 2, (some .boolean), 11, 1, 11) := rfl
set_option maxRecDepth 100000 in
theorem mq158 : mw_mT[158]? = some (yX11_areTwoPeople, cX11_areTwoPeople, 3, (some .boolean), 11, 2, 11) := rfl
set_option maxRecDepth 100000 in
theorem mq159 : mw_mT[159]? = some (yX11_isThing, cX11_isThing, 2, (some .boolean), 11, 1, 11) := rfl
set_option maxRecDepth 100000 in
theorem mq160 : mw_mT[160]? = some (yX11_isCell, cX11_isCell, 3, (some .boolean), 11, 1, 11) := rfl
set_option maxRecDepth 100000 in
theorem mq161 : mw_mT[161]? = some (yX11_isPlace, cX11_isPlace, 3, (some .boolean), 11, 1, 11) := rfl
set_option maxRecDepth 100000 in
theorem mq162 : mw_mT[162]? = some (yX11_isDoing, cX11_isDoing, 1, (some .boolean), 11, 1, 0) := rfl
set_option maxRecDepth 100000 in
theorem mq163 : mw_mT[163]? = some (yX11_isFirstOrSecond, cX11_isFirstOrSecond, 1, (some .boolean), 11, 1, 0) := rfl
set_option maxRecDepth 100000 in
theorem mq164 : mw_mT[164]? = some (yX11_isGame, cX11_isGame, 2, (some .boolean), 11, 2, 0) := rfl
set_option maxRecDepth 100000 in
theorem mq165 : mw_mT[165]? = some (yX11_hoursRefusal, cX11_hoursRefusal, 5, (some .int), 11, 2, 11) := rfl
set_option maxRecDepth 100000 in
theorem mq166 : mw_mT[166]? = some (yX11_seenRefusal, cX11_seenRefusal, 6, (some .int), 11, 1, 11) := rfl
set_option maxRecDepth 100000 in
theorem mq167 : mw_mT[167]? = some (yX11_meantRefusal, cX11_meantRefusal, 7, (some .int), 11, 2, 11) := rfl
set_option maxRecDepth 100000 in
theorem mq168 : mw_mT[168]? = some (yX11_tryHours, cX11_tryHours, 2, none, 11, 1, 11) := rfl
set_option maxRecDepth 100000 in
theorem mq169 : mw_mT[169]? = some (yX11_copyRow, cX11_copyRow, 2, none, 11, 2, 0) := rfl
set_option maxRecDepth 100000 in
theorem mq170 : mw_mT[170]? = some (yX12_within, cX12_within, 6, (some .boolean), 12, 3, 0) := rfl
set_option maxRecDepth 100000 in
theorem mq171 : mw_mT[171]? = some (yX12_plain, cX12_plain, 2, none, 12, 1, 0) := rfl
set_option maxRecDepth 100000 in
theorem mq172 : mw_mT[172]? = some (yX12_feed, cX12_feed, 8, (some .int), 12, 5, 12) := rfl
set_option maxRecDepth 100000 in
theorem mq173 : mw_mT[173]? = some (yX12_see, cX12_see, 2, (some .int), 12, 1, 12) := rfl
set_option maxRecDepth 100000 in
theorem mq174 : mw_mT[174]? = some (yX12_isSmall, cX12_isSmall, 1, (some .boolean), 12, 1, 0) := rfl
set_option maxRecDepth 100000 in
theorem mq175 : mw_mT[175]? = some (yX12_isDigit, cX12_isDigit, 1, (some .boolean), 12, 1, 0) := rfl
set_option maxRecDepth 100000 in
theorem mq176 : mw_mT[176]? = some (yX12_keyAt, cX12_keyAt, 4, (some .int), 12, 0, 12) := rfl
set_option maxRecDepth 100000 in
theorem mq177 : mw_mT[177]? = some (yX12_next, cX12_next, 2, none, 12, 0, 12) := rfl
set_option maxRecDepth 100000 in
theorem mq178 : mw_mT[178]? = some (yX12_fails, cX12_fails, 2, none, 12, 1, 12) := rfl
set_option maxRecDepth 100000 in
theorem mq179 : mw_mT[179]? = some (yX12_is, cX12_is, 2, (some .boolean), 12, 1, 12) := rfl
set_option maxRecDepth 100000 in
theorem mq180 : mw_mT[180]? = some (yX12_eats, cX12_eats, 2, (some .boolean), 12, 1, 12) := rfl
set_option maxRecDepth 100000 in
theorem mq181 : mw_mT[181]? = some (yX12_takes, cX12_takes, 4, (some .int), 12, 2, 12) := rfl
set_option maxRecDepth 100000 in
theorem mq182 : mw_mT[182]? = some (yX12_isIn, cX12_isIn, 3, (some .boolean), 12, 2, 0) := rfl
set_option maxRecDepth 100000 in
theorem mq183 : mw_mT[183]? = some (yX12_readPerson, cX12_readPerson, 4, none, 12, 0, 12) := rfl
set_option maxRecDepth 100000 in
theorem mq184 : mw_mT[184]? = some (yX12_readThing, cX12_readThing, 3, none, 12, 0, 12) := rfl
set_option maxRecDepth 100000 in
theorem mq185 : mw_mT[185]? = some (yX12_codes, cX12_codes, 2, none, 12, 1, 12) := rfl
set_option maxRecDepth 100000 in
theorem mq186 : mw_mT[186]? = some (yX12_goesIn, cX12_goesIn, 2, (some .boolean), 12, 1, 12) := rfl
set_option maxRecDepth 100000 in
theorem mq187 : mw_mT[187]? = some (yX12_readAtom, cX12_readAtom, 2, none, 12, 1, 12) := rfl
set_option maxRecDepth 100000 in
theorem mq188 : mw_mT[188]? = some (yX12_readTerm, cX12_readTerm, 2, none, 12, 1, 12) := rfl
set_option maxRecDepth 100000 in
theorem mq189 : mw_mT[189]? = some (yX12_readSum, cX12_readSum, 3, none, 12, 1, 12) := rfl
set_option maxRecDepth 100000 in
theorem mq190 : mw_mT[190]? = some (yX12_readUnit, cX12_readUnit, 3, none, 12, 1, 12) := rfl
set_option maxRecDepth 100000 in
theorem mq191 : mw_mT[191]? = some (yX12_readBoth, cX12_readBoth, 2, none, 12, 1, 12) := rfl
set_option maxRecDepth 100000 in
theorem mq192 : mw_mT[192]? = some (yX12_readTruth, cX12_readTruth, 2, none, 12, 1, 12) := rfl
set_option maxRecDepth 100000 in
theorem mq193 : mw_mT[193]? = some (yX12_readRule, cX12_readRule, 4, none, 12, 0, 12) := rfl
set_option maxRecDepth 100000 in
theorem mq194 : mw_mT[194]? = some (yX12_arcade, cX12_arcade, 3, (some .int), 12, 1, 12) := rfl
set_option maxRecDepth 100000 in
theorem mq195 : mw_mT[195]? = some (yX12_fault, cX12_fault, 2, (some .int), 12, 1, 12) := rfl
set_option maxRecDepth 100000 in
theorem mq196 : mw_mT[196]? = some (yX12_isPerson, cX12_isPerson, 2, (some .boolean), 12, 1, 12) := rfl
set_option maxRecDepth 100000 in
theorem mq197 : mw_mT[197]? = some (yX12_cellOf, cX12_cellOf, 2, (some .int), 12, 1, 12) := rfl
set_option maxRecDepth 100000 in
theorem mq198 : mw_mT[198]? = some (yX12_handOf, cX12_handOf, 2, (some .int), 12, 2, 0) := rfl
set_option maxRecDepth 100000 in
theorem mq199 : mw_mT[199]? = some (yX12_thingAt, cX12_thingAt, 3, (some .int), 12, 1, 12) := rfl
set_option maxRecDepth 100000 in
theorem mq200 : mw_mT[200]? = some (yX12_lyingAt, cX12_lyingAt, 2, (some .int), 12, 1, 12) := rfl
set_option maxRecDepth 100000 in
theorem mq201 : mw_mT[201]? = some (yX12_person, cX12_person, 3, (some .int), 12, 2, 12) := rfl
set_option maxRecDepth 100000 in
theorem mq202 : mw_mT[202]? = some (yX12_copy, cX12_copy, 3, (some .int), 12, 2, 12) := rfl
set_option maxRecDepth 100000 in
theorem mq203 : mw_mT[203]? = some (yX12_thing, cX12_thing, 2, (some .int), 12, 1, 12) := rfl
set_option maxRecDepth 100000 in
theorem mq204 : mw_mT[204]? = some (yX12_canDo, cX12_canDo, 3, (some .boolean), 12, 2, 12) := rfl
set_option maxRecDepth 100000 in
theorem mq205 : mw_mT[205]? = some (yX12_does, cX12_does, 3, (some .boolean), 12, 2, 12) := rfl
set_option maxRecDepth 100000 in
theorem mq206 : mw_mT[206]? = some (yX12_can, cX12_can, 3, (some .int), 12, 2, 12) := rfl
set_option maxRecDepth 100000 in
theorem mq207 : mw_mT[207]? = some (yX12_between, cX12_between, 5, (some .int), 12, 3, 0) := rfl
set_option maxRecDepth 100000 in
theorem mq208 : mw_mT[208]? = some (yX12_wordOf, cX12_wordOf, 4, (some .int), 12, 3, 12) := rfl
set_option maxRecDepth 100000 in
theorem mq209 : mw_mT[209]? = some (yX12_holds, cX12_holds, 7, (some .boolean), 12, 3, 12) := rfl
set_option maxRecDepth 100000 in
theorem mq210 : mw_mT[210]? = some (yX12_turned, cX12_turned, 1, (some .int), 12, 1, 0) := rfl
set_option maxRecDepth 100000 in
theorem mq211 : mw_mT[211]? = some (yX12_copyDoes, cX12_copyDoes, 4, (some .int), 12, 2, 12) := rfl
set_option maxRecDepth 100000 in
theorem mq212 : mw_mT[212]? = some (yX12_passes, cX12_passes, 7, none, 12, 0, 12) := rfl
set_option maxRecDepth 100000 in
theorem mq213 : mw_mT[213]? = some (yX12_steps, cX12_steps, 6, none, 12, 1, 12) := rfl
set_option maxRecDepth 100000 in
theorem mq214 : mw_mT[214]? = some (yX12_keeps, cX12_keeps, 2, none, 12, 0, 12) := rfl
set_option maxRecDepth 100000 in
theorem mq215 : mw_mT[215]? = some (yX12_isAgain, cX12_isAgain, 2, none, 12, 0, 12) := rfl
set_option maxRecDepth 100000 in
theorem mq216 : mw_mT[216]? = some (yX12_notes, cX12_notes, 2, none, 12, 0, 12) := rfl
set_option maxRecDepth 100000 in
theorem mq217 : mw_mT[217]? = some (yX12_doings, cX12_doings, 3, (some .int), 12, 0, 12) := rfl
set_option maxRecDepth 100000 in
theorem mq218 : mw_mT[218]? = some (yX12_nines, cX12_nines, 4, (some .int), 12, 1, 12) := rfl
set_option maxRecDepth 100000 in
theorem mq219 : mw_mT[219]? = some (yX12_isDoings, cX12_isDoings, 3, (some .boolean), 12, 1, 12) := rfl
set_option maxRecDepth 100000 in
theorem mq220 : mw_mT[220]? = some (yX12_would, cX12_would, 4, (some .int), 12, 2, 12) := rfl
set_option maxRecDepth 100000 in
theorem mq221 : mw_mT[221]? = some (yX12_step, cX12_step, 2, (some .int), 12, 1, 12) := rfl
set_option maxRecDepth 100000 in
theorem mq222 : mw_mT[222]? = some (yX12_undo, cX12_undo, 3, (some .int), 12, 1, 12) := rfl
set_option maxRecDepth 100000 in
theorem mq223 : mw_mT[223]? = some (yX12_hours, cX12_hours, 6, (some .int), 12, 1, 12) := rfl
set_option maxRecDepth 100000 in
theorem mq224 : mw_mT[224]? = some (yX12_noTray, cX12_noTray, 2, (some .int), 12, 1, 12) := rfl
set_option maxRecDepth 100000 in
theorem mq225 : mw_mT[225]? = some (yX12_judge, cX12_judge, 5, (some .int), 12, 2, 12) := rfl
set_option maxRecDepth 100000 in
theorem mq226 : mw_mT[226]? = some (yX12_perform, cX12_perform, 4, (some .int), 12, 1, 12) := rfl
set_option maxRecDepth 100000 in
theorem mq227 : mw_mT[227]? = some (yX12_draw, cX12_draw, 2, (some .int), 12, 1, 12) := rfl
set_option maxRecDepth 100000 in
theorem mq228 : mw_mT[228]? = some (yX12_day, cX12_day, 7, (some .int), 12, 2, 12) := rfl
set_option maxRecDepth 100000 in
theorem mq229 : mw_mT[229]? = some (yX12_fails_, cX12_fails_, 4, (some .int), 12, 2, 12) := rfl
set_option maxRecDepth 100000 in
theorem mq230 : mw_mT[230]? = some (yX12_round, cX12_round, 9, (some .int), 12, 2, 12) := rfl
set_option maxRecDepth 100000 in
theorem mq231 : mw_mT[231]? = some (yX12_forgets, cX12_forgets, 2, none, 12, 0, 12) := rfl
set_option maxRecDepth 100000 in
theorem mq232 : mw_mT[232]? = some (yX12_loads, cX12_loads, 4, none, 12, 2, 12) := rfl
set_option maxRecDepth 100000 in
theorem mq233 : mw_mT[233]? = some (yX12_isThis, cX12_isThis, 3, (some .boolean), 12, 1, 12) := rfl
set_option maxRecDepth 100000 in
theorem mq234 : mw_mT[234]? = some (yX12_meets, cX12_meets, 6, (some .boolean), 12, 2, 12) := rfl
set_option maxRecDepth 100000 in
theorem mq235 : mw_mT[235]? = some (yX12_isThere, cX12_isThere, 3, (some .boolean), 12, 2, 12) := rfl
set_option maxRecDepth 100000 in
theorem mq236 : mw_mT[236]? = some (yX12_seeks, cX12_seeks, 11, (some .int), 12, 3, 12) := rfl
set_option maxRecDepth 100000 in
theorem mq237 : mw_mT[237]? = some (yX12_isPlace, cX12_isPlace, 2, (some .boolean), 12, 1, 12) := rfl
set_option maxRecDepth 100000 in
theorem mq238 : mw_mT[238]? = some (yX12_soonest, cX12_soonest, 6, (some .int), 12, 4, 12) := rfl
set_option maxRecDepth 100000 in
theorem mq239 : mw_mT[239]? = some (yX12_laysLevel, cX12_laysLevel, 6, none, 12, 2, 12) := rfl
set_option maxRecDepth 100000 in
theorem mq240 : mw_mT[240]? = some (yX12_states, cX12_states, 3, (some .int), 12, 2, 12) := rfl
set_option maxRecDepth 100000 in
theorem mq241 : mw_mT[241]? = some (yX12_reach, cX12_reach, 5, (some .int), 12, 2, 12) := rfl
set_option maxRecDepth 100000 in
theorem mq242 : mw_mT[242]? = some (yX12_noSeen, cX12_noSeen, 4, (some .int), 12, 1, 12) := rfl
set_option maxRecDepth 100000 in
theorem mq243 : mw_mT[243]? = some (yX12_seenTold, cX12_seenTold, 3, (some .int), 12, 2, 12) := rfl
set_option maxRecDepth 100000 in
theorem mq244 : mw_mT[244]? = some (yX12_byLaw, cX12_byLaw, 3, (some .int), 12, 2, 0) := rfl
set_option maxRecDepth 100000 in
theorem mq245 : mw_mT[245]? = some (yX12_isFit, cX12_isFit, 4, (some .boolean), 12, 2, 12) := rfl
set_option maxRecDepth 100000 in
theorem mq246 : mw_mT[246]? = some (yX12_laysFits, cX12_laysFits, 4, none, 12, 1, 12) := rfl
set_option maxRecDepth 100000 in
theorem mq247 : mw_mT[247]? = some (yX12_fits, cX12_fits, 3, (some .int), 12, 1, 12) := rfl
set_option maxRecDepth 100000 in
theorem mq248 : mw_mT[248]? = some (yX12_bitsOf, cX12_bitsOf, 3, (some .int), 12, 1, 0) := rfl
set_option maxRecDepth 100000 in
theorem mq249 : mw_mT[249]? = some (yX12_smallest, cX12_smallest, 6, (some .int), 12, 2, 12) := rfl
set_option maxRecDepth 100000 in
theorem mq250 : mw_mT[250]? = some (yX12_sure, cX12_sure, 5, (some .int), 12, 1, 12) := rfl
set_option maxRecDepth 100000 in
theorem mq251 : mw_mT[251]? = some (yX12_leftBy, cX12_leftBy, 9, (some .int), 12, 2, 12) := rfl
set_option maxRecDepth 100000 in
theorem mq252 : mw_mT[252]? = some (yX12_telling, cX12_telling, 8, (some .int), 12, 2, 12) := rfl
set_option maxRecDepth 100000 in
theorem mq253 : mw_mT[253]? = some (yX12_goesMeant, cX12_goesMeant, 8, none, 12, 4, 12) := rfl
set_option maxRecDepth 100000 in
theorem mq254 : mw_mT[254]? = some (yX12_laysMeant, cX12_laysMeant, 7, (some .int), 12, 4, 12) := rfl
set_option maxRecDepth 100000 in
theorem mq255 : mw_mT[255]? = some (yX12_meant, cX12_meant, 5, (some .int), 12, 3, 12) := rfl
set_option maxRecDepth 100000 in
theorem mq256 : mw_mT[256]? = some (yX12_maybe, cX12_maybe, 5, (some .int), 12, 3, 12) := rfl
set_option maxRecDepth 100000 in
theorem mq257 : mw_mT[257]? = some (yX12_odds, cX12_odds, 11, (some .long), 12, 3, 12) := rfl
set_option maxRecDepth 100000 in
theorem mq258 : mw_mT[258]? = some (yX12_canWin, cX12_canWin, 8, (some .boolean), 12, 4, 12) := rfl
set_option maxRecDepth 100000 in
theorem mq259 : mw_mT[259]? = some (yX12_winsBy, cX12_winsBy, 7, (some .boolean), 12, 5, 12) := rfl
set_option maxRecDepth 100000 in
theorem mq260 : mw_mT[260]? = some (yX12_winOf, cX12_winOf, 5, (some .int), 12, 3, 12) := rfl
set_option maxRecDepth 100000 in
theorem mq261 : mw_mT[261]? = some (yX12_isGame, cX12_isGame, 2, (some .boolean), 12, 2, 0) := rfl
set_option maxRecDepth 100000 in
theorem mq262 : mw_mT[262]? = some (yX12_win, cX12_win, 4, (some .int), 12, 3, 12) := rfl
set_option maxRecDepth 100000 in
theorem mq263 : mw_mT[263]? = some (yX12_wins, cX12_wins, 5, (some .int), 12, 2, 12) := rfl
set_option maxRecDepth 100000 in
theorem mq264 : mw_mT[264]? = some (yX12_owed, cX12_owed, 3, (some .int), 12, 2, 12) := rfl
set_option maxRecDepth 100000 in
theorem mq265 : mw_mT[265]? = some (yX12_lends, cX12_lends, 4, (some .int), 12, 3, 12) := rfl
set_option maxRecDepth 100000 in
theorem mq266 : mw_mT[266]? = some (yX12_owes, cX12_owes, 4, (some .int), 12, 3, 12) := rfl
set_option maxRecDepth 100000 in
theorem mq267 : mw_mT[267]? = some (yX12_balanceOf, cX12_balanceOf, 4, (some .int), 12, 1, 12) := rfl
set_option maxRecDepth 100000 in
theorem mq268 : mw_mT[268]? = some (yX12_balance, cX12_balance, 3, (some .int), 12, 2, 12) := rfl
set_option maxRecDepth 100000 in
theorem mq269 : mw_mT[269]? = some (yX12_clears, cX12_clears, 5, (some .int), 12, 3, 12) := rfl
set_option maxRecDepth 100000 in
theorem mq270 : mw_mT[270]? = some (yX12_clear, cX12_clear, 4, (some .int), 12, 0, 12) := rfl
set_option maxRecDepth 100000 in
theorem mq271 : mw_mT[271]? = some (yX12_payments, cX12_payments, 3, (some .int), 12, 0, 12) := rfl
set_option maxRecDepth 100000 in
theorem mq272 : mw_mT[272]? = some (yX12_cut, cX12_cut, 3, (some .long), 12, 2, 0) := rfl
set_option maxRecDepth 100000 in
theorem mq273 : mw_mT[273]? = some (yX12_numbers, cX12_numbers, 5, (some .int), 12, 3, 12) := rfl
set_option maxRecDepth 100000 in
theorem mq274 : mw_mT[274]? = some (yX12_write, cX12_write, 6, (some .long), 12, 3, 12) := rfl
set_option maxRecDepth 100000 in
theorem mq275 : mw_mT[275]? = some (yX12_lists, cX12_lists, 5, (some .int), 12, 1, 12) := rfl
set_option maxRecDepth 100000 in
theorem mq276 : mw_mT[276]? = some (yX12_image, cX12_image, 3, (some .int), 12, 1, 12) := rfl
set_option maxRecDepth 100000 in
theorem mq277 : mw_mT[277]? = some (yX12_restore, cX12_restore, 3, (some .int), 12, 1, 12) := rfl
set_option maxRecDepth 100000 in
theorem mq278 : mw_mT[278]? = some (yX12_count, cX12_count, 2, (some .int), 12, 1, 12) := rfl
set_option maxRecDepth 100000 in
theorem mq279 : mw_mT[279]? = some (yJ6_bitCount_0f7a4, cJ6_bitCount_0f7a4, 1, (some .int), 14, 1, 0) := rfl
set_option maxRecDepth 100000 in
theorem mq280 : mw_mT[280]? = some (yJ13_bitCount_95d88, cJ13_bitCount_95d88, 2, (some .int), 15, 1, 0) := rfl
set_option maxRecDepth 100000 in
theorem mq281 : mw_mT[281]? = some (yJ9_floorMod_7cf53, cJ9_floorMod_7cf53, 3, (some .int), 16, 2, 0) := rfl
set_option maxRecDepth 100000 in
theorem mq282 : mw_mT[282]? = some (yJ9_max_7cf53, cJ9_max_7cf53, 2, (some .int), 16, 2, 0) := rfl
set_option maxRecDepth 100000 in
theorem mq283 : mw_mT[283]? = some (yJ9_min_7cf53, cJ9_min_7cf53, 2, (some .int), 16, 2, 0) := rfl
set_option maxRecDepth 100000 in
theorem mq284 : mw_mT[284]? = some (yJ0_length_8abf5, cJ0_length_8abf5, 1, (some .int), 17, 0, 50) := rfl
set_option maxRecDepth 100000 in
theorem mq285 : mw_mT[285]? = some (yJ0_charAt_5068e, cJ0_charAt_5068e, 2, (some .char), 17, 1, 50) := rfl
set_option maxRecDepth 100000 in
theorem mq286 : mw_mT[286]? = some (yJ0_indexOf_0f7a4, cJ0_indexOf_0f7a4, 2, (some .int), 17, 1, 50) := rfl
set_option maxRecDepth 100000 in
theorem mq287 : mw_mT[287]? = some (yJ0_indexOf_7cf53, cJ0_indexOf_7cf53, 3, (some .int), 17, 2, 50) := rfl
set_option maxRecDepth 100000 in
theorem mq288 : mw_mT[288]? = some (yJ0_coder_7d493, cJ0_coder_7d493, 1, (some .byte), 17, 0, 50) := rfl
set_option maxRecDepth 100000 in
theorem mq289 : mw_mT[289]? = some (yJ0_isLatin1_aae02, cJ0_isLatin1_aae02, 1, (some .boolean), 17, 0, 50) := rfl
set_option maxRecDepth 100000 in
theorem mq290 : mw_mT[290]? = some (yJ0_checkIndex_df160, cJ0_checkIndex_df160, 2, none, 17, 2, 0) := rfl
set_option maxRecDepth 100000 in
theorem mq291 : mw_mT[291]? = some (yJ1_charAt_3b067, cJ1_charAt_3b067, 2, (some .char), 18, 2, 0) := rfl
set_option maxRecDepth 100000 in
theorem mq292 : mw_mT[292]? = some (yJ1_canEncode_9a6ad, cJ1_canEncode_9a6ad, 1, (some .boolean), 18, 1, 0) := rfl
set_option maxRecDepth 100000 in
theorem mq293 : mw_mT[293]? = some (yJ1_indexOf_4cfef, cJ1_indexOf_4cfef, 4, (some .int), 18, 4, 0) := rfl
set_option maxRecDepth 100000 in
theorem mq294 : mw_mT[294]? = some (yJ1_indexOfChar_4cfef, cJ1_indexOfChar_4cfef, 6, (some .int), 18, 4, 0) := rfl
set_option maxRecDepth 100000 in
theorem mq295 : mw_mT[295]? = some (yJ3_checkIndex_8e157, cJ3_checkIndex_8e157, 3, (some .int), 21, 3, 0) := rfl
theorem rc0 : mw_rc 0 = 11 := rfl
theorem rc1 : mw_rc 1 = 7 := rfl
theorem lw2 : mw_lenW 0 2 = 900 := rfl
theorem li2 : mw_lenI 2 = 900 := rfl
theorem rc3 : mw_rc 3 = 1 := rfl
theorem lw4 : mw_lenW 0 4 = 3 := rfl
theorem li4 : mw_lenI 4 = 3 := rfl
theorem lw5 : mw_lenW 0 5 = 3 := rfl
theorem li5 : mw_lenI 5 = 3 := rfl
theorem lw6 : mw_lenW 0 6 = 4 := rfl
theorem li6 : mw_lenI 6 = 4 := rfl
theorem lw7 : mw_lenW 0 7 = 8 := rfl
theorem li7 : mw_lenI 7 = 8 := rfl
theorem lw8 : mw_lenW 0 8 = 8 := rfl
theorem li8 : mw_lenI 8 = 8 := rfl
theorem lw9 : mw_lenW 0 9 = 8 := rfl
theorem li9 : mw_lenI 9 = 8 := rfl
theorem lw10 : mw_lenW 0 10 = 8 := rfl
theorem li10 : mw_lenI 10 = 8 := rfl
theorem lw11 : mw_lenW 0 11 = 900 := rfl
theorem li11 : mw_lenI 11 = 900 := rfl
theorem lw12 : mw_lenW 0 12 = 64 := rfl
theorem li12 : mw_lenI 12 = 64 := rfl
theorem rc13 : mw_rc 13 = 1 := rfl
theorem lw14 : mw_lenW 0 14 = 3 := rfl
theorem li14 : mw_lenI 14 = 3 := rfl
theorem lw15 : mw_lenW 0 15 = 3 := rfl
theorem li15 : mw_lenI 15 = 3 := rfl
theorem lw16 : mw_lenW 0 16 = 4 := rfl
theorem li16 : mw_lenI 16 = 4 := rfl
theorem lw17 : mw_lenW 0 17 = 8 := rfl
theorem li17 : mw_lenI 17 = 8 := rfl
theorem lw18 : mw_lenW 0 18 = 8 := rfl
theorem li18 : mw_lenI 18 = 8 := rfl
theorem lw19 : mw_lenW 0 19 = 8 := rfl
theorem li19 : mw_lenI 19 = 8 := rfl
theorem lw20 : mw_lenW 0 20 = 8 := rfl
theorem li20 : mw_lenI 20 = 8 := rfl
theorem lw21 : mw_lenW 0 21 = 900 := rfl
theorem li21 : mw_lenI 21 = 900 := rfl
theorem rc22 : mw_rc 22 = 9 := rfl
theorem lw23 : mw_lenW 0 23 = 64 := rfl
theorem li23 : mw_lenI 23 = 64 := rfl
theorem lw24 : mw_lenW 0 24 = 6 := rfl
theorem li24 : mw_lenI 24 = 6 := rfl
theorem rc25 : mw_rc 25 = 6 := rfl
theorem rw26 : mw_rows 26 = [27, 28, 29, 30, 31, 32, 33, 34, 35, 36] := rfl
theorem lw27 : mw_lenW 0 27 = 35 := rfl
theorem li27 : mw_lenI 27 = 35 := rfl
theorem lw28 : mw_lenW 0 28 = 35 := rfl
theorem li28 : mw_lenI 28 = 35 := rfl
theorem lw29 : mw_lenW 0 29 = 35 := rfl
theorem li29 : mw_lenI 29 = 35 := rfl
theorem lw30 : mw_lenW 0 30 = 35 := rfl
theorem li30 : mw_lenI 30 = 35 := rfl
theorem lw31 : mw_lenW 0 31 = 35 := rfl
theorem li31 : mw_lenI 31 = 35 := rfl
theorem lw32 : mw_lenW 0 32 = 35 := rfl
theorem li32 : mw_lenI 32 = 35 := rfl
theorem lw33 : mw_lenW 0 33 = 35 := rfl
theorem li33 : mw_lenI 33 = 35 := rfl
theorem lw34 : mw_lenW 0 34 = 35 := rfl
theorem li34 : mw_lenI 34 = 35 := rfl
theorem lw35 : mw_lenW 0 35 = 35 := rfl
theorem li35 : mw_lenI 35 = 35 := rfl
theorem lw36 : mw_lenW 0 36 = 35 := rfl
theorem li36 : mw_lenI 36 = 35 := rfl
theorem rc37 : mw_rc 37 = 10 := rfl
theorem lw38 : mw_lenW 0 38 = 4 := rfl
theorem li38 : mw_lenI 38 = 4 := rfl
theorem lw39 : mw_lenW 0 39 = 4 := rfl
theorem li39 : mw_lenI 39 = 4 := rfl
theorem rw40 : mw_rows 40 = [41, 42, 43, 44] := rfl
theorem lw41 : mw_lenW 2 41 = 40 := rfl
theorem lw42 : mw_lenW 2 42 = 40 := rfl
theorem lw43 : mw_lenW 2 43 = 40 := rfl
theorem lw44 : mw_lenW 2 44 = 40 := rfl
theorem rc45 : mw_rc 45 = 8 := rfl
theorem rw46 : mw_rows 46 = [47, 48, 49, 50, 51] := rfl
theorem lw47 : mw_lenW 0 47 = 35 := rfl
theorem li47 : mw_lenI 47 = 35 := rfl
theorem lw48 : mw_lenW 0 48 = 35 := rfl
theorem li48 : mw_lenI 48 = 35 := rfl
theorem lw49 : mw_lenW 0 49 = 35 := rfl
theorem li49 : mw_lenI 49 = 35 := rfl
theorem lw50 : mw_lenW 0 50 = 35 := rfl
theorem li50 : mw_lenI 50 = 35 := rfl
theorem lw51 : mw_lenW 0 51 = 35 := rfl
theorem li51 : mw_lenI 51 = 35 := rfl
theorem lw52 : mw_lenW 0 52 = 4 := rfl
theorem li52 : mw_lenI 52 = 4 := rfl
theorem lw53 : mw_lenW 2 53 = 201 := rfl
theorem lw54 : mw_lenW 2 54 = 201 := rfl
theorem rc55 : mw_rc 55 = 3 := rfl
theorem rw56 : mw_rows 56 = [57, 58, 59, 60, 61] := rfl
theorem lw57 : mw_lenW 0 57 = 35 := rfl
theorem li57 : mw_lenI 57 = 35 := rfl
theorem lw58 : mw_lenW 0 58 = 35 := rfl
theorem li58 : mw_lenI 58 = 35 := rfl
theorem lw59 : mw_lenW 0 59 = 35 := rfl
theorem li59 : mw_lenI 59 = 35 := rfl
theorem lw60 : mw_lenW 0 60 = 35 := rfl
theorem li60 : mw_lenI 60 = 35 := rfl
theorem lw61 : mw_lenW 0 61 = 35 := rfl
theorem li61 : mw_lenI 61 = 35 := rfl
theorem lw62 : mw_lenW 0 62 = 5 := rfl
theorem li62 : mw_lenI 62 = 5 := rfl
theorem lw63 : mw_lenW 2 63 = 9 := rfl
theorem lw64 : mw_lenW 2 64 = 9 := rfl
theorem rc65 : mw_rc 65 = 5 := rfl
theorem lw66 : mw_lenW 0 66 = 5 := rfl
theorem li66 : mw_lenI 66 = 5 := rfl
theorem lw67 : mw_lenW 0 67 = 5 := rfl
theorem li67 : mw_lenI 67 = 5 := rfl
theorem lw68 : mw_lenW 1 68 = 5 := rfl
theorem lb68 : mw_lenB 68 = 5 := rfl
theorem lw69 : mw_lenW 0 69 = 35 := rfl
theorem li69 : mw_lenI 69 = 35 := rfl
theorem lw70 : mw_lenW 0 70 = 30 := rfl
theorem li70 : mw_lenI 70 = 30 := rfl
theorem lw71 : mw_lenW 0 71 = 5 := rfl
theorem li71 : mw_lenI 71 = 5 := rfl
theorem lw72 : mw_lenW 0 72 = 160 := rfl
theorem li72 : mw_lenI 72 = 160 := rfl
theorem lw73 : mw_lenW 0 73 = 160 := rfl
theorem li73 : mw_lenI 73 = 160 := rfl
theorem rc74 : mw_rc 74 = 2 := rfl
theorem lw75 : mw_lenW 2 75 = 125 := rfl
theorem rc76 : mw_rc 76 = 4 := rfl
theorem rc77 : mw_rc 77 = 1 := rfl
theorem lw78 : mw_lenW 0 78 = 3 := rfl
theorem li78 : mw_lenI 78 = 3 := rfl
theorem lw79 : mw_lenW 0 79 = 3 := rfl
theorem li79 : mw_lenI 79 = 3 := rfl
theorem lw80 : mw_lenW 0 80 = 4 := rfl
theorem li80 : mw_lenI 80 = 4 := rfl
theorem lw81 : mw_lenW 0 81 = 8 := rfl
theorem li81 : mw_lenI 81 = 8 := rfl
theorem lw82 : mw_lenW 0 82 = 8 := rfl
theorem li82 : mw_lenI 82 = 8 := rfl
theorem lw83 : mw_lenW 0 83 = 8 := rfl
theorem li83 : mw_lenI 83 = 8 := rfl
theorem lw84 : mw_lenW 0 84 = 8 := rfl
theorem li84 : mw_lenI 84 = 8 := rfl
theorem lw85 : mw_lenW 0 85 = 900 := rfl
theorem li85 : mw_lenI 85 = 900 := rfl
theorem lw86 : mw_lenW 0 86 = 35 := rfl
theorem li86 : mw_lenI 86 = 35 := rfl
theorem rc87 : mw_rc 87 = 4 := rfl
theorem rc88 : mw_rc 88 = 1 := rfl
theorem lw89 : mw_lenW 0 89 = 3 := rfl
theorem li89 : mw_lenI 89 = 3 := rfl
theorem lw90 : mw_lenW 0 90 = 3 := rfl
theorem li90 : mw_lenI 90 = 3 := rfl
theorem lw91 : mw_lenW 0 91 = 4 := rfl
theorem li91 : mw_lenI 91 = 4 := rfl
theorem lw92 : mw_lenW 0 92 = 8 := rfl
theorem li92 : mw_lenI 92 = 8 := rfl
theorem lw93 : mw_lenW 0 93 = 8 := rfl
theorem li93 : mw_lenI 93 = 8 := rfl
theorem lw94 : mw_lenW 0 94 = 8 := rfl
theorem li94 : mw_lenI 94 = 8 := rfl
theorem lw95 : mw_lenW 0 95 = 8 := rfl
theorem li95 : mw_lenI 95 = 8 := rfl
theorem lw96 : mw_lenW 0 96 = 900 := rfl
theorem li96 : mw_lenI 96 = 900 := rfl
theorem lw97 : mw_lenW 0 97 = 35 := rfl
theorem li97 : mw_lenI 97 = 35 := rfl
theorem lw98 : mw_lenW 0 98 = 35 := rfl
theorem li98 : mw_lenI 98 = 35 := rfl
theorem lw99 : mw_lenW 0 99 = 35 := rfl
theorem li99 : mw_lenI 99 = 35 := rfl
theorem rc100 : mw_rc 100 = 12 := rfl
theorem lw101 : mw_lenW 0 101 = 4380 := rfl
theorem li101 : mw_lenI 101 = 4380 := rfl
theorem lw102 : mw_lenW 1 102 = 2 := rfl
theorem lb102 : mw_lenB 102 = 2 := rfl
theorem lw103 : mw_lenW 0 103 = 900 := rfl
theorem li103 : mw_lenI 103 = 900 := rfl
theorem lw104 : mw_lenW 0 104 = 1460 := rfl
theorem li104 : mw_lenI 104 = 1460 := rfl
theorem lw105 : mw_lenW 0 105 = 900 := rfl
theorem li105 : mw_lenI 105 = 900 := rfl
theorem lw106 : mw_lenW 0 106 = 3 := rfl
theorem li106 : mw_lenI 106 = 3 := rfl
theorem lw107 : mw_lenW 0 107 = 47 := rfl
theorem li107 : mw_lenI 107 = 47 := rfl
theorem lw108 : mw_lenW 0 108 = 6834 := rfl
theorem li108 : mw_lenI 108 = 6834 := rfl
theorem lw109 : mw_lenW 0 109 = 164500 := rfl
theorem li109 : mw_lenI 109 = 164500 := rfl
theorem lw110 : mw_lenW 0 110 = 164500 := rfl
theorem li110 : mw_lenI 110 = 164500 := rfl
theorem lw111 : mw_lenW 0 111 = 6580 := rfl
theorem li111 : mw_lenI 111 = 6580 := rfl
theorem lw112 : mw_lenW 0 112 = 6580 := rfl
theorem li112 : mw_lenI 112 = 6580 := rfl
theorem lw113 : mw_lenW 0 113 = 16384 := rfl
theorem li113 : mw_lenI 113 = 16384 := rfl
theorem lw114 : mw_lenW 0 114 = 8 := rfl
theorem li114 : mw_lenI 114 = 8 := rfl
theorem lw115 : mw_lenW 0 115 = 1280 := rfl
theorem li115 : mw_lenI 115 = 1280 := rfl
theorem lw116 : mw_lenW 0 116 = 59049 := rfl
theorem li116 : mw_lenI 116 = 59049 := rfl
theorem lw117 : mw_lenW 0 117 = 282 := rfl
theorem li117 : mw_lenI 117 = 282 := rfl
theorem lw118 : mw_lenW 0 118 = 5 := rfl
theorem li118 : mw_lenI 118 = 5 := rfl
theorem lw119 : mw_lenW 2 119 = 9 := rfl
theorem lw120 : mw_lenW 2 120 = 9 := rfl
theorem lw121 : mw_lenW 0 121 = 7625 := rfl
theorem li121 : mw_lenI 121 = 7625 := rfl
theorem lw122 : mw_lenW 0 122 = 4 := rfl
theorem li122 : mw_lenI 122 = 4 := rfl
theorem lw123 : mw_lenW 0 123 = 4 := rfl
theorem li123 : mw_lenI 123 = 4 := rfl
theorem lw124 : mw_lenW 2 124 = 160 := rfl
theorem li3000 : mw_lenI 3000 = 6 := rfl
theorem rdI_n {σ : mw_S} {a j : Nat} (h : a ≠ 3000) : mw_rdI σ a j = σ a j := if_neg h
theorem rdI_3000 {σ : mw_S} {j : Nat} : mw_rdI σ 3000 j = mw_nines.getD j 0 := rfl
theorem nlo_n : mw_nlo none = true := rfl
theorem nlo_I {x : Int} : mw_nlo (some (jI x)) = true := rfl
theorem nlo_R {x : Nat} : mw_nlo (some (jR x)) = true := rfl
theorem cat_I {x : Int} : mw_cat (jI x) = 1 := rfl
theorem cat_R {x : Nat} : mw_cat (jR x) = 1 := rfl
theorem cat_L {x : Int} : mw_cat (jL x) = 2 := rfl
