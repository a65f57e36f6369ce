/-! ===== the lists are the methods' code ===== -/
set_option maxRecDepth 100000 in
theorem oX0_amountDue : okC 0 (cL9 0) (cF 0) (cO 0) (cR 0) (cC 0) (decide ((cY 0).name = "<init>")) true [11] kX0_amountDue = true := by decide +kernel
set_option maxRecDepth 100000 in
theorem oX0_closeAll : okC 0 (cL9 1) (cF 1) (cO 1) (cR 1) (cC 1) (decide ((cY 1).name = "<init>")) true [] kX0_closeAll = true := by decide +kernel
set_option maxRecDepth 100000 in
theorem oX0_copyFrom : okC 0 (cL9 2) (cF 2) (cO 2) (cR 2) (cC 2) (decide ((cY 2).name = "<init>")) true [80] kX0_copyFrom = true := by decide +kernel
set_option maxRecDepth 100000 in
theorem oX0_firstOpenChild : okC 0 (cL9 3) (cF 3) (cO 3) (cR 3) (cC 3) (decide ((cY 3).name = "<init>")) true [5] kX0_firstOpenChild = true := by decide +kernel
set_option maxRecDepth 100000 in
theorem oX0_init : okC 0 (cL9 4) (cF 4) (cO 4) (cR 4) (cC 4) (decide ((cY 4).name = "<init>")) true [] kX0_init = true := by decide +kernel
set_option maxRecDepth 100000 in
theorem oX0_isOpenChild : okC 0 (cL9 5) (cF 5) (cO 5) (cR 5) (cC 5) (decide ((cY 5).name = "<init>")) true [] kX0_isOpenChild = true := by decide +kernel
set_option maxRecDepth 100000 in
theorem oX0_letArrive : okC 0 (cL9 6) (cF 6) (cO 6) (cR 6) (cC 6) (decide ((cY 6).name = "<init>")) true [11] kX0_letArrive = true := by decide +kernel
set_option maxRecDepth 100000 in
theorem oX0_openAt : okC 0 (cL9 7) (cF 7) (cO 7) (cR 7) (cC 7) (decide ((cY 7).name = "<init>")) true [] kX0_openAt = true := by decide +kernel
set_option maxRecDepth 100000 in
theorem oX0_openParents : okC 0 (cL9 8) (cF 8) (cO 8) (cR 8) (cC 8) (decide ((cY 8).name = "<init>")) true [7] kX0_openParents = true := by decide +kernel
set_option maxRecDepth 100000 in
theorem oX0_openShares : okC 0 (cL9 9) (cF 9) (cO 9) (cR 9) (cC 9) (decide ((cY 9).name = "<init>")) true [5] kX0_openShares = true := by decide +kernel
set_option maxRecDepth 100000 in
theorem oX0_send : okC 0 (cL9 10) (cF 10) (cO 10) (cR 10) (cC 10) (decide ((cY 10).name = "<init>")) true [11] kX0_send = true := by decide +kernel
set_option maxRecDepth 100000 in
theorem oX0_slot : okC 0 (cL9 11) (cF 11) (cO 11) (cR 11) (cC 11) (decide ((cY 11).name = "<init>")) true [] kX0_slot = true := by decide +kernel
set_option maxRecDepth 100000 in
theorem oX0_waterInAll : okC 0 (cL9 12) (cF 12) (cO 12) (cR 12) (cC 12) (decide ((cY 12).name = "<init>")) true [] kX0_waterInAll = true := by decide +kernel
set_option maxRecDepth 100000 in
theorem oX1_copyFrom : okC 1 (cL9 13) (cF 13) (cO 13) (cR 13) (cC 13) (decide ((cY 13).name = "<init>")) true [80] kX1_copyFrom = true := by decide +kernel
set_option maxRecDepth 100000 in
theorem oX1_countForced : okC 1 (cL9 14) (cF 14) (cO 14) (cR 14) (cC 14) (decide ((cY 14).name = "<init>")) true [] kX1_countForced = true := by decide +kernel
set_option maxRecDepth 100000 in
theorem oX1_demandOf : okC 1 (cL9 15) (cF 15) (cO 15) (cR 15) (cC 15) (decide ((cY 15).name = "<init>")) true [] kX1_demandOf = true := by decide +kernel
set_option maxRecDepth 100000 in
theorem oX1_fairPart : okC 1 (cL9 16) (cF 16) (cO 16) (cR 16) (cC 16) (decide ((cY 16).name = "<init>")) true [15] kX1_fairPart = true := by decide +kernel
set_option maxRecDepth 100000 in
theorem oX1_hasOpenGate : okC 1 (cL9 17) (cF 17) (cO 17) (cR 17) (cC 17) (decide ((cY 17).name = "<init>")) true [] kX1_hasOpenGate = true := by decide +kernel
set_option maxRecDepth 100000 in
theorem oX1_init : okC 1 (cL9 18) (cF 18) (cO 18) (cR 18) (cC 18) (decide ((cY 18).name = "<init>")) true [] kX1_init = true := by decide +kernel
set_option maxRecDepth 100000 in
theorem oX1_markOpenCanals : okC 1 (cL9 19) (cF 19) (cO 19) (cR 19) (cC 19) (decide ((cY 19).name = "<init>")) true [1, 7, 8, 17] kX1_markOpenCanals = true := by decide +kernel
set_option maxRecDepth 100000 in
theorem oX1_meetsDemand : okC 1 (cL9 20) (cF 20) (cO 20) (cR 20) (cC 20) (decide ((cY 20).name = "<init>")) true [] kX1_meetsDemand = true := by decide +kernel
set_option maxRecDepth 100000 in
theorem oX1_overflow : okC 1 (cL9 21) (cF 21) (cO 21) (cR 21) (cC 21) (decide ((cY 21).name = "<init>")) true [] kX1_overflow = true := by decide +kernel
set_option maxRecDepth 100000 in
theorem oX1_seepAway : okC 1 (cL9 22) (cF 22) (cO 22) (cR 22) (cC 22) (decide ((cY 22).name = "<init>")) true [] kX1_seepAway = true := by decide +kernel
set_option maxRecDepth 100000 in
theorem oX1_takeFrom : okC 1 (cL9 23) (cF 23) (cO 23) (cR 23) (cC 23) (decide ((cY 23).name = "<init>")) true [17] kX1_takeFrom = true := by decide +kernel
set_option maxRecDepth 100000 in
theorem oX1_waterInAll : okC 1 (cL9 24) (cF 24) (cO 24) (cR 24) (cC 24) (decide ((cY 24).name = "<init>")) true [] kX1_waterInAll = true := by decide +kernel
set_option maxRecDepth 100000 in
theorem oX2_add : okC 2 (cL9 25) (cF 25) (cO 25) (cR 25) (cC 25) (decide ((cY 25).name = "<init>")) true [] kX2_add = true := by decide +kernel
set_option maxRecDepth 100000 in
theorem oX2_clear : okC 2 (cL9 26) (cF 26) (cO 26) (cR 26) (cC 26) (decide ((cY 26).name = "<init>")) true [] kX2_clear = true := by decide +kernel
set_option maxRecDepth 100000 in
theorem oX2_combine : okC 2 (cL9 27) (cF 27) (cO 27) (cR 27) (cC 27) (decide ((cY 27).name = "<init>")) true [] kX2_combine = true := by decide +kernel
set_option maxRecDepth 100000 in
theorem oX2_copyFrom : okC 2 (cL9 28) (cF 28) (cO 28) (cR 28) (cC 28) (decide ((cY 28).name = "<init>")) true [] kX2_copyFrom = true := by decide +kernel
set_option maxRecDepth 100000 in
theorem oX2_inflowIn : okC 2 (cL9 29) (cF 29) (cO 29) (cR 29) (cC 29) (decide ((cY 29).name = "<init>")) true [27, 31] kX2_inflowIn = true := by decide +kernel
set_option maxRecDepth 100000 in
theorem oX2_init : okC 2 (cL9 30) (cF 30) (cO 30) (cR 30) (cC 30) (decide ((cY 30).name = "<init>")) true [] kX2_init = true := by decide +kernel
set_option maxRecDepth 100000 in
theorem oX2_operand : okC 2 (cL9 31) (cF 31) (cO 31) (cR 31) (cC 31) (decide ((cY 31).name = "<init>")) true [] kX2_operand = true := by decide +kernel
set_option maxRecDepth 100000 in
theorem oX3_addStop : okC 3 (cL9 32) (cF 32) (cO 32) (cR 32) (cC 32) (decide ((cY 32).name = "<init>")) true [] kX3_addStop = true := by decide +kernel
set_option maxRecDepth 100000 in
theorem oX3_copyFrom : okC 3 (cL9 33) (cF 33) (cO 33) (cR 33) (cC 33) (decide ((cY 33).name = "<init>")) true [80] kX3_copyFrom = true := by decide +kernel
set_option maxRecDepth 100000 in
theorem oX3_init : okC 3 (cL9 34) (cF 34) (cO 34) (cR 34) (cC 34) (decide ((cY 34).name = "<init>")) true [] kX3_init = true := by decide +kernel
set_option maxRecDepth 100000 in
theorem oX3_place : okC 3 (cL9 35) (cF 35) (cO 35) (cR 35) (cC 35) (decide ((cY 35).name = "<init>")) true [] kX3_place = true := by decide +kernel
set_option maxRecDepth 100000 in
theorem oX3_walk : okC 3 (cL9 36) (cF 36) (cO 36) (cR 36) (cC 36) (decide ((cY 36).name = "<init>")) true [35] kX3_walk = true := by decide +kernel
set_option maxRecDepth 100000 in
theorem oX4_init : okC 4 (cL9 37) (cF 37) (cO 37) (cR 37) (cC 37) (decide ((cY 37).name = "<init>")) true [68] kX4_init = true := by decide +kernel
set_option maxRecDepth 100000 in
theorem oX4_restore : okC 4 (cL9 38) (cF 38) (cO 38) (cR 38) (cC 38) (decide ((cY 38).name = "<init>")) true [64] kX4_restore = true := by decide +kernel
set_option maxRecDepth 100000 in
theorem oX4_save : okC 4 (cL9 39) (cF 39) (cO 39) (cR 39) (cC 39) (decide ((cY 39).name = "<init>")) true [64] kX4_save = true := by decide +kernel
set_option maxRecDepth 100000 in
theorem oX5_copyFrom : okC 5 (cL9 40) (cF 40) (cO 40) (cR 40) (cC 40) (decide ((cY 40).name = "<init>")) true [80] kX5_copyFrom = true := by decide +kernel
set_option maxRecDepth 100000 in
theorem oX5_fine : okC 5 (cL9 41) (cF 41) (cO 41) (cR 41) (cC 41) (decide ((cY 41).name = "<init>")) true [] kX5_fine = true := by decide +kernel
set_option maxRecDepth 100000 in
theorem oX5_init : okC 5 (cL9 42) (cF 42) (cO 42) (cR 42) (cC 42) (decide ((cY 42).name = "<init>")) true [] kX5_init = true := by decide +kernel
set_option maxRecDepth 100000 in
theorem oX6_copyFrom : okC 6 (cL9 43) (cF 43) (cO 43) (cR 43) (cC 43) (decide ((cY 43).name = "<init>")) true [80] kX6_copyFrom = true := by decide +kernel
set_option maxRecDepth 100000 in
theorem oX6_exchange : okC 6 (cL9 44) (cF 44) (cO 44) (cR 44) (cC 44) (decide ((cY 44).name = "<init>")) true [] kX6_exchange = true := by decide +kernel
set_option maxRecDepth 100000 in
theorem oX6_init : okC 6 (cL9 45) (cF 45) (cO 45) (cR 45) (cC 45) (decide ((cY 45).name = "<init>")) true [] kX6_init = true := by decide +kernel
set_option maxRecDepth 100000 in
theorem oX6_villageIn : okC 6 (cL9 46) (cF 46) (cO 46) (cR 46) (cC 46) (decide ((cY 46).name = "<init>")) true [] kX6_villageIn = true := by decide +kernel
set_option maxRecDepth 100000 in
theorem oX7_addOperand : okC 7 (cL9 47) (cF 47) (cO 47) (cR 47) (cC 47) (decide ((cY 47).name = "<init>")) true [25, 74] kX7_addOperand = true := by decide +kernel
set_option maxRecDepth 100000 in
theorem oX7_fail : okC 7 (cL9 48) (cF 48) (cO 48) (cR 48) (cC 48) (decide ((cY 48).name = "<init>")) true [] kX7_fail = true := by decide +kernel
set_option maxRecDepth 100000 in
theorem oX7_init : okC 7 (cL9 49) (cF 49) (cO 49) (cR 49) (cC 49) (decide ((cY 49).name = "<init>")) true [68, 72] kX7_init = true := by decide +kernel
set_option maxRecDepth 100000 in
theorem oX7_readCanal : okC 7 (cL9 50) (cF 50) (cO 50) (cR 50) (cC 50) (decide ((cY 50).name = "<init>")) true [48, 54, 55, 56, 74] kX7_readCanal = true := by decide +kernel
set_option maxRecDepth 100000 in
theorem oX7_readFactor_1 : okC 7 (cL9 1051) (cF 1051) (cO 1051) (cR 1051) (cC 1051) (decide ((cY 1051).name = "<init>")) true [25, 47, 48, 54, 59 + 1000 * (1 - 1), 62, 73, 74] (kX7_readFactor 1) = true := by decide +kernel
set_option maxRecDepth 100000 in
theorem oX7_readFactor_2 : okC 7 (cL9 2051) (cF 2051) (cO 2051) (cR 2051) (cC 2051) (decide ((cY 2051).name = "<init>")) true [25, 47, 48, 54, 59 + 1000 * (2 - 1), 62, 73, 74] (kX7_readFactor 2) = true := by decide +kernel
set_option maxRecDepth 100000 in
theorem oX7_readFactor_3 : okC 7 (cL9 3051) (cF 3051) (cO 3051) (cR 3051) (cC 3051) (decide ((cY 3051).name = "<init>")) true [25, 47, 48, 54, 59 + 1000 * (3 - 1), 62, 73, 74] (kX7_readFactor 3) = true := by decide +kernel
set_option maxRecDepth 100000 in
theorem oX7_readFactor_4 : okC 7 (cL9 4051) (cF 4051) (cO 4051) (cR 4051) (cC 4051) (decide ((cY 4051).name = "<init>")) true [25, 47, 48, 54, 59 + 1000 * (4 - 1), 62, 73, 74] (kX7_readFactor 4) = true := by decide +kernel
set_option maxRecDepth 100000 in
theorem oX7_readFactor_5 : okC 7 (cL9 5051) (cF 5051) (cO 5051) (cR 5051) (cC 5051) (decide ((cY 5051).name = "<init>")) true [25, 47, 48, 54, 59 + 1000 * (5 - 1), 62, 73, 74] (kX7_readFactor 5) = true := by decide +kernel
set_option maxRecDepth 100000 in
theorem oX7_readFactor_6 : okC 7 (cL9 6051) (cF 6051) (cO 6051) (cR 6051) (cC 6051) (decide ((cY 6051).name = "<init>")) true [25, 47, 48, 54, 59 + 1000 * (6 - 1), 62, 73, 74] (kX7_readFactor 6) = true := by decide +kernel
set_option maxRecDepth 100000 in
theorem oX7_readField : okC 7 (cL9 52) (cF 52) (cO 52) (cR 52) (cC 52) (decide ((cY 52).name = "<init>")) true [48, 54, 55, 74] kX7_readField = true := by decide +kernel
set_option maxRecDepth 100000 in
theorem oX7_readGuard : okC 7 (cL9 53) (cF 53) (cO 53) (cR 53) (cC 53) (decide ((cY 53).name = "<init>")) true [32, 48, 54, 74] kX7_readGuard = true := by decide +kernel
set_option maxRecDepth 100000 in
theorem oX7_readNumber : okC 7 (cL9 54) (cF 54) (cO 54) (cR 54) (cC 54) (decide ((cY 54).name = "<init>")) true [48, 74] kX7_readNumber = true := by decide +kernel
set_option maxRecDepth 100000 in
theorem oX7_readOptional : okC 7 (cL9 55) (cF 55) (cO 55) (cR 55) (cC 55) (decide ((cY 55).name = "<init>")) true [54, 73, 74] kX7_readOptional = true := by decide +kernel
set_option maxRecDepth 100000 in
theorem oX7_readParent : okC 7 (cL9 56) (cF 56) (cO 56) (cR 56) (cC 56) (decide ((cY 56).name = "<init>")) true [48, 55, 73] kX7_readParent = true := by decide +kernel
set_option maxRecDepth 100000 in
theorem oX7_readSetup : okC 7 (cL9 57) (cF 57) (cO 57) (cR 57) (cC 57) (decide ((cY 57).name = "<init>")) true [58, 62, 67, 71] kX7_readSetup = true := by decide +kernel
set_option maxRecDepth 100000 in
theorem oX7_readStatement : okC 7 (cL9 58) (cF 58) (cO 58) (cR 58) (cC 58) (decide ((cY 58).name = "<init>")) true [26, 48, 50, 52, 53, 61, 73, 74, 6059] kX7_readStatement = true := by decide +kernel
set_option maxRecDepth 100000 in
theorem oX7_readSum_1 : okC 7 (cL9 1059) (cF 1059) (cO 1059) (cR 1059) (cC 1059) (decide ((cY 1059).name = "<init>")) true [25, 60 + 1000 * 1, 74] (kX7_readSum 1) = true := by decide +kernel
set_option maxRecDepth 100000 in
theorem oX7_readSum_2 : okC 7 (cL9 2059) (cF 2059) (cO 2059) (cR 2059) (cC 2059) (decide ((cY 2059).name = "<init>")) true [25, 60 + 1000 * 2, 74] (kX7_readSum 2) = true := by decide +kernel
set_option maxRecDepth 100000 in
theorem oX7_readSum_3 : okC 7 (cL9 3059) (cF 3059) (cO 3059) (cR 3059) (cC 3059) (decide ((cY 3059).name = "<init>")) true [25, 60 + 1000 * 3, 74] (kX7_readSum 3) = true := by decide +kernel
set_option maxRecDepth 100000 in
theorem oX7_readSum_4 : okC 7 (cL9 4059) (cF 4059) (cO 4059) (cR 4059) (cC 4059) (decide ((cY 4059).name = "<init>")) true [25, 60 + 1000 * 4, 74] (kX7_readSum 4) = true := by decide +kernel
set_option maxRecDepth 100000 in
theorem oX7_readSum_5 : okC 7 (cL9 5059) (cF 5059) (cO 5059) (cR 5059) (cC 5059) (decide ((cY 5059).name = "<init>")) true [25, 60 + 1000 * 5, 74] (kX7_readSum 5) = true := by decide +kernel
set_option maxRecDepth 100000 in
theorem oX7_readSum_6 : okC 7 (cL9 6059) (cF 6059) (cO 6059) (cR 6059) (cC 6059) (decide ((cY 6059).name = "<init>")) true [25, 60 + 1000 * 6, 74] (kX7_readSum 6) = true := by decide +kernel
set_option maxRecDepth 100000 in
theorem oX7_readTerm_1 : okC 7 (cL9 1060) (cF 1060) (cO 1060) (cR 1060) (cC 1060) (decide ((cY 1060).name = "<init>")) true [25, 51 + 1000 * 1, 74] (kX7_readTerm 1) = true := by decide +kernel
set_option maxRecDepth 100000 in
theorem oX7_readTerm_2 : okC 7 (cL9 2060) (cF 2060) (cO 2060) (cR 2060) (cC 2060) (decide ((cY 2060).name = "<init>")) true [25, 51 + 1000 * 2, 74] (kX7_readTerm 2) = true := by decide +kernel
set_option maxRecDepth 100000 in
theorem oX7_readTerm_3 : okC 7 (cL9 3060) (cF 3060) (cO 3060) (cR 3060) (cC 3060) (decide ((cY 3060).name = "<init>")) true [25, 51 + 1000 * 3, 74] (kX7_readTerm 3) = true := by decide +kernel
set_option maxRecDepth 100000 in
theorem oX7_readTerm_4 : okC 7 (cL9 4060) (cF 4060) (cO 4060) (cR 4060) (cC 4060) (decide ((cY 4060).name = "<init>")) true [25, 51 + 1000 * 4, 74] (kX7_readTerm 4) = true := by decide +kernel
set_option maxRecDepth 100000 in
theorem oX7_readTerm_5 : okC 7 (cL9 5060) (cF 5060) (cO 5060) (cR 5060) (cC 5060) (decide ((cY 5060).name = "<init>")) true [25, 51 + 1000 * 5, 74] (kX7_readTerm 5) = true := by decide +kernel
set_option maxRecDepth 100000 in
theorem oX7_readTerm_6 : okC 7 (cL9 6060) (cF 6060) (cO 6060) (cR 6060) (cC 6060) (decide ((cY 6060).name = "<init>")) true [25, 51 + 1000 * 6, 74] (kX7_readTerm 6) = true := by decide +kernel
set_option maxRecDepth 100000 in
theorem oX7_readTurn : okC 7 (cL9 61) (cF 61) (cO 61) (cR 61) (cC 61) (decide ((cY 61).name = "<init>")) true [48, 54, 74] kX7_readTurn = true := by decide +kernel
set_option maxRecDepth 100000 in
theorem oX7_skipSign : okC 7 (cL9 62) (cF 62) (cO 62) (cR 62) (cC 62) (decide ((cY 62).name = "<init>")) true [48, 74] kX7_skipSign = true := by decide +kernel
set_option maxRecDepth 100000 in
theorem oX8_closeForcedGates : okC 8 (cL9 63) (cF 63) (cO 63) (cR 63) (cC 63) (decide ((cY 63).name = "<init>")) true [41] kX8_closeForcedGates = true := by decide +kernel
set_option maxRecDepth 100000 in
theorem oX8_copyFrom : okC 8 (cL9 64) (cF 64) (cO 64) (cR 64) (cC 64) (decide ((cY 64).name = "<init>")) true [2, 13, 28, 33, 40, 43] kX8_copyFrom = true := by decide +kernel
set_option maxRecDepth 100000 in
theorem oX8_divide : okC 8 (cL9 65) (cF 65) (cO 65) (cR 65) (cC 65) (decide ((cY 65).name = "<init>")) true [3, 5, 9, 66] kX8_divide = true := by decide +kernel
set_option maxRecDepth 100000 in
theorem oX8_enter : okC 8 (cL9 66) (cF 66) (cO 66) (cR 66) (cC 66) (decide ((cY 66).name = "<init>")) true [10] kX8_enter = true := by decide +kernel
set_option maxRecDepth 100000 in
theorem oX8_forgetSetup : okC 8 (cL9 67) (cF 67) (cO 67) (cR 67) (cC 67) (decide ((cY 67).name = "<init>")) true [25, 26] kX8_forgetSetup = true := by decide +kernel
set_option maxRecDepth 100000 in
theorem oX8_init : okC 8 (cL9 68) (cF 68) (cO 68) (cR 68) (cC 68) (decide ((cY 68).name = "<init>")) true [4, 18, 30, 34, 42, 45] kX8_init = true := by decide +kernel
set_option maxRecDepth 100000 in
theorem oX8_passHour : okC 8 (cL9 69) (cF 69) (cO 69) (cR 69) (cC 69) (decide ((cY 69).name = "<init>")) true [6, 19, 21, 22, 23, 29, 36, 46, 63, 65, 66] kX8_passHour = true := by decide +kernel
set_option maxRecDepth 100000 in
theorem oX9_addWord : okC 9 (cL9 70) (cF 70) (cO 70) (cR 70) (cC 70) (decide ((cY 70).name = "<init>")) true [] kX9_addWord = true := by decide +kernel
set_option maxRecDepth 100000 in
theorem oX9_begin : okC 9 (cL9 71) (cF 71) (cO 71) (cR 71) (cC 71) (decide ((cY 71).name = "<init>")) true [74] kX9_begin = true := by decide +kernel
set_option maxRecDepth 100000 in
theorem oX9_init : okC 9 (cL9 72) (cF 72) (cO 72) (cR 72) (cC 72) (decide ((cY 72).name = "<init>")) true [] kX9_init = true := by decide +kernel
set_option maxRecDepth 100000 in
theorem oX9_isWord : okC 9 (cL9 73) (cF 73) (cO 73) (cR 73) (cC 73) (decide ((cY 73).name = "<init>")) true [900, 901] kX9_isWord = true := by decide +kernel
set_option maxRecDepth 100000 in
theorem oX9_next : okC 9 (cL9 74) (cF 74) (cO 74) (cR 74) (cC 74) (decide ((cY 74).name = "<init>")) true [] kX9_next = true := by decide +kernel
set_option maxRecDepth 100000 in
theorem oX10_append : okC 10 (cL9 75) (cF 75) (cO 75) (cR 75) (cC 75) (decide ((cY 75).name = "<init>")) true [70] kX10_append = true := by decide +kernel
set_option maxRecDepth 100000 in
theorem oX10_arrived : okC 10 (cL9 76) (cF 76) (cO 76) (cR 76) (cC 76) (decide ((cY 76).name = "<init>")) true [97] kX10_arrived = true := by decide +kernel
set_option maxRecDepth 100000 in
theorem oX10_canalCount : okC 10 (cL9 77) (cF 77) (cO 77) (cR 77) (cC 77) (decide ((cY 77).name = "<init>")) true [] kX10_canalCount = true := by decide +kernel
set_option maxRecDepth 100000 in
theorem oX10_checksum : okC 10 (cL9 78) (cF 78) (cO 78) (cR 78) (cC 78) (decide ((cY 78).name = "<init>")) true [0, 35] kX10_checksum = true := by decide +kernel
set_option maxRecDepth 100000 in
theorem oX10_clock : okC 10 (cL9 79) (cF 79) (cO 79) (cR 79) (cC 79) (decide ((cY 79).name = "<init>")) true [] kX10_clock = true := by decide +kernel
set_option maxRecDepth 100000 in
theorem oX10_copyRow : okC 10 (cL9 80) (cF 80) (cO 80) (cR 80) (cC 80) (decide ((cY 80).name = "<init>")) true [] kX10_copyRow = true := by decide +kernel
set_option maxRecDepth 100000 in
theorem oX10_cycleLength : okC 10 (cL9 81) (cF 81) (cO 81) (cR 81) (cC 81) (decide ((cY 81).name = "<init>")) true [] kX10_cycleLength = true := by decide +kernel
set_option maxRecDepth 100000 in
theorem oX10_errorOffset : okC 10 (cL9 82) (cF 82) (cO 82) (cR 82) (cC 82) (decide ((cY 82).name = "<init>")) true [] kX10_errorOffset = true := by decide +kernel
set_option maxRecDepth 100000 in
theorem oX10_expected : okC 10 (cL9 83) (cF 83) (cO 83) (cR 83) (cC 83) (decide ((cY 83).name = "<init>")) true [88, 97, 98] kX10_expected = true := by decide +kernel
set_option maxRecDepth 100000 in
theorem oX10_fairHours : okC 10 (cL9 84) (cF 84) (cO 84) (cR 84) (cC 84) (decide ((cY 84).name = "<init>")) true [16, 97, 98] kX10_fairHours = true := by decide +kernel
set_option maxRecDepth 100000 in
theorem oX10_fieldCount : okC 10 (cL9 85) (cF 85) (cO 85) (cR 85) (cC 85) (decide ((cY 85).name = "<init>")) true [] kX10_fieldCount = true := by decide +kernel
set_option maxRecDepth 100000 in
theorem oX10_fines : okC 10 (cL9 86) (cF 86) (cO 86) (cR 86) (cC 86) (decide ((cY 86).name = "<init>")) true [97] kX10_fines = true := by decide +kernel
set_option maxRecDepth 100000 in
theorem oX10_force : okC 10 (cL9 87) (cF 87) (cO 87) (cR 87) (cC 87) (decide ((cY 87).name = "<init>")) true [14, 39, 97] kX10_force = true := by decide +kernel
set_option maxRecDepth 100000 in
theorem oX10_forecastArrivals : okC 10 (cL9 88) (cF 88) (cO 88) (cR 88) (cC 88) (decide ((cY 88).name = "<init>")) true [64, 69] kX10_forecastArrivals = true := by decide +kernel
set_option maxRecDepth 100000 in
theorem oX10_guardAt : okC 10 (cL9 89) (cF 89) (cO 89) (cR 89) (cC 89) (decide ((cY 89).name = "<init>")) true [35] kX10_guardAt = true := by decide +kernel
set_option maxRecDepth 100000 in
theorem oX10_hoursUntil : okC 10 (cL9 90) (cF 90) (cO 90) (cR 90) (cC 90) (decide ((cY 90).name = "<init>")) true [20, 64, 69, 97, 98] kX10_hoursUntil = true := by decide +kernel
set_option maxRecDepth 100000 in
theorem oX10_inflow : okC 10 (cL9 91) (cF 91) (cO 91) (cR 91) (cC 91) (decide ((cY 91).name = "<init>")) true [29, 46, 98] kX10_inflow = true := by decide +kernel
set_option maxRecDepth 100000 in
theorem oX10_init : okC 10 (cL9 92) (cF 92) (cO 92) (cR 92) (cC 92) (decide ((cY 92).name = "<init>")) true [37, 49, 68] kX10_init = true := by decide +kernel
set_option maxRecDepth 100000 in
theorem oX10_isForced : okC 10 (cL9 93) (cF 93) (cO 93) (cR 93) (cC 93) (decide ((cY 93).name = "<init>")) true [97] kX10_isForced = true := by decide +kernel
set_option maxRecDepth 100000 in
theorem oX10_isOpen : okC 10 (cL9 94) (cF 94) (cO 94) (cR 94) (cC 94) (decide ((cY 94).name = "<init>")) true [17, 46, 97] kX10_isOpen = true := by decide +kernel
set_option maxRecDepth 100000 in
theorem oX10_load : okC 10 (cL9 95) (cF 95) (cO 95) (cR 95) (cC 95) (decide ((cY 95).name = "<init>")) true [39, 57, 64, 98] kX10_load = true := by decide +kernel
set_option maxRecDepth 100000 in
theorem oX10_parent : okC 10 (cL9 96) (cF 96) (cO 96) (cR 96) (cC 96) (decide ((cY 96).name = "<init>")) true [97] kX10_parent = true := by decide +kernel
set_option maxRecDepth 100000 in
theorem oX10_requireIndex : okC 10 (cL9 97) (cF 97) (cO 97) (cR 97) (cC 97) (decide ((cY 97).name = "<init>")) true [] kX10_requireIndex = true := by decide +kernel
set_option maxRecDepth 100000 in
theorem oX10_requireRange : okC 10 (cL9 98) (cF 98) (cO 98) (cR 98) (cC 98) (decide ((cY 98).name = "<init>")) true [] kX10_requireRange = true := by decide +kernel
set_option maxRecDepth 100000 in
theorem oX10_run : okC 10 (cL9 99) (cF 99) (cO 99) (cR 99) (cC 99) (decide ((cY 99).name = "<init>")) true [39, 69, 98] kX10_run = true := by decide +kernel
set_option maxRecDepth 100000 in
theorem oX10_stolen : okC 10 (cL9 100) (cF 100) (cO 100) (cR 100) (cC 100) (decide ((cY 100).name = "<init>")) true [97] kX10_stolen = true := by decide +kernel
set_option maxRecDepth 100000 in
theorem oX10_suspect : okC 10 (cL9 101) (cF 101) (cO 101) (cR 101) (cC 101) (decide ((cY 101).name = "<init>")) true [88, 97, 98] kX10_suspect = true := by decide +kernel
set_option maxRecDepth 100000 in
theorem oX10_swapTurns : okC 10 (cL9 102) (cF 102) (cO 102) (cR 102) (cC 102) (decide ((cY 102).name = "<init>")) true [39, 44, 46, 97] kX10_swapTurns = true := by decide +kernel
set_option maxRecDepth 100000 in
theorem oX10_taken : okC 10 (cL9 103) (cF 103) (cO 103) (cR 103) (cC 103) (decide ((cY 103).name = "<init>")) true [97] kX10_taken = true := by decide +kernel
set_option maxRecDepth 100000 in
theorem oX10_total : okC 10 (cL9 104) (cF 104) (cO 104) (cR 104) (cC 104) (decide ((cY 104).name = "<init>")) true [12, 24, 98] kX10_total = true := by decide +kernel
set_option maxRecDepth 100000 in
theorem oX10_turnAt : okC 10 (cL9 105) (cF 105) (cO 105) (cR 105) (cC 105) (decide ((cY 105).name = "<init>")) true [46, 98] kX10_turnAt = true := by decide +kernel
set_option maxRecDepth 100000 in
theorem oX10_undo : okC 10 (cL9 106) (cF 106) (cO 106) (cR 106) (cC 106) (decide ((cY 106).name = "<init>")) true [38] kX10_undo = true := by decide +kernel
set_option maxRecDepth 100000 in
theorem oX10_water : okC 10 (cL9 107) (cF 107) (cO 107) (cR 107) (cC 107) (decide ((cY 107).name = "<init>")) true [97] kX10_water = true := by decide +kernel
set_option maxRecDepth 100000 in
theorem oX10_waterIn : okC 10 (cL9 108) (cF 108) (cO 108) (cR 108) (cC 108) (decide ((cY 108).name = "<init>")) true [0, 97, 98] kX10_waterIn = true := by decide +kernel
set_option maxRecDepth 100000 in
theorem oX11_append : okC 11 (cL9 109) (cF 109) (cO 109) (cR 109) (cC 109) (decide ((cY 109).name = "<init>")) true [] kX11_append = true := by decide +kernel
set_option maxRecDepth 100000 in
theorem oX11_arrived : okC 11 (cL9 110) (cF 110) (cO 110) (cR 110) (cC 110) (decide ((cY 110).name = "<init>")) true [113, 152] kX11_arrived = true := by decide +kernel
set_option maxRecDepth 100000 in
theorem oX11_arrives : okC 11 (cL9 111) (cF 111) (cO 111) (cR 111) (cC 111) (decide ((cY 111).name = "<init>")) true [113, 168] kX11_arrives = true := by decide +kernel
set_option maxRecDepth 100000 in
theorem oX11_byteAt : okC 11 (cL9 112) (cF 112) (cO 112) (cR 112) (cC 112) (decide ((cY 112).name = "<init>")) true [] kX11_byteAt = true := by decide +kernel
set_option maxRecDepth 100000 in
theorem oX11_canal : okC 11 (cL9 113) (cF 113) (cO 113) (cR 113) (cC 113) (decide ((cY 113).name = "<init>")) true [] kX11_canal = true := by decide +kernel
set_option maxRecDepth 100000 in
theorem oX11_canalCount : okC 11 (cL9 114) (cF 114) (cO 114) (cR 114) (cC 114) (decide ((cY 114).name = "<init>")) true [] kX11_canalCount = true := by decide +kernel
set_option maxRecDepth 100000 in
theorem oX11_checksum : okC 11 (cL9 115) (cF 115) (cO 115) (cR 115) (cC 115) (decide ((cY 115).name = "<init>")) true [113, 131, 136] kX11_checksum = true := by decide +kernel
set_option maxRecDepth 100000 in
theorem oX11_clock : okC 11 (cL9 116) (cF 116) (cO 116) (cR 116) (cC 116) (decide ((cY 116).name = "<init>")) true [] kX11_clock = true := by decide +kernel
set_option maxRecDepth 100000 in
theorem oX11_copy : okC 11 (cL9 117) (cF 117) (cO 117) (cR 117) (cC 117) (decide ((cY 117).name = "<init>")) true [] kX11_copy = true := by decide +kernel
set_option maxRecDepth 100000 in
theorem oX11_cycle : okC 11 (cL9 118) (cF 118) (cO 118) (cR 118) (cC 118) (decide ((cY 118).name = "<init>")) true [] kX11_cycle = true := by decide +kernel
set_option maxRecDepth 100000 in
theorem oX11_cycleLength : okC 11 (cL9 119) (cF 119) (cO 119) (cR 119) (cC 119) (decide ((cY 119).name = "<init>")) true [118] kX11_cycleLength = true := by decide +kernel
set_option maxRecDepth 100000 in
theorem oX11_demand : okC 11 (cL9 120) (cF 120) (cO 120) (cR 120) (cC 120) (decide ((cY 120).name = "<init>")) true [131] kX11_demand = true := by decide +kernel
set_option maxRecDepth 100000 in
theorem oX11_divide : okC 11 (cL9 121) (cF 121) (cO 121) (cR 121) (cC 121) (decide ((cY 121).name = "<init>")) true [113, 124] kX11_divide = true := by decide +kernel
set_option maxRecDepth 100000 in
theorem oX11_drain : okC 11 (cL9 122) (cF 122) (cO 122) (cR 122) (cC 122) (decide ((cY 122).name = "<init>")) true [131, 150] kX11_drain = true := by decide +kernel
set_option maxRecDepth 100000 in
theorem oX11_emit : okC 11 (cL9 123) (cF 123) (cO 123) (cR 123) (cC 123) (decide ((cY 123).name = "<init>")) true [146] kX11_emit = true := by decide +kernel
set_option maxRecDepth 100000 in
theorem oX11_enter : okC 11 (cL9 124) (cF 124) (cO 124) (cR 124) (cC 124) (decide ((cY 124).name = "<init>")) true [113, 150] kX11_enter = true := by decide +kernel
set_option maxRecDepth 100000 in
theorem oX11_errorOffset : okC 11 (cL9 125) (cF 125) (cO 125) (cR 125) (cC 125) (decide ((cY 125).name = "<init>")) true [] kX11_errorOffset = true := by decide +kernel
set_option maxRecDepth 100000 in
theorem oX11_expect : okC 11 (cL9 126) (cF 126) (cO 126) (cR 126) (cC 126) (decide ((cY 126).name = "<init>")) true [146, 151, 166] kX11_expect = true := by decide +kernel
set_option maxRecDepth 100000 in
theorem oX11_expected : okC 11 (cL9 127) (cF 127) (cO 127) (cR 127) (cC 127) (decide ((cY 127).name = "<init>")) true [111, 117, 129, 139, 152] kX11_expected = true := by decide +kernel
set_option maxRecDepth 100000 in
theorem oX11_factor_1 : okC 11 (cL9 1128) (cF 1128) (cO 1128) (cR 1128) (cC 1128) (decide ((cY 1128).name = "<init>")) true [123, 126, 144, 146, 151, 155, 166, 171 + 1000 * (1 - 1), 174] (kX11_factor 1) = true := by decide +kernel
set_option maxRecDepth 100000 in
theorem oX11_factor_2 : okC 11 (cL9 2128) (cF 2128) (cO 2128) (cR 2128) (cC 2128) (decide ((cY 2128).name = "<init>")) true [123, 126, 144, 146, 151, 155, 166, 171 + 1000 * (2 - 1), 174] (kX11_factor 2) = true := by decide +kernel
set_option maxRecDepth 100000 in
theorem oX11_factor_3 : okC 11 (cL9 3128) (cF 3128) (cO 3128) (cR 3128) (cC 3128) (decide ((cY 3128).name = "<init>")) true [123, 126, 144, 146, 151, 155, 166, 171 + 1000 * (3 - 1), 174] (kX11_factor 3) = true := by decide +kernel
set_option maxRecDepth 100000 in
theorem oX11_factor_4 : okC 11 (cL9 4128) (cF 4128) (cO 4128) (cR 4128) (cC 4128) (decide ((cY 4128).name = "<init>")) true [123, 126, 144, 146, 151, 155, 166, 171 + 1000 * (4 - 1), 174] (kX11_factor 4) = true := by decide +kernel
set_option maxRecDepth 100000 in
theorem oX11_factor_5 : okC 11 (cL9 5128) (cF 5128) (cO 5128) (cR 5128) (cC 5128) (decide ((cY 5128).name = "<init>")) true [123, 126, 144, 146, 151, 155, 166, 171 + 1000 * (5 - 1), 174] (kX11_factor 5) = true := by decide +kernel
set_option maxRecDepth 100000 in
theorem oX11_factor_6 : okC 11 (cL9 6128) (cF 6128) (cO 6128) (cR 6128) (cC 6128) (decide ((cY 6128).name = "<init>")) true [123, 126, 144, 146, 151, 155, 166, 171 + 1000 * (6 - 1), 174] (kX11_factor 6) = true := by decide +kernel
set_option maxRecDepth 100000 in
theorem oX11_fails : okC 11 (cL9 129) (cF 129) (cO 129) (cR 129) (cC 129) (decide ((cY 129).name = "<init>")) true [] kX11_fails = true := by decide +kernel
set_option maxRecDepth 100000 in
theorem oX11_fairHours : okC 11 (cL9 130) (cF 130) (cO 130) (cR 130) (cC 130) (decide ((cY 130).name = "<init>")) true [120, 129, 139, 154] kX11_fairHours = true := by decide +kernel
set_option maxRecDepth 100000 in
theorem oX11_field : okC 11 (cL9 131) (cF 131) (cO 131) (cR 131) (cC 131) (decide ((cY 131).name = "<init>")) true [] kX11_field = true := by decide +kernel
set_option maxRecDepth 100000 in
theorem oX11_fieldCount : okC 11 (cL9 132) (cF 132) (cO 132) (cR 132) (cC 132) (decide ((cY 132).name = "<init>")) true [] kX11_fieldCount = true := by decide +kernel
set_option maxRecDepth 100000 in
theorem oX11_findOpen : okC 11 (cL9 133) (cF 133) (cO 133) (cR 133) (cC 133) (decide ((cY 133).name = "<init>")) true [113, 131, 156] kX11_findOpen = true := by decide +kernel
set_option maxRecDepth 100000 in
theorem oX11_fines : okC 11 (cL9 134) (cF 134) (cO 134) (cR 134) (cC 134) (decide ((cY 134).name = "<init>")) true [154] kX11_fines = true := by decide +kernel
set_option maxRecDepth 100000 in
theorem oX11_force : okC 11 (cL9 135) (cF 135) (cO 135) (cR 135) (cC 135) (decide ((cY 135).name = "<init>")) true [129, 131, 153, 165] kX11_force = true := by decide +kernel
set_option maxRecDepth 100000 in
theorem oX11_guard : okC 11 (cL9 136) (cF 136) (cO 136) (cR 136) (cC 136) (decide ((cY 136).name = "<init>")) true [] kX11_guard = true := by decide +kernel
set_option maxRecDepth 100000 in
theorem oX11_guardAt : okC 11 (cL9 137) (cF 137) (cO 137) (cR 137) (cC 137) (decide ((cY 137).name = "<init>")) true [136] kX11_guardAt = true := by decide +kernel
set_option maxRecDepth 100000 in
theorem oX11_hoursUntil : okC 11 (cL9 138) (cF 138) (cO 138) (cR 138) (cC 138) (decide ((cY 138).name = "<init>")) true [117, 129, 131, 139, 153, 168] kX11_hoursUntil = true := by decide +kernel
set_option maxRecDepth 100000 in
theorem oX11_in : okC 11 (cL9 139) (cF 139) (cO 139) (cR 139) (cC 139) (decide ((cY 139).name = "<init>")) true [] kX11_in = true := by decide +kernel
set_option maxRecDepth 100000 in
theorem oX11_inflow : okC 11 (cL9 140) (cF 140) (cO 140) (cR 140) (cC 140) (decide ((cY 140).name = "<init>")) true [129, 139, 141] kX11_inflow = true := by decide +kernel
set_option maxRecDepth 100000 in
theorem oX11_inflowOf : okC 11 (cL9 141) (cF 141) (cO 141) (cR 141) (cC 141) (decide ((cY 141).name = "<init>")) true [157, 180] kX11_inflowOf = true := by decide +kernel
set_option maxRecDepth 100000 in
theorem oX11_init : okC 11 (cL9 142) (cF 142) (cO 142) (cR 142) (cC 142) (decide ((cY 142).name = "<init>")) true [] kX11_init = true := by decide +kernel
set_option maxRecDepth 100000 in
theorem oX11_irrigate : okC 11 (cL9 143) (cF 143) (cO 143) (cR 143) (cC 143) (decide ((cY 143).name = "<init>")) true [131, 150] kX11_irrigate = true := by decide +kernel
set_option maxRecDepth 100000 in
theorem oX11_isDigit : okC 11 (cL9 144) (cF 144) (cO 144) (cR 144) (cC 144) (decide ((cY 144).name = "<init>")) true [139] kX11_isDigit = true := by decide +kernel
set_option maxRecDepth 100000 in
theorem oX11_isForced : okC 11 (cL9 145) (cF 145) (cO 145) (cR 145) (cC 145) (decide ((cY 145).name = "<init>")) true [131, 153] kX11_isForced = true := by decide +kernel
set_option maxRecDepth 100000 in
theorem oX11_isGood : okC 11 (cL9 146) (cF 146) (cO 146) (cR 146) (cC 146) (decide ((cY 146).name = "<init>")) true [] kX11_isGood = true := by decide +kernel
set_option maxRecDepth 100000 in
theorem oX11_isOpen : okC 11 (cL9 147) (cF 147) (cO 147) (cR 147) (cC 147) (decide ((cY 147).name = "<init>")) true [153, 156] kX11_isOpen = true := by decide +kernel
set_option maxRecDepth 100000 in
theorem oX11_limited : okC 11 (cL9 148) (cF 148) (cO 148) (cR 148) (cC 148) (decide ((cY 148).name = "<init>")) true [] kX11_limited = true := by decide +kernel
set_option maxRecDepth 100000 in
theorem oX11_load : okC 11 (cL9 149) (cF 149) (cO 149) (cR 149) (cC 149) (decide ((cY 149).name = "<init>")) true [117, 129, 139, 146, 151, 165, 169] kX11_load = true := by decide +kernel
set_option maxRecDepth 100000 in
theorem oX11_min : okC 11 (cL9 150) (cF 150) (cO 150) (cR 150) (cC 150) (decide ((cY 150).name = "<init>")) true [] kX11_min = true := by decide +kernel
set_option maxRecDepth 100000 in
theorem oX11_next : okC 11 (cL9 151) (cF 151) (cO 151) (cR 151) (cC 151) (decide ((cY 151).name = "<init>")) true [112] kX11_next = true := by decide +kernel
set_option maxRecDepth 100000 in
theorem oX11_noCanal : okC 11 (cL9 152) (cF 152) (cO 152) (cR 152) (cC 152) (decide ((cY 152).name = "<init>")) true [129, 139] kX11_noCanal = true := by decide +kernel
set_option maxRecDepth 100000 in
theorem oX11_noField : okC 11 (cL9 153) (cF 153) (cO 153) (cR 153) (cC 153) (decide ((cY 153).name = "<init>")) true [129, 139] kX11_noField = true := by decide +kernel
set_option maxRecDepth 100000 in
theorem oX11_noVillage : okC 11 (cL9 154) (cF 154) (cO 154) (cR 154) (cC 154) (decide ((cY 154).name = "<init>")) true [129, 139] kX11_noVillage = true := by decide +kernel
set_option maxRecDepth 100000 in
theorem oX11_number : okC 11 (cL9 155) (cF 155) (cO 155) (cR 155) (cC 155) (decide ((cY 155).name = "<init>")) true [112, 139, 144, 146, 150, 151, 166] kX11_number = true := by decide +kernel
set_option maxRecDepth 100000 in
theorem oX11_open : okC 11 (cL9 156) (cF 156) (cO 156) (cR 156) (cC 156) (decide ((cY 156).name = "<init>")) true [131, 180] kX11_open = true := by decide +kernel
set_option maxRecDepth 100000 in
theorem oX11_operate : okC 11 (cL9 157) (cF 157) (cO 157) (cR 157) (cC 157) (decide ((cY 157).name = "<init>")) true [148] kX11_operate = true := by decide +kernel
set_option maxRecDepth 100000 in
theorem oX11_parent : okC 11 (cL9 158) (cF 158) (cO 158) (cR 158) (cC 158) (decide ((cY 158).name = "<init>")) true [113, 152] kX11_parent = true := by decide +kernel
set_option maxRecDepth 100000 in
theorem oX11_patrol : okC 11 (cL9 159) (cF 159) (cO 159) (cR 159) (cC 159) (decide ((cY 159).name = "<init>")) true [131, 136] kX11_patrol = true := by decide +kernel
set_option maxRecDepth 100000 in
theorem oX11_readCanal : okC 11 (cL9 160) (cF 160) (cO 160) (cR 160) (cC 160) (decide ((cY 160).name = "<init>")) true [113, 146, 155, 166, 174] kX11_readCanal = true := by decide +kernel
set_option maxRecDepth 100000 in
theorem oX11_readField : okC 11 (cL9 161) (cF 161) (cO 161) (cR 161) (cC 161) (decide ((cY 161).name = "<init>")) true [131, 146, 155, 166, 174] kX11_readField = true := by decide +kernel
set_option maxRecDepth 100000 in
theorem oX11_readGuard : okC 11 (cL9 162) (cF 162) (cO 162) (cR 162) (cC 162) (decide ((cY 162).name = "<init>")) true [144, 146, 151, 155, 166] kX11_readGuard = true := by decide +kernel
set_option maxRecDepth 100000 in
theorem oX11_readInflow : okC 11 (cL9 163) (cF 163) (cO 163) (cR 163) (cC 163) (decide ((cY 163).name = "<init>")) true [166, 6171] kX11_readInflow = true := by decide +kernel
set_option maxRecDepth 100000 in
theorem oX11_readTurn : okC 11 (cL9 164) (cF 164) (cO 164) (cR 164) (cC 164) (decide ((cY 164).name = "<init>")) true [146, 155, 166] kX11_readTurn = true := by decide +kernel
set_option maxRecDepth 100000 in
theorem oX11_remember : okC 11 (cL9 165) (cF 165) (cO 165) (cR 165) (cC 165) (decide ((cY 165).name = "<init>")) true [117] kX11_remember = true := by decide +kernel
set_option maxRecDepth 100000 in
theorem oX11_report : okC 11 (cL9 166) (cF 166) (cO 166) (cR 166) (cC 166) (decide ((cY 166).name = "<init>")) true [] kX11_report = true := by decide +kernel
set_option maxRecDepth 100000 in
theorem oX11_run : okC 11 (cL9 167) (cF 167) (cO 167) (cR 167) (cC 167) (decide ((cY 167).name = "<init>")) true [129, 139, 165, 168, 176] kX11_run = true := by decide +kernel
set_option maxRecDepth 100000 in
theorem oX11_simulate : okC 11 (cL9 168) (cF 168) (cO 168) (cR 168) (cC 168) (decide ((cY 168).name = "<init>")) true [113, 121, 122, 124, 133, 141, 143, 159, 180] kX11_simulate = true := by decide +kernel
set_option maxRecDepth 100000 in
theorem oX11_statement : okC 11 (cL9 169) (cF 169) (cO 169) (cR 169) (cC 169) (decide ((cY 169).name = "<init>")) true [126, 151, 160, 161, 162, 163, 164, 166, 174] kX11_statement = true := by decide +kernel
set_option maxRecDepth 100000 in
theorem oX11_stolen : okC 11 (cL9 170) (cF 170) (cO 170) (cR 170) (cC 170) (decide ((cY 170).name = "<init>")) true [131, 153] kX11_stolen = true := by decide +kernel
set_option maxRecDepth 100000 in
theorem oX11_sum_1 : okC 11 (cL9 1171) (cF 1171) (cO 1171) (cR 1171) (cC 1171) (decide ((cY 1171).name = "<init>")) true [123, 146, 151, 177 + 1000 * 1] (kX11_sum 1) = true := by decide +kernel
set_option maxRecDepth 100000 in
theorem oX11_sum_2 : okC 11 (cL9 2171) (cF 2171) (cO 2171) (cR 2171) (cC 2171) (decide ((cY 2171).name = "<init>")) true [123, 146, 151, 177 + 1000 * 2] (kX11_sum 2) = true := by decide +kernel
set_option maxRecDepth 100000 in
theorem oX11_sum_3 : okC 11 (cL9 3171) (cF 3171) (cO 3171) (cR 3171) (cC 3171) (decide ((cY 3171).name = "<init>")) true [123, 146, 151, 177 + 1000 * 3] (kX11_sum 3) = true := by decide +kernel
set_option maxRecDepth 100000 in
theorem oX11_sum_4 : okC 11 (cL9 4171) (cF 4171) (cO 4171) (cR 4171) (cC 4171) (decide ((cY 4171).name = "<init>")) true [123, 146, 151, 177 + 1000 * 4] (kX11_sum 4) = true := by decide +kernel
set_option maxRecDepth 100000 in
theorem oX11_sum_5 : okC 11 (cL9 5171) (cF 5171) (cO 5171) (cR 5171) (cC 5171) (decide ((cY 5171).name = "<init>")) true [123, 146, 151, 177 + 1000 * 5] (kX11_sum 5) = true := by decide +kernel
set_option maxRecDepth 100000 in
theorem oX11_sum_6 : okC 11 (cL9 6171) (cF 6171) (cO 6171) (cR 6171) (cC 6171) (decide ((cY 6171).name = "<init>")) true [123, 146, 151, 177 + 1000 * 6] (kX11_sum 6) = true := by decide +kernel
set_option maxRecDepth 100000 in
theorem oX11_suspect : okC 11 (cL9 172) (cF 172) (cO 172) (cR 172) (cC 172) (decide ((cY 172).name = "<init>")) true [111, 117, 129, 131, 139, 152] kX11_suspect = true := by decide +kernel
set_option maxRecDepth 100000 in
theorem oX11_swapTurns : okC 11 (cL9 173) (cF 173) (cO 173) (cR 173) (cC 173) (decide ((cY 173).name = "<init>")) true [129, 139, 165, 180] kX11_swapTurns = true := by decide +kernel
set_option maxRecDepth 100000 in
theorem oX11_takeWord : okC 11 (cL9 174) (cF 174) (cO 174) (cR 174) (cC 174) (decide ((cY 174).name = "<init>")) true [112, 139, 146, 151, 900, 901] kX11_takeWord = true := by decide +kernel
set_option maxRecDepth 100000 in
theorem oX11_taken : okC 11 (cL9 175) (cF 175) (cO 175) (cR 175) (cC 175) (decide ((cY 175).name = "<init>")) true [131, 153] kX11_taken = true := by decide +kernel
set_option maxRecDepth 100000 in
theorem oX11_takenByAll : okC 11 (cL9 176) (cF 176) (cO 176) (cR 176) (cC 176) (decide ((cY 176).name = "<init>")) true [131] kX11_takenByAll = true := by decide +kernel
set_option maxRecDepth 100000 in
theorem oX11_term_1 : okC 11 (cL9 1177) (cF 1177) (cO 1177) (cR 1177) (cC 1177) (decide ((cY 1177).name = "<init>")) true [123, 128 + 1000 * 1, 146, 151] (kX11_term 1) = true := by decide +kernel
set_option maxRecDepth 100000 in
theorem oX11_term_2 : okC 11 (cL9 2177) (cF 2177) (cO 2177) (cR 2177) (cC 2177) (decide ((cY 2177).name = "<init>")) true [123, 128 + 1000 * 2, 146, 151] (kX11_term 2) = true := by decide +kernel
set_option maxRecDepth 100000 in
theorem oX11_term_3 : okC 11 (cL9 3177) (cF 3177) (cO 3177) (cR 3177) (cC 3177) (decide ((cY 3177).name = "<init>")) true [123, 128 + 1000 * 3, 146, 151] (kX11_term 3) = true := by decide +kernel
set_option maxRecDepth 100000 in
theorem oX11_term_4 : okC 11 (cL9 4177) (cF 4177) (cO 4177) (cR 4177) (cC 4177) (decide ((cY 4177).name = "<init>")) true [123, 128 + 1000 * 4, 146, 151] (kX11_term 4) = true := by decide +kernel
set_option maxRecDepth 100000 in
theorem oX11_term_5 : okC 11 (cL9 5177) (cF 5177) (cO 5177) (cR 5177) (cC 5177) (decide ((cY 5177).name = "<init>")) true [123, 128 + 1000 * 5, 146, 151] (kX11_term 5) = true := by decide +kernel
set_option maxRecDepth 100000 in
theorem oX11_term_6 : okC 11 (cL9 6177) (cF 6177) (cO 6177) (cR 6177) (cC 6177) (decide ((cY 6177).name = "<init>")) true [123, 128 + 1000 * 6, 146, 151] (kX11_term 6) = true := by decide +kernel
set_option maxRecDepth 100000 in
theorem oX11_thrown : okC 11 (cL9 178) (cF 178) (cO 178) (cR 178) (cC 178) (decide ((cY 178).name = "<init>")) true [] kX11_thrown = true := by decide +kernel
set_option maxRecDepth 100000 in
theorem oX11_total : okC 11 (cL9 179) (cF 179) (cO 179) (cR 179) (cC 179) (decide ((cY 179).name = "<init>")) true [113, 129, 131, 139] kX11_total = true := by decide +kernel
set_option maxRecDepth 100000 in
theorem oX11_turn : okC 11 (cL9 180) (cF 180) (cO 180) (cR 180) (cC 180) (decide ((cY 180).name = "<init>")) true [118] kX11_turn = true := by decide +kernel
set_option maxRecDepth 100000 in
theorem oX11_turnAt : okC 11 (cL9 181) (cF 181) (cO 181) (cR 181) (cC 181) (decide ((cY 181).name = "<init>")) true [129, 139, 180] kX11_turnAt = true := by decide +kernel
set_option maxRecDepth 100000 in
theorem oX11_undo : okC 11 (cL9 182) (cF 182) (cO 182) (cR 182) (cC 182) (decide ((cY 182).name = "<init>")) true [117] kX11_undo = true := by decide +kernel
set_option maxRecDepth 100000 in
theorem oX11_water : okC 11 (cL9 183) (cF 183) (cO 183) (cR 183) (cC 183) (decide ((cY 183).name = "<init>")) true [131, 153] kX11_water = true := by decide +kernel
set_option maxRecDepth 100000 in
theorem oX11_waterIn : okC 11 (cL9 184) (cF 184) (cO 184) (cR 184) (cC 184) (decide ((cY 184).name = "<init>")) true [113, 129, 139, 152] kX11_waterIn = true := by decide +kernel
