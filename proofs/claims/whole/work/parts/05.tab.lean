/-! ===== tables: what the constant pools say (written by program: wip/whole/gen.py) ===== -/
def at9 (i : Nat) (w : Cond) : Bool := decide (lw_tbl[i]? = some w) && okw w
theorem at9_in {i : Nat} {w : Cond} (h : at9 i w = true) : w ∈ TT := by
  unfold at9 at h
  simp only [Bool.and_eq_true, decide_eq_true_eq] at h
  exact TT_in i h.1 h.2
theorem zip_in {α : Type} {f : α → Cond} {l : List α} {p : List Nat} (hl : l.length = p.length) (h : (l.zip p).all (fun q => at9 q.2 (f q.1)) = true) : ∀ q ∈ l, f q ∈ TT := by
  intro q hq
  obtain ⟨i, hi, he⟩ := List.mem_iff_getElem.mp hq
  have hm : (q, p[i]'(hl ▸ hi)) ∈ l.zip p := by
    rw [← he]
    exact List.mem_iff_getElem.mpr ⟨i, by rw [List.length_zip, ← hl, Nat.min_self]; exact hi, by rw [List.getElem_zip]⟩
  exact at9_in (List.all_eq_true.mp h _ hm)
def flk : List (Nat × Nat × Nat × Nat) := [(9, 9, 9, 0), (9, 15, 9, 1), (10, 41, 9, 1), (7, 43, 9, 2), (9, 37, 9, 2), (9, 34, 9, 3), (7, 214, 9, 3), (9, 40, 9, 4), (7, 195, 9, 4), (9, 25, 9, 5), (9, 28, 9, 6), (0, 9, 0, 0), (7, 126, 0, 0), (10, 127, 0, 0), (0, 15, 0, 1), (7, 134, 0, 1), (10, 210, 0, 1), (0, 18, 0, 2), (7, 141, 0, 2), (8, 165, 0, 2), (0, 21, 0, 3), (7, 144, 0, 3), (8, 157, 0, 3), (0, 24, 0, 4), (7, 147, 0, 4), (8, 153, 0, 4), (0, 27, 0, 5), (10, 135, 0, 5), (0, 30, 0, 6), (0, 34, 0, 7), (8, 53, 0, 8), (0, 41, 0, 8), (7, 121, 0, 8), (10, 75, 0, 8), (1, 9, 1, 0), (7, 160, 1, 0), (8, 175, 1, 0), (1, 15, 1, 1), (7, 162, 1, 1), (8, 182, 1, 1), (1, 18, 1, 2), (7, 165, 1, 2), (1, 21, 1, 3), (7, 168, 1, 3), (1, 24, 1, 4), (7, 171, 1, 4), (1, 27, 1, 5), (7, 174, 1, 5), (1, 30, 1, 6), (7, 177, 1, 6), (1, 33, 1, 7), (10, 146, 1, 7), (1, 36, 1, 8), (10, 149, 1, 8), (1, 39, 1, 9), (10, 152, 1, 9), (1, 42, 1, 10), (8, 178, 1, 10), (10, 142, 1, 10), (8, 57, 1, 11), (1, 50, 1, 11), (7, 157, 1, 11), (10, 84, 1, 11), (6, 9, 6, 0), (7, 185, 6, 0), (6, 15, 6, 1), (7, 186, 6, 1), (8, 58, 6, 2), (6, 22, 6, 2), (7, 182, 6, 2), (10, 201, 6, 2), (8, 59, 6, 3), (6, 26, 6, 3), (7, 189, 6, 3), (10, 94, 6, 3), (3, 9, 3, 0), (3, 19, 3, 1), (8, 62, 3, 1), (7, 92, 3, 1), (3, 23, 3, 2), (2, 9, 2, 0), (2, 15, 2, 1), (2, 19, 2, 2), (5, 9, 5, 0), (10, 159, 5, 0), (5, 19, 5, 1), (8, 102, 5, 1), (10, 164, 5, 1), (5, 23, 5, 2), (8, 130, 5, 2), (10, 173, 5, 2), (5, 26, 5, 3), (8, 168, 5, 3), (10, 176, 5, 3), (5, 29, 5, 4), (8, 124, 5, 4), (10, 179, 5, 4), (8, 12, 8, 0), (7, 59, 8, 0), (10, 71, 8, 0), (8, 21, 8, 1), (7, 69, 8, 1), (10, 80, 8, 1), (8, 28, 8, 2), (7, 79, 8, 2), (10, 90, 8, 2), (8, 35, 8, 3), (7, 89, 8, 3), (10, 113, 8, 3), (8, 42, 8, 4), (7, 103, 8, 4), (10, 103, 8, 4), (8, 49, 8, 5), (10, 155, 8, 5), (8, 91, 8, 6), (10, 87, 8, 6), (7, 12, 7, 0), (10, 37, 7, 0), (7, 21, 7, 1), (10, 65, 7, 1), (7, 32, 7, 2), (10, 58, 7, 2), (7, 28, 7, 3), (7, 35, 7, 4), (4, 11, 4, 0), (4, 18, 4, 1), (4, 26, 4, 2), (10, 209, 4, 2), (10, 10, 10, 0), (10, 19, 10, 1), (10, 23, 10, 2), (10, 29, 10, 3), (10, 33, 10, 4), (11, 42, 11, 0), (11, 9, 11, 1), (11, 45, 11, 2), (11, 48, 11, 3), (11, 51, 11, 4), (11, 58, 11, 5), (11, 61, 11, 6), (11, 13, 11, 7), (11, 17, 11, 8), (11, 20, 11, 9), (11, 23, 11, 10), (11, 28, 11, 11), (11, 254, 11, 12), (11, 93, 11, 13), (11, 101, 11, 14), (11, 166, 11, 15), (11, 31, 11, 16), (11, 35, 11, 17), (11, 39, 11, 18)]
def flkp : List Nat := [95, 96, 97, 98, 99, 100, 101, 102, 103, 104, 105, 134, 135, 136, 137, 138, 139, 140, 141, 142, 143, 144, 145, 146, 147, 148, 149, 150, 151, 152, 153, 154, 155, 156, 184, 185, 186, 187, 188, 189, 190, 191, 192, 193, 194, 195, 196, 197, 198, 199, 200, 201, 202, 203, 204, 205, 206, 207, 208, 209, 210, 211, 212, 244, 245, 246, 247, 248, 249, 250, 251, 252, 253, 254, 255, 271, 272, 273, 274, 275, 289, 290, 291, 306, 307, 308, 309, 310, 311, 312, 313, 314, 315, 316, 317, 318, 319, 331, 332, 333, 334, 335, 336, 337, 338, 339, 340, 341, 342, 343, 344, 345, 346, 347, 348, 349, 365, 366, 367, 368, 369, 370, 371, 372, 395, 396, 397, 398, 406, 407, 408, 409, 410, 1070, 1071, 1072, 1073, 1074, 1075, 1076, 1077, 1078, 1079, 1080, 1081, 1082, 1083, 1084, 1085, 1086, 1087, 1088]
set_option maxRecDepth 100000 in
theorem flk_all : (flk.zip flkp).all (fun q => at9 q.2 ((fun q : Nat × Nat × Nat × Nat => (.fieldLink (xR q.1) q.2.1 (xT q.2.2.1 q.2.2.2).1 (xT q.2.2.1 q.2.2.2).2.1 (xT q.2.2.1 q.2.2.2).2.2.1)) q.1)) = true := by decide +kernel
theorem flk_in : ∀ q ∈ flk, (.fieldLink (xR q.1) q.2.1 (xT q.2.2.1 q.2.2.2).1 (xT q.2.2.1 q.2.2.2).2.1 (xT q.2.2.1 q.2.2.2).2.2.1 : Cond) ∈ TT := zip_in (by decide +kernel) flk_all
abbrev Cal : Type := MethodName × ByteArray × Nat × Option FieldType × List (Nat × Nat × Nat × Nat) × Nat × Nat × Nat × Nat × Nat × Nat
/-- name, code, locals, what it returns, its table; kind (0 virtual, 1 static, 2 constructor), arguments; frames, locals, cells, slots of its room -/
def calL0 : List Cal := [(yX0_amountDue, cX0_amountDue, 4, (some .int), [], 0, 3, 2, 61, 0, 0),
  (yX0_closeAll, cX0_closeAll, 2, none, [], 0, 0, 1, 40, 0, 0),
  (yX0_copyFrom, cX0_copyFrom, 2, none, [], 0, 1, 2, 108, 0, 0),
  (yX0_firstOpenChild, cX0_firstOpenChild, 3, (some .int), [], 0, 1, 2, 62, 0, 0),
  (yX0_init, cX0_init, 1, none, [], 2, 0, 1, 40, 8, 224),
  (yX0_isOpenChild, cX0_isOpenChild, 3, (some .boolean), [], 0, 2, 1, 40, 0, 0),
  (yX0_letArrive, cX0_letArrive, 4, (some .int), [], 0, 2, 2, 61, 0, 0),
  (yX0_openAt, cX0_openAt, 2, none, [], 0, 1, 1, 40, 0, 0),
  (yX0_openParents, cX0_openParents, 2, none, [], 0, 0, 2, 61, 0, 0),
  (yX0_openShares, cX0_openShares, 4, (some .int), [], 0, 1, 2, 62, 0, 0),
  (yX0_send, cX0_send, 4, none, [], 0, 3, 2, 61, 0, 0),
  (yX0_slot, cX0_slot, 2, (some .int), [], 1, 2, 1, 40, 0, 0),
  (yX0_waterInAll, cX0_waterInAll, 4, (some .long), [], 0, 0, 1, 40, 0, 0),
  (yX1_copyFrom, cX1_copyFrom, 3, none, [], 0, 1, 2, 108, 0, 0),
  (yX1_countForced, cX1_countForced, 3, (some .int), [], 0, 0, 1, 40, 0, 0),
  (yX1_demandOf, cX1_demandOf, 4, (some .int), [], 0, 1, 1, 40, 0, 0),
  (yX1_fairPart, cX1_fairPart, 12, (some .int), [], 0, 2, 2, 63, 0, 0),
  (yX1_hasOpenGate, cX1_hasOpenGate, 3, (some .boolean), [], 0, 2, 1, 40, 0, 0),
  (yX1_init, cX1_init, 1, none, [], 2, 0, 1, 40, 11, 132),
  (yX1_markOpenCanals, cX1_markOpenCanals, 4, none, [], 0, 2, 3, 82, 0, 0),
  (yX1_meetsDemand, cX1_meetsDemand, 2, (some .boolean), [], 0, 1, 1, 40, 0, 0),
  (yX1_overflow, cX1_overflow, 4, (some .int), [], 0, 1, 1, 40, 0, 0),
  (yX1_seepAway, cX1_seepAway, 3, (some .int), [], 0, 1, 1, 40, 0, 0),
  (yX1_takeFrom, cX1_takeFrom, 7, (some .int), [], 0, 3, 2, 62, 0, 0),
  (yX1_waterInAll, cX1_waterInAll, 4, (some .long), [], 0, 0, 1, 40, 0, 0),
  (yX2_add, cX2_add, 2, none, [], 0, 1, 1, 40, 0, 0),
  (yX2_clear, cX2_clear, 1, none, [], 0, 0, 1, 40, 0, 0),
  (yX2_combine, cX2_combine, 5, (some .long), [], 1, 3, 1, 40, 0, 0),
  (yX2_copyFrom, cX2_copyFrom, 2, none, [], 0, 1, 1, 87, 0, 0),
  (yX2_inflowIn, cX2_inflowIn, 8, (some .int), [], 0, 2, 2, 64, 0, 0),
  (yX2_init, cX2_init, 1, none, [], 2, 0, 1, 40, 2, 911),
  (yX2_operand, cX2_operand, 3, (some .long), [], 1, 3, 1, 40, 0, 0),
  (yX3_addStop, cX3_addStop, 2, none, [], 0, 1, 1, 40, 0, 0),
  (yX3_copyFrom, cX3_copyFrom, 2, none, [], 0, 1, 2, 108, 0, 0),
  (yX3_init, cX3_init, 1, none, [], 2, 0, 1, 40, 1, 10),
  (yX3_place, cX3_place, 1, (some .int), [], 0, 0, 1, 40, 0, 0),
  (yX3_walk, cX3_walk, 1, (some .int), [], 0, 0, 2, 60, 0, 0),
  (yX4_init, cX4_init, 2, none, [], 2, 0, 3, 80, 257, 10808),
  (yX4_restore, cX4_restore, 2, (some .boolean), [], 0, 1, 4, 151, 0, 0),
  (yX4_save, cX4_save, 2, none, [], 0, 1, 4, 151, 0, 0),
  (yX5_copyFrom, cX5_copyFrom, 2, none, [], 0, 1, 2, 108, 0, 0),
  (yX5_fine, cX5_fine, 2, none, [], 0, 1, 1, 40, 0, 0),
  (yX5_init, cX5_init, 1, none, [], 2, 0, 1, 40, 1, 6),
  (yX6_copyFrom, cX6_copyFrom, 2, none, [], 0, 1, 2, 108, 0, 0),
  (yX6_exchange, cX6_exchange, 5, none, [], 0, 2, 1, 40, 0, 0),
  (yX6_init, cX6_init, 1, none, [], 2, 0, 1, 40, 2, 24),
  (yX6_villageIn, cX6_villageIn, 4, (some .int), [], 0, 1, 1, 40, 0, 0),
  (yX7_addOperand, cX7_addOperand, 2, none, [], 0, 1, 2, 61, 0, 0),
  (yX7_fail, cX7_fail, 2, none, [], 0, 1, 1, 40, 0, 0),
  (yX7_init, cX7_init, 1, none, [], 2, 0, 3, 80, 34, 2257),
  (yX7_readCanal, cX7_readCanal, 3, none, [], 0, 1, 14, 388, 0, 0),
  (yX7_readFactor, cX7_readFactor, 2, none, [], 0, 1, 12, 344, 0, 0),
  (yX7_readField, cX7_readField, 3, none, [], 0, 1, 13, 367, 0, 0),
  (yX7_readGuard, cX7_readGuard, 4, none, [], 0, 1, 3, 84, 0, 0),
  (yX7_readNumber, cX7_readNumber, 4, (some .int), [], 0, 2, 2, 61, 0, 0),
  (yX7_readOptional, cX7_readOptional, 4, (some .int), [], 0, 3, 12, 344, 0, 0),
  (yX7_readParent, cX7_readParent, 2, (some .int), [], 0, 1, 13, 367, 0, 0),
  (yX7_readSetup, cX7_readSetup, 3, (some .int), [], 0, 1, 34, 1331, 0, 0),
  (yX7_readStatement, cX7_readStatement, 1, none, [], 0, 0, 33, 1311, 0, 0),
  (yX7_readSum, cX7_readSum, 4, none, [], 0, 1, 14, 388, 0, 0),
  (yX7_readTerm, cX7_readTerm, 4, none, [], 0, 1, 13, 365, 0, 0),
  (yX7_readTurn, cX7_readTurn, 3, none, [], 0, 1, 3, 84, 0, 0),
  (yX7_skipSign, cX7_skipSign, 2, none, [], 0, 1, 2, 61, 0, 0),
  (yX8_closeForcedGates, cX8_closeForcedGates, 3, none, [], 0, 1, 2, 61, 0, 0),
  (yX8_copyFrom, cX8_copyFrom, 2, none, [], 0, 1, 3, 130, 0, 0),
  (yX8_divide, cX8_divide, 8, none, [], 0, 2, 4, 108, 0, 0),
  (yX8_enter, cX8_enter, 5, none, [], 0, 2, 3, 84, 0, 0),
  (yX8_forgetSetup, cX8_forgetSetup, 1, none, [], 0, 0, 2, 61, 0, 0),
  (yX8_init, cX8_init, 1, none, [], 2, 0, 2, 60, 31, 1343),
  (yX8_passHour, cX8_passHour, 7, (some .int), [], 0, 0, 5, 135, 0, 0)]
def calL1 : List Cal := [(yX9_addWord, cX9_addWord, 3, none, [], 0, 1, 1, 40, 0, 0),
  (yX9_begin, cX9_begin, 2, none, [], 0, 1, 2, 60, 0, 0),
  (yX9_init, cX9_init, 1, none, [], 2, 0, 1, 40, 1, 900),
  (yX9_isWord, cX9_isWord, 3, (some .boolean), [], 0, 1, 11, 322, 0, 0),
  (yX9_next, cX9_next, 1, none, [], 0, 0, 1, 40, 0, 0),
  (yX10_append, cX10_append, 7, (some .int), [], 0, 5, 2, 62, 0, 0),
  (yX10_arrived, cX10_arrived, 2, (some .int), [], 0, 1, 7, 110, 1, 6),
  (yX10_canalCount, cX10_canalCount, 1, (some .int), [], 0, 0, 1, 40, 0, 0),
  (yX10_checksum, cX10_checksum, 6, (some .long), [], 0, 0, 3, 84, 0, 0),
  (yX10_clock, cX10_clock, 1, (some .int), [], 0, 0, 1, 40, 0, 0),
  (yX10_copyRow, cX10_copyRow, 2, none, [], 1, 2, 1, 87, 0, 0),
  (yX10_cycleLength, cX10_cycleLength, 1, (some .int), [], 0, 0, 1, 40, 0, 0),
  (yX10_errorOffset, cX10_errorOffset, 1, (some .int), [], 0, 0, 1, 40, 0, 0),
  (yX10_expected, cX10_expected, 3, (some .int), [], 0, 2, 7, 186, 2, 12),
  (yX10_fairHours, cX10_fairHours, 3, (some .int), [], 0, 2, 7, 111, 2, 12),
  (yX10_fieldCount, cX10_fieldCount, 1, (some .int), [], 0, 0, 1, 40, 0, 0),
  (yX10_fines, cX10_fines, 2, (some .int), [], 0, 1, 7, 110, 1, 6),
  (yX10_force, cX10_force, 2, (some .int), [], 0, 1, 7, 172, 2, 12),
  (yX10_forecastArrivals, cX10_forecastArrivals, 6, (some .int), [], 0, 3, 6, 161, 0, 0),
  (yX10_guardAt, cX10_guardAt, 1, (some .int), [], 0, 0, 2, 60, 0, 0),
  (yX10_hoursUntil, cX10_hoursUntil, 4, (some .int), [], 0, 2, 7, 161, 2, 12),
  (yX10_inflow, cX10_inflow, 2, (some .int), [], 0, 1, 7, 111, 1, 6),
  (yX10_init, cX10_init, 1, none, [], 2, 0, 4, 101, 357, 15773),
  (yX10_isForced, cX10_isForced, 2, (some .boolean), [], 0, 1, 7, 110, 1, 6),
  (yX10_isOpen, cX10_isOpen, 2, (some .boolean), [], 0, 1, 7, 110, 1, 6),
  (yX10_load, cX10_load, 3, (some .int), [], 0, 1, 35, 1353, 1, 6),
  (yX10_parent, cX10_parent, 2, (some .int), [], 0, 1, 7, 110, 1, 6),
  (yX10_requireIndex, cX10_requireIndex, 2, none, [], 1, 2, 6, 89, 1, 6),
  (yX10_requireRange, cX10_requireRange, 3, none, [], 1, 3, 6, 89, 1, 6),
  (yX10_run, cX10_run, 4, (some .int), [], 0, 1, 7, 172, 2, 12),
  (yX10_stolen, cX10_stolen, 2, (some .int), [], 0, 1, 7, 110, 1, 6),
  (yX10_suspect, cX10_suspect, 5, (some .int), [], 0, 3, 7, 186, 2, 12),
  (yX10_swapTurns, cX10_swapTurns, 3, (some .int), [], 0, 2, 7, 172, 2, 12),
  (yX10_taken, cX10_taken, 2, (some .int), [], 0, 1, 7, 110, 1, 6),
  (yX10_total, cX10_total, 2, (some .long), [], 0, 1, 7, 111, 1, 6),
  (yX10_turnAt, cX10_turnAt, 2, (some .int), [], 0, 1, 7, 111, 1, 6),
  (yX10_undo, cX10_undo, 1, (some .int), [], 0, 0, 5, 172, 0, 0),
  (yX10_water, cX10_water, 2, (some .int), [], 0, 1, 7, 110, 1, 6),
  (yX10_waterIn, cX10_waterIn, 3, (some .int), [], 0, 2, 7, 111, 2, 12),
  (yX11_append, cX11_append, 8, (some .int), [], 0, 5, 1, 40, 0, 0),
  (yX11_arrived, cX11_arrived, 2, (some .int), [], 0, 1, 3, 83, 0, 0),
  (yX11_arrives, cX11_arrives, 5, (some .int), [], 0, 2, 6, 154, 0, 0),
  (yX11_byteAt, cX11_byteAt, 2, (some .int), [], 0, 1, 1, 40, 0, 0),
  (yX11_canal, cX11_canal, 1, (some .int), [], 1, 1, 1, 40, 0, 0),
  (yX11_canalCount, cX11_canalCount, 1, (some .int), [], 0, 0, 1, 40, 0, 0),
  (yX11_checksum, cX11_checksum, 5, (some .long), [], 0, 0, 2, 60, 0, 0),
  (yX11_clock, cX11_clock, 1, (some .int), [], 0, 0, 1, 40, 0, 0),
  (yX11_copy, cX11_copy, 3, none, [], 1, 2, 1, 40, 0, 0),
  (yX11_cycle, cX11_cycle, 3, (some .int), [], 1, 1, 1, 40, 0, 0),
  (yX11_cycleLength, cX11_cycleLength, 1, (some .int), [], 0, 0, 2, 62, 0, 0),
  (yX11_demand, cX11_demand, 4, (some .int), [], 0, 1, 2, 60, 0, 0),
  (yX11_divide, cX11_divide, 8, none, [], 0, 3, 3, 86, 0, 0),
  (yX11_drain, cX11_drain, 5, none, [], 1, 2, 2, 61, 0, 0),
  (yX11_emit, cX11_emit, 2, none, [], 0, 1, 2, 60, 0, 0),
  (yX11_enter, cX11_enter, 6, none, [], 1, 3, 2, 61, 0, 0),
  (yX11_errorOffset, cX11_errorOffset, 1, (some .int), [], 0, 0, 1, 40, 0, 0),
  (yX11_expect, cX11_expect, 2, none, [], 0, 1, 3, 81, 0, 0),
  (yX11_expected, cX11_expected, 3, (some .int), [], 0, 2, 7, 178, 0, 0),
  (yX11_factor, cX11_factor, 4, none, [], 0, 0, 12, 344, 0, 0),
  (yX11_fails, cX11_fails, 3, (some .boolean), [], 0, 2, 1, 40, 0, 0),
  (yX11_fairHours, cX11_fairHours, 9, (some .int), [], 0, 2, 3, 83, 0, 0),
  (yX11_field, cX11_field, 1, (some .int), [], 1, 1, 1, 40, 0, 0),
  (yX11_fieldCount, cX11_fieldCount, 1, (some .int), [], 0, 0, 1, 40, 0, 0),
  (yX11_findOpen, cX11_findOpen, 3, none, [], 0, 1, 4, 106, 0, 0),
  (yX11_fines, cX11_fines, 2, (some .int), [], 0, 1, 3, 83, 0, 0),
  (yX11_force, cX11_force, 4, (some .int), [], 0, 1, 3, 83, 0, 0),
  (yX11_guard, cX11_guard, 1, (some .int), [], 1, 1, 1, 40, 0, 0),
  (yX11_guardAt, cX11_guardAt, 1, (some .int), [], 0, 0, 2, 60, 0, 0),
  (yX11_hoursUntil, cX11_hoursUntil, 5, (some .int), [], 0, 2, 6, 154, 0, 0),
  (yX11_in, cX11_in, 3, (some .boolean), [], 1, 3, 1, 40, 0, 0)]
def calL2 : List Cal := [(yX11_inflow, cX11_inflow, 2, (some .int), [], 0, 1, 4, 112, 0, 0),
  (yX11_inflowOf, cX11_inflowOf, 8, (some .int), [], 0, 2, 3, 85, 0, 0),
  (yX11_init, cX11_init, 1, none, [], 2, 0, 1, 40, 16, 22059),
  (yX11_irrigate, cX11_irrigate, 9, (some .int), [], 0, 4, 2, 61, 0, 0),
  (yX11_isDigit, cX11_isDigit, 1, (some .boolean), [], 1, 1, 2, 62, 0, 0),
  (yX11_isForced, cX11_isForced, 2, (some .boolean), [], 0, 1, 3, 83, 0, 0),
  (yX11_isGood, cX11_isGood, 1, (some .boolean), [], 0, 0, 1, 40, 0, 0),
  (yX11_isOpen, cX11_isOpen, 2, (some .boolean), [], 0, 1, 4, 106, 0, 0),
  (yX11_limited, cX11_limited, 2, (some .long), [], 1, 1, 1, 40, 0, 0),
  (yX11_load, cX11_load, 3, (some .int), [], 0, 1, 35, 1351, 0, 0),
  (yX11_min, cX11_min, 2, (some .int), [], 1, 2, 1, 40, 0, 0),
  (yX11_next, cX11_next, 1, (some .int), [], 0, 0, 2, 61, 0, 0),
  (yX11_noCanal, cX11_noCanal, 2, (some .boolean), [], 0, 1, 2, 62, 0, 0),
  (yX11_noField, cX11_noField, 2, (some .boolean), [], 0, 1, 2, 62, 0, 0),
  (yX11_noVillage, cX11_noVillage, 2, (some .boolean), [], 0, 1, 2, 62, 0, 0),
  (yX11_number, cX11_number, 4, (some .int), [], 0, 2, 3, 82, 0, 0),
  (yX11_open, cX11_open, 2, (some .boolean), [], 1, 2, 3, 85, 0, 0),
  (yX11_operate, cX11_operate, 5, (some .long), [], 1, 3, 2, 61, 0, 0),
  (yX11_parent, cX11_parent, 2, (some .int), [], 0, 1, 3, 83, 0, 0),
  (yX11_patrol, cX11_patrol, 3, none, [], 1, 1, 2, 60, 0, 0),
  (yX11_readCanal, cX11_readCanal, 3, none, [], 0, 1, 12, 344, 0, 0),
  (yX11_readField, cX11_readField, 3, none, [], 0, 1, 12, 344, 0, 0),
  (yX11_readGuard, cX11_readGuard, 3, none, [], 0, 1, 4, 105, 0, 0),
  (yX11_readInflow, cX11_readInflow, 2, none, [], 0, 1, 33, 1309, 0, 0),
  (yX11_readTurn, cX11_readTurn, 3, none, [], 0, 1, 4, 105, 0, 0),
  (yX11_remember, cX11_remember, 2, none, [], 0, 0, 2, 62, 0, 0),
  (yX11_report, cX11_report, 3, none, [], 0, 2, 1, 40, 0, 0),
  (yX11_run, cX11_run, 4, (some .int), [], 0, 1, 6, 154, 0, 0),
  (yX11_simulate, cX11_simulate, 7, none, [], 0, 1, 5, 128, 0, 0),
  (yX11_statement, cX11_statement, 2, none, [], 0, 0, 34, 1330, 0, 0),
  (yX11_stolen, cX11_stolen, 2, (some .int), [], 0, 1, 3, 83, 0, 0),
  (yX11_sum, cX11_sum, 2, none, [], 0, 0, 14, 388, 0, 0),
  (yX11_suspect, cX11_suspect, 5, (some .int), [], 0, 3, 7, 178, 0, 0),
  (yX11_swapTurns, cX11_swapTurns, 5, (some .int), [], 0, 2, 3, 85, 0, 0),
  (yX11_takeWord, cX11_takeWord, 3, (some .boolean), [], 0, 1, 11, 322, 0, 0),
  (yX11_taken, cX11_taken, 2, (some .int), [], 0, 1, 3, 83, 0, 0),
  (yX11_takenByAll, cX11_takenByAll, 3, (some .int), [], 0, 0, 2, 60, 0, 0),
  (yX11_term, cX11_term, 2, none, [], 0, 0, 13, 367, 0, 0),
  (yX11_thrown, cX11_thrown, 1, (some .int), [], 0, 0, 1, 40, 0, 0),
  (yX11_total, cX11_total, 6, (some .long), [], 0, 1, 2, 62, 0, 0),
  (yX11_turn, cX11_turn, 4, (some .int), [], 1, 2, 2, 62, 0, 0),
  (yX11_turnAt, cX11_turnAt, 2, (some .int), [], 0, 1, 3, 85, 0, 0),
  (yX11_undo, cX11_undo, 1, (some .int), [], 0, 0, 2, 62, 0, 0),
  (yX11_water, cX11_water, 2, (some .int), [], 0, 1, 3, 83, 0, 0),
  (yX11_waterIn, cX11_waterIn, 3, (some .int), [], 0, 2, 3, 83, 0, 0),
  (yL_arrived, cL_arrived, 4, (some .int), [(0, 9, 12, 24)], 1, 3, 8, 131, 1, 6),
  (yL_expected, cL_expected, 5, (some .int), [(0, 10, 13, 24), (0, 10, 17, 13)], 1, 4, 8, 208, 2, 12),
  (yL_fairHours, cL_fairHours, 5, (some .int), [(0, 10, 13, 24), (0, 10, 17, 13)], 1, 4, 8, 133, 2, 12),
  (yL_fines, cL_fines, 4, (some .int), [(0, 9, 12, 24)], 1, 3, 8, 131, 1, 6),
  (yL_force, cL_force, 4, (some .int), [(0, 9, 12, 24), (0, 9, 15, 72)], 1, 3, 8, 193, 2, 12),
  (yL_hoursUntil, cL_hoursUntil, 5, (some .int), [(0, 10, 13, 24), (0, 10, 17, 13)], 1, 4, 8, 184, 2, 12),
  (yL_inflow, cL_inflow, 4, (some .int), [(0, 9, 12, 13)], 1, 3, 8, 132, 1, 6),
  (yL_isForced, cL_isForced, 4, (some .int), [(0, 16, 19, 24)], 1, 3, 8, 131, 1, 6),
  (yL_isOpen, cL_isOpen, 4, (some .int), [(0, 16, 19, 24)], 1, 3, 8, 131, 1, 6),
  (yL_load, cL_load, 0, none, [], 9, 0, 0, 0, 0, 0),
  (yL_load, cL_load, 4, (some .int), [(0, 9, 12, 13)], 1, 3, 36, 1375, 1, 6),
  (yL_parent, cL_parent, 4, (some .int), [(0, 9, 12, 24)], 1, 3, 8, 131, 1, 6),
  (yL_run, cL_run, 4, (some .int), [(0, 9, 12, 13), (0, 9, 15, 72)], 1, 3, 8, 195, 2, 12),
  (yL_stolen, cL_stolen, 4, (some .int), [(0, 9, 12, 24)], 1, 3, 8, 131, 1, 6),
  (yL_suspect, cL_suspect, 6, (some .int), [(0, 12, 15, 24), (0, 12, 19, 13)], 1, 5, 8, 210, 2, 12),
  (yL_swapTurns, cL_swapTurns, 5, (some .int), [(0, 10, 13, 24)], 1, 4, 8, 194, 2, 12),
  (yL_taken, cL_taken, 4, (some .int), [(0, 9, 12, 24)], 1, 3, 8, 131, 1, 6),
  (yL_total, cL_total, 4, (some .int), [(0, 8, 11, 13)], 1, 3, 8, 132, 1, 6),
  (yL_turnAt, cL_turnAt, 4, (some .int), [(0, 9, 12, 13)], 1, 3, 8, 132, 1, 6),
  (yL_water, cL_water, 4, (some .int), [(0, 9, 12, 24)], 1, 3, 8, 131, 1, 6),
  (yL_waterIn, cL_waterIn, 5, (some .int), [(0, 10, 13, 24), (0, 10, 17, 13)], 1, 4, 8, 133, 2, 12)]
def calL : List Cal := calL0 ++ calL1 ++ calL2
def calP : List (Nat × Nat × Nat × Nat) := [(516, 514, 515, 55), (938, 936, 937, 55), (473, 471, 472, 55), (973, 971, 972, 55), (132, 131, 0, 55), (969, 967, 968, 55), (952, 950, 951, 55), (943, 941, 942, 55), (947, 945, 946, 55), (965, 963, 964, 55), (930, 928, 929, 55), (519, 518, 0, 55), (885, 883, 884, 55), (486, 484, 485, 56), (1050, 1048, 1049, 56), (904, 903, 15, 56), (900, 898, 899, 56), (839, 837, 838, 56), (182, 181, 0, 56), (934, 932, 933, 56), (915, 913, 914, 56), (982, 980, 981, 56), (978, 976, 977, 56), (956, 954, 955, 56), (889, 887, 888, 56), (609, 607, 608, 59), (605, 603, 604, 59), (779, 778, 0, 59), (501, 499, 500, 59), (773, 771, 772, 59), (287, 286, 0, 59), (776, 775, 0, 59), (719, 717, 718, 58), (496, 494, 495, 58), (269, 268, 0, 58), (457, 455, 456, 58), (989, 987, 988, 58), (390, 389, 0, 61), (465, 463, 464, 61), (748, 746, 747, 61), (506, 504, 505, 60), (998, 996, 997, 60), (304, 303, 0, 60), (491, 489, 490, 57), (1061, 1059, 1060, 57), (242, 241, 0, 57), (762, 760, 761, 57), (742, 741, 14, 52), (684, 683, 3, 52), (87, 86, 0, 52), (680, 679, 2, 52), (733, 732, 12, 52), (704, 703, 7, 52), (715, 714, 9, 52), (698, 697, 6, 52), (694, 693, 5, 52), (689, 688, 4, 52), (597, 595, 596, 52), (623, 622, 1, 52), (725, 724, 10, 52), (729, 728, 11, 52), (710, 709, 8, 52), (737, 736, 13, 52), (994, 993, 18, 54), (469, 467, 468, 54), (961, 960, 17, 54), (925, 924, 16, 54), (601, 599, 600, 54), (126, 125, 0, 54), (919, 917, 918, 54), (429, 427, 428, 53), (613, 611, 612, 53), (93, 92, 0, 53), (628, 626, 627, 53), (618, 616, 617, 53), (425, 423, 424, 51), (828, 826, 827, 51), (437, 435, 436, 51), (511, 509, 510, 51), (445, 443, 444, 51), (476, 475, 0, 51), (449, 447, 448, 51), (433, 431, 432, 51), (1005, 1003, 1004, 51), (896, 894, 895, 51), (441, 439, 440, 51), (874, 872, 873, 51), (1046, 1044, 1045, 51), (1009, 1008, 19, 51), (453, 451, 452, 51), (911, 909, 910, 51), (769, 767, 768, 51), (79, 78, 0, 51), (846, 844, 845, 51), (835, 833, 834, 51), (527, 525, 526, 51), (796, 794, 795, 51), (799, 798, 0, 51), (530, 529, 0, 51), (1024, 1022, 1023, 51), (867, 865, 866, 51), (1016, 1014, 1015, 51), (1057, 1055, 1056, 51), (860, 858, 859, 51), (881, 879, 880, 51), (757, 755, 756, 51), (461, 459, 460, 51), (853, 851, 852, 51), (821, 819, 820, 51), (1135, 1133, 1134, 62), (1317, 1315, 1316, 62), (1401, 1400, 48, 62), (1158, 1157, 23, 62), (1176, 1175, 0, 62), (1254, 1252, 1253, 62), (1429, 1427, 1428, 62), (1262, 1260, 1261, 62), (1246, 1245, 0, 62), (1269, 1268, 0, 62), (1266, 1264, 1265, 62), (1364, 1363, 43, 62), (1387, 1386, 47, 62), (1390, 1389, 0, 62), (1239, 1238, 37, 62), (1379, 1378, 0, 62), (1250, 1248, 1249, 62), (1233, 1232, 36, 62), (1397, 1395, 1396, 62), (1229, 1228, 35, 62), (1146, 1145, 20, 62), (1360, 1358, 1359, 62), (1201, 1200, 0, 62), (1258, 1256, 1257, 62), (1376, 1375, 45, 62), (1348, 1346, 1347, 62), (1417, 1415, 1416, 62), (1301, 1300, 0, 62), (1298, 1296, 1297, 62), (1368, 1366, 1367, 62), (1142, 1141, 0, 62), (1281, 1279, 1280, 62), (1285, 1284, 39, 62), (1066, 1065, 0, 62), (1383, 1382, 46, 62), (1188, 1187, 0, 62), (1332, 1330, 1331, 62), (1150, 1149, 21, 62), (1321, 1319, 1320, 62), (1291, 1290, 0, 62), (1139, 1137, 1138, 62), (1192, 1191, 0, 62), (1154, 1153, 22, 62), (1309, 1308, 40, 62), (1325, 1324, 41, 62), (1352, 1351, 42, 62), (1185, 1184, 28, 62), (1328, 1327, 0, 62), (1288, 1287, 0, 62), (1305, 1303, 1304, 62), (1393, 1392, 0, 62), (1173, 1172, 26, 62), (1198, 1197, 29, 62), (1212, 1211, 31, 62), (1217, 1216, 32, 62), (1207, 1206, 30, 62), (1243, 1242, 38, 62), (1180, 1179, 27, 62), (1409, 1407, 1408, 62), (1372, 1371, 44, 62), (1162, 1161, 24, 62), (1344, 1342, 1343, 62), (1221, 1220, 33, 62), (1405, 1403, 1404, 62), (1421, 1419, 1420, 62), (1167, 1166, 25, 62), (1340, 1338, 1339, 62), (1413, 1412, 49, 62), (1225, 1224, 34, 62), (1131, 1129, 1130, 62), (1356, 1354, 1355, 62), (1277, 1276, 0, 62), (1273, 1271, 1272, 62), (1425, 1423, 1424, 62), (1336, 1334, 1335, 62), (1313, 1311, 1312, 62), (824, 823, 0, 50), (1001, 1000, 0, 50), (892, 891, 0, 50), (870, 869, 0, 50), (1042, 1041, 0, 50), (907, 906, 0, 50), (765, 764, 0, 50), (842, 841, 0, 50), (831, 830, 0, 50), (0, 0, 0, 0), (522, 521, 0, 50), (791, 790, 0, 50), (1019, 1018, 0, 50), (863, 862, 0, 50), (1012, 1011, 0, 50), (1053, 1052, 0, 50), (856, 855, 0, 50), (877, 876, 0, 50), (753, 752, 0, 50), (849, 848, 0, 50), (817, 816, 0, 50)]
def cal0 : Cal := (⟨"", "", ""⟩, ⟨#[]⟩, 0, none, [], 9, 0, 0, 0, 0, 0)
def calS : Cal := (⟨"java/lang/String", "length", "()I"⟩, prog_20_method_54_code, 1, some .int, [], 0, 0, 10, 300, 0, 0)
def calT : Cal := (⟨"java/lang/String", "charAt", "(I)C"⟩, prog_20_method_56_code, 2, some .char, [], 0, 1, 10, 300, 0, 0)
/-- the texts' length (900) and charAt (901); above 1000: so many levels of a recursion -/
def calB (id : Nat) : Cal := if id % 1000 = 900 then calS else if id % 1000 = 901 then calT else calL.getD (id % 1000) cal0
abbrev cY (id : Nat) : MethodName := (calB id).1
abbrev cC (id : Nat) : ByteArray := (calB id).2.1
abbrev cL9 (id : Nat) : Nat := (calB id).2.2.1
abbrev cR (id : Nat) : Option FieldType := (calB id).2.2.2.1
abbrev cH (id : Nat) : List (Nat × Nat × Nat × Nat) := (calB id).2.2.2.2.1
abbrev cD (id : Nat) : Nat := (calB id).2.2.2.2.2.1
abbrev cN (id : Nat) : Nat := (calB id).2.2.2.2.2.2.1
abbrev cF (id : Nat) : Nat := (calB id).2.2.2.2.2.2.2.1 + 3 * (id / 1000)
abbrev cO (id : Nat) : Nat := (calB id).2.2.2.2.2.2.2.2.1 + 150 * (id / 1000)
abbrev cM (id : Nat) : Nat := (calB id).2.2.2.2.2.2.2.2.2.1
abbrev cS (id : Nat) : Nat := (calB id).2.2.2.2.2.2.2.2.2.2
def cwd (id : Nat) : Cond := match cH id with
  | [] => .code (cY id) (cC id) (cL9 id) (cR id)
  | hh => .codeWith (cY id) (cC id) (cL9 id) (cR id) hh
def calC (id : Nat) (p : Nat × Nat × Nat × Nat) : Bool := at9 p.2.2.2 (.initialized (cY id).cls) && plainName (cY id).cls && decide ((cY id).cls ≠ "java/lang/invoke/MethodHandle") && decide ((cY id).cls ≠ "java/lang/invoke/VarHandle") && decide ((parseMethodDescriptor (cY id).desc).map (fun d => d.parameters.length) = some (cN id)) && (match cD id with
    | 0 => at9 p.2.1 (.instanceMethod (cY id)) && at9 p.2.2.1 (.selects (cY id).cls (cY id) (cY id)) && (cH id).isEmpty
    | 1 => at9 p.2.1 (.static (cY id))
    | 2 => at9 p.2.1 (.instanceMethod (cY id)) && decide ((cY id).name = "<init>") && decide (cR id = none) && (cH id).isEmpty
    | _ => false)
def calK (id : Nat) : Prop := cwd id ∈ TT ∧ ∃ p, calC id p = true
set_option maxRecDepth 100000 in
theorem ok_0 : calK 0 := ⟨TT_in 516 rfl rfl, (516, 514, 515, 55), by decide +kernel⟩
set_option maxRecDepth 100000 in
theorem ok_1 : calK 1 := ⟨TT_in 938 rfl rfl, (938, 936, 937, 55), by decide +kernel⟩
set_option maxRecDepth 100000 in
theorem ok_2 : calK 2 := ⟨TT_in 473 rfl rfl, (473, 471, 472, 55), by decide +kernel⟩
set_option maxRecDepth 100000 in
theorem ok_3 : calK 3 := ⟨TT_in 973 rfl rfl, (973, 971, 972, 55), by decide +kernel⟩
set_option maxRecDepth 100000 in
theorem ok_4 : calK 4 := ⟨TT_in 132 rfl rfl, (132, 131, 0, 55), by decide +kernel⟩
set_option maxRecDepth 100000 in
theorem ok_5 : calK 5 := ⟨TT_in 969 rfl rfl, (969, 967, 968, 55), by decide +kernel⟩
set_option maxRecDepth 100000 in
theorem ok_6 : calK 6 := ⟨TT_in 952 rfl rfl, (952, 950, 951, 55), by decide +kernel⟩
set_option maxRecDepth 100000 in
theorem ok_7 : calK 7 := ⟨TT_in 943 rfl rfl, (943, 941, 942, 55), by decide +kernel⟩
set_option maxRecDepth 100000 in
theorem ok_8 : calK 8 := ⟨TT_in 947 rfl rfl, (947, 945, 946, 55), by decide +kernel⟩
set_option maxRecDepth 100000 in
theorem ok_9 : calK 9 := ⟨TT_in 965 rfl rfl, (965, 963, 964, 55), by decide +kernel⟩
set_option maxRecDepth 100000 in
theorem ok_10 : calK 10 := ⟨TT_in 930 rfl rfl, (930, 928, 929, 55), by decide +kernel⟩
set_option maxRecDepth 100000 in
theorem ok_11 : calK 11 := ⟨TT_in 519 rfl rfl, (519, 518, 0, 55), by decide +kernel⟩
set_option maxRecDepth 100000 in
theorem ok_12 : calK 12 := ⟨TT_in 885 rfl rfl, (885, 883, 884, 55), by decide +kernel⟩
set_option maxRecDepth 100000 in
theorem ok_13 : calK 13 := ⟨TT_in 486 rfl rfl, (486, 484, 485, 56), by decide +kernel⟩
set_option maxRecDepth 100000 in
theorem ok_14 : calK 14 := ⟨TT_in 1050 rfl rfl, (1050, 1048, 1049, 56), by decide +kernel⟩
set_option maxRecDepth 100000 in
theorem ok_15 : calK 15 := ⟨TT_in 904 rfl rfl, (904, 903, 15, 56), by decide +kernel⟩
set_option maxRecDepth 100000 in
theorem ok_16 : calK 16 := ⟨TT_in 900 rfl rfl, (900, 898, 899, 56), by decide +kernel⟩
set_option maxRecDepth 100000 in
theorem ok_17 : calK 17 := ⟨TT_in 839 rfl rfl, (839, 837, 838, 56), by decide +kernel⟩
set_option maxRecDepth 100000 in
theorem ok_18 : calK 18 := ⟨TT_in 182 rfl rfl, (182, 181, 0, 56), by decide +kernel⟩
set_option maxRecDepth 100000 in
theorem ok_19 : calK 19 := ⟨TT_in 934 rfl rfl, (934, 932, 933, 56), by decide +kernel⟩
set_option maxRecDepth 100000 in
theorem ok_20 : calK 20 := ⟨TT_in 915 rfl rfl, (915, 913, 914, 56), by decide +kernel⟩
set_option maxRecDepth 100000 in
theorem ok_21 : calK 21 := ⟨TT_in 982 rfl rfl, (982, 980, 981, 56), by decide +kernel⟩
set_option maxRecDepth 100000 in
theorem ok_22 : calK 22 := ⟨TT_in 978 rfl rfl, (978, 976, 977, 56), by decide +kernel⟩
set_option maxRecDepth 100000 in
theorem ok_23 : calK 23 := ⟨TT_in 956 rfl rfl, (956, 954, 955, 56), by decide +kernel⟩
set_option maxRecDepth 100000 in
theorem ok_24 : calK 24 := ⟨TT_in 889 rfl rfl, (889, 887, 888, 56), by decide +kernel⟩
set_option maxRecDepth 100000 in
theorem ok_25 : calK 25 := ⟨TT_in 609 rfl rfl, (609, 607, 608, 59), by decide +kernel⟩
set_option maxRecDepth 100000 in
theorem ok_26 : calK 26 := ⟨TT_in 605 rfl rfl, (605, 603, 604, 59), by decide +kernel⟩
set_option maxRecDepth 100000 in
theorem ok_27 : calK 27 := ⟨TT_in 779 rfl rfl, (779, 778, 0, 59), by decide +kernel⟩
set_option maxRecDepth 100000 in
theorem ok_28 : calK 28 := ⟨TT_in 501 rfl rfl, (501, 499, 500, 59), by decide +kernel⟩
set_option maxRecDepth 100000 in
theorem ok_29 : calK 29 := ⟨TT_in 773 rfl rfl, (773, 771, 772, 59), by decide +kernel⟩
set_option maxRecDepth 100000 in
theorem ok_30 : calK 30 := ⟨TT_in 287 rfl rfl, (287, 286, 0, 59), by decide +kernel⟩
set_option maxRecDepth 100000 in
theorem ok_31 : calK 31 := ⟨TT_in 776 rfl rfl, (776, 775, 0, 59), by decide +kernel⟩
set_option maxRecDepth 100000 in
theorem ok_32 : calK 32 := ⟨TT_in 719 rfl rfl, (719, 717, 718, 58), by decide +kernel⟩
set_option maxRecDepth 100000 in
theorem ok_33 : calK 33 := ⟨TT_in 496 rfl rfl, (496, 494, 495, 58), by decide +kernel⟩
set_option maxRecDepth 100000 in
theorem ok_34 : calK 34 := ⟨TT_in 269 rfl rfl, (269, 268, 0, 58), by decide +kernel⟩
set_option maxRecDepth 100000 in
theorem ok_35 : calK 35 := ⟨TT_in 457 rfl rfl, (457, 455, 456, 58), by decide +kernel⟩
set_option maxRecDepth 100000 in
theorem ok_36 : calK 36 := ⟨TT_in 989 rfl rfl, (989, 987, 988, 58), by decide +kernel⟩
set_option maxRecDepth 100000 in
theorem ok_37 : calK 37 := ⟨TT_in 390 rfl rfl, (390, 389, 0, 61), by decide +kernel⟩
set_option maxRecDepth 100000 in
theorem ok_38 : calK 38 := ⟨TT_in 465 rfl rfl, (465, 463, 464, 61), by decide +kernel⟩
set_option maxRecDepth 100000 in
theorem ok_39 : calK 39 := ⟨TT_in 748 rfl rfl, (748, 746, 747, 61), by decide +kernel⟩
set_option maxRecDepth 100000 in
theorem ok_40 : calK 40 := ⟨TT_in 506 rfl rfl, (506, 504, 505, 60), by decide +kernel⟩
set_option maxRecDepth 100000 in
theorem ok_41 : calK 41 := ⟨TT_in 998 rfl rfl, (998, 996, 997, 60), by decide +kernel⟩
set_option maxRecDepth 100000 in
theorem ok_42 : calK 42 := ⟨TT_in 304 rfl rfl, (304, 303, 0, 60), by decide +kernel⟩
set_option maxRecDepth 100000 in
theorem ok_43 : calK 43 := ⟨TT_in 491 rfl rfl, (491, 489, 490, 57), by decide +kernel⟩
set_option maxRecDepth 100000 in
theorem ok_44 : calK 44 := ⟨TT_in 1061 rfl rfl, (1061, 1059, 1060, 57), by decide +kernel⟩
set_option maxRecDepth 100000 in
theorem ok_45 : calK 45 := ⟨TT_in 242 rfl rfl, (242, 241, 0, 57), by decide +kernel⟩
set_option maxRecDepth 100000 in
theorem ok_46 : calK 46 := ⟨TT_in 762 rfl rfl, (762, 760, 761, 57), by decide +kernel⟩
set_option maxRecDepth 100000 in
theorem ok_47 : calK 47 := ⟨TT_in 742 rfl rfl, (742, 741, 14, 52), by decide +kernel⟩
set_option maxRecDepth 100000 in
theorem ok_48 : calK 48 := ⟨TT_in 684 rfl rfl, (684, 683, 3, 52), by decide +kernel⟩
set_option maxRecDepth 100000 in
theorem ok_49 : calK 49 := ⟨TT_in 87 rfl rfl, (87, 86, 0, 52), by decide +kernel⟩
set_option maxRecDepth 100000 in
theorem ok_50 : calK 50 := ⟨TT_in 680 rfl rfl, (680, 679, 2, 52), by decide +kernel⟩
set_option maxRecDepth 100000 in
theorem ok_51 : calK 51 := ⟨TT_in 733 rfl rfl, (733, 732, 12, 52), by decide +kernel⟩
set_option maxRecDepth 100000 in
theorem ok_52 : calK 52 := ⟨TT_in 704 rfl rfl, (704, 703, 7, 52), by decide +kernel⟩
set_option maxRecDepth 100000 in
theorem ok_53 : calK 53 := ⟨TT_in 715 rfl rfl, (715, 714, 9, 52), by decide +kernel⟩
set_option maxRecDepth 100000 in
theorem ok_54 : calK 54 := ⟨TT_in 698 rfl rfl, (698, 697, 6, 52), by decide +kernel⟩
set_option maxRecDepth 100000 in
theorem ok_55 : calK 55 := ⟨TT_in 694 rfl rfl, (694, 693, 5, 52), by decide +kernel⟩
set_option maxRecDepth 100000 in
theorem ok_56 : calK 56 := ⟨TT_in 689 rfl rfl, (689, 688, 4, 52), by decide +kernel⟩
set_option maxRecDepth 100000 in
theorem ok_57 : calK 57 := ⟨TT_in 597 rfl rfl, (597, 595, 596, 52), by decide +kernel⟩
set_option maxRecDepth 100000 in
theorem ok_58 : calK 58 := ⟨TT_in 623 rfl rfl, (623, 622, 1, 52), by decide +kernel⟩
set_option maxRecDepth 100000 in
theorem ok_59 : calK 59 := ⟨TT_in 725 rfl rfl, (725, 724, 10, 52), by decide +kernel⟩
set_option maxRecDepth 100000 in
theorem ok_60 : calK 60 := ⟨TT_in 729 rfl rfl, (729, 728, 11, 52), by decide +kernel⟩
set_option maxRecDepth 100000 in
theorem ok_61 : calK 61 := ⟨TT_in 710 rfl rfl, (710, 709, 8, 52), by decide +kernel⟩
set_option maxRecDepth 100000 in
theorem ok_62 : calK 62 := ⟨TT_in 737 rfl rfl, (737, 736, 13, 52), by decide +kernel⟩
set_option maxRecDepth 100000 in
theorem ok_63 : calK 63 := ⟨TT_in 994 rfl rfl, (994, 993, 18, 54), by decide +kernel⟩
set_option maxRecDepth 100000 in
theorem ok_64 : calK 64 := ⟨TT_in 469 rfl rfl, (469, 467, 468, 54), by decide +kernel⟩
set_option maxRecDepth 100000 in
theorem ok_65 : calK 65 := ⟨TT_in 961 rfl rfl, (961, 960, 17, 54), by decide +kernel⟩
set_option maxRecDepth 100000 in
theorem ok_66 : calK 66 := ⟨TT_in 925 rfl rfl, (925, 924, 16, 54), by decide +kernel⟩
set_option maxRecDepth 100000 in
theorem ok_67 : calK 67 := ⟨TT_in 601 rfl rfl, (601, 599, 600, 54), by decide +kernel⟩
set_option maxRecDepth 100000 in
theorem ok_68 : calK 68 := ⟨TT_in 126 rfl rfl, (126, 125, 0, 54), by decide +kernel⟩
set_option maxRecDepth 100000 in
theorem ok_69 : calK 69 := ⟨TT_in 919 rfl rfl, (919, 917, 918, 54), by decide +kernel⟩
set_option maxRecDepth 100000 in
theorem ok_70 : calK 70 := ⟨TT_in 429 rfl rfl, (429, 427, 428, 53), by decide +kernel⟩
set_option maxRecDepth 100000 in
theorem ok_71 : calK 71 := ⟨TT_in 613 rfl rfl, (613, 611, 612, 53), by decide +kernel⟩
set_option maxRecDepth 100000 in
theorem ok_72 : calK 72 := ⟨TT_in 93 rfl rfl, (93, 92, 0, 53), by decide +kernel⟩
set_option maxRecDepth 100000 in
theorem ok_73 : calK 73 := ⟨TT_in 628 rfl rfl, (628, 626, 627, 53), by decide +kernel⟩
set_option maxRecDepth 100000 in
theorem ok_74 : calK 74 := ⟨TT_in 618 rfl rfl, (618, 616, 617, 53), by decide +kernel⟩
set_option maxRecDepth 100000 in
theorem ok_75 : calK 75 := ⟨TT_in 425 rfl rfl, (425, 423, 424, 51), by decide +kernel⟩
set_option maxRecDepth 100000 in
theorem ok_76 : calK 76 := ⟨TT_in 828 rfl rfl, (828, 826, 827, 51), by decide +kernel⟩
set_option maxRecDepth 100000 in
theorem ok_77 : calK 77 := ⟨TT_in 437 rfl rfl, (437, 435, 436, 51), by decide +kernel⟩
set_option maxRecDepth 100000 in
theorem ok_78 : calK 78 := ⟨TT_in 511 rfl rfl, (511, 509, 510, 51), by decide +kernel⟩
set_option maxRecDepth 100000 in
theorem ok_79 : calK 79 := ⟨TT_in 445 rfl rfl, (445, 443, 444, 51), by decide +kernel⟩
set_option maxRecDepth 100000 in
theorem ok_80 : calK 80 := ⟨TT_in 476 rfl rfl, (476, 475, 0, 51), by decide +kernel⟩
set_option maxRecDepth 100000 in
theorem ok_81 : calK 81 := ⟨TT_in 449 rfl rfl, (449, 447, 448, 51), by decide +kernel⟩
set_option maxRecDepth 100000 in
theorem ok_82 : calK 82 := ⟨TT_in 433 rfl rfl, (433, 431, 432, 51), by decide +kernel⟩
set_option maxRecDepth 100000 in
theorem ok_83 : calK 83 := ⟨TT_in 1005 rfl rfl, (1005, 1003, 1004, 51), by decide +kernel⟩
set_option maxRecDepth 100000 in
theorem ok_84 : calK 84 := ⟨TT_in 896 rfl rfl, (896, 894, 895, 51), by decide +kernel⟩
set_option maxRecDepth 100000 in
theorem ok_85 : calK 85 := ⟨TT_in 441 rfl rfl, (441, 439, 440, 51), by decide +kernel⟩
set_option maxRecDepth 100000 in
theorem ok_86 : calK 86 := ⟨TT_in 874 rfl rfl, (874, 872, 873, 51), by decide +kernel⟩
set_option maxRecDepth 100000 in
theorem ok_87 : calK 87 := ⟨TT_in 1046 rfl rfl, (1046, 1044, 1045, 51), by decide +kernel⟩
set_option maxRecDepth 100000 in
theorem ok_88 : calK 88 := ⟨TT_in 1009 rfl rfl, (1009, 1008, 19, 51), by decide +kernel⟩
set_option maxRecDepth 100000 in
theorem ok_89 : calK 89 := ⟨TT_in 453 rfl rfl, (453, 451, 452, 51), by decide +kernel⟩
set_option maxRecDepth 100000 in
theorem ok_90 : calK 90 := ⟨TT_in 911 rfl rfl, (911, 909, 910, 51), by decide +kernel⟩
set_option maxRecDepth 100000 in
theorem ok_91 : calK 91 := ⟨TT_in 769 rfl rfl, (769, 767, 768, 51), by decide +kernel⟩
set_option maxRecDepth 100000 in
theorem ok_92 : calK 92 := ⟨TT_in 79 rfl rfl, (79, 78, 0, 51), by decide +kernel⟩
set_option maxRecDepth 100000 in
theorem ok_93 : calK 93 := ⟨TT_in 846 rfl rfl, (846, 844, 845, 51), by decide +kernel⟩
set_option maxRecDepth 100000 in
theorem ok_94 : calK 94 := ⟨TT_in 835 rfl rfl, (835, 833, 834, 51), by decide +kernel⟩
set_option maxRecDepth 100000 in
theorem ok_95 : calK 95 := ⟨TT_in 527 rfl rfl, (527, 525, 526, 51), by decide +kernel⟩
set_option maxRecDepth 100000 in
theorem ok_96 : calK 96 := ⟨TT_in 796 rfl rfl, (796, 794, 795, 51), by decide +kernel⟩
set_option maxRecDepth 100000 in
theorem ok_97 : calK 97 := ⟨TT_in 799 rfl rfl, (799, 798, 0, 51), by decide +kernel⟩
set_option maxRecDepth 100000 in
theorem ok_98 : calK 98 := ⟨TT_in 530 rfl rfl, (530, 529, 0, 51), by decide +kernel⟩
set_option maxRecDepth 100000 in
theorem ok_99 : calK 99 := ⟨TT_in 1024 rfl rfl, (1024, 1022, 1023, 51), by decide +kernel⟩
set_option maxRecDepth 100000 in
theorem ok_100 : calK 100 := ⟨TT_in 867 rfl rfl, (867, 865, 866, 51), by decide +kernel⟩
set_option maxRecDepth 100000 in
theorem ok_101 : calK 101 := ⟨TT_in 1016 rfl rfl, (1016, 1014, 1015, 51), by decide +kernel⟩
set_option maxRecDepth 100000 in
theorem ok_102 : calK 102 := ⟨TT_in 1057 rfl rfl, (1057, 1055, 1056, 51), by decide +kernel⟩
set_option maxRecDepth 100000 in
theorem ok_103 : calK 103 := ⟨TT_in 860 rfl rfl, (860, 858, 859, 51), by decide +kernel⟩
set_option maxRecDepth 100000 in
theorem ok_104 : calK 104 := ⟨TT_in 881 rfl rfl, (881, 879, 880, 51), by decide +kernel⟩
set_option maxRecDepth 100000 in
theorem ok_105 : calK 105 := ⟨TT_in 757 rfl rfl, (757, 755, 756, 51), by decide +kernel⟩
set_option maxRecDepth 100000 in
theorem ok_106 : calK 106 := ⟨TT_in 461 rfl rfl, (461, 459, 460, 51), by decide +kernel⟩
set_option maxRecDepth 100000 in
theorem ok_107 : calK 107 := ⟨TT_in 853 rfl rfl, (853, 851, 852, 51), by decide +kernel⟩
set_option maxRecDepth 100000 in
theorem ok_108 : calK 108 := ⟨TT_in 821 rfl rfl, (821, 819, 820, 51), by decide +kernel⟩
set_option maxRecDepth 100000 in
theorem ok_109 : calK 109 := ⟨TT_in 1135 rfl rfl, (1135, 1133, 1134, 62), by decide +kernel⟩
set_option maxRecDepth 100000 in
theorem ok_110 : calK 110 := ⟨TT_in 1317 rfl rfl, (1317, 1315, 1316, 62), by decide +kernel⟩
set_option maxRecDepth 100000 in
theorem ok_111 : calK 111 := ⟨TT_in 1401 rfl rfl, (1401, 1400, 48, 62), by decide +kernel⟩
set_option maxRecDepth 100000 in
theorem ok_112 : calK 112 := ⟨TT_in 1158 rfl rfl, (1158, 1157, 23, 62), by decide +kernel⟩
set_option maxRecDepth 100000 in
theorem ok_113 : calK 113 := ⟨TT_in 1176 rfl rfl, (1176, 1175, 0, 62), by decide +kernel⟩
set_option maxRecDepth 100000 in
theorem ok_114 : calK 114 := ⟨TT_in 1254 rfl rfl, (1254, 1252, 1253, 62), by decide +kernel⟩
set_option maxRecDepth 100000 in
theorem ok_115 : calK 115 := ⟨TT_in 1429 rfl rfl, (1429, 1427, 1428, 62), by decide +kernel⟩
set_option maxRecDepth 100000 in
theorem ok_116 : calK 116 := ⟨TT_in 1262 rfl rfl, (1262, 1260, 1261, 62), by decide +kernel⟩
set_option maxRecDepth 100000 in
theorem ok_117 : calK 117 := ⟨TT_in 1246 rfl rfl, (1246, 1245, 0, 62), by decide +kernel⟩
set_option maxRecDepth 100000 in
theorem ok_118 : calK 118 := ⟨TT_in 1269 rfl rfl, (1269, 1268, 0, 62), by decide +kernel⟩
set_option maxRecDepth 100000 in
theorem ok_119 : calK 119 := ⟨TT_in 1266 rfl rfl, (1266, 1264, 1265, 62), by decide +kernel⟩
set_option maxRecDepth 100000 in
theorem ok_120 : calK 120 := ⟨TT_in 1364 rfl rfl, (1364, 1363, 43, 62), by decide +kernel⟩
set_option maxRecDepth 100000 in
theorem ok_121 : calK 121 := ⟨TT_in 1387 rfl rfl, (1387, 1386, 47, 62), by decide +kernel⟩
set_option maxRecDepth 100000 in
theorem ok_122 : calK 122 := ⟨TT_in 1390 rfl rfl, (1390, 1389, 0, 62), by decide +kernel⟩
set_option maxRecDepth 100000 in
theorem ok_123 : calK 123 := ⟨TT_in 1239 rfl rfl, (1239, 1238, 37, 62), by decide +kernel⟩
set_option maxRecDepth 100000 in
theorem ok_124 : calK 124 := ⟨TT_in 1379 rfl rfl, (1379, 1378, 0, 62), by decide +kernel⟩
set_option maxRecDepth 100000 in
theorem ok_125 : calK 125 := ⟨TT_in 1250 rfl rfl, (1250, 1248, 1249, 62), by decide +kernel⟩
set_option maxRecDepth 100000 in
theorem ok_126 : calK 126 := ⟨TT_in 1233 rfl rfl, (1233, 1232, 36, 62), by decide +kernel⟩
set_option maxRecDepth 100000 in
theorem ok_127 : calK 127 := ⟨TT_in 1397 rfl rfl, (1397, 1395, 1396, 62), by decide +kernel⟩
set_option maxRecDepth 100000 in
theorem ok_128 : calK 128 := ⟨TT_in 1229 rfl rfl, (1229, 1228, 35, 62), by decide +kernel⟩
set_option maxRecDepth 100000 in
theorem ok_129 : calK 129 := ⟨TT_in 1146 rfl rfl, (1146, 1145, 20, 62), by decide +kernel⟩
set_option maxRecDepth 100000 in
theorem ok_130 : calK 130 := ⟨TT_in 1360 rfl rfl, (1360, 1358, 1359, 62), by decide +kernel⟩
set_option maxRecDepth 100000 in
theorem ok_131 : calK 131 := ⟨TT_in 1201 rfl rfl, (1201, 1200, 0, 62), by decide +kernel⟩
set_option maxRecDepth 100000 in
theorem ok_132 : calK 132 := ⟨TT_in 1258 rfl rfl, (1258, 1256, 1257, 62), by decide +kernel⟩
set_option maxRecDepth 100000 in
theorem ok_133 : calK 133 := ⟨TT_in 1376 rfl rfl, (1376, 1375, 45, 62), by decide +kernel⟩
set_option maxRecDepth 100000 in
theorem ok_134 : calK 134 := ⟨TT_in 1348 rfl rfl, (1348, 1346, 1347, 62), by decide +kernel⟩
set_option maxRecDepth 100000 in
theorem ok_135 : calK 135 := ⟨TT_in 1417 rfl rfl, (1417, 1415, 1416, 62), by decide +kernel⟩
set_option maxRecDepth 100000 in
theorem ok_136 : calK 136 := ⟨TT_in 1301 rfl rfl, (1301, 1300, 0, 62), by decide +kernel⟩
set_option maxRecDepth 100000 in
theorem ok_137 : calK 137 := ⟨TT_in 1298 rfl rfl, (1298, 1296, 1297, 62), by decide +kernel⟩
set_option maxRecDepth 100000 in
theorem ok_138 : calK 138 := ⟨TT_in 1368 rfl rfl, (1368, 1366, 1367, 62), by decide +kernel⟩
set_option maxRecDepth 100000 in
theorem ok_139 : calK 139 := ⟨TT_in 1142 rfl rfl, (1142, 1141, 0, 62), by decide +kernel⟩
set_option maxRecDepth 100000 in
theorem ok_140 : calK 140 := ⟨TT_in 1281 rfl rfl, (1281, 1279, 1280, 62), by decide +kernel⟩
set_option maxRecDepth 100000 in
theorem ok_141 : calK 141 := ⟨TT_in 1285 rfl rfl, (1285, 1284, 39, 62), by decide +kernel⟩
set_option maxRecDepth 100000 in
theorem ok_142 : calK 142 := ⟨TT_in 1066 rfl rfl, (1066, 1065, 0, 62), by decide +kernel⟩
set_option maxRecDepth 100000 in
theorem ok_143 : calK 143 := ⟨TT_in 1383 rfl rfl, (1383, 1382, 46, 62), by decide +kernel⟩
set_option maxRecDepth 100000 in
theorem ok_144 : calK 144 := ⟨TT_in 1188 rfl rfl, (1188, 1187, 0, 62), by decide +kernel⟩
set_option maxRecDepth 100000 in
theorem ok_145 : calK 145 := ⟨TT_in 1332 rfl rfl, (1332, 1330, 1331, 62), by decide +kernel⟩
set_option maxRecDepth 100000 in
theorem ok_146 : calK 146 := ⟨TT_in 1150 rfl rfl, (1150, 1149, 21, 62), by decide +kernel⟩
set_option maxRecDepth 100000 in
theorem ok_147 : calK 147 := ⟨TT_in 1321 rfl rfl, (1321, 1319, 1320, 62), by decide +kernel⟩
set_option maxRecDepth 100000 in
theorem ok_148 : calK 148 := ⟨TT_in 1291 rfl rfl, (1291, 1290, 0, 62), by decide +kernel⟩
set_option maxRecDepth 100000 in
theorem ok_149 : calK 149 := ⟨TT_in 1139 rfl rfl, (1139, 1137, 1138, 62), by decide +kernel⟩
set_option maxRecDepth 100000 in
theorem ok_150 : calK 150 := ⟨TT_in 1192 rfl rfl, (1192, 1191, 0, 62), by decide +kernel⟩
set_option maxRecDepth 100000 in
theorem ok_151 : calK 151 := ⟨TT_in 1154 rfl rfl, (1154, 1153, 22, 62), by decide +kernel⟩
set_option maxRecDepth 100000 in
theorem ok_152 : calK 152 := ⟨TT_in 1309 rfl rfl, (1309, 1308, 40, 62), by decide +kernel⟩
set_option maxRecDepth 100000 in
theorem ok_153 : calK 153 := ⟨TT_in 1325 rfl rfl, (1325, 1324, 41, 62), by decide +kernel⟩
set_option maxRecDepth 100000 in
theorem ok_154 : calK 154 := ⟨TT_in 1352 rfl rfl, (1352, 1351, 42, 62), by decide +kernel⟩
set_option maxRecDepth 100000 in
theorem ok_155 : calK 155 := ⟨TT_in 1185 rfl rfl, (1185, 1184, 28, 62), by decide +kernel⟩
set_option maxRecDepth 100000 in
theorem ok_156 : calK 156 := ⟨TT_in 1328 rfl rfl, (1328, 1327, 0, 62), by decide +kernel⟩
set_option maxRecDepth 100000 in
theorem ok_157 : calK 157 := ⟨TT_in 1288 rfl rfl, (1288, 1287, 0, 62), by decide +kernel⟩
set_option maxRecDepth 100000 in
theorem ok_158 : calK 158 := ⟨TT_in 1305 rfl rfl, (1305, 1303, 1304, 62), by decide +kernel⟩
set_option maxRecDepth 100000 in
theorem ok_159 : calK 159 := ⟨TT_in 1393 rfl rfl, (1393, 1392, 0, 62), by decide +kernel⟩
set_option maxRecDepth 100000 in
theorem ok_160 : calK 160 := ⟨TT_in 1173 rfl rfl, (1173, 1172, 26, 62), by decide +kernel⟩
set_option maxRecDepth 100000 in
theorem ok_161 : calK 161 := ⟨TT_in 1198 rfl rfl, (1198, 1197, 29, 62), by decide +kernel⟩
set_option maxRecDepth 100000 in
theorem ok_162 : calK 162 := ⟨TT_in 1212 rfl rfl, (1212, 1211, 31, 62), by decide +kernel⟩
set_option maxRecDepth 100000 in
theorem ok_163 : calK 163 := ⟨TT_in 1217 rfl rfl, (1217, 1216, 32, 62), by decide +kernel⟩
set_option maxRecDepth 100000 in
theorem ok_164 : calK 164 := ⟨TT_in 1207 rfl rfl, (1207, 1206, 30, 62), by decide +kernel⟩
set_option maxRecDepth 100000 in
theorem ok_165 : calK 165 := ⟨TT_in 1243 rfl rfl, (1243, 1242, 38, 62), by decide +kernel⟩
set_option maxRecDepth 100000 in
theorem ok_166 : calK 166 := ⟨TT_in 1180 rfl rfl, (1180, 1179, 27, 62), by decide +kernel⟩
set_option maxRecDepth 100000 in
theorem ok_167 : calK 167 := ⟨TT_in 1409 rfl rfl, (1409, 1407, 1408, 62), by decide +kernel⟩
set_option maxRecDepth 100000 in
theorem ok_168 : calK 168 := ⟨TT_in 1372 rfl rfl, (1372, 1371, 44, 62), by decide +kernel⟩
set_option maxRecDepth 100000 in
theorem ok_169 : calK 169 := ⟨TT_in 1162 rfl rfl, (1162, 1161, 24, 62), by decide +kernel⟩
set_option maxRecDepth 100000 in
theorem ok_170 : calK 170 := ⟨TT_in 1344 rfl rfl, (1344, 1342, 1343, 62), by decide +kernel⟩
set_option maxRecDepth 100000 in
theorem ok_171 : calK 171 := ⟨TT_in 1221 rfl rfl, (1221, 1220, 33, 62), by decide +kernel⟩
set_option maxRecDepth 100000 in
theorem ok_172 : calK 172 := ⟨TT_in 1405 rfl rfl, (1405, 1403, 1404, 62), by decide +kernel⟩
set_option maxRecDepth 100000 in
theorem ok_173 : calK 173 := ⟨TT_in 1421 rfl rfl, (1421, 1419, 1420, 62), by decide +kernel⟩
set_option maxRecDepth 100000 in
theorem ok_174 : calK 174 := ⟨TT_in 1167 rfl rfl, (1167, 1166, 25, 62), by decide +kernel⟩
set_option maxRecDepth 100000 in
theorem ok_175 : calK 175 := ⟨TT_in 1340 rfl rfl, (1340, 1338, 1339, 62), by decide +kernel⟩
set_option maxRecDepth 100000 in
theorem ok_176 : calK 176 := ⟨TT_in 1413 rfl rfl, (1413, 1412, 49, 62), by decide +kernel⟩
set_option maxRecDepth 100000 in
theorem ok_177 : calK 177 := ⟨TT_in 1225 rfl rfl, (1225, 1224, 34, 62), by decide +kernel⟩
set_option maxRecDepth 100000 in
theorem ok_178 : calK 178 := ⟨TT_in 1131 rfl rfl, (1131, 1129, 1130, 62), by decide +kernel⟩
set_option maxRecDepth 100000 in
theorem ok_179 : calK 179 := ⟨TT_in 1356 rfl rfl, (1356, 1354, 1355, 62), by decide +kernel⟩
set_option maxRecDepth 100000 in
theorem ok_180 : calK 180 := ⟨TT_in 1277 rfl rfl, (1277, 1276, 0, 62), by decide +kernel⟩
set_option maxRecDepth 100000 in
theorem ok_181 : calK 181 := ⟨TT_in 1273 rfl rfl, (1273, 1271, 1272, 62), by decide +kernel⟩
set_option maxRecDepth 100000 in
theorem ok_182 : calK 182 := ⟨TT_in 1425 rfl rfl, (1425, 1423, 1424, 62), by decide +kernel⟩
set_option maxRecDepth 100000 in
theorem ok_183 : calK 183 := ⟨TT_in 1336 rfl rfl, (1336, 1334, 1335, 62), by decide +kernel⟩
set_option maxRecDepth 100000 in
theorem ok_184 : calK 184 := ⟨TT_in 1313 rfl rfl, (1313, 1311, 1312, 62), by decide +kernel⟩
set_option maxRecDepth 100000 in
theorem ok_185 : calK 185 := ⟨TT_in 824 rfl rfl, (824, 823, 0, 50), by decide +kernel⟩
set_option maxRecDepth 100000 in
theorem ok_186 : calK 186 := ⟨TT_in 1001 rfl rfl, (1001, 1000, 0, 50), by decide +kernel⟩
set_option maxRecDepth 100000 in
theorem ok_187 : calK 187 := ⟨TT_in 892 rfl rfl, (892, 891, 0, 50), by decide +kernel⟩
set_option maxRecDepth 100000 in
theorem ok_188 : calK 188 := ⟨TT_in 870 rfl rfl, (870, 869, 0, 50), by decide +kernel⟩
set_option maxRecDepth 100000 in
theorem ok_189 : calK 189 := ⟨TT_in 1042 rfl rfl, (1042, 1041, 0, 50), by decide +kernel⟩
set_option maxRecDepth 100000 in
theorem ok_190 : calK 190 := ⟨TT_in 907 rfl rfl, (907, 906, 0, 50), by decide +kernel⟩
set_option maxRecDepth 100000 in
theorem ok_191 : calK 191 := ⟨TT_in 765 rfl rfl, (765, 764, 0, 50), by decide +kernel⟩
set_option maxRecDepth 100000 in
theorem ok_192 : calK 192 := ⟨TT_in 842 rfl rfl, (842, 841, 0, 50), by decide +kernel⟩
set_option maxRecDepth 100000 in
theorem ok_193 : calK 193 := ⟨TT_in 831 rfl rfl, (831, 830, 0, 50), by decide +kernel⟩
set_option maxRecDepth 100000 in
theorem ok_195 : calK 195 := ⟨TT_in 522 rfl rfl, (522, 521, 0, 50), by decide +kernel⟩
set_option maxRecDepth 100000 in
theorem ok_196 : calK 196 := ⟨TT_in 791 rfl rfl, (791, 790, 0, 50), by decide +kernel⟩
set_option maxRecDepth 100000 in
theorem ok_197 : calK 197 := ⟨TT_in 1019 rfl rfl, (1019, 1018, 0, 50), by decide +kernel⟩
set_option maxRecDepth 100000 in
theorem ok_198 : calK 198 := ⟨TT_in 863 rfl rfl, (863, 862, 0, 50), by decide +kernel⟩
set_option maxRecDepth 100000 in
theorem ok_199 : calK 199 := ⟨TT_in 1012 rfl rfl, (1012, 1011, 0, 50), by decide +kernel⟩
set_option maxRecDepth 100000 in
theorem ok_200 : calK 200 := ⟨TT_in 1053 rfl rfl, (1053, 1052, 0, 50), by decide +kernel⟩
set_option maxRecDepth 100000 in
theorem ok_201 : calK 201 := ⟨TT_in 856 rfl rfl, (856, 855, 0, 50), by decide +kernel⟩
set_option maxRecDepth 100000 in
theorem ok_202 : calK 202 := ⟨TT_in 877 rfl rfl, (877, 876, 0, 50), by decide +kernel⟩
set_option maxRecDepth 100000 in
theorem ok_203 : calK 203 := ⟨TT_in 753 rfl rfl, (753, 752, 0, 50), by decide +kernel⟩
set_option maxRecDepth 100000 in
theorem ok_204 : calK 204 := ⟨TT_in 849 rfl rfl, (849, 848, 0, 50), by decide +kernel⟩
set_option maxRecDepth 100000 in
theorem ok_205 : calK 205 := ⟨TT_in 817 rfl rfl, (817, 816, 0, 50), by decide +kernel⟩
set_option maxRecDepth 100000 in
theorem ok_900 : calK 900 := ⟨TT_in 632 rfl rfl, (632, 630, 631, 68), by decide +kernel⟩
set_option maxRecDepth 100000 in
theorem ok_901 : calK 901 := ⟨TT_in 642 rfl rfl, (642, 640, 641, 68), by decide +kernel⟩
def mlk : List (Nat × Nat × Nat) := [(12, 80, 92), (8, 41, 30), (10, 28, 37), (12, 84, 75), (10, 46, 70), (12, 99, 82), (12, 103, 77), (12, 107, 85), (12, 111, 79), (12, 115, 81), (12, 125, 89), (10, 117, 35), (12, 182, 106), (10, 205, 38), (4, 22, 64), (8, 72, 2), (8, 76, 13), (8, 79, 43), (8, 82, 33), (8, 85, 28), (8, 88, 40), (12, 186, 78), (10, 131, 0), (0, 45, 11), (12, 89, 195), (12, 7, 95), (10, 50, 98), (10, 54, 57), (7, 25, 67), (8, 65, 26), (8, 68, 25), (7, 39, 71), (9, 31, 74), (7, 46, 58), (7, 55, 73), (9, 44, 900), (9, 49, 901), (7, 63, 50), (7, 118, 48), (7, 112, 74), (7, 130, 56), (7, 151, 55), (7, 137, 54), (7, 73, 52), (7, 83, 61), (7, 97, 53), (7, 192, 32), (7, 107, 26), (7, 115, 59), (7, 198, 60), (7, 204, 51), (7, 49, 62), (7, 209, 47), (7, 201, 25), (10, 61, 39), (10, 68, 64), (12, 119, 203), (12, 15, 105), (10, 100, 46), (12, 122, 191), (12, 18, 91), (10, 107, 29), (2, 29, 31), (2, 33, 27), (12, 129, 196), (12, 21, 96), (10, 123, 97), (12, 132, 205), (12, 26, 108), (12, 136, 185), (12, 30, 76), (12, 139, 193), (12, 33, 94), (10, 138, 17), (12, 142, 192), (12, 37, 93), (12, 145, 204), (12, 40, 107), (12, 148, 201), (12, 43, 103), (12, 151, 198), (12, 46, 100), (12, 154, 188), (12, 49, 86), (12, 157, 202), (12, 52, 104), (10, 168, 12), (10, 172, 24), (12, 160, 187), (12, 56, 84), (10, 182, 16), (1, 79, 15), (12, 163, 190), (12, 59, 90), (10, 185, 20), (10, 189, 69), (8, 94, 46), (8, 98, 29), (8, 106, 66), (8, 171, 10), (8, 110, 19), (1, 54, 1), (1, 59, 17), (1, 63, 7), (1, 67, 8), (0, 49, 7), (8, 114, 6), (8, 117, 23), (8, 121, 65), (8, 143, 9), (0, 53, 5), (8, 146, 3), (8, 149, 5), (8, 127, 22), (8, 133, 21), (8, 136, 36), (3, 26, 35), (8, 140, 63), (8, 185, 41), (12, 166, 186), (12, 62, 83), (10, 192, 88), (12, 169, 199), (12, 65, 101), (12, 173, 197), (12, 69, 99), (12, 176, 189), (12, 74, 87), (10, 198, 14), (12, 179, 200), (12, 77, 102), (10, 202, 44), (12, 83, 142), (12, 95, 178), (12, 88, 109), (12, 94, 149), (11, 64, 139), (11, 169, 129), (11, 68, 146), (11, 72, 151), (11, 54, 112), (11, 173, 169), (11, 113, 174), (11, 76, 900), (11, 81, 901), (11, 146, 160), (11, 133, 113), (11, 85, 166), (11, 121, 155), (11, 89, 144), (11, 97, 150), (11, 150, 161), (11, 140, 131), (11, 153, 164), (11, 158, 162), (11, 163, 163), (11, 104, 171), (11, 130, 177), (11, 127, 128), (11, 107, 126), (11, 124, 123), (11, 176, 165), (11, 179, 117), (12, 102, 125), (12, 106, 114), (12, 110, 132), (12, 114, 116), (12, 118, 119), (11, 183, 118), (12, 121, 181), (11, 195, 180), (12, 124, 140), (11, 205, 141), (11, 198, 157), (11, 191, 148), (12, 128, 137), (11, 208, 136), (12, 131, 158), (11, 236, 152), (12, 135, 184), (12, 138, 110), (12, 141, 147), (11, 239, 153), (11, 210, 156), (12, 144, 145), (12, 147, 183), (12, 150, 175), (12, 153, 170), (12, 156, 134), (11, 242, 154), (12, 159, 179), (12, 162, 130), (11, 245, 120), (12, 165, 138), (11, 248, 168), (11, 218, 133), (11, 214, 124), (11, 222, 143), (11, 226, 121), (11, 229, 122), (11, 233, 159), (12, 168, 127), (11, 251, 111), (12, 172, 172), (12, 175, 167), (11, 257, 176), (12, 178, 135), (12, 181, 173), (12, 185, 182), (12, 190, 115)]
def mlkp : List Nat := [77, 285, 388, 422, 426, 430, 434, 438, 442, 446, 450, 454, 458, 462, 466, 470, 483, 488, 493, 498, 503, 508, 513, 517, 520, 524, 528, 594, 598, 602, 606, 610, 615, 620, 625, 629, 639, 677, 681, 685, 686, 691, 695, 701, 707, 712, 716, 721, 722, 726, 730, 734, 739, 743, 745, 750, 751, 754, 759, 763, 766, 770, 774, 777, 789, 793, 797, 815, 818, 822, 825, 829, 832, 836, 840, 843, 847, 850, 854, 857, 861, 864, 868, 871, 875, 878, 882, 886, 890, 893, 897, 901, 905, 908, 912, 916, 920, 921, 922, 927, 931, 935, 939, 940, 944, 948, 949, 953, 958, 962, 966, 970, 974, 975, 979, 986, 990, 991, 995, 999, 1002, 1006, 1010, 1013, 1017, 1021, 1040, 1043, 1047, 1051, 1054, 1058, 1064, 1128, 1132, 1136, 1140, 1143, 1147, 1151, 1155, 1159, 1164, 1168, 1169, 1170, 1174, 1177, 1182, 1186, 1190, 1195, 1199, 1204, 1209, 1214, 1218, 1222, 1226, 1230, 1236, 1240, 1244, 1247, 1251, 1255, 1259, 1263, 1267, 1270, 1275, 1278, 1282, 1286, 1289, 1295, 1299, 1302, 1306, 1310, 1314, 1318, 1322, 1326, 1329, 1333, 1337, 1341, 1345, 1349, 1353, 1357, 1361, 1365, 1369, 1373, 1377, 1380, 1384, 1388, 1391, 1394, 1398, 1402, 1406, 1410, 1414, 1418, 1422, 1426]
set_option maxRecDepth 100000 in
theorem mlk_all : (mlk.zip mlkp).all (fun q => at9 q.2 ((fun q : Nat × Nat × Nat => (.methodLink (xR q.1) q.2.1 (cY q.2.2))) q.1)) = true := by decide +kernel
theorem mlk_in : ∀ q ∈ mlk, (.methodLink (xR q.1) q.2.1 (cY q.2.2) : Cond) ∈ TT := zip_in (by decide +kernel) mlk_all
def nlk : List (Nat × Nat × Nat) := [(10, 9, 49), (7, 11, 72), (7, 20, 68), (8, 11, 4), (8, 20, 18), (8, 27, 45), (8, 34, 34), (8, 48, 42), (10, 18, 68), (4, 17, 68), (0, 37, 80), (1, 46, 80), (6, 18, 80), (3, 15, 80), (5, 15, 80)]
def nlkp : List Nat := [85, 91, 124, 130, 180, 240, 267, 302, 385, 394, 474, 487, 492, 497, 507]
set_option maxRecDepth 100000 in
theorem nlk_all : (nlk.zip nlkp).all (fun q => at9 q.2 ((fun q : Nat × Nat × Nat => (.methodLinkNest (xR q.1) q.2.1 (cY q.2.2) "IrrigationTurns")) q.1)) = true := by decide +kernel
theorem nlk_in : ∀ q ∈ nlk, (.methodLinkNest (xR q.1) q.2.1 (cY q.2.2) "IrrigationTurns" : Cond) ∈ TT := zip_in (by decide +kernel) nlk_all
def olk : List (Nat × Nat) := [(10, 1), (7, 3), (9, 3), (8, 3), (0, 3), (1, 3), (6, 3), (3, 3), (2, 3), (5, 3), (4, 3), (11, 3)]
def olkp : List Nat := [80, 88, 94, 127, 133, 183, 243, 270, 288, 305, 391, 1067]
set_option maxRecDepth 100000 in
theorem olk_all : (olk.zip olkp).all (fun q => at9 q.2 ((fun q : Nat × Nat => (.methodLink (xR q.1) q.2 objectInit)) q.1)) = true := by decide +kernel
theorem olk_in : ∀ q ∈ olk, (.methodLink (xR q.1) q.2 objectInit : Cond) ∈ TT := zip_in (by decide +kernel) olk_all
def minlk : List (Nat × Nat) := [(10, 221), (9, 19), (4, 29), (8, 160), (1, 70)]
def minlkp : List Nat := [477, 614, 749, 926, 957]
set_option maxRecDepth 100000 in
theorem minlk_all : (minlk.zip minlkp).all (fun q => at9 q.2 ((fun q : Nat × Nat => (.methodLink (xR q.1) q.2 Lib.Math.min.name)) q.1)) = true := by decide +kernel
theorem minlk_in : ∀ q ∈ minlk, (.methodLink (xR q.1) q.2 Lib.Math.min.name : Cond) ∈ TT := zip_in (by decide +kernel) minlk_all
def maxlk : List (Nat × Nat) := [(1, 76)]
def maxlkp : List Nat := [983]
set_option maxRecDepth 100000 in
theorem maxlk_all : (maxlk.zip maxlkp).all (fun q => at9 q.2 ((fun q : Nat × Nat => (.methodLink (xR q.1) q.2 Lib.Math.max.name)) q.1)) = true := by decide +kernel
theorem maxlk_in : ∀ q ∈ maxlk, (.methodLink (xR q.1) q.2 Lib.Math.max.name : Cond) ∈ TT := zip_in (by decide +kernel) maxlk_all
def mnllk : List (Nat × Nat) := [(2, 41)]
def mnllkp : List Nat := [782]
set_option maxRecDepth 100000 in
theorem mnllk_all : (mnllk.zip mnllkp).all (fun q => at9 q.2 ((fun q : Nat × Nat => (.methodLink (xR q.1) q.2 ⟨"java/lang/Math", "min", "(JJ)J"⟩)) q.1)) = true := by decide +kernel
theorem mnllk_in : ∀ q ∈ mnllk, (.methodLink (xR q.1) q.2 ⟨"java/lang/Math", "min", "(JJ)J"⟩ : Cond) ∈ TT := zip_in (by decide +kernel) mnllk_all
def mxllk : List (Nat × Nat) := [(2, 47)]
def mxllkp : List Nat := [785]
set_option maxRecDepth 100000 in
theorem mxllk_all : (mxllk.zip mxllkp).all (fun q => at9 q.2 ((fun q : Nat × Nat => (.methodLink (xR q.1) q.2 ⟨"java/lang/Math", "max", "(JJ)J"⟩)) q.1)) = true := by decide +kernel
theorem mxllk_in : ∀ q ∈ mxllk, (.methodLink (xR q.1) q.2 ⟨"java/lang/Math", "max", "(JJ)J"⟩ : Cond) ∈ TT := zip_in (by decide +kernel) mxllk_all
def cplk : List (Nat × Nat) := [(10, 226), (2, 23)]
def cplkp : List Nat := [480, 502]
set_option maxRecDepth 100000 in
theorem cplk_all : (cplk.zip cplkp).all (fun q => at9 q.2 ((fun q : Nat × Nat => (.methodLink (xR q.1) q.2 arraycopyName)) q.1)) = true := by decide +kernel
theorem cplk_in : ∀ q ∈ cplk, (.methodLink (xR q.1) q.2 arraycopyName : Cond) ∈ TT := zip_in (by decide +kernel) cplk_all
def ilk : List (Nat × Nat × Int32) := [(9, 43, 1000000), (10, 99, 100000), (11, 96, 1000000), (11, 204, 100000)]
def ilkp : List Nat := [619, 758, 1189, 1274]
set_option maxRecDepth 100000 in
theorem ilk_all : (ilk.zip ilkp).all (fun q => at9 q.2 ((fun q : Nat × Nat × Int32 => (.constant (xR q.1) q.2.1 q.2.2)) q.1)) = true := by decide +kernel
theorem ilk_in : ∀ q ∈ ilk, (.constant (xR q.1) q.2.1 q.2.2 : Cond) ∈ TT := zip_in (by decide +kernel) ilk_all
def llk : List (Nat × Nat × Int64) := [(10, 213, 31), (2, 37, -1000000000), (2, 39, 1000000000), (2, 50, 9999), (11, 187, 1000000000), (11, 189, -1000000000), (11, 202, 9999), (11, 260, 31)]
def llkp : List Nat := [512, 780, 781, 788, 1292, 1293, 1294, 1430]
set_option maxRecDepth 100000 in
theorem llk_all : (llk.zip llkp).all (fun q => at9 q.2 ((fun q : Nat × Nat × Int64 => (.constantLong (xR q.1) q.2.1 q.2.2)) q.1)) = true := by decide +kernel
theorem llk_in : ∀ q ∈ llk, (.constantLong (xR q.1) q.2.1 q.2.2 : Cond) ∈ TT := zip_in (by decide +kernel) llk_all
def clk : List (Nat × Nat × Nat) := [(12, 8, 10), (10, 7, 7), (7, 9, 9), (7, 18, 8), (8, 9, 0), (8, 18, 1), (8, 25, 6), (8, 32, 3), (8, 39, 2), (8, 46, 5), (10, 16, 8), (10, 26, 4), (4, 9, 8), (12, 81, 11)]
def clkp : List Nat := [75, 83, 89, 122, 128, 178, 238, 265, 283, 300, 384, 386, 392, 1062]
set_option maxRecDepth 100000 in
theorem clk_all : (clk.zip clkp).all (fun q => at9 q.2 ((fun q : Nat × Nat × Nat => (.classLink (xR q.1) q.2.1 (xR q.2.2))) q.1)) = true := by decide +kernel
theorem clk_in : ∀ q ∈ clk, (.classLink (xR q.1) q.2.1 (xR q.2.2) : Cond) ∈ TT := zip_in (by decide +kernel) clk_all
def elk : List (Nat × Nat × Nat) := [(12, 13, 0), (10, 218, 0), (12, 24, 1), (10, 215, 1), (12, 72, 2), (10, 195, 2)]
def elkp : List Nat := [523, 531, 792, 800, 1020, 1025]
set_option maxRecDepth 100000 in
theorem elk_all : (elk.zip elkp).all (fun q => at9 q.2 ((fun q : Nat × Nat × Nat => (.classLink (xR q.1) q.2.1 (xE q.2.2))) q.1)) = true := by decide +kernel
theorem elk_in : ∀ q ∈ elk, (.classLink (xR q.1) q.2.1 (xE q.2.2) : Cond) ∈ TT := zip_in (by decide +kernel) elk_all
def inlk : List (Nat) := [10, 7, 9, 8, 0, 1, 6, 3, 2, 5, 4, 11]
def inlkp : List Nat := [76, 84, 90, 123, 129, 179, 239, 266, 284, 301, 387, 1063]
set_option maxRecDepth 100000 in
theorem inlk_all : (inlk.zip inlkp).all (fun q => at9 q.2 ((fun q : Nat => (.instantiable (xR q) (xN q))) q.1)) = true := by decide +kernel
theorem inlk_in : ∀ q ∈ inlk, (.instantiable (xR q) (xN q) : Cond) ∈ TT := zip_in (by decide +kernel) inlk_all
def iilk : List (Nat) := [12, 10, 7, 9, 8, 0, 1, 6, 3, 2, 5, 4, 11]
def iilkp : List Nat := [50, 51, 52, 53, 54, 55, 56, 57, 58, 59, 60, 61, 62]
set_option maxRecDepth 100000 in
theorem iilk_all : (iilk.zip iilkp).all (fun q => at9 q.2 ((fun q : Nat => (.initialized (xR q))) q.1)) = true := by decide +kernel
theorem iilk_in : ∀ q ∈ iilk, (.initialized (xR q) : Cond) ∈ TT := zip_in (by decide +kernel) iilk_all
theorem w_oi : Cond.instanceMethod objectInit ∈ TT := at9_in (i := 81) (by decide +kernel)
theorem w_oc : Cond.code objectInit ⟨#[0xb1]⟩ 1 none ∈ TT := at9_in (i := 82) (by decide +kernel)
theorem w_mins : Cond.static Lib.Math.min.name ∈ TT := at9_in (i := 478) (by decide +kernel)
theorem w_minc : Cond.code Lib.Math.min.name Lib.Math.min.code 2 (some .int) ∈ TT := at9_in (i := 479) (by decide +kernel)
theorem w_maxs : Cond.static Lib.Math.max.name ∈ TT := at9_in (i := 984) (by decide +kernel)
theorem w_maxc : Cond.code Lib.Math.max.name Lib.Math.max.code 2 (some .int) ∈ TT := at9_in (i := 985) (by decide +kernel)
theorem w_mi : Cond.initialized "java/lang/Math" ∈ TT := at9_in (i := 67) (by decide +kernel)
theorem w_mnls : Cond.static ⟨"java/lang/Math", "min", "(JJ)J"⟩ ∈ TT := at9_in (i := 783) (by decide +kernel)
theorem w_mnlc : Cond.code ⟨"java/lang/Math", "min", "(JJ)J"⟩ prog_18_method_70_code 4 (some .long) ∈ TT := at9_in (i := 784) (by decide +kernel)
theorem w_mxls : Cond.static ⟨"java/lang/Math", "max", "(JJ)J"⟩ ∈ TT := at9_in (i := 786) (by decide +kernel)
theorem w_mxlc : Cond.code ⟨"java/lang/Math", "max", "(JJ)J"⟩ prog_18_method_66_code 4 (some .long) ∈ TT := at9_in (i := 787) (by decide +kernel)
theorem w_cn : Cond.native arraycopyName ∈ TT := at9_in (i := 482) (by decide +kernel)
theorem w_cs : Cond.static arraycopyName ∈ TT := at9_in (i := 481) (by decide +kernel)
theorem w_ci : Cond.initialized "java/lang/System" ∈ TT := at9_in (i := 72) (by decide +kernel)
theorem w_aint : Cond.arrayClass .int ∈ TT := at9_in (i := 176) (by decide +kernel)
theorem w_aboolean : Cond.arrayClass .boolean ∈ TT := at9_in (i := 177) (by decide +kernel)
theorem w_abyte : Cond.arrayClass .byte ∈ TT := at9_in (i := 121) (by decide +kernel)
theorem w_along : Cond.arrayClass .long ∈ TT := at9_in (i := 299) (by decide +kernel)
theorem w_e0 : Cond.initialized "java/lang/IllegalArgumentException" ∈ TT := at9_in (i := 66) (by decide +kernel)
theorem w_e1 : Cond.initialized "java/lang/IndexOutOfBoundsException" ∈ TT := at9_in (i := 73) (by decide +kernel)
theorem w_e2 : Cond.initialized "java/lang/IllegalStateException" ∈ TT := at9_in (i := 74) (by decide +kernel)
