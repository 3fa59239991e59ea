/-! EVERY METHOD OF THE TABLE IS WHAT THE TABLES SAY; THE LAW TOO -/
theorem cg_0 (j : Nat) (M : mMR) (hj : mM_0[j]? = some M) : g_M M ∧ g_MW M := by
  match j, hj with
  | 0, hj => have hj : some (yX0_init, cX0_init, 1, none, 0, 0, 0, kX0_init) = some M := hj; cases hj; exact g_of_okM ck_0_0
  | 1, hj => have hj : some (yX0_isFull, cX0_isFull, 1, (some .boolean), 0, 0, 0, kX0_isFull) = some M := hj; cases hj; exact g_of_okM ck_0_1
  | 2, hj => have hj : some (yX0_has, cX0_has, 2, (some .boolean), 0, 0, 1, kX0_has) = some M := hj; cases hj; exact g_of_okM ck_0_2
  | 3, hj => have hj : some (yX0_add, cX0_add, 2, (some .int), 0, 0, 1, kX0_add) = some M := hj; cases hj; exact g_of_okM ck_0_3
  | 4, hj => have hj : some (yX0_learn, cX0_learn, 3, none, 0, 0, 2, kX0_learn) = some M := hj; cases hj; exact g_of_okM ck_0_4
  | 5, hj => have hj : some (yX0_learnTroubles, cX0_learnTroubles, 8, none, 0, 0, 4, kX0_learnTroubles) = some M := hj; cases hj; exact g_of_okM ck_0_5
  | 6, hj => have hj : some (yX0_setDays, cX0_setDays, 2, none, 0, 0, 1, kX0_setDays) = some M := hj; cases hj; exact g_of_okM ck_0_6
  | 7, hj => have hj : some (yX0_setAll, cX0_setAll, 3, none, 0, 0, 2, kX0_setAll) = some M := hj; cases hj; exact g_of_okM ck_0_7
  | 8, hj => have hj : some (yX0_amount, cX0_amount, 3, (some .int), 0, 0, 1, kX0_amount) = some M := hj; cases hj; exact g_of_okM ck_0_8
  | 9, hj => have hj : some (yX0_inForce, cX0_inForce, 8, (some .int), 0, 0, 3, kX0_inForce) = some M := hj; cases hj; exact g_of_okM ck_0_9
  | 10, hj => have hj : some (yX1_init, cX1_init, 6, none, 1, 0, 5, kX1_init) = some M := hj; cases hj; exact g_of_okM ck_0_10
  | 11, hj => have hj : some (yX1_standsFor, cX1_standsFor, 2, (some .boolean), 1, 0, 1, kX1_standsFor) = some M := hj; cases hj; exact g_of_okM ck_0_11
  | 12, hj => have hj : some (yX2_init, cX2_init, 1, none, 2, 0, 0, kX2_init) = some M := hj; cases hj; exact g_of_okM ck_0_12
  | 13, hj => have hj : some (yX2_addTrack, cX2_addTrack, 4, (some .int), 2, 0, 3, kX2_addTrack) = some M := hj; cases hj; exact g_of_okM ck_0_13
  | 14, hj => have hj : some (yX2_countsFor, cX2_countsFor, 3, (some .boolean), 2, 0, 2, kX2_countsFor) = some M := hj; cases hj; exact g_of_okM ck_0_14
  | 15, hj => have hj : some (yX2_elsewhere, cX2_elsewhere, 3, (some .int), 2, 0, 1, kX2_elsewhere) = some M := hj; cases hj; exact g_of_okM ck_0_15
  | n + 16, hj => cases hj
theorem cg_1 (j : Nat) (M : mMR) (hj : mM_1[j]? = some M) : g_M M ∧ g_MW M := by
  match j, hj with
  | 0, hj => have hj : some (yX2_firstElsewhere, cX2_firstElsewhere, 3, (some .int), 2, 0, 1, kX2_firstElsewhere) = some M := hj; cases hj; exact g_of_okM ck_1_0
  | 1, hj => have hj : some (yX2_lastThere, cX2_lastThere, 3, (some .int), 2, 0, 1, kX2_lastThere) = some M := hj; cases hj; exact g_of_okM ck_1_1
  | 2, hj => have hj : some (yX2_beginBreak, cX2_beginBreak, 3, (some .boolean), 2, 0, 2, kX2_beginBreak) = some M := hj; cases hj; exact g_of_okM ck_1_2
  | 3, hj => have hj : some (yX2_endBreak, cX2_endBreak, 4, none, 2, 0, 2, kX2_endBreak) = some M := hj; cases hj; exact g_of_okM ck_1_3
  | 4, hj => have hj : some (yX2_hoursBroken, cX2_hoursBroken, 7, (some .int), 2, 0, 3, kX2_hoursBroken) = some M := hj; cases hj; exact g_of_okM ck_1_4
  | 5, hj => have hj : some (yX3_init, cX3_init, 1, none, 3, 0, 0, kX3_init) = some M := hj; cases hj; exact g_of_okM ck_1_5
  | 6, hj => have hj : some (yX3_isPromised, cX3_isPromised, 1, (some .boolean), 3, 1, 1, kX3_isPromised) = some M := hj; cases hj; exact g_of_okM ck_1_6
  | 7, hj => have hj : some (yX3_joins, cX3_joins, 3, (some .boolean), 3, 0, 1, kX3_joins) = some M := hj; cases hj; exact g_of_okM ck_1_7
  | 8, hj => have hj : some (yX3_add, cX3_add, 2, (some .int), 3, 0, 1, kX3_add) = some M := hj; cases hj; exact g_of_okM ck_1_8
  | 9, hj => have hj : some (yX3_drive, cX3_drive, 8, (some .int), 3, 0, 1, kX3_drive) = some M := hj; cases hj; exact g_of_okM ck_1_9
  | 10, hj => have hj : some (yX3_rowAt, cX3_rowAt, 2, (some (.object "HireYard$Machine")), 3, 0, 1, kX3_rowAt) = some M := hj; cases hj; exact g_of_okM ck_1_10
  | 11, hj => have hj : some (yX3_dropOthers, cX3_dropOthers, 3, none, 3, 0, 0, kX3_dropOthers) = some M := hj; cases hj; exact g_of_okM ck_1_11
  | 12, hj => have hj : some (yX3_weight, cX3_weight, 4, (some .int), 3, 0, 1, kX3_weight) = some M := hj; cases hj; exact g_of_okM ck_1_12
  | 13, hj => have hj : some (yX3_sortByNumber, cX3_sortByNumber, 6, none, 3, 0, 1, kX3_sortByNumber) = some M := hj; cases hj; exact g_of_okM ck_1_13
  | 14, hj => have hj : some (yX3_rowMiles, cX3_rowMiles, 9, (some .int), 3, 0, 3, kX3_rowMiles) = some M := hj; cases hj; exact g_of_okM ck_1_14
  | 15, hj => have hj : some (yX3_customerTown, cX3_customerTown, 3, (some .int), 3, 0, 1, kX3_customerTown) = some M := hj; cases hj; exact g_of_okM ck_1_15
  | n + 16, hj => cases hj
theorem cg_2 (j : Nat) (M : mMR) (hj : mM_2[j]? = some M) : g_M M ∧ g_MW M := by
  match j, hj with
  | 0, hj => have hj : some (yX3_keepRow, cX3_keepRow, 3, none, 3, 0, 1, kX3_keepRow) = some M := hj; cases hj; exact g_of_okM ck_2_0
  | 1, hj => have hj : some (yX3_nextTurn, cX3_nextTurn, 6, (some .boolean), 3, 0, 1, kX3_nextTurn) = some M := hj; cases hj; exact g_of_okM ck_2_1
  | 2, hj => have hj : some (yX3_swapTurns, cX3_swapTurns, 4, none, 3, 0, 2, kX3_swapTurns) = some M := hj; cases hj; exact g_of_okM ck_2_2
  | 3, hj => have hj : some (yX4_init, cX4_init, 6, none, 4, 0, 5, kX4_init) = some M := hj; cases hj; exact g_of_okM ck_2_3
  | 4, hj => have hj : some (yX4_isFree, cX4_isFree, 1, (some .boolean), 4, 0, 0, kX4_isFree) = some M := hj; cases hj; exact g_of_okM ck_2_4
  | 5, hj => have hj : some (yX4_sinceLook, cX4_sinceLook, 1, (some .int), 4, 0, 0, kX4_sinceLook) = some M := hj; cases hj; exact g_of_okM ck_2_5
  | 6, hj => have hj : some (yX4_hoursToLook, cX4_hoursToLook, 1, (some .int), 4, 0, 0, kX4_hoursToLook) = some M := hj; cases hj; exact g_of_okM ck_2_6
  | 7, hj => have hj : some (yX4_lookDue, cX4_lookDue, 1, (some .boolean), 4, 0, 0, kX4_lookDue) = some M := hj; cases hj; exact g_of_okM ck_2_7
  | 8, hj => have hj : some (yX4_lookLapses, cX4_lookLapses, 2, (some .boolean), 4, 0, 1, kX4_lookLapses) = some M := hj; cases hj; exact g_of_okM ck_2_8
  | 9, hj => have hj : some (yX4_beginLook, cX4_beginLook, 2, none, 4, 0, 1, kX4_beginLook) = some M := hj; cases hj; exact g_of_okM ck_2_9
  | 10, hj => have hj : some (yX4_load, cX4_load, 4, none, 4, 0, 3, kX4_load) = some M := hj; cases hj; exact g_of_okM ck_2_10
  | 11, hj => have hj : some (yX4_settle, cX4_settle, 2, none, 4, 0, 1, kX4_settle) = some M := hj; cases hj; exact g_of_okM ck_2_11
  | 12, hj => have hj : some (yX4_leave, cX4_leave, 3, none, 4, 0, 2, kX4_leave) = some M := hj; cases hj; exact g_of_okM ck_2_12
  | 13, hj => have hj : some (yX4_addLink, cX4_addLink, 3, (some .int), 4, 0, 2, kX4_addLink) = some M := hj; cases hj; exact g_of_okM ck_2_13
  | 14, hj => have hj : some (yX4_ownerOf, cX4_ownerOf, 2, (some .int), 4, 0, 1, kX4_ownerOf) = some M := hj; cases hj; exact g_of_okM ck_2_14
  | 15, hj => have hj : some (yX4_rateOf, cX4_rateOf, 2, (some .int), 4, 0, 1, kX4_rateOf) = some M := hj; cases hj; exact g_of_okM ck_2_15
  | n + 16, hj => cases hj
theorem cg_3 (j : Nat) (M : mMR) (hj : mM_3[j]? = some M) : g_M M ∧ g_MW M := by
  match j, hj with
  | 0, hj => have hj : some (yX5_init, cX5_init, 1, none, 5, 0, 0, kX5_init) = some M := hj; cases hj; exact g_of_okM ck_3_0
  | 1, hj => have hj : some (yX5_isListed, cX5_isListed, 3, (some .boolean), 5, 0, 1, kX5_isListed) = some M := hj; cases hj; exact g_of_okM ck_3_1
  | 2, hj => have hj : some (yX5_add, cX5_add, 2, (some .int), 5, 0, 1, kX5_add) = some M := hj; cases hj; exact g_of_okM ck_3_2
  | 3, hj => have hj : some (yX5_begin, cX5_begin, 1, none, 5, 0, 0, kX5_begin) = some M := hj; cases hj; exact g_of_okM ck_3_3
  | 4, hj => have hj : some (yX5_offer, cX5_offer, 8, none, 5, 0, 3, kX5_offer) = some M := hj; cases hj; exact g_of_okM ck_3_4
  | 5, hj => have hj : some (yX5_costOf, cX5_costOf, 7, (some .long), 5, 1, 5, kX5_costOf) = some M := hj; cases hj; exact g_of_okM ck_3_5
  | 6, hj => have hj : some (yX5_leastCost, cX5_leastCost, 7, (some .long), 5, 0, 0, kX5_leastCost) = some M := hj; cases hj; exact g_of_okM ck_3_6
  | 7, hj => have hj : some (yX5_promise, cX5_promise, 9, (some .int), 5, 0, 2, kX5_promise) = some M := hj; cases hj; exact g_of_okM ck_3_7
  | 8, hj => have hj : some (yX6_init, cX6_init, 3, none, 6, 0, 2, kX6_init) = some M := hj; cases hj; exact g_of_okM ck_3_8
  | 9, hj => have hj : some (yX6_size, cX6_size, 1, (some .int), 6, 0, 0, kX6_size) = some M := hj; cases hj; exact g_of_okM ck_3_9
  | 10, hj => have hj : some (yX6_last, cX6_last, 1, (some .int), 6, 0, 0, kX6_last) = some M := hj; cases hj; exact g_of_okM ck_3_10
  | 11, hj => have hj : some (yX6_valueAt, cX6_valueAt, 2, (some .int), 6, 0, 1, kX6_valueAt) = some M := hj; cases hj; exact g_of_okM ck_3_11
  | 12, hj => have hj : some (yX6_toldAt, cX6_toldAt, 2, (some .boolean), 6, 0, 1, kX6_toldAt) = some M := hj; cases hj; exact g_of_okM ck_3_12
  | 13, hj => have hj : some (yX6_isAnother, cX6_isAnother, 2, (some .boolean), 6, 0, 1, kX6_isAnother) = some M := hj; cases hj; exact g_of_okM ck_3_13
  | 14, hj => have hj : some (yX6_tell, cX6_tell, 3, none, 6, 0, 2, kX6_tell) = some M := hj; cases hj; exact g_of_okM ck_3_14
  | 15, hj => have hj : some (yX6_grow, cX6_grow, 1, none, 6, 0, 0, kX6_grow) = some M := hj; cases hj; exact g_of_okM ck_3_15
  | n + 16, hj => cases hj
theorem cg_4 (j : Nat) (M : mMR) (hj : mM_4[j]? = some M) : g_M M ∧ g_MW M := by
  match j, hj with
  | 0, hj => have hj : some (yX6_latestUpTo, cX6_latestUpTo, 6, (some .int), 6, 0, 1, kX6_latestUpTo) = some M := hj; cases hj; exact g_of_okM ck_4_0
  | 1, hj => have hj : some (yX6_earliestFrom, cX6_earliestFrom, 2, (some .int), 6, 0, 1, kX6_earliestFrom) = some M := hj; cases hj; exact g_of_okM ck_4_1
  | 2, hj => have hj : some (yX7_init, cX7_init, 7, none, 7, 0, 6, kX7_init) = some M := hj; cases hj; exact g_of_okM ck_4_2
  | 3, hj => have hj : some (yX7_objection, cX7_objection, 5, (some .int), 7, 0, 3, kX7_objection) = some M := hj; cases hj; exact g_of_okM ck_4_3
  | 4, hj => have hj : some (yX7_begun, cX7_begun, 2, (some .boolean), 7, 0, 1, kX7_begun) = some M := hj; cases hj; exact g_of_okM ck_4_4
  | 5, hj => have hj : some (yX7_isSubstitute, cX7_isSubstitute, 1, (some .boolean), 7, 0, 0, kX7_isSubstitute) = some M := hj; cases hj; exact g_of_okM ck_4_5
  | 6, hj => have hj : some (yX7_promise, cX7_promise, 2, none, 7, 0, 1, kX7_promise) = some M := hj; cases hj; exact g_of_okM ck_4_6
  | 7, hj => have hj : some (yX7_finish, cX7_finish, 2, none, 7, 0, 1, kX7_finish) = some M := hj; cases hj; exact g_of_okM ck_4_7
  | 8, hj => have hj : some (yX7_loseMachine, cX7_loseMachine, 2, none, 7, 0, 1, kX7_loseMachine) = some M := hj; cases hj; exact g_of_okM ck_4_8
  | 9, hj => have hj : some (yX7_endBy, cX7_endBy, 2, (some .int), 7, 0, 1, kX7_endBy) = some M := hj; cases hj; exact g_of_okM ck_4_9
  | 10, hj => have hj : some (yX7_dayCount, cX7_dayCount, 2, (some .int), 7, 0, 1, kX7_dayCount) = some M := hj; cases hj; exact g_of_okM ck_4_10
  | 11, hj => have hj : some (yX7_knownOfDay, cX7_knownOfDay, 11, (some .int), 7, 0, 2, kX7_knownOfDay) = some M := hj; cases hj; exact g_of_okM ck_4_11
  | 12, hj => have hj : some (yX7_daysWorked, cX7_daysWorked, 8, (some .int), 7, 0, 2, kX7_daysWorked) = some M := hj; cases hj; exact g_of_okM ck_4_12
  | 13, hj => have hj : some (yX7_hoursWorked, cX7_hoursWorked, 4, (some .int), 7, 0, 1, kX7_hoursWorked) = some M := hj; cases hj; exact g_of_okM ck_4_13
  | 14, hj => have hj : some (yX7_mayTell, cX7_mayTell, 2, (some .boolean), 7, 0, 1, kX7_mayTell) = some M := hj; cases hj; exact g_of_okM ck_4_14
  | 15, hj => have hj : some (yX7_tell, cX7_tell, 4, (some .int), 7, 0, 3, kX7_tell) = some M := hj; cases hj; exact g_of_okM ck_4_15
  | n + 16, hj => cases hj
theorem cg_5 (j : Nat) (M : mMR) (hj : mM_5[j]? = some M) : g_M M ∧ g_MW M := by
  match j, hj with
  | 0, hj => have hj : some (yX7_newMarks, cX7_newMarks, 1, (some .int), 7, 0, 0, kX7_newMarks) = some M := hj; cases hj; exact g_of_okM ck_5_0
  | 1, hj => have hj : some (yX7_harmCoins, cX7_harmCoins, 4, (some .int), 7, 0, 0, kX7_harmCoins) = some M := hj; cases hj; exact g_of_okM ck_5_1
  | 2, hj => have hj : some (yX7_litresMissing, cX7_litresMissing, 1, (some .int), 7, 0, 0, kX7_litresMissing) = some M := hj; cases hj; exact g_of_okM ck_5_2
  | 3, hj => have hj : some (yX8_init, cX8_init, 1, none, 8, 0, 0, kX8_init) = some M := hj; cases hj; exact g_of_okM ck_5_3
  | 4, hj => have hj : some (yX8_found, cX8_found, 3, (some .int), 8, 0, 1, kX8_found) = some M := hj; cases hj; exact g_of_okM ck_5_4
  | 5, hj => have hj : some (yX8_has, cX8_has, 2, (some .boolean), 8, 0, 1, kX8_has) = some M := hj; cases hj; exact g_of_okM ck_5_5
  | 6, hj => have hj : some (yX8_hasYard, cX8_hasYard, 2, (some .boolean), 8, 0, 1, kX8_hasYard) = some M := hj; cases hj; exact g_of_okM ck_5_6
  | 7, hj => have hj : some (yX8_lay, cX8_lay, 6, (some .int), 8, 0, 3, kX8_lay) = some M := hj; cases hj; exact g_of_okM ck_5_7
  | 8, hj => have hj : some (yX8_shorten, cX8_shorten, 7, none, 8, 0, 5, kX8_shorten) = some M := hj; cases hj; exact g_of_okM ck_5_8
  | 9, hj => have hj : some (yX8_way, cX8_way, 3, (some .int), 8, 0, 2, kX8_way) = some M := hj; cases hj; exact g_of_okM ck_5_9
  | 10, hj => have hj : some (yX8_rideHours, cX8_rideHours, 4, (some .int), 8, 0, 2, kX8_rideHours) = some M := hj; cases hj; exact g_of_okM ck_5_10
  | 11, hj => have hj : some (yX9_init, cX9_init, 1, none, 9, 0, 0, kX9_init) = some M := hj; cases hj; exact g_of_okM ck_5_11
  | 12, hj => have hj : some (yX9_hasRoom, cX9_hasRoom, 1, (some .boolean), 9, 0, 0, kX9_hasRoom) = some M := hj; cases hj; exact g_of_okM ck_5_12
  | 13, hj => have hj : some (yX9_append, cX9_append, 3, none, 9, 0, 1, kX9_append) = some M := hj; cases hj; exact g_of_okM ck_5_13
  | 14, hj => have hj : some (yX9_compile, cX9_compile, 3, (some .int), 9, 0, 0, kX9_compile) = some M := hj; cases hj; exact g_of_okM ck_5_14
  | 15, hj => have hj : some (yX9_copyOfCode, cX9_copyOfCode, 1, (some (.array .int)), 9, 0, 0, kX9_copyOfCode) = some M := hj; cases hj; exact g_of_okM ck_5_15
  | n + 16, hj => cases hj
theorem cg_6 (j : Nat) (M : mMR) (hj : mM_6[j]? = some M) : g_M M ∧ g_MW M := by
  match j, hj with
  | 0, hj => have hj : some (yX9_cut, cX9_cut, 4, none, 9, 0, 0, kX9_cut) = some M := hj; cases hj; exact g_of_okM ck_6_0
  | 1, hj => have hj : some (yX9_isLetter, cX9_isLetter, 2, (some .boolean), 9, 0, 1, kX9_isLetter) = some M := hj; cases hj; exact g_of_okM ck_6_1
  | 2, hj => have hj : some (yX9_isDigit, cX9_isDigit, 2, (some .boolean), 9, 0, 1, kX9_isDigit) = some M := hj; cases hj; exact g_of_okM ck_6_2
  | 3, hj => have hj : some (yX9_addToken, cX9_addToken, 4, none, 9, 0, 3, kX9_addToken) = some M := hj; cases hj; exact g_of_okM ck_6_3
  | 4, hj => have hj : some (yX9_numberOf, cX9_numberOf, 5, (some .int), 9, 0, 2, kX9_numberOf) = some M := hj; cases hj; exact g_of_okM ck_6_4
  | 5, hj => have hj : some (yX9_wordSort, cX9_wordSort, 8, (some .int), 9, 0, 2, kX9_wordSort) = some M := hj; cases hj; exact g_of_okM ck_6_5
  | 6, hj => have hj : some (yX9_sort, cX9_sort, 1, (some .int), 9, 0, 0, kX9_sort) = some M := hj; cases hj; exact g_of_okM ck_6_6
  | 7, hj => have hj : some (yX9_take, cX9_take, 2, (some .boolean), 9, 0, 1, kX9_take) = some M := hj; cases hj; exact g_of_okM ck_6_7
  | 8, hj => have hj : some (yX9_need, cX9_need, 2, none, 9, 0, 1, kX9_need) = some M := hj; cases hj; exact g_of_okM ck_6_8
  | 9, hj => have hj : some (yX9_fail, cX9_fail, 1, none, 9, 0, 0, kX9_fail) = some M := hj; cases hj; exact g_of_okM ck_6_9
  | 10, hj => have hj : some (yX9_number, cX9_number, 1, (some .int), 9, 0, 0, kX9_number) = some M := hj; cases hj; exact g_of_okM ck_6_10
  | 11, hj => have hj : some (yX9_emit, cX9_emit, 2, none, 9, 0, 1, kX9_emit) = some M := hj; cases hj; exact g_of_okM ck_6_11
  | 12, hj => have hj : some (yX9_step, cX9_step, 4, none, 9, 0, 0, kX9_step) = some M := hj; cases hj; exact g_of_okM ck_6_12
  | 13, hj => have hj : some (yX9_sum, cX9_sum, 4, none, 9, 0, 1, kX9_sum) = some M := hj; cases hj; exact g_of_okM ck_6_13
  | 14, hj => have hj : some (yX9_product, cX9_product, 4, none, 9, 0, 1, kX9_product) = some M := hj; cases hj; exact g_of_okM ck_6_14
  | 15, hj => have hj : some (yX9_operand, cX9_operand, 4, none, 9, 0, 1, kX9_operand) = some M := hj; cases hj; exact g_of_okM ck_6_15
  | n + 16, hj => cases hj
theorem cg_7 (j : Nat) (M : mMR) (hj : mM_7[j]? = some M) : g_M M ∧ g_MW M := by
  match j, hj with
  | 0, hj => have hj : some (yX10_init, cX10_init, 5, none, 10, 0, 4, kX10_init) = some M := hj; cases hj; exact g_of_okM ck_7_0
  | 1, hj => have hj : some (yX10_inForce, cX10_inForce, 4, (some .boolean), 10, 0, 3, kX10_inForce) = some M := hj; cases hj; exact g_of_okM ck_7_1
  | 2, hj => have hj : some (yX10_give, cX10_give, 7, (some .int), 10, 0, 2, kX10_give) = some M := hj; cases hj; exact g_of_okM ck_7_2
  | 3, hj => have hj : some (yX10_run, cX10_run, 8, (some .int), 10, 0, 4, kX10_run) = some M := hj; cases hj; exact g_of_okM ck_7_3
  | 4, hj => have hj : some (yX10_work, cX10_work, 3, (some .int), 10, 1, 3, kX10_work) = some M := hj; cases hj; exact g_of_okM ck_7_4
  | 5, hj => have hj : some (yX11_init, cX11_init, 1, none, 11, 0, 0, kX11_init) = some M := hj; cases hj; exact g_of_okM ck_7_5
  | 6, hj => have hj : some (yX11_town, cX11_town, 2, (some .int), 11, 0, 1, kX11_town) = some M := hj; cases hj; exact g_of_okM ck_7_6
  | 7, hj => have hj : some (yX11_road, cX11_road, 4, (some .int), 11, 0, 3, kX11_road) = some M := hj; cases hj; exact g_of_okM ck_7_7
  | 8, hj => have hj : some (yX11_far, cX11_far, 4, (some .int), 11, 0, 2, kX11_far) = some M := hj; cases hj; exact g_of_okM ck_7_8
  | 9, hj => have hj : some (yX11_hours, cX11_hours, 4, (some .int), 11, 0, 1, kX11_hours) = some M := hj; cases hj; exact g_of_okM ck_7_9
  | 10, hj => have hj : some (yX11_rain, cX11_rain, 4, (some .int), 11, 0, 2, kX11_rain) = some M := hj; cases hj; exact g_of_okM ck_7_10
  | 11, hj => have hj : some (yX11_type, cX11_type, 6, (some .int), 11, 0, 4, kX11_type) = some M := hj; cases hj; exact g_of_okM ck_7_11
  | 12, hj => have hj : some (yX11_instead, cX11_instead, 6, (some .int), 11, 0, 3, kX11_instead) = some M := hj; cases hj; exact g_of_okM ck_7_12
  | 13, hj => have hj : some (yX11_mark, cX11_mark, 6, (some .int), 11, 0, 3, kX11_mark) = some M := hj; cases hj; exact g_of_okM ck_7_13
  | 14, hj => have hj : some (yX11_machine, cX11_machine, 5, (some .int), 11, 0, 3, kX11_machine) = some M := hj; cases hj; exact g_of_okM ck_7_14
  | 15, hj => have hj : some (yX11_link, cX11_link, 5, (some .int), 11, 0, 3, kX11_link) = some M := hj; cases hj; exact g_of_okM ck_7_15
  | n + 16, hj => cases hj
theorem cg_8 (j : Nat) (M : mMR) (hj : mM_8[j]? = some M) : g_M M ∧ g_MW M := by
  match j, hj with
  | 0, hj => have hj : some (yX11_ofMachine, cX11_ofMachine, 4, (some .int), 11, 0, 2, kX11_ofMachine) = some M := hj; cases hj; exact g_of_okM ck_8_0
  | 1, hj => have hj : some (yX11_look, cX11_look, 4, (some .int), 11, 0, 2, kX11_look) = some M := hj; cases hj; exact g_of_okM ck_8_1
  | 2, hj => have hj : some (yX11_broken, cX11_broken, 4, (some .int), 11, 0, 2, kX11_broken) = some M := hj; cases hj; exact g_of_okM ck_8_2
  | 3, hj => have hj : some (yX11_gone, cX11_gone, 4, (some .int), 11, 0, 2, kX11_gone) = some M := hj; cases hj; exact g_of_okM ck_8_3
  | 4, hj => have hj : some (yX11_read, cX11_read, 5, (some .int), 11, 0, 2, kX11_read) = some M := hj; cases hj; exact g_of_okM ck_8_4
  | 5, hj => have hj : some (yX11_track, cX11_track, 3, (some .int), 11, 0, 2, kX11_track) = some M := hj; cases hj; exact g_of_okM ck_8_5
  | 6, hj => have hj : some (yX11_theft, cX11_theft, 4, (some .int), 11, 0, 2, kX11_theft) = some M := hj; cases hj; exact g_of_okM ck_8_6
  | 7, hj => have hj : some (yX11_customer, cX11_customer, 3, (some .int), 11, 0, 2, kX11_customer) = some M := hj; cases hj; exact g_of_okM ck_8_7
  | 8, hj => have hj : some (yX11_order, cX11_order, 9, (some .int), 11, 0, 5, kX11_order) = some M := hj; cases hj; exact g_of_okM ck_8_8
  | 9, hj => have hj : some (yX11_why, cX11_why, 5, (some .int), 11, 0, 2, kX11_why) = some M := hj; cases hj; exact g_of_okM ck_8_9
  | 10, hj => have hj : some (yX11_list, cX11_list, 3, (some .int), 11, 0, 1, kX11_list) = some M := hj; cases hj; exact g_of_okM ck_8_10
  | 11, hj => have hj : some (yX11_best, cX11_best, 3, (some .int), 11, 0, 0, kX11_best) = some M := hj; cases hj; exact g_of_okM ck_8_11
  | 12, hj => have hj : some (yX11_miles, cX11_miles, 1, (some .int), 11, 0, 0, kX11_miles) = some M := hj; cases hj; exact g_of_okM ck_8_12
  | 13, hj => have hj : some (yX11_round, cX11_round, 1, (some .int), 11, 0, 0, kX11_round) = some M := hj; cases hj; exact g_of_okM ck_8_13
  | 14, hj => have hj : some (yX11_stop, cX11_stop, 3, (some .int), 11, 0, 1, kX11_stop) = some M := hj; cases hj; exact g_of_okM ck_8_14
  | 15, hj => have hj : some (yX11_stopped, cX11_stopped, 3, (some .int), 11, 0, 1, kX11_stopped) = some M := hj; cases hj; exact g_of_okM ck_8_15
  | n + 16, hj => cases hj
theorem cg_9 (j : Nat) (M : mMR) (hj : mM_9[j]? = some M) : g_M M ∧ g_MW M := by
  match j, hj with
  | 0, hj => have hj : some (yX11_send, cX11_send, 5, (some .int), 11, 0, 1, kX11_send) = some M := hj; cases hj; exact g_of_okM ck_9_0
  | 1, hj => have hj : some (yX11_fetch, cX11_fetch, 6, (some .int), 11, 0, 2, kX11_fetch) = some M := hj; cases hj; exact g_of_okM ck_9_1
  | 2, hj => have hj : some (yX11_off, cX11_off, 3, (some .int), 11, 0, 1, kX11_off) = some M := hj; cases hj; exact g_of_okM ck_9_2
  | 3, hj => have hj : some (yX11_ofOrder, cX11_ofOrder, 4, (some .int), 11, 0, 2, kX11_ofOrder) = some M := hj; cases hj; exact g_of_okM ck_9_3
  | 4, hj => have hj : some (yX11_said, cX11_said, 5, (some .int), 11, 0, 3, kX11_said) = some M := hj; cases hj; exact g_of_okM ck_9_4
  | 5, hj => have hj : some (yX11_days, cX11_days, 4, (some .int), 11, 0, 2, kX11_days) = some M := hj; cases hj; exact g_of_okM ck_9_5
  | 6, hj => have hj : some (yX11_dayOf, cX11_dayOf, 4, (some .int), 11, 0, 2, kX11_dayOf) = some M := hj; cases hj; exact g_of_okM ck_9_6
  | 7, hj => have hj : some (yX11_feed, cX11_feed, 6, (some .int), 11, 0, 5, kX11_feed) = some M := hj; cases hj; exact g_of_okM ck_9_7
  | 8, hj => have hj : some (yX11_end, cX11_end, 2, (some .int), 11, 0, 1, kX11_end) = some M := hj; cases hj; exact g_of_okM ck_9_8
  | 9, hj => have hj : some (yX11_terms, cX11_terms, 4, (some .int), 11, 0, 2, kX11_terms) = some M := hj; cases hj; exact g_of_okM ck_9_9
  | 10, hj => have hj : some (yX11_gives, cX11_gives, 5, (some .int), 11, 0, 3, kX11_gives) = some M := hj; cases hj; exact g_of_okM ck_9_10
  | 11, hj => have hj : some (yX11_bill, cX11_bill, 6, (some .int), 11, 0, 3, kX11_bill) = some M := hj; cases hj; exact g_of_okM ck_9_11
  | 12, hj => have hj : some (yX11_next, cX11_next, 6, (some .int), 11, 0, 2, kX11_next) = some M := hj; cases hj; exact g_of_okM ck_9_12
  | 13, hj => have hj : some (yX11_looked, cX11_looked, 5, (some .int), 11, 0, 3, kX11_looked) = some M := hj; cases hj; exact g_of_okM ck_9_13
  | 14, hj => have hj : some (yX11_fuel, cX11_fuel, 5, (some .int), 11, 0, 3, kX11_fuel) = some M := hj; cases hj; exact g_of_okM ck_9_14
  | 15, hj => have hj : some (yX11_harm, cX11_harm, 4, (some .int), 11, 0, 2, kX11_harm) = some M := hj; cases hj; exact g_of_okM ck_9_15
  | n + 16, hj => cases hj
theorem cg_10 (j : Nat) (M : mMR) (hj : mM_10[j]? = some M) : g_M M ∧ g_MW M := by
  match j, hj with
  | 0, hj => have hj : some (yX11_share, cX11_share, 5, (some .int), 11, 0, 2, kX11_share) = some M := hj; cases hj; exact g_of_okM ck_10_0
  | 1, hj => have hj : some (yX11_chain, cX11_chain, 5, (some .int), 11, 0, 3, kX11_chain) = some M := hj; cases hj; exact g_of_okM ck_10_1
  | 2, hj => have hj : some (yX11_rank, cX11_rank, 4, (some .int), 11, 0, 2, kX11_rank) = some M := hj; cases hj; exact g_of_okM ck_10_2
  | 3, hj => have hj : some (yX11_idle, cX11_idle, 5, (some .int), 11, 0, 3, kX11_idle) = some M := hj; cases hj; exact g_of_okM ck_10_3
  | 4, hj => have hj : some (yX11_move, cX11_move, 9, (some .int), 11, 0, 1, kX11_move) = some M := hj; cases hj; exact g_of_okM ck_10_4
  | 5, hj => have hj : some (yX11_count, cX11_count, 2, (some .int), 11, 0, 1, kX11_count) = some M := hj; cases hj; exact g_of_okM ck_10_5
  | 6, hj => have hj : some (yX11_within, cX11_within, 3, (some .boolean), 11, 1, 3, kX11_within) = some M := hj; cases hj; exact g_of_okM ck_10_6
  | 7, hj => have hj : some (yX11_isFlag, cX11_isFlag, 1, (some .boolean), 11, 1, 1, kX11_isFlag) = some M := hj; cases hj; exact g_of_okM ck_10_7
  | 8, hj => have hj : some (yX11_kindOf, cX11_kindOf, 2, (some (.object "HireYard$Kind")), 11, 0, 1, kX11_kindOf) = some M := hj; cases hj; exact g_of_okM ck_10_8
  | 9, hj => have hj : some (yX11_machineOf, cX11_machineOf, 2, (some (.object "HireYard$Machine")), 11, 0, 1, kX11_machineOf) = some M := hj; cases hj; exact g_of_okM ck_10_9
  | 10, hj => have hj : some (yX11_orderOf, cX11_orderOf, 2, (some (.object "HireYard$Order")), 11, 0, 1, kX11_orderOf) = some M := hj; cases hj; exact g_of_okM ck_10_10
  | 11, hj => have hj : some (yX11_isCustomer, cX11_isCustomer, 2, (some .boolean), 11, 0, 1, kX11_isCustomer) = some M := hj; cases hj; exact g_of_okM ck_10_11
  | 12, hj => have hj : some (yX11_begunOrder, cX11_begunOrder, 3, (some (.object "HireYard$Order")), 11, 0, 1, kX11_begunOrder) = some M := hj; cases hj; exact g_of_okM ck_10_12
  | 13, hj => have hj : some (yX11_learn, cX11_learn, 2, none, 11, 0, 1, kX11_learn) = some M := hj; cases hj; exact g_of_okM ck_10_13
  | 14, hj => have hj : some (yX11_priceOf, cX11_priceOf, 3, (some .int), 11, 0, 2, kX11_priceOf) = some M := hj; cases hj; exact g_of_okM ck_10_14
  | 15, hj => have hj : some (yX11_idleIn, cX11_idleIn, 6, (some .int), 11, 0, 2, kX11_idleIn) = some M := hj; cases hj; exact g_of_okM ck_10_15
  | n + 16, hj => cases hj
theorem cg_11 (j : Nat) (M : mMR) (hj : mM_11[j]? = some M) : g_M M ∧ g_MW M := by
  match j, hj with
  | 0, hj => have hj : some (yX11_wantedIn, cX11_wantedIn, 6, (some .int), 11, 0, 2, kX11_wantedIn) = some M := hj; cases hj; exact g_of_okM ck_11_0
  | 1, hj => have hj : some (yX11_machinesThatAre, cX11_machinesThatAre, 5, (some .int), 11, 0, 1, kX11_machinesThatAre) = some M := hj; cases hj; exact g_of_okM ck_11_1
  | 2, hj => have hj : some (yX11_ordersThatAre, cX11_ordersThatAre, 5, (some .int), 11, 0, 1, kX11_ordersThatAre) = some M := hj; cases hj; exact g_of_okM ck_11_2
  | 3, hj => have hj : some (yX12_init, cX12_init, 1, none, 12, 0, 0, kX12_init) = some M := hj; cases hj; exact g_of_okM ck_11_3
  | 4, hj => have hj : some (yX12_in, cX12_in, 3, (some .boolean), 12, 1, 3, kX12_in) = some M := hj; cases hj; exact g_of_okM ck_11_4
  | 5, hj => have hj : some (yX12_isDay, cX12_isDay, 1, (some .boolean), 12, 1, 1, kX12_isDay) = some M := hj; cases hj; exact g_of_okM ck_11_5
  | 6, hj => have hj : some (yX12_today, cX12_today, 1, (some .int), 12, 0, 0, kX12_today) = some M := hj; cases hj; exact g_of_okM ck_11_6
  | 7, hj => have hj : some (yX12_isTown, cX12_isTown, 2, (some .boolean), 12, 0, 1, kX12_isTown) = some M := hj; cases hj; exact g_of_okM ck_11_7
  | 8, hj => have hj : some (yX12_farOf, cX12_farOf, 3, (some .int), 12, 0, 2, kX12_farOf) = some M := hj; cases hj; exact g_of_okM ck_11_8
  | 9, hj => have hj : some (yX12_findFars, cX12_findFars, 5, none, 12, 0, 0, kX12_findFars) = some M := hj; cases hj; exact g_of_okM ck_11_9
  | 10, hj => have hj : some (yX12_town, cX12_town, 2, (some .int), 12, 0, 1, kX12_town) = some M := hj; cases hj; exact g_of_okM ck_11_10
  | 11, hj => have hj : some (yX12_road, cX12_road, 6, (some .int), 12, 0, 3, kX12_road) = some M := hj; cases hj; exact g_of_okM ck_11_11
  | 12, hj => have hj : some (yX12_far, cX12_far, 3, (some .int), 12, 0, 2, kX12_far) = some M := hj; cases hj; exact g_of_okM ck_11_12
  | 13, hj => have hj : some (yX12_rain, cX12_rain, 4, (some .int), 12, 0, 2, kX12_rain) = some M := hj; cases hj; exact g_of_okM ck_11_13
  | 14, hj => have hj : some (yX12_isType, cX12_isType, 2, (some .boolean), 12, 0, 1, kX12_isType) = some M := hj; cases hj; exact g_of_okM ck_11_14
  | 15, hj => have hj : some (yX12_isMachine, cX12_isMachine, 2, (some .boolean), 12, 0, 1, kX12_isMachine) = some M := hj; cases hj; exact g_of_okM ck_11_15
  | n + 16, hj => cases hj
theorem cg_12 (j : Nat) (M : mMR) (hj : mM_12[j]? = some M) : g_M M ∧ g_MW M := by
  match j, hj with
  | 0, hj => have hj : some (yX12_type, cX12_type, 5, (some .int), 12, 0, 4, kX12_type) = some M := hj; cases hj; exact g_of_okM ck_12_0
  | 1, hj => have hj : some (yX12_instead, cX12_instead, 5, (some .int), 12, 0, 3, kX12_instead) = some M := hj; cases hj; exact g_of_okM ck_12_1
  | 2, hj => have hj : some (yX12_mark, cX12_mark, 5, (some .int), 12, 0, 3, kX12_mark) = some M := hj; cases hj; exact g_of_okM ck_12_2
  | 3, hj => have hj : some (yX12_addReading, cX12_addReading, 3, none, 12, 0, 2, kX12_addReading) = some M := hj; cases hj; exact g_of_okM ck_12_3
  | 4, hj => have hj : some (yX12_readBy, cX12_readBy, 4, (some .int), 12, 0, 2, kX12_readBy) = some M := hj; cases hj; exact g_of_okM ck_12_4
  | 5, hj => have hj : some (yX12_readFrom, cX12_readFrom, 4, (some .int), 12, 0, 2, kX12_readFrom) = some M := hj; cases hj; exact g_of_okM ck_12_5
  | 6, hj => have hj : some (yX12_machine, cX12_machine, 5, (some .int), 12, 0, 3, kX12_machine) = some M := hj; cases hj; exact g_of_okM ck_12_6
  | 7, hj => have hj : some (yX12_link, cX12_link, 4, (some .int), 12, 0, 3, kX12_link) = some M := hj; cases hj; exact g_of_okM ck_12_7
  | 8, hj => have hj : some (yX12_sinceLook, cX12_sinceLook, 2, (some .int), 12, 0, 1, kX12_sinceLook) = some M := hj; cases hj; exact g_of_okM ck_12_8
  | 9, hj => have hj : some (yX12_isDue, cX12_isDue, 2, (some .boolean), 12, 0, 1, kX12_isDue) = some M := hj; cases hj; exact g_of_okM ck_12_9
  | 10, hj => have hj : some (yX12_lapses, cX12_lapses, 3, (some .boolean), 12, 0, 2, kX12_lapses) = some M := hj; cases hj; exact g_of_okM ck_12_10
  | 11, hj => have hj : some (yX12_ofMachine, cX12_ofMachine, 4, (some .int), 12, 0, 2, kX12_ofMachine) = some M := hj; cases hj; exact g_of_okM ck_12_11
  | 12, hj => have hj : some (yX12_isFree, cX12_isFree, 2, (some .boolean), 12, 0, 1, kX12_isFree) = some M := hj; cases hj; exact g_of_okM ck_12_12
  | 13, hj => have hj : some (yX12_look, cX12_look, 3, (some .int), 12, 0, 2, kX12_look) = some M := hj; cases hj; exact g_of_okM ck_12_13
  | 14, hj => have hj : some (yX12_endSpan, cX12_endSpan, 3, none, 12, 0, 1, kX12_endSpan) = some M := hj; cases hj; exact g_of_okM ck_12_14
  | 15, hj => have hj : some (yX12_broken, cX12_broken, 3, (some .int), 12, 0, 2, kX12_broken) = some M := hj; cases hj; exact g_of_okM ck_12_15
  | n + 16, hj => cases hj
theorem cg_13 (j : Nat) (M : mMR) (hj : mM_13[j]? = some M) : g_M M ∧ g_MW M := by
  match j, hj with
  | 0, hj => have hj : some (yX12_gone, cX12_gone, 4, (some .int), 12, 0, 2, kX12_gone) = some M := hj; cases hj; exact g_of_okM ck_13_0
  | 1, hj => have hj : some (yX12_read, cX12_read, 4, (some .int), 12, 0, 2, kX12_read) = some M := hj; cases hj; exact g_of_okM ck_13_1
  | 2, hj => have hj : some (yX12_track, cX12_track, 3, (some .int), 12, 0, 2, kX12_track) = some M := hj; cases hj; exact g_of_okM ck_13_2
  | 3, hj => have hj : some (yX12_theft, cX12_theft, 5, (some .int), 12, 0, 2, kX12_theft) = some M := hj; cases hj; exact g_of_okM ck_13_3
  | 4, hj => have hj : some (yX12_hours, cX12_hours, 3, (some .int), 12, 0, 1, kX12_hours) = some M := hj; cases hj; exact g_of_okM ck_13_4
  | 5, hj => have hj : some (yX12_arrive, cX12_arrive, 2, none, 12, 0, 1, kX12_arrive) = some M := hj; cases hj; exact g_of_okM ck_13_5
  | 6, hj => have hj : some (yX12_load, cX12_load, 5, none, 12, 0, 3, kX12_load) = some M := hj; cases hj; exact g_of_okM ck_13_6
  | 7, hj => have hj : some (yX12_isCustomer, cX12_isCustomer, 2, (some .boolean), 12, 0, 1, kX12_isCustomer) = some M := hj; cases hj; exact g_of_okM ck_13_7
  | 8, hj => have hj : some (yX12_isOrder, cX12_isOrder, 2, (some .boolean), 12, 0, 1, kX12_isOrder) = some M := hj; cases hj; exact g_of_okM ck_13_8
  | 9, hj => have hj : some (yX12_customer, cX12_customer, 3, (some .int), 12, 0, 2, kX12_customer) = some M := hj; cases hj; exact g_of_okM ck_13_9
  | 10, hj => have hj : some (yX12_order, cX12_order, 8, (some .int), 12, 0, 5, kX12_order) = some M := hj; cases hj; exact g_of_okM ck_13_10
  | 11, hj => have hj : some (yX12_townOfOrder, cX12_townOfOrder, 2, (some .int), 12, 0, 1, kX12_townOfOrder) = some M := hj; cases hj; exact g_of_okM ck_13_11
  | 12, hj => have hj : some (yX12_whyNot, cX12_whyNot, 5, (some .int), 12, 0, 2, kX12_whyNot) = some M := hj; cases hj; exact g_of_okM ck_13_12
  | 13, hj => have hj : some (yX12_why, cX12_why, 3, (some .int), 12, 0, 2, kX12_why) = some M := hj; cases hj; exact g_of_okM ck_13_13
  | 14, hj => have hj : some (yX12_list, cX12_list, 3, (some .int), 12, 0, 1, kX12_list) = some M := hj; cases hj; exact g_of_okM ck_13_14
  | 15, hj => have hj : some (yX12_mayHave, cX12_mayHave, 3, (some .boolean), 12, 0, 2, kX12_mayHave) = some M := hj; cases hj; exact g_of_okM ck_13_15
  | n + 16, hj => cases hj
theorem cg_14 (j : Nat) (M : mMR) (hj : mM_14[j]? = some M) : g_M M ∧ g_MW M := by
  match j, hj with
  | 0, hj => have hj : some (yX12_findWorths, cX12_findWorths, 3, none, 12, 0, 0, kX12_findWorths) = some M := hj; cases hj; exact g_of_okM ck_14_0
  | 1, hj => have hj : some (yX12_worthBy, cX12_worthBy, 3, (some .long), 12, 0, 2, kX12_worthBy) = some M := hj; cases hj; exact g_of_okM ck_14_1
  | 2, hj => have hj : some (yX12_most, cX12_most, 8, (some .long), 12, 0, 1, kX12_most) = some M := hj; cases hj; exact g_of_okM ck_14_2
  | 3, hj => have hj : some (yX12_best, cX12_best, 6, (some .int), 12, 0, 0, kX12_best) = some M := hj; cases hj; exact g_of_okM ck_14_3
  | 4, hj => have hj : some (yX12_miles, cX12_miles, 1, (some .int), 12, 0, 0, kX12_miles) = some M := hj; cases hj; exact g_of_okM ck_14_4
  | 5, hj => have hj : some (yX12_isPromised, cX12_isPromised, 2, (some .boolean), 12, 0, 1, kX12_isPromised) = some M := hj; cases hj; exact g_of_okM ck_14_5
  | 6, hj => have hj : some (yX12_stop, cX12_stop, 3, (some .int), 12, 0, 1, kX12_stop) = some M := hj; cases hj; exact g_of_okM ck_14_6
  | 7, hj => have hj : some (yX12_milesOfRow, cX12_milesOfRow, 6, (some .int), 12, 0, 1, kX12_milesOfRow) = some M := hj; cases hj; exact g_of_okM ck_14_7
  | 8, hj => have hj : some (yX12_isUsed, cX12_isUsed, 3, (some .boolean), 12, 0, 1, kX12_isUsed) = some M := hj; cases hj; exact g_of_okM ck_14_8
  | 9, hj => have hj : some (yX12_round, cX12_round, 7, (some .int), 12, 0, 0, kX12_round) = some M := hj; cases hj; exact g_of_okM ck_14_9
  | 10, hj => have hj : some (yX12_stopped, cX12_stopped, 2, (some .int), 12, 0, 1, kX12_stopped) = some M := hj; cases hj; exact g_of_okM ck_14_10
  | 11, hj => have hj : some (yX12_send, cX12_send, 3, (some .int), 12, 0, 1, kX12_send) = some M := hj; cases hj; exact g_of_okM ck_14_11
  | 12, hj => have hj : some (yX12_hasBegun, cX12_hasBegun, 2, (some .boolean), 12, 0, 1, kX12_hasBegun) = some M := hj; cases hj; exact g_of_okM ck_14_12
  | 13, hj => have hj : some (yX12_fetch, cX12_fetch, 4, (some .int), 12, 0, 2, kX12_fetch) = some M := hj; cases hj; exact g_of_okM ck_14_13
  | 14, hj => have hj : some (yX12_off, cX12_off, 2, (some .int), 12, 0, 1, kX12_off) = some M := hj; cases hj; exact g_of_okM ck_14_14
  | 15, hj => have hj : some (yX12_ofOrder, cX12_ofOrder, 3, (some .int), 12, 0, 2, kX12_ofOrder) = some M := hj; cases hj; exact g_of_okM ck_14_15
  | n + 16, hj => cases hj
theorem cg_15 (j : Nat) (M : mMR) (hj : mM_15[j]? = some M) : g_M M ∧ g_MW M := by
  match j, hj with
  | 0, hj => have hj : some (yX12_endOf, cX12_endOf, 2, (some .int), 12, 0, 1, kX12_endOf) = some M := hj; cases hj; exact g_of_okM ck_15_0
  | 1, hj => have hj : some (yX12_daysOf, cX12_daysOf, 2, (some .int), 12, 0, 1, kX12_daysOf) = some M := hj; cases hj; exact g_of_okM ck_15_1
  | 2, hj => have hj : some (yX12_said, cX12_said, 4, (some .int), 12, 0, 3, kX12_said) = some M := hj; cases hj; exact g_of_okM ck_15_2
  | 3, hj => have hj : some (yX12_dayIs, cX12_dayIs, 10, (some .int), 12, 0, 2, kX12_dayIs) = some M := hj; cases hj; exact g_of_okM ck_15_3
  | 4, hj => have hj : some (yX12_worked, cX12_worked, 6, (some .int), 12, 0, 2, kX12_worked) = some M := hj; cases hj; exact g_of_okM ck_15_4
  | 5, hj => have hj : some (yX12_days, cX12_days, 3, (some .int), 12, 0, 2, kX12_days) = some M := hj; cases hj; exact g_of_okM ck_15_5
  | 6, hj => have hj : some (yX12_dayOf, cX12_dayOf, 3, (some .int), 12, 0, 2, kX12_dayOf) = some M := hj; cases hj; exact g_of_okM ck_15_6
  | 7, hj => have hj : some (yX12_feed, cX12_feed, 6, (some .int), 12, 0, 5, kX12_feed) = some M := hj; cases hj; exact g_of_okM ck_15_7
  | 8, hj => have hj : some (yX12_feedOne, cX12_feedOne, 3, none, 12, 0, 1, kX12_feedOne) = some M := hj; cases hj; exact g_of_okM ck_15_8
  | 9, hj => have hj : some (yX12_end, cX12_end, 2, (some .int), 12, 0, 1, kX12_end) = some M := hj; cases hj; exact g_of_okM ck_15_9
  | 10, hj => have hj : some (yX12_isLetter, cX12_isLetter, 1, (some .boolean), 12, 1, 1, kX12_isLetter) = some M := hj; cases hj; exact g_of_okM ck_15_10
  | 11, hj => have hj : some (yX12_isDigit, cX12_isDigit, 1, (some .boolean), 12, 1, 1, kX12_isDigit) = some M := hj; cases hj; exact g_of_okM ck_15_11
  | 12, hj => have hj : some (yX12_nextToken, cX12_nextToken, 1, none, 12, 0, 0, kX12_nextToken) = some M := hj; cases hj; exact g_of_okM ck_15_12
  | 13, hj => have hj : some (yX12_isWord, cX12_isWord, 6, (some .boolean), 12, 0, 1, kX12_isWord) = some M := hj; cases hj; exact g_of_okM ck_15_13
  | 14, hj => have hj : some (yX12_wrong, cX12_wrong, 1, none, 12, 0, 0, kX12_wrong) = some M := hj; cases hj; exact g_of_okM ck_15_14
  | 15, hj => have hj : some (yX12_lay, cX12_lay, 4, none, 12, 0, 3, kX12_lay) = some M := hj; cases hj; exact g_of_okM ck_15_15
  | n + 16, hj => cases hj
theorem cg_16 (j : Nat) (M : mMR) (hj : mM_16[j]? = some M) : g_M M ∧ g_MW M := by
  match j, hj with
  | 0, hj => have hj : some (yX12_takes, cX12_takes, 2, (some .boolean), 12, 0, 1, kX12_takes) = some M := hj; cases hj; exact g_of_okM ck_16_0
  | 1, hj => have hj : some (yX12_opens, cX12_opens, 1, (some .boolean), 12, 0, 0, kX12_opens) = some M := hj; cases hj; exact g_of_okM ck_16_1
  | 2, hj => have hj : some (yX12_closes, cX12_closes, 1, (some .boolean), 12, 0, 0, kX12_closes) = some M := hj; cases hj; exact g_of_okM ck_16_2
  | 3, hj => have hj : some (yX12_nameOf, cX12_nameOf, 2, (some .int), 12, 0, 0, kX12_nameOf) = some M := hj; cases hj; exact g_of_okM ck_16_3
  | 4, hj => have hj : some (yX12_operand, cX12_operand, 2, none, 12, 0, 0, kX12_operand) = some M := hj; cases hj; exact g_of_okM ck_16_4
  | 5, hj => have hj : some (yX12_product, cX12_product, 2, none, 12, 0, 0, kX12_product) = some M := hj; cases hj; exact g_of_okM ck_16_5
  | 6, hj => have hj : some (yX12_sum, cX12_sum, 2, none, 12, 0, 0, kX12_sum) = some M := hj; cases hj; exact g_of_okM ck_16_6
  | 7, hj => have hj : some (yX12_step, cX12_step, 3, none, 12, 0, 0, kX12_step) = some M := hj; cases hj; exact g_of_okM ck_16_7
  | 8, hj => have hj : some (yX12_terms, cX12_terms, 3, (some .int), 12, 0, 2, kX12_terms) = some M := hj; cases hj; exact g_of_okM ck_16_8
  | 9, hj => have hj : some (yX12_both, cX12_both, 3, (some .int), 12, 1, 3, kX12_both) = some M := hj; cases hj; exact g_of_okM ck_16_9
  | 10, hj => have hj : some (yX12_works, cX12_works, 6, (some .int), 12, 0, 1, kX12_works) = some M := hj; cases hj; exact g_of_okM ck_16_10
  | 11, hj => have hj : some (yX12_hoursOf, cX12_hoursOf, 4, (some .int), 12, 0, 1, kX12_hoursOf) = some M := hj; cases hj; exact g_of_okM ck_16_11
  | 12, hj => have hj : some (yX12_rainOf, cX12_rainOf, 4, (some .int), 12, 0, 1, kX12_rainOf) = some M := hj; cases hj; exact g_of_okM ck_16_12
  | 13, hj => have hj : some (yX12_brokenOf, cX12_brokenOf, 7, (some .int), 12, 0, 1, kX12_brokenOf) = some M := hj; cases hj; exact g_of_okM ck_16_13
  | 14, hj => have hj : some (yX12_marksFound, cX12_marksFound, 2, (some .int), 12, 0, 1, kX12_marksFound) = some M := hj; cases hj; exact g_of_okM ck_16_14
  | 15, hj => have hj : some (yX12_harmOf, cX12_harmOf, 4, (some .int), 12, 0, 1, kX12_harmOf) = some M := hj; cases hj; exact g_of_okM ck_16_15
  | n + 16, hj => cases hj
theorem cg_17 (j : Nat) (M : mMR) (hj : mM_17[j]? = some M) : g_M M ∧ g_MW M := by
  match j, hj with
  | 0, hj => have hj : some (yX12_fuelOf, cX12_fuelOf, 2, (some .int), 12, 0, 1, kX12_fuelOf) = some M := hj; cases hj; exact g_of_okM ck_17_0
  | 1, hj => have hj : some (yX12_tell, cX12_tell, 6, none, 12, 0, 3, kX12_tell) = some M := hj; cases hj; exact g_of_okM ck_17_1
  | 2, hj => have hj : some (yX12_gives, cX12_gives, 4, (some .int), 12, 0, 3, kX12_gives) = some M := hj; cases hj; exact g_of_okM ck_17_2
  | 3, hj => have hj : some (yX12_lesser, cX12_lesser, 8, (some .int), 12, 0, 3, kX12_lesser) = some M := hj; cases hj; exact g_of_okM ck_17_3
  | 4, hj => have hj : some (yX12_bill, cX12_bill, 5, (some .int), 12, 0, 3, kX12_bill) = some M := hj; cases hj; exact g_of_okM ck_17_4
  | 5, hj => have hj : some (yX12_next, cX12_next, 5, (some .int), 12, 0, 2, kX12_next) = some M := hj; cases hj; exact g_of_okM ck_17_5
  | 6, hj => have hj : some (yX12_mayTell, cX12_mayTell, 3, (some .boolean), 12, 0, 2, kX12_mayTell) = some M := hj; cases hj; exact g_of_okM ck_17_6
  | 7, hj => have hj : some (yX12_looked, cX12_looked, 4, (some .int), 12, 0, 3, kX12_looked) = some M := hj; cases hj; exact g_of_okM ck_17_7
  | 8, hj => have hj : some (yX12_fuel, cX12_fuel, 4, (some .int), 12, 0, 3, kX12_fuel) = some M := hj; cases hj; exact g_of_okM ck_17_8
  | 9, hj => have hj : some (yX12_harm, cX12_harm, 3, (some .int), 12, 0, 2, kX12_harm) = some M := hj; cases hj; exact g_of_okM ck_17_9
  | 10, hj => have hj : some (yX12_share, cX12_share, 5, (some .int), 12, 0, 2, kX12_share) = some M := hj; cases hj; exact g_of_okM ck_17_10
  | 11, hj => have hj : some (yX12_chain, cX12_chain, 4, (some .int), 12, 0, 3, kX12_chain) = some M := hj; cases hj; exact g_of_okM ck_17_11
  | 12, hj => have hj : some (yX12_rank, cX12_rank, 3, (some .int), 12, 0, 2, kX12_rank) = some M := hj; cases hj; exact g_of_okM ck_17_12
  | 13, hj => have hj : some (yX12_idleOf, cX12_idleOf, 5, (some .int), 12, 0, 2, kX12_idleOf) = some M := hj; cases hj; exact g_of_okM ck_17_13
  | 14, hj => have hj : some (yX12_wantedOf, cX12_wantedOf, 5, (some .int), 12, 0, 2, kX12_wantedOf) = some M := hj; cases hj; exact g_of_okM ck_17_14
  | 15, hj => have hj : some (yX12_idle, cX12_idle, 4, (some .int), 12, 0, 3, kX12_idle) = some M := hj; cases hj; exact g_of_okM ck_17_15
  | n + 16, hj => cases hj
theorem cg_18 (j : Nat) (M : mMR) (hj : mM_18[j]? = some M) (hn : j < 4) : g_M M ∧ g_MW M := by
  match j, hj, hn with
  | 0, hj, _ => have hj : some (yX12_move, cX12_move, 8, (some .int), 12, 0, 1, kX12_move) = some M := hj; cases hj; exact g_of_okM ck_18_0
  | 1, hj, _ => have hj : some (yX12_count, cX12_count, 4, (some .int), 12, 0, 1, kX12_count) = some M := hj; cases hj; exact g_of_okM ck_18_1
  | 2, hj, _ => have hj : some (yJ7_fill_d0a16, cJ7_fill_d0a16, 5, none, 15, 1, 2, kJ7_fill_d0a16) = some M := hj; cases hj; exact g_of_okM ck_18_2
  | 3, hj, _ => have hj : some (yJ7_copyOf_59c91, cJ7_copyOf_59c91, 3, (some (.array .int)), 15, 1, 2, kJ7_copyOf_59c91) = some M := hj; cases hj; exact g_of_okM ck_18_3
  | 4, _, hn => omega
  | n + 5, hj, hn => omega
theorem mchk (m : Nat) (M : mMR) (h : mrec m = some M) (hm : m < mLaw) : g_M M ∧ g_MW M := by
  have hm : m < 292 := hm
  unfold mrec at h
  split at h
  · rename_i l hl
    have hc : m / 16 < 19 := by omega
    have hj : m / 16 = 18 → m % 16 < 4 := by omega
    generalize m / 16 = c at hl hc hj
    generalize m % 16 = j at h hj
    match c, hc, hl, hj with
    | 0, _, hl, _ => have hl : some mM_0 = some l := hl; cases hl; exact cg_0 j M h
    | 1, _, hl, _ => have hl : some mM_1 = some l := hl; cases hl; exact cg_1 j M h
    | 2, _, hl, _ => have hl : some mM_2 = some l := hl; cases hl; exact cg_2 j M h
    | 3, _, hl, _ => have hl : some mM_3 = some l := hl; cases hl; exact cg_3 j M h
    | 4, _, hl, _ => have hl : some mM_4 = some l := hl; cases hl; exact cg_4 j M h
    | 5, _, hl, _ => have hl : some mM_5 = some l := hl; cases hl; exact cg_5 j M h
    | 6, _, hl, _ => have hl : some mM_6 = some l := hl; cases hl; exact cg_6 j M h
    | 7, _, hl, _ => have hl : some mM_7 = some l := hl; cases hl; exact cg_7 j M h
    | 8, _, hl, _ => have hl : some mM_8 = some l := hl; cases hl; exact cg_8 j M h
    | 9, _, hl, _ => have hl : some mM_9 = some l := hl; cases hl; exact cg_9 j M h
    | 10, _, hl, _ => have hl : some mM_10 = some l := hl; cases hl; exact cg_10 j M h
    | 11, _, hl, _ => have hl : some mM_11 = some l := hl; cases hl; exact cg_11 j M h
    | 12, _, hl, _ => have hl : some mM_12 = some l := hl; cases hl; exact cg_12 j M h
    | 13, _, hl, _ => have hl : some mM_13 = some l := hl; cases hl; exact cg_13 j M h
    | 14, _, hl, _ => have hl : some mM_14 = some l := hl; cases hl; exact cg_14 j M h
    | 15, _, hl, _ => have hl : some mM_15 = some l := hl; cases hl; exact cg_15 j M h
    | 16, _, hl, _ => have hl : some mM_16 = some l := hl; cases hl; exact cg_16 j M h
    | 17, _, hl, _ => have hl : some mM_17 = some l := hl; cases hl; exact cg_17 j M h
    | 18, _, hl, hj => have hl : some mM_18 = some l := hl; cases hl; exact cg_18 j M h (hj rfl)
    | n + 19, hc, _, _ => omega
  · cases h
theorem hlaw : ∃ M, mrec mLaw = some M ∧ g_M M ∧ M.1.cls = R_law ∧ M.1.name ≠ "<init>" ∧ M.2.1 = code ∧ M.2.2.1 = 4 ∧ M.2.2.2.1 = ret :=
  ⟨(yL_law, cL_law, 4, (some .boolean), 13, 1, 1, kL_law), rfl, ⟨cc_18_4, by decide +kernel⟩, rfl, by decide +kernel, rfl, rfl, rfl⟩
