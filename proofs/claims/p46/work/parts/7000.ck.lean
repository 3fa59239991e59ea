theorem ck_0_0 : okM (yX0_init, cX0_init, 1, none, 0, 0, 0, kX0_init) (1206, 1031, 1205, 0) = true := by decide +kernel
theorem ck_0_1 : okM (yX0_isFull, cX0_isFull, 1, (some .boolean), 0, 0, 0, kX0_isFull) (5120, 1031, 4334, 4335) = true := by decide +kernel
theorem ck_0_2 : okM (yX0_has, cX0_has, 2, (some .boolean), 0, 0, 1, kX0_has) (5276, 1031, 5274, 5275) = true := by decide +kernel
theorem ck_0_3 : okM (yX0_add, cX0_add, 2, (some .int), 0, 0, 1, kX0_add) (5267, 1031, 5265, 5266) = true := by decide +kernel
theorem ck_0_4 : okM (yX0_learn, cX0_learn, 3, none, 0, 0, 2, kX0_learn) (5284, 1031, 5282, 5283) = true := by decide +kernel
theorem ck_0_5 : okM (yX0_learnTroubles, cX0_learnTroubles, 8, none, 0, 0, 4, kX0_learnTroubles) (5316, 1031, 5314, 5315) = true := by decide +kernel
theorem ck_0_6 : okM (yX0_setDays, cX0_setDays, 2, none, 0, 0, 1, kX0_setDays) (5327, 1031, 5325, 5326) = true := by decide +kernel
theorem ck_0_7 : okM (yX0_setAll, cX0_setAll, 3, none, 0, 0, 2, kX0_setAll) (5293, 1031, 5291, 5292) = true := by decide +kernel
theorem ck_0_8 : okM (yX0_amount, cX0_amount, 3, (some .int), 0, 0, 1, kX0_amount) (5331, 1031, 5329, 5330) = true := by decide +kernel
theorem ck_0_9 : okM (yX0_inForce, cX0_inForce, 8, (some .int), 0, 0, 3, kX0_inForce) (5354, 1031, 5352, 5353) = true := by decide +kernel
theorem ck_0_10 : okM (yX1_init, cX1_init, 6, none, 1, 0, 5, kX1_init) (2126, 1033, 2125, 0) = true := by decide +kernel
theorem ck_0_11 : okM (yX1_standsFor, cX1_standsFor, 2, (some .boolean), 1, 0, 1, kX1_standsFor) (4102, 1033, 4100, 4101) = true := by decide +kernel
theorem ck_0_12 : okM (yX2_init, cX2_init, 1, none, 2, 0, 0, kX2_init) (1087, 1027, 1086, 0) = true := by decide +kernel
theorem ck_0_13 : okM (yX2_addTrack, cX2_addTrack, 4, (some .int), 2, 0, 3, kX2_addTrack) (3192, 1027, 3190, 3191) = true := by decide +kernel
theorem ck_0_14 : okM (yX2_countsFor, cX2_countsFor, 3, (some .boolean), 2, 0, 2, kX2_countsFor) (3208, 1027, 3207, 6) = true := by decide +kernel
theorem ck_0_15 : okM (yX2_elsewhere, cX2_elsewhere, 3, (some .int), 2, 0, 1, kX2_elsewhere) (3204, 1027, 3203, 5) = true := by decide +kernel
theorem ck_1_0 : okM (yX2_firstElsewhere, cX2_firstElsewhere, 3, (some .int), 2, 0, 1, kX2_firstElsewhere) (3212, 1027, 3210, 3211) = true := by decide +kernel
theorem ck_1_1 : okM (yX2_lastThere, cX2_lastThere, 3, (some .int), 2, 0, 1, kX2_lastThere) (3200, 1027, 3198, 3199) = true := by decide +kernel
theorem ck_1_2 : okM (yX2_beginBreak, cX2_beginBreak, 3, (some .boolean), 2, 0, 2, kX2_beginBreak) (3128, 1027, 3126, 3127) = true := by decide +kernel
theorem ck_1_3 : okM (yX2_endBreak, cX2_endBreak, 4, none, 2, 0, 2, kX2_endBreak) (3124, 1027, 3122, 3123) = true := by decide +kernel
theorem ck_1_4 : okM (yX2_hoursBroken, cX2_hoursBroken, 7, (some .int), 2, 0, 3, kX2_hoursBroken) (5321, 1027, 5319, 5320) = true := by decide +kernel
theorem ck_1_5 : okM (yX3_init, cX3_init, 1, none, 3, 0, 0, kX3_init) (1145, 1029, 1144, 0) = true := by decide +kernel
theorem ck_1_6 : okM (yX3_isPromised, cX3_isPromised, 1, (some .boolean), 3, 1, 1, kX3_isPromised) (4189, 1029, 4188, 0) = true := by decide +kernel
theorem ck_1_7 : okM (yX3_joins, cX3_joins, 3, (some .boolean), 3, 0, 1, kX3_joins) (4230, 1029, 4229, 19) = true := by decide +kernel
theorem ck_1_8 : okM (yX3_add, cX3_add, 2, (some .int), 3, 0, 1, kX3_add) (4226, 1029, 4224, 4225) = true := by decide +kernel
theorem cq_1_9_0 : okCk 3 yX3_drive cX3_drive 0 ((kX3_drive.drop 0).take 10) = true := by decide +kernel
theorem cq_1_9_10 : okCk 3 yX3_drive cX3_drive 160 ((kX3_drive.drop 10).take 10) = true := by decide +kernel
theorem cc_1_9 : okCk 3 yX3_drive cX3_drive 0 (kX3_drive.drop 0) = true := (okCk_split cq_1_9_0 (okCk_last cq_1_9_10 (by decide +kernel)))
theorem ck_1_9 : okM (yX3_drive, cX3_drive, 8, (some .int), 3, 0, 1, kX3_drive) (4182, 1029, 4180, 4181) = true := okM_of (k := kX3_drive) cc_1_9 (by decide +kernel)
theorem ck_1_10 : okM (yX3_rowAt, cX3_rowAt, 2, (some (.object "HireYard$Machine")), 3, 0, 1, kX3_rowAt) (4238, 1029, 4236, 4237) = true := by decide +kernel
theorem ck_1_11 : okM (yX3_dropOthers, cX3_dropOthers, 3, none, 3, 0, 0, kX3_dropOthers) (4186, 1029, 4185, 11) = true := by decide +kernel
theorem ck_1_12 : okM (yX3_weight, cX3_weight, 4, (some .int), 3, 0, 1, kX3_weight) (4193, 1029, 4192, 12) = true := by decide +kernel
theorem ck_1_13 : okM (yX3_sortByNumber, cX3_sortByNumber, 6, none, 3, 0, 1, kX3_sortByNumber) (4197, 1029, 4196, 13) = true := by decide +kernel
theorem ck_1_14 : okM (yX3_rowMiles, cX3_rowMiles, 9, (some .int), 3, 0, 3, kX3_rowMiles) (4201, 1029, 4200, 14) = true := by decide +kernel
theorem ck_1_15 : okM (yX3_customerTown, cX3_customerTown, 3, (some .int), 3, 0, 1, kX3_customerTown) (4205, 1029, 4204, 15) = true := by decide +kernel
theorem ck_2_0 : okM (yX3_keepRow, cX3_keepRow, 3, none, 3, 0, 1, kX3_keepRow) (4210, 1029, 4209, 16) = true := by decide +kernel
theorem ck_2_1 : okM (yX3_nextTurn, cX3_nextTurn, 6, (some .boolean), 3, 0, 1, kX3_nextTurn) (4214, 1029, 4213, 17) = true := by decide +kernel
theorem ck_2_2 : okM (yX3_swapTurns, cX3_swapTurns, 4, none, 3, 0, 2, kX3_swapTurns) (4218, 1029, 4217, 18) = true := by decide +kernel
theorem ck_2_3 : okM (yX4_init, cX4_init, 6, none, 4, 0, 5, kX4_init) (2185, 1034, 2184, 0) = true := by decide +kernel
theorem ck_2_4 : okM (yX4_isFree, cX4_isFree, 1, (some .boolean), 4, 0, 0, kX4_isFree) (3112, 1034, 3110, 3111) = true := by decide +kernel
