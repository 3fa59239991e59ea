theorem cq_4_11_0 : okCk 7 yX7_knownOfDay cX7_knownOfDay 0 ((kX7_knownOfDay.drop 0).take 10) = true := by decide +kernel
theorem cq_4_11_10 : okCk 7 yX7_knownOfDay cX7_knownOfDay 160 ((kX7_knownOfDay.drop 10).take 10) = true := by decide +kernel
theorem cc_4_11 : okCk 7 yX7_knownOfDay cX7_knownOfDay 0 (kX7_knownOfDay.drop 0) = true := (okCk_split cq_4_11_0 (okCk_last cq_4_11_10 (by decide +kernel)))
theorem ck_4_11 : okM (yX7_knownOfDay, cX7_knownOfDay, 11, (some .int), 7, 0, 2, kX7_knownOfDay) (4292, 1039, 4290, 4291) = true := okM_of (k := kX7_knownOfDay) cc_4_11 (by decide +kernel)
theorem ck_4_12 : okM (yX7_daysWorked, cX7_daysWorked, 8, (some .int), 7, 0, 2, kX7_daysWorked) (4287, 1039, 4285, 4286) = true := by decide +kernel
theorem ck_4_13 : okM (yX7_hoursWorked, cX7_hoursWorked, 4, (some .int), 7, 0, 1, kX7_hoursWorked) (5288, 1039, 5286, 5287) = true := by decide +kernel
theorem ck_4_14 : okM (yX7_mayTell, cX7_mayTell, 2, (some .boolean), 7, 0, 1, kX7_mayTell) (6165, 1039, 6164, 40) = true := by decide +kernel
theorem ck_4_15 : okM (yX7_tell, cX7_tell, 4, (some .int), 7, 0, 3, kX7_tell) (6161, 1039, 6159, 6160) = true := by decide +kernel
theorem ck_5_0 : okM (yX7_newMarks, cX7_newMarks, 1, (some .int), 7, 0, 0, kX7_newMarks) (5308, 1039, 5306, 5307) = true := by decide +kernel
theorem ck_5_1 : okM (yX7_harmCoins, cX7_harmCoins, 4, (some .int), 7, 0, 0, kX7_harmCoins) (5304, 1039, 5302, 5303) = true := by decide +kernel
theorem ck_5_2 : okM (yX7_litresMissing, cX7_litresMissing, 1, (some .int), 7, 0, 0, kX7_litresMissing) (5299, 1039, 5297, 5298) = true := by decide +kernel
theorem ck_5_3 : okM (yX8_init, cX8_init, 1, none, 8, 0, 0, kX8_init) (1057, 1026, 1056, 0) = true := by decide +kernel
theorem ck_5_4 : okM (yX8_found, cX8_found, 3, (some .int), 8, 0, 1, kX8_found) (2073, 1026, 2071, 2072) = true := by decide +kernel
theorem ck_5_5 : okM (yX8_has, cX8_has, 2, (some .boolean), 8, 0, 1, kX8_has) (2081, 1026, 2079, 2080) = true := by decide +kernel
theorem ck_5_6 : okM (yX8_hasYard, cX8_hasYard, 2, (some .boolean), 8, 0, 1, kX8_hasYard) (2181, 1026, 2179, 2180) = true := by decide +kernel
theorem ck_5_7 : okM (yX8_lay, cX8_lay, 6, (some .int), 8, 0, 3, kX8_lay) (2088, 1026, 2086, 2087) = true := by decide +kernel
theorem ck_5_8 : okM (yX8_shorten, cX8_shorten, 7, none, 8, 0, 5, kX8_shorten) (2093, 1026, 2092, 0) = true := by decide +kernel
theorem ck_5_9 : okM (yX8_way, cX8_way, 3, (some .int), 8, 0, 2, kX8_way) (2101, 1026, 2099, 2100) = true := by decide +kernel
theorem ck_5_10 : okM (yX8_rideHours, cX8_rideHours, 4, (some .int), 8, 0, 2, kX8_rideHours) (4114, 1026, 4112, 4113) = true := by decide +kernel
theorem ck_5_11 : okM (yX9_init, cX9_init, 1, none, 9, 0, 0, kX9_init) (1168, 1030, 1167, 0) = true := by decide +kernel
theorem ck_5_12 : okM (yX9_hasRoom, cX9_hasRoom, 1, (some .boolean), 9, 0, 0, kX9_hasRoom) (4320, 1030, 4318, 4319) = true := by decide +kernel
theorem ck_5_13 : okM (yX9_append, cX9_append, 3, none, 9, 0, 1, kX9_append) (4324, 1030, 4322, 4323) = true := by decide +kernel
theorem ck_5_14 : okM (yX9_compile, cX9_compile, 3, (some .int), 9, 0, 0, kX9_compile) (5124, 1030, 5122, 5123) = true := by decide +kernel
theorem ck_5_15 : okM (yX9_copyOfCode, cX9_copyOfCode, 1, (some (.array .int)), 9, 0, 0, kX9_copyOfCode) (5244, 1030, 5242, 5243) = true := by decide +kernel
theorem cq_6_0_0 : okCk 9 yX9_cut cX9_cut 0 ((kX9_cut.drop 0).take 10) = true := by decide +kernel
theorem cq_6_0_10 : okCk 9 yX9_cut cX9_cut 160 ((kX9_cut.drop 10).take 10) = true := by decide +kernel
theorem cc_6_0 : okCk 9 yX9_cut cX9_cut 0 (kX9_cut.drop 0) = true := (okCk_split cq_6_0_0 (okCk_last cq_6_0_10 (by decide +kernel)))
theorem ck_6_0 : okM (yX9_cut, cX9_cut, 4, none, 9, 0, 0, kX9_cut) (5128, 1030, 5127, 21) = true := okM_of (k := kX9_cut) cc_6_0 (by decide +kernel)
theorem ck_6_1 : okM (yX9_isLetter, cX9_isLetter, 2, (some .boolean), 9, 0, 1, kX9_isLetter) (5132, 1030, 5131, 22) = true := by decide +kernel
theorem ck_6_2 : okM (yX9_isDigit, cX9_isDigit, 2, (some .boolean), 9, 0, 1, kX9_isDigit) (5193, 1030, 5192, 25) = true := by decide +kernel
theorem ck_6_3 : okM (yX9_addToken, cX9_addToken, 4, none, 9, 0, 3, kX9_addToken) (5189, 1030, 5188, 24) = true := by decide +kernel
theorem ck_6_4 : okM (yX9_numberOf, cX9_numberOf, 5, (some .int), 9, 0, 2, kX9_numberOf) (5197, 1030, 5196, 26) = true := by decide +kernel
theorem ck_6_5 : okM (yX9_wordSort, cX9_wordSort, 8, (some .int), 9, 0, 2, kX9_wordSort) (5136, 1030, 5135, 23) = true := by decide +kernel
theorem ck_6_6 : okM (yX9_sort, cX9_sort, 1, (some .int), 9, 0, 0, kX9_sort) (5210, 1030, 5209, 29) = true := by decide +kernel
theorem ck_6_7 : okM (yX9_take, cX9_take, 2, (some .boolean), 9, 0, 1, kX9_take) (5206, 1030, 5205, 28) = true := by decide +kernel
theorem ck_6_8 : okM (yX9_need, cX9_need, 2, none, 9, 0, 1, kX9_need) (5222, 1030, 5221, 32) = true := by decide +kernel
theorem ck_6_9 : okM (yX9_fail, cX9_fail, 1, none, 9, 0, 0, kX9_fail) (5218, 1030, 5217, 31) = true := by decide +kernel
theorem ck_6_10 : okM (yX9_number, cX9_number, 1, (some .int), 9, 0, 0, kX9_number) (5214, 1030, 5213, 30) = true := by decide +kernel
theorem ck_6_11 : okM (yX9_emit, cX9_emit, 2, none, 9, 0, 1, kX9_emit) (5226, 1030, 5225, 33) = true := by decide +kernel
