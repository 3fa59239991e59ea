theorem cq_14_9_0 : okCk 12 yX12_round cX12_round 0 ((kX12_round.drop 0).take 10) = true := by decide +kernel
theorem cq_14_9_10 : okCk 12 yX12_round cX12_round 160 ((kX12_round.drop 10).take 10) = true := by decide +kernel
theorem cc_14_9 : okCk 12 yX12_round cX12_round 0 (kX12_round.drop 0) = true := (okCk_split cq_14_9_0 (okCk_last cq_14_9_10 (by decide +kernel)))
theorem ck_14_9 : okM (yX12_round, cX12_round, 7, (some .int), 12, 0, 0, kX12_round) (8293, 1032, 8291, 8292) = true := okM_of (k := kX12_round) cc_14_9 (by decide +kernel)
theorem ck_14_10 : okM (yX12_stopped, cX12_stopped, 2, (some .int), 12, 0, 1, kX12_stopped) (8305, 1032, 8303, 8304) = true := by decide +kernel
theorem ck_14_11 : okM (yX12_send, cX12_send, 3, (some .int), 12, 0, 1, kX12_send) (8309, 1032, 8307, 8308) = true := by decide +kernel
theorem ck_14_12 : okM (yX12_hasBegun, cX12_hasBegun, 2, (some .boolean), 12, 0, 1, kX12_hasBegun) (7406, 1032, 7405, 54) = true := by decide +kernel
theorem ck_14_13 : okM (yX12_fetch, cX12_fetch, 4, (some .int), 12, 0, 2, kX12_fetch) (8317, 1032, 8315, 8316) = true := by decide +kernel
theorem ck_14_14 : okM (yX12_off, cX12_off, 2, (some .int), 12, 0, 1, kX12_off) (8321, 1032, 8319, 8320) = true := by decide +kernel
theorem ck_14_15 : okM (yX12_ofOrder, cX12_ofOrder, 3, (some .int), 12, 0, 2, kX12_ofOrder) (8325, 1032, 8323, 8324) = true := by decide +kernel
theorem ck_15_0 : okM (yX12_endOf, cX12_endOf, 2, (some .int), 12, 0, 1, kX12_endOf) (8341, 1032, 8340, 72) = true := by decide +kernel
theorem ck_15_1 : okM (yX12_daysOf, cX12_daysOf, 2, (some .int), 12, 0, 1, kX12_daysOf) (8337, 1032, 8336, 71) = true := by decide +kernel
theorem ck_15_2 : okM (yX12_said, cX12_said, 4, (some .int), 12, 0, 3, kX12_said) (8329, 1032, 8327, 8328) = true := by decide +kernel
theorem cq_15_3_0 : okCk 12 yX12_dayIs cX12_dayIs 0 ((kX12_dayIs.drop 0).take 10) = true := by decide +kernel
theorem cq_15_3_10 : okCk 12 yX12_dayIs cX12_dayIs 160 ((kX12_dayIs.drop 10).take 10) = true := by decide +kernel
theorem cc_15_3 : okCk 12 yX12_dayIs cX12_dayIs 0 (kX12_dayIs.drop 0) = true := (okCk_split cq_15_3_0 (okCk_last cq_15_3_10 (by decide +kernel)))
theorem ck_15_3 : okM (yX12_dayIs, cX12_dayIs, 10, (some .int), 12, 0, 2, kX12_dayIs) (8349, 1032, 8348, 74) = true := okM_of (k := kX12_dayIs) cc_15_3 (by decide +kernel)
theorem ck_15_4 : okM (yX12_worked, cX12_worked, 6, (some .int), 12, 0, 2, kX12_worked) (8345, 1032, 8344, 73) = true := by decide +kernel
theorem ck_15_5 : okM (yX12_days, cX12_days, 3, (some .int), 12, 0, 2, kX12_days) (8333, 1032, 8331, 8332) = true := by decide +kernel
theorem ck_15_6 : okM (yX12_dayOf, cX12_dayOf, 3, (some .int), 12, 0, 2, kX12_dayOf) (8357, 1032, 8355, 8356) = true := by decide +kernel
theorem ck_15_7 : okM (yX12_feed, cX12_feed, 6, (some .int), 12, 0, 5, kX12_feed) (8361, 1032, 8359, 8360) = true := by decide +kernel
theorem ck_15_8 : okM (yX12_feedOne, cX12_feedOne, 3, none, 12, 0, 1, kX12_feedOne) (8365, 1032, 8364, 76) = true := by decide +kernel
theorem ck_15_9 : okM (yX12_end, cX12_end, 2, (some .int), 12, 0, 1, kX12_end) (8369, 1032, 8367, 8368) = true := by decide +kernel
theorem ck_15_10 : okM (yX12_isLetter, cX12_isLetter, 1, (some .boolean), 12, 1, 1, kX12_isLetter) (8380, 1032, 8379, 0) = true := by decide +kernel
