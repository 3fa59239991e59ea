theorem ck_13_15 : okM (yX12_mayHave, cX12_mayHave, 3, (some .boolean), 12, 0, 2, kX12_mayHave) (8277, 1032, 8276, 66) = true := by decide +kernel
theorem ck_14_0 : okM (yX12_findWorths, cX12_findWorths, 3, none, 12, 0, 0, kX12_findWorths) (8262, 1032, 8261, 63) = true := by decide +kernel
theorem ck_14_1 : okM (yX12_worthBy, cX12_worthBy, 3, (some .long), 12, 0, 2, kX12_worthBy) (8266, 1032, 8265, 64) = true := by decide +kernel
theorem cq_14_2_0 : okCk 12 yX12_most cX12_most 0 ((kX12_most.drop 0).take 10) = true := by decide +kernel
theorem cq_14_2_10 : okCk 12 yX12_most cX12_most 160 ((kX12_most.drop 10).take 10) = true := by decide +kernel
theorem cc_14_2 : okCk 12 yX12_most cX12_most 0 (kX12_most.drop 0) = true := (okCk_split cq_14_2_0 (okCk_last cq_14_2_10 (by decide +kernel)))
theorem ck_14_2 : okM (yX12_most, cX12_most, 8, (some .long), 12, 0, 1, kX12_most) (8273, 1032, 8272, 65) = true := okM_of (k := kX12_most) cc_14_2 (by decide +kernel)
theorem cq_14_3_0 : okCk 12 yX12_best cX12_best 0 ((kX12_best.drop 0).take 10) = true := by decide +kernel
theorem cq_14_3_10 : okCk 12 yX12_best cX12_best 160 ((kX12_best.drop 10).take 10) = true := by decide +kernel
theorem cc_14_3 : okCk 12 yX12_best cX12_best 0 (kX12_best.drop 0) = true := (okCk_split cq_14_3_0 (okCk_last cq_14_3_10 (by decide +kernel)))
theorem ck_14_3 : okM (yX12_best, cX12_best, 6, (some .int), 12, 0, 0, kX12_best) (8258, 1032, 8256, 8257) = true := okM_of (k := kX12_best) cc_14_3 (by decide +kernel)
theorem ck_14_4 : okM (yX12_miles, cX12_miles, 1, (some .int), 12, 0, 0, kX12_miles) (8281, 1032, 8279, 8280) = true := by decide +kernel
theorem ck_14_5 : okM (yX12_isPromised, cX12_isPromised, 2, (some .boolean), 12, 0, 1, kX12_isPromised) (8289, 1032, 8288, 67) = true := by decide +kernel
theorem ck_14_6 : okM (yX12_stop, cX12_stop, 3, (some .int), 12, 0, 1, kX12_stop) (8285, 1032, 8283, 8284) = true := by decide +kernel
theorem ck_14_7 : okM (yX12_milesOfRow, cX12_milesOfRow, 6, (some .int), 12, 0, 1, kX12_milesOfRow) (8301, 1032, 8300, 69) = true := by decide +kernel
theorem ck_14_8 : okM (yX12_isUsed, cX12_isUsed, 3, (some .boolean), 12, 0, 1, kX12_isUsed) (8297, 1032, 8296, 68) = true := by decide +kernel
