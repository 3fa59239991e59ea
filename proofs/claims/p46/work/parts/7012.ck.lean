theorem cq_16_10_0 : okCk 12 yX12_works cX12_works 0 ((kX12_works.drop 0).take 10) = true := by decide +kernel
theorem cq_16_10_10 : okCk 12 yX12_works cX12_works 160 ((kX12_works.drop 10).take 10) = true := by decide +kernel
theorem cc_16_10 : okCk 12 yX12_works cX12_works 0 (kX12_works.drop 0) = true := (okCk_split cq_16_10_0 (okCk_last cq_16_10_10 (by decide +kernel)))
theorem ck_16_10 : okM (yX12_works, cX12_works, 6, (some .int), 12, 0, 1, kX12_works) (9260, 1032, 9259, 97) = true := okM_of (k := kX12_works) cc_16_10 (by decide +kernel)
theorem ck_16_11 : okM (yX12_hoursOf, cX12_hoursOf, 4, (some .int), 12, 0, 1, kX12_hoursOf) (9236, 1032, 9235, 91) = true := by decide +kernel
theorem ck_16_12 : okM (yX12_rainOf, cX12_rainOf, 4, (some .int), 12, 0, 1, kX12_rainOf) (9240, 1032, 9239, 92) = true := by decide +kernel
theorem ck_16_13 : okM (yX12_brokenOf, cX12_brokenOf, 7, (some .int), 12, 0, 1, kX12_brokenOf) (9244, 1032, 9243, 93) = true := by decide +kernel
theorem ck_16_14 : okM (yX12_marksFound, cX12_marksFound, 2, (some .int), 12, 0, 1, kX12_marksFound) (9256, 1032, 9255, 96) = true := by decide +kernel
theorem ck_16_15 : okM (yX12_harmOf, cX12_harmOf, 4, (some .int), 12, 0, 1, kX12_harmOf) (9252, 1032, 9251, 95) = true := by decide +kernel
theorem ck_17_0 : okM (yX12_fuelOf, cX12_fuelOf, 2, (some .int), 12, 0, 1, kX12_fuelOf) (9248, 1032, 9247, 94) = true := by decide +kernel
theorem cq_17_1_0 : okCk 12 yX12_tell cX12_tell 0 ((kX12_tell.drop 0).take 10) = true := by decide +kernel
theorem cq_17_1_10 : okCk 12 yX12_tell cX12_tell 160 ((kX12_tell.drop 10).take 10) = true := by decide +kernel
theorem cc_17_1 : okCk 12 yX12_tell cX12_tell 0 (kX12_tell.drop 0) = true := (okCk_split cq_17_1_0 (okCk_last cq_17_1_10 (by decide +kernel)))
theorem ck_17_1 : okM (yX12_tell, cX12_tell, 6, none, 12, 0, 3, kX12_tell) (9232, 1032, 9231, 90) = true := okM_of (k := kX12_tell) cc_17_1 (by decide +kernel)
theorem ck_17_2 : okM (yX12_gives, cX12_gives, 4, (some .int), 12, 0, 3, kX12_gives) (9228, 1032, 9226, 9227) = true := by decide +kernel
theorem ck_17_3 : okM (yX12_lesser, cX12_lesser, 8, (some .int), 12, 0, 3, kX12_lesser) (9272, 1032, 9271, 98) = true := by decide +kernel
theorem ck_17_4 : okM (yX12_bill, cX12_bill, 5, (some .int), 12, 0, 3, kX12_bill) (9268, 1032, 9266, 9267) = true := by decide +kernel
theorem ck_17_5 : okM (yX12_next, cX12_next, 5, (some .int), 12, 0, 2, kX12_next) (9276, 1032, 9274, 9275) = true := by decide +kernel
theorem ck_17_6 : okM (yX12_mayTell, cX12_mayTell, 3, (some .boolean), 12, 0, 2, kX12_mayTell) (9285, 1032, 9284, 99) = true := by decide +kernel
theorem ck_17_7 : okM (yX12_looked, cX12_looked, 4, (some .int), 12, 0, 3, kX12_looked) (9280, 1032, 9278, 9279) = true := by decide +kernel
theorem ck_17_8 : okM (yX12_fuel, cX12_fuel, 4, (some .int), 12, 0, 3, kX12_fuel) (9289, 1032, 9287, 9288) = true := by decide +kernel
theorem ck_17_9 : okM (yX12_harm, cX12_harm, 3, (some .int), 12, 0, 2, kX12_harm) (9293, 1032, 9291, 9292) = true := by decide +kernel
theorem ck_17_10 : okM (yX12_share, cX12_share, 5, (some .int), 12, 0, 2, kX12_share) (9297, 1032, 9295, 9296) = true := by decide +kernel
theorem ck_17_11 : okM (yX12_chain, cX12_chain, 4, (some .int), 12, 0, 3, kX12_chain) (9301, 1032, 9299, 9300) = true := by decide +kernel
theorem ck_17_12 : okM (yX12_rank, cX12_rank, 3, (some .int), 12, 0, 2, kX12_rank) (9305, 1032, 9303, 9304) = true := by decide +kernel
