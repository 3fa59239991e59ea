theorem ck_11_4 : okM (yX12_in, cX12_in, 3, (some .boolean), 12, 1, 3, kX12_in) (7312, 1032, 7311, 0) = true := by decide +kernel
theorem ck_11_5 : okM (yX12_isDay, cX12_isDay, 1, (some .boolean), 12, 1, 1, kX12_isDay) (7340, 1032, 7339, 0) = true := by decide +kernel
theorem ck_11_6 : okM (yX12_today, cX12_today, 1, (some .int), 12, 0, 0, kX12_today) (9224, 1032, 9223, 89) = true := by decide +kernel
theorem ck_11_7 : okM (yX12_isTown, cX12_isTown, 2, (some .boolean), 12, 0, 1, kX12_isTown) (7329, 1032, 7328, 47) = true := by decide +kernel
theorem ck_11_8 : okM (yX12_farOf, cX12_farOf, 3, (some .int), 12, 0, 2, kX12_farOf) (7321, 1032, 7320, 46) = true := by decide +kernel
theorem cq_11_9_0 : okCk 12 yX12_findFars cX12_findFars 0 ((kX12_findFars.drop 0).take 10) = true := by decide +kernel
theorem cq_11_9_10 : okCk 12 yX12_findFars cX12_findFars 160 ((kX12_findFars.drop 10).take 10) = true := by decide +kernel
theorem cc_11_9 : okCk 12 yX12_findFars cX12_findFars 0 (kX12_findFars.drop 0) = true := (okCk_split cq_11_9_0 (okCk_last cq_11_9_10 (by decide +kernel)))
theorem ck_11_9 : okM (yX12_findFars, cX12_findFars, 5, none, 12, 0, 0, kX12_findFars) (7316, 1032, 7315, 45) = true := okM_of (k := kX12_findFars) cc_11_9 (by decide +kernel)
theorem ck_11_10 : okM (yX12_town, cX12_town, 2, (some .int), 12, 0, 1, kX12_town) (7309, 1032, 7307, 7308) = true := by decide +kernel
theorem ck_11_11 : okM (yX12_road, cX12_road, 6, (some .int), 12, 0, 3, kX12_road) (7325, 1032, 7323, 7324) = true := by decide +kernel
theorem ck_11_12 : okM (yX12_far, cX12_far, 3, (some .int), 12, 0, 2, kX12_far) (7333, 1032, 7331, 7332) = true := by decide +kernel
theorem ck_11_13 : okM (yX12_rain, cX12_rain, 4, (some .int), 12, 0, 2, kX12_rain) (7337, 1032, 7335, 7336) = true := by decide +kernel
theorem ck_11_14 : okM (yX12_isType, cX12_isType, 2, (some .boolean), 12, 0, 1, kX12_isType) (7353, 1032, 7352, 48) = true := by decide +kernel
theorem ck_11_15 : okM (yX12_isMachine, cX12_isMachine, 2, (some .boolean), 12, 0, 1, kX12_isMachine) (7373, 1032, 7372, 50) = true := by decide +kernel
theorem ck_12_0 : okM (yX12_type, cX12_type, 5, (some .int), 12, 0, 4, kX12_type) (7344, 1032, 7342, 7343) = true := by decide +kernel
theorem ck_12_1 : okM (yX12_instead, cX12_instead, 5, (some .int), 12, 0, 3, kX12_instead) (7349, 1032, 7347, 7348) = true := by decide +kernel
theorem ck_12_2 : okM (yX12_mark, cX12_mark, 5, (some .int), 12, 0, 3, kX12_mark) (7357, 1032, 7355, 7356) = true := by decide +kernel
theorem ck_12_3 : okM (yX12_addReading, cX12_addReading, 3, none, 12, 0, 2, kX12_addReading) (7365, 1032, 7364, 49) = true := by decide +kernel
theorem ck_12_4 : okM (yX12_readBy, cX12_readBy, 4, (some .int), 12, 0, 2, kX12_readBy) (8198, 1032, 8197, 55) = true := by decide +kernel
theorem ck_12_5 : okM (yX12_readFrom, cX12_readFrom, 4, (some .int), 12, 0, 2, kX12_readFrom) (8353, 1032, 8352, 75) = true := by decide +kernel
theorem ck_12_6 : okM (yX12_machine, cX12_machine, 5, (some .int), 12, 0, 3, kX12_machine) (7361, 1032, 7359, 7360) = true := by decide +kernel
theorem ck_12_7 : okM (yX12_link, cX12_link, 4, (some .int), 12, 0, 3, kX12_link) (7369, 1032, 7367, 7368) = true := by decide +kernel
theorem ck_12_8 : okM (yX12_sinceLook, cX12_sinceLook, 2, (some .int), 12, 0, 1, kX12_sinceLook) (7382, 1032, 7381, 51) = true := by decide +kernel
theorem ck_12_9 : okM (yX12_isDue, cX12_isDue, 2, (some .boolean), 12, 0, 1, kX12_isDue) (8242, 1032, 8241, 60) = true := by decide +kernel
theorem ck_12_10 : okM (yX12_lapses, cX12_lapses, 3, (some .boolean), 12, 0, 2, kX12_lapses) (8246, 1032, 8245, 61) = true := by decide +kernel
theorem cq_12_11_0 : okCk 12 yX12_ofMachine cX12_ofMachine 0 ((kX12_ofMachine.drop 0).take 10) = true := by decide +kernel
theorem cq_12_11_10 : okCk 12 yX12_ofMachine cX12_ofMachine 160 ((kX12_ofMachine.drop 10).take 10) = true := by decide +kernel
theorem cc_12_11 : okCk 12 yX12_ofMachine cX12_ofMachine 0 (kX12_ofMachine.drop 0) = true := (okCk_split cq_12_11_0 (okCk_last cq_12_11_10 (by decide +kernel)))
theorem ck_12_11 : okM (yX12_ofMachine, cX12_ofMachine, 4, (some .int), 12, 0, 2, kX12_ofMachine) (7377, 1032, 7375, 7376) = true := okM_of (k := kX12_ofMachine) cc_12_11 (by decide +kernel)
theorem ck_12_12 : okM (yX12_isFree, cX12_isFree, 2, (some .boolean), 12, 0, 1, kX12_isFree) (7390, 1032, 7389, 52) = true := by decide +kernel
theorem ck_12_13 : okM (yX12_look, cX12_look, 3, (some .int), 12, 0, 2, kX12_look) (7386, 1032, 7384, 7385) = true := by decide +kernel
theorem ck_12_14 : okM (yX12_endSpan, cX12_endSpan, 3, none, 12, 0, 1, kX12_endSpan) (7398, 1032, 7397, 53) = true := by decide +kernel
