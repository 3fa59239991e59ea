theorem ck_17_13 : okM (yX12_idleOf, cX12_idleOf, 5, (some .int), 12, 0, 2, kX12_idleOf) (9313, 1032, 9312, 100) = true := by decide +kernel
theorem ck_17_14 : okM (yX12_wantedOf, cX12_wantedOf, 5, (some .int), 12, 0, 2, kX12_wantedOf) (9317, 1032, 9316, 101) = true := by decide +kernel
theorem ck_17_15 : okM (yX12_idle, cX12_idle, 4, (some .int), 12, 0, 3, kX12_idle) (9309, 1032, 9307, 9308) = true := by decide +kernel
theorem ck_18_0 : okM (yX12_move, cX12_move, 8, (some .int), 12, 0, 1, kX12_move) (9321, 1032, 9319, 9320) = true := by decide +kernel
theorem cq_18_1_0 : okCk 12 yX12_count cX12_count 0 ((kX12_count.drop 0).take 10) = true := by decide +kernel
theorem cq_18_1_10 : okCk 12 yX12_count cX12_count 160 ((kX12_count.drop 10).take 10) = true := by decide +kernel
theorem cc_18_1 : okCk 12 yX12_count cX12_count 0 (kX12_count.drop 0) = true := (okCk_split cq_18_1_0 (okCk_last cq_18_1_10 (by decide +kernel)))
theorem ck_18_1 : okM (yX12_count, cX12_count, 4, (some .int), 12, 0, 1, kX12_count) (9325, 1032, 9323, 9324) = true := okM_of (k := kX12_count) cc_18_1 (by decide +kernel)
theorem ck_18_2 : okM (yJ7_fill_d0a16, cJ7_fill_d0a16, 5, none, 15, 1, 2, kJ7_fill_d0a16) (4139, 1037, 4138, 0) = true := by decide +kernel
theorem ck_18_3 : okM (yJ7_copyOf_59c91, cJ7_copyOf_59c91, 3, (some (.array .int)), 15, 1, 2, kJ7_copyOf_59c91) (3171, 1037, 3170, 0) = true := by decide +kernel
