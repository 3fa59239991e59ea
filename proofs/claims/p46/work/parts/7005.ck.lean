theorem ck_10_0 : okM (yX11_share, cX11_share, 5, (some .int), 11, 0, 2, kX11_share) (6180, 1025, 6178, 6179) = true := by decide +kernel
theorem ck_10_1 : okM (yX11_chain, cX11_chain, 5, (some .int), 11, 0, 3, kX11_chain) (6188, 1025, 6186, 6187) = true := by decide +kernel
theorem ck_10_2 : okM (yX11_rank, cX11_rank, 4, (some .int), 11, 0, 2, kX11_rank) (6196, 1025, 6194, 6195) = true := by decide +kernel
theorem ck_10_3 : okM (yX11_idle, cX11_idle, 5, (some .int), 11, 0, 3, kX11_idle) (6200, 1025, 6198, 6199) = true := by decide +kernel
theorem ck_10_4 : okM (yX11_move, cX11_move, 9, (some .int), 11, 0, 1, kX11_move) (6212, 1025, 6210, 6211) = true := by decide +kernel
theorem ck_10_5 : okM (yX11_count, cX11_count, 2, (some .int), 11, 0, 1, kX11_count) (6216, 1025, 6214, 6215) = true := by decide +kernel
theorem ck_10_6 : okM (yX11_within, cX11_within, 3, (some .boolean), 11, 1, 3, kX11_within) (2084, 1025, 2083, 0) = true := by decide +kernel
theorem ck_10_7 : okM (yX11_isFlag, cX11_isFlag, 1, (some .boolean), 11, 1, 1, kX11_isFlag) (2069, 1025, 2068, 0) = true := by decide +kernel
theorem ck_10_8 : okM (yX11_kindOf, cX11_kindOf, 2, (some (.object "HireYard$Kind")), 11, 0, 1, kX11_kindOf) (2169, 1025, 2168, 2) = true := by decide +kernel
theorem ck_10_9 : okM (yX11_machineOf, cX11_machineOf, 2, (some (.object "HireYard$Machine")), 11, 0, 1, kX11_machineOf) (2109, 1025, 2108, 1) = true := by decide +kernel
theorem ck_10_10 : okM (yX11_orderOf, cX11_orderOf, 2, (some (.object "HireYard$Order")), 11, 0, 1, kX11_orderOf) (3310, 1025, 3309, 8) = true := by decide +kernel
theorem ck_10_11 : okM (yX11_isCustomer, cX11_isCustomer, 2, (some .boolean), 11, 0, 1, kX11_isCustomer) (3224, 1025, 3223, 7) = true := by decide +kernel
theorem ck_10_12 : okM (yX11_begunOrder, cX11_begunOrder, 3, (some (.object "HireYard$Order")), 11, 0, 1, kX11_begunOrder) (4275, 1025, 4274, 20) = true := by decide +kernel
theorem ck_10_13 : okM (yX11_learn, cX11_learn, 2, none, 11, 0, 1, kX11_learn) (5280, 1025, 5279, 37) = true := by decide +kernel
theorem ck_10_14 : okM (yX11_priceOf, cX11_priceOf, 3, (some .int), 11, 0, 2, kX11_priceOf) (6151, 1025, 6150, 39) = true := by decide +kernel
theorem ck_10_15 : okM (yX11_idleIn, cX11_idleIn, 6, (some .int), 11, 0, 2, kX11_idleIn) (6204, 1025, 6203, 41) = true := by decide +kernel
theorem ck_11_0 : okM (yX11_wantedIn, cX11_wantedIn, 6, (some .int), 11, 0, 2, kX11_wantedIn) (6208, 1025, 6207, 42) = true := by decide +kernel
theorem ck_11_1 : okM (yX11_machinesThatAre, cX11_machinesThatAre, 5, (some .int), 11, 0, 1, kX11_machinesThatAre) (6220, 1025, 6219, 43) = true := by decide +kernel
theorem ck_11_2 : okM (yX11_ordersThatAre, cX11_ordersThatAre, 5, (some .int), 11, 0, 1, kX11_ordersThatAre) (6224, 1025, 6223, 44) = true := by decide +kernel
