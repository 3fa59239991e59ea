theorem ck_6_12 : okM (yX9_step, cX9_step, 4, none, 9, 0, 0, kX9_step) (5201, 1030, 5200, 27) = true := by decide +kernel
theorem ck_6_13 : okM (yX9_sum, cX9_sum, 4, none, 9, 0, 1, kX9_sum) (5230, 1030, 5229, 34) = true := by decide +kernel
theorem ck_6_14 : okM (yX9_product, cX9_product, 4, none, 9, 0, 1, kX9_product) (5234, 1030, 5233, 35) = true := by decide +kernel
theorem ck_6_15 : okM (yX9_operand, cX9_operand, 4, none, 9, 0, 1, kX9_operand) (5238, 1030, 5237, 36) = true := by decide +kernel
theorem ck_7_0 : okM (yX10_init, cX10_init, 5, none, 10, 0, 4, kX10_init) (5248, 1044, 5247, 0) = true := by decide +kernel
theorem ck_7_1 : okM (yX10_inForce, cX10_inForce, 4, (some .boolean), 10, 0, 3, kX10_inForce) (5358, 1044, 5356, 5357) = true := by decide +kernel
theorem ck_7_2 : okM (yX10_give, cX10_give, 7, (some .int), 10, 0, 2, kX10_give) (5336, 1044, 5334, 5335) = true := by decide +kernel
theorem ck_7_3 : okM (yX10_run, cX10_run, 8, (some .int), 10, 0, 4, kX10_run) (5341, 1044, 5340, 38) = true := by decide +kernel
theorem ck_7_4 : okM (yX10_work, cX10_work, 3, (some .int), 10, 1, 3, kX10_work) (5344, 1044, 5343, 0) = true := by decide +kernel
theorem ck_7_5 : okM (yX11_init, cX11_init, 1, none, 11, 0, 0, kX11_init) (1049, 1025, 1048, 0) = true := by decide +kernel
theorem ck_7_6 : okM (yX11_town, cX11_town, 2, (some .int), 11, 0, 1, kX11_town) (2066, 1025, 2064, 2065) = true := by decide +kernel
theorem ck_7_7 : okM (yX11_road, cX11_road, 4, (some .int), 11, 0, 3, kX11_road) (2077, 1025, 2075, 2076) = true := by decide +kernel
theorem ck_7_8 : okM (yX11_far, cX11_far, 4, (some .int), 11, 0, 2, kX11_far) (2097, 1025, 2095, 2096) = true := by decide +kernel
theorem ck_7_9 : okM (yX11_hours, cX11_hours, 4, (some .int), 11, 0, 1, kX11_hours) (2105, 1025, 2103, 2104) = true := by decide +kernel
theorem ck_7_10 : okM (yX11_rain, cX11_rain, 4, (some .int), 11, 0, 2, kX11_rain) (2117, 1025, 2115, 2116) = true := by decide +kernel
theorem ck_7_11 : okM (yX11_type, cX11_type, 6, (some .int), 11, 0, 4, kX11_type) (2121, 1025, 2119, 2120) = true := by decide +kernel
theorem ck_7_12 : okM (yX11_instead, cX11_instead, 6, (some .int), 11, 0, 3, kX11_instead) (2165, 1025, 2163, 2164) = true := by decide +kernel
theorem ck_7_13 : okM (yX11_mark, cX11_mark, 6, (some .int), 11, 0, 3, kX11_mark) (2173, 1025, 2171, 2172) = true := by decide +kernel
theorem ck_7_14 : okM (yX11_machine, cX11_machine, 5, (some .int), 11, 0, 3, kX11_machine) (2177, 1025, 2175, 2176) = true := by decide +kernel
theorem ck_7_15 : okM (yX11_link, cX11_link, 5, (some .int), 11, 0, 3, kX11_link) (3074, 1025, 3072, 3073) = true := by decide +kernel
theorem ck_8_0 : okM (yX11_ofMachine, cX11_ofMachine, 4, (some .int), 11, 0, 2, kX11_ofMachine) (3082, 1025, 3080, 3081) = true := by decide +kernel
theorem ck_8_1 : okM (yX11_look, cX11_look, 4, (some .int), 11, 0, 2, kX11_look) (3108, 1025, 3106, 3107) = true := by decide +kernel
theorem ck_8_2 : okM (yX11_broken, cX11_broken, 4, (some .int), 11, 0, 2, kX11_broken) (3120, 1025, 3118, 3119) = true := by decide +kernel
theorem ck_8_3 : okM (yX11_gone, cX11_gone, 4, (some .int), 11, 0, 2, kX11_gone) (3132, 1025, 3130, 3131) = true := by decide +kernel
theorem ck_8_4 : okM (yX11_read, cX11_read, 5, (some .int), 11, 0, 2, kX11_read) (3152, 1025, 3150, 3151) = true := by decide +kernel
theorem ck_8_5 : okM (yX11_track, cX11_track, 3, (some .int), 11, 0, 2, kX11_track) (3188, 1025, 3186, 3187) = true := by decide +kernel
