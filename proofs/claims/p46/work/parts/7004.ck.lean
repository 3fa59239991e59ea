theorem ck_8_6 : okM (yX11_theft, cX11_theft, 4, (some .int), 11, 0, 2, kX11_theft) (3196, 1025, 3194, 3195) = true := by decide +kernel
theorem ck_8_7 : okM (yX11_customer, cX11_customer, 3, (some .int), 11, 0, 2, kX11_customer) (3216, 1025, 3214, 3215) = true := by decide +kernel
theorem ck_8_8 : okM (yX11_order, cX11_order, 9, (some .int), 11, 0, 5, kX11_order) (3220, 1025, 3218, 3219) = true := by decide +kernel
theorem ck_8_9 : okM (yX11_why, cX11_why, 5, (some .int), 11, 0, 2, kX11_why) (3306, 1025, 3304, 3305) = true := by decide +kernel
theorem ck_8_10 : okM (yX11_list, cX11_list, 3, (some .int), 11, 0, 1, kX11_list) (4119, 1025, 4117, 4118) = true := by decide +kernel
theorem ck_8_11 : okM (yX11_best, cX11_best, 3, (some .int), 11, 0, 0, kX11_best) (4131, 1025, 4129, 4130) = true := by decide +kernel
theorem ck_8_12 : okM (yX11_miles, cX11_miles, 1, (some .int), 11, 0, 0, kX11_miles) (4174, 1025, 4172, 4173) = true := by decide +kernel
theorem ck_8_13 : okM (yX11_round, cX11_round, 1, (some .int), 11, 0, 0, kX11_round) (4178, 1025, 4176, 4177) = true := by decide +kernel
theorem ck_8_14 : okM (yX11_stop, cX11_stop, 3, (some .int), 11, 0, 1, kX11_stop) (4222, 1025, 4220, 4221) = true := by decide +kernel
theorem ck_8_15 : okM (yX11_stopped, cX11_stopped, 3, (some .int), 11, 0, 1, kX11_stopped) (4234, 1025, 4232, 4233) = true := by decide +kernel
theorem ck_9_0 : okM (yX11_send, cX11_send, 5, (some .int), 11, 0, 1, kX11_send) (4242, 1025, 4240, 4241) = true := by decide +kernel
theorem ck_9_1 : okM (yX11_fetch, cX11_fetch, 6, (some .int), 11, 0, 2, kX11_fetch) (4253, 1025, 4251, 4252) = true := by decide +kernel
theorem ck_9_2 : okM (yX11_off, cX11_off, 3, (some .int), 11, 0, 1, kX11_off) (4259, 1025, 4257, 4258) = true := by decide +kernel
theorem ck_9_3 : okM (yX11_ofOrder, cX11_ofOrder, 4, (some .int), 11, 0, 2, kX11_ofOrder) (4263, 1025, 4261, 4262) = true := by decide +kernel
theorem ck_9_4 : okM (yX11_said, cX11_said, 5, (some .int), 11, 0, 3, kX11_said) (4267, 1025, 4265, 4266) = true := by decide +kernel
theorem ck_9_5 : okM (yX11_days, cX11_days, 4, (some .int), 11, 0, 2, kX11_days) (4271, 1025, 4269, 4270) = true := by decide +kernel
theorem ck_9_6 : okM (yX11_dayOf, cX11_dayOf, 4, (some .int), 11, 0, 2, kX11_dayOf) (4311, 1025, 4309, 4310) = true := by decide +kernel
theorem ck_9_7 : okM (yX11_feed, cX11_feed, 6, (some .int), 11, 0, 5, kX11_feed) (4316, 1025, 4314, 4315) = true := by decide +kernel
theorem ck_9_8 : okM (yX11_end, cX11_end, 2, (some .int), 11, 0, 1, kX11_end) (4328, 1025, 4326, 4327) = true := by decide +kernel
theorem ck_9_9 : okM (yX11_terms, cX11_terms, 4, (some .int), 11, 0, 2, kX11_terms) (4332, 1025, 4330, 4331) = true := by decide +kernel
theorem ck_9_10 : okM (yX11_gives, cX11_gives, 5, (some .int), 11, 0, 3, kX11_gives) (5272, 1025, 5270, 5271) = true := by decide +kernel
theorem cq_9_11_0 : okCk 11 yX11_bill cX11_bill 0 ((kX11_bill.drop 0).take 10) = true := by decide +kernel
theorem cq_9_11_10 : okCk 11 yX11_bill cX11_bill 160 ((kX11_bill.drop 10).take 10) = true := by decide +kernel
theorem cc_9_11 : okCk 11 yX11_bill cX11_bill 0 (kX11_bill.drop 0) = true := (okCk_split cq_9_11_0 (okCk_last cq_9_11_10 (by decide +kernel)))
theorem ck_9_11 : okM (yX11_bill, cX11_bill, 6, (some .int), 11, 0, 3, kX11_bill) (5350, 1025, 5348, 5349) = true := okM_of (k := kX11_bill) cc_9_11 (by decide +kernel)
theorem ck_9_12 : okM (yX11_next, cX11_next, 6, (some .int), 11, 0, 2, kX11_next) (6147, 1025, 6145, 6146) = true := by decide +kernel
theorem ck_9_13 : okM (yX11_looked, cX11_looked, 5, (some .int), 11, 0, 3, kX11_looked) (6156, 1025, 6154, 6155) = true := by decide +kernel
theorem ck_9_14 : okM (yX11_fuel, cX11_fuel, 5, (some .int), 11, 0, 3, kX11_fuel) (6169, 1025, 6167, 6168) = true := by decide +kernel
theorem ck_9_15 : okM (yX11_harm, cX11_harm, 4, (some .int), 11, 0, 2, kX11_harm) (6173, 1025, 6171, 6172) = true := by decide +kernel
