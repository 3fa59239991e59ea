theorem ck_12_15 : okM (yX12_broken, cX12_broken, 3, (some .int), 12, 0, 2, kX12_broken) (7394, 1032, 7392, 7393) = true := by decide +kernel
theorem ck_13_0 : okM (yX12_gone, cX12_gone, 4, (some .int), 12, 0, 2, kX12_gone) (7402, 1032, 7400, 7401) = true := by decide +kernel
theorem ck_13_1 : okM (yX12_read, cX12_read, 4, (some .int), 12, 0, 2, kX12_read) (8194, 1032, 8192, 8193) = true := by decide +kernel
theorem ck_13_2 : okM (yX12_track, cX12_track, 3, (some .int), 12, 0, 2, kX12_track) (8202, 1032, 8200, 8201) = true := by decide +kernel
theorem cq_13_3_0 : okCk 12 yX12_theft cX12_theft 0 ((kX12_theft.drop 0).take 10) = true := by decide +kernel
theorem cq_13_3_10 : okCk 12 yX12_theft cX12_theft 160 ((kX12_theft.drop 10).take 10) = true := by decide +kernel
theorem cc_13_3 : okCk 12 yX12_theft cX12_theft 0 (kX12_theft.drop 0) = true := (okCk_split cq_13_3_0 (okCk_last cq_13_3_10 (by decide +kernel)))
theorem ck_13_3 : okM (yX12_theft, cX12_theft, 5, (some .int), 12, 0, 2, kX12_theft) (8206, 1032, 8204, 8205) = true := okM_of (k := kX12_theft) cc_13_3 (by decide +kernel)
theorem ck_13_4 : okM (yX12_hours, cX12_hours, 3, (some .int), 12, 0, 1, kX12_hours) (8210, 1032, 8208, 8209) = true := by decide +kernel
theorem ck_13_5 : okM (yX12_arrive, cX12_arrive, 2, none, 12, 0, 1, kX12_arrive) (8214, 1032, 8213, 56) = true := by decide +kernel
theorem ck_13_6 : okM (yX12_load, cX12_load, 5, none, 12, 0, 3, kX12_load) (8313, 1032, 8312, 70) = true := by decide +kernel
theorem ck_13_7 : okM (yX12_isCustomer, cX12_isCustomer, 2, (some .boolean), 12, 0, 1, kX12_isCustomer) (8226, 1032, 8225, 57) = true := by decide +kernel
theorem ck_13_8 : okM (yX12_isOrder, cX12_isOrder, 2, (some .boolean), 12, 0, 1, kX12_isOrder) (8234, 1032, 8233, 58) = true := by decide +kernel
theorem ck_13_9 : okM (yX12_customer, cX12_customer, 3, (some .int), 12, 0, 2, kX12_customer) (8218, 1032, 8216, 8217) = true := by decide +kernel
theorem cq_13_10_0 : okCk 12 yX12_order cX12_order 0 ((kX12_order.drop 0).take 10) = true := by decide +kernel
theorem cq_13_10_10 : okCk 12 yX12_order cX12_order 160 ((kX12_order.drop 10).take 10) = true := by decide +kernel
theorem cc_13_10 : okCk 12 yX12_order cX12_order 0 (kX12_order.drop 0) = true := (okCk_split cq_13_10_0 (okCk_last cq_13_10_10 (by decide +kernel)))
theorem ck_13_10 : okM (yX12_order, cX12_order, 8, (some .int), 12, 0, 5, kX12_order) (8222, 1032, 8220, 8221) = true := okM_of (k := kX12_order) cc_13_10 (by decide +kernel)
theorem ck_13_11 : okM (yX12_townOfOrder, cX12_townOfOrder, 2, (some .int), 12, 0, 1, kX12_townOfOrder) (8250, 1032, 8249, 62) = true := by decide +kernel
theorem cq_13_12_0 : okCk 12 yX12_whyNot cX12_whyNot 0 ((kX12_whyNot.drop 0).take 10) = true := by decide +kernel
theorem cq_13_12_10 : okCk 12 yX12_whyNot cX12_whyNot 160 ((kX12_whyNot.drop 10).take 10) = true := by decide +kernel
theorem cc_13_12 : okCk 12 yX12_whyNot cX12_whyNot 0 (kX12_whyNot.drop 0) = true := (okCk_split cq_13_12_0 (okCk_last cq_13_12_10 (by decide +kernel)))
theorem ck_13_12 : okM (yX12_whyNot, cX12_whyNot, 5, (some .int), 12, 0, 2, kX12_whyNot) (8238, 1032, 8237, 59) = true := okM_of (k := kX12_whyNot) cc_13_12 (by decide +kernel)
theorem ck_13_13 : okM (yX12_why, cX12_why, 3, (some .int), 12, 0, 2, kX12_why) (8230, 1032, 8228, 8229) = true := by decide +kernel
theorem ck_13_14 : okM (yX12_list, cX12_list, 3, (some .int), 12, 0, 1, kX12_list) (8254, 1032, 8252, 8253) = true := by decide +kernel
