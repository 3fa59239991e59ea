theorem ck_15_11 : okM (yX12_isDigit, cX12_isDigit, 1, (some .boolean), 12, 1, 1, kX12_isDigit) (8383, 1032, 8382, 0) = true := by decide +kernel
theorem cq_15_12_0 : okCk 12 yX12_nextToken cX12_nextToken 0 ((kX12_nextToken.drop 0).take 10) = true := by decide +kernel
theorem cq_15_12_10 : okCk 12 yX12_nextToken cX12_nextToken 160 ((kX12_nextToken.drop 10).take 10) = true := by decide +kernel
theorem cc_15_12 : okCk 12 yX12_nextToken cX12_nextToken 0 (kX12_nextToken.drop 0) = true := (okCk_split cq_15_12_0 (okCk_last cq_15_12_10 (by decide +kernel)))
theorem ck_15_12 : okM (yX12_nextToken, cX12_nextToken, 1, none, 12, 0, 0, kX12_nextToken) (8377, 1032, 8376, 77) = true := okM_of (k := kX12_nextToken) cc_15_12 (by decide +kernel)
theorem ck_15_13 : okM (yX12_isWord, cX12_isWord, 6, (some .boolean), 12, 0, 1, kX12_isWord) (8392, 1032, 8391, 79) = true := by decide +kernel
theorem ck_15_14 : okM (yX12_wrong, cX12_wrong, 1, none, 12, 0, 0, kX12_wrong) (8402, 1032, 8401, 81) = true := by decide +kernel
theorem ck_15_15 : okM (yX12_lay, cX12_lay, 4, none, 12, 0, 3, kX12_lay) (8408, 1032, 8407, 82) = true := by decide +kernel
theorem ck_16_0 : okM (yX12_takes, cX12_takes, 2, (some .boolean), 12, 0, 1, kX12_takes) (8398, 1032, 8397, 80) = true := by decide +kernel
theorem ck_16_1 : okM (yX12_opens, cX12_opens, 1, (some .boolean), 12, 0, 0, kX12_opens) (9216, 1032, 8431, 87) = true := by decide +kernel
theorem ck_16_2 : okM (yX12_closes, cX12_closes, 1, (some .boolean), 12, 0, 0, kX12_closes) (9220, 1032, 9219, 88) = true := by decide +kernel
theorem ck_16_3 : okM (yX12_nameOf, cX12_nameOf, 2, (some .int), 12, 0, 0, kX12_nameOf) (8424, 1032, 8423, 86) = true := by decide +kernel
theorem cq_16_4_0 : okCk 12 yX12_operand cX12_operand 0 ((kX12_operand.drop 0).take 10) = true := by decide +kernel
theorem cq_16_4_10 : okCk 12 yX12_operand cX12_operand 160 ((kX12_operand.drop 10).take 10) = true := by decide +kernel
theorem cc_16_4 : okCk 12 yX12_operand cX12_operand 0 (kX12_operand.drop 0) = true := (okCk_split cq_16_4_0 (okCk_last cq_16_4_10 (by decide +kernel)))
theorem ck_16_4 : okM (yX12_operand, cX12_operand, 2, none, 12, 0, 0, kX12_operand) (8420, 1032, 8419, 85) = true := okM_of (k := kX12_operand) cc_16_4 (by decide +kernel)
theorem ck_16_5 : okM (yX12_product, cX12_product, 2, none, 12, 0, 0, kX12_product) (8416, 1032, 8415, 84) = true := by decide +kernel
theorem ck_16_6 : okM (yX12_sum, cX12_sum, 2, none, 12, 0, 0, kX12_sum) (8412, 1032, 8411, 83) = true := by decide +kernel
theorem ck_16_7 : okM (yX12_step, cX12_step, 3, none, 12, 0, 0, kX12_step) (8387, 1032, 8386, 78) = true := by decide +kernel
theorem cq_16_8_0 : okCk 12 yX12_terms cX12_terms 0 ((kX12_terms.drop 0).take 10) = true := by decide +kernel
theorem cq_16_8_10 : okCk 12 yX12_terms cX12_terms 160 ((kX12_terms.drop 10).take 10) = true := by decide +kernel
theorem cc_16_8 : okCk 12 yX12_terms cX12_terms 0 (kX12_terms.drop 0) = true := (okCk_split cq_16_8_0 (okCk_last cq_16_8_10 (by decide +kernel)))
theorem ck_16_8 : okM (yX12_terms, cX12_terms, 3, (some .int), 12, 0, 2, kX12_terms) (8373, 1032, 8371, 8372) = true := okM_of (k := kX12_terms) cc_16_8 (by decide +kernel)
theorem ck_16_9 : okM (yX12_both, cX12_both, 3, (some .int), 12, 1, 3, kX12_both) (9264, 1032, 9263, 0) = true := by decide +kernel
