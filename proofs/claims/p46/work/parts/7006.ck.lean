theorem cq_11_3_0 : okCk 12 yX12_init cX12_init 0 ((kX12_init.drop 0).take 10) = true := by decide +kernel
theorem cq_11_3_10 : okCk 12 yX12_init cX12_init 160 ((kX12_init.drop 10).take 10) = true := by decide +kernel
theorem cq_11_3_20 : okCk 12 yX12_init cX12_init 320 ((kX12_init.drop 20).take 10) = true := by decide +kernel
theorem cq_11_3_30 : okCk 12 yX12_init cX12_init 480 ((kX12_init.drop 30).take 10) = true := by decide +kernel
theorem cc_11_3 : okCk 12 yX12_init cX12_init 0 (kX12_init.drop 0) = true := (okCk_split cq_11_3_0 (okCk_split cq_11_3_10 (okCk_split cq_11_3_20 (okCk_last cq_11_3_30 (by decide +kernel)))))
theorem ck_11_3 : okM (yX12_init, cX12_init, 1, none, 12, 0, 0, kX12_init) (6229, 1032, 6228, 0) = true := okM_of (k := kX12_init) cc_11_3 (by decide +kernel)
