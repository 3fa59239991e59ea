theorem cq_18_4_0 : okCk 13 yL_law cL_law 0 ((kL_law.drop 0).take 10) = true := by decide +kernel
theorem cq_18_4_10 : okCk 13 yL_law cL_law 160 ((kL_law.drop 10).take 10) = true := by decide +kernel
theorem cq_18_4_20 : okCk 13 yL_law cL_law 320 ((kL_law.drop 20).take 10) = true := by decide +kernel
theorem cq_18_4_30 : okCk 13 yL_law cL_law 480 ((kL_law.drop 30).take 10) = true := by decide +kernel
theorem cq_18_4_40 : okCk 13 yL_law cL_law 640 ((kL_law.drop 40).take 10) = true := by decide +kernel
theorem cq_18_4_50 : okCk 13 yL_law cL_law 800 ((kL_law.drop 50).take 10) = true := by decide +kernel
theorem cq_18_4_60 : okCk 13 yL_law cL_law 960 ((kL_law.drop 60).take 10) = true := by decide +kernel
theorem cq_18_4_70 : okCk 13 yL_law cL_law 1120 ((kL_law.drop 70).take 10) = true := by decide +kernel
theorem cq_18_4_80 : okCk 13 yL_law cL_law 1280 ((kL_law.drop 80).take 10) = true := by decide +kernel
theorem cq_18_4_90 : okCk 13 yL_law cL_law 1440 ((kL_law.drop 90).take 10) = true := by decide +kernel
theorem cq_18_4_100 : okCk 13 yL_law cL_law 1600 ((kL_law.drop 100).take 10) = true := by decide +kernel
theorem cq_18_4_110 : okCk 13 yL_law cL_law 1760 ((kL_law.drop 110).take 10) = true := by decide +kernel
theorem cc_18_4 : okCk 13 yL_law cL_law 0 (kL_law.drop 0) = true := (okCk_split cq_18_4_0 (okCk_split cq_18_4_10 (okCk_split cq_18_4_20 (okCk_split cq_18_4_30 (okCk_split cq_18_4_40 (okCk_split cq_18_4_50 (okCk_split cq_18_4_60 (okCk_split cq_18_4_70 (okCk_split cq_18_4_80 (okCk_split cq_18_4_90 (okCk_split cq_18_4_100 (okCk_last cq_18_4_110 (by decide +kernel)))))))))))))
