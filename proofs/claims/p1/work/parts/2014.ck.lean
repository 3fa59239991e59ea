theorem cq_18_4_0 : okC 13 yL_law cL_law 0 ((kL_law.drop 0).take 10) = true := by decide +kernel
theorem cq_18_4_10 : okC 13 yL_law cL_law 160 ((kL_law.drop 10).take 10) = true := by decide +kernel
theorem cq_18_4_20 : okC 13 yL_law cL_law 320 ((kL_law.drop 20).take 10) = true := by decide +kernel
theorem cq_18_4_30 : okC 13 yL_law cL_law 480 ((kL_law.drop 30).take 10) = true := by decide +kernel
theorem cq_18_4_40 : okC 13 yL_law cL_law 640 ((kL_law.drop 40).take 10) = true := by decide +kernel
theorem cq_18_4_50 : okC 13 yL_law cL_law 800 ((kL_law.drop 50).take 10) = true := by decide +kernel
theorem cq_18_4_60 : okC 13 yL_law cL_law 960 ((kL_law.drop 60).take 10) = true := by decide +kernel
theorem cq_18_4_70 : okC 13 yL_law cL_law 1120 ((kL_law.drop 70).take 10) = true := by decide +kernel
theorem cq_18_4_80 : okC 13 yL_law cL_law 1280 ((kL_law.drop 80).take 10) = true := by decide +kernel
theorem cq_18_4_90 : okC 13 yL_law cL_law 1440 ((kL_law.drop 90).take 10) = true := by decide +kernel
theorem cq_18_4_100 : okC 13 yL_law cL_law 1600 ((kL_law.drop 100).take 10) = true := by decide +kernel
theorem cq_18_4_110 : okC 13 yL_law cL_law 1760 ((kL_law.drop 110).take 10) = true := by decide +kernel
theorem cc_18_4 : okC 13 yL_law cL_law 0 (kL_law.drop 0) = true := (okC_split cq_18_4_0 (okC_split cq_18_4_10 (okC_split cq_18_4_20 (okC_split cq_18_4_30 (okC_split cq_18_4_40 (okC_split cq_18_4_50 (okC_split cq_18_4_60 (okC_split cq_18_4_70 (okC_split cq_18_4_80 (okC_split cq_18_4_90 (okC_split cq_18_4_100 (okC_last cq_18_4_110 (by decide +kernel)))))))))))))
