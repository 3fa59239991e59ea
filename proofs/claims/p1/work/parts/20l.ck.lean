theorem ck_18 : ((mM_18.zip mHt_18).take 7).all (fun q => okM q.1 q.2) = true := by decide +kernel
theorem ck_law : okC 13 yL_law cL_law 0 kL_law = true := by decide +kernel
