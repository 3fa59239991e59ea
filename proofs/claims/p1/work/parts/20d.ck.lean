theorem ck_9 : (mM_9.zip mHt_9).all (fun q => okM q.1 q.2) = true := by decide +kernel
theorem ck_10 : (mM_10.zip mHt_10).all (fun q => okM q.1 q.2) = true := by decide +kernel
