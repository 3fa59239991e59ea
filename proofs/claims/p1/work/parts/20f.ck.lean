theorem ck_15 : (mM_15.zip mHt_15).all (fun q => okM q.1 q.2) = true := by decide +kernel
theorem ck_16 : (mM_16.zip mHt_16).all (fun q => okM q.1 q.2) = true := by decide +kernel
theorem ck_17 : (mM_17.zip mHt_17).all (fun q => okM q.1 q.2) = true := by decide +kernel
