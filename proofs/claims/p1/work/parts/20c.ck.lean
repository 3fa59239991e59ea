theorem ck_6 : (mM_6.zip mHt_6).all (fun q => okM q.1 q.2) = true := by decide +kernel
theorem ck_7 : (mM_7.zip mHt_7).all (fun q => okM q.1 q.2) = true := by decide +kernel
theorem ck_8 : (mM_8.zip mHt_8).all (fun q => okM q.1 q.2) = true := by decide +kernel
