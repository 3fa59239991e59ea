theorem ck_12 : (mM_12.zip mHt_12).all (fun q => okM q.1 q.2) = true := by decide +kernel
theorem ck_13 : (mM_13.zip mHt_13).all (fun q => okM q.1 q.2) = true := by decide +kernel
theorem ck_14 : (mM_14.zip mHt_14).all (fun q => okM q.1 q.2) = true := by decide +kernel
