theorem ck_0 : (mM_0.zip mHt_0).all (fun q => okM q.1 q.2) = true := by decide +kernel
theorem ck_1 : (mM_1.zip mHt_1).all (fun q => okM q.1 q.2) = true := by decide +kernel
theorem ck_2 : (mM_2.zip mHt_2).all (fun q => okM q.1 q.2) = true := by decide +kernel
