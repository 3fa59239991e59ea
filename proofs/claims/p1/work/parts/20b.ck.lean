theorem ck_3 : (mM_3.zip mHt_3).all (fun q => okM q.1 q.2) = true := by decide +kernel
theorem ck_4 : (mM_4.zip mHt_4).all (fun q => okM q.1 q.2) = true := by decide +kernel
theorem ck_5 : (mM_5.zip mHt_5).all (fun q => okM q.1 q.2) = true := by decide +kernel
