theorem ck_12 : (mM_12.zip mHt_12).all (fun q => okM q.1 q.2) = true := by decide +kernel
