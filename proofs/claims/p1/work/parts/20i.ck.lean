theorem ck_15 : (mM_15.zip mHt_15).all (fun q => okM q.1 q.2) = true := by decide +kernel
