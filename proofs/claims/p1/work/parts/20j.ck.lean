theorem ck_16 : (mM_16.zip mHt_16).all (fun q => okM q.1 q.2) = true := by decide +kernel
