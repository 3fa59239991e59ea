theorem ck_13 : (mM_13.zip mHt_13).all (fun q => okM q.1 q.2) = true := by decide +kernel
