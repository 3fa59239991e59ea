theorem ck_11 : (mM_11.zip mHt_11).all (fun q => okM q.1 q.2) = true := by decide +kernel
