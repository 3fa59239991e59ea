theorem ck_17 : (mM_17.zip mHt_17).all (fun q => okM q.1 q.2) = true := by decide +kernel
