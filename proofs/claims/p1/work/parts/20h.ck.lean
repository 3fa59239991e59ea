theorem ck_14 : (mM_14.zip mHt_14).all (fun q => okM q.1 q.2) = true := by decide +kernel
