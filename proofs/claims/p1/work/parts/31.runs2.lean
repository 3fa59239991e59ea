set_option maxRecDepth 100000 in
theorem sx_k24 : sxk 24 24 = true := by decide +kernel
set_option maxRecDepth 100000 in
theorem sx_k25 : sxk 25 25 = true := by decide +kernel
set_option maxRecDepth 100000 in
theorem sx_k26 : sxk 26 26 = true := by decide +kernel
set_option maxRecDepth 100000 in
theorem sx_k27 : sxk 27 27 = true := by decide +kernel
set_option maxRecDepth 100000 in
theorem sx_k28 : sxk 28 28 = true := by decide +kernel
set_option maxRecDepth 100000 in
theorem sx_k29 : sxk 29 29 = true := by decide +kernel
set_option maxRecDepth 100000 in
theorem sx_k30 : sxk 30 30 = true := by decide +kernel
set_option maxRecDepth 100000 in
theorem sx_k31 : sxk 31 31 = true := by decide +kernel
set_option maxRecDepth 100000 in
theorem sx_k32 : sxk 32 32 = true := by decide +kernel
set_option maxRecDepth 100000 in
theorem sx_k33 : sxk 33 33 = true := by decide +kernel
set_option maxRecDepth 100000 in
theorem sx_k34 : sxk 34 34 = true := by decide +kernel
set_option maxRecDepth 100000 in
theorem sx_k35 : sxk 35 35 = true := by decide +kernel
set_option maxRecDepth 100000 in
theorem sx_k36 : sxk 36 36 = true := by decide +kernel
set_option maxRecDepth 100000 in
theorem sx_k37 : sxk 37 37 = true := by decide +kernel
set_option maxRecDepth 100000 in
theorem sx_k38 : sxk 38 38 = true := by decide +kernel
set_option maxRecDepth 100000 in
theorem sx_k39 : sxk 39 39 = true := by decide +kernel
set_option maxRecDepth 100000 in
theorem sx_k40 : sxk 40 40 = true := by decide +kernel
set_option maxRecDepth 100000 in
theorem sx_k41 : sxk 41 41 = true := by decide +kernel
set_option maxRecDepth 100000 in
theorem sx_k42 : sxk 42 42 = true := by decide +kernel
set_option maxRecDepth 100000 in
theorem sx_k43 : sxk 43 43 = true := by decide +kernel
set_option maxRecDepth 100000 in
theorem sx_k44 : sxk 44 44 = true := by decide +kernel
set_option maxRecDepth 100000 in
theorem sx_k45 : sxk 45 45 = true := by decide +kernel
set_option maxRecDepth 100000 in
theorem sx_k46 : sxk 46 46 = true := by decide +kernel
set_option maxRecDepth 100000 in
theorem sx_k47 : sxk 47 47 = true := by decide +kernel
set_option maxRecDepth 100000 in
theorem sx_k48 : sxk 48 63 = true := by decide +kernel
set_option maxRecDepth 100000 in
theorem sx_L0 : sx 0 3500 ([], []) [(mLaw, 0, ylent [.inr (.ref 0)] 4, [])] [] = true := by decide +kernel
set_option maxRecDepth 100000 in
theorem sx_L1 : sx 1 3500 ([], []) [(mLaw, 0, ylent [.inr (.ref 0)] 4, [])] [] = true := by decide +kernel
set_option maxRecDepth 100000 in
theorem sx_L2 : sx 2 3500 ([], []) [(mLaw, 0, ylent [.inr (.ref 0)] 4, [])] [] = true := by decide +kernel
set_option maxRecDepth 100000 in
theorem sx_L3 : sx 3 3500 ([], []) [(mLaw, 0, ylent [.inr (.ref 0)] 4, [])] [] = true := by decide +kernel
set_option maxRecDepth 100000 in
theorem sx_L4 : sx 4 3500 ([], []) [(mLaw, 0, ylent [.inr (.ref 0)] 4, [])] [] = true := by decide +kernel
set_option maxRecDepth 100000 in
theorem sx_L5 : sx 5 3500 ([], []) [(mLaw, 0, ylent [.inr (.ref 0)] 4, [])] [] = true := by decide +kernel
