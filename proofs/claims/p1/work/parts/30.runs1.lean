def sxk (a z : Int) : Bool := sx 6 3500 ([((0, [(6, 63)]), (a, z))], []) [(mLaw, 0, ylent [.inr (.ref 0)] 4, [])] []
set_option maxRecDepth 100000 in
theorem sx_k0 : sxk 0 0 = true := by decide +kernel
set_option maxRecDepth 100000 in
theorem sx_k1 : sxk 1 1 = true := by decide +kernel
set_option maxRecDepth 100000 in
theorem sx_k2 : sxk 2 2 = true := by decide +kernel
set_option maxRecDepth 100000 in
theorem sx_k3 : sxk 3 3 = true := by decide +kernel
set_option maxRecDepth 100000 in
theorem sx_k4 : sxk 4 4 = true := by decide +kernel
set_option maxRecDepth 100000 in
theorem sx_k5 : sxk 5 5 = true := by decide +kernel
set_option maxRecDepth 100000 in
theorem sx_k6 : sxk 6 6 = true := by decide +kernel
set_option maxRecDepth 100000 in
theorem sx_k7 : sxk 7 7 = true := by decide +kernel
set_option maxRecDepth 100000 in
theorem sx_k8 : sxk 8 8 = true := by decide +kernel
set_option maxRecDepth 100000 in
theorem sx_k9 : sxk 9 9 = true := by decide +kernel
set_option maxRecDepth 100000 in
theorem sx_k10 : sxk 10 10 = true := by decide +kernel
set_option maxRecDepth 100000 in
theorem sx_k11 : sxk 11 11 = true := by decide +kernel
set_option maxRecDepth 100000 in
theorem sx_k12 : sxk 12 12 = true := by decide +kernel
set_option maxRecDepth 100000 in
theorem sx_k13 : sxk 13 13 = true := by decide +kernel
set_option maxRecDepth 100000 in
theorem sx_k14 : sxk 14 14 = true := by decide +kernel
set_option maxRecDepth 100000 in
theorem sx_k15 : sxk 15 15 = true := by decide +kernel
set_option maxRecDepth 100000 in
theorem sx_k16 : sxk 16 16 = true := by decide +kernel
set_option maxRecDepth 100000 in
theorem sx_k17 : sxk 17 17 = true := by decide +kernel
set_option maxRecDepth 100000 in
theorem sx_k18 : sxk 18 18 = true := by decide +kernel
set_option maxRecDepth 100000 in
theorem sx_k19 : sxk 19 19 = true := by decide +kernel
set_option maxRecDepth 100000 in
theorem sx_k20 : sxk 20 20 = true := by decide +kernel
set_option maxRecDepth 100000 in
theorem sx_k21 : sxk 21 21 = true := by decide +kernel
set_option maxRecDepth 100000 in
theorem sx_k22 : sxk 22 22 = true := by decide +kernel
set_option maxRecDepth 100000 in
theorem sx_k23 : sxk 23 23 = true := by decide +kernel
