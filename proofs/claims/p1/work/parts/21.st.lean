-- the law's start
set_option maxRecDepth 100000 in
theorem s_st : s_isl (s_law 6 s_X0) = true := by decide +kernel
set_option maxRecDepth 100000 in
theorem s_sh0 : s_oks 1 = true := by decide +kernel
set_option maxRecDepth 100000 in
theorem s_sh1 : s_oks 2 = true := by decide +kernel
set_option maxRecDepth 100000 in
theorem s_sh2 : s_oks 3 = true := by decide +kernel
set_option maxRecDepth 100000 in
theorem s_sh3 : s_oks 4 = true := by decide +kernel
set_option maxRecDepth 100000 in
theorem s_sh4 : s_oks 5 = true := by decide +kernel
