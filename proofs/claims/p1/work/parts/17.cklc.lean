-- the law's instructions
set_option maxRecDepth 100000 in
theorem s_ckl_4 : s_cl_4.all (s_okI code 13) = true := by decide +kernel
set_option maxRecDepth 100000 in
theorem s_ckl_5 : s_cl_5.all (s_okI code 13) = true := by decide +kernel
