-- the law's instructions
set_option maxRecDepth 100000 in
theorem s_ckl_3 : s_cl_3.all (s_okI code 13) = true := by decide +kernel
