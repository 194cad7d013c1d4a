-- the law's instructions
set_option maxRecDepth 100000 in
theorem s_ckl_0 : s_cl_0.all (s_okI code 13) = true := by decide +kernel
