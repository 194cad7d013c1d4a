-- the law's instructions
set_option maxRecDepth 100000 in
theorem s_ckl_2 : s_cl_2.all (s_okI code 13) = true := by decide +kernel
