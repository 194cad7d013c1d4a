-- the law's instructions
set_option maxRecDepth 100000 in
theorem s_ckl_5_1 : ((s_cl_5.drop 55).take 55).all (s_okI code 13) = true := by decide +kernel
