-- the law's instructions
set_option maxRecDepth 100000 in
theorem s_ckl_5_3 : (s_cl_5.drop 165).all (s_okI code 13) = true := by decide +kernel
