-- the law's instructions
set_option maxRecDepth 100000 in
theorem s_ckl_4_3 : (s_cl_4.drop 165).all (s_okI code 13) = true := by decide +kernel
