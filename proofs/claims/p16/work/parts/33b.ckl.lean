-- the law's instructions
set_option maxRecDepth 100000 in
theorem s_ckl_0 : s_cl_0.all (s_okI code 13) = true := s_wl_ok (pc := 0) (by decide +kernel)
set_option maxRecDepth 100000 in
theorem s_ckl_1 : s_cl_1.all (s_okI code 13) = true := s_wl_ok (pc := 480) (by decide +kernel)
set_option maxRecDepth 100000 in
theorem s_ckl_2 : s_cl_2.all (s_okI code 13) = true := s_wl_ok (pc := 773) (by decide +kernel)
set_option maxRecDepth 100000 in
theorem s_ckl_3 : s_cl_3.all (s_okI code 13) = true := s_wl_ok (pc := 1051) (by decide +kernel)
set_option maxRecDepth 100000 in
theorem s_ckl_4 : s_cl_4.all (s_okI code 13) = true := s_wl_ok (pc := 1331) (by decide +kernel)
set_option maxRecDepth 100000 in
theorem s_ckl_5 : s_cl_5.all (s_okI code 13) = true := s_wl_ok (pc := 1625) (by decide +kernel)
