-- keep, number by number
set_option maxRecDepth 100000 in
theorem s_kp_0 : s_okD 45 (-2147483648) (-1) = true := by decide +kernel
set_option maxRecDepth 100000 in
theorem s_kp_1 : s_okD 45 0 0 = true := by decide +kernel
set_option maxRecDepth 100000 in
theorem s_kp_2 : s_okD 45 1 1 = true := by decide +kernel
set_option maxRecDepth 100000 in
theorem s_kp_3 : s_okD 45 2 2 = true := by decide +kernel
set_option maxRecDepth 100000 in
theorem s_kp_4 : s_okD 45 3 3 = true := by decide +kernel
set_option maxRecDepth 100000 in
theorem s_kp_5 : s_okD 45 4 2147483647 = true := by decide +kernel
