-- the law's cases
set_option maxRecDepth 100000 in
theorem s_r_1 : s_okr 1 1 = true := by decide +kernel
set_option maxRecDepth 100000 in
theorem s_r_2 : s_okr 2 2 = true := by decide +kernel
set_option maxRecDepth 100000 in
theorem s_r_3 : s_okr 3 3 = true := by decide +kernel
set_option maxRecDepth 100000 in
theorem s_r_4 : s_okr 4 4 = true := by decide +kernel
set_option maxRecDepth 100000 in
theorem s_r_5 : s_okr 5 5 = true := by decide +kernel
set_option maxRecDepth 100000 in
theorem s_r_7 : s_okr 7 7 = true := by decide +kernel
set_option maxRecDepth 100000 in
theorem s_r_8 : s_okr 8 8 = true := by decide +kernel
set_option maxRecDepth 100000 in
theorem s_r_9 : s_okr 9 9 = true := by decide +kernel
set_option maxRecDepth 100000 in
theorem s_r_10 : s_okr 10 10 = true := by decide +kernel
set_option maxRecDepth 100000 in
theorem s_r_11 : s_okr 11 11 = true := by decide +kernel
set_option maxRecDepth 100000 in
theorem s_r_12 : s_okr 12 12 = true := by decide +kernel
set_option maxRecDepth 100000 in
theorem s_r_13 : s_okr 13 13 = true := by decide +kernel
set_option maxRecDepth 100000 in
theorem s_r_14 : s_okr 14 14 = true := by decide +kernel
set_option maxRecDepth 100000 in
theorem s_r_15 : s_okr 15 15 = true := by decide +kernel
set_option maxRecDepth 100000 in
theorem s_r_16 : s_okr 16 16 = true := by decide +kernel
set_option maxRecDepth 100000 in
theorem s_r_17 : s_okr 17 17 = true := by decide +kernel
set_option maxRecDepth 100000 in
theorem s_r_18 : s_okr 18 18 = true := by decide +kernel
set_option maxRecDepth 100000 in
theorem s_r_19 : s_okr 19 19 = true := by decide +kernel
set_option maxRecDepth 100000 in
theorem s_r_20 : s_okr 20 20 = true := by decide +kernel
set_option maxRecDepth 100000 in
theorem s_r_21 : s_okr 21 21 = true := by decide +kernel
set_option maxRecDepth 100000 in
theorem s_r_22 : s_okr 22 22 = true := by decide +kernel
set_option maxRecDepth 100000 in
theorem s_r_23 : s_okr 23 23 = true := by decide +kernel
set_option maxRecDepth 100000 in
theorem s_r_24 : s_okr 24 24 = true := by decide +kernel
set_option maxRecDepth 100000 in
theorem s_r_25 : s_okr 25 25 = true := by decide +kernel
set_option maxRecDepth 100000 in
theorem s_r_26 : s_okr 26 26 = true := by decide +kernel
set_option maxRecDepth 100000 in
theorem s_r_27 : s_okr 27 27 = true := by decide +kernel
set_option maxRecDepth 100000 in
theorem s_r_28 : s_okr 28 28 = true := by decide +kernel
set_option maxRecDepth 100000 in
theorem s_r_29 : s_okr 29 29 = true := by decide +kernel
set_option maxRecDepth 100000 in
theorem s_r_32 : s_okr 32 32 = true := by decide +kernel
set_option maxRecDepth 100000 in
theorem s_r_33 : s_okr 33 33 = true := by decide +kernel
set_option maxRecDepth 100000 in
theorem s_r_34 : s_okr 34 34 = true := by decide +kernel
set_option maxRecDepth 100000 in
theorem s_r_35 : s_okr 35 35 = true := by decide +kernel
set_option maxRecDepth 100000 in
theorem s_r_36 : s_okr 36 36 = true := by decide +kernel
set_option maxRecDepth 100000 in
theorem s_r_38 : s_okr 38 38 = true := by decide +kernel
set_option maxRecDepth 100000 in
theorem s_r_39 : s_okr 39 39 = true := by decide +kernel
set_option maxRecDepth 100000 in
theorem s_r_42 : s_okr 42 42 = true := by decide +kernel
set_option maxRecDepth 100000 in
theorem s_r_44 : s_okr 44 44 = true := by decide +kernel
set_option maxRecDepth 100000 in
theorem s_r_46 : s_okr 46 46 = true := by decide +kernel
set_option maxRecDepth 100000 in
theorem s_r_47 : s_okr 47 47 = true := by decide +kernel
set_option maxRecDepth 100000 in
theorem s_r_48 : s_okr 48 48 = true := by decide +kernel
set_option maxRecDepth 100000 in
theorem s_r_lo : s_okr (-2147483648) (-1) = true := by decide +kernel
set_option maxRecDepth 100000 in
theorem s_r_hi : s_okr 50 2147483647 = true := by decide +kernel
set_option maxRecDepth 100000 in
theorem s_r_0 : s_okr 0 0 = true := by decide +kernel
set_option maxRecDepth 100000 in
theorem s_r_43 : s_okr 43 43 = true := by decide +kernel
