-- the instructions are those of the byte code
set_option maxRecDepth 100000 in
theorem s_ck_0 : s_c_0.all (s_okI (g_by 0) (g_me 0).2.1) = true := by decide +kernel
set_option maxRecDepth 100000 in
theorem s_ck_1 : s_c_1.all (s_okI (g_by 1) (g_me 1).2.1) = true := by decide +kernel
set_option maxRecDepth 100000 in
theorem s_ck_2 : s_c_2.all (s_okI (g_by 2) (g_me 2).2.1) = true := by decide +kernel
set_option maxRecDepth 100000 in
theorem s_ck_3 : s_c_3.all (s_okI (g_by 3) (g_me 3).2.1) = true := by decide +kernel
set_option maxRecDepth 100000 in
theorem s_ck_4 : s_c_4.all (s_okI (g_by 4) (g_me 4).2.1) = true := by decide +kernel
set_option maxRecDepth 100000 in
theorem s_ck_5 : s_c_5.all (s_okI (g_by 5) (g_me 5).2.1) = true := by decide +kernel
set_option maxRecDepth 100000 in
theorem s_ck_6 : s_c_6.all (s_okI (g_by 6) (g_me 6).2.1) = true := by decide +kernel
set_option maxRecDepth 100000 in
theorem s_ck_7 : s_c_7.all (s_okI (g_by 7) (g_me 7).2.1) = true := by decide +kernel
set_option maxRecDepth 100000 in
theorem s_ck_8 : s_c_8.all (s_okI (g_by 8) (g_me 8).2.1) = true := by decide +kernel
set_option maxRecDepth 100000 in
theorem s_ck_9 : s_c_9.all (s_okI (g_by 9) (g_me 9).2.1) = true := by decide +kernel
set_option maxRecDepth 100000 in
theorem s_ck_10 : s_c_10.all (s_okI (g_by 10) (g_me 10).2.1) = true := by decide +kernel
set_option maxRecDepth 100000 in
theorem s_ck_11 : s_c_11.all (s_okI (g_by 11) (g_me 11).2.1) = true := by decide +kernel
set_option maxRecDepth 100000 in
theorem s_ck_12 : s_c_12.all (s_okI (g_by 12) (g_me 12).2.1) = true := by decide +kernel
set_option maxRecDepth 100000 in
theorem s_ck_13 : s_c_13.all (s_okI (g_by 13) (g_me 13).2.1) = true := by decide +kernel
set_option maxRecDepth 100000 in
theorem s_ck_14 : s_c_14.all (s_okI (g_by 14) (g_me 14).2.1) = true := by decide +kernel
set_option maxRecDepth 100000 in
theorem s_ck_15 : s_c_15.all (s_okI (g_by 15) (g_me 15).2.1) = true := by decide +kernel
set_option maxRecDepth 100000 in
theorem s_ck_16 : s_c_16.all (s_okI (g_by 16) (g_me 16).2.1) = true := by decide +kernel
set_option maxRecDepth 100000 in
theorem s_ck_17 : s_c_17.all (s_okI (g_by 17) (g_me 17).2.1) = true := by decide +kernel
set_option maxRecDepth 100000 in
theorem s_ck_18 : s_c_18.all (s_okI (g_by 18) (g_me 18).2.1) = true := by decide +kernel
