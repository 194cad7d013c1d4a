-- the instructions are those of the byte code
set_option maxRecDepth 100000 in
theorem s_ck_19 : s_c_19.all (s_okI (g_by 19) (g_me 19).2.1) = true := by decide +kernel
set_option maxRecDepth 100000 in
theorem s_ck_20 : s_c_20.all (s_okI (g_by 20) (g_me 20).2.1) = true := by decide +kernel
set_option maxRecDepth 100000 in
theorem s_ck_21 : s_c_21.all (s_okI (g_by 21) (g_me 21).2.1) = true := by decide +kernel
set_option maxRecDepth 100000 in
theorem s_ck_23 : s_c_23.all (s_okI (g_by 23) (g_me 23).2.1) = true := by decide +kernel
set_option maxRecDepth 100000 in
theorem s_ck_27 : s_c_27.all (s_okI (g_by 27) (g_me 27).2.1) = true := by decide +kernel
set_option maxRecDepth 100000 in
theorem s_ck_30 : s_c_30.all (s_okI (g_by 30) (g_me 30).2.1) = true := by decide +kernel
set_option maxRecDepth 100000 in
theorem s_ck_31 : s_c_31.all (s_okI (g_by 31) (g_me 31).2.1) = true := by decide +kernel
set_option maxRecDepth 100000 in
theorem s_ck_32 : s_c_32.all (s_okI (g_by 32) (g_me 32).2.1) = true := by decide +kernel
set_option maxRecDepth 100000 in
theorem s_ck_36 : s_c_36.all (s_okI (g_by 36) (g_me 36).2.1) = true := by decide +kernel
set_option maxRecDepth 100000 in
theorem s_ck_43 : s_c_43.all (s_okI (g_by 43) (g_me 43).2.1) = true := by decide +kernel
set_option maxRecDepth 100000 in
theorem s_ck_44 : s_c_44.all (s_okI (g_by 44) (g_me 44).2.1) = true := by decide +kernel
set_option maxRecDepth 100000 in
theorem s_ck_45 : s_c_45.all (s_okI (g_by 45) (g_me 45).2.1) = true := by decide +kernel
set_option maxRecDepth 100000 in
theorem s_ck_46 : s_c_46.all (s_okI (g_by 46) (g_me 46).2.1) = true := by decide +kernel
set_option maxRecDepth 100000 in
theorem s_ck_47 : s_c_47.all (s_okI (g_by 47) (g_me 47).2.1) = true := by decide +kernel
set_option maxRecDepth 100000 in
theorem s_ck_48 : s_c_48.all (s_okI (g_by 48) (g_me 48).2.1) = true := by decide +kernel
