-- the instructions are those of the byte code
set_option maxRecDepth 100000 in
theorem s_ck_45 : s_c_45.all (s_okI (g_by 45) (g_me 45).2.1) = true := by decide +kernel
set_option maxRecDepth 100000 in
theorem s_ck_46 : s_c_46.all (s_okI (g_by 46) (g_me 46).2.1) = true := by decide +kernel
set_option maxRecDepth 100000 in
theorem s_ck_47 : s_c_47.all (s_okI (g_by 47) (g_me 47).2.1) = true := by decide +kernel
set_option maxRecDepth 100000 in
theorem s_ck_48 : s_c_48.all (s_okI (g_by 48) (g_me 48).2.1) = true := by decide +kernel
set_option maxRecDepth 100000 in
theorem s_ck_49 : s_c_49.all (s_okI (g_by 49) (g_me 49).2.1) = true := by decide +kernel
set_option maxRecDepth 100000 in
theorem s_ck_50 : s_c_50.all (s_okI (g_by 50) (g_me 50).2.1) = true := by decide +kernel
set_option maxRecDepth 100000 in
theorem s_ck_51 : s_c_51.all (s_okI (g_by 51) (g_me 51).2.1) = true := by decide +kernel
set_option maxRecDepth 100000 in
theorem s_ck_52 : s_c_52.all (s_okI (g_by 52) (g_me 52).2.1) = true := by decide +kernel
set_option maxRecDepth 100000 in
theorem s_ck_53 : s_c_53.all (s_okI (g_by 53) (g_me 53).2.1) = true := by decide +kernel
set_option maxRecDepth 100000 in
theorem s_ck_54 : s_c_54.all (s_okI (g_by 54) (g_me 54).2.1) = true := by decide +kernel
set_option maxRecDepth 100000 in
theorem s_ck_55 : s_c_55.all (s_okI (g_by 55) (g_me 55).2.1) = true := by decide +kernel
set_option maxRecDepth 100000 in
theorem s_ck_56 : s_c_56.all (s_okI (g_by 56) (g_me 56).2.1) = true := by decide +kernel
set_option maxRecDepth 100000 in
theorem s_ck_57 : s_c_57.all (s_okI (g_by 57) (g_me 57).2.1) = true := by decide +kernel
set_option maxRecDepth 100000 in
theorem s_ck_58 : s_c_58.all (s_okI (g_by 58) (g_me 58).2.1) = true := by decide +kernel
set_option maxRecDepth 100000 in
theorem s_ck_59 : s_c_59.all (s_okI (g_by 59) (g_me 59).2.1) = true := by decide +kernel
set_option maxRecDepth 100000 in
theorem s_ck_60 : s_c_60.all (s_okI (g_by 60) (g_me 60).2.1) = true := by decide +kernel
