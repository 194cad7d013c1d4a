-- the instructions are those of the byte code
set_option maxRecDepth 100000 in
theorem s_ck_61 : s_c_61.all (s_okI (g_by 61) (g_me 61).2.1) = true := by decide +kernel
set_option maxRecDepth 100000 in
theorem s_ck_62 : s_c_62.all (s_okI (g_by 62) (g_me 62).2.1) = true := by decide +kernel
set_option maxRecDepth 100000 in
theorem s_ck_63 : s_c_63.all (s_okI (g_by 63) (g_me 63).2.1) = true := by decide +kernel
set_option maxRecDepth 100000 in
theorem s_ck_64 : s_c_64.all (s_okI (g_by 64) (g_me 64).2.1) = true := by decide +kernel
set_option maxRecDepth 100000 in
theorem s_ck_65 : s_c_65.all (s_okI (g_by 65) (g_me 65).2.1) = true := by decide +kernel
set_option maxRecDepth 100000 in
theorem s_ck_66 : s_c_66.all (s_okI (g_by 66) (g_me 66).2.1) = true := by decide +kernel
set_option maxRecDepth 100000 in
theorem s_ck_67 : s_c_67.all (s_okI (g_by 67) (g_me 67).2.1) = true := by decide +kernel
set_option maxRecDepth 100000 in
theorem s_ck_68 : s_c_68.all (s_okI (g_by 68) (g_me 68).2.1) = true := by decide +kernel
set_option maxRecDepth 100000 in
theorem s_ck_69 : s_c_69.all (s_okI (g_by 69) (g_me 69).2.1) = true := by decide +kernel
set_option maxRecDepth 100000 in
theorem s_ck_70 : s_c_70.all (s_okI (g_by 70) (g_me 70).2.1) = true := by decide +kernel
set_option maxRecDepth 100000 in
theorem s_ck_71 : s_c_71.all (s_okI (g_by 71) (g_me 71).2.1) = true := by decide +kernel
set_option maxRecDepth 100000 in
theorem s_ck_72 : s_c_72.all (s_okI (g_by 72) (g_me 72).2.1) = true := by decide +kernel
set_option maxRecDepth 100000 in
theorem s_ck_73 : s_c_73.all (s_okI (g_by 73) (g_me 73).2.1) = true := by decide +kernel
