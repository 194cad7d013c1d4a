-- the instructions are those of the byte code
set_option maxRecDepth 100000 in
theorem s_ck_49 : s_c_49.all (s_okI (g_by 49) (g_me 49).2.1) = true := by decide +kernel
set_option maxRecDepth 100000 in
theorem s_ck_50 : s_c_50.all (s_okI (g_by 50) (g_me 50).2.1) = true := by decide +kernel
set_option maxRecDepth 100000 in
theorem s_ck_51 : s_c_51.all (s_okI (g_by 51) (g_me 51).2.1) = true := by decide +kernel
set_option maxRecDepth 100000 in
theorem s_ck_52 : s_c_52.all (s_okI (g_by 52) (g_me 52).2.1) = true := by decide +kernel
set_option maxRecDepth 100000 in
theorem s_ck_54 : s_c_54.all (s_okI (g_by 54) (g_me 54).2.1) = true := by decide +kernel
set_option maxRecDepth 100000 in
theorem s_ck_55 : s_c_55.all (s_okI (g_by 55) (g_me 55).2.1) = true := by decide +kernel
set_option maxRecDepth 100000 in
theorem s_ck_56 : s_c_56.all (s_okI (g_by 56) (g_me 56).2.1) = true := by decide +kernel
set_option maxRecDepth 100000 in
theorem s_ck_57 : s_c_57.all (s_okI (g_by 57) (g_me 57).2.1) = true := by decide +kernel
set_option maxRecDepth 100000 in
theorem s_ck_59 : s_c_59.all (s_okI (g_by 59) (g_me 59).2.1) = true := by decide +kernel
set_option maxRecDepth 100000 in
theorem s_ck_60 : s_c_60.all (s_okI (g_by 60) (g_me 60).2.1) = true := by decide +kernel
set_option maxRecDepth 100000 in
theorem s_ck_61 : s_c_61.all (s_okI (g_by 61) (g_me 61).2.1) = true := by decide +kernel
set_option maxRecDepth 100000 in
theorem s_ck_62 : s_c_62.all (s_okI (g_by 62) (g_me 62).2.1) = true := by decide +kernel
set_option maxRecDepth 100000 in
theorem s_ck_63 : s_c_63.all (s_okI (g_by 63) (g_me 63).2.1) = true := by decide +kernel
set_option maxRecDepth 100000 in
theorem s_ck_66 : s_c_66.all (s_okI (g_by 66) (g_me 66).2.1) = true := by decide +kernel
set_option maxRecDepth 100000 in
theorem s_ck_67 : s_c_67.all (s_okI (g_by 67) (g_me 67).2.1) = true := by decide +kernel
set_option maxRecDepth 100000 in
theorem s_ck_68 : s_c_68.all (s_okI (g_by 68) (g_me 68).2.1) = true := by decide +kernel
set_option maxRecDepth 100000 in
theorem s_ck_69 : s_c_69.all (s_okI (g_by 69) (g_me 69).2.1) = true := by decide +kernel
set_option maxRecDepth 100000 in
theorem s_ck_70 : s_c_70.all (s_okI (g_by 70) (g_me 70).2.1) = true := by decide +kernel
set_option maxRecDepth 100000 in
theorem s_ck_71 : s_c_71.all (s_okI (g_by 71) (g_me 71).2.1) = true := by decide +kernel
