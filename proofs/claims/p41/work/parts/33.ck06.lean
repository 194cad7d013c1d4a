-- the instructions are those of the byte code
set_option maxRecDepth 100000 in
theorem s_ck_101 : s_c_101.all (s_okI (g_by 101) (g_me 101).2.1) = true := by decide +kernel
set_option maxRecDepth 100000 in
theorem s_ck_102 : s_c_102.all (s_okI (g_by 102) (g_me 102).2.1) = true := by decide +kernel
set_option maxRecDepth 100000 in
theorem s_ck_103 : s_c_103.all (s_okI (g_by 103) (g_me 103).2.1) = true := by decide +kernel
set_option maxRecDepth 100000 in
theorem s_ck_104 : s_c_104.all (s_okI (g_by 104) (g_me 104).2.1) = true := by decide +kernel
set_option maxRecDepth 100000 in
theorem s_ck_105 : s_c_105.all (s_okI (g_by 105) (g_me 105).2.1) = true := by decide +kernel
set_option maxRecDepth 100000 in
theorem s_ck_106 : s_c_106.all (s_okI (g_by 106) (g_me 106).2.1) = true := by decide +kernel
set_option maxRecDepth 100000 in
theorem s_ck_107 : s_c_107.all (s_okI (g_by 107) (g_me 107).2.1) = true := by decide +kernel
set_option maxRecDepth 100000 in
theorem s_ck_108 : s_c_108.all (s_okI (g_by 108) (g_me 108).2.1) = true := by decide +kernel
set_option maxRecDepth 100000 in
theorem s_ck_109 : s_c_109.all (s_okI (g_by 109) (g_me 109).2.1) = true := by decide +kernel
set_option maxRecDepth 100000 in
theorem s_ck_110 : s_c_110.all (s_okI (g_by 110) (g_me 110).2.1) = true := by decide +kernel
set_option maxRecDepth 100000 in
theorem s_ck_111 : s_c_111.all (s_okI (g_by 111) (g_me 111).2.1) = true := by decide +kernel
set_option maxRecDepth 100000 in
theorem s_ck_112 : s_c_112.all (s_okI (g_by 112) (g_me 112).2.1) = true := by decide +kernel
set_option maxRecDepth 100000 in
theorem s_ck_113 : s_c_113.all (s_okI (g_by 113) (g_me 113).2.1) = true := by decide +kernel
set_option maxRecDepth 100000 in
theorem s_ck_114 : s_c_114.all (s_okI (g_by 114) (g_me 114).2.1) = true := by decide +kernel
