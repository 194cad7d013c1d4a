-- the instructions are those of the byte code
set_option maxRecDepth 100000 in
theorem s_ck_101 : s_c_101.all (s_okI (g_by 101) (g_me 101).2.1) = true := by decide +kernel
set_option maxRecDepth 100000 in
theorem s_ck_106 : s_c_106.all (s_okI (g_by 106) (g_me 106).2.1) = true := by decide +kernel
set_option maxRecDepth 100000 in
theorem s_ck_107 : s_c_107.all (s_okI (g_by 107) (g_me 107).2.1) = true := by decide +kernel
set_option maxRecDepth 100000 in
theorem s_ck_110 : s_c_110.all (s_okI (g_by 110) (g_me 110).2.1) = true := by decide +kernel
set_option maxRecDepth 100000 in
theorem s_ck_111 : s_c_111.all (s_okI (g_by 111) (g_me 111).2.1) = true := by decide +kernel
set_option maxRecDepth 100000 in
theorem s_ck_112 : s_c_112.all (s_okI (g_by 112) (g_me 112).2.1) = true := by decide +kernel
set_option maxRecDepth 100000 in
theorem s_ck_113 : s_c_113.all (s_okI (g_by 113) (g_me 113).2.1) = true := by decide +kernel
set_option maxRecDepth 100000 in
theorem s_ck_114 : s_c_114.all (s_okI (g_by 114) (g_me 114).2.1) = true := by decide +kernel
set_option maxRecDepth 100000 in
theorem s_ck_115 : s_c_115.all (s_okI (g_by 115) (g_me 115).2.1) = true := by decide +kernel
set_option maxRecDepth 100000 in
theorem s_ck_121 : s_c_121.all (s_okI (g_by 121) (g_me 121).2.1) = true := by decide +kernel
set_option maxRecDepth 100000 in
theorem s_ck_122 : s_c_122.all (s_okI (g_by 122) (g_me 122).2.1) = true := by decide +kernel
set_option maxRecDepth 100000 in
theorem s_ck_129 : s_c_129.all (s_okI (g_by 129) (g_me 129).2.1) = true := by decide +kernel
set_option maxRecDepth 100000 in
theorem s_ck_131 : s_c_131.all (s_okI (g_by 131) (g_me 131).2.1) = true := by decide +kernel
set_option maxRecDepth 100000 in
theorem s_ck_132 : s_c_132.all (s_okI (g_by 132) (g_me 132).2.1) = true := by decide +kernel
set_option maxRecDepth 100000 in
theorem s_ck_133 : s_c_133.all (s_okI (g_by 133) (g_me 133).2.1) = true := by decide +kernel
