-- the instructions are those of the byte code
set_option maxRecDepth 100000 in
theorem s_ck_191 : s_c_191.all (s_okI (g_by 191) (g_me 191).2.1) = true := by decide +kernel
set_option maxRecDepth 100000 in
theorem s_ck_192 : s_c_192.all (s_okI (g_by 192) (g_me 192).2.1) = true := by decide +kernel
set_option maxRecDepth 100000 in
theorem s_ck_193 : s_c_193.all (s_okI (g_by 193) (g_me 193).2.1) = true := by decide +kernel
set_option maxRecDepth 100000 in
theorem s_ck_194 : s_c_194.all (s_okI (g_by 194) (g_me 194).2.1) = true := by decide +kernel
set_option maxRecDepth 100000 in
theorem s_ck_195 : s_c_195.all (s_okI (g_by 195) (g_me 195).2.1) = true := by decide +kernel
set_option maxRecDepth 100000 in
theorem s_ck_196 : s_c_196.all (s_okI (g_by 196) (g_me 196).2.1) = true := by decide +kernel
set_option maxRecDepth 100000 in
theorem s_ck_197 : s_c_197.all (s_okI (g_by 197) (g_me 197).2.1) = true := by decide +kernel
set_option maxRecDepth 100000 in
theorem s_ck_198 : s_c_198.all (s_okI (g_by 198) (g_me 198).2.1) = true := by decide +kernel
set_option maxRecDepth 100000 in
theorem s_ck_199 : s_c_199.all (s_okI (g_by 199) (g_me 199).2.1) = true := by decide +kernel
set_option maxRecDepth 100000 in
theorem s_ck_200 : s_c_200.all (s_okI (g_by 200) (g_me 200).2.1) = true := by decide +kernel
set_option maxRecDepth 100000 in
theorem s_ck_201 : s_c_201.all (s_okI (g_by 201) (g_me 201).2.1) = true := by decide +kernel
set_option maxRecDepth 100000 in
theorem s_ck_202 : s_c_202.all (s_okI (g_by 202) (g_me 202).2.1) = true := by decide +kernel
set_option maxRecDepth 100000 in
theorem s_ck_203 : s_c_203.all (s_okI (g_by 203) (g_me 203).2.1) = true := by decide +kernel
set_option maxRecDepth 100000 in
theorem s_ck_204 : s_c_204.all (s_okI (g_by 204) (g_me 204).2.1) = true := by decide +kernel
