-- the instructions are those of the byte code
set_option maxRecDepth 100000 in
theorem s_ck_19 : s_c_19.all (s_okI (g_by 19) (g_me 19).2.1) = true := by decide +kernel
set_option maxRecDepth 100000 in
theorem s_ck_20 : s_c_20.all (s_okI (g_by 20) (g_me 20).2.1) = true := by decide +kernel
set_option maxRecDepth 100000 in
theorem s_ck_21 : s_c_21.all (s_okI (g_by 21) (g_me 21).2.1) = true := by decide +kernel
set_option maxRecDepth 100000 in
theorem s_ck_22 : s_c_22.all (s_okI (g_by 22) (g_me 22).2.1) = true := by decide +kernel
set_option maxRecDepth 100000 in
theorem s_ck_23 : s_c_23.all (s_okI (g_by 23) (g_me 23).2.1) = true := by decide +kernel
set_option maxRecDepth 100000 in
theorem s_ck_24 : s_c_24.all (s_okI (g_by 24) (g_me 24).2.1) = true := by decide +kernel
set_option maxRecDepth 100000 in
theorem s_ck_25 : s_c_25.all (s_okI (g_by 25) (g_me 25).2.1) = true := by decide +kernel
set_option maxRecDepth 100000 in
theorem s_ck_26 : s_c_26.all (s_okI (g_by 26) (g_me 26).2.1) = true := by decide +kernel
set_option maxRecDepth 100000 in
theorem s_ck_27 : s_c_27.all (s_okI (g_by 27) (g_me 27).2.1) = true := by decide +kernel
set_option maxRecDepth 100000 in
theorem s_ck_28 : s_c_28.all (s_okI (g_by 28) (g_me 28).2.1) = true := by decide +kernel
set_option maxRecDepth 100000 in
theorem s_ck_29 : s_c_29.all (s_okI (g_by 29) (g_me 29).2.1) = true := by decide +kernel
set_option maxRecDepth 100000 in
theorem s_ck_30 : s_c_30.all (s_okI (g_by 30) (g_me 30).2.1) = true := by decide +kernel
set_option maxRecDepth 100000 in
theorem s_ck_31 : s_c_31.all (s_okI (g_by 31) (g_me 31).2.1) = true := by decide +kernel
set_option maxRecDepth 100000 in
theorem s_ck_32 : s_c_32.all (s_okI (g_by 32) (g_me 32).2.1) = true := by decide +kernel
set_option maxRecDepth 100000 in
theorem s_ck_33 : s_c_33.all (s_okI (g_by 33) (g_me 33).2.1) = true := by decide +kernel
set_option maxRecDepth 100000 in
theorem s_ck_34 : s_c_34.all (s_okI (g_by 34) (g_me 34).2.1) = true := by decide +kernel
set_option maxRecDepth 100000 in
theorem s_ck_35 : s_c_35.all (s_okI (g_by 35) (g_me 35).2.1) = true := by decide +kernel
set_option maxRecDepth 100000 in
theorem s_ck_36 : s_c_36.all (s_okI (g_by 36) (g_me 36).2.1) = true := by decide +kernel
set_option maxRecDepth 100000 in
theorem s_ck_37 : s_c_37.all (s_okI (g_by 37) (g_me 37).2.1) = true := by decide +kernel
set_option maxRecDepth 100000 in
theorem s_ck_38 : s_c_38.all (s_okI (g_by 38) (g_me 38).2.1) = true := by decide +kernel
set_option maxRecDepth 100000 in
theorem s_ck_39 : s_c_39.all (s_okI (g_by 39) (g_me 39).2.1) = true := by decide +kernel
set_option maxRecDepth 100000 in
theorem s_ck_40 : s_c_40.all (s_okI (g_by 40) (g_me 40).2.1) = true := by decide +kernel
set_option maxRecDepth 100000 in
theorem s_ck_41 : s_c_41.all (s_okI (g_by 41) (g_me 41).2.1) = true := by decide +kernel
set_option maxRecDepth 100000 in
theorem s_ck_42 : s_c_42.all (s_okI (g_by 42) (g_me 42).2.1) = true := by decide +kernel
set_option maxRecDepth 100000 in
theorem s_ck_43 : s_c_43.all (s_okI (g_by 43) (g_me 43).2.1) = true := by decide +kernel
set_option maxRecDepth 100000 in
theorem s_ck_44 : s_c_44.all (s_okI (g_by 44) (g_me 44).2.1) = true := by decide +kernel
