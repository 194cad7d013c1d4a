-- when: many steps
set_option maxRecDepth 100000 in
theorem s_r_40 : s_okr 40 40 = true := by decide +kernel
