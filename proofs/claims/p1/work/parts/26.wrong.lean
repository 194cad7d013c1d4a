-- wrong: many steps
set_option maxRecDepth 100000 in
theorem s_r_41 : s_okr 41 41 = true := by decide +kernel
