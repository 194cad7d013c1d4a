-- the class reads the roles told alone
set_option maxRecDepth 20000
set_option maxRecDepth 100000 in
theorem y_sr_45 : (y_Kr 60 45 [(2, 0, 0, 0, 0, 0, 0), (0, (-2147483648), 2147483647, 0, 0, 0, 0)] []).isSome = true := by decide +kernel
set_option maxRecDepth 100000 in
theorem y_sr_61 : (y_Kr 60 61 [(2, 0, 0, 0, 0, 0, 0)] []).isSome = true := by decide +kernel
set_option maxRecDepth 100000 in
theorem y_sr_62 : (y_Kr 60 62 [(2, 0, 0, 0, 0, 0, 0)] []).isSome = true := by decide +kernel
set_option maxRecDepth 100000 in
theorem y_sr_63 : (y_Kr 60 63 [(2, 0, 0, 0, 0, 0, 0), (0, (-2147483648), 2147483647, 0, 0, 0, 0)] []).isSome = true := by decide +kernel
set_option maxRecDepth 100000 in
theorem y_sr_66 : (y_Kr 60 66 [(2, 0, 0, 0, 0, 0, 0), (0, (-2147483648), 2147483647, 0, 0, 0, 0), (0, (-2147483648), 2147483647, 0, 0, 0, 0)] []).isSome = true := by decide +kernel
set_option maxRecDepth 100000 in
theorem y_sr_72 : (y_Kr 60 72 [(2, 0, 0, 0, 0, 0, 0), (0, (-2147483648), 2147483647, 0, 0, 0, 0), (0, (-2147483648), 2147483647, 0, 0, 0, 0)] []).isSome = true := by decide +kernel
set_option maxRecDepth 100000 in
theorem y_sr_73 : (y_Kr 60 73 [(2, 0, 0, 0, 0, 0, 0), (0, (-2147483648), 2147483647, 0, 0, 0, 0)] []).isSome = true := by decide +kernel
set_option maxRecDepth 100000 in
theorem y_sr_85 : (y_Kr 60 85 [(2, 0, 0, 0, 0, 0, 0), (0, (-2147483648), 2147483647, 0, 0, 0, 0), (0, (-2147483648), 2147483647, 0, 0, 0, 0)] []).isSome = true := by decide +kernel
set_option maxRecDepth 100000 in
theorem y_sr_101 : (y_Kr 60 101 [(2, 0, 0, 0, 0, 0, 0), (0, (-2147483648), 2147483647, 0, 0, 0, 0), (0, (-2147483648), 2147483647, 0, 0, 0, 0), (0, (-2147483648), 2147483647, 0, 0, 0, 0)] []).isSome = true := by decide +kernel
set_option maxRecDepth 100000 in
theorem y_sr_106 : (y_Kr 60 106 [(2, 0, 0, 0, 0, 0, 0), (0, (-2147483648), 2147483647, 0, 0, 0, 0)] []).isSome = true := by decide +kernel
set_option maxRecDepth 100000 in
theorem y_sr_107 : (y_Kr 60 107 [(2, 0, 0, 0, 0, 0, 0), (0, (-2147483648), 2147483647, 0, 0, 0, 0), (0, (-2147483648), 2147483647, 0, 0, 0, 0)] []).isSome = true := by decide +kernel
set_option maxRecDepth 100000 in
theorem y_sr_121 : (y_Kr 60 121 [(2, 0, 0, 0, 0, 0, 0), (0, (-2147483648), 2147483647, 0, 0, 0, 0), (0, (-2147483648), 2147483647, 0, 0, 0, 0)] []).isSome = true := by decide +kernel
set_option maxRecDepth 100000 in
theorem y_sr_122 : (y_Kr 60 122 [(2, 0, 0, 0, 0, 0, 0), (0, (-2147483648), 2147483647, 0, 0, 0, 0), (0, (-2147483648), 2147483647, 0, 0, 0, 0)] []).isSome = true := by decide +kernel
set_option maxRecDepth 100000 in
theorem y_sr_129 : (y_Kr 60 129 [(2, 0, 0, 0, 0, 0, 0), (0, (-2147483648), 2147483647, 0, 0, 0, 0)] []).isSome = true := by decide +kernel
set_option maxRecDepth 100000 in
theorem y_sr_132 : (y_Kr 60 132 [(2, 0, 0, 0, 0, 0, 0), (0, (-2147483648), 2147483647, 0, 0, 0, 0)] []).isSome = true := by decide +kernel
set_option maxRecDepth 100000 in
theorem y_sr_137 : (y_Kr 60 137 [(2, 0, 0, 0, 0, 0, 0), (0, (-2147483648), 2147483647, 0, 0, 0, 0), (0, (-2147483648), 2147483647, 0, 0, 0, 0), (0, (-2147483648), 2147483647, 0, 0, 0, 0)] []).isSome = true := by decide +kernel
set_option maxRecDepth 100000 in
theorem y_sr_140 : (y_Krd 60 140 [(2, 0, 0, 0, 0, 0, 0), (0, (-2147483648), 2147483647, 0, 0, 0, 0)] []).isSome = true := by decide +kernel
set_option maxRecDepth 100000 in
theorem y_sr_149 : (y_Kr 60 149 [(2, 0, 0, 0, 0, 0, 0)] []).isSome = true := by decide +kernel
set_option maxRecDepth 100000 in
theorem y_sr_151 : (y_Krd 60 151 [(2, 0, 0, 0, 0, 0, 0)] []).isSome = true := by decide +kernel
set_option maxRecDepth 100000 in
theorem y_sr_162 : (y_Kr 60 162 [(2, 0, 0, 0, 0, 0, 0), (0, (-2147483648), 2147483647, 0, 0, 0, 0), (0, (-2147483648), 2147483647, 0, 0, 0, 0), (0, (-2147483648), 2147483647, 0, 0, 0, 0), (0, (-2147483648), 2147483647, 0, 0, 0, 0)] []).isSome = true := by decide +kernel
set_option maxRecDepth 100000 in
theorem y_sr_163 : (y_Kr 60 163 [(2, 0, 0, 0, 0, 0, 0), (0, (-2147483648), 2147483647, 0, 0, 0, 0), (0, (-2147483648), 2147483647, 0, 0, 0, 0)] []).isSome = true := by decide +kernel
set_option maxRecDepth 100000 in
theorem y_sr_164 : (y_Kr 60 164 [(2, 0, 0, 0, 0, 0, 0), (0, (-2147483648), 2147483647, 0, 0, 0, 0), (0, (-2147483648), 2147483647, 0, 0, 0, 0), (0, (-2147483648), 2147483647, 0, 0, 0, 0)] []).isSome = true := by decide +kernel
set_option maxRecDepth 100000 in
theorem y_sr_166 : (y_Kr 60 166 [(2, 0, 0, 0, 0, 0, 0), (0, (-2147483648), 2147483647, 0, 0, 0, 0), (0, (-2147483648), 2147483647, 0, 0, 0, 0), (0, (-2147483648), 2147483647, 0, 0, 0, 0)] []).isSome = true := by decide +kernel
set_option maxRecDepth 100000 in
theorem y_sr_167 : (y_Kr 60 167 [(2, 0, 0, 0, 0, 0, 0), (0, (-2147483648), 2147483647, 0, 0, 0, 0)] []).isSome = true := by decide +kernel
set_option maxRecDepth 100000 in
theorem y_sr_179 : (y_Kr 60 179 [(2, 0, 0, 0, 0, 0, 0), (0, (-2147483648), 2147483647, 0, 0, 0, 0), (0, 0, 1, 0, 0, 0, 0)] []).isSome = true := by decide +kernel
set_option maxRecDepth 100000 in
theorem y_sr_181 : (y_Kr 60 181 [(2, 0, 0, 0, 0, 0, 0), (0, (-2147483648), 2147483647, 0, 0, 0, 0), (0, 0, 1, 0, 0, 0, 0)] []).isSome = true := by decide +kernel
set_option maxRecDepth 100000 in
theorem y_sr_183 : (y_Kr 60 183 [(2, 0, 0, 0, 0, 0, 0), (0, (-2147483648), 2147483647, 0, 0, 0, 0)] []).isSome = true := by decide +kernel
set_option maxRecDepth 100000 in
theorem y_sr_185 : (y_Kr 60 185 [(2, 0, 0, 0, 0, 0, 0)] []).isSome = true := by decide +kernel
set_option maxRecDepth 100000 in
theorem y_sr_188 : (y_Kr 60 188 [(2, 0, 0, 0, 0, 0, 0)] []).isSome = true := by decide +kernel
set_option maxRecDepth 100000 in
theorem y_sr_190 : (y_Kr 60 190 [(2, 0, 0, 0, 0, 0, 0)] []).isSome = true := by decide +kernel
set_option maxRecDepth 100000 in
theorem y_sr_192 : (y_Kr 60 192 [(2, 0, 0, 0, 0, 0, 0), (0, (-2147483648), 2147483647, 0, 0, 0, 0), (0, (-2147483648), 2147483647, 0, 0, 0, 0), (0, (-2147483648), 2147483647, 0, 0, 0, 0), (0, (-2147483648), 2147483647, 0, 0, 0, 0)] []).isSome = true := by decide +kernel
set_option maxRecDepth 100000 in
theorem y_sr_194 : (y_Kr 60 194 [(2, 0, 0, 0, 0, 0, 0)] []).isSome = true := by decide +kernel
set_option maxRecDepth 100000 in
theorem y_sr_205 : (y_Kr 60 205 [(2, 0, 0, 0, 0, 0, 0), (0, (-2147483648), 2147483647, 0, 0, 0, 0), (0, (-2147483648), 2147483647, 0, 0, 0, 0)] []).isSome = true := by decide +kernel
set_option maxRecDepth 100000 in
theorem y_sr_207 : (y_Kr 60 207 [(2, 0, 0, 0, 0, 0, 0), (0, (-2147483648), 2147483647, 0, 0, 0, 0)] []).isSome = true := by decide +kernel
