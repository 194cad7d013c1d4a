-- the class is safe
set_option maxRecDepth 100000
theorem y_safe_12 : (y_Kt 14 12 [(2, 0, 0, 0, 0, 0, 0), (0, (-2147483648), 2147483647, 0, 0, 0, 0), (0, (-2147483648), 2147483647, 0, 0, 0, 0), (0, (-2147483648), 2147483647, 0, 0, 0, 0), (0, (-2147483648), 2147483647, 0, 0, 0, 0)] []).isSome = true := by decide +kernel
theorem y_safe_73 : (y_Kt 14 73 [(2, 0, 0, 0, 0, 0, 0), (0, (-2147483648), 2147483647, 0, 0, 0, 0)] []).isSome = true := by decide +kernel
theorem y_safe_114 : (y_Kt 14 114 [(2, 0, 0, 0, 0, 0, 0)] []).isSome = true := by decide +kernel
theorem y_safe_170 : (y_Kt 14 170 [(2, 0, 0, 0, 0, 0, 0), (0, (-2147483648), 2147483647, 0, 0, 0, 0)] []).isSome = true := by decide +kernel
