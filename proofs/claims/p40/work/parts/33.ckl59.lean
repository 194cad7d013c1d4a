-- the law's instructions
set_option maxRecDepth 100000 in
theorem s_ckl_5 : s_cl_5.all (s_okI code 13) = true := by
  have h3 : (s_cl_5.drop 165).all (s_okI code 13) = true := s_ckl_5_3
  have h2 : (s_cl_5.drop 110).all (s_okI code 13) = true := s_all_td 55 s_ckl_5_2 (by rw [List.drop_drop]; exact h3)
  have h1 : (s_cl_5.drop 55).all (s_okI code 13) = true := s_all_td 55 s_ckl_5_1 (by rw [List.drop_drop]; exact h2)
  have h0 : (s_cl_5.drop 0).all (s_okI code 13) = true := s_all_td 55 s_ckl_5_0 (by rw [List.drop_drop]; exact h1)
  exact h0

