-- the law's instructions
set_option maxRecDepth 100000 in
theorem s_all_td {f : s_I → Bool} {l : List s_I} (n : Nat) (h1 : (l.take n).all f = true) (h2 : (l.drop n).all f = true) : l.all f = true := by
  rw [← List.take_append_drop n l, List.all_append, h1, h2]
  rfl
set_option maxRecDepth 100000 in
theorem s_ckl_4 : s_cl_4.all (s_okI code 13) = true := by
  have h3 : (s_cl_4.drop 165).all (s_okI code 13) = true := s_ckl_4_3
  have h2 : (s_cl_4.drop 110).all (s_okI code 13) = true := s_all_td 55 s_ckl_4_2 (by rw [List.drop_drop]; exact h3)
  have h1 : (s_cl_4.drop 55).all (s_okI code 13) = true := s_all_td 55 s_ckl_4_1 (by rw [List.drop_drop]; exact h2)
  have h0 : (s_cl_4.drop 0).all (s_okI code 13) = true := s_all_td 55 s_ckl_4_0 (by rw [List.drop_drop]; exact h1)
  exact h0

