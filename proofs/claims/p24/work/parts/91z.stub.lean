-- with 34.stub: in the place of 34 while later parts are worked on
theorem s_cl_ok : ∀ r ∈ s_cl, s_okI code 13 r = true := sorry
theorem s_df_ok : s_dfok s_ft := sorry
