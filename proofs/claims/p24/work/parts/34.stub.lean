-- in the place of 33 and 34 while later parts are worked on
theorem s_mi_ok : s_miok s_mi := sorry
theorem s_ft_ok : s_ftok s_ft := sorry
theorem s_codes_ok : ∀ j q, s_mi[j]? = some q → s_pc (s_codes.getD j []) = 0 ∧ ∀ r ∈ s_codes.getD j [], s_okI (g_by j) q.2.2.2.2.2 r = true := sorry
