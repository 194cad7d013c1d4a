-- common: the reference
set_option maxRecDepth 20000
theorem xm_t92h {M : xa_M} (hM : xa_Mok xm_I M) (j : Int) (h0 : 0 ≤ j) (h1 : j < 401) : -2147483648 ≤ M 92 j ∧ M 92 j ≤ 2147483647 := by
  obtain ⟨n, rfl⟩ := Int.eq_ofNat_of_zero_le h0
  exact hM 92 _ _ rfl n (show n < 401 by omega) (show (0 : Nat) < 2 by decide)
