-- comparisons
/-- comparisons, told of integers -/
def h_ci (x y : Int) : ClassFile.Cond → Bool
  | .eq => decide (x = y)
  | .ne => decide (¬ x = y)
  | .lt => decide (x < y)
  | .ge => decide (y ≤ x)
  | .gt => decide (y < x)
  | .le => decide (x ≤ y)
theorem h_c2 (x y : Int32) (cd : ClassFile.Cond) : g_c2 x y cd = h_ci x.toInt y.toInt cd := by
  cases cd
  · exact decide_eq_decide.mpr Int32.toInt_inj.symm
  · exact decide_eq_decide.mpr (not_congr Int32.toInt_inj.symm)
  · exact decide_eq_decide.mpr Int32.lt_iff_toInt_lt
  · exact decide_eq_decide.mpr Int32.le_iff_toInt_le
  · exact decide_eq_decide.mpr Int32.lt_iff_toInt_lt
  · exact decide_eq_decide.mpr Int32.le_iff_toInt_le
theorem h_c1 (x : Int32) (cd : ClassFile.Cond) : g_c1 x cd = h_ci x.toInt 0 cd := by
  rw [s_c1_c2, h_c2]
  rfl
theorem h_cmp (x y : Int64) : (lg_cmp x y).toInt = if y.toInt < x.toInt then 1 else if x.toInt = y.toInt then 0 else -1 := by
  unfold lg_cmp
  by_cases h1 : y.toInt < x.toInt
  · rw [if_pos (show x > y from Int64.lt_iff_toInt_lt.mpr h1), if_pos h1]
    rfl
  · rw [if_neg (show ¬ x > y from fun h => h1 (Int64.lt_iff_toInt_lt.mp h)), if_neg h1]
    by_cases h2 : x.toInt = y.toInt
    · rw [if_pos (Int64.toInt_inj.mp h2), if_pos h2]
      rfl
    · rw [if_neg (fun h => h2 (by rw [h])), if_neg h2]
      rfl
theorem h_cl (x y : Int64) (cd : ClassFile.Cond) : g_c1 (lg_cmp x y) cd = h_ci x.toInt y.toInt cd := by
  rw [h_c1, h_cmp]
  cases cd <;> simp only [h_ci, decide_eq_decide] <;> split <;> (try split) <;> omega
