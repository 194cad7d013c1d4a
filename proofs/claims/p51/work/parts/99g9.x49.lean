-- unlike: the call, the pair
set_option maxRecDepth 20000
theorem un_c0 {A : Nat → Nat} {W : y_W} {b : Bool} {h : g_H} (hJ : iv_JW A W b h) : ∃ f0, h[0]? = some (A 0, false, 11, 12, f0) ∧ f0 9 = .ref (A 48) ∧ f0 8 = .ref (A 43) ∧ (∃ f, h[48]? = some (A 48, false, 6, 2, f)) ∧ ∃ f, h[43]? = some (A 43, false, 5, 5, f) := by
  obtain ⟨f0, g0⟩ := iv_cell hJ.1 (q := 0) rfl rfl
  have e9 := hJ.2.1 0 _ _ rfl 9 (show 9 < 12 by decide) rfl
  have e8 := hJ.2.1 0 _ _ rfl 8 (show 8 < 12 by decide) rfl
  rw [iv_ctZ g0] at e9 e8
  exact ⟨f0, g0, e9, e8, iv_cell hJ.1 (q := 48) rfl rfl, iv_cell hJ.1 (q := 43) rfl rfl⟩
