-- unlike: the call, the pair
set_option maxRecDepth 20000
set_option maxRecDepth 100000 in
theorem y_su_195 : (y_Kr 59 195 [(2, 9, 0, 0, 0, 0, 0), (2, 1, 0, 0, 0, 0, 0)] []).isSome = true := by decide +kernel
theorem un_pre {W W' : y_W} (h : W <+: W') {p : Nat} {x : Nat × Nat} (hp : W[p]? = some x) : W'[p]? = some x := by
  obtain ⟨t, rfl⟩ := h
  rw [List.getElem?_append_left (List.getElem?_eq_some_iff.mp hp).1]
  exact hp
/-- what a private call leaves -/
theorem un_call {A : Nat → Nat} {W : y_W} {b : Bool} {h : g_H} (hJ : iv_JW A W b h) {j : Nat} {vs : List y_V} {xs : List Value} (hj : f_T iv_B j = true) (hs : (y_Kr 59 j vs []).isSome = true) (hx : ∀ β : Nat → Int, y_gA W β vs xs) : g_run 59 j xs h 0 0 (fun _ h' => ∃ W', W <+: W' ∧ iv_JW A W' b h' ∧ ∀ M : xa_M, xa_H xm_I A M h h → xa_H xm_I A M h' h') :=
  f_run iv_T_ok _ _ _ _ _ _ _ _ hj (iv_callR y_Rr_ro (y_Kr_ok 59) hs hJ.1 hx) (fun r h' hp hF => by
    have hp2 := hp
    obtain ⟨_, _, _, _, km⟩ := hp2
    obtain ⟨W', hW, hJ'⟩ := iv_J_c hJ hp hF
    exact ⟨W', hW, hJ', km⟩)
theorem un_c0 {A : Nat → Nat} {W : y_W} {b : Bool} {h : g_H} (hJ : iv_JW A W b h) : ∃ f0, h[0]? = some (A 0, false, 11, 12, f0) ∧ f0 9 = .ref (A 48) ∧ f0 8 = .ref (A 43) ∧ (∃ f, h[48]? = some (A 48, false, 6, 2, f)) ∧ ∃ f, h[43]? = some (A 43, false, 5, 5, f) := by
  obtain ⟨f0, g0⟩ := iv_cell hJ.1 (q := 0) rfl rfl
  have e9 := hJ.2.1 0 _ _ rfl 9 (show 9 < 12 by decide) rfl
  have e8 := hJ.2.1 0 _ _ rfl 8 (show 8 < 12 by decide) rfl
  rw [iv_ctZ g0] at e9 e8
  exact ⟨f0, g0, e9, e8, iv_cell hJ.1 (q := 48) rfl rfl, iv_cell hJ.1 (q := 43) rfl rfl⟩
