-- the reference's calls keep what holds between calls (made by wip/p24/law/gen99.py)
set_option maxRecDepth 20000
theorem iv_rtI {j : Nat} {Q : s_MI} {r : Option Value} (hq : s_mi[j]? = some Q) (hk : Q.2.1 = 1 ∨ Q.2.1 = 2) (h : iv_rt (g_rt j) r) : ∃ v, r = some (.int v) := by
  obtain ⟨-, -, h3, -, -⟩ := s_mi_ok j Q hq
  rcases hk with hk | hk <;> rw [hk] at h3
  · have h3 : g_rt j = some .int := h3
    rw [h3] at h
    exact h
  · have h3 : g_rt j = some .boolean := h3
    rw [h3] at h
    obtain ⟨v, e, -⟩ := h
    exact ⟨v, e⟩
theorem iv_i {A : Nat → Nat} (m : Int32) : xa_g A (0, 0, -2147483648, 2147483647, m.toInt) (.int m) := by
  have h1 := Int32.le_toInt m
  have h2 := Int32.toInt_lt m
  exact ⟨m, rfl, rfl, h1, by omega⟩
theorem iv_callM2 {d j : Nat} {A : Nat → Nat} {h : g_H} (hI : iv_inv A h) {vs : List xa_V} {xs : List Value} (hx : xa_gS A vs xs) (Z : Option xa_V → Prop) (hC : ∀ M : xa_M, xm_Inv M → xa_C xm_I A h d j vs M (fun o M1 => Z o ∧ xm_Inv M1)) : g_run d j xs h 0 0 (fun r h' => (∃ o, Z o ∧ xa_gR A o r) ∧ iv_inv A h') := by
  obtain ⟨hcl, M, hM, hInv⟩ := hI
  refine hC M hInv h xs hM hx _ (fun v M' x h' hv hx' hM' => ?_)
  exact ⟨⟨v, hv.1, hx'⟩, iv_cls_k hcl hM', M', ⟨rfl, hM'.2.1, fun _ _ => rfl⟩, hv.2⟩
theorem iv_sp0 {as : List Value} (h : iv_sp [] as) : as = [] := by
  cases as with
  | nil => rfl
  | cons _ _ => exact h.elim
theorem iv_spc {k : Nat} {ks : List Nat} {as : List Value} (h : iv_sp (k :: ks) as) : ∃ (m : Int32) (ys : List Value), as = .int m :: ys ∧ (k = 1 → m.toInt = 0 ∨ m.toInt = 1) ∧ iv_sp ks ys := by
  cases as with
  | nil => exact h.elim
  | cons x ys =>
    obtain ⟨⟨m, rfl, h1⟩, h2⟩ := h
    exact ⟨m, ys, rfl, h1, h2⟩
/-- a call of the reference keeps it -/
def iv_hm (j : Nat) (spec : List Nat) : Prop := ∀ (A : Nat → Nat) (h : g_H) (as : List Value), iv_inv A h → iv_sp spec as → g_run 60 j (.ref (A 60) :: as) h 0 0 (fun r h' => (∃ v2, r = some (.int v2)) ∧ iv_inv A h')
theorem hm_213 : iv_hm 213 [0, 0, 0, 0] := by
  intro A h as hI hs
  obtain ⟨m1, ys, rfl, h1, hs⟩ := iv_spc hs
  obtain ⟨m2, ys, rfl, h2, hs⟩ := iv_spc hs
  obtain ⟨m3, ys, rfl, h3, hs⟩ := iv_spc hs
  obtain ⟨m4, ys, rfl, h4, hs⟩ := iv_spc hs
  obtain rfl := iv_sp0 hs
  exact g_run_rt (iv_callM (d := 60) hI (vs := [(2, 60, 0, 0, 0), (0, 0, -2147483648, 2147483647, m1.toInt), (0, 0, -2147483648, 2147483647, m2.toInt), (0, 0, -2147483648, 2147483647, m3.toInt), (0, 0, -2147483648, 2147483647, m4.toInt)]) (xs := [.ref (A 60), .int m1, .int m2, .int m3, .int m4]) ⟨rfl, iv_i m1, iv_i m2, iv_i m3, iv_i m4, trivial⟩ (fun M hM => ms_wheel hM (fun _ _ hc => hc))) (fun _ _ h1 h2 => ⟨iv_rtI (j := 213) (Q := (5, 1, false, 0, 0, 12)) (by decide +kernel) (by decide) h2, h1⟩)
theorem hm_216 : iv_hm 216 [0, 0, 0, 0] := by
  intro A h as hI hs
  obtain ⟨m1, ys, rfl, h1, hs⟩ := iv_spc hs
  obtain ⟨m2, ys, rfl, h2, hs⟩ := iv_spc hs
  obtain ⟨m3, ys, rfl, h3, hs⟩ := iv_spc hs
  obtain ⟨m4, ys, rfl, h4, hs⟩ := iv_spc hs
  obtain rfl := iv_sp0 hs
  exact g_run_rt (iv_callM (d := 60) hI (vs := [(2, 60, 0, 0, 0), (0, 0, -2147483648, 2147483647, m1.toInt), (0, 0, -2147483648, 2147483647, m2.toInt), (0, 0, -2147483648, 2147483647, m3.toInt), (0, 0, -2147483648, 2147483647, m4.toInt)]) (xs := [.ref (A 60), .int m1, .int m2, .int m3, .int m4]) ⟨rfl, iv_i m1, iv_i m2, iv_i m3, iv_i m4, trivial⟩ (fun M hM => ms_arc hM (fun _ _ hc => hc))) (fun _ _ h1 h2 => ⟨iv_rtI (j := 216) (Q := (7, 1, false, 0, 0, 12)) (by decide +kernel) (by decide) h2, h1⟩)
theorem hm_218 : iv_hm 218 [0, 0] := by
  intro A h as hI hs
  obtain ⟨m1, ys, rfl, h1, hs⟩ := iv_spc hs
  obtain ⟨m2, ys, rfl, h2, hs⟩ := iv_spc hs
  obtain rfl := iv_sp0 hs
  exact g_run_rt (iv_callM (d := 60) hI (vs := [(2, 60, 0, 0, 0), (0, 0, -2147483648, 2147483647, m1.toInt), (0, 0, -2147483648, 2147483647, m2.toInt)]) (xs := [.ref (A 60), .int m1, .int m2]) ⟨rfl, iv_i m1, iv_i m2, trivial⟩ (fun M hM => ms_take hM (fun _ _ hc => hc))) (fun _ _ h1 h2 => ⟨iv_rtI (j := 218) (Q := (4, 1, false, 0, 0, 12)) (by decide +kernel) (by decide) h2, h1⟩)
theorem hm_219 : iv_hm 219 [0, 0, 0, 0] := by
  intro A h as hI hs
  obtain ⟨m1, ys, rfl, h1, hs⟩ := iv_spc hs
  obtain ⟨m2, ys, rfl, h2, hs⟩ := iv_spc hs
  obtain ⟨m3, ys, rfl, h3, hs⟩ := iv_spc hs
  obtain ⟨m4, ys, rfl, h4, hs⟩ := iv_spc hs
  obtain rfl := iv_sp0 hs
  exact g_run_rt (iv_callM (d := 60) hI (vs := [(2, 60, 0, 0, 0), (0, 0, -2147483648, 2147483647, m1.toInt), (0, 0, -2147483648, 2147483647, m2.toInt), (0, 0, -2147483648, 2147483647, m3.toInt), (0, 0, -2147483648, 2147483647, m4.toInt)]) (xs := [.ref (A 60), .int m1, .int m2, .int m3, .int m4]) ⟨rfl, iv_i m1, iv_i m2, iv_i m3, iv_i m4, trivial⟩ (fun M hM => ms_sheet hM (fun _ _ hc => hc))) (fun _ _ h1 h2 => ⟨iv_rtI (j := 219) (Q := (9, 1, false, 0, 0, 12)) (by decide +kernel) (by decide) h2, h1⟩)
theorem hm_220 : iv_hm 220 [0, 0] := by
  intro A h as hI hs
  obtain ⟨m1, ys, rfl, h1, hs⟩ := iv_spc hs
  obtain ⟨m2, ys, rfl, h2, hs⟩ := iv_spc hs
  obtain rfl := iv_sp0 hs
  exact g_run_rt (iv_callM (d := 60) hI (vs := [(2, 60, 0, 0, 0), (0, 0, -2147483648, 2147483647, m1.toInt), (0, 0, -2147483648, 2147483647, m2.toInt)]) (xs := [.ref (A 60), .int m1, .int m2]) ⟨rfl, iv_i m1, iv_i m2, trivial⟩ (fun M hM => ms_mesh hM (fun _ _ hc => hc))) (fun _ _ h1 h2 => ⟨iv_rtI (j := 220) (Q := (3, 1, false, 0, 0, 12)) (by decide +kernel) (by decide) h2, h1⟩)
theorem hm_222 : iv_hm 222 [] := by
  intro A h as hI hs
  obtain rfl := iv_sp0 hs
  exact g_run_rt (iv_callM (d := 60) hI (vs := [(2, 60, 0, 0, 0)]) (xs := [.ref (A 60)]) ⟨rfl, trivial⟩ (fun M hM => ms_part hM (fun _ _ hc => hc))) (fun _ _ h1 h2 => ⟨iv_rtI (j := 222) (Q := (1, 1, false, 0, 0, 12)) (by decide +kernel) (by decide) h2, h1⟩)
theorem hm_223 : iv_hm 223 [0, 0] := by
  intro A h as hI hs
  obtain ⟨m1, ys, rfl, h1, hs⟩ := iv_spc hs
  obtain ⟨m2, ys, rfl, h2, hs⟩ := iv_spc hs
  obtain rfl := iv_sp0 hs
  exact g_run_rt (iv_callM (d := 60) hI (vs := [(2, 60, 0, 0, 0), (0, 0, -2147483648, 2147483647, m1.toInt), (0, 0, -2147483648, 2147483647, m2.toInt)]) (xs := [.ref (A 60), .int m1, .int m2]) ⟨rfl, iv_i m1, iv_i m2, trivial⟩ (fun M hM => ms_of hM (fun _ _ hc => hc))) (fun _ _ h1 h2 => ⟨iv_rtI (j := 223) (Q := (5, 1, false, 0, 0, 12)) (by decide +kernel) (by decide) h2, h1⟩)
theorem hm_225 : iv_hm 225 [0] := by
  intro A h as hI hs
  obtain ⟨m1, ys, rfl, h1, hs⟩ := iv_spc hs
  obtain rfl := iv_sp0 hs
  exact g_run_rt (iv_callM (d := 60) hI (vs := [(2, 60, 0, 0, 0), (0, 0, -2147483648, 2147483647, m1.toInt)]) (xs := [.ref (A 60), .int m1]) ⟨rfl, iv_i m1, trivial⟩ (fun M hM => ms_turn hM (fun _ _ hc => xm_Inv_cor hc hM))) (fun _ _ h1 h2 => ⟨iv_rtI (j := 225) (Q := (3, 1, false, 0, 0, 12)) (by decide +kernel) (by decide) h2, h1⟩)
theorem hm_232 : iv_hm 232 [] := by
  intro A h as hI hs
  obtain rfl := iv_sp0 hs
  exact g_run_rt (iv_callM (d := 60) hI (vs := [(2, 60, 0, 0, 0)]) (xs := [.ref (A 60)]) ⟨rfl, trivial⟩ (fun M hM => ms_turning hM (fun _ _ hc => xm_Inv_cor hc hM))) (fun _ _ h1 h2 => ⟨iv_rtI (j := 232) (Q := (5, 1, false, 0, 0, 12)) (by decide +kernel) (by decide) h2, h1⟩)
theorem hm_233 : iv_hm 233 [] := by
  intro A h as hI hs
  obtain rfl := iv_sp0 hs
  exact g_run_rt (iv_callM (d := 60) hI (vs := [(2, 60, 0, 0, 0)]) (xs := [.ref (A 60)]) ⟨rfl, trivial⟩ (fun M hM => ms_jams hM (fun _ _ hc => xm_Inv_cor hc hM))) (fun _ _ h1 h2 => ⟨iv_rtI (j := 233) (Q := (5, 1, false, 0, 0, 12)) (by decide +kernel) (by decide) h2, h1⟩)
theorem hm_234 : iv_hm 234 [0] := by
  intro A h as hI hs
  obtain ⟨m1, ys, rfl, h1, hs⟩ := iv_spc hs
  obtain rfl := iv_sp0 hs
  exact g_run_rt (iv_callM (d := 60) hI (vs := [(2, 60, 0, 0, 0), (0, 0, -2147483648, 2147483647, m1.toInt)]) (xs := [.ref (A 60), .int m1]) ⟨rfl, iv_i m1, trivial⟩ (fun M hM => ms_gives hM (fun _ _ hc => xm_Inv_cor hc hM))) (fun _ _ h1 h2 => ⟨iv_rtI (j := 234) (Q := (6, 1, false, 0, 0, 12)) (by decide +kernel) (by decide) h2, h1⟩)
theorem hm_272 : iv_hm 272 [0, 0] := by
  intro A h as hI hs
  obtain ⟨m1, ys, rfl, h1, hs⟩ := iv_spc hs
  obtain ⟨m2, ys, rfl, h2, hs⟩ := iv_spc hs
  obtain rfl := iv_sp0 hs
  exact g_run_rt (iv_callM (d := 60) hI (vs := [(2, 60, 0, 0, 0), (0, 0, -2147483648, 2147483647, m1.toInt), (0, 0, -2147483648, 2147483647, m2.toInt)]) (xs := [.ref (A 60), .int m1, .int m2]) ⟨rfl, iv_i m1, iv_i m2, trivial⟩ (fun M hM => ms_show hM (fun _ _ hc => xm_Inv_cor hc hM))) (fun _ _ h1 h2 => ⟨iv_rtI (j := 272) (Q := (4, 1, false, 0, 0, 12)) (by decide +kernel) (by decide) h2, h1⟩)
theorem hm_274 : iv_hm 274 [0, 0] := by
  intro A h as hI hs
  obtain ⟨m1, ys, rfl, h1, hs⟩ := iv_spc hs
  obtain ⟨m2, ys, rfl, h2, hs⟩ := iv_spc hs
  obtain rfl := iv_sp0 hs
  exact g_run_rt (iv_callM (d := 60) hI (vs := [(2, 60, 0, 0, 0), (0, 0, -2147483648, 2147483647, m1.toInt), (0, 0, -2147483648, 2147483647, m2.toInt)]) (xs := [.ref (A 60), .int m1, .int m2]) ⟨rfl, iv_i m1, iv_i m2, trivial⟩ (fun M hM => ms_together hM (fun _ _ hc => xm_Inv_cor hc hM))) (fun _ _ h1 h2 => ⟨iv_rtI (j := 274) (Q := (10, 1, false, 0, 0, 12)) (by decide +kernel) (by decide) h2, h1⟩)
theorem hm_235 : iv_hm 235 [0] := by
  intro A h as hI hs
  obtain ⟨m1, ys, rfl, h1, hs⟩ := iv_spc hs
  obtain rfl := iv_sp0 hs
  exact g_run_rt (iv_callM (d := 60) hI (vs := [(2, 60, 0, 0, 0), (0, 0, -2147483648, 2147483647, m1.toInt)]) (xs := [.ref (A 60), .int m1]) ⟨rfl, iv_i m1, trivial⟩ (fun M hM => ms_way hM (fun _ _ hc => xm_Inv_cor hc hM))) (fun _ _ h1 h2 => ⟨iv_rtI (j := 235) (Q := (3, 1, false, 0, 0, 12)) (by decide +kernel) (by decide) h2, h1⟩)
theorem hm_237 : iv_hm 237 [0, 0] := by
  intro A h as hI hs
  obtain ⟨m1, ys, rfl, h1, hs⟩ := iv_spc hs
  obtain ⟨m2, ys, rfl, h2, hs⟩ := iv_spc hs
  obtain rfl := iv_sp0 hs
  exact g_run_rt (iv_callM (d := 60) hI (vs := [(2, 60, 0, 0, 0), (0, 0, -2147483648, 2147483647, m1.toInt), (0, 0, -2147483648, 2147483647, m2.toInt)]) (xs := [.ref (A 60), .int m1, .int m2]) ⟨rfl, iv_i m1, iv_i m2, trivial⟩ (fun M hM => ms_fittings xm_fd_ok hM (fun _ _ hc => xm_Inv_cor hc hM))) (fun _ _ h1 h2 => ⟨iv_rtI (j := 237) (Q := (6, 1, false, 0, 0, 12)) (by decide +kernel) (by decide) h2, h1⟩)
theorem hm_244 : iv_hm 244 [0, 0, 0] := by
  intro A h as hI hs
  obtain ⟨m1, ys, rfl, h1, hs⟩ := iv_spc hs
  obtain ⟨m2, ys, rfl, h2, hs⟩ := iv_spc hs
  obtain ⟨m3, ys, rfl, h3, hs⟩ := iv_spc hs
  obtain rfl := iv_sp0 hs
  exact g_run_rt (iv_callM (d := 60) hI (vs := [(2, 60, 0, 0, 0), (0, 0, -2147483648, 2147483647, m1.toInt), (0, 0, -2147483648, 2147483647, m2.toInt), (0, 0, -2147483648, 2147483647, m3.toInt)]) (xs := [.ref (A 60), .int m1, .int m2, .int m3]) ⟨rfl, iv_i m1, iv_i m2, iv_i m3, trivial⟩ (fun M hM => ms_fit xm_fd_ok hM (fun _ _ hc => hc))) (fun _ _ h1 h2 => ⟨iv_rtI (j := 244) (Q := (6, 2, false, 0, 0, 12)) (by decide +kernel) (by decide) h2, h1⟩)
theorem hm_245 : iv_hm 245 [0, 0, 0] := by
  intro A h as hI hs
  obtain ⟨m1, ys, rfl, h1, hs⟩ := iv_spc hs
  obtain ⟨m2, ys, rfl, h2, hs⟩ := iv_spc hs
  obtain ⟨m3, ys, rfl, h3, hs⟩ := iv_spc hs
  obtain rfl := iv_sp0 hs
  exact g_run_rt (iv_callM (d := 60) hI (vs := [(2, 60, 0, 0, 0), (0, 0, -2147483648, 2147483647, m1.toInt), (0, 0, -2147483648, 2147483647, m2.toInt), (0, 0, -2147483648, 2147483647, m3.toInt)]) (xs := [.ref (A 60), .int m1, .int m2, .int m3]) ⟨rfl, iv_i m1, iv_i m2, iv_i m3, trivial⟩ (fun M hM => ms_sure xm_fd_ok hM (fun _ _ hc => xm_Inv_cor hc hM))) (fun _ _ h1 h2 => ⟨iv_rtI (j := 245) (Q := (10, 1, false, 0, 0, 12)) (by decide +kernel) (by decide) h2, h1⟩)
theorem hm_247 : iv_hm 247 [0] := by
  intro A h as hI hs
  obtain ⟨m1, ys, rfl, h1, hs⟩ := iv_spc hs
  obtain rfl := iv_sp0 hs
  exact g_run_rt (iv_callM (d := 60) hI (vs := [(2, 60, 0, 0, 0), (0, 0, -2147483648, 2147483647, m1.toInt)]) (xs := [.ref (A 60), .int m1]) ⟨rfl, iv_i m1, trivial⟩ (fun M hM => ms_may xm_fd_ok hM (fun _ _ hc => xm_Inv_cor hc hM))) (fun _ _ h1 h2 => ⟨iv_rtI (j := 247) (Q := (4, 1, false, 0, 0, 12)) (by decide +kernel) (by decide) h2, h1⟩)
theorem hm_249 : iv_hm 249 [0, 0] := by
  intro A h as hI hs
  obtain ⟨m1, ys, rfl, h1, hs⟩ := iv_spc hs
  obtain ⟨m2, ys, rfl, h2, hs⟩ := iv_spc hs
  obtain rfl := iv_sp0 hs
  exact g_run_rt (iv_callM (d := 60) hI (vs := [(2, 60, 0, 0, 0), (0, 0, -2147483648, 2147483647, m1.toInt), (0, 0, -2147483648, 2147483647, m2.toInt)]) (xs := [.ref (A 60), .int m1, .int m2]) ⟨rfl, iv_i m1, iv_i m2, trivial⟩ (fun M hM => ms_next xm_fd_ok hM (fun _ _ hc => xm_Inv_cor hc hM))) (fun _ _ h1 h2 => ⟨iv_rtI (j := 249) (Q := (9, 1, false, 0, 0, 12)) (by decide +kernel) (by decide) h2, h1⟩)
theorem hm_250 : iv_hm 250 [0] := by
  intro A h as hI hs
  obtain ⟨m1, ys, rfl, h1, hs⟩ := iv_spc hs
  obtain rfl := iv_sp0 hs
  exact g_run_rt (iv_callM (d := 60) hI (vs := [(2, 60, 0, 0, 0), (0, 0, -2147483648, 2147483647, m1.toInt)]) (xs := [.ref (A 60), .int m1]) ⟨rfl, iv_i m1, trivial⟩ (fun M hM => ms_sign hM (fun _ _ hc => hc))) (fun _ _ h1 h2 => ⟨iv_rtI (j := 250) (Q := (3, 1, false, 0, 0, 12)) (by decide +kernel) (by decide) h2, h1⟩)
theorem hm_251 : iv_hm 251 [0] := by
  intro A h as hI hs
  obtain ⟨m1, ys, rfl, h1, hs⟩ := iv_spc hs
  obtain rfl := iv_sp0 hs
  exact g_run_rt (iv_callM (d := 60) hI (vs := [(2, 60, 0, 0, 0), (0, 0, -2147483648, 2147483647, m1.toInt)]) (xs := [.ref (A 60), .int m1]) ⟨rfl, iv_i m1, trivial⟩ (fun M hM => ms_end hM (fun _ _ hc => hc))) (fun _ _ h1 h2 => ⟨iv_rtI (j := 251) (Q := (2, 2, false, 0, 0, 12)) (by decide +kernel) (by decide) h2, h1⟩)
theorem hm_252 : iv_hm 252 [] := by
  intro A h as hI hs
  obtain rfl := iv_sp0 hs
  exact g_run_rt (iv_callM (d := 60) hI (vs := [(2, 60, 0, 0, 0)]) (xs := [.ref (A 60)]) ⟨rfl, trivial⟩ (fun M hM => ms_book hM (fun _ _ hc => hc))) (fun _ _ h1 h2 => ⟨iv_rtI (j := 252) (Q := (4, 1, false, 0, 0, 12)) (by decide +kernel) (by decide) h2, h1⟩)
theorem hm_256 : iv_hm 256 [0, 0] := by
  intro A h as hI hs
  obtain ⟨m1, ys, rfl, h1, hs⟩ := iv_spc hs
  obtain ⟨m2, ys, rfl, h2, hs⟩ := iv_spc hs
  obtain rfl := iv_sp0 hs
  exact g_run_rt (iv_callM (d := 60) hI (vs := [(2, 60, 0, 0, 0), (0, 0, -2147483648, 2147483647, m1.toInt), (0, 0, -2147483648, 2147483647, m2.toInt)]) (xs := [.ref (A 60), .int m1, .int m2]) ⟨rfl, iv_i m1, iv_i m2, trivial⟩ (fun M hM => ms_shop hM (fun _ _ hc => hc))) (fun _ _ h1 h2 => ⟨iv_rtI (j := 256) (Q := (3, 2, false, 0, 0, 12)) (by decide +kernel) (by decide) h2, h1⟩)
theorem hm_257 : iv_hm 257 [0, 0] := by
  intro A h as hI hs
  obtain ⟨m1, ys, rfl, h1, hs⟩ := iv_spc hs
  obtain ⟨m2, ys, rfl, h2, hs⟩ := iv_spc hs
  obtain rfl := iv_sp0 hs
  exact g_run_rt (iv_callM (d := 60) hI (vs := [(2, 60, 0, 0, 0), (0, 0, -2147483648, 2147483647, m1.toInt), (0, 0, -2147483648, 2147483647, m2.toInt)]) (xs := [.ref (A 60), .int m1, .int m2]) ⟨rfl, iv_i m1, iv_i m2, trivial⟩ (fun M hM => ms_trains hM (fun _ _ hc => xm_Inv_cor hc hM))) (fun _ _ h1 h2 => ⟨iv_rtI (j := 257) (Q := (10, 1, false, 0, 0, 12)) (by decide +kernel) (by decide) h2, h1⟩)
theorem hm_259 : iv_hm 259 [0] := by
  intro A h as hI hs
  obtain ⟨m1, ys, rfl, h1, hs⟩ := iv_spc hs
  obtain rfl := iv_sp0 hs
  exact g_run_rt (iv_callM (d := 60) hI (vs := [(2, 60, 0, 0, 0), (0, 0, -2147483648, 2147483647, m1.toInt)]) (xs := [.ref (A 60), .int m1]) ⟨rfl, iv_i m1, trivial⟩ (fun M hM => ms_nearest hM (fun _ _ hc => xm_Inv_cor hc hM))) (fun _ _ h1 h2 => ⟨iv_rtI (j := 259) (Q := (10, 1, false, 0, 0, 12)) (by decide +kernel) (by decide) h2, h1⟩)
theorem hm_261 : iv_hm 261 [0] := by
  intro A h as hI hs
  obtain ⟨m1, ys, rfl, h1, hs⟩ := iv_spc hs
  obtain rfl := iv_sp0 hs
  exact g_run_rt (iv_callM (d := 60) hI (vs := [(2, 60, 0, 0, 0), (0, 0, -2147483648, 2147483647, m1.toInt)]) (xs := [.ref (A 60), .int m1]) ⟨rfl, iv_i m1, trivial⟩ (fun M hM => ms_common hM (fun _ _ hc => xm_Inv_cor hc hM))) (fun _ _ h1 h2 => ⟨iv_rtI (j := 261) (Q := (6, 1, false, 0, 0, 12)) (by decide +kernel) (by decide) h2, h1⟩)
theorem hm_262 : iv_hm 262 [0, 0, 0] := by
  intro A h as hI hs
  obtain ⟨m1, ys, rfl, h1, hs⟩ := iv_spc hs
  obtain ⟨m2, ys, rfl, h2, hs⟩ := iv_spc hs
  obtain ⟨m3, ys, rfl, h3, hs⟩ := iv_spc hs
  obtain rfl := iv_sp0 hs
  exact g_run_rt (iv_callM (d := 60) hI (vs := [(2, 60, 0, 0, 0), (0, 0, -2147483648, 2147483647, m1.toInt), (0, 0, -2147483648, 2147483647, m2.toInt), (0, 0, -2147483648, 2147483647, m3.toInt)]) (xs := [.ref (A 60), .int m1, .int m2, .int m3]) ⟨rfl, iv_i m1, iv_i m2, iv_i m3, trivial⟩ (fun M hM => ms_axle hM (fun _ _ hc => hc))) (fun _ _ h1 h2 => ⟨iv_rtI (j := 262) (Q := (4, 2, false, 0, 0, 12)) (by decide +kernel) (by decide) h2, h1⟩)
theorem hm_263 : iv_hm 263 [0] := by
  intro A h as hI hs
  obtain ⟨m1, ys, rfl, h1, hs⟩ := iv_spc hs
  obtain rfl := iv_sp0 hs
  exact g_run_rt (iv_callM (d := 60) hI (vs := [(2, 60, 0, 0, 0), (0, 0, -2147483648, 2147483647, m1.toInt)]) (xs := [.ref (A 60), .int m1]) ⟨rfl, iv_i m1, trivial⟩ (fun M hM => ms_room hM (fun _ _ hc => xm_Inv_cor hc hM))) (fun _ _ h1 h2 => ⟨iv_rtI (j := 263) (Q := (16, 1, false, 0, 0, 12)) (by decide +kernel) (by decide) h2, h1⟩)
theorem hm_266 : iv_hm 266 [] := by
  intro A h as hI hs
  obtain rfl := iv_sp0 hs
  exact g_run_rt (iv_callM (d := 60) hI (vs := [(2, 60, 0, 0, 0)]) (xs := [.ref (A 60)]) ⟨rfl, trivial⟩ (fun M hM => ms_pierced hM (fun _ _ hc => xm_Inv_cor hc hM))) (fun _ _ h1 h2 => ⟨iv_rtI (j := 266) (Q := (6, 1, false, 0, 0, 12)) (by decide +kernel) (by decide) h2, h1⟩)
theorem hm_267 : iv_hm 267 [] := by
  intro A h as hI hs
  obtain rfl := iv_sp0 hs
  exact g_run_rt (iv_callM (d := 60) hI (vs := [(2, 60, 0, 0, 0)]) (xs := [.ref (A 60)]) ⟨rfl, trivial⟩ (fun M hM => ms_depths hM (fun _ _ hc => xm_Inv_cor hc hM))) (fun _ _ h1 h2 => ⟨iv_rtI (j := 267) (Q := (4, 1, false, 0, 0, 12)) (by decide +kernel) (by decide) h2, h1⟩)
theorem hm_270 : iv_hm 270 [0, 0, 0, 0] := by
  intro A h as hI hs
  obtain ⟨m1, ys, rfl, h1, hs⟩ := iv_spc hs
  obtain ⟨m2, ys, rfl, h2, hs⟩ := iv_spc hs
  obtain ⟨m3, ys, rfl, h3, hs⟩ := iv_spc hs
  obtain ⟨m4, ys, rfl, h4, hs⟩ := iv_spc hs
  obtain rfl := iv_sp0 hs
  exact g_run_rt (iv_callM (d := 60) hI (vs := [(2, 60, 0, 0, 0), (0, 0, -2147483648, 2147483647, m1.toInt), (0, 0, -2147483648, 2147483647, m2.toInt), (0, 0, -2147483648, 2147483647, m3.toInt), (0, 0, -2147483648, 2147483647, m4.toInt)]) (xs := [.ref (A 60), .int m1, .int m2, .int m3, .int m4]) ⟨rfl, iv_i m1, iv_i m2, iv_i m3, iv_i m4, trivial⟩ (fun M hM => ms_slot hM (fun _ _ hc => xm_Inv_cor hc hM))) (fun _ _ h1 h2 => ⟨iv_rtI (j := 270) (Q := (9, 1, false, 0, 0, 12)) (by decide +kernel) (by decide) h2, h1⟩)
theorem hm_271 : iv_hm 271 [0, 0] := by
  intro A h as hI hs
  obtain ⟨m1, ys, rfl, h1, hs⟩ := iv_spc hs
  obtain ⟨m2, ys, rfl, h2, hs⟩ := iv_spc hs
  obtain rfl := iv_sp0 hs
  exact g_run_rt (iv_callM (d := 60) hI (vs := [(2, 60, 0, 0, 0), (0, 0, -2147483648, 2147483647, m1.toInt), (0, 0, -2147483648, 2147483647, m2.toInt)]) (xs := [.ref (A 60), .int m1, .int m2]) ⟨rfl, iv_i m1, iv_i m2, trivial⟩ (fun M hM => ms_uneven hM (fun _ _ hc => hc))) (fun _ _ h1 h2 => ⟨iv_rtI (j := 271) (Q := (9, 1, false, 0, 0, 12)) (by decide +kernel) (by decide) h2, h1⟩)
theorem hm_275 : iv_hm 275 [0, 0, 0] := by
  intro A h as hI hs
  obtain ⟨m1, ys, rfl, h1, hs⟩ := iv_spc hs
  obtain ⟨m2, ys, rfl, h2, hs⟩ := iv_spc hs
  obtain ⟨m3, ys, rfl, h3, hs⟩ := iv_spc hs
  obtain rfl := iv_sp0 hs
  exact g_run_rt (iv_callM (d := 60) hI (vs := [(2, 60, 0, 0, 0), (0, 0, -2147483648, 2147483647, m1.toInt), (0, 0, -2147483648, 2147483647, m2.toInt), (0, 0, -2147483648, 2147483647, m3.toInt)]) (xs := [.ref (A 60), .int m1, .int m2, .int m3]) ⟨rfl, iv_i m1, iv_i m2, iv_i m3, trivial⟩ (fun M hM => ms_near hM (fun _ _ hc => xm_Inv_cor hc hM))) (fun _ _ h1 h2 => ⟨iv_rtI (j := 275) (Q := (5, 1, false, 0, 0, 12)) (by decide +kernel) (by decide) h2, h1⟩)
theorem hm_277 : iv_hm 277 [0, 0, 0] := by
  intro A h as hI hs
  obtain ⟨m1, ys, rfl, h1, hs⟩ := iv_spc hs
  obtain ⟨m2, ys, rfl, h2, hs⟩ := iv_spc hs
  obtain ⟨m3, ys, rfl, h3, hs⟩ := iv_spc hs
  obtain rfl := iv_sp0 hs
  exact g_run_rt (iv_callM (d := 60) hI (vs := [(2, 60, 0, 0, 0), (0, 0, -2147483648, 2147483647, m1.toInt), (0, 0, -2147483648, 2147483647, m2.toInt), (0, 0, -2147483648, 2147483647, m3.toInt)]) (xs := [.ref (A 60), .int m1, .int m2, .int m3]) ⟨rfl, iv_i m1, iv_i m2, iv_i m3, trivial⟩ (fun M hM => ms_off hM (fun _ _ hc => xm_Inv_cor hc hM))) (fun _ _ h1 h2 => ⟨iv_rtI (j := 277) (Q := (6, 1, false, 0, 0, 12)) (by decide +kernel) (by decide) h2, h1⟩)
theorem hm_278 : iv_hm 278 [0] := by
  intro A h as hI hs
  obtain ⟨m1, ys, rfl, h1, hs⟩ := iv_spc hs
  obtain rfl := iv_sp0 hs
  exact g_run_rt (iv_callM (d := 60) hI (vs := [(2, 60, 0, 0, 0), (0, 0, -2147483648, 2147483647, m1.toInt)]) (xs := [.ref (A 60), .int m1]) ⟨rfl, iv_i m1, trivial⟩ (fun M hM => ms_meets hM (fun _ _ hc => xm_Inv_cor hc hM))) (fun _ _ h1 h2 => ⟨iv_rtI (j := 278) (Q := (7, 1, false, 0, 0, 12)) (by decide +kernel) (by decide) h2, h1⟩)
theorem hm_279 : iv_hm 279 [0] := by
  intro A h as hI hs
  obtain ⟨m1, ys, rfl, h1, hs⟩ := iv_spc hs
  obtain rfl := iv_sp0 hs
  exact g_run_rt (iv_callM (d := 60) hI (vs := [(2, 60, 0, 0, 0), (0, 0, -2147483648, 2147483647, m1.toInt)]) (xs := [.ref (A 60), .int m1]) ⟨rfl, iv_i m1, trivial⟩ (fun M hM => ms_word hM (fun _ _ hc => hc))) (fun _ _ h1 h2 => ⟨iv_rtI (j := 279) (Q := (6, 1, false, 0, 0, 12)) (by decide +kernel) (by decide) h2, h1⟩)
theorem hm_281 : iv_hm 281 [] := by
  intro A h as hI hs
  obtain rfl := iv_sp0 hs
  exact g_run_rt (iv_callM (d := 60) hI (vs := [(2, 60, 0, 0, 0)]) (xs := [.ref (A 60)]) ⟨rfl, trivial⟩ (fun M hM => ms_names hM (fun _ _ hc => hc))) (fun _ _ h1 h2 => ⟨iv_rtI (j := 281) (Q := (3, 1, false, 0, 0, 12)) (by decide +kernel) (by decide) h2, h1⟩)
theorem hm_283 : iv_hm 283 [0, 1] := by
  intro A h as hI hs
  obtain ⟨m1, ys, rfl, h1, hs⟩ := iv_spc hs
  obtain ⟨m2, ys, rfl, h2, hs⟩ := iv_spc hs
  obtain rfl := iv_sp0 hs
  exact g_run_rt (iv_callM (d := 60) hI (vs := [(2, 60, 0, 0, 0), (0, 0, -2147483648, 2147483647, m1.toInt), (0, 0, -2147483648, 2147483647, m2.toInt)]) (xs := [.ref (A 60), .int m1, .int m2]) ⟨rfl, iv_i m1, iv_i m2, trivial⟩ (fun M hM => ms_dial (by have := h2 rfl; omega) hM (fun _ _ hc => hc))) (fun _ _ h1 h2 => ⟨iv_rtI (j := 283) (Q := (3, 1, false, 0, 0, 12)) (by decide +kernel) (by decide) h2, h1⟩)
theorem hm_284 : iv_hm 284 [0, 1] := by
  intro A h as hI hs
  obtain ⟨m1, ys, rfl, h1, hs⟩ := iv_spc hs
  obtain ⟨m2, ys, rfl, h2, hs⟩ := iv_spc hs
  obtain rfl := iv_sp0 hs
  exact g_run_rt (iv_callM (d := 60) hI (vs := [(2, 60, 0, 0, 0), (0, 0, -2147483648, 2147483647, m1.toInt), (0, 0, -2147483648, 2147483647, m2.toInt)]) (xs := [.ref (A 60), .int m1, .int m2]) ⟨rfl, iv_i m1, iv_i m2, trivial⟩ (fun M hM => ms_seen (by have := h2 rfl; omega) hM (fun _ _ hc => hc))) (fun _ _ h1 h2 => ⟨iv_rtI (j := 284) (Q := (3, 1, false, 0, 0, 12)) (by decide +kernel) (by decide) h2, h1⟩)
theorem hm_285 : iv_hm 285 [0] := by
  intro A h as hI hs
  obtain ⟨m1, ys, rfl, h1, hs⟩ := iv_spc hs
  obtain rfl := iv_sp0 hs
  exact g_run_rt (iv_callM (d := 60) hI (vs := [(2, 60, 0, 0, 0), (0, 0, -2147483648, 2147483647, m1.toInt)]) (xs := [.ref (A 60), .int m1]) ⟨rfl, iv_i m1, trivial⟩ (fun M hM => ms_games hM (fun _ _ hc => hc))) (fun _ _ h1 h2 => ⟨iv_rtI (j := 285) (Q := (2, 1, false, 0, 0, 12)) (by decide +kernel) (by decide) h2, h1⟩)
theorem hm_286 : iv_hm 286 [] := by
  intro A h as hI hs
  obtain rfl := iv_sp0 hs
  exact g_run_rt (iv_callM (d := 60) hI (vs := [(2, 60, 0, 0, 0)]) (xs := [.ref (A 60)]) ⟨rfl, trivial⟩ (fun M hM => ms_when hM (fun _ _ hc => xm_Inv_cor hc hM))) (fun _ _ h1 h2 => ⟨iv_rtI (j := 286) (Q := (3, 1, false, 0, 0, 12)) (by decide +kernel) (by decide) h2, h1⟩)
theorem hm_288 : iv_hm 288 [] := by
  intro A h as hI hs
  obtain rfl := iv_sp0 hs
  exact g_run_rt (iv_callM (d := 60) hI (vs := [(2, 60, 0, 0, 0)]) (xs := [.ref (A 60)]) ⟨rfl, trivial⟩ (fun M hM => ms_wrong hM (fun _ _ hc => hc))) (fun _ _ h1 h2 => ⟨iv_rtI (j := 288) (Q := (3, 1, false, 0, 0, 12)) (by decide +kernel) (by decide) h2, h1⟩)
theorem hm_289 : iv_hm 289 [] := by
  intro A h as hI hs
  obtain rfl := iv_sp0 hs
  exact g_run_rt (iv_callM (d := 60) hI (vs := [(2, 60, 0, 0, 0)]) (xs := [.ref (A 60)]) ⟨rfl, trivial⟩ (fun M hM => ms_year hM (fun _ _ hc => hc))) (fun _ _ h1 h2 => ⟨iv_rtI (j := 289) (Q := (3, 1, false, 0, 0, 12)) (by decide +kernel) (by decide) h2, h1⟩)
theorem hm_290 : iv_hm 290 [0, 0, 0, 0] := by
  intro A h as hI hs
  obtain ⟨m1, ys, rfl, h1, hs⟩ := iv_spc hs
  obtain ⟨m2, ys, rfl, h2, hs⟩ := iv_spc hs
  obtain ⟨m3, ys, rfl, h3, hs⟩ := iv_spc hs
  obtain ⟨m4, ys, rfl, h4, hs⟩ := iv_spc hs
  obtain rfl := iv_sp0 hs
  exact g_run_rt (iv_callM (d := 60) hI (vs := [(2, 60, 0, 0, 0), (0, 0, -2147483648, 2147483647, m1.toInt), (0, 0, -2147483648, 2147483647, m2.toInt), (0, 0, -2147483648, 2147483647, m3.toInt), (0, 0, -2147483648, 2147483647, m4.toInt)]) (xs := [.ref (A 60), .int m1, .int m2, .int m3, .int m4]) ⟨rfl, iv_i m1, iv_i m2, iv_i m3, iv_i m4, trivial⟩ (fun M hM => ms_left hM (fun _ _ hc => hc))) (fun _ _ h1 h2 => ⟨iv_rtI (j := 290) (Q := (5, 1, false, 0, 0, 12)) (by decide +kernel) (by decide) h2, h1⟩)
theorem hm_291 : iv_hm 291 [] := by
  intro A h as hI hs
  obtain rfl := iv_sp0 hs
  exact g_run_rt (iv_callM (d := 60) hI (vs := [(2, 60, 0, 0, 0)]) (xs := [.ref (A 60)]) ⟨rfl, trivial⟩ (fun M hM => ms_breaks hM (fun _ _ hc => xm_Inv_cor hc hM))) (fun _ _ h1 h2 => ⟨iv_rtI (j := 291) (Q := (8, 1, false, 0, 0, 12)) (by decide +kernel) (by decide) h2, h1⟩)
theorem hm_293 : iv_hm 293 [0] := by
  intro A h as hI hs
  obtain ⟨m1, ys, rfl, h1, hs⟩ := iv_spc hs
  obtain rfl := iv_sp0 hs
  exact g_run_rt (iv_callM (d := 60) hI (vs := [(2, 60, 0, 0, 0), (0, 0, -2147483648, 2147483647, m1.toInt)]) (xs := [.ref (A 60), .int m1]) ⟨rfl, iv_i m1, trivial⟩ (fun M hM => ms_keep hM (fun _ _ hc => hc))) (fun _ _ h1 h2 => ⟨iv_rtI (j := 293) (Q := (3, 2, false, 0, 0, 12)) (by decide +kernel) (by decide) h2, h1⟩)
theorem hm_295 : iv_hm 295 [0] := by
  intro A h as hI hs
  obtain ⟨m1, ys, rfl, h1, hs⟩ := iv_spc hs
  obtain rfl := iv_sp0 hs
  exact g_run_rt (iv_callM (d := 60) hI (vs := [(2, 60, 0, 0, 0), (0, 0, -2147483648, 2147483647, m1.toInt)]) (xs := [.ref (A 60), .int m1]) ⟨rfl, iv_i m1, trivial⟩ (fun M hM => ms_again hM (fun _ _ hc => hc))) (fun _ _ h1 h2 => ⟨iv_rtI (j := 295) (Q := (3, 2, false, 0, 0, 12)) (by decide +kernel) (by decide) h2, h1⟩)
theorem hm_297 : iv_hm 297 [0, 0] := by
  intro A h as hI hs
  obtain ⟨m1, ys, rfl, h1, hs⟩ := iv_spc hs
  obtain ⟨m2, ys, rfl, h2, hs⟩ := iv_spc hs
  obtain rfl := iv_sp0 hs
  exact g_run_rt (iv_callM (d := 60) hI (vs := [(2, 60, 0, 0, 0), (0, 0, -2147483648, 2147483647, m1.toInt), (0, 0, -2147483648, 2147483647, m2.toInt)]) (xs := [.ref (A 60), .int m1, .int m2]) ⟨rfl, iv_i m1, iv_i m2, trivial⟩ (fun M hM => ms_unlike hM (fun _ _ hc => xm_Inv_cor hc hM))) (fun _ _ h1 h2 => ⟨iv_rtI (j := 297) (Q := (9, 1, false, 0, 0, 12)) (by decide +kernel) (by decide) h2, h1⟩)
theorem hm_300 : iv_hm 300 [0] := by
  intro A h as hI hs
  obtain ⟨m1, ys, rfl, h1, hs⟩ := iv_spc hs
  obtain rfl := iv_sp0 hs
  exact g_run_rt (iv_callM (d := 60) hI (vs := [(2, 60, 0, 0, 0), (0, 0, -2147483648, 2147483647, m1.toInt)]) (xs := [.ref (A 60), .int m1]) ⟨rfl, iv_i m1, trivial⟩ (fun M hM => ms_count hM (fun _ _ hc => hc))) (fun _ _ h1 h2 => ⟨iv_rtI (j := 300) (Q := (2, 1, false, 0, 0, 12)) (by decide +kernel) (by decide) h2, h1⟩)
theorem ms_rowL {A : Nat → Nat} {h0 : g_H} {d : Nat} {M : xa_M} {post : Option xa_V → xa_M → Prop} {l1 u1 : Int} {a : Int} (hI : xm_Inv M) (k : ∀ (lo hi v : Int) (M1 : xa_M), xm_Inv M1 → post (some (1, 0, lo, hi, v)) M1) : xa_C xm_I A h0 (d + 2) 301 [(2, 60, 0, 0, 0), (0, 0, l1, u1, a)] M post := by
  refine xa_C_arg [(2, 60, 0, 0, 0), (0, 0, (-2147483648), 2147483647, a)] (xa_svR (xa_svI (fun _ _ _ _ => by omega) xa_sv0)) ?_
  refine xa_meth (Q0 := (2, 3, false, 0, 0, 12)) (by decide +kernel) ⟨rfl, rfl⟩ (full := s_c_301) rfl rfl ?_
  intro hM hv Q hgo
  have b20 := xm_f20 hM
  refine hgo.1 21 [] 0 _ _ _ ?_
  show xa_C xm_I A h0 _ 214 [(0, 0, (-2147483648), 2147483647, a), (0, 0, 0, 0, 0), (0, 0, (-1), 31, (M 60 20) - 1)] (xa_up M 60 21 0) _
  refine ct_in ?_ ?_
  · intro (i1 : 0 ≤ a ∧ a ≤ ((M 60 20) - 1))
    refine And.intro (show 0 ≤ a ∧ a < 32 by omega) ?_
    show post (some (1, 0, (-9223372036854775808), 9223372036854775807, M 74 a)) (xa_up M 60 21 0)
    exact k _ _ _ _ (xm_Inv_is (xm_is_u rfl xm_is_r) hI)
  · intro (i1 : ¬ (0 ≤ a ∧ a ≤ ((M 60 20) - 1)))
    show xa_C xm_I A h0 _ 224 [(2, 60, 0, 0, 0)] (xa_up M 60 21 0) _
    refine ct_lost ?_
    show post (some (1, 0, 0, 0, 0)) (xa_up (xa_up M 60 21 0) 60 21 1)
    exact k _ _ _ _ (xm_Inv_is (xm_is_u rfl (xm_is_u rfl xm_is_r)) hI)
theorem hm_301 : ∀ (A : Nat → Nat) (h : g_H) (as : List Value), iv_inv A h → iv_sp [0] as → g_run 60 301 (.ref (A 60) :: as) h 0 0 (fun r h' => (∃ y : Int64, r = some (.long y)) ∧ iv_inv A h') := by
  intro A h as hI hs
  obtain ⟨m1, ys, rfl, h1, hs⟩ := iv_spc hs
  obtain rfl := iv_sp0 hs
  · refine g_run_mono (iv_callM2 (d := 60) hI (vs := [(2, 60, 0, 0, 0), (0, 0, -2147483648, 2147483647, m1.toInt)]) (xs := [.ref (A 60), .int m1]) ⟨rfl, iv_i m1, trivial⟩ (fun o => ∃ lo hi v, o = some (1, 0, lo, hi, v)) (fun M hM => ms_rowL hM (fun lo hi v M1 h => ⟨⟨lo, hi, v, rfl⟩, h⟩))) (fun r h' hp => ⟨?_, hp.2⟩)
    obtain ⟨⟨o, ⟨lo, hi, v, rfl⟩, y, e, z, hz, -⟩, -⟩ := hp
    exact ⟨z, by rw [e, hz]⟩
