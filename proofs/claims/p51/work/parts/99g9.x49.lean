-- unlike: the call, the pair
set_option maxRecDepth 20000
set_option maxRecDepth 100000 in
theorem y_su_59 : (y_Kr 59 59 [(2, 10, 0, 0, 0, 0, 0)] []).isSome = true := by decide +kernel
set_option maxRecDepth 100000 in
theorem y_su_60 : (y_Kr 59 60 [(2, 10, 0, 0, 0, 0, 0), (1, (-9223372036854775808), 9223372036854775807, 0, 0, 0, 0)] []).isSome = true := by decide +kernel
set_option maxRecDepth 100000 in
theorem y_su_195 : (y_Kr 59 195 [(2, 9, 0, 0, 0, 0, 0), (2, 1, 0, 0, 0, 0, 0)] []).isSome = true := by decide +kernel
theorem un_pre {W W' : y_W} (h : W <+: W') {p : Nat} {x : Nat × Nat} (hp : W[p]? = some x) : W'[p]? = some x := by
  obtain ⟨t, rfl⟩ := h
  rw [List.getElem?_append_left (List.getElem?_eq_some_iff.mp hp).1]
  exact hp
/-- what a private call leaves -/
theorem un_call {A : Nat → Nat} {W : y_W} {b : Bool} {h : g_H} (hJ : iv_JW A W b h) {j : Nat} {vs : List y_V} {xs : List Value} (hj : f_T iv_B j = true) (hs : (y_Kr 59 j vs []).isSome = true) (hx : ∀ β : Nat → Int, y_gA W β vs xs) : g_run 59 j xs h 0 0 (fun _ h' => ∃ W', W <+: W' ∧ iv_JW A W' b h' ∧ ∀ M : xa_M, xa_H xm_I A M h h → xa_H xm_I A M h' h') :=
  f_run iv_T_ok _ _ _ _ _ _ _ _ hj (iv_callR y_Rr_ro (y_Kr_ok 59) hs hJ.1 hx) (fun r h' hp hF => by
    have hp2 := hp
    obtain ⟨_, _, _, _, km⟩ := hp2
    obtain ⟨W', hW, hJ'⟩ := iv_J_c hJ hp hF
    exact ⟨W', hW, hJ', km⟩)
theorem un_c0 {A : Nat → Nat} {W : y_W} {b : Bool} {h : g_H} (hJ : iv_JW A W b h) : ∃ f0, h[0]? = some (A 0, false, 11, 12, f0) ∧ f0 9 = .ref (A 48) ∧ f0 8 = .ref (A 43) ∧ (∃ f, h[48]? = some (A 48, false, 6, 2, f)) ∧ ∃ f, h[43]? = some (A 43, false, 5, 5, f) := by
  obtain ⟨f0, g0⟩ := iv_cell hJ.1 (q := 0) rfl rfl
  have e9 := hJ.2.1 0 _ _ rfl 9 (show 9 < 12 by decide) rfl
  have e8 := hJ.2.1 0 _ _ rfl 8 (show 8 < 12 by decide) rfl
  rw [iv_ctZ g0] at e9 e8
  exact ⟨f0, g0, e9, e8, iv_cell hJ.1 (q := 48) rfl rfl, iv_cell hJ.1 (q := 43) rfl rfl⟩
theorem un_l (β : Nat → Int) (W : y_W) (x : Int64) : y_g W β (1, (-9223372036854775808), 9223372036854775807, 0, 0, 0, 0) (.long x) := ⟨x, rfl, by have := Int64.le_toInt x; omega, by have := Int64.toInt_lt x; omega, fun e => absurd rfl e, fun e => absurd rfl e⟩
theorem iv_unlX {A : Nat → Nat} {W : y_W} {b : Bool} {h : g_H} {M : xa_M} (hJ : iv_JW A W b h) (hM : xa_H xm_I A M h h) (hInv : xm_Inv M) (m1 m2 : Int32) : g_run 60 205 [.ref (A 0), .int m1, .int m2] h 0 0 (fun r h1 => ∃ (v : Int32) (W1 : y_W), r = some (.int v) ∧ iv_JW A W1 b h1 ∧ xa_H xm_I A M h1 h1 ∧ un_A (iv_num h) m1.toInt m2.toInt v.toInt) := by
  obtain ⟨q1, q2, q3, q4, q5⟩ := s_mi_ok 205 (6, 1, false, 0, 0, 11) (by decide +kernel)
  obtain ⟨c1, c2⟩ := s_codes_ok 205 (6, 1, false, 0, 0, 11) (by decide +kernel)
  rw [show s_codes.getD 205 [] = s_c_205 from rfl] at c1 c2
  have q3 : g_rt 205 = some .int := q3
  refine ⟨q1, by rw [q2]; exact (show 3 ≤ 6 by decide), ?_⟩
  rw [q5, q2, q4]
  intro P hend hcl
  show P (0, [(0, .ref (A 0)), (1, .int m1), (2, .int m2)], [], 0, 0, h)
  have t204 : (g_me 204).2.1 = 11 := (s_mi_ok 204 _ (show s_mi[204]? = some (2, 4, false, 0, 0, 11) by decide +kernel)).2.2.2.2
  have t206 : (g_me 206).2.1 = 1 := (s_mi_ok 206 _ (show s_mi[206]? = some (5, 1, false, 0, 0, 1) by decide +kernel)).2.2.2.2
  have t59 : (g_me 59).2.1 = 6 := (s_mi_ok 59 _ (show s_mi[59]? = some (1, 0, false, 0, 0, 6) by decide +kernel)).2.2.2.2
  have t60 : (g_me 60).2.1 = 6 := (s_mi_ok 60 _ (show s_mi[60]? = some (3, 0, false, 0, 0, 6) by decide +kernel)).2.2.2.2
  have t195 : (g_me 195).2.1 = 5 := (s_mi_ok 195 _ (show s_mi[195]? = some (4, 1, false, 0, 0, 5) by decide +kernel)).2.2.2.2
  have r195 : g_rt 195 = some .int := (s_mi_ok 195 _ (show s_mi[195]? = some (4, 1, false, 0, 0, 5) by decide +kernel)).2.2.1
  have r59 : g_rt 59 = none := (s_mi_ok 59 _ (show s_mi[59]? = some (1, 0, false, 0, 0, 6) by decide +kernel)).2.2.1
  have r60 : g_rt 60 = none := (s_mi_ok 60 _ (show s_mi[60]? = some (3, 0, false, 0, 0, 6) by decide +kernel)).2.2.1
  have m0 : ((0 : Nat), Value.ref (A 0)) ∈ ([(0, .ref (A 0)), (1, .int m1), (2, .int m2)] : g_L) := List.mem_cons_self
  have m1' : ((1 : Nat), Value.int m1) ∈ ([(0, .ref (A 0)), (1, .int m1), (2, .int m2)] : g_L) := List.mem_cons_of_mem _ List.mem_cons_self
  have m2' : ((2 : Nat), Value.int m2) ∈ ([(0, .ref (A 0)), (1, .int m1), (2, .int m2)] : g_L) := List.mem_cons_of_mem _ (List.mem_cons_of_mem _ List.mem_cons_self)
  obtain ⟨f0, f11, hb⟩ := iv_b0_of hJ.1 hJ.2.1
  have none9 : ∀ Ls : g_L, ¬ ((0 ≤ m1.toInt ∧ m1.toInt < 4) ∧ (0 ≤ m2.toInt ∧ m2.toInt < 4) ∧ ¬ iv_num h 105 m1.toInt = 0 ∧ ¬ iv_num h 105 m2.toInt = 0) → P (22, Ls, [], 0, 0, h) := fun Ls hc => by
    refine ir_co hcl (iv_dec (c2 _ (iv_in (c := []) (pc := 22) rfl)) (by decide) (by decide)) rfl ?_
    exact hend _ ⟨Nat.le_refl _, Nat.le_refl _, Or.inl ⟨_, .int, iv_ireturn (c2 _ (iv_in (c := []) (pc := 23) rfl)), q3, rfl, rfl, _, W, rfl, hJ, hM, Or.inr ⟨hc, rfl⟩⟩⟩
  refine ir_ld hcl (iv_dec (c2 _ (iv_in (c := []) (pc := 0) rfl)) (by decide) (by decide)) rfl m0 rfl ?_
  refine ir_ld hcl (iv_dec (c2 _ (iv_in (c := []) (pc := 1) rfl)) (by decide) (by decide)) rfl m1' rfl ?_
  rcases iv_k_at hb hJ.2.2.2 (m := m1) with ⟨v1, z1⟩ | ⟨i1, p1, a1, hi1, hm1, v1, hk1, hc1⟩
  · refine iv_virt (as := [.int m1]) (rest := []) hcl (c2 _ (iv_in (c := []) (pc := 2) rfl)) (q := 0) (by rw [t204]; exact hb.1) rfl (show g_sum [] ≤ 8 by first | decide | exact (show (1 : Nat) ≤ 8 by decide)) (mc := 0) (ms := 0) (by decide) (by decide) (g_run_mono (iv_buildAt (d := 58) hb) (fun r h1 hq => ?_))
    obtain ⟨e1, e2⟩ := hq
    rw [e1, e2, v1]
    clear e1 e2 r h1
    show P (5, _, [Value.null], 0, 0, h)
    refine ir_st hcl (iv_dec (c2 _ (iv_in (c := []) (pc := 5) rfl)) (by decide) (by decide)) rfl rfl (by decide) ?_
    have k0 : ((0 : Nat), Value.ref (A 0)) ∈ g_st1 3 (Value.null) ([(0, .ref (A 0)), (1, .int m1), (2, .int m2)] : g_L) := iv_st2c m0 (by decide) rfl
    have k2 : ((2 : Nat), Value.int m2) ∈ g_st1 3 (Value.null) ([(0, .ref (A 0)), (1, .int m1), (2, .int m2)] : g_L) := iv_st2c m2' (by decide) rfl
    refine ir_ld hcl (iv_dec (c2 _ (iv_in (c := []) (pc := 6) rfl)) (by decide) (by decide)) rfl k0 rfl ?_
    refine ir_ld hcl (iv_dec (c2 _ (iv_in (c := []) (pc := 7) rfl)) (by decide) (by decide)) rfl k2 rfl ?_
    rcases iv_k_at hb hJ.2.2.2 (m := m2) with ⟨v2, z2⟩ | ⟨i2, p2, a2, hi2, hm2, v2, hk2, hc2⟩
    · refine iv_virt (as := [.int m2]) (rest := []) hcl (c2 _ (iv_in (c := []) (pc := 8) rfl)) (q := 0) (by rw [t204]; exact hb.1) rfl (show g_sum [] ≤ 8 by first | decide | exact (show (1 : Nat) ≤ 8 by decide)) (mc := 0) (ms := 0) (by decide) (by decide) (g_run_mono (iv_buildAt (d := 58) hb) (fun r h1 hq => ?_))
      obtain ⟨e1, e2⟩ := hq
      rw [e1, e2, v2]
      clear e1 e2 r h1
      show P (11, _, [Value.null], 0, 0, h)
      refine ir_st hcl (iv_dec (c2 _ (iv_in (c := []) (pc := 11) rfl)) (by decide) (by decide)) rfl rfl (by decide) ?_
      have n3 : ((3 : Nat), Value.null) ∈ g_st1 4 (Value.null) (g_st1 3 (Value.null) ([(0, .ref (A 0)), (1, .int m1), (2, .int m2)] : g_L)) := iv_st2c List.mem_cons_self (by decide) rfl
      have n4 : ((4 : Nat), Value.null) ∈ g_st1 4 (Value.null) (g_st1 3 (Value.null) ([(0, .ref (A 0)), (1, .int m1), (2, .int m2)] : g_L)) := List.mem_cons_self
      refine ir_ld hcl (iv_dec (c2 _ (iv_in (c := []) (pc := 13) rfl)) (by decide) (by decide)) rfl n3 rfl ?_
      refine ir_u0 hcl (iv_dec (c2 _ (iv_in (c := []) (pc := 14) rfl)) (by decide) (by decide)) 22 rfl rfl ?_
      exact none9 _ (fun h => h.2.2.1 (z1 h.1))
    · refine iv_virt (as := [.int m2]) (rest := []) hcl (c2 _ (iv_in (c := []) (pc := 8) rfl)) (q := 0) (by rw [t204]; exact hb.1) rfl (show g_sum [] ≤ 8 by first | decide | exact (show (1 : Nat) ≤ 8 by decide)) (mc := 0) (ms := 0) (by decide) (by decide) (g_run_mono (iv_buildAt (d := 58) hb) (fun r h1 hq => ?_))
      obtain ⟨e1, e2⟩ := hq
      rw [e1, e2, v2]
      clear e1 e2 r h1
      show P (11, _, [Value.ref a2], 0, 0, h)
      refine ir_st hcl (iv_dec (c2 _ (iv_in (c := []) (pc := 11) rfl)) (by decide) (by decide)) rfl rfl (by decide) ?_
      have n3 : ((3 : Nat), Value.null) ∈ g_st1 4 (Value.ref a2) (g_st1 3 (Value.null) ([(0, .ref (A 0)), (1, .int m1), (2, .int m2)] : g_L)) := iv_st2c List.mem_cons_self (by decide) rfl
      have n4 : ((4 : Nat), Value.ref a2) ∈ g_st1 4 (Value.ref a2) (g_st1 3 (Value.null) ([(0, .ref (A 0)), (1, .int m1), (2, .int m2)] : g_L)) := List.mem_cons_self
      refine ir_ld hcl (iv_dec (c2 _ (iv_in (c := []) (pc := 13) rfl)) (by decide) (by decide)) rfl n3 rfl ?_
      refine ir_u0 hcl (iv_dec (c2 _ (iv_in (c := []) (pc := 14) rfl)) (by decide) (by decide)) 22 rfl rfl ?_
      exact none9 _ (fun h => h.2.2.1 (z1 h.1))
  · refine iv_virt (as := [.int m1]) (rest := []) hcl (c2 _ (iv_in (c := []) (pc := 2) rfl)) (q := 0) (by rw [t204]; exact hb.1) rfl (show g_sum [] ≤ 8 by first | decide | exact (show (1 : Nat) ≤ 8 by decide)) (mc := 0) (ms := 0) (by decide) (by decide) (g_run_mono (iv_buildAt (d := 58) hb) (fun r h1 hq => ?_))
    obtain ⟨e1, e2⟩ := hq
    rw [e1, e2, v1]
    clear e1 e2 r h1
    show P (5, _, [Value.ref a1], 0, 0, h)
    refine ir_st hcl (iv_dec (c2 _ (iv_in (c := []) (pc := 5) rfl)) (by decide) (by decide)) rfl rfl (by decide) ?_
    have k0 : ((0 : Nat), Value.ref (A 0)) ∈ g_st1 3 (Value.ref a1) ([(0, .ref (A 0)), (1, .int m1), (2, .int m2)] : g_L) := iv_st2c m0 (by decide) rfl
    have k2 : ((2 : Nat), Value.int m2) ∈ g_st1 3 (Value.ref a1) ([(0, .ref (A 0)), (1, .int m1), (2, .int m2)] : g_L) := iv_st2c m2' (by decide) rfl
    refine ir_ld hcl (iv_dec (c2 _ (iv_in (c := []) (pc := 6) rfl)) (by decide) (by decide)) rfl k0 rfl ?_
    refine ir_ld hcl (iv_dec (c2 _ (iv_in (c := []) (pc := 7) rfl)) (by decide) (by decide)) rfl k2 rfl ?_
    rcases iv_k_at hb hJ.2.2.2 (m := m2) with ⟨v2, z2⟩ | ⟨i2, p2, a2, hi2, hm2, v2, hk2, hc2⟩
    · refine iv_virt (as := [.int m2]) (rest := []) hcl (c2 _ (iv_in (c := []) (pc := 8) rfl)) (q := 0) (by rw [t204]; exact hb.1) rfl (show g_sum [] ≤ 8 by first | decide | exact (show (1 : Nat) ≤ 8 by decide)) (mc := 0) (ms := 0) (by decide) (by decide) (g_run_mono (iv_buildAt (d := 58) hb) (fun r h1 hq => ?_))
      obtain ⟨e1, e2⟩ := hq
      rw [e1, e2, v2]
      clear e1 e2 r h1
      show P (11, _, [Value.null], 0, 0, h)
      refine ir_st hcl (iv_dec (c2 _ (iv_in (c := []) (pc := 11) rfl)) (by decide) (by decide)) rfl rfl (by decide) ?_
      have n3 : ((3 : Nat), Value.ref a1) ∈ g_st1 4 (Value.null) (g_st1 3 (Value.ref a1) ([(0, .ref (A 0)), (1, .int m1), (2, .int m2)] : g_L)) := iv_st2c List.mem_cons_self (by decide) rfl
      have n4 : ((4 : Nat), Value.null) ∈ g_st1 4 (Value.null) (g_st1 3 (Value.ref a1) ([(0, .ref (A 0)), (1, .int m1), (2, .int m2)] : g_L)) := List.mem_cons_self
      refine ir_ld hcl (iv_dec (c2 _ (iv_in (c := []) (pc := 13) rfl)) (by decide) (by decide)) rfl n3 rfl ?_
      refine ir_u1 hcl (iv_dec (c2 _ (iv_in (c := []) (pc := 14) rfl)) (by decide) (by decide)) 22 rfl rfl ?_
      refine ir_ld hcl (iv_dec (c2 _ (iv_in (c := []) (pc := 17) rfl)) (by decide) (by decide)) rfl n4 rfl ?_
      refine ir_n0 hcl (iv_dec (c2 _ (iv_in (c := []) (pc := 19) rfl)) (by decide) (by decide)) 24 rfl rfl ?_
      exact none9 _ (fun h => h.2.2.2 (z2 h.2.1))
    · refine iv_virt (as := [.int m2]) (rest := []) hcl (c2 _ (iv_in (c := []) (pc := 8) rfl)) (q := 0) (by rw [t204]; exact hb.1) rfl (show g_sum [] ≤ 8 by first | decide | exact (show (1 : Nat) ≤ 8 by decide)) (mc := 0) (ms := 0) (by decide) (by decide) (g_run_mono (iv_buildAt (d := 58) hb) (fun r h1 hq => ?_))
      obtain ⟨e1, e2⟩ := hq
      rw [e1, e2, v2]
      clear e1 e2 r h1
      show P (11, _, [Value.ref a2], 0, 0, h)
      refine ir_st hcl (iv_dec (c2 _ (iv_in (c := []) (pc := 11) rfl)) (by decide) (by decide)) rfl rfl (by decide) ?_
      have n3 : ((3 : Nat), Value.ref a1) ∈ g_st1 4 (Value.ref a2) (g_st1 3 (Value.ref a1) ([(0, .ref (A 0)), (1, .int m1), (2, .int m2)] : g_L)) := iv_st2c List.mem_cons_self (by decide) rfl
      have n4 : ((4 : Nat), Value.ref a2) ∈ g_st1 4 (Value.ref a2) (g_st1 3 (Value.ref a1) ([(0, .ref (A 0)), (1, .int m1), (2, .int m2)] : g_L)) := List.mem_cons_self
      refine ir_ld hcl (iv_dec (c2 _ (iv_in (c := []) (pc := 13) rfl)) (by decide) (by decide)) rfl n3 rfl ?_
      refine ir_u1 hcl (iv_dec (c2 _ (iv_in (c := []) (pc := 14) rfl)) (by decide) (by decide)) 22 rfl rfl ?_
      refine ir_ld hcl (iv_dec (c2 _ (iv_in (c := []) (pc := 17) rfl)) (by decide) (by decide)) rfl n4 rfl ?_
      refine ir_n1 hcl (iv_dec (c2 _ (iv_in (c := []) (pc := 19) rfl)) (by decide) (by decide)) 24 rfl rfl ?_
      obtain ⟨A1, ad1, f1, F1, q11, q21, q31, q41, bd1, q51, bc1⟩ := hk1
      have ea1 : A1 = a1 := Value.ref.inj (q41.symm.trans hc1)
      rw [ea1] at q21 bd1
      have bi1 := iv_bints hJ.1 ⟨q21, q31⟩ bd1
      obtain ⟨w1, ew1⟩ := bi1.1
      obtain ⟨A2, ad2, f2, F2, q12, q22, q32, q42, bd2, q52, bc2⟩ := hk2
      have ea2 : A2 = a2 := Value.ref.inj (q42.symm.trans hc2)
      rw [ea2] at q22 bd2
      have bi2 := iv_bints hJ.1 ⟨q22, q32⟩ bd2
      obtain ⟨w2, ew2⟩ := bi2.1
      have n0 : ((0 : Nat), Value.ref (A 0)) ∈ g_st1 4 (Value.ref a2) (g_st1 3 (Value.ref a1) ([(0, .ref (A 0)), (1, .int m1), (2, .int m2)] : g_L)) := iv_st2c k0 (by decide) rfl
      refine ir_ld hcl (iv_dec (c2 _ (iv_in (c := []) (pc := 24) rfl)) (by decide) (by decide)) rfl n3 rfl ?_
      refine ir_ld hcl (iv_dec (c2 _ (iv_in (c := []) (pc := 25) rfl)) (by decide) (by decide)) rfl n4 rfl ?_
      refine iv_virt (as := [.ref a2]) (rest := []) hcl (c2 _ (iv_in (c := []) (pc := 27) rfl)) (q := p1) (by rw [t206]; exact bd1.1) rfl (show g_sum [] ≤ 8 by first | decide | exact (show (1 : Nat) ≤ 8 by decide)) (mc := 0) (ms := 0) (by decide) (by decide) (g_run_mono (un_unl (d := 56) bd1 bd2 ew1 ew2 bi1 bi2) (fun r h1 hq => ?_))
      obtain ⟨e1, v, e2, hv⟩ := hq
      rw [e1, e2]
      clear e1 e2 r h1
      show P (30, _, [.int v], 0, 0, h)
      refine ir_st hcl (iv_dec (c2 _ (iv_in (c := []) (pc := 30) rfl)) (by decide) (by decide)) rfl rfl (by decide) ?_
      have x0 : ((0 : Nat), Value.ref (A 0)) ∈ g_st1 5 (.int v) (g_st1 4 (Value.ref a2) (g_st1 3 (Value.ref a1) ([(0, .ref (A 0)), (1, .int m1), (2, .int m2)] : g_L))) := iv_st2c n0 (by decide) rfl
      have x3 : ((3 : Nat), Value.ref a1) ∈ g_st1 5 (.int v) (g_st1 4 (Value.ref a2) (g_st1 3 (Value.ref a1) ([(0, .ref (A 0)), (1, .int m1), (2, .int m2)] : g_L))) := iv_st2c n3 (by decide) rfl
      have x4 : ((4 : Nat), Value.ref a2) ∈ g_st1 5 (.int v) (g_st1 4 (Value.ref a2) (g_st1 3 (Value.ref a1) ([(0, .ref (A 0)), (1, .int m1), (2, .int m2)] : g_L))) := iv_st2c n4 (by decide) rfl
      have x5 : ((5 : Nat), Value.int v) ∈ g_st1 5 (.int v) (g_st1 4 (Value.ref a2) (g_st1 3 (Value.ref a1) ([(0, .ref (A 0)), (1, .int m1), (2, .int m2)] : g_L))) := List.mem_cons_self
      have ans : un_A (iv_num h) m1.toInt m2.toInt (xa_bc v.toInt) := by
        rw [hm1, hm2]
        refine Or.inl ⟨by omega, by omega, by rw [q51]; decide, by rw [q52]; decide, ?_⟩
        rw [hv]
        refine congrArg xa_bc (br_b_e _ (fun k hk => ?_))
        obtain ⟨b11, _, b13, _⟩ := bc1
        obtain ⟨b21, _, b23, _⟩ := bc2
        obtain ⟨_, _, u4, u5, u3⟩ := b13 k hk
        obtain ⟨_, _, s4, s5, s3⟩ := b23 k hk
        rw [un_n ew1] at b11
        rw [un_n ew2] at b21
        have j1 : ∀ c d : Int, 124 * (i1 : Int) + (c + 5 * (k : Int)) = 124 * (i1 : Int) + 1 + 5 * (k : Int) + d → iv_num h 104 (124 * (i1 : Int) + (c + 5 * (k : Int))) = iv_num h 104 (124 * (i1 : Int) + 1 + 5 * (k : Int) + d) := fun c d e => congrArg (iv_num h 104) e
        have j2 : ∀ c d : Int, 124 * (i2 : Int) + (c + 5 * (k : Int)) = 124 * (i2 : Int) + 1 + 5 * (k : Int) + d → iv_num h 104 (124 * (i2 : Int) + (c + 5 * (k : Int))) = iv_num h 104 (124 * (i2 : Int) + 1 + 5 * (k : Int) + d) := fun c d e => congrArg (iv_num h 104) e
        have t3 := u3.trans (j1 3 2 (by omega))
        have t4 := u4.trans (j1 4 3 (by omega))
        have t5 := u5.trans (j1 5 4 (by omega))
        have l3 := s3.trans (j2 3 2 (by omega))
        have l4 := s4.trans (j2 4 3 (by omega))
        have l5 := s5.trans (j2 5 4 (by omega))
        have b1 : w1.toInt = iv_num h 104 (124 * (i1 : Int)) := b11.trans (congrArg (iv_num h 104) (by omega))
        have b2 : w2.toInt = iv_num h 104 (124 * (i2 : Int)) := b21.trans (congrArg (iv_num h 104) (by omega))
        unfold un_P
        simp only [Int.toNat_natCast]
        rw [t3, t4, t5, l3, l4, l5, b1, b2]
      have J0 := hJ
      obtain ⟨cc0, gg0, e90, e80, ⟨y0, Y0⟩, z0, Z0⟩ := un_c0 J0
      refine ir_ld hcl (iv_dec (c2 _ (iv_in (c := []) (pc := 32) rfl)) (by decide) (by decide)) rfl x0 rfl ?_
      refine iv_getfield hcl (c2 _ (iv_in (c := []) (pc := 33) rfl)) (Or.inl rfl) (q := 0) (n := 12) (f := cc0) gg0 (by decide) ?_
      rw [e90]
      refine iv_virt (as := []) (rest := []) hcl (c2 _ (iv_in (c := []) (pc := 36) rfl)) (q := 48) (by rw [t59]; exact Y0) rfl (show g_sum [] ≤ 8 by first | decide | exact (show (1 : Nat) ≤ 8 by decide)) (mc := 0) (ms := 0) (by decide) (by decide) (g_run_rt (un_call J0 (by decide +kernel) y_su_59 (fun β => ⟨⟨48, A 48, rfl, J0.1.2.1 48 10 rfl⟩, trivial⟩)) (fun r h1 hp hrt => ?_))
      rw [r59] at hrt
      obtain rfl : r = none := hrt
      obtain ⟨W1, pW1, J1, km1⟩ := hp
      show P (39, _, [], 0, 0, h1)
      obtain ⟨cc1, gg1, e91, e81, ⟨y1, Y1⟩, z1, Z1⟩ := un_c0 J1
      refine ir_ld hcl (iv_dec (c2 _ (iv_in (c := []) (pc := 39) rfl)) (by decide) (by decide)) rfl x0 rfl ?_
      refine iv_getfield hcl (c2 _ (iv_in (c := []) (pc := 40) rfl)) (Or.inl rfl) (q := 0) (n := 12) (f := cc1) gg1 (by decide) ?_
      rw [e91]
      refine ir_ld hcl (iv_dec (c2 _ (iv_in (c := []) (pc := 43) rfl)) (by decide) (by decide)) rfl x5 rfl ?_
      refine ir_i2l hcl (iv_dec (c2 _ (iv_in (c := []) (pc := 45) rfl)) (by decide) (by decide)) rfl ?_
      refine iv_virt (as := [.long v.toInt64]) (rest := []) hcl (c2 _ (iv_in (c := []) (pc := 46) rfl)) (q := 48) (by rw [t60]; exact Y1) rfl (show g_sum [] ≤ 8 by first | decide | exact (show (1 : Nat) ≤ 8 by decide)) (mc := 0) (ms := 0) (by decide) (by decide) (g_run_rt (un_call J1 (by decide +kernel) y_su_60 (fun β => ⟨⟨48, A 48, rfl, J1.1.2.1 48 10 rfl⟩, un_l β _ _, trivial⟩)) (fun r h2 hp hrt => ?_))
      rw [r60] at hrt
      obtain rfl : r = none := hrt
      obtain ⟨W2, pW2, J2, km2⟩ := hp
      show P (49, _, [], 0, 0, h2)
      obtain ⟨cc2, gg2, e92, e82, ⟨y2, Y2⟩, z2, Z2⟩ := un_c0 J2
      refine ir_ld hcl (iv_dec (c2 _ (iv_in (c := []) (pc := 49) rfl)) (by decide) (by decide)) rfl x0 rfl ?_
      refine iv_getfield hcl (c2 _ (iv_in (c := []) (pc := 50) rfl)) (Or.inl rfl) (q := 0) (n := 12) (f := cc2) gg2 (by decide) ?_
      rw [e92]
      refine ir_ld hcl (iv_dec (c2 _ (iv_in (c := []) (pc := 53) rfl)) (by decide) (by decide)) rfl x0 rfl ?_
      refine iv_getfield hcl (c2 _ (iv_in (c := []) (pc := 54) rfl)) (Or.inl rfl) (q := 0) (n := 12) (f := cc2) gg2 (by decide) ?_
      rw [e82]
      refine ir_ld hcl (iv_dec (c2 _ (iv_in (c := []) (pc := 57) rfl)) (by decide) (by decide)) rfl x3 rfl ?_
      refine iv_virt (as := [.ref a1]) (rest := [.ref (A 48)]) hcl (c2 _ (iv_in (c := []) (pc := 58) rfl)) (q := 43) (by rw [t195]; exact Z2) rfl (show g_sum [.ref (A 48)] ≤ 8 by first | decide | exact (show (1 : Nat) ≤ 8 by decide)) (mc := 0) (ms := 0) (by decide) (by decide) (g_run_rt (un_call J2 (by decide +kernel) y_su_195 (fun β => ⟨⟨43, A 43, rfl, J2.1.2.1 43 9 rfl⟩, ⟨p1, a1, rfl, (un_pre pW2 (un_pre pW1 q21))⟩, trivial⟩)) (fun r h3 hp hrt => ?_))
      rw [r195] at hrt
      obtain ⟨x29, rfl⟩ := hrt
      obtain ⟨W3, pW3, J3, km3⟩ := hp
      show P (61, _, [.int x29, .ref (A 48)], 0, 0, h3)
      refine ir_i2l hcl (iv_dec (c2 _ (iv_in (c := []) (pc := 61) rfl)) (by decide) (by decide)) rfl ?_
      obtain ⟨cc3, gg3, e93, e83, ⟨y3, Y3⟩, z3, Z3⟩ := un_c0 J3
      refine iv_virt (as := [.long x29.toInt64]) (rest := []) hcl (c2 _ (iv_in (c := []) (pc := 62) rfl)) (q := 48) (by rw [t60]; exact Y3) rfl (show g_sum [] ≤ 8 by first | decide | exact (show (1 : Nat) ≤ 8 by decide)) (mc := 0) (ms := 0) (by decide) (by decide) (g_run_rt (un_call J3 (by decide +kernel) y_su_60 (fun β => ⟨⟨48, A 48, rfl, J3.1.2.1 48 10 rfl⟩, un_l β _ _, trivial⟩)) (fun r h4 hp hrt => ?_))
      rw [r60] at hrt
      obtain rfl : r = none := hrt
      obtain ⟨W4, pW4, J4, km4⟩ := hp
      show P (65, _, [], 0, 0, h4)
      obtain ⟨cc4, gg4, e94, e84, ⟨y4, Y4⟩, z4, Z4⟩ := un_c0 J4
      refine ir_ld hcl (iv_dec (c2 _ (iv_in (c := []) (pc := 65) rfl)) (by decide) (by decide)) rfl x0 rfl ?_
      refine iv_getfield hcl (c2 _ (iv_in (c := []) (pc := 66) rfl)) (Or.inl rfl) (q := 0) (n := 12) (f := cc4) gg4 (by decide) ?_
      rw [e94]
      refine ir_ld hcl (iv_dec (c2 _ (iv_in (c := []) (pc := 69) rfl)) (by decide) (by decide)) rfl x0 rfl ?_
      refine iv_getfield hcl (c2 _ (iv_in (c := []) (pc := 70) rfl)) (Or.inl rfl) (q := 0) (n := 12) (f := cc4) gg4 (by decide) ?_
      rw [e84]
      refine ir_ld hcl (iv_dec (c2 _ (iv_in (c := []) (pc := 73) rfl)) (by decide) (by decide)) rfl x4 rfl ?_
      refine iv_virt (as := [.ref a2]) (rest := [.ref (A 48)]) hcl (c2 _ (iv_in (c := []) (pc := 75) rfl)) (q := 43) (by rw [t195]; exact Z4) rfl (show g_sum [.ref (A 48)] ≤ 8 by first | decide | exact (show (1 : Nat) ≤ 8 by decide)) (mc := 0) (ms := 0) (by decide) (by decide) (g_run_rt (un_call J4 (by decide +kernel) y_su_195 (fun β => ⟨⟨43, A 43, rfl, J4.1.2.1 43 9 rfl⟩, ⟨p2, a2, rfl, (un_pre pW4 (un_pre pW3 (un_pre pW2 (un_pre pW1 q22))))⟩, trivial⟩)) (fun r h5 hp hrt => ?_))
      rw [r195] at hrt
      obtain ⟨x49, rfl⟩ := hrt
      obtain ⟨W5, pW5, J5, km5⟩ := hp
      show P (78, _, [.int x49, .ref (A 48)], 0, 0, h5)
      refine ir_i2l hcl (iv_dec (c2 _ (iv_in (c := []) (pc := 78) rfl)) (by decide) (by decide)) rfl ?_
      obtain ⟨cc5, gg5, e95, e85, ⟨y5, Y5⟩, z5, Z5⟩ := un_c0 J5
      refine iv_virt (as := [.long x49.toInt64]) (rest := []) hcl (c2 _ (iv_in (c := []) (pc := 79) rfl)) (q := 48) (by rw [t60]; exact Y5) rfl (show g_sum [] ≤ 8 by first | decide | exact (show (1 : Nat) ≤ 8 by decide)) (mc := 0) (ms := 0) (by decide) (by decide) (g_run_rt (un_call J5 (by decide +kernel) y_su_60 (fun β => ⟨⟨48, A 48, rfl, J5.1.2.1 48 10 rfl⟩, un_l β _ _, trivial⟩)) (fun r h6 hp hrt => ?_))
      rw [r60] at hrt
      obtain rfl : r = none := hrt
      obtain ⟨W6, pW6, J6, km6⟩ := hp
      show P (82, _, [], 0, 0, h6)
      refine ir_ld hcl (iv_dec (c2 _ (iv_in (c := []) (pc := 82) rfl)) (by decide) (by decide)) rfl x5 rfl ?_
      have hN := (km6 M (km5 M (km4 M (km3 M (km2 M (km1 M hM))))))
      have hQ : iv_Q A W6 b h6 (iv_num h6) := ⟨J6.1, J6.2.1, J6.2.2.2, fun _ _ _ _ => rfl⟩
      refine iv_stat (as := [.int v]) (rest := []) (cells := 0) (slots := 0) hcl (c2 _ (iv_in (c := []) (pc := 84) rfl)) rfl (by decide) (by decide) (by decide) (g_run_mono (iv_Qc (d := 59) hQ hN (vs := [(0, 0, (-2147483648), 2147483647, v.toInt)]) (xs := [.int v]) ⟨iv_i v, trivial⟩ (ct_bitCount (d := 58) (I := xl_I b) (post := fun o M2 => o = some (0, 0, (-2147483648), 2147483647, xa_bc v.toInt) ∧ M2 = iv_num h6) ⟨rfl, rfl⟩)) (fun r h9 hp => ?_))
      obtain ⟨o9, M9, ⟨rfl, rfl⟩, hr9, hQ9, hM9, -⟩ := hp
      obtain ⟨z9, rfl, hz9⟩ := iv_gRi hr9
      show P (87, _, [.int z9], 0, 0, h9)
      have J9 : iv_JW A W6 b h9 := iv_Qm hQ9 hM9 hM9 hInv (fun _ => rfl) (fun _ => rfl) (iv_xj J6 hN)
      exact hend _ ⟨Nat.le_refl _, Nat.le_refl _, Or.inl ⟨z9, .int, iv_ireturn (c2 _ (iv_in (c := []) (pc := 87) rfl)), q3, rfl, rfl, z9, W6, rfl, J9, hM9, by rw [hz9]; exact ans⟩⟩
theorem iv_p205 (A : Nat → Nat) (cmp : Bool) : iv_pair (iv_J A) A 205 297 [0, 0] cmp false := by
  intro h as hI hs
  obtain ⟨m1, ys, rfl, -, hs⟩ := iv_spc hs
  obtain ⟨m2, ys, rfl, -, hs⟩ := iv_spc hs
  obtain rfl := iv_sp0 hs
  obtain ⟨W, b, hJ⟩ := hI
  obtain ⟨M, hM, hInv⟩ := hJ.1.2.2
  refine ⟨0, 0, by decide, by decide, g_run_mono (iv_unlX hJ hM hInv m1 m2) (fun r1 h1 hp => ?_)⟩
  obtain ⟨v, W1, rfl, hJ1, hM1, hA⟩ := hp
  have hQ : iv_Q A W1 b h1 (iv_num h1) := ⟨hJ1.1, hJ1.2.1, hJ1.2.2.2, fun _ _ _ _ => rfl⟩
  refine ⟨v, rfl, iv_sh_ok (iv_iW_inv hJ1.1), g_run_mono (iv_mrun hM1 (vs := [(2, 60, 0, 0, 0), (0, 0, (-2147483648), 2147483647, m1.toInt), (0, 0, (-2147483648), 2147483647, m2.toInt)]) (xs := [.ref (A 60), .int m1, .int m2]) ⟨rfl, iv_i m1, iv_i m2, trivial⟩ (ms_unlikeF (d := 55) (M := M) (a := m1.toInt) (b := m2.toInt) hInv (post := fun o M2 => ∃ ans, o = some (0, 0, (-2147483648), 2147483647, ans) ∧ un_A M m1.toInt m2.toInt ans ∧ xm_cor M M2) (fun r M2 x1 x2 => ⟨r, rfl, x1, x2⟩))) (fun r2 h2 hp2 => ?_)⟩
  obtain ⟨v2, M2, ⟨ans, rfl, k1, k2⟩, hr2, hM2⟩ := hp2
  obtain ⟨z2, rfl, hz2⟩ := iv_gRi hr2
  exact ⟨⟨z2, rfl, fun _ => Int32.toInt_inj.mp (by rw [hz2]; exact un_A1 (fun x x0 x1 => iv_104 hM x0 x1) (fun x x0 x1 => iv_105 hM x0 x1) hA k1)⟩, W1, b, iv_Qm hQ hM1 hM2 (xm_Inv_cor k2 hInv) (fun x => k2 104 x (by unfold xm_scr; omega)) (fun x => k2 105 x (by unfold xm_scr; omega)) (xq_lmR (iv_xj hJ1 hM1) (fun _ _ _ _ => rfl) k2)⟩
