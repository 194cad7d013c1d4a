-- frames, the class as numbers
set_option maxRecDepth 20000
/-- fields that are never written, but by a few methods -/
def iv_L : List (Nat × Nat) := [(0, 0), (0, 1), (0, 2), (0, 3), (1, 0), (1, 1), (1, 2), (1, 3), (1, 4), (1, 5), (1, 6), (1, 7), (1, 8), (2, 0), (2, 1), (2, 2), (2, 3), (3, 0), (3, 1), (3, 2), (3, 3), (3, 4), (3, 5), (3, 6), (3, 7), (3, 8), (3, 9), (4, 0), (4, 1), (4, 2), (5, 0), (5, 1), (5, 2), (5, 3), (6, 0), (7, 2), (8, 0), (9, 0), (9, 1), (10, 0), (10, 1), (10, 2), (10, 3), (11, 0), (11, 1), (11, 2), (11, 3), (11, 4), (11, 5), (11, 6), (11, 7), (11, 8), (11, 9), (11, 10), (11, 11), (1, 9), (1, 10), (8, 1), (0, 4)]
def iv_E (ci k : Nat) : Bool := !iv_L.any (fun p => Nat.beq p.1 ci && Nat.beq p.2 k)
def iv_K (_ : Nat) : Bool := false
def iv_B : List Nat := [0, 1, 2, 3, 4, 5, 6, 7, 8, 9, 10, 11, 12, 16, 36, 42, 43, 44, 110, 111, 112, 113, 114, 115, 116, 170, 174, 200, 201, 203]
set_option maxRecDepth 100000 in
theorem iv_T_0 : f_TB iv_E iv_K iv_B 0 20 = true := by decide +kernel
set_option maxRecDepth 100000 in
theorem iv_T_1 : f_TB iv_E iv_K iv_B 20 20 = true := by decide +kernel
set_option maxRecDepth 100000 in
theorem iv_T_2 : f_TB iv_E iv_K iv_B 40 20 = true := by decide +kernel
set_option maxRecDepth 100000 in
theorem iv_T_3 : f_TB iv_E iv_K iv_B 60 20 = true := by decide +kernel
set_option maxRecDepth 100000 in
theorem iv_T_4 : f_TB iv_E iv_K iv_B 80 20 = true := by decide +kernel
set_option maxRecDepth 100000 in
theorem iv_T_5 : f_TB iv_E iv_K iv_B 100 20 = true := by decide +kernel
set_option maxRecDepth 100000 in
theorem iv_T_6 : f_TB iv_E iv_K iv_B 120 20 = true := by decide +kernel
set_option maxRecDepth 100000 in
theorem iv_T_7 : f_TB iv_E iv_K iv_B 140 20 = true := by decide +kernel
set_option maxRecDepth 100000 in
theorem iv_T_8 : f_TB iv_E iv_K iv_B 160 20 = true := by decide +kernel
set_option maxRecDepth 100000 in
theorem iv_T_9 : f_TB iv_E iv_K iv_B 180 20 = true := by decide +kernel
set_option maxRecDepth 100000 in
theorem iv_T_10 : f_TB iv_E iv_K iv_B 200 20 = true := by decide +kernel
set_option maxRecDepth 100000 in
theorem iv_T_11 : f_TB iv_E iv_K iv_B 220 20 = true := by decide +kernel
set_option maxRecDepth 100000 in
theorem iv_T_12 : f_TB iv_E iv_K iv_B 240 20 = true := by decide +kernel
set_option maxRecDepth 100000 in
theorem iv_T_13 : f_TB iv_E iv_K iv_B 260 20 = true := by decide +kernel
set_option maxRecDepth 100000 in
theorem iv_T_14 : f_TB iv_E iv_K iv_B 280 20 = true := by decide +kernel
set_option maxRecDepth 100000 in
theorem iv_T_15 : f_TB iv_E iv_K iv_B 300 2 = true := by decide +kernel
theorem iv_T_ok : f_all iv_E iv_K iv_B := by
  intro j hj
  have hl : j < 302 := by
    unfold f_T at hj
    rw [Bool.and_eq_true, Nat.blt_eq] at hj
    exact hj.1
  by_cases c0 : j < 20
  · exact f_TB_at iv_T_0 (by omega) (by omega) hj
  by_cases c1 : j < 40
  · exact f_TB_at iv_T_1 (by omega) (by omega) hj
  by_cases c2 : j < 60
  · exact f_TB_at iv_T_2 (by omega) (by omega) hj
  by_cases c3 : j < 80
  · exact f_TB_at iv_T_3 (by omega) (by omega) hj
  by_cases c4 : j < 100
  · exact f_TB_at iv_T_4 (by omega) (by omega) hj
  by_cases c5 : j < 120
  · exact f_TB_at iv_T_5 (by omega) (by omega) hj
  by_cases c6 : j < 140
  · exact f_TB_at iv_T_6 (by omega) (by omega) hj
  by_cases c7 : j < 160
  · exact f_TB_at iv_T_7 (by omega) (by omega) hj
  by_cases c8 : j < 180
  · exact f_TB_at iv_T_8 (by omega) (by omega) hj
  by_cases c9 : j < 200
  · exact f_TB_at iv_T_9 (by omega) (by omega) hj
  by_cases c10 : j < 220
  · exact f_TB_at iv_T_10 (by omega) (by omega) hj
  by_cases c11 : j < 240
  · exact f_TB_at iv_T_11 (by omega) (by omega) hj
  by_cases c12 : j < 260
  · exact f_TB_at iv_T_12 (by omega) (by omega) hj
  by_cases c13 : j < 280
  · exact f_TB_at iv_T_13 (by omega) (by omega) hj
  by_cases c14 : j < 300
  · exact f_TB_at iv_T_14 (by omega) (by omega) hj
  by_cases c15 : j < 302
  · exact f_TB_at iv_T_15 (by omega) (by omega) hj
  omega
/-- the number of a value -/
def iv_n : Value → Int
  | .int n => n.toInt
  | .long n => n.toInt
  | _ => 0
def xc_v (v : y_V) : Bool := Nat.ble v.1 2 && (Nat.beq v.2.2.2.1 0 && Nat.beq v.2.2.2.2.2.1 0)
def xc_r (ro : y_R1) : Bool := Nat.beq ro.2.2.2.1 0 && (ro.2.2.2.2.all xc_v && !ro.2.2.2.2.isEmpty)
/-- each place has the role that the first cells have; where its fields lead -/
def xc_fit (I : xa_I) : Prop := ∀ q ro S, I q = some (ro, S) → q < 60 ∧ (∃ r, iv_rl[q]? = some r ∧ y_Rc.1[r]? = some ro) ∧ xc_r ro = true ∧ ∀ j, j < ro.2.2.1 → (xa_sp ro j).1 = 2 → iv_rl[S j]? = some (xa_sp ro j).2.1.toNat
theorem xc_r_eq {ro : y_R1} (h : xc_r ro = true) : ro.2.2.2.1 = 0 ∧ (∀ v ∈ ro.2.2.2.2, xc_v v = true) ∧ ¬ ro.2.2.2.2 = [] := by
  unfold xc_r at h
  rw [Bool.and_eq_true, Bool.and_eq_true, Nat.beq_eq, List.all_eq_true] at h
  refine ⟨h.1, h.2.1, fun e => ?_⟩
  have h2 := h.2.2
  rw [e] at h2
  cases h2
theorem xc_sp {ro : y_R1} (h : xc_r ro = true) (β : Nat → Int) (j : Nat) : y_spj β ro j = xa_sp ro j := by
  obtain ⟨h1, -, -⟩ := xc_r_eq h
  unfold y_spj xa_sp
  cases e : ro.1
  · rfl
  · rw [if_pos rfl, if_pos (Or.inl h1), Nat.beq_eq.mpr h1]
    rfl
theorem xc_sp_v {ro : y_R1} (h : xc_r ro = true) (j : Nat) : xc_v (xa_sp ro j) = true ∨ xa_sp ro j = y_no := by
  obtain ⟨-, h2, -⟩ := xc_r_eq h
  have key : ∀ i, xc_v (y_sp ro i) = true ∨ y_sp ro i = y_no := fun i => by
    unfold y_sp
    rw [List.getD_eq_getElem?_getD]
    cases e : ro.2.2.2.2[i]? with
    | none => exact Or.inr rfl
    | some v => exact Or.inl (h2 v (List.mem_of_getElem? e))
  unfold xa_sp
  cases ro.1
  · exact key j
  · cases Nat.beq ro.2.2.2.1 0
    · exact key 1
    · exact key 0
theorem xc_v_eq {k : Nat} {lo hi b d : Int} {a c : Nat} (h : xc_v (k, lo, hi, a, b, c, d) = true) : k ≤ 2 ∧ a = 0 ∧ c = 0 := by
  unfold xc_v at h
  rw [Bool.and_eq_true, Bool.and_eq_true, Nat.beq_eq, Nat.beq_eq] at h
  exact ⟨Nat.le_of_ble_eq_true h.1, h.2.1, h.2.2⟩
theorem xc_F1 {A : Nat → Nat} {W : y_W} {β : Nat → Int} {v : y_V} {x : Value} {s : Nat} (hv : xc_v v = true) (h2 : v.1 = 2 → x = .ref (A s)) (h : y_g W β v x) : xa_g A (xa_cw v s (iv_n x)) x := by
  obtain ⟨k, lo, hi, a, b, c, d⟩ := v
  obtain ⟨h1, -, -⟩ := xc_v_eq hv
  rcases k with _ | _ | _ | k
  · obtain ⟨n, rfl, n1, n2, -⟩ := h
    exact ⟨n, rfl, rfl, n1, n2⟩
  · obtain ⟨n, rfl, n1, n2, -⟩ := h
    exact ⟨n, rfl, rfl, n1, n2⟩
  · exact h2 rfl
  · omega
theorem xc_B1 {A : Nat → Nat} {W : y_W} {β : Nat → Int} {v : y_V} {x : Value} {s : Nat} {m : Int} (hv : xc_v v = true) (h2 : v.1 = 2 → W[s]? = some (A s, v.2.1.toNat)) (h : xa_g A (xa_cw v s m) x) : y_g W β v x := by
  obtain ⟨k, lo, hi, a, b, c, d⟩ := v
  obtain ⟨h1, h3, h4⟩ := xc_v_eq hv
  rcases k with _ | _ | _ | k
  · obtain ⟨n, rfl, n1, n2, n3⟩ := h
    exact ⟨n, rfl, by omega, by omega, fun h => absurd h3 h, fun h => absurd h4 h⟩
  · obtain ⟨n, rfl, n1, n2, n3⟩ := h
    exact ⟨n, rfl, by omega, by omega, fun h => absurd h3 h, fun h => absurd h4 h⟩
  · exact ⟨s, A s, h, h2 rfl⟩
  · omega
theorem xc_F {I : xa_I} (hf : xc_fit I) {A : Nat → Nat} {h : g_H} (hI : iv_inv A h) (hr : ∀ q ro S, I q = some (ro, S) → ∀ j, j < ro.2.2.1 → (xa_sp ro j).1 = 2 → iv_ct h q j = .ref (A (S j))) : xa_H I A (fun q j => iv_n (iv_ct h q j.toNat)) h h := by
  obtain ⟨⟨W, β, hH, hW⟩, -⟩ := hI
  refine ⟨rfl, fun q ro S hq => ?_, fun _ _ => rfl⟩
  obtain ⟨-, ⟨r, e1, e2⟩, e3, -⟩ := hf q ro S hq
  obtain ⟨ro', f, g1, g2, g3⟩ := hH.2.1 q (A q) r (hW q r e1)
  rw [e2] at g1
  cases g1
  refine ⟨f, g2, fun j hj => ?_⟩
  have hc : iv_ct h q j = f j := by
    unfold iv_ct
    rw [g2]
  have g4 : y_g W β (xa_sp ro j) (f j) := by
    rcases g3 j hj with g | g
    · exact ((xc_r_eq e3).2.2 g.1).elim
    · rw [xc_sp e3] at g
      exact g.1
  show xa_g A (xa_cw (xa_sp ro j) (S j) (iv_n (iv_ct h q ((j : Nat) : Int).toNat))) (f j)
  rw [Int.toNat_natCast, hc]
  rcases xc_sp_v e3 j with hv | hv
  · exact xc_F1 hv (fun h2 => by rw [← hc]; exact hr q ro S hq j hj h2) g4
  · rw [hv] at g4
    exact g4.elim
theorem xc_B {I : xa_I} (hf : xc_fit I) {A : Nat → Nat} {W : y_W} {h h' : g_H} {M' : xa_M} (hI : iv_iW A W h) (hX : xa_H I A M' h h') : iv_iW A W h' ∧ ∀ M : xa_M, xa_H xm_I A M h h → xa_H xm_I A M h' h' := by
  obtain ⟨⟨β, hH⟩, hW, M, hM, hInv⟩ := hI
  obtain ⟨l1, l2, l3⟩ := hX
  have hn : ∀ q, ¬ q < 60 → I q = none := fun q hq => by
    cases e : I q with
    | none => rfl
    | some p => exact absurd (hf q p.1 p.2 e).1 hq
  have km : ∀ M : xa_M, xa_H xm_I A M h h → xa_H xm_I A M h' h' := fun M hM => by
    refine ⟨rfl, fun q ro S hq => ?_, fun _ _ => rfl⟩
    obtain ⟨f, k1, k2⟩ := hM.2.1 q ro S hq
    have hlt := xm_I_lt hq
    exact ⟨f, by rw [l3 q (hn q (by omega))]; exact k1, k2⟩
  obtain ⟨u1, q0, a0, ro0, f0, n0, v1, v2, v3, v4, v5⟩ := hH.2.2 (300001, 8, 5) (by decide)
  have hq0 : q0 = 38 := u1 q0 38 a0 (A 38) v1 (hW 38 8 rfl)
  subst hq0
  have ha0 := v1.symm.trans (hW 38 8 rfl)
  cases ha0
  have hnm : ∃ (f : Nat → Value) (n : Int32), h'[38]? = some (A 38, ro0.1, ro0.2.1, ro0.2.2.1, f) ∧ f 5 = .int n := by
    cases e : I 38 with
    | none => exact ⟨f0, n0, by rw [l3 38 e]; exact v3, v4⟩
    | some p =>
      obtain ⟨ro, S⟩ := p
      obtain ⟨-, ⟨r, e1, e2⟩, -, -⟩ := hf 38 ro S e
      have e9 : iv_rl[38]? = some 8 := rfl
      rw [e9] at e1
      cases e1
      have v2' : y_Rc.1[8]? = some ro0 := v2
      rw [v2'] at e2
      cases e2
      obtain ⟨f, k1, k2⟩ := l2 38 _ S e
      cases v2
      obtain ⟨m, em, -⟩ := k2 5 (show 5 < 7 by decide)
      exact ⟨f, m, k1, em⟩
  obtain ⟨f5, n5, w1, w2⟩ := hnm
  refine ⟨⟨⟨fun k => if k = 300001 then n5.toInt else β k, ⟨by rw [l1]; exact hH.1, fun q a r hq => ?_, fun p hp => ?_⟩⟩, hW, M, km M hM, hInv⟩, km⟩
  · cases e : I q with
    | none =>
      obtain ⟨ro, f, h1, h2, h3⟩ := hH.2.1 q a r hq
      have e9 := l3 q e
      refine ⟨ro, f, h1, by rw [e9]; exact h2, fun j hj => ?_⟩
      rcases h3 j hj with g | g
      · refine Or.inl ⟨g.1, ?_⟩
        rw [g.2]
        unfold iv_ct
        rw [e9]
      · exact Or.inr ⟨y_spj_b y_Rc_ok (fun k h1 h2 => if_neg (by omega)) h1 g.1, fun h => (y_Rc_no h1 h).elim⟩
    | some p =>
      obtain ⟨ro, S⟩ := p
      obtain ⟨-, ⟨r', e1, e2⟩, e3, e4⟩ := hf q ro S e
      have hw := hW q r' e1
      rw [hq] at hw
      cases hw
      obtain ⟨f, k1, k2⟩ := l2 q ro S e
      refine ⟨ro, f, e2, k1, fun j hj => Or.inr ⟨?_, fun h => (y_Rc_no e2 h).elim⟩⟩
      rw [xc_sp e3]
      have k3 : xa_g A (xa_cw (xa_sp ro j) (S j) (M' q (j : Int))) (f j) := k2 j hj
      rcases xc_sp_v e3 j with hv | hv
      · exact xc_B1 hv (fun h2 => hW (S j) _ (e4 j hj h2)) k3
      · rw [hv] at k3
        exact k3.elim
  · have hp' : p = (300001, 8, 5) := by
      have : p ∈ [(300001, 8, 5)] := hp
      simpa using this
    subst hp'
    exact ⟨u1, 38, A 38, ro0, f5, n5, hW 38 8 rfl, v2, w1, w2, (if_pos rfl).symm⟩
/-- the class as numbers; b: the two books have changed places -/
def xl_I (b : Bool) : xa_I := fun q => match q with
  | 0 => some ((false, 11, 12, 0, [(2, 1, 0, 0, 0, 0, 0), (2, 13, 0, 0, 0, 0, 0), (2, 2, 0, 0, 0, 0, 0), (2, 3, 0, 0, 0, 0, 0), (2, 5, 0, 0, 0, 0, 0), (2, 6, 0, 0, 0, 0, 0), (2, 7, 0, 0, 0, 0, 0), (2, 8, 0, 0, 0, 0, 0), (2, 9, 0, 0, 0, 0, 0), (2, 10, 0, 0, 0, 0, 0), (2, 11, 0, 0, 0, 0, 0), (2, 11, 0, 0, 0, 0, 0)]), fun j => match j with | 0 => 1 | 1 => 11 | 2 => 12 | 3 => 15 | 4 => 30 | 5 => 32 | 6 => 34 | 7 => 38 | 8 => 43 | 9 => 48 | 10 => bif b then 55 else 50 | 11 => bif b then 50 else 55 | _ => 0)
  | 1 => some ((false, 1, 11, 0, [(2, 14, 0, 0, 0, 0, 0), (2, 15, 0, 0, 0, 0, 0), (2, 16, 0, 0, 0, 0, 0), (2, 17, 0, 0, 0, 0, 0), (2, 18, 0, 0, 0, 0, 0), (2, 19, 0, 0, 0, 0, 0), (2, 20, 0, 0, 0, 0, 0), (2, 21, 0, 0, 0, 0, 0), (2, 22, 0, 0, 0, 0, 0), (0, (-2147483648), 2147483647, 0, 0, 0, 0), (0, (-2147483648), 2147483647, 0, 0, 0, 0)]), fun j => 2 + j)
  | 2 => some ((true, 0, 14, 0, [(0, (-2147483648), 2147483647, 0, 0, 0, 0)]), fun _ => 0)
  | 3 => some ((true, 0, 14, 0, [(0, 0, 400, 0, 0, 0, 0)]), fun _ => 0)
  | 4 => some ((true, 0, 14, 0, [(0, (-2147483648), 2147483647, 0, 0, 0, 0)]), fun _ => 0)
  | 5 => some ((true, 0, 14, 0, [(0, (-2147483648), 2147483647, 0, 0, 0, 0)]), fun _ => 0)
  | 6 => some ((true, 0, 14, 0, [(0, (-2147483648), 2147483647, 0, 0, 0, 0)]), fun _ => 0)
  | 7 => some ((true, 0, 16, 0, [(0, (-2147483648), 2147483647, 0, 0, 0, 0)]), fun _ => 0)
  | 8 => some ((true, 0, 16, 0, [(0, (-2147483648), 2147483647, 0, 0, 0, 0)]), fun _ => 0)
  | 9 => some ((true, 0, 10, 0, [(0, (-2147483648), 2147483647, 0, 0, 0, 0)]), fun _ => 0)
  | 10 => some ((true, 0, 10, 0, [(0, (-2147483648), 2147483647, 0, 0, 0, 0)]), fun _ => 0)
  | 12 => some ((false, 9, 3, 0, [(2, 23, 0, 0, 0, 0, 0), (2, 24, 0, 0, 0, 0, 0), (0, 0, 1, 0, 0, 0, 0)]), fun j => 13 + j)
  | 13 => some ((true, 1, 10, 0, [(1, (-9223372036854775808), 9223372036854775807, 0, 0, 0, 0)]), fun _ => 0)
  | 14 => some ((true, 1, 10, 0, [(1, (-9223372036854775808), 9223372036854775807, 0, 0, 0, 0)]), fun _ => 0)
  | 15 => some ((false, 3, 14, 0, [(2, 4, 0, 0, 0, 0, 0), (2, 25, 0, 0, 0, 0, 0), (2, 26, 0, 0, 0, 0, 0), (2, 27, 0, 0, 0, 0, 0), (2, 28, 0, 0, 0, 0, 0), (2, 29, 0, 0, 0, 0, 0), (2, 30, 0, 0, 0, 0, 0), (2, 31, 0, 0, 0, 0, 0), (2, 32, 0, 0, 0, 0, 0), (2, 33, 0, 0, 0, 0, 0), (0, (-2147483648), 2147483647, 0, 0, 0, 0), (1, (-9223372036854775808), 9223372036854775807, 0, 0, 0, 0), (1, (-9223372036854775808), 9223372036854775807, 0, 0, 0, 0), (0, 0, 1, 0, 0, 0, 0)]), fun j => match j with | 0 => 16 | 1 => 21 | 2 => 22 | 3 => 23 | 4 => 24 | 5 => 25 | 6 => 26 | 7 => 27 | 8 => 28 | 9 => 29 | _ => 0)
  | 16 => some ((false, 10, 5, 0, [(2, 34, 0, 0, 0, 0, 0), (2, 35, 0, 0, 0, 0, 0), (2, 36, 0, 0, 0, 0, 0), (2, 37, 0, 0, 0, 0, 0), (0, (-2147483648), 2147483647, 0, 0, 0, 0)]), fun j => 17 + j)
  | 17 => some ((true, 0, 10, 0, [(0, (-2147483648), 2147483647, 0, 0, 0, 0)]), fun _ => 0)
  | 18 => some ((true, 0, 10, 0, [(0, (-2147483648), 2147483647, 0, 0, 0, 0)]), fun _ => 0)
  | 19 => some ((true, 0, 10, 0, [(0, (-2147483648), 2147483647, 0, 0, 0, 0)]), fun _ => 0)
  | 20 => some ((true, 0, 10, 0, [(0, (-2147483648), 2147483647, 0, 0, 0, 0)]), fun _ => 0)
  | 21 => some ((true, 0, 14, 0, [(0, (-2147483648), 2147483647, 0, 0, 0, 0)]), fun _ => 0)
  | 22 => some ((true, 0, 14, 0, [(0, (-2147483648), 2147483647, 0, 0, 0, 0)]), fun _ => 0)
  | 23 => some ((true, 0, 14, 0, [(0, (-2147483648), 2147483647, 0, 0, 0, 0)]), fun _ => 0)
  | 24 => some ((true, 0, 14, 0, [(0, 0, 400, 0, 0, 0, 0)]), fun _ => 0)
  | 25 => some ((true, 0, 14, 0, [(0, (-2147483648), 2147483647, 0, 0, 0, 0)]), fun _ => 0)
  | 26 => some ((true, 1, 14, 0, [(1, (-9223372036854775808), 9223372036854775807, 0, 0, 0, 0)]), fun _ => 0)
  | 27 => some ((true, 1, 14, 0, [(1, (-9223372036854775808), 9223372036854775807, 0, 0, 0, 0)]), fun _ => 0)
  | 28 => some ((true, 0, 800, 0, [(0, (-2147483648), 2147483647, 0, 0, 0, 0)]), fun _ => 0)
  | 29 => some ((true, 0, 14, 0, [(0, (-2147483648), 2147483647, 0, 0, 0, 0)]), fun _ => 0)
  | 30 => some ((false, 8, 2, 0, [(2, 38, 0, 0, 0, 0, 0), (0, (-2147483648), 2147483647, 0, 0, 0, 0)]), fun j => 31 + j)
  | 31 => some ((true, 0, 80, 0, [(0, (-2147483648), 2147483647, 0, 0, 0, 0)]), fun _ => 0)
  | 32 => some ((false, 7, 3, 0, [(0, 10, 400, 0, 0, 0, 0), (0, 10, 400, 0, 0, 0, 0), (2, 39, 0, 0, 0, 0, 0)]), fun j => 31 + j)
  | 33 => some ((true, 0, 61, 0, [(0, (-2147483648), 2147483647, 0, 0, 0, 0)]), fun _ => 0)
  | 34 => some ((false, 4, 4, 0, [(2, 40, 0, 0, 0, 0, 0), (2, 41, 0, 0, 0, 0, 0), (2, 42, 0, 0, 0, 0, 0), (0, (-2147483648), 2147483647, 0, 0, 0, 0)]), fun j => 35 + j)
  | 35 => some ((true, 0, 14, 0, [(0, (-2147483648), 2147483647, 0, 0, 0, 0)]), fun _ => 0)
  | 36 => some ((true, 0, 14, 0, [(0, (-2147483648), 2147483647, 0, 0, 0, 0)]), fun _ => 0)
  | 37 => some ((true, 0, 14, 0, [(0, (-2147483648), 2147483647, 0, 0, 0, 0)]), fun _ => 0)
  | 38 => some ((false, 2, 7, 0, [(2, 43, 0, 0, 0, 0, 0), (2, 44, 0, 0, 0, 0, 0), (2, 45, 0, 0, 0, 0, 0), (2, 46, 0, 0, 0, 0, 0), (0, (-2147483648), 2147483647, 0, 0, 0, 0), (0, 0, 20, 0, 0, 0, 0), (0, (-2147483648), 2147483647, 0, 0, 0, 0)]), fun j => 39 + j)
  | 39 => some ((true, 2, 223, 0, [(0, 0, 1, 0, 0, 0, 0)]), fun _ => 0)
  | 40 => some ((true, 0, 20, 0, [(0, (-2147483648), 2147483647, 0, 0, 0, 0)]), fun _ => 0)
  | 41 => some ((true, 2, 20, 0, [(0, 0, 1, 0, 0, 0, 0)]), fun _ => 0)
  | 42 => some ((true, 0, 8, 0, [(0, (-2147483648), 2147483647, 0, 0, 0, 0)]), fun _ => 0)
  | 43 => some ((false, 5, 5, 0, [(2, 47, 0, 0, 0, 0, 0), (2, 48, 0, 0, 0, 0, 0), (2, 49, 0, 0, 0, 0, 0), (2, 50, 0, 0, 0, 0, 0), (0, (-2147483648), 2147483647, 0, 0, 0, 0)]), fun j => 44 + j)
  | 44 => some ((true, 0, 12, 0, [(0, (-2147483648), 2147483647, 0, 0, 0, 0)]), fun _ => 0)
  | 45 => some ((true, 0, 12, 0, [(0, (-2147483648), 2147483647, 0, 0, 0, 0)]), fun _ => 0)
  | 46 => some ((true, 0, 12, 0, [(0, (-2147483648), 2147483647, 0, 0, 0, 0)]), fun _ => 0)
  | 47 => some ((true, 0, 12, 0, [(0, (-2147483648), 2147483647, 0, 0, 0, 0)]), fun _ => 0)
  | 48 => some ((false, 6, 2, 0, [(2, 51, 0, 0, 0, 0, 0), (0, (-2147483648), 2147483647, 0, 0, 0, 0)]), fun j => 49 + j)
  | 49 => some ((true, 1, 16, 0, [(1, (-9223372036854775808), 9223372036854775807, 0, 0, 0, 0)]), fun _ => 0)
  | 50 => some ((false, 0, 8, 0, [(2, 52, 0, 0, 0, 0, 0), (2, 53, 0, 0, 0, 0, 0), (2, 54, 0, 0, 0, 0, 0), (2, 55, 0, 0, 0, 0, 0), (0, (-2147483648), 2147483647, 0, 0, 0, 0), (0, (-2147483648), 2147483647, 0, 0, 0, 0), (0, (-2147483648), 2147483647, 0, 0, 0, 0), (0, 0, 1, 0, 0, 0, 0)]), fun j => 51 + j)
  | 51 => some ((true, 0, 8, 0, [(0, (-2147483648), 2147483647, 0, 0, 0, 0)]), fun _ => 0)
  | 52 => some ((true, 0, 8, 0, [(0, (-2147483648), 2147483647, 0, 0, 0, 0)]), fun _ => 0)
  | 53 => some ((true, 0, 8, 0, [(0, (-2147483648), 2147483647, 0, 0, 0, 0)]), fun _ => 0)
  | 54 => some ((true, 0, 256, 0, [(0, (-2147483648), 2147483647, 0, 0, 0, 0)]), fun _ => 0)
  | 55 => some ((false, 0, 8, 0, [(2, 52, 0, 0, 0, 0, 0), (2, 53, 0, 0, 0, 0, 0), (2, 54, 0, 0, 0, 0, 0), (2, 55, 0, 0, 0, 0, 0), (0, (-2147483648), 2147483647, 0, 0, 0, 0), (0, (-2147483648), 2147483647, 0, 0, 0, 0), (0, (-2147483648), 2147483647, 0, 0, 0, 0), (0, 0, 1, 0, 0, 0, 0)]), fun j => 56 + j)
  | 56 => some ((true, 0, 8, 0, [(0, (-2147483648), 2147483647, 0, 0, 0, 0)]), fun _ => 0)
  | 57 => some ((true, 0, 8, 0, [(0, (-2147483648), 2147483647, 0, 0, 0, 0)]), fun _ => 0)
  | 58 => some ((true, 0, 8, 0, [(0, (-2147483648), 2147483647, 0, 0, 0, 0)]), fun _ => 0)
  | 59 => some ((true, 0, 256, 0, [(0, (-2147483648), 2147483647, 0, 0, 0, 0)]), fun _ => 0)
  | _ => none
theorem xl_no {b : Bool} {q : Nat} (h : ¬ q < 60) : xl_I b q = none := by
  unfold xl_I
  split <;> first | rfl | omega
theorem xl_fit (b : Bool) : xc_fit (xl_I b) := by
  intro q ro S hq
  unfold xl_I at hq
  split at hq
  · cases hq
    exact ⟨by decide, ⟨0, rfl, rfl⟩, by decide +kernel, by cases b <;> decide +kernel⟩
  · cases hq
    exact ⟨by decide, ⟨1, rfl, rfl⟩, by decide +kernel, by decide +kernel⟩
  · cases hq
    exact ⟨by decide, ⟨14, rfl, rfl⟩, by decide +kernel, by decide +kernel⟩
  · cases hq
    exact ⟨by decide, ⟨15, rfl, rfl⟩, by decide +kernel, by decide +kernel⟩
  · cases hq
    exact ⟨by decide, ⟨16, rfl, rfl⟩, by decide +kernel, by decide +kernel⟩
  · cases hq
    exact ⟨by decide, ⟨17, rfl, rfl⟩, by decide +kernel, by decide +kernel⟩
  · cases hq
    exact ⟨by decide, ⟨18, rfl, rfl⟩, by decide +kernel, by decide +kernel⟩
  · cases hq
    exact ⟨by decide, ⟨19, rfl, rfl⟩, by decide +kernel, by decide +kernel⟩
  · cases hq
    exact ⟨by decide, ⟨20, rfl, rfl⟩, by decide +kernel, by decide +kernel⟩
  · cases hq
    exact ⟨by decide, ⟨21, rfl, rfl⟩, by decide +kernel, by decide +kernel⟩
  · cases hq
    exact ⟨by decide, ⟨22, rfl, rfl⟩, by decide +kernel, by decide +kernel⟩
  · cases hq
    exact ⟨by decide, ⟨2, rfl, rfl⟩, by decide +kernel, by decide +kernel⟩
  · cases hq
    exact ⟨by decide, ⟨23, rfl, rfl⟩, by decide +kernel, by decide +kernel⟩
  · cases hq
    exact ⟨by decide, ⟨24, rfl, rfl⟩, by decide +kernel, by decide +kernel⟩
  · cases hq
    exact ⟨by decide, ⟨3, rfl, rfl⟩, by decide +kernel, by decide +kernel⟩
  · cases hq
    exact ⟨by decide, ⟨4, rfl, rfl⟩, by decide +kernel, by decide +kernel⟩
  · cases hq
    exact ⟨by decide, ⟨34, rfl, rfl⟩, by decide +kernel, by decide +kernel⟩
  · cases hq
    exact ⟨by decide, ⟨35, rfl, rfl⟩, by decide +kernel, by decide +kernel⟩
  · cases hq
    exact ⟨by decide, ⟨36, rfl, rfl⟩, by decide +kernel, by decide +kernel⟩
  · cases hq
    exact ⟨by decide, ⟨37, rfl, rfl⟩, by decide +kernel, by decide +kernel⟩
  · cases hq
    exact ⟨by decide, ⟨25, rfl, rfl⟩, by decide +kernel, by decide +kernel⟩
  · cases hq
    exact ⟨by decide, ⟨26, rfl, rfl⟩, by decide +kernel, by decide +kernel⟩
  · cases hq
    exact ⟨by decide, ⟨27, rfl, rfl⟩, by decide +kernel, by decide +kernel⟩
  · cases hq
    exact ⟨by decide, ⟨28, rfl, rfl⟩, by decide +kernel, by decide +kernel⟩
  · cases hq
    exact ⟨by decide, ⟨29, rfl, rfl⟩, by decide +kernel, by decide +kernel⟩
  · cases hq
    exact ⟨by decide, ⟨30, rfl, rfl⟩, by decide +kernel, by decide +kernel⟩
  · cases hq
    exact ⟨by decide, ⟨31, rfl, rfl⟩, by decide +kernel, by decide +kernel⟩
  · cases hq
    exact ⟨by decide, ⟨32, rfl, rfl⟩, by decide +kernel, by decide +kernel⟩
  · cases hq
    exact ⟨by decide, ⟨33, rfl, rfl⟩, by decide +kernel, by decide +kernel⟩
  · cases hq
    exact ⟨by decide, ⟨5, rfl, rfl⟩, by decide +kernel, by decide +kernel⟩
  · cases hq
    exact ⟨by decide, ⟨38, rfl, rfl⟩, by decide +kernel, by decide +kernel⟩
  · cases hq
    exact ⟨by decide, ⟨6, rfl, rfl⟩, by decide +kernel, by decide +kernel⟩
  · cases hq
    exact ⟨by decide, ⟨39, rfl, rfl⟩, by decide +kernel, by decide +kernel⟩
  · cases hq
    exact ⟨by decide, ⟨7, rfl, rfl⟩, by decide +kernel, by decide +kernel⟩
  · cases hq
    exact ⟨by decide, ⟨40, rfl, rfl⟩, by decide +kernel, by decide +kernel⟩
  · cases hq
    exact ⟨by decide, ⟨41, rfl, rfl⟩, by decide +kernel, by decide +kernel⟩
  · cases hq
    exact ⟨by decide, ⟨42, rfl, rfl⟩, by decide +kernel, by decide +kernel⟩
  · cases hq
    exact ⟨by decide, ⟨8, rfl, rfl⟩, by decide +kernel, by decide +kernel⟩
  · cases hq
    exact ⟨by decide, ⟨43, rfl, rfl⟩, by decide +kernel, by decide +kernel⟩
  · cases hq
    exact ⟨by decide, ⟨44, rfl, rfl⟩, by decide +kernel, by decide +kernel⟩
  · cases hq
    exact ⟨by decide, ⟨45, rfl, rfl⟩, by decide +kernel, by decide +kernel⟩
  · cases hq
    exact ⟨by decide, ⟨46, rfl, rfl⟩, by decide +kernel, by decide +kernel⟩
  · cases hq
    exact ⟨by decide, ⟨9, rfl, rfl⟩, by decide +kernel, by decide +kernel⟩
  · cases hq
    exact ⟨by decide, ⟨47, rfl, rfl⟩, by decide +kernel, by decide +kernel⟩
  · cases hq
    exact ⟨by decide, ⟨48, rfl, rfl⟩, by decide +kernel, by decide +kernel⟩
  · cases hq
    exact ⟨by decide, ⟨49, rfl, rfl⟩, by decide +kernel, by decide +kernel⟩
  · cases hq
    exact ⟨by decide, ⟨50, rfl, rfl⟩, by decide +kernel, by decide +kernel⟩
  · cases hq
    exact ⟨by decide, ⟨10, rfl, rfl⟩, by decide +kernel, by decide +kernel⟩
  · cases hq
    exact ⟨by decide, ⟨51, rfl, rfl⟩, by decide +kernel, by decide +kernel⟩
  · cases hq
    exact ⟨by decide, ⟨11, rfl, rfl⟩, by decide +kernel, by decide +kernel⟩
  · cases hq
    exact ⟨by decide, ⟨52, rfl, rfl⟩, by decide +kernel, by decide +kernel⟩
  · cases hq
    exact ⟨by decide, ⟨53, rfl, rfl⟩, by decide +kernel, by decide +kernel⟩
  · cases hq
    exact ⟨by decide, ⟨54, rfl, rfl⟩, by decide +kernel, by decide +kernel⟩
  · cases hq
    exact ⟨by decide, ⟨55, rfl, rfl⟩, by decide +kernel, by decide +kernel⟩
  · cases hq
    exact ⟨by decide, ⟨11, rfl, rfl⟩, by decide +kernel, by decide +kernel⟩
  · cases hq
    exact ⟨by decide, ⟨52, rfl, rfl⟩, by decide +kernel, by decide +kernel⟩
  · cases hq
    exact ⟨by decide, ⟨53, rfl, rfl⟩, by decide +kernel, by decide +kernel⟩
  · cases hq
    exact ⟨by decide, ⟨54, rfl, rfl⟩, by decide +kernel, by decide +kernel⟩
  · cases hq
    exact ⟨by decide, ⟨55, rfl, rfl⟩, by decide +kernel, by decide +kernel⟩
  · cases hq
theorem iv_cls_kW {A : Nat → Nat} {W : y_W} {h h' : g_H} {M' : xa_M} (hC : ∃ β : Nat → Int, y_H (iv_ct h) y_Rc W β h) (hW : iv_W A W) (hM' : xa_H xm_I A M' h h') : ∃ β : Nat → Int, y_H (iv_ct h') y_Rc W β h' := by
  obtain ⟨β, hH⟩ := hC
  obtain ⟨l1, l2, l3⟩ := hM'
  refine ⟨β, ⟨by rw [l1]; exact hH.1, fun q a r hq => ?_, fun p hp => ?_⟩⟩
  · obtain ⟨ro, f, g1, g2, g3⟩ := hH.2.1 q a r hq
    cases e : xm_I q with
    | none =>
      have e2 := l3 q e
      refine ⟨ro, f, g1, by rw [e2]; exact g2, fun j hj => ?_⟩
      rcases g3 j hj with g | g
      · refine Or.inl ⟨g.1, ?_⟩
        unfold iv_ct
        rw [e2, g2]
      · exact Or.inr ⟨g.1, fun h => (y_Rc_no g1 h).elim⟩
    | some p =>
      obtain ⟨ro2, S⟩ := p
      obtain ⟨r2, ro', e1, e2, e3, e4, e5, e6⟩ := iv_fz e
      have hw := hW q r2 e1
      rw [hq] at hw
      cases hw
      rw [e2] at g1
      cases g1
      obtain ⟨f', k1, k2⟩ := l2 q ro2 S e
      refine ⟨_, f', e2, by rw [e3, e4, e5]; exact k1, fun j hj => Or.inl ⟨e6, ?_⟩⟩
      unfold iv_ct
      rw [k1]
  · obtain ⟨u1, q, a, ro, f, n, v1, v2, v3, v4, v5⟩ := hH.2.2 p hp
    refine ⟨u1, q, a, ro, f, n, v1, v2, ?_, v4, v5⟩
    have hp' : p = (300001, 8, 5) := by
      have : p ∈ [(300001, 8, 5)] := hp
      simpa using this
    subst hp'
    have hw := hW 38 8 rfl
    have : q = 38 := u1 q 38 a (A 38) v1 hw
    subst this
    rw [l3 38 (xm_I_none (by decide))]
    exact v3
def iv_num (h : g_H) : xa_M := fun q j => iv_n (iv_ct h q j.toNat)
theorem iv_num_c {h h' : g_H} {q : Nat} {j : Int} (e : iv_ct h' q j.toNat = iv_ct h q j.toNat) : iv_num h' q j = iv_num h q j := by
  unfold iv_num
  rw [e]
theorem iv_num_h {h h' : g_H} {q : Nat} (e : h'[q]? = h[q]?) (j : Int) : iv_num h' q j = iv_num h q j := iv_num_c (by unfold iv_ct; rw [e])
theorem iv_num_M {I : xa_I} {A : Nat → Nat} {M : xa_M} {h0 h : g_H} {q : Nat} {ro : y_R1} {S : Nat → Nat} (hM : xa_H I A M h0 h) (hq : I q = some (ro, S)) {j : Int} (j0 : 0 ≤ j) (j1 : j < (ro.2.2.1 : Int)) (hk : (xa_sp ro j.toNat).1 < 2) : iv_num h q j = M q j := by
  obtain ⟨f, g1, g2⟩ := hM.2.1 q ro S hq
  have g3 := g2 j.toNat (by omega)
  have e : ((j.toNat : Nat) : Int) = j := Int.toNat_of_nonneg j0
  unfold iv_num
  rw [iv_ctZ g1]
  have g3 : xa_g A (xa_cw (xa_sp ro j.toNat) (S j.toNat) (M q ((j.toNat : Nat) : Int))) (f j.toNat) := g3
  rw [e] at g3
  generalize xa_sp ro j.toNat = v at g3 hk
  obtain ⟨k, lo, hi, a, b, c, d⟩ := v
  have hk : k < 2 := hk
  rcases k with _ | _ | k
  · obtain ⟨n, e1, e2, -⟩ := g3
    rw [e1]
    exact e2
  · obtain ⟨n, e1, e2, -⟩ := g3
    rw [e1]
    exact e2
  · omega
theorem iv_num_F {E : Nat → Nat → Bool} {K : Nat → Bool} {h h' : g_H} (hF : f_Fr E K h h') {q a ci n k : Nat} {f : Nat → Value} (e : h[q]? = some (a, false, ci, n, f)) (hk : E ci k = false) : iv_num h' q k = iv_num h q k := by
  obtain ⟨f', g1, g2⟩ := hF.1 _ _ _ _ _ e
  refine iv_num_c ?_
  rw [iv_ctZ g1, iv_ctZ e, Int.toNat_natCast]
  exact g2 k hk
/-- the references of the class lead where they led when it was made; b: the two books have changed places -/
def iv_F (b : Bool) (A : Nat → Nat) (h : g_H) : Prop := ∀ q ro S, xl_I b q = some (ro, S) → ∀ j, j < ro.2.2.1 → (xa_sp ro j).1 = 2 → iv_ct h q j = .ref (A (S j))
def iv_refB (ro : y_R1) : Bool := bif ro.1 then !Nat.beq (xa_sp ro 0).1 2 else (List.range ro.2.2.1).all (fun j => !Nat.beq (xa_sp ro j).1 2 || !iv_E ro.2.1 j)
theorem iv_ref_all : (List.range 60).all (fun q => match iv_rl[q]? with
  | some r => (match y_Rc.1[r]? with
    | some ro => iv_refB ro
    | none => false)
  | none => false) = true := by decide +kernel
theorem iv_refE {q r : Nat} {ro : y_R1} (hq : q < 60) (hr : iv_rl[q]? = some r) (h : y_Rc.1[r]? = some ro) {j : Nat} (hj : j < ro.2.2.1) (h2 : (xa_sp ro j).1 = 2) : ro.1 = false ∧ iv_E ro.2.1 j = false := by
  have h1 := List.all_eq_true.mp iv_ref_all q (List.mem_range.mpr hq)
  rw [hr] at h1
  simp only [h] at h1
  unfold iv_refB at h1
  cases e : ro.1
  · rw [e, cond_false] at h1
    have h3 := List.all_eq_true.mp h1 j (List.mem_range.mpr hj)
    rw [h2] at h3
    refine ⟨rfl, ?_⟩
    simpa using h3
  · rw [e, cond_true] at h1
    have e9 : xa_sp ro j = xa_sp ro 0 := by
      unfold xa_sp
      rw [e]
      rfl
    rw [← e9, h2] at h1
    cases h1
theorem iv_F_fr {b : Bool} {A : Nat → Nat} {W : y_W} {h h' : g_H} (hI : iv_iW A W h) (hF : f_Fr iv_E iv_K h h') (hr : iv_F b A h) : iv_F b A h' := by
  intro q ro S hq j hj h2
  obtain ⟨hq6, ⟨r, e1, e2⟩, -, -⟩ := xl_fit b q ro S hq
  obtain ⟨h3, h4⟩ := iv_refE hq6 e1 e2 hj h2
  obtain ⟨⟨β, hH⟩, hW, -⟩ := hI
  obtain ⟨ro', f, g1, g2, -⟩ := hH.2.1 q (A q) r (hW q r e1)
  rw [e2] at g1
  cases g1
  rw [h3] at g2
  obtain ⟨f', g3, g4⟩ := hF.1 _ _ _ _ _ g2
  have := hr q ro S hq j hj h2
  rw [iv_ctZ g2] at this
  rw [iv_ctZ g3, g4 j h4]
  exact this
theorem iv_F_h {b : Bool} {A : Nat → Nat} {h h' : g_H} (e : ∀ q, q < 60 → h'[q]? = h[q]?) (hr : iv_F b A h) : iv_F b A h' := by
  intro q ro S hq j hj h2
  have := hr q ro S hq j hj h2
  rw [← this]
  unfold iv_ct
  rw [e q (xl_fit b q ro S hq).1]
theorem iv_F_X {b : Bool} {A : Nat → Nat} {M : xa_M} {h0 h : g_H} (hX : xa_H (xl_I b) A M h0 h) : iv_F b A h := by
  intro q ro S hq j hj h2
  obtain ⟨f, g1, g2⟩ := hX.2.1 q ro S hq
  have g3 : xa_g A (xa_cw (xa_sp ro j) (S j) (M q (j : Int))) (f j) := g2 j hj
  rw [iv_ctZ g1]
  generalize xa_sp ro j = v at g3 h2
  obtain ⟨k, lo, hi, a, c, d, e⟩ := v
  have h2 : k = 2 := h2
  subst h2
  exact g3
/-- what a call of the class that only reads the roles told leaves -/
def iv_xW (A : Nat → Nat) (W : y_W) (h h' : g_H) : Prop := ∃ W', W <+: W' ∧ iv_iW A W' h' ∧ iv_roF y_Rr W h h' ∧ ∀ M : xa_M, xa_H xm_I A M h h → xa_H xm_I A M h' h'
/-- rows of a Build that are told, by its numbers in the reference -/
def iv_bc (f : Nat → Value) (F : Nat → Nat → Value) (B : Int → Int) : Prop := iv_n (f 9) = B 0 ∧ iv_n (f 10) = B 71 ∧ (∀ j : Nat, j < 14 → iv_n (F 0 j) = B (1 + 5 * j) ∧ iv_n (F 1 j) = B (2 + 5 * j) ∧ iv_n (F 3 j) = B (4 + 5 * j) ∧ iv_n (F 4 j) = B (5 + 5 * j) ∧ iv_n (F 2 j) = B (3 + 5 * j)) ∧ ∀ j : Nat, j < 16 → iv_n (F 5 j) = B (72 + 2 * j) ∧ iv_n (F 6 j) = B (73 + 2 * j)
/-- a Build is kept at a place -/
def iv_k1 (W : y_W) (h : g_H) (i p : Nat) : Prop := ∃ (a : Nat) (ad : Nat → Nat) (f : Nat → Value) (F : Nat → Nat → Value), 107 ≤ p ∧ W[p]? = some (a, 1) ∧ (∀ k, k < 9 → W[p + 1 + k]? = some (ad k, 14 + k)) ∧ iv_ct h 11 i = .ref a ∧ iv_bd h p a ad f F ∧ iv_num h 105 i = 1 ∧ iv_bc f F (fun x => iv_num h 104 (124 * i + x))
def iv_kept (W : y_W) (h : g_H) : Prop := ∃ K : Nat → Nat, (∀ i, i < 4 → (K i = 0 ∧ iv_ct h 11 i = .null ∧ iv_num h 105 i = 0) ∨ iv_k1 W h i (K i)) ∧ ∀ i i', i < 4 → i' < 4 → i ≠ i' → K i = 0 ∨ K i' = 0 ∨ K i + 10 ≤ K i' ∨ K i' + 10 ≤ K i
/-- rows of a Build that a call may write, but for these -/
def iv_kr (k : Nat) : Bool := Nat.beq k 7 || Nat.beq k 8
theorem iv_bc_k {f f' : Nat → Value} {F F' : Nat → Nat → Value} {B B' : Int → Int} (hB : ∀ x, 0 ≤ x → x < 124 → B' x = B x) (hf : ∀ k, k < 11 → f' k = f k) (hF : ∀ k, k < 9 → iv_kr k = false → ∀ j, j < iv_ln k → F' k j = F k j) (h : iv_bc f F B) : iv_bc f' F' B' := by
  have e : ∀ k j : Nat, k < 9 → iv_kr k = false → j < iv_ln k → iv_n (F' k j) = iv_n (F k j) := fun k j a b c => by rw [hF k a b j c]
  obtain ⟨h1, h2, h3, h4⟩ := h
  refine ⟨by rw [hf 9 (by decide), hB 0 (by decide) (by decide)]; exact h1, by rw [hf 10 (by decide), hB 71 (by decide) (by decide)]; exact h2, fun j hj => ?_, fun j hj => ?_⟩
  · have := h3 j hj
    exact ⟨(e 0 j (by decide) rfl hj).trans ((this.1).trans (hB _ (by omega) (by omega)).symm), (e 1 j (by decide) rfl hj).trans ((this.2.1).trans (hB _ (by omega) (by omega)).symm), (e 3 j (by decide) rfl hj).trans ((this.2.2.1).trans (hB _ (by omega) (by omega)).symm), (e 4 j (by decide) rfl hj).trans ((this.2.2.2.1).trans (hB _ (by omega) (by omega)).symm), (e 2 j (by decide) rfl hj).trans ((this.2.2.2.2).trans (hB _ (by omega) (by omega)).symm)⟩
  · have := h4 j hj
    exact ⟨(e 5 j (by decide) rfl hj).trans (this.1.trans (hB _ (by omega) (by omega)).symm), (e 6 j (by decide) rfl hj).trans (this.2.trans (hB _ (by omega) (by omega)).symm)⟩
theorem iv_kept_k {W W' : y_W} {h h' : g_H} (hW : W <+: W') (e11 : ∀ i, i < 4 → iv_ct h' 11 i = iv_ct h 11 i) (e105 : ∀ i : Nat, i < 4 → iv_num h' 105 i = iv_num h 105 i) (e104 : ∀ x : Int, 0 ≤ x → x < 496 → iv_num h' 104 x = iv_num h 104 x) (hb : ∀ (p a : Nat) (f : Nat → Value), 107 ≤ p → W[p]? = some (a, 1) → h[p]? = some (a, false, 1, 11, f) → ∃ f', h'[p]? = some (a, false, 1, 11, f') ∧ ∀ k, k < 11 → f' k = f k) (ha : ∀ (k p a : Nat) (F : Nat → Value), k < 9 → 107 ≤ p → W[p]? = some (a, 14 + k) → h[p]? = some (a, true, 0, iv_ln k, F) → ∃ F', h'[p]? = some (a, true, 0, iv_ln k, F') ∧ (iv_kr k = false → ∀ j, j < iv_ln k → F' j = F j)) (hK : iv_kept W h) : iv_kept W' h' := by
  obtain ⟨K, k1, k2⟩ := hK
  have up : ∀ {p : Nat} {x : Nat × Nat}, W[p]? = some x → W'[p]? = some x := fun {p x} hp => by
    obtain ⟨t, rfl⟩ := hW
    rw [List.getElem?_append_left (List.getElem?_eq_some_iff.mp hp).1]
    exact hp
  refine ⟨K, fun i hi => ?_, k2⟩
  rcases k1 i hi with ⟨c1, c2, c3⟩ | ⟨a, ad, f, F, p1, w1, w2, r1, bd, n1, bc⟩
  · exact Or.inl ⟨c1, (e11 i hi).trans c2, (e105 i hi).trans c3⟩
  · have pick : ∀ k, ∃ F', k < 9 → h'[K i + 1 + k]? = some (ad k, true, 0, iv_ln k, F') ∧ (iv_kr k = false → ∀ j, j < iv_ln k → F' j = F k j) := fun k => by
      by_cases hk : k < 9
      · obtain ⟨F', g1, g2⟩ := ha k _ _ _ hk (by omega) (w2 k hk) (bd.2 k hk).2
        exact ⟨F', fun _ => ⟨g1, g2⟩⟩
      · exact ⟨fun _ => .null, fun h => absurd h hk⟩
    obtain ⟨f', g1, g2⟩ := hb _ _ _ p1 w1 bd.1
    refine Or.inr ⟨a, ad, f', fun k => Classical.choose (pick k), p1, up w1, fun k hk => up (w2 k hk), (e11 i hi).trans r1, ⟨g1, fun k hk => ⟨(g2 k (by omega)).trans (bd.2 k hk).1, (Classical.choose_spec (pick k) hk).1⟩⟩, (e105 i hi).trans n1, ?_⟩
    exact iv_bc_k (fun x x0 x1 => e104 _ (by omega) (by omega)) g2 (fun k hk hr => (Classical.choose_spec (pick k) hk).2 hr) bc
