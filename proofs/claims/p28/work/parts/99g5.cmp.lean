-- axle: both answer the same
set_option maxRecDepth 20000
/-- a call of the class that answers the same on all of a box -/
def iv_boxB (K : y_Call) (j : Nat) (vs : List y_V) (a : Int) : Bool := match K j vs [] with
  | some outs => outs.all (fun o => match o.1 with
    | some v => Nat.beq v.1 0 && (decide (v.2.1 = a) && decide (v.2.2.1 = a))
    | none => false)
  | none => false
theorem iv_box {d j : Nat} {K : y_Call} (hK : y_CS y_Rc K (g_run d)) {vs : List y_V} {a : Int} (hs : iv_boxB K j vs a = true) {A : Nat → Nat} {h : g_H} (hI : iv_inv A h) {xs : List Value} (hx : ∀ (W : y_W) (β : Nat → Int), iv_W A W → y_gA W β vs xs) : g_run d j xs h 0 0 (fun r h' => r = some (.int (Int32.ofInt a)) ∧ iv_inv A h') := by
  unfold iv_boxB at hs
  split at hs
  next outs e =>
    obtain ⟨⟨W, β, hH, hW⟩, M, hM, hInv⟩ := hI
    refine hK j vs [] outs e (iv_ct h) W β h xs hH (hx W β hW) (fun q hq => by cases hq) _ (fun out ho W' β' h' x hWW _ _ hH' hR _ _ => ?_)
    refine ⟨?_, iv_back hW hM hInv hWW hH'⟩
    have hb := List.all_eq_true.mp hs out ho
    obtain ⟨o1, o2⟩ := out
    cases o1 with
    | none => cases hb
    | some v =>
      obtain ⟨k, lo, hi, rq⟩ := v
      simp only [Bool.and_eq_true, Nat.beq_eq, decide_eq_true_eq] at hb
      obtain ⟨rfl, v2, v3⟩ := hb
      obtain ⟨y, rfl, n, rfl, n1, n2, -⟩ := hR
      have hn : n.toInt = a := by omega
      rw [← hn, Int32.ofInt_toInt]
  next => cases hs
def iv_bv (lo hi : Int) : y_V := (0, lo, hi, 0, 0, 0, 0)
theorem iv_bv_g {W : y_W} {β : Nat → Int} {lo hi : Int} {m : Int32} (h : lo ≤ m.toInt ∧ m.toInt ≤ hi) : y_g W β (iv_bv lo hi) (.int m) := ⟨m, rfl, h.1, h.2, fun h => absurd rfl h, fun h => absurd rfl h⟩
def iv_axle (a b c : Int) : Int := if 0 ≤ a ∧ a ≤ 9 ∧ -500 ≤ b ∧ b ≤ 500 ∧ -500 ≤ c ∧ c ≤ 500 then 1 else 0
def iv_abx (l1 u1 l2 u2 l3 u3 : Int) : List y_V := [(2, 0, 0, 0, 0, 0, 0), iv_bv l1 u1, iv_bv l2 u2, iv_bv l3 u3]
set_option maxRecDepth 100000 in
theorem iv_axle_bx : iv_boxB (y_Kc 60) 137 (iv_abx (-2147483648) (-1) (-2147483648) 2147483647 (-2147483648) 2147483647) 0 = true ∧ iv_boxB (y_Kc 60) 137 (iv_abx 10 2147483647 (-2147483648) 2147483647 (-2147483648) 2147483647) 0 = true ∧ iv_boxB (y_Kc 60) 137 (iv_abx 0 9 (-2147483648) (-501) (-2147483648) 2147483647) 0 = true ∧ iv_boxB (y_Kc 60) 137 (iv_abx 0 9 501 2147483647 (-2147483648) 2147483647) 0 = true ∧ iv_boxB (y_Kc 60) 137 (iv_abx 0 9 (-500) 500 (-2147483648) (-501)) 0 = true ∧ iv_boxB (y_Kc 60) 137 (iv_abx 0 9 (-500) 500 501 2147483647) 0 = true ∧ iv_boxB (y_Kc 60) 137 (iv_abx 0 9 (-500) 500 (-500) 500) 1 = true := by decide +kernel
theorem iv_axleX (A : Nat → Nat) (h : g_H) (m1 m2 m3 : Int32) (hI : iv_inv A h) : g_run 60 137 [.ref (A 0), .int m1, .int m2, .int m3] h 0 0 (fun r h' => r = some (.int (Int32.ofInt (iv_axle m1.toInt m2.toInt m3.toInt))) ∧ iv_inv A h') := by
  have go : ∀ {l1 u1 l2 u2 l3 u3 v : Int}, iv_boxB (y_Kc 60) 137 (iv_abx l1 u1 l2 u2 l3 u3) v = true → l1 ≤ m1.toInt ∧ m1.toInt ≤ u1 → l2 ≤ m2.toInt ∧ m2.toInt ≤ u2 → l3 ≤ m3.toInt ∧ m3.toInt ≤ u3 → iv_axle m1.toInt m2.toInt m3.toInt = v → g_run 60 137 [.ref (A 0), .int m1, .int m2, .int m3] h 0 0 (fun r h' => r = some (.int (Int32.ofInt (iv_axle m1.toInt m2.toInt m3.toInt))) ∧ iv_inv A h') := by
    intro l1 u1 l2 u2 l3 u3 v hs h1 h2 h3 hv
    rw [hv]
    exact iv_box (y_Kc_ok 60) hs hI (fun W β hW => ⟨⟨0, A 0, rfl, hW 0 0 rfl⟩, iv_bv_g h1, iv_bv_g h2, iv_bv_g h3, trivial⟩)
  obtain ⟨b1, b2, b3, b4, b5, b6, b7⟩ := iv_axle_bx
  have p1 := Int32.le_toInt m1
  have q1 := Int32.toInt_lt m1
  have p2 := Int32.le_toInt m2
  have q2 := Int32.toInt_lt m2
  have p3 := Int32.le_toInt m3
  have q3 := Int32.toInt_lt m3
  have no : ¬ (0 ≤ m1.toInt ∧ m1.toInt ≤ 9 ∧ -500 ≤ m2.toInt ∧ m2.toInt ≤ 500 ∧ -500 ≤ m3.toInt ∧ m3.toInt ≤ 500) → iv_axle m1.toInt m2.toInt m3.toInt = 0 := fun h => if_neg h
  by_cases c1 : m1.toInt < 0
  · exact go b1 (by omega) (by omega) (by omega) (no (by omega))
  by_cases c2 : 9 < m1.toInt
  · exact go b2 (by omega) (by omega) (by omega) (no (by omega))
  by_cases c3 : m2.toInt < -500
  · exact go b3 (by omega) (by omega) (by omega) (no (by omega))
  by_cases c4 : 500 < m2.toInt
  · exact go b4 (by omega) (by omega) (by omega) (no (by omega))
  by_cases c5 : m3.toInt < -500
  · exact go b5 (by omega) (by omega) (by omega) (no (by omega))
  by_cases c6 : 500 < m3.toInt
  · exact go b6 (by omega) (by omega) (by omega) (no (by omega))
  exact go b7 (by omega) (by omega) (by omega) (if_pos (by omega))
theorem ms_axleF {A : Nat → Nat} {h0 : g_H} {d : Nat} {M : xa_M} {post : Option xa_V → xa_M → Prop} {l1 u1 l2 u2 l3 u3 : Int} {a b c : Int} (hI : xm_Inv M) (k : ∀ (r : Int) (M1 : xa_M), r = iv_axle a b c → xm_Inv M1 → post (some (0, 0, r, r, r)) M1) : xa_C xm_I A h0 (d + 3) 262 [(2, 60, 0, 0, 0), (0, 0, l1, u1, a), (0, 0, l2, u2, b), (0, 0, l3, u3, c)] M post := by
  refine xa_C_arg [(2, 60, 0, 0, 0), (0, 0, (-2147483648), 2147483647, a), (0, 0, (-2147483648), 2147483647, b), (0, 0, (-2147483648), 2147483647, c)] (xa_svR (xa_svI (fun _ _ _ _ => by omega) (xa_svI (fun _ _ _ _ => by omega) (xa_svI (fun _ _ _ _ => by omega) xa_sv0)))) ?_
  refine xa_meth (Q0 := (4, 2, false, 0, 0, 12)) (by decide +kernel) ⟨rfl, rfl⟩ (full := s_c_262) rfl rfl ?_
  intro hM hv Q hgo
  refine hgo.1 32 [] 0 _ _ _ ?_
  show xa_C xm_I A h0 _ 215 [(0, 0, (-2147483648), 2147483647, a)] (xa_up M 60 21 0) _
  refine ct_isAxle ?_ ?_
  · intro (i1 : 0 ≤ a ∧ a ≤ 9)
    show xa_C xm_I A h0 _ 214 [(0, 0, (-2147483648), 2147483647, b), (0, 0, (-500), (-500), (-500)), (0, 0, 500, 500, 500)] (xa_up M 60 21 0) _
    refine ct_in ?_ ?_
    · intro (i2 : (-500) ≤ b ∧ b ≤ 500)
      show xa_C xm_I A h0 _ 214 [(0, 0, (-2147483648), 2147483647, c), (0, 0, (-500), (-500), (-500)), (0, 0, 500, 500, 500)] (xa_up M 60 21 0) _
      refine ct_in ?_ ?_
      · intro (i3 : (-500) ≤ c ∧ c ≤ 500)
        refine And.intro (show 0 ≤ a ∧ a < 10 by omega) ?_
        refine And.intro (show (-500) ≤ b ∧ b ≤ 500 by omega) ?_
        refine And.intro (show 0 ≤ a ∧ a < 10 by omega) ?_
        refine And.intro (show (-500) ≤ c ∧ c ≤ 500 by omega) ?_
        show post (some (0, 0, 1, 1, 1)) (xa_up (xa_up (xa_up M 60 21 0) 68 a b) 69 a c)
        exact k 1 _ (if_pos (by omega)).symm (xm_Inv_is (xm_is_u rfl (xm_is_u rfl (xm_is_u rfl xm_is_r))) hI)
      · intro (i3 : ¬ ((-500) ≤ c ∧ c ≤ 500))
        show post (some (0, 0, 0, 0, 0)) (xa_up M 60 21 0)
        exact k 0 _ (if_neg (by omega)).symm (xm_Inv_is (xm_is_u rfl xm_is_r) hI)
    · intro (i2 : ¬ ((-500) ≤ b ∧ b ≤ 500))
      show post (some (0, 0, 0, 0, 0)) (xa_up M 60 21 0)
      exact k 0 _ (if_neg (by omega)).symm (xm_Inv_is (xm_is_u rfl xm_is_r) hI)
  · intro (i1 : ¬ (0 ≤ a ∧ a ≤ 9))
    show post (some (0, 0, 0, 0, 0)) (xa_up M 60 21 0)
    exact k 0 _ (if_neg (by omega)).symm (xm_Inv_is (xm_is_u rfl xm_is_r) hI)
theorem iv_axleM (A : Nat → Nat) (h : g_H) (m1 m2 m3 : Int32) (hI : iv_inv A h) : g_run 60 262 [.ref (A 60), .int m1, .int m2, .int m3] h 0 0 (fun r h' => r = some (.int (Int32.ofInt (iv_axle m1.toInt m2.toInt m3.toInt))) ∧ iv_inv A h') := by
  refine g_run_mono (iv_callM2 (d := 60) hI (vs := [(2, 60, 0, 0, 0), (0, 0, -2147483648, 2147483647, m1.toInt), (0, 0, -2147483648, 2147483647, m2.toInt), (0, 0, -2147483648, 2147483647, m3.toInt)]) (xs := [.ref (A 60), .int m1, .int m2, .int m3]) ⟨rfl, iv_i m1, iv_i m2, iv_i m3, trivial⟩ (fun o => ∃ r, r = iv_axle m1.toInt m2.toInt m3.toInt ∧ o = some (0, 0, r, r, r)) (fun M hM => ms_axleF hM (fun r M1 hr h => ⟨⟨r, hr, rfl⟩, h⟩))) (fun r h' hp => ⟨?_, hp.2⟩)
  obtain ⟨⟨o, ⟨r, hr, rfl⟩, y, e, z, hz, hz2, -⟩, -⟩ := hp
  rw [e, hz, ← hr, ← hz2, Int32.ofInt_toInt]
theorem iv_cmp_pair (A : Nat → Nat) : iv_pair (iv_inv A) A 137 262 [0, 0, 0] true false := by
  intro h as hI hs
  obtain ⟨m1, ys, rfl, -, hs⟩ := iv_spc hs
  obtain ⟨m2, ys, rfl, -, hs⟩ := iv_spc hs
  obtain ⟨m3, ys, rfl, -, hs⟩ := iv_spc hs
  obtain rfl := iv_sp0 hs
  refine ⟨0, 0, by decide, by decide, g_run_mono (iv_axleX A h m1 m2 m3 hI) (fun r1 h1 hp => ?_)⟩
  refine ⟨_, hp.1, iv_sh_ok hp.2, g_run_mono (iv_axleM A h1 m1 m2 m3 hp.2) (fun r2 h2 hp2 => ?_)⟩
  exact ⟨⟨_, hp2.1, fun _ => rfl⟩, hp2.2⟩
