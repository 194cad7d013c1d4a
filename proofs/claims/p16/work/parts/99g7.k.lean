-- builds: kept, and again; the book (made by wip/u/mkk.py)
set_option maxRecDepth 20000
theorem iv_c1lt {m : Int32} : g_c1 m .lt = decide (m.toInt < 0) := by
  show decide (m < 0) = _
  refine decide_eq_decide.mpr ?_
  rw [Int32.lt_iff_toInt_lt]
  exact Iff.rfl
theorem iv_c2ge {m : Int32} {n : Nat} (hn : n ≤ 1000) : g_c2 m (Int32.ofNat n) .ge = decide ((n : Int) ≤ m.toInt) := by
  show decide (Int32.ofNat n ≤ m) = _
  refine decide_eq_decide.mpr ?_
  have e : (Int32.ofNat n).toInt = n := iv_i32 hn
  rw [Int32.le_iff_toInt_le, e]
theorem iv_c2lt {m : Int32} {n : Nat} (hn : n ≤ 1000) : g_c2 m (Int32.ofNat n) .lt = decide (m.toInt < (n : Int)) := by
  show decide (m < Int32.ofNat n) = _
  refine decide_eq_decide.mpr ?_
  have e : (Int32.ofNat n).toInt = n := iv_i32 hn
  rw [Int32.lt_iff_toInt_lt, e]
theorem iv_vp {m : Int32} {n : Nat} (h0 : 0 ≤ m.toInt) (h1 : m.toInt < (n : Int)) : vp_in m n := fun hv => by
  rcases hv with hv | hv
  · rw [Int32.lt_iff_toInt_lt, show (0 : Int32).toInt = 0 from rfl] at hv
    omega
  · have e : m.toNatClampNeg = m.toInt.toNat := rfl
    rw [e] at hv
    omega
theorem iv_rfr {v : Value} (h : v = .null ∨ ∃ a, v = .ref a) : va_rf (g_r v) = v := by
  rcases h with rfl | ⟨a, rfl⟩ <;> rfl
/-- the cells that lead to the builds -/
def iv_b0 (A : Nat → Nat) (h : g_H) (f0 f11 : Nat → Value) : Prop := h[0]? = some (A 0, false, 11, 12, f0) ∧ f0 0 = .ref (A 1) ∧ f0 1 = .ref (A 11) ∧ h[11]? = some (A 11, true, 4, 4, f11) ∧ ∀ i, i < 4 → f11 i = .null ∨ ∃ a, f11 i = .ref a
theorem iv_buildAt {d : Nat} {A : Nat → Nat} {h : g_H} {m : Int32} {f0 f11 : Nat → Value} (hb : iv_b0 A h f0 f11) : g_run (d + 1) 204 [.ref (A 0), .int m] h 0 0 (fun r h' => h' = h ∧ r = some (if 0 ≤ m.toInt ∧ m.toInt < 4 then f11 m.toInt.toNat else .null)) := by
  obtain ⟨h0, -, e1, h11, hn⟩ := hb
  obtain ⟨q1, q2, q3, q4, q5⟩ := s_mi_ok 204 (2, 4, false, 0, 0, 11) (by decide +kernel)
  obtain ⟨c1, c2⟩ := s_codes_ok 204 (2, 4, false, 0, 0, 11) (by decide +kernel)
  rw [show s_codes.getD 204 [] = s_c_204 from rfl] at c1 c2
  obtain ⟨cn, q3⟩ : ∃ n, g_rt 204 = some (.object n) := q3
  refine ⟨q1, by rw [q2]; exact (show 2 ≤ 2 by decide), ?_⟩
  rw [q5, q2, q4]
  intro P hend hcl
  show P (0, [(0, .ref (A 0)), (1, .int m)], [], 0, 0, h)
  have m0 : ((0 : Nat), Value.ref (A 0)) ∈ ([(0, .ref (A 0)), (1, .int m)] : g_L) := List.mem_cons_self
  have m1 : ((1 : Nat), Value.int m) ∈ ([(0, .ref (A 0)), (1, .int m)] : g_L) := List.mem_cons_of_mem _ List.mem_cons_self
  have nul : ¬ (0 ≤ m.toInt ∧ m.toInt < 4) → P (22, [(0, .ref (A 0)), (1, .int m)], [], 0, 0, h) := by
    intro hc
    refine ir_co hcl (iv_dec (c2 _ (iv_in (c := []) (pc := 22) rfl)) (by decide) (by decide)) rfl ?_
    exact hend _ ⟨Nat.le_refl _, Nat.le_refl _, Or.inr (Or.inr (Or.inl ⟨_, cn, iv_dec (c2 _ (iv_in (c := []) (pc := 23) rfl)) (by decide) (by decide), q3, Or.inl rfl, rfl, rfl, by rw [if_neg hc]⟩))⟩
  refine ir_ld hcl (iv_dec (c2 _ (iv_in (c := []) (pc := 0) rfl)) (by decide) (by decide)) rfl m1 rfl ?_
  refine ir_if hcl (iv_dec (c2 _ (iv_in (c := []) (pc := 1) rfl)) (by decide) (by decide)) 22 rfl rfl ?_
  by_cases c0 : m.toInt < 0
  · rw [if_pos (by rw [iv_c1lt]; exact decide_eq_true c0)]
    exact nul (by omega)
  · rw [if_neg (by rw [iv_c1lt, decide_eq_true_eq]; exact c0)]
    refine ir_ld hcl (iv_dec (c2 _ (iv_in (c := []) (pc := 4) rfl)) (by decide) (by decide)) rfl m1 rfl ?_
    refine ir_ld hcl (iv_dec (c2 _ (iv_in (c := []) (pc := 5) rfl)) (by decide) (by decide)) rfl m0 rfl ?_
    refine iv_getfield hcl (c2 _ (iv_in (c := []) (pc := 6) rfl)) (Or.inl rfl) (q := 0) (n := 12) (f := f0) h0 (by decide) ?_
    rw [e1]
    refine ir_al hcl (iv_dec (c2 _ (iv_in (c := []) (pc := 9) rfl)) (by decide) (by decide)) (q := 11) rfl (by decide) h11 ?_
    refine ir_ic hcl (iv_dec (c2 _ (iv_in (c := []) (pc := 10) rfl)) (by decide) (by decide)) 22 rfl rfl ?_
    by_cases c4 : (4 : Int) ≤ m.toInt
    · rw [if_pos (by rw [iv_c2ge (by decide)]; exact decide_eq_true c4)]
      exact nul (by omega)
    · rw [if_neg (by rw [iv_c2ge (by decide), decide_eq_true_eq]; exact c4)]
      refine ir_ld hcl (iv_dec (c2 _ (iv_in (c := []) (pc := 13) rfl)) (by decide) (by decide)) rfl m0 rfl ?_
      refine iv_getfield hcl (c2 _ (iv_in (c := []) (pc := 14) rfl)) (Or.inl rfl) (q := 0) (n := 12) (f := f0) h0 (by decide) ?_
      rw [e1]
      refine ir_ld hcl (iv_dec (c2 _ (iv_in (c := []) (pc := 17) rfl)) (by decide) (by decide)) rfl m1 rfl ?_
      refine ir_aa hcl (iv_dec (c2 _ (iv_in (c := []) (pc := 18) rfl)) (by decide) (by decide)) (q := 11) rfl h11 (iv_vp (by omega) (by omega)) ?_
      refine ir_go hcl (iv_dec (c2 _ (iv_in (c := []) (pc := 19) rfl)) (by decide) (by decide)) 23 rfl rfl ?_
      have hv := hn m.toInt.toNat (by omega)
      have e9 : m.toNatClampNeg = m.toInt.toNat := rfl
      rw [e9, iv_rfr hv]
      exact hend _ ⟨Nat.le_refl _, Nat.le_refl _, Or.inr (Or.inr (Or.inl ⟨_, cn, iv_dec (c2 _ (iv_in (c := []) (pc := 23) rfl)) (by decide) (by decide), q3, hv, rfl, rfl, by rw [if_pos ⟨by omega, by omega⟩]⟩))⟩
/-- roles of a Build's cells -/
def iv_wb (W : y_W) (p a : Nat) (ad : Nat → Nat) : Prop := W[p]? = some (a, 1) ∧ ∀ k, k < 9 → W[p + 1 + k]? = some (ad k, 14 + k)
theorem iv_iW_copy {A : Nat → Nat} {W : y_W} {h h1 : g_H} {s t a a' : Nat} {ad ad' : Nat → Nat} {f f2 : Nat → Value} {F F2 : Nat → Nat → Value} (hI : iv_iW A W h) (hs : iv_bd h s a ad f F) (ws : iv_wb W s a ad) (wt : iv_wb W t a' ad') (hl : h1.length = h.length) (ho : ∀ q, ¬ (t ≤ q ∧ q ≤ t + 9) → h1[q]? = h[q]?) (hb : iv_bd h1 t a' ad' f2 F2) (e9 : f2 9 = f 9) (e10 : f2 10 = f 10) (eF : ∀ k j, k < 9 → j < iv_ln k → F2 k j = F k j) (ht : t = 1 ∨ 107 ≤ t) : iv_iW A W h1 ∧ ∀ M : xa_M, xa_H xm_I A M h h → xa_H xm_I A M h1 h1 := by
  obtain ⟨⟨β, hH⟩, hW, M, hM, hInv⟩ := hI
  have km : ∀ M : xa_M, xa_H xm_I A M h h → xa_H xm_I A M h1 h1 := fun M hM => by
    refine ⟨rfl, fun q ro S hq => ?_, fun _ _ => rfl⟩
    obtain ⟨f, k1, k2⟩ := hM.2.1 q ro S hq
    have hlt := xm_I_lt hq
    exact ⟨f, by rw [ho q (by omega)]; exact k1, k2⟩
  refine ⟨⟨⟨β, by rw [hl]; exact hH.1, fun q a9 r hq => ?_, fun p hp => ?_⟩, hW, M, km M hM, hInv⟩, km⟩
  · by_cases hin : t ≤ q ∧ q ≤ t + 9
    · by_cases hq0 : q = t
      · subst hq0
        rw [wt.1] at hq
        cases hq
        obtain ⟨ro, f9, g1, g2, g3⟩ := hH.2.1 s a 1 ws.1
        cases g1
        rw [hs.1] at g2
        have g2 := Option.some.inj g2
        simp only [Prod.mk.injEq] at g2
        obtain ⟨-, -, -, -, rfl⟩ := g2
        refine ⟨_, f2, rfl, hb.1, fun j hj => Or.inr ⟨?_, fun h => (y_Rc_no (r := 1) rfl h).elim⟩⟩
        have hj : j < 11 := hj
        by_cases j9 : j < 9
        · have hr : f2 j = .ref (ad' j) := (hb.2 j j9).1
          have hw := wt.2 j j9
          rcases j with _ | _ | _ | _ | _ | _ | _ | _ | _ | j
          all_goals first | exact ⟨_, _, hr, hw⟩ | omega
        · have h9 : y_g W β (0, -2147483648, 2147483647, 0, 0, 0, 0) (f 9) := ((g3 9 (show 9 < 11 by decide)).resolve_left (fun h => by cases h.1)).1
          have h10 : y_g W β (0, -2147483648, 2147483647, 0, 0, 0, 0) (f 10) := ((g3 10 (show 10 < 11 by decide)).resolve_left (fun h => by cases h.1)).1
          obtain rfl | rfl : j = 9 ∨ j = 10 := by omega
          · rw [e9]
            exact h9
          · rw [e10]
            exact h10
      · obtain ⟨k, rfl⟩ : ∃ k, q = t + 1 + k := ⟨q - t - 1, by omega⟩
        have hk : k < 9 := by omega
        rw [wt.2 k hk] at hq
        cases hq
        obtain ⟨ro, f9, g1, g2, g3⟩ := hH.2.1 (s + 1 + k) (ad k) (14 + k) (ws.2 k hk)
        rw [(hs.2 k hk).2] at g2
        have g2 := Option.some.inj g2
        simp only [Prod.mk.injEq] at g2
        obtain ⟨-, x1, x2, x3, rfl⟩ := g2
        have hh := (hb.2 k hk).2
        refine ⟨ro, F2 k, g1, by rw [← x1, ← x2, ← x3]; exact hh, fun j hj => ?_⟩
        have hj' : j < iv_ln k := by
          rw [x3]
          exact hj
        rcases g3 j hj with g | g
        · exact Or.inl ⟨g.1, (iv_ctZ hh j).symm⟩
        · exact Or.inr ⟨by rw [eF k j hk hj']; exact g.1, fun h => (y_Rc_no g1 h).elim⟩
    · obtain ⟨ro, f9, g1, g2, g3⟩ := hH.2.1 q a9 r hq
      have e := ho q hin
      refine ⟨ro, f9, g1, by rw [e]; exact g2, fun j hj => ?_⟩
      rcases g3 j hj with g | g
      · refine Or.inl ⟨g.1, ?_⟩
        unfold iv_ct
        rw [e, g2]
      · exact Or.inr ⟨g.1, fun h => (y_Rc_no g1 h).elim⟩
  · obtain ⟨u1, q, a9, ro, f9, n, v1, v2, v3, v4, v5⟩ := hH.2.2 p hp
    refine ⟨u1, q, a9, ro, f9, n, v1, v2, ?_, v4, v5⟩
    have hp' : p = (300001, 8, 5) := by
      have : p ∈ [(300001, 8, 5)] := hp
      simpa using this
    subst hp'
    have hw := hW 38 8 rfl
    have : q = 38 := u1 q 38 a9 (A 38) v1 hw
    subst this
    rw [ho 38 (by omega)]
    exact v3
/-- the lump, as a Build at 1 -/
theorem iv_lump {A : Nat → Nat} {W : y_W} {b : Bool} {h : g_H} (hI : iv_iW A W h) (hF : iv_F b A h) : iv_wb W 1 (A 1) (fun k => A (2 + k)) ∧ ∃ f F, iv_bd h 1 (A 1) (fun k => A (2 + k)) f F ∧ iv_bi f F := by
  obtain ⟨⟨β, hH⟩, hW, -⟩ := hI
  have w1 := hW 1 1 rfl
  have wk : ∀ k, k < 9 → W[1 + 1 + k]? = some (A (2 + k), 14 + k) := by
    intro k hk
    have : iv_rl[2 + k]? = some (14 + k) := by
      rcases k with _ | _ | _ | _ | _ | _ | _ | _ | _ | k
      all_goals first | rfl | omega
    rw [show 1 + 1 + k = 2 + k by omega]
    exact hW _ _ this
  obtain ⟨ro, f, g1, g2, g3⟩ := hH.2.1 1 (A 1) 1 w1
  cases g1
  have ints : ∀ k, k < 9 → ∃ G, h[1 + 1 + k]? = some (A (2 + k), true, 0, iv_ln k, G) ∧ ∀ j, j < iv_ln k → ∃ v : Int32, G j = .int v := by
    intro k hk
    obtain ⟨ro, G, x1, x2, x3⟩ := hH.2.1 _ _ _ (wk k hk)
    have arr : ∃ lo hi : Int, ro = (true, 0, iv_ln k, 0, [(0, lo, hi, 0, 0, 0, 0)]) := by
      rcases k with _ | _ | _ | _ | _ | _ | _ | _ | _ | k
      all_goals first | (cases x1; exact ⟨_, _, rfl⟩) | omega
    obtain ⟨lo, hi, rfl⟩ := arr
    refine ⟨G, x2, fun j hj => ?_⟩
    rcases x3 j hj with g | g
    · cases g.1
    · have g := g.1
      unfold y_spj at g
      rw [if_pos rfl, if_pos (Or.inl rfl)] at g
      obtain ⟨v, e, -⟩ := g
      exact ⟨v, e⟩
  have pick : ∀ k, ∃ G, k < 9 → h[1 + 1 + k]? = some (A (2 + k), true, 0, iv_ln k, G) ∧ ∀ j, j < iv_ln k → ∃ v : Int32, G j = .int v := fun k => by
    by_cases hk : k < 9
    · obtain ⟨G, hG⟩ := ints k hk
      exact ⟨G, fun _ => hG⟩
    · exact ⟨fun _ => .null, fun h => absurd h hk⟩
  refine ⟨⟨w1, wk⟩, f, fun k => Classical.choose (pick k), ⟨g2, fun k hk => ⟨?_, (Classical.choose_spec (pick k) hk).1⟩⟩, ?_, ?_, fun k j hk hj => (Classical.choose_spec (pick k) hk).2 j hj⟩
  · have := hF 1 _ _ rfl k (show k < 11 by omega) (by
      rcases k with _ | _ | _ | _ | _ | _ | _ | _ | _ | k
      all_goals first | rfl | omega)
    rw [iv_ctZ g2] at this
    exact this
  · obtain ⟨v, e, -⟩ := ((g3 9 (show 9 < 11 by decide)).resolve_left (fun h => by cases h.1)).1
    exact ⟨v, e⟩
  · obtain ⟨v, e, -⟩ := ((g3 10 (show 10 < 11 by decide)).resolve_left (fun h => by cases h.1)).1
    exact ⟨v, e⟩
/-- a kept Build's rows are numbers -/
theorem iv_bints {A : Nat → Nat} {W : y_W} {h : g_H} (hI : iv_iW A W h) {p a : Nat} {ad : Nat → Nat} {f : Nat → Value} {F : Nat → Nat → Value} (hw : iv_wb W p a ad) (hb : iv_bd h p a ad f F) : iv_bi f F := by
  obtain ⟨⟨β, hH⟩, hW, -⟩ := hI
  obtain ⟨ro, f9, g1, g2, g3⟩ := hH.2.1 p a 1 hw.1
  cases g1
  rw [hb.1] at g2
  have g2 := Option.some.inj g2
  simp only [Prod.mk.injEq] at g2
  obtain ⟨-, -, -, -, rfl⟩ := g2
  refine ⟨?_, ?_, fun k j hk hj => ?_⟩
  · obtain ⟨v, e, -⟩ := ((g3 9 (show 9 < 11 by decide)).resolve_left (fun h => by cases h.1)).1
    exact ⟨v, e⟩
  · obtain ⟨v, e, -⟩ := ((g3 10 (show 10 < 11 by decide)).resolve_left (fun h => by cases h.1)).1
    exact ⟨v, e⟩
  · obtain ⟨ro, G, x1, x2, x3⟩ := hH.2.1 _ _ _ (hw.2 k hk)
    rw [(hb.2 k hk).2] at x2
    have x2 := Option.some.inj x2
    simp only [Prod.mk.injEq] at x2
    obtain ⟨-, y1, y2, y3, rfl⟩ := x2
    have arr : ∃ lo hi : Int, ro = (true, 0, iv_ln k, 0, [(0, lo, hi, 0, 0, 0, 0)]) := by
      rcases k with _ | _ | _ | _ | _ | _ | _ | _ | _ | k
      all_goals first | (cases x1; exact ⟨_, _, rfl⟩) | omega
    obtain ⟨lo, hi, rfl⟩ := arr
    rcases x3 j hj with g | g
    · cases g.1
    · have g := g.1
      unfold y_spj at g
      rw [if_pos rfl, if_pos (Or.inl rfl)] at g
      obtain ⟨v, e, -⟩ := g
      exact ⟨v, e⟩
theorem iv_b0_of {A : Nat → Nat} {W : y_W} {b : Bool} {h : g_H} (hI : iv_iW A W h) (hF : iv_F b A h) : ∃ f0 f11, iv_b0 A h f0 f11 := by
  obtain ⟨⟨β, hH⟩, hW, -⟩ := hI
  obtain ⟨ro, f0, g1, g2, -⟩ := hH.2.1 0 (A 0) 0 (hW 0 0 rfl)
  cases g1
  obtain ⟨ro, f11, x1, x2, x3⟩ := hH.2.1 11 (A 11) 13 (hW 11 13 rfl)
  cases x1
  have e0 := hF 0 _ _ rfl 0 (show 0 < 12 by decide) rfl
  have e1 := hF 0 _ _ rfl 1 (show 1 < 12 by decide) rfl
  rw [iv_ctZ g2] at e0 e1
  refine ⟨f0, f11, g2, e0, e1, x2, fun i hi => ?_⟩
  rcases x3 i hi with g | g
  · cases g.1
  · have g := g.1
    unfold y_spj at g
    rw [if_pos rfl, if_pos (Or.inl rfl)] at g
    rcases g with g | ⟨q, a, g, -⟩
    · exact Or.inl g
    · exact Or.inr ⟨a, g⟩
/-- what stands in a kept build, or none -/
theorem iv_k_at {A : Nat → Nat} {W : y_W} {h : g_H} {f0 f11 : Nat → Value} (hb : iv_b0 A h f0 f11) {m : Int32} (hK : iv_kept W h) : (if 0 ≤ m.toInt ∧ m.toInt < 4 then f11 m.toInt.toNat else .null) = .null ∧ ((0 ≤ m.toInt ∧ m.toInt < 4) → iv_num h 105 m.toInt = 0) ∨ ∃ (i p : Nat) (a : Nat), i < 4 ∧ m.toInt = i ∧ (if 0 ≤ m.toInt ∧ m.toInt < 4 then f11 m.toInt.toNat else .null) = .ref a ∧ iv_k1 W h i p ∧ iv_ct h 11 i = .ref a := by
  obtain ⟨K, k1, -⟩ := hK
  by_cases c : 0 ≤ m.toInt ∧ m.toInt < 4
  · rw [if_pos c]
    have e : iv_ct h 11 m.toInt.toNat = f11 m.toInt.toNat := iv_ctZ hb.2.2.2.1 _
    rcases k1 m.toInt.toNat (by omega) with ⟨-, c2, c3⟩ | hk
    · refine Or.inl ⟨by rw [← e]; exact c2, fun _ => ?_⟩
      rw [← c3]
      congr 1 <;> omega
    · obtain ⟨a, ad, f, F, x1, x2, x3, x4, x5⟩ := hk
      exact Or.inr ⟨m.toInt.toNat, _, a, by omega, by omega, by rw [← e]; exact x4, ⟨a, ad, f, F, x1, x2, x3, x4, x5⟩, x4⟩
  · rw [if_neg c]
    exact Or.inl ⟨rfl, fun h => absurd h c⟩
/-- what a call of again has done -/
def iv_agQ (A : Nat → Nat) (W : y_W) (h : g_H) (m : Int32) (r : Option Value) (h1 : g_H) : Prop := (r = some (.int 0) ∧ h1 = h ∧ ((0 ≤ m.toInt ∧ m.toInt < 4) → iv_num h 105 m.toInt = 0)) ∨ ∃ (i p a : Nat) (ad : Nat → Nat) (f f2 : Nat → Value) (F F2 : Nat → Nat → Value), r = some (.int 1) ∧ i < 4 ∧ m.toInt = i ∧ 107 ≤ p ∧ iv_wb W p a ad ∧ iv_bd h p a ad f F ∧ iv_num h 105 i = 1 ∧ iv_bc f F (fun x => iv_num h 104 (124 * i + x)) ∧ h1.length = h.length ∧ (∀ q, ¬ (1 ≤ q ∧ q ≤ 1 + 9) → h1[q]? = h[q]?) ∧ iv_bd h1 1 (A 1) (fun k => A (2 + k)) f2 F2 ∧ f2 9 = f 9 ∧ f2 10 = f 10 ∧ ∀ k j, k < 9 → j < iv_ln k → F2 k j = F k j
theorem iv_againX {A : Nat → Nat} {W : y_W} {b : Bool} {h : g_H} (hI : iv_iW A W h) (hF : iv_F b A h) (hK : iv_kept W h) (m : Int32) : g_run 60 203 [.ref (A 0), .int m] h 0 0 (iv_agQ A W h m) := by
  obtain ⟨f0, f11, hb⟩ := iv_b0_of hI hF
  obtain ⟨wl, fl, Fl, bl, -⟩ := iv_lump hI hF
  obtain ⟨q1, q2, q3, q4, q5⟩ := s_mi_ok 203 (3, 2, false, 0, 0, 11) (by decide +kernel)
  obtain ⟨c1, c2⟩ := s_codes_ok 203 (3, 2, false, 0, 0, 11) (by decide +kernel)
  rw [show s_codes.getD 203 [] = s_c_203 from rfl] at c1 c2
  have q3 : g_rt 203 = some .boolean := q3
  refine ⟨q1, by rw [q2]; exact (show 2 ≤ 3 by decide), ?_⟩
  rw [q5, q2, q4]
  intro P hend hcl
  show P (0, [(0, .ref (A 0)), (1, .int m)], [], 0, 0, h)
  have m0 : ((0 : Nat), Value.ref (A 0)) ∈ ([(0, .ref (A 0)), (1, .int m)] : g_L) := List.mem_cons_self
  have m1 : ((1 : Nat), Value.int m) ∈ ([(0, .ref (A 0)), (1, .int m)] : g_L) := List.mem_cons_of_mem _ List.mem_cons_self
  have h204 : (g_me 204).2.1 = 11 := (s_mi_ok 204 _ (show s_mi[204]? = some (2, 4, false, 0, 0, 11) by decide +kernel)).2.2.2.2
  have h201 : (g_me 201).2.1 = 1 := (s_mi_ok 201 _ (show s_mi[201]? = some (2, 0, false, 0, 0, 1) by decide +kernel)).2.2.2.2
  refine ir_ld hcl (iv_dec (c2 _ (iv_in (c := []) (pc := 0) rfl)) (by decide) (by decide)) rfl m0 rfl ?_
  refine ir_ld hcl (iv_dec (c2 _ (iv_in (c := []) (pc := 1) rfl)) (by decide) (by decide)) rfl m1 rfl ?_
  refine iv_virt (as := [.int m]) (rest := []) hcl (c2 _ (iv_in (c := []) (pc := 2) rfl)) (q := 0) (by rw [h204]; exact hb.1) rfl (by decide) (mc := 0) (ms := 0) (by decide) (by decide) (g_run_mono (iv_buildAt (d := 58) hb) (fun r h1 hp => ?_))
  obtain ⟨rfl, rfl⟩ := hp
  have key := iv_k_at (m := m) hb hK
  generalize (if 0 ≤ m.toInt ∧ m.toInt < 4 then f11 m.toInt.toNat else Value.null) = v at key ⊢
  show P (5, _, [v], 0, 0, h1)
  rcases key with ⟨rfl, hz⟩ | ⟨i, p, a, hi, hm, rfl, hk, hct⟩
  · refine ir_st hcl (iv_dec (c2 _ (iv_in (c := []) (pc := 5) rfl)) (by decide) (by decide)) rfl rfl (by decide) ?_
    refine ir_ld hcl (iv_dec (c2 _ (iv_in (c := []) (pc := 6) rfl)) (by decide) (by decide)) rfl List.mem_cons_self rfl ?_
    refine ir_n0 hcl (iv_dec (c2 _ (iv_in (c := []) (pc := 7) rfl)) (by decide) (by decide)) 12 rfl rfl ?_
    refine ir_co hcl (iv_dec (c2 _ (iv_in (c := []) (pc := 10) rfl)) (by decide) (by decide)) rfl ?_
    exact hend _ ⟨Nat.le_refl _, Nat.le_refl _, Or.inl ⟨0, .boolean, iv_ireturn (c2 _ (iv_in (c := []) (pc := 11) rfl)), q3, rfl, rfl, Or.inl ⟨rfl, rfl, hz⟩⟩⟩
  · obtain ⟨a', ad, f, F, p1, w1, w2, r1, bd, n1, bc⟩ := hk
    have m0' : ((0 : Nat), Value.ref (A 0)) ∈ g_st1 2 (.ref a) ([(0, .ref (A 0)), (1, .int m)] : g_L) := iv_st2c m0 (by decide) rfl
    have ea : a' = a := by
      rw [r1] at hct
      cases hct
      rfl
    subst ea
    have hbi := iv_bints hI (p := p) ⟨w1, w2⟩ bd
    refine ir_st hcl (iv_dec (c2 _ (iv_in (c := []) (pc := 5) rfl)) (by decide) (by decide)) rfl rfl (by decide) ?_
    refine ir_ld hcl (iv_dec (c2 _ (iv_in (c := []) (pc := 6) rfl)) (by decide) (by decide)) rfl List.mem_cons_self rfl ?_
    refine ir_n1 hcl (iv_dec (c2 _ (iv_in (c := []) (pc := 7) rfl)) (by decide) (by decide)) 12 rfl rfl ?_
    refine ir_ld hcl (iv_dec (c2 _ (iv_in (c := []) (pc := 12) rfl)) (by decide) (by decide)) rfl m0' rfl ?_
    refine iv_getfield hcl (c2 _ (iv_in (c := []) (pc := 13) rfl)) (Or.inl rfl) (q := 0) (n := 12) (f := f0) hb.1 (by decide) ?_
    rw [hb.2.1]
    refine ir_ld hcl (iv_dec (c2 _ (iv_in (c := []) (pc := 16) rfl)) (by decide) (by decide)) rfl List.mem_cons_self rfl ?_
    refine iv_virt (as := [.ref a']) (rest := []) hcl (c2 _ (iv_in (c := []) (pc := 17) rfl)) (q := 1) (by rw [h201]; exact bl.1) rfl (by decide) (mc := 0) (ms := 0) (by decide) (by decide) (g_run_mono (iv_copyB (d := 57) bd bl hbi (by omega)) (fun r h2 hp => ?_))
    obtain ⟨rfl, y1, y2, f2, F2, y3, y4, y5, y6⟩ := hp
    show P (20, _, [], 0, 0, h2)
    refine ir_co hcl (iv_dec (c2 _ (iv_in (c := []) (pc := 20) rfl)) (by decide) (by decide)) rfl ?_
    exact hend _ ⟨Nat.le_refl _, Nat.le_refl _, Or.inl ⟨1, .boolean, iv_ireturn (c2 _ (iv_in (c := []) (pc := 21) rfl)), q3, rfl, rfl, Or.inr ⟨i, p, a', ad, f, f2, F, F2, rfl, hi, hm, p1, ⟨w1, w2⟩, bd, n1, bc, y1, y2, y3, y4, y5, y6⟩⟩⟩
/-- the references behind a copy into the lump -/
theorem iv_F_copy {b : Bool} {A : Nat → Nat} {h h1 : g_H} {f2 : Nat → Value} {F2 : Nat → Nat → Value} (hF : iv_F b A h) (ho : ∀ q, ¬ (1 ≤ q ∧ q ≤ 1 + 9) → h1[q]? = h[q]?) (hb : iv_bd h1 1 (A 1) (fun k => A (2 + k)) f2 F2) : iv_F b A h1 := by
  intro q ro S hq j hj h2
  obtain ⟨hq6, ⟨r, e1, e2⟩, -, -⟩ := xl_fit b q ro S hq
  obtain ⟨h3, -⟩ := iv_refE hq6 e1 e2 hj h2
  by_cases hin : 1 ≤ q ∧ q ≤ 1 + 9
  · have hq1 : q = 1 := by
      have e9 : ∀ q : Nat, 2 ≤ q → q ≤ 10 → ∀ ro S, xl_I b q = some (ro, S) → ro.1 = true := by
        intro q q2 q10 ro S hq
        obtain rfl | rfl | rfl | rfl | rfl | rfl | rfl | rfl | rfl : q = 2 ∨ q = 3 ∨ q = 4 ∨ q = 5 ∨ q = 6 ∨ q = 7 ∨ q = 8 ∨ q = 9 ∨ q = 10 := by omega
        all_goals (cases hq; rfl)
      by_cases h9 : 2 ≤ q
      · rw [e9 q h9 (by omega) ro S hq] at h3
        cases h3
      · omega
    subst hq1
    cases hq
    have hj : j < 11 := hj
    have hj9 : j < 9 := by
      by_cases c : j < 9
      · exact c
      · obtain rfl | rfl : j = 9 ∨ j = 10 := by omega
        · cases h2
        · cases h2
    rw [iv_ctZ hb.1]
    exact (hb.2 j hj9).1
  · have := hF q ro S hq j hj h2
    rw [← this]
    unfold iv_ct
    rw [ho q hin]
theorem iv_up21 {M : xa_M} : xk_U M (xa_up M 60 21 0) := fun q j hq => by
  have hq2 := xk_eq hq
  exact xa_up_ne (by omega)
/-- a row of a Build, as numbers -/
theorem iv_row {h : g_H} {p a k : Nat} {ad : Nat → Nat} {f : Nat → Value} {F : Nat → Nat → Value} (hb : iv_bd h p a ad f F) (hk : k < 9) (j : Int) : iv_num h (p + 1 + k) j = iv_n (F k j.toNat) := by
  unfold iv_num
  rw [iv_ctZ (hb.2 k hk).2]
theorem iv_p203 (A : Nat → Nat) (cmp : Bool) : iv_pair (iv_J A) A 203 295 [0] cmp false := by
  intro h as hI hs
  obtain ⟨W, b, hJ⟩ := hI
  have hJ0 := hJ
  obtain ⟨hIW, hF, hR0, hK⟩ := hJ
  obtain ⟨M, hM, hInv⟩ := hIW.2.2
  obtain ⟨m1, ys, rfl, -, hs⟩ := iv_spc hs
  obtain rfl := iv_sp0 hs
  have hR := iv_xj hJ0 hM
  have b0 := xm_f0 (xa_H_Mok hM)
  have b6 := xm_f6 (xa_H_Mok hM)
  have r1 : iv_num h 1 9 = M 60 0 := hR.1.1
  have r2 : iv_num h 1 10 = M 60 6 := hR.1.2.1
  have hm : ∀ h1 : g_H, xa_H xm_I A M h1 h1 → g_run 60 295 [.ref (A 60), .int m1] h1 0 0 (fun r h2 => ∃ v M2, ((((0 ≤ m1.toInt ∧ m1.toInt ≤ 3 ∧ M 105 m1.toInt = 1) ∧ (∃ lo hi, v = some (0, 0, lo, hi, 1)) ∧ xm_agG M M2 m1.toInt 14 16) ∨ (¬ (0 ≤ m1.toInt ∧ m1.toInt ≤ 3 ∧ M 105 m1.toInt = 1) ∧ (∃ lo hi, v = some (0, 0, lo, hi, 0)) ∧ M2 = xa_up M 60 21 0)) ∧ xm_Inv M2) ∧ xa_gR A v r ∧ xa_H xm_I A M2 h1 h2) :=
    fun h1 hM1 => iv_mrun hM1 (vs := [(2, 60, 0, 0, 0), (0, 0, -2147483648, 2147483647, m1.toInt)]) (xs := [.ref (A 60), .int m1]) ⟨rfl, iv_i m1, trivial⟩ (Pm := fun v M2 => (((0 ≤ m1.toInt ∧ m1.toInt ≤ 3 ∧ M 105 m1.toInt = 1) ∧ (∃ lo hi, v = some (0, 0, lo, hi, 1)) ∧ xm_agG M M2 m1.toInt 14 16) ∨ (¬ (0 ≤ m1.toInt ∧ m1.toInt ≤ 3 ∧ M 105 m1.toInt = 1) ∧ (∃ lo hi, v = some (0, 0, lo, hi, 0)) ∧ M2 = xa_up M 60 21 0)) ∧ xm_Inv M2) (ms_againG (d := 58) hInv (fun o M1 hP hI => ⟨hP, hI⟩))
  refine ⟨0, 0, by decide, by decide, g_run_mono (iv_againX hIW hF hK m1) (fun r1 h1 hp => ?_)⟩
  rcases hp with ⟨rfl, rfl, hz⟩ | ⟨i, p, a, ad, f, f2, F, F2, rfl, hi, hmi, p1, wb, bd, n1, bc, y1, y2, y3, y4, y5, y6⟩
  · refine ⟨0, rfl, iv_sh_ok (iv_iW_inv hIW), g_run_mono (hm h1 hM) (fun r2 h2 hp2 => ?_)⟩
    obtain ⟨v2, M2, ⟨hP2, hInv2⟩, hr2, hM2⟩ := hp2
    rcases hP2 with ⟨⟨a0, a1, a5⟩, -, -⟩ | ⟨-, ⟨lo, hi, rfl⟩, rfl⟩
    · have := hz ⟨a0, by omega⟩
      rw [iv_105 hM (by omega) (by omega)] at this
      omega
    · obtain ⟨z2, rfl, hz2⟩ := iv_gRi hr2
      exact ⟨⟨z2, rfl, fun _ => Int32.toInt_inj.mp (by rw [hz2]; rfl)⟩, W, b, iv_J_m hJ0 hM hM2 iv_up21 hInv2⟩
  · obtain ⟨hI1, km⟩ := iv_iW_copy hIW bd wb (iv_lump hIW hF).1 y1 y2 y3 y4 y5 y6 (Or.inl rfl)
    have hM1 := km M hM
    have hF1 := iv_F_copy hF y2 y3
    have n5 : M 105 m1.toInt = 1 := by
      rw [hmi, ← iv_105 hM (by omega) (by omega)]
      exact n1
    refine ⟨1, rfl, iv_sh_ok (iv_iW_inv hI1), g_run_mono (hm h1 hM1) (fun r2 h2 hp2 => ?_)⟩
    obtain ⟨v2, M2, ⟨hP2, hInv2⟩, hr2, hM2⟩ := hp2
    rcases hP2 with ⟨-, ⟨lo, hi', rfl⟩, hk⟩ | ⟨hno, -, -⟩
    · obtain ⟨z2, rfl, hz2⟩ := iv_gRi hr2
      refine ⟨⟨z2, rfl, fun _ => Int32.toInt_inj.mp (by rw [hz2]; rfl)⟩, W, b, ?_⟩
      have low : ∀ q, ¬ (60 ≤ q ∧ q ≤ 105) → h2[q]? = h1[q]? := fun q hq => hM2.2.2 q (xm_I_none hq)
      rw [hmi] at hk
      have k4 : ∀ x, M2 104 x = M 104 x := fun x => hk.2.1 104 x (by omega) (by omega) (by omega)
      have k5 : ∀ x, M2 105 x = M 105 x := fun x => hk.2.1 105 x (by omega) (by omega) (by omega)
      have nB : ∀ x : Int, 0 ≤ x → x < 124 → iv_num h 104 (124 * (i : Int) + x) = M 104 (124 * (i : Int) + x) := fun x x0 x1 => iv_104 hM (by omega) (by omega)
      obtain ⟨c1, c2, c3, c4⟩ := bc
      have c1 : iv_n (f 9) = iv_num h 104 (124 * (i : Int) + 0) := c1
      have c2 : iv_n (f 10) = iv_num h 104 (124 * (i : Int) + 71) := c2
      have mm : ∀ {q : Nat} {j : Int}, lm_C q j → ¬ q < 60 → iv_num h2 q j = M2 q j := fun hC hq => iv_num_m hM2 hC hq
      have xx : ∀ {q : Nat} (j : Int), q < 60 → iv_num h2 q j = iv_num h1 q j := fun j hq => iv_num_h (low _ (by omega)) j
      refine ⟨⟨iv_cls_kW hI1.1 hI1.2.1 hM2, hI1.2.1, M2, ⟨rfl, hM2.2.1, fun _ _ => rfl⟩, hInv2⟩, iv_F_h (fun q hq => low q (by omega)) hF1, ⟨⟨?_, ?_, fun j j0 j1 => ?_, fun j j0 j1 => ?_⟩, lm_S_k (fun q j hC => by
        have hC' := lm_CS_C hC
        unfold lm_CS at hC
        by_cases hq : q < 60
        · rw [xx j hq]
          exact iv_num_h (y2 q (by omega)) j
        · rw [mm hC' hq, iv_num_m hM hC' hq]
          exact hk.2.1 q j (by omega) (by omega) (by omega)) hR0.2⟩, iv_kept_k (List.prefix_refl W) ?_ ?_ ?_ ?_ ?_ hK⟩
      · rw [xx 9 (by decide), mm (q := 60) (j := 0) (by unfold lm_C; omega) (by decide), hk.2.2.1]
        have e : iv_num h1 1 9 = iv_n (f2 9) := by
          unfold iv_num
          rw [iv_ctZ y3.1]
          rfl
        rw [e, y4, c1, nB 0 (by decide) (by decide)]
        congr 1 <;> omega
      · rw [xx 10 (by decide), mm (q := 60) (j := 6) (by unfold lm_C; omega) (by decide), hk.2.2.2.2.1 (by decide)]
        have e : iv_num h1 1 10 = iv_n (f2 10) := by
          unfold iv_num
          rw [iv_ctZ y3.1]
          rfl
        rw [e, y5, c2, nB 71 (by decide) (by decide)]
      · have g : iv_n (F 0 j.toNat) = iv_num h 104 (124 * (i : Int) + (1 + 5 * ((j.toNat : Nat) : Int))) ∧ iv_n (F 1 j.toNat) = iv_num h 104 (124 * (i : Int) + (2 + 5 * ((j.toNat : Nat) : Int))) ∧ iv_n (F 3 j.toNat) = iv_num h 104 (124 * (i : Int) + (4 + 5 * ((j.toNat : Nat) : Int))) ∧ iv_n (F 4 j.toNat) = iv_num h 104 (124 * (i : Int) + (5 + 5 * ((j.toNat : Nat) : Int))) ∧ iv_n (F 2 j.toNat) = iv_num h 104 (124 * (i : Int) + (3 + 5 * ((j.toNat : Nat) : Int))) := c3 j.toNat (by omega)
        have gx := hk.1 j j0 j1
        have gy := hk.2.2.2.1 j j0 j1
        have ej : ((j.toNat : Nat) : Int) = j := Int.toNat_of_nonneg j0
        rw [ej] at g
        have e0 : iv_num h2 2 j = iv_num h2 61 j := by
          rw [xx j (by decide), mm (q := 61) (j := j) (by unfold lm_C; omega) (by decide), gy.1]
          have e : iv_num h1 2 j = iv_n (F2 0 j.toNat) := iv_row y3 (k := 0) (by decide) j
          rw [e, y6 0 _ (by decide) (show j.toNat < 14 by omega), g.1, nB _ (by omega) (by omega)]
          congr 1 <;> omega
        have e1 : iv_num h2 3 j = iv_num h2 62 j := by
          rw [xx j (by decide), mm (q := 62) (j := j) (by unfold lm_C; omega) (by decide), gy.2.1]
          have e : iv_num h1 3 j = iv_n (F2 1 j.toNat) := iv_row y3 (k := 1) (by decide) j
          rw [e, y6 1 _ (by decide) (show j.toNat < 14 by omega), g.2.1, nB _ (by omega) (by omega)]
          congr 1 <;> omega
        have e3 : iv_num h2 5 j = iv_num h2 64 j := by
          rw [xx j (by decide), mm (q := 64) (j := j) (by unfold lm_C; omega) (by decide), gx.1]
          have e : iv_num h1 5 j = iv_n (F2 3 j.toNat) := iv_row y3 (k := 3) (by decide) j
          rw [e, y6 3 _ (by decide) (show j.toNat < 14 by omega), g.2.2.1, nB _ (by omega) (by omega)]
          congr 1 <;> omega
        have e4 : iv_num h2 6 j = iv_num h2 65 j := by
          rw [xx j (by decide), mm (q := 65) (j := j) (by unfold lm_C; omega) (by decide), gx.2]
          have e : iv_num h1 6 j = iv_n (F2 4 j.toNat) := iv_row y3 (k := 4) (by decide) j
          rw [e, y6 4 _ (by decide) (show j.toNat < 14 by omega), g.2.2.2.1, nB _ (by omega) (by omega)]
          congr 1 <;> omega
        have e2 : iv_num h2 4 j = iv_num h2 63 j := by
          rw [xx j (by decide), mm (q := 63) (j := j) (by unfold lm_C; omega) (by decide), gy.2.2]
          have e : iv_num h1 4 j = iv_n (F2 2 j.toNat) := iv_row y3 (k := 2) (by decide) j
          rw [e, y6 2 _ (by decide) (show j.toNat < 14 by omega), g.2.2.2.2, nB _ (by omega) (by omega)]
          congr 1 <;> omega
        exact ⟨e0, e1, e3, e4, e2⟩
      · have g : iv_n (F 5 j.toNat) = iv_num h 104 (124 * (i : Int) + (72 + 2 * ((j.toNat : Nat) : Int))) ∧ iv_n (F 6 j.toNat) = iv_num h 104 (124 * (i : Int) + (73 + 2 * ((j.toNat : Nat) : Int))) := c4 j.toNat (by omega)
        have gy := hk.2.2.2.2.2 j j0 j1
        have ej : ((j.toNat : Nat) : Int) = j := Int.toNat_of_nonneg j0
        rw [ej] at g
        have e5 : iv_num h2 7 j = iv_num h2 66 j := by
          rw [xx j (by decide), mm (q := 66) (j := j) (by unfold lm_C; omega) (by decide), gy.1]
          have e : iv_num h1 7 j = iv_n (F2 5 j.toNat) := iv_row y3 (k := 5) (by decide) j
          rw [e, y6 5 _ (by decide) (show j.toNat < 16 by omega), g.1, nB _ (by omega) (by omega)]
          congr 1 <;> omega
        have e6 : iv_num h2 8 j = iv_num h2 67 j := by
          rw [xx j (by decide), mm (q := 67) (j := j) (by unfold lm_C; omega) (by decide), gy.2]
          have e : iv_num h1 8 j = iv_n (F2 6 j.toNat) := iv_row y3 (k := 6) (by decide) j
          rw [e, y6 6 _ (by decide) (show j.toNat < 16 by omega), g.2, nB _ (by omega) (by omega)]
          congr 1 <;> omega
        exact ⟨e5, e6⟩
      · intro i2 hi2
        unfold iv_ct
        rw [low 11 (by omega), y2 11 (by omega)]
      · intro i2 hi2
        rw [iv_105 hM2 (by omega) (by omega), iv_105 hM (by omega) (by omega), k5]
      · intro x x0 x1
        rw [iv_104 hM2 x0 x1, iv_104 hM x0 x1, k4]
      · intro p a f hp hw e
        exact ⟨f, by rw [low p (by omega), y2 p (by omega)]; exact e, fun _ _ => rfl⟩
      · intro k p a F hk hp hw e
        exact ⟨F, by rw [low p (by omega), y2 p (by omega)]; exact e, fun _ _ _ => rfl⟩
    · exact absurd ⟨by omega, by omega, n5⟩ hno
theorem iv_bl_HW {φ : Nat → Nat → Value} {W : y_W} {β : Nat → Int} {h : g_H} {z z0 z1 z2 z3 z4 z5 z6 z7 z8 : Nat} {f : Nat → Value} (hH : y_H φ y_Rc W β h) (h9 : f 9 = .int 0) (h10 : f 10 = .int 0) : y_H φ y_Rc (W ++ iv_ws z z0 z1 z2 z3 z4 z5 z6 z7 z8) β (h ++ (z, false, 1, 11, g_up (g_up (g_up (g_up (g_up (g_up (g_up (g_up (g_up (f) 0 (.ref z0)) 1 (.ref z1)) 2 (.ref z2)) 3 (.ref z3)) 4 (.ref z4)) 5 (.ref z5)) 6 (.ref z6)) 7 (.ref z7)) 8 (.ref z8)) :: [iv_ar z0 14, iv_ar z1 14, iv_ar z2 14, iv_ar z3 14, iv_ar z4 14, iv_ar z5 16, iv_ar z6 16, iv_ar z7 10, iv_ar z8 10]) := by
  refine y_H_app hH rfl (fun _ _ => y_Rc_no) ?_ ?_
  · intro p hp w hw
    have hp' : p = (300001, 8, 5) := by
      have : p ∈ [(300001, 8, 5)] := hp
      simpa using this
    subst hp'
    unfold iv_ws at hw
    simp only [List.mem_cons, List.not_mem_nil, or_false] at hw
    rcases hw with rfl | rfl | rfl | rfl | rfl | rfl | rfl | rfl | rfl | rfl <;> simp
  · intro q a r hq
    have at_ : ∀ k, k < 10 → (W ++ iv_ws z z0 z1 z2 z3 z4 z5 z6 z7 z8)[W.length + k]? = (iv_ws z z0 z1 z2 z3 z4 z5 z6 z7 z8)[k]? := fun k hk => by
      rw [List.getElem?_append_right (by omega), show W.length + k - W.length = k by omega]
    rcases q with _ | _ | _ | _ | _ | _ | _ | _ | _ | _ | q
    · cases hq
      refine ⟨_, _, rfl, rfl, fun j hj => ?_⟩
      have hj : j < 11 := hj
      rcases j with _ | _ | _ | _ | _ | _ | _ | _ | _ | _ | _ | j
      · exact ⟨W.length + 1, z0, rfl, at_ 1 (by decide)⟩
      · exact ⟨W.length + 2, z1, rfl, at_ 2 (by decide)⟩
      · exact ⟨W.length + 3, z2, rfl, at_ 3 (by decide)⟩
      · exact ⟨W.length + 4, z3, rfl, at_ 4 (by decide)⟩
      · exact ⟨W.length + 5, z4, rfl, at_ 5 (by decide)⟩
      · exact ⟨W.length + 6, z5, rfl, at_ 6 (by decide)⟩
      · exact ⟨W.length + 7, z6, rfl, at_ 7 (by decide)⟩
      · exact ⟨W.length + 8, z7, rfl, at_ 8 (by decide)⟩
      · exact ⟨W.length + 9, z8, rfl, at_ 9 (by decide)⟩
      · show y_g _ β (0, -2147483648, 2147483647, 0, 0, 0, 0) (f 9)
        rw [h9]
        exact iv_ints (by decide) (by decide)
      · show y_g _ β (0, -2147483648, 2147483647, 0, 0, 0, 0) (f 10)
        rw [h10]
        exact iv_ints (by decide) (by decide)
      · omega
    all_goals first
      | (cases hq; exact ⟨_, _, rfl, rfl, fun j hj => iv_ints (by decide) (by decide)⟩)
      | (exact absurd hq (by intro h; cases h))
/-- the addresses of a new Build's rows -/
def iv_zs (z0 z1 z2 z3 z4 z5 z6 z7 z8 k : Nat) : Nat := match k with
  | 0 => z0 | 1 => z1 | 2 => z2 | 3 => z3 | 4 => z4 | 5 => z5 | 6 => z6 | 7 => z7 | _ => z8
/-- what a call of keep has done -/
def iv_kpQ (A : Nat → Nat) (W : y_W) (h : g_H) (K : Nat → Nat) (m : Int32) (r : Option Value) (h1 : g_H) : Prop := (r = some (.int 0) ∧ h1 = h ∧ ¬ (0 ≤ m.toInt ∧ m.toInt < 4)) ∨ ∃ (i p a : Nat) (ad : Nat → Nat) (W1 : y_W) (f f2 : Nat → Value) (F F2 : Nat → Nat → Value), r = some (.int 1) ∧ i < 4 ∧ m.toInt = i ∧ 107 ≤ p ∧ W <+: W1 ∧ iv_iW A W1 h1 ∧ (∀ M : xa_M, xa_H xm_I A M h h → xa_H xm_I A M h1 h1) ∧ iv_wb W1 p a ad ∧ iv_bd h 1 (A 1) (fun k => A (2 + k)) f F ∧ iv_bd h1 p a ad f2 F2 ∧ f2 9 = f 9 ∧ f2 10 = f 10 ∧ (∀ k j, k < 9 → j < iv_ln k → F2 k j = F k j) ∧ (∀ q, q < h.length → ¬ q = 11 → ¬ (p ≤ q ∧ q ≤ p + 9) → h1[q]? = h[q]?) ∧ iv_ct h1 11 i = .ref a ∧ (∀ i', i' < 4 → ¬ i' = i → iv_ct h1 11 i' = iv_ct h 11 i') ∧ ((p = K i ∧ ¬ K i = 0) ∨ (K i = 0 ∧ p = h.length))
theorem iv_keepX2 {A : Nat → Nat} {W : y_W} {b : Bool} {h : g_H} (hI : iv_iW A W h) (hF : iv_F b A h) {K : Nat → Nat} (k1 : ∀ i, i < 4 → (K i = 0 ∧ iv_ct h 11 i = .null ∧ iv_num h 105 i = 0) ∨ iv_k1 W h i (K i)) (m : Int32) : g_run 60 200 [.ref (A 0), .int m] h 10 133 (iv_kpQ A W h K m) := by
  obtain ⟨f0, f11, hb⟩ := iv_b0_of hI hF
  obtain ⟨wl, fl, Fl, bl, bil⟩ := iv_lump hI hF
  have hlW : h.length = W.length := by
    obtain ⟨⟨β, hH⟩, -⟩ := hI
    exact hH.1
  have l107 : 107 ≤ h.length := by
    have := (List.getElem?_eq_some_iff.mp (hI.2.1 106 101 rfl)).1
    omega
  obtain ⟨q1, q2, q3, q4, q5⟩ := s_mi_ok 200 (3, 2, false, 10, 133, 11) (by decide +kernel)
  obtain ⟨c1, c2⟩ := s_codes_ok 200 (3, 2, false, 10, 133, 11) (by decide +kernel)
  rw [show s_codes.getD 200 [] = s_c_200 from rfl] at c1 c2
  have q3 : g_rt 200 = some .boolean := q3
  refine ⟨q1, by rw [q2]; exact (show 2 ≤ 3 by decide), ?_⟩
  rw [q5, q2, q4]
  intro P hend hcl
  show P (0, [(0, .ref (A 0)), (1, .int m)], [], 0, 0, h)
  have m0 : ((0 : Nat), Value.ref (A 0)) ∈ ([(0, .ref (A 0)), (1, .int m)] : g_L) := List.mem_cons_self
  have m1 : ((1 : Nat), Value.int m) ∈ ([(0, .ref (A 0)), (1, .int m)] : g_L) := List.mem_cons_of_mem _ List.mem_cons_self
  have h201 : (g_me 201).2.1 = 1 := (s_mi_ok 201 _ (show s_mi[201]? = some (2, 0, false, 0, 0, 1) by decide +kernel)).2.2.2.2
  have no : ¬ (0 ≤ m.toInt ∧ m.toInt < 4) → P (13, [(0, .ref (A 0)), (1, .int m)], [], 0, 0, h) := by
    intro hc
    refine ir_co hcl (iv_dec (c2 _ (iv_in (c := []) (pc := 13) rfl)) (by decide) (by decide)) rfl ?_
    exact hend _ ⟨Nat.zero_le _, Nat.zero_le _, Or.inl ⟨0, .boolean, iv_ireturn (c2 _ (iv_in (c := []) (pc := 14) rfl)), q3, rfl, rfl, Or.inl ⟨rfl, rfl, hc⟩⟩⟩
  -- from the copy on
  have fin : ∀ (i : Nat), i < 4 → m.toInt = i → ∀ (h2 : g_H) (W1 : y_W) (p a : Nat) (ad : Nat → Nat) (f' : Nat → Value) (F' : Nat → Nat → Value) (Ls : g_L) (c s : Nat), c ≤ 10 → s ≤ 133 → (0, Value.ref (A 0)) ∈ Ls → (2, Value.ref a) ∈ Ls → 107 ≤ p → W <+: W1 → iv_iW A W1 h2 → (∀ M : xa_M, xa_H xm_I A M h h → xa_H xm_I A M h2 h2) → iv_wb W1 p a ad → iv_bd h2 p a ad f' F' → (∀ q, q < h.length → ¬ q = 11 → ¬ (p ≤ q ∧ q ≤ p + 9) → h2[q]? = h[q]?) → iv_ct h2 11 i = .ref a → (∀ i', i' < 4 → ¬ i' = i → iv_ct h2 11 i' = iv_ct h 11 i') → ((p = K i ∧ ¬ K i = 0) ∨ (K i = 0 ∧ p = h.length)) → P (41, Ls, [], c, s, h2) := by
    intro i hi hm h2 W1 p a ad f' F' Ls c s hc hs n0 n2 p1 hWW hI2 km wb bd ho e1 e2 ep
    have c0 : h2[0]? = some (A 0, false, 11, 12, f0) := (ho 0 (by omega) (by decide) (by omega)).trans hb.1
    have bl2 : iv_bd h2 1 (A 1) (fun k => A (2 + k)) fl Fl := ⟨(ho 1 (by omega) (by decide) (by omega)).trans bl.1, fun k hk => ⟨(bl.2 k hk).1, (ho _ (by omega) (by omega) (by omega)).trans (bl.2 k hk).2⟩⟩
    have up : ∀ {q : Nat} {x : Nat × Nat}, W[q]? = some x → W1[q]? = some x := fun {q x} hq => by
      obtain ⟨t, rfl⟩ := hWW
      rw [List.getElem?_append_left (List.getElem?_eq_some_iff.mp hq).1]
      exact hq
    have wl1 : iv_wb W1 1 (A 1) (fun k => A (2 + k)) := ⟨up wl.1, fun k hk => up (wl.2 k hk)⟩
    refine ir_ld hcl (iv_dec (c2 _ (iv_in (c := []) (pc := 41) rfl)) (by decide) (by decide)) rfl n2 rfl ?_
    refine ir_ld hcl (iv_dec (c2 _ (iv_in (c := []) (pc := 42) rfl)) (by decide) (by decide)) rfl n0 rfl ?_
    refine iv_getfield hcl (c2 _ (iv_in (c := []) (pc := 43) rfl)) (Or.inl rfl) (q := 0) (n := 12) (f := f0) c0 (by decide) ?_
    rw [hb.2.1]
    refine iv_virt (as := [.ref (A 1)]) (rest := []) hcl (c2 _ (iv_in (c := []) (pc := 46) rfl)) (q := p) (by rw [h201]; exact bd.1) rfl (by decide) (mc := 0) (ms := 0) hc hs (g_run_mono (iv_copyB (d := 57) bl2 bd bil (by omega)) (fun r h3 hp => ?_))
    obtain ⟨rfl, y1, y2, f2, F2, y3, y4, y5, y6⟩ := hp
    obtain ⟨hI3, km3⟩ := iv_iW_copy hI2 bl2 wl1 wb y1 y2 y3 y4 y5 y6 (Or.inr p1)
    show P (49, Ls, [], c + 0, s + 0, h3)
    refine ir_co hcl (iv_dec (c2 _ (iv_in (c := []) (pc := 49) rfl)) (by decide) (by decide)) rfl ?_
    refine hend _ ⟨hc, hs, Or.inl ⟨1, .boolean, iv_ireturn (c2 _ (iv_in (c := []) (pc := 50) rfl)), q3, rfl, rfl, Or.inr ⟨i, p, a, ad, W1, fl, f2, Fl, F2, rfl, hi, hm, p1, hWW, hI3, fun M hM => km3 M (km M hM), wb, bl, y3, y4, y5, y6, fun q q1 q2 q3 => (y2 q q3).trans (ho q q1 q2 q3), ?_, fun i' h1 h2 => ?_, ep⟩⟩⟩
    · rw [← e1]
      unfold iv_ct
      rw [y2 11 (by omega)]
    · rw [← e2 i' h1 h2]
      unfold iv_ct
      rw [y2 11 (by omega)]
  refine ir_ld hcl (iv_dec (c2 _ (iv_in (c := []) (pc := 0) rfl)) (by decide) (by decide)) rfl m1 rfl ?_
  refine ir_if hcl (iv_dec (c2 _ (iv_in (c := []) (pc := 1) rfl)) (by decide) (by decide)) 13 rfl rfl ?_
  by_cases c0 : m.toInt < 0
  · rw [if_pos (by rw [iv_c1lt]; exact decide_eq_true c0)]
    exact no (by omega)
  · rw [if_neg (by rw [iv_c1lt, decide_eq_true_eq]; exact c0)]
    refine ir_ld hcl (iv_dec (c2 _ (iv_in (c := []) (pc := 4) rfl)) (by decide) (by decide)) rfl m1 rfl ?_
    refine ir_ld hcl (iv_dec (c2 _ (iv_in (c := []) (pc := 5) rfl)) (by decide) (by decide)) rfl m0 rfl ?_
    refine iv_getfield hcl (c2 _ (iv_in (c := []) (pc := 6) rfl)) (Or.inl rfl) (q := 0) (n := 12) (f := f0) hb.1 (by decide) ?_
    rw [hb.2.2.1]
    refine ir_al hcl (iv_dec (c2 _ (iv_in (c := []) (pc := 9) rfl)) (by decide) (by decide)) (q := 11) rfl (by decide) hb.2.2.2.1 ?_
    refine ir_ic hcl (iv_dec (c2 _ (iv_in (c := []) (pc := 10) rfl)) (by decide) (by decide)) 15 rfl rfl ?_
    by_cases c4 : m.toInt < (4 : Int)
    · rw [if_pos (by rw [iv_c2lt (by decide)]; exact decide_eq_true c4)]
      refine ir_ld hcl (iv_dec (c2 _ (iv_in (c := []) (pc := 15) rfl)) (by decide) (by decide)) rfl m0 rfl ?_
      refine iv_getfield hcl (c2 _ (iv_in (c := []) (pc := 16) rfl)) (Or.inl rfl) (q := 0) (n := 12) (f := f0) hb.1 (by decide) ?_
      rw [hb.2.2.1]
      refine ir_ld hcl (iv_dec (c2 _ (iv_in (c := []) (pc := 19) rfl)) (by decide) (by decide)) rfl m1 rfl ?_
      refine ir_aa hcl (iv_dec (c2 _ (iv_in (c := []) (pc := 20) rfl)) (by decide) (by decide)) (q := 11) rfl hb.2.2.2.1 (iv_vp (by omega) (by omega)) ?_
      have e9 : m.toNatClampNeg = m.toInt.toNat := rfl
      have hi4 : m.toInt.toNat < 4 := by omega
      have hmi : m.toInt = ((m.toInt.toNat : Nat) : Int) := by omega
      rw [e9, iv_rfr (hb.2.2.2.2 _ hi4)]
      generalize m.toInt.toNat = i at hi4 hmi
      have ec : iv_ct h 11 i = f11 i := iv_ctZ hb.2.2.2.1 i
      rcases k1 i hi4 with ⟨k0, kn, -⟩ | hk
      · rw [ec] at kn
        rw [kn]
        refine ir_st hcl (iv_dec (c2 _ (iv_in (c := []) (pc := 21) rfl)) (by decide) (by decide)) rfl rfl (by decide) ?_
        refine ir_ld hcl (iv_dec (c2 _ (iv_in (c := []) (pc := 22) rfl)) (by decide) (by decide)) rfl List.mem_cons_self rfl ?_
        refine ir_n0 hcl (iv_dec (c2 _ (iv_in (c := []) (pc := 23) rfl)) (by decide) (by decide)) 41 rfl rfl ?_
        refine iv_new (q9 := 0) hcl (c2 _ (iv_in (c := []) (pc := 26) rfl)) (by decide) (by decide) (fun z => ?_)
        generalize hfz : (fun j => defaultValue ((parseFieldDescriptor (g_fd 1 j).1).getD .int)) = fz
        have z9 : fz 9 = .int 0 := by
          rw [← hfz]
          decide +kernel
        have z10 : fz 10 = .int 0 := by
          rw [← hfz]
          decide +kernel
        refine iv_dup hcl (c2 _ (iv_in (c := []) (pc := 29) rfl)) rfl ?_
        refine iv_special (as := []) (rest := [.ref z]) hcl (c2 _ (iv_in (c := []) (pc := 30) rfl)) (Or.inr rfl) rfl (show (1 + 0 : Nat) ≤ 8 by decide) (mc := 9) (ms := 122) (by decide) (by decide) (g_run_mono (iv_init (d := 58)) (fun r h1 hp => ?_))
        obtain ⟨rfl, z0, z1, z2, z3, z4, z5, z6, z7, z8, rfl⟩ := hp
        generalize hg : g_up (g_up (g_up (g_up (g_up (g_up (g_up (g_up (g_up (fz) 0 (.ref z0)) 1 (.ref z1)) 2 (.ref z2)) 3 (.ref z3)) 4 (.ref z4)) 5 (.ref z5)) 6 (.ref z6)) 7 (.ref z7)) 8 (.ref z8) = gz
        have m0' : ((0 : Nat), Value.ref (A 0)) ∈ g_st1 2 .null ([(0, .ref (A 0)), (1, .int m)] : g_L) := iv_st2c m0 (by decide) rfl
        have m1' : ((1 : Nat), Value.int m) ∈ g_st1 2 .null ([(0, .ref (A 0)), (1, .int m)] : g_L) := iv_st2c m1 (by decide) rfl
        have m0'' := iv_st2c (v := .ref z) m0' (show 0 ≠ 2 by decide) rfl
        have m1'' := iv_st2c (v := .ref z) m1' (show 1 ≠ 2 by decide) rfl
        have hN : ∀ q, q < h.length → (h ++ (z, false, 1, 11, gz) :: [iv_ar z0 14, iv_ar z1 14, iv_ar z2 14, iv_ar z3 14, iv_ar z4 14, iv_ar z5 16, iv_ar z6 16, iv_ar z7 10, iv_ar z8 10])[q]? = h[q]? := fun q hq => List.getElem?_append_left hq
        have hB : iv_bd (h ++ (z, false, 1, 11, gz) :: [iv_ar z0 14, iv_ar z1 14, iv_ar z2 14, iv_ar z3 14, iv_ar z4 14, iv_ar z5 16, iv_ar z6 16, iv_ar z7 10, iv_ar z8 10]) h.length z (iv_zs z0 z1 z2 z3 z4 z5 z6 z7 z8) gz (fun _ _ => .int 0) := by
          refine ⟨?_, fun k hk => ⟨?_, ?_⟩⟩
          · rw [List.getElem?_append_right (Nat.le_refl _), Nat.sub_self]
            rfl
          · rw [← hg]
            rcases k with _ | _ | _ | _ | _ | _ | _ | _ | _ | k
            all_goals first | rfl | omega
          · rw [List.getElem?_append_right (by omega), show h.length + 1 + k - h.length = k + 1 by omega]
            rcases k with _ | _ | _ | _ | _ | _ | _ | _ | _ | k
            all_goals first | rfl | omega
        have hWn : iv_wb (W ++ iv_ws z z0 z1 z2 z3 z4 z5 z6 z7 z8) h.length z (iv_zs z0 z1 z2 z3 z4 z5 z6 z7 z8) := by
          rw [hlW]
          refine ⟨?_, fun k hk => ?_⟩
          · rw [List.getElem?_append_right (Nat.le_refl _), Nat.sub_self]
            rfl
          · rw [List.getElem?_append_right (by omega), show W.length + 1 + k - W.length = k + 1 by omega]
            rcases k with _ | _ | _ | _ | _ | _ | _ | _ | _ | k
            all_goals first | rfl | omega
        have hI1 : ∃ β : Nat → Int, y_H (iv_ct h) y_Rc (W ++ iv_ws z z0 z1 z2 z3 z4 z5 z6 z7 z8) β (h ++ (z, false, 1, 11, gz) :: [iv_ar z0 14, iv_ar z1 14, iv_ar z2 14, iv_ar z3 14, iv_ar z4 14, iv_ar z5 16, iv_ar z6 16, iv_ar z7 10, iv_ar z8 10]) := by
          obtain ⟨⟨β, hH⟩, -⟩ := hI
          rw [← hg]
          exact ⟨β, iv_bl_HW hH z9 z10⟩
        show P (33, _, [.ref z], 0 + 1 + 9, 0 + 11 + 122, _)
        generalize hgen : (h ++ (z, false, 1, 11, gz) :: [iv_ar z0 14, iv_ar z1 14, iv_ar z2 14, iv_ar z3 14, iv_ar z4 14, iv_ar z5 16, iv_ar z6 16, iv_ar z7 10, iv_ar z8 10]) = h1 at hN hB hI1 ⊢
        have l1 : h.length ≤ h1.length := by
          rw [← hgen, List.length_append]
          omega
        have g0 : h1[0]? = some (A 0, false, 11, 12, f0) := (hN 0 (by omega)).trans hb.1
        have g11 : h1[11]? = some (A 11, true, 4, 4, f11) := (hN 11 (by omega)).trans hb.2.2.2.1
        refine ir_st hcl (iv_dec (c2 _ (iv_in (c := []) (pc := 33) rfl)) (by decide) (by decide)) rfl rfl (by decide) ?_
        refine ir_ld hcl (iv_dec (c2 _ (iv_in (c := []) (pc := 34) rfl)) (by decide) (by decide)) rfl m0'' rfl ?_
        refine iv_getfield hcl (c2 _ (iv_in (c := []) (pc := 35) rfl)) (Or.inl rfl) (q := 0) (n := 12) (f := f0) g0 (by decide) ?_
        rw [hb.2.2.1]
        refine ir_ld hcl (iv_dec (c2 _ (iv_in (c := []) (pc := 38) rfl)) (by decide) (by decide)) rfl m1'' rfl ?_
        refine ir_ld hcl (iv_dec (c2 _ (iv_in (c := []) (pc := 39) rfl)) (by decide) (by decide)) rfl List.mem_cons_self rfl ?_
        refine iv_aastore hcl (c2 _ (iv_in (c := []) (pc := 40) rfl)) (q := 11) g11 (qk := h.length) hB.1 (iv_vp (by omega) (by omega)) ?_
        have emi : m.toNatClampNeg = i := by
          show m.toInt.toNat = i
          omega
        rw [emi]
        have o11 : ∀ q, ¬ q = 11 → (h1.set 11 (A 11, true, 4, 4, g_up f11 i (.ref z)))[q]? = h1[q]? := fun q hq => iv_get_set (Ne.symm hq)
        have s11 : (h1.set 11 (A 11, true, 4, 4, g_up f11 i (.ref z)))[11]? = some (A 11, true, 4, 4, g_up f11 i (.ref z)) := iv_get_self g11
        have hWW : W <+: W ++ iv_ws z z0 z1 z2 z3 z4 z5 z6 z7 z8 := ⟨_, rfl⟩
        have hW1 := iv_W_k hI.2.1 hWW
        have hI2 : iv_iW A (W ++ iv_ws z z0 z1 z2 z3 z4 z5 z6 z7 z8) (h1.set 11 (A 11, true, 4, 4, g_up f11 i (.ref z))) ∧ ∀ M : xa_M, xa_H xm_I A M h h → xa_H xm_I A M (h1.set 11 (A 11, true, 4, 4, g_up f11 i (.ref z))) (h1.set 11 (A 11, true, 4, 4, g_up f11 i (.ref z))) := by
          obtain ⟨β, hH1⟩ := hI1
          have km : ∀ M : xa_M, xa_H xm_I A M h h → xa_H xm_I A M (h1.set 11 (A 11, true, 4, 4, g_up f11 i (.ref z))) (h1.set 11 (A 11, true, 4, 4, g_up f11 i (.ref z))) := fun M hM => by
            refine ⟨rfl, fun q ro S hq => ?_, fun _ _ => rfl⟩
            obtain ⟨f, x1, x2⟩ := hM.2.1 q ro S hq
            have hlt := xm_I_lt hq
            exact ⟨f, by rw [o11 q (by omega), hN q (by omega)]; exact x1, x2⟩
          obtain ⟨M, hM, hInv⟩ := hI.2.2
          obtain ⟨ro, fx, x1, x2, x3⟩ := hH1.2.1 11 (A 11) 13 (hW1 11 13 rfl)
          cases x1
          rw [g11] at x2
          have x2 := Option.some.inj x2
          simp only [Prod.mk.injEq] at x2
          obtain ⟨-, -, -, -, rfl⟩ := x2
          refine ⟨⟨⟨β, y_H_ct (y_H_set (f' := g_up f11 i (.ref z)) hH1 (hW1 11 13 rfl) rfl g11 (fun p hp hpr => ?_) (fun j hj => ?_))⟩, hW1, M, km M hM, hInv⟩, km⟩
          · have hp' : p = (300001, 8, 5) := by
              have : p ∈ [(300001, 8, 5)] := hp
              simpa using this
            subst hp'
            cases hpr
          · unfold g_up
            split
            · exact Or.inr ⟨h.length, z, rfl, hWn.1⟩
            · exact ((x3 j hj).resolve_left (fun h => by cases h.1)).1
        refine fin i hi4 hmi _ _ h.length z _ gz (fun _ _ => .int 0) _ _ _ (by decide) (by decide) m0'' List.mem_cons_self l107 hWW hI2.1 hI2.2 hWn ⟨(o11 _ (by omega)).trans hB.1, fun k hk => ⟨(hB.2 k hk).1, (o11 _ (by omega)).trans (hB.2 k hk).2⟩⟩ (fun q q1 q2 _ => (o11 q q2).trans (hN q q1)) ?_ (fun i' h1 h2 => ?_) (Or.inr ⟨k0, rfl⟩)
        · rw [iv_ctZ s11]
          exact if_pos rfl
        · rw [iv_ctZ s11, iv_ctZ hb.2.2.2.1]
          exact if_neg h2
      · obtain ⟨a, ad, f, F, p1, w1, w2, r1, bd, n1, bc⟩ := hk
        rw [ec] at r1
        rw [r1]
        refine ir_st hcl (iv_dec (c2 _ (iv_in (c := []) (pc := 21) rfl)) (by decide) (by decide)) rfl rfl (by decide) ?_
        refine ir_ld hcl (iv_dec (c2 _ (iv_in (c := []) (pc := 22) rfl)) (by decide) (by decide)) rfl List.mem_cons_self rfl ?_
        refine ir_n1 hcl (iv_dec (c2 _ (iv_in (c := []) (pc := 23) rfl)) (by decide) (by decide)) 41 rfl rfl ?_
        refine fin i hi4 hmi h W (K i) a ad f F _ _ _ (by decide) (by decide) (iv_st2c m0 (by decide) rfl) List.mem_cons_self p1 (List.prefix_refl W) hI (fun M hM => hM) ⟨w1, w2⟩ bd (fun q _ _ _ => rfl) (ec.trans r1) (fun _ _ _ => rfl) (Or.inl ⟨rfl, by omega⟩)
    · rw [if_neg (by rw [iv_c2lt (by decide), decide_eq_true_eq]; exact c4)]
      exact no (by omega)
theorem iv_p200 (A : Nat → Nat) (cmp : Bool) : iv_pair (iv_J A) A 200 293 [0] cmp false := by
  intro h as hI hs
  obtain ⟨W, b, hJ⟩ := hI
  have hJ0 := hJ
  obtain ⟨hIW, hF, hR0, hK⟩ := hJ
  obtain ⟨M, hM, hInv⟩ := hIW.2.2
  obtain ⟨m1, ys, rfl, -, hs⟩ := iv_spc hs
  obtain rfl := iv_sp0 hs
  have hR := iv_xj hJ0 hM
  have b0 := xm_f0 (xa_H_Mok hM)
  have b6 := xm_f6 (xa_H_Mok hM)
  have r1 : iv_num h 1 9 = M 60 0 := hR.1.1
  have r2 : iv_num h 1 10 = M 60 6 := hR.1.2.1
  have r3 : ∀ i, 0 ≤ i → i < 14 → iv_num h 2 i = M 61 i ∧ iv_num h 3 i = M 62 i ∧ iv_num h 5 i = M 64 i ∧ iv_num h 6 i = M 65 i ∧ iv_num h 4 i = M 63 i := hR.1.2.2.1
  have r4 : ∀ i, 0 ≤ i → i < 16 → iv_num h 7 i = M 66 i ∧ iv_num h 8 i = M 67 i := hR.1.2.2.2
  obtain ⟨K, k1, k2⟩ := hK
  have hlW : h.length = W.length := by
    obtain ⟨⟨β, hH⟩, -⟩ := hIW
    exact hH.1
  have l107 : 107 ≤ h.length := by
    have := (List.getElem?_eq_some_iff.mp (hIW.2.1 106 101 rfl)).1
    omega
  have hm : ∀ h1 : g_H, xa_H xm_I A M h1 h1 → g_run 60 293 [.ref (A 60), .int m1] h1 0 0 (fun r h2 => ∃ v M2, ((((0 ≤ m1.toInt ∧ m1.toInt ≤ 3) ∧ (∃ lo hi, v = some (0, 0, lo, hi, 1)) ∧ xm_kpG M M2 m1.toInt 14 16 10) ∨ (¬ (0 ≤ m1.toInt ∧ m1.toInt ≤ 3) ∧ (∃ lo hi, v = some (0, 0, lo, hi, 0)) ∧ M2 = xa_up M 60 21 0)) ∧ xm_Inv M2) ∧ xa_gR A v r ∧ xa_H xm_I A M2 h1 h2) :=
    fun h1 hM1 => iv_mrun hM1 (vs := [(2, 60, 0, 0, 0), (0, 0, -2147483648, 2147483647, m1.toInt)]) (xs := [.ref (A 60), .int m1]) ⟨rfl, iv_i m1, trivial⟩ (Pm := fun v M2 => (((0 ≤ m1.toInt ∧ m1.toInt ≤ 3) ∧ (∃ lo hi, v = some (0, 0, lo, hi, 1)) ∧ xm_kpG M M2 m1.toInt 14 16 10) ∨ (¬ (0 ≤ m1.toInt ∧ m1.toInt ≤ 3) ∧ (∃ lo hi, v = some (0, 0, lo, hi, 0)) ∧ M2 = xa_up M 60 21 0)) ∧ xm_Inv M2) (ms_keepG (d := 58) hInv (fun o M1 hP hI => ⟨hP, hI⟩))
  refine ⟨10, 133, by decide, by decide, g_run_mono (iv_keepX2 hIW hF k1 m1) (fun r1 h1 hp => ?_)⟩
  rcases hp with ⟨rfl, rfl, hno⟩ | ⟨i, p, a, ad, W1, f, f2, F, F2, rfl, hi, hmi, p1, hWW, hI1, km, wb, bl, bd, y4, y5, y6, yo, e1, e2, ep⟩
  · refine ⟨0, rfl, iv_sh_ok (iv_iW_inv hIW), g_run_mono (hm h1 hM) (fun r2 h2 hp2 => ?_)⟩
    obtain ⟨v2, M2, ⟨hP2, hInv2⟩, hr2, hM2⟩ := hp2
    rcases hP2 with ⟨⟨a0, a1⟩, -, -⟩ | ⟨-, ⟨lo, hi, rfl⟩, rfl⟩
    · exact absurd ⟨a0, by omega⟩ hno
    · obtain ⟨z2, rfl, hz2⟩ := iv_gRi hr2
      exact ⟨⟨z2, rfl, fun _ => Int32.toInt_inj.mp (by rw [hz2]; rfl)⟩, W, b, iv_J_m hJ0 hM hM2 iv_up21 hInv2⟩
  · have hM1 := km M hM
    have pq : ∀ q, q < 60 → ¬ q = 11 → h1[q]? = h[q]? := fun q q1 q2 => yo q (by omega) q2 (by omega)
    have hF1 : iv_F b A h1 := by
      intro q ro S hq j hj h2
      have hq6 := (xl_fit b q ro S hq).1
      have hq11 : ¬ q = 11 := fun e => by
        subst e
        cases hq
      have := hF q ro S hq j hj h2
      rw [← this]
      unfold iv_ct
      rw [pq q hq6 hq11]
    refine ⟨1, rfl, iv_sh_ok (iv_iW_inv hI1), g_run_mono (hm h1 hM1) (fun r2 h2 hp2 => ?_)⟩
    obtain ⟨v2, M2, ⟨hP2, hInv2⟩, hr2, hM2⟩ := hp2
    rcases hP2 with ⟨-, ⟨lo, hi', rfl⟩, hk⟩ | ⟨hno, -, -⟩
    · obtain ⟨z2, rfl, hz2⟩ := iv_gRi hr2
      refine ⟨⟨z2, rfl, fun _ => Int32.toInt_inj.mp (by rw [hz2]; rfl)⟩, W1, b, ?_⟩
      have low : ∀ q, ¬ (60 ≤ q ∧ q ≤ 105) → h2[q]? = h1[q]? := fun q hq => hM2.2.2 q (xm_I_none hq)
      rw [hmi] at hk
      obtain ⟨z1, z2', z3, z4, z5, z6, z7, z8, -⟩ := hk
      have z7 := z7 (by decide)
      have n4 : ∀ x : Int, 0 ≤ x → x < 496 → iv_num h2 104 x = M2 104 x := fun x x0 x1 => iv_104 hM2 x0 x1
      have c11 : ∀ x, iv_ct h2 11 x = iv_ct h1 11 x := fun x => by
        unfold iv_ct
        rw [low 11 (by omega)]
      have up : ∀ {q : Nat} {x : Nat × Nat}, W[q]? = some x → W1[q]? = some x := fun {q x} hq => by
        obtain ⟨t, rfl⟩ := hWW
        rw [List.getElem?_append_left (List.getElem?_eq_some_iff.mp hq).1]
        exact hq
      refine ⟨⟨iv_cls_kW hI1.1 hI1.2.1 hM2, hI1.2.1, M2, ⟨rfl, hM2.2.1, fun _ _ => rfl⟩, hInv2⟩, iv_F_h (fun q hq => low q (by omega)) hF1, lm_R_k (fun q j hC => ?_) hR0, fun j => if j = i then p else K j, fun i' hi' => ?_, fun x y hx hy hxy => ?_⟩
      · by_cases hq : q < 60
        · have hq11 : ¬ q = 11 := by
            unfold lm_C at hC
            omega
          rw [iv_num_h (low q (by omega)) j, iv_num_h (pq q hq hq11) j]
        · rw [iv_num_m hM2 hC hq, iv_num_m hM hC hq]
          refine z2' q j ?_ ?_ ?_ <;> (unfold lm_C at hC; omega)
      · by_cases ei : i' = i
        · subst ei
          refine Or.inr ?_
          show iv_k1 W1 h2 i' (if i' = i' then p else K i')
          rw [if_pos rfl]
          refine ⟨a, ad, f2, F2, p1, wb.1, wb.2, (c11 _).trans e1, ⟨(low p (by omega)).trans bd.1, fun k hk => ⟨(bd.2 k hk).1, (low _ (by omega)).trans (bd.2 k hk).2⟩⟩, ?_, ?_⟩
          · rw [iv_105 hM2 (by omega) (by omega)]
            exact z1
          · have ef9 : iv_num h 1 9 = iv_n (f 9) := by
              unfold iv_num
              rw [iv_ctZ bl.1]
              rfl
            have ef10 : iv_num h 1 10 = iv_n (f 10) := by
              unfold iv_num
              rw [iv_ctZ bl.1]
              rfl
            refine ⟨?_, ?_, fun j hj => ?_, fun j hj => ?_⟩
            · show iv_n (f2 9) = iv_num h2 104 (124 * (i' : Int) + 0)
              rw [y4, ← ef9, r1, n4 _ (by omega) (by omega), ← z5]
              congr 1 <;> omega
            · show iv_n (f2 10) = iv_num h2 104 (124 * (i' : Int) + 71)
              rw [y5, ← ef10, r2, n4 _ (by omega) (by omega), ← z7]
            · have g := r3 (j : Int) (by omega) (by omega)
              have gz := z6 (j : Int) (by omega) (by omega)
              have e0 : iv_n (F2 0 j) = iv_num h2 104 (124 * (i' : Int) + (1 + 5 * (j : Int))) := by
                have e : iv_num h 2 (j : Int) = iv_n (F 0 ((j : Int)).toNat) := iv_row bl (k := 0) (by decide) (j : Int)
                rw [Int.toNat_natCast] at e
                rw [y6 0 j (by decide) hj, ← e, g.1, n4 _ (by omega) (by omega), ← gz.1]
                congr 1 <;> omega
              have e1 : iv_n (F2 1 j) = iv_num h2 104 (124 * (i' : Int) + (2 + 5 * (j : Int))) := by
                have e : iv_num h 3 (j : Int) = iv_n (F 1 ((j : Int)).toNat) := iv_row bl (k := 1) (by decide) (j : Int)
                rw [Int.toNat_natCast] at e
                rw [y6 1 j (by decide) hj, ← e, g.2.1, n4 _ (by omega) (by omega), ← gz.2.1]
                congr 1 <;> omega
              have e3 : iv_n (F2 3 j) = iv_num h2 104 (124 * (i' : Int) + (4 + 5 * (j : Int))) := by
                have e : iv_num h 5 (j : Int) = iv_n (F 3 ((j : Int)).toNat) := iv_row bl (k := 3) (by decide) (j : Int)
                rw [Int.toNat_natCast] at e
                rw [y6 3 j (by decide) hj, ← e, g.2.2.1, n4 _ (by omega) (by omega), ← gz.2.2.2.1]
                congr 1 <;> omega
              have e4 : iv_n (F2 4 j) = iv_num h2 104 (124 * (i' : Int) + (5 + 5 * (j : Int))) := by
                have e : iv_num h 6 (j : Int) = iv_n (F 4 ((j : Int)).toNat) := iv_row bl (k := 4) (by decide) (j : Int)
                rw [Int.toNat_natCast] at e
                rw [y6 4 j (by decide) hj, ← e, g.2.2.2.1, n4 _ (by omega) (by omega), ← gz.2.2.2.2]
                congr 1 <;> omega
              have e2 : iv_n (F2 2 j) = iv_num h2 104 (124 * (i' : Int) + (3 + 5 * (j : Int))) := by
                have e : iv_num h 4 (j : Int) = iv_n (F 2 ((j : Int)).toNat) := iv_row bl (k := 2) (by decide) (j : Int)
                rw [Int.toNat_natCast] at e
                rw [y6 2 j (by decide) hj, ← e, g.2.2.2.2, n4 _ (by omega) (by omega), ← gz.2.2.1]
                congr 1 <;> omega
              exact ⟨e0, e1, e3, e4, e2⟩
            · have g := r4 (j : Int) (by omega) (by omega)
              have gz := z8 (j : Int) (by omega) (by omega)
              have e5 : iv_n (F2 5 j) = iv_num h2 104 (124 * (i' : Int) + (72 + 2 * (j : Int))) := by
                have e : iv_num h 7 (j : Int) = iv_n (F 5 ((j : Int)).toNat) := iv_row bl (k := 5) (by decide) (j : Int)
                rw [Int.toNat_natCast] at e
                rw [y6 5 j (by decide) hj, ← e, g.1, n4 _ (by omega) (by omega), ← gz.1]
                congr 1 <;> omega
              have e6 : iv_n (F2 6 j) = iv_num h2 104 (124 * (i' : Int) + (73 + 2 * (j : Int))) := by
                have e : iv_num h 8 (j : Int) = iv_n (F 6 ((j : Int)).toNat) := iv_row bl (k := 6) (by decide) (j : Int)
                rw [Int.toNat_natCast] at e
                rw [y6 6 j (by decide) hj, ← e, g.2, n4 _ (by omega) (by omega), ← gz.2]
                congr 1 <;> omega
              exact ⟨e5, e6⟩
        · show (((if i' = i then p else K i') = 0 ∧ _) ∨ iv_k1 W1 h2 i' (if i' = i then p else K i'))
          rw [if_neg ei]
          have n5 : iv_num h2 105 (i' : Int) = iv_num h 105 (i' : Int) := by
            rw [iv_105 hM2 (by omega) (by omega), iv_105 hM (by omega) (by omega)]
            exact z3 _ (by omega)
          rcases k1 i' hi' with ⟨c1, c2, c3⟩ | ⟨a', ad', f', F', q1, w1, w2, s1, bd', n1, bc⟩
          · exact Or.inl ⟨c1, (c11 _).trans ((e2 i' hi' ei).trans c2), n5.trans c3⟩
          · have far : ∀ q, K i' ≤ q → q ≤ K i' + 9 → h2[q]? = h[q]? := by
              intro q h1' h2'
              have hl := (List.getElem?_eq_some_iff.mp (w2 8 (by decide))).1
              have hd : ¬ (p ≤ q ∧ q ≤ p + 9) := by
                rcases ep with ⟨rfl, hz⟩ | ⟨-, rfl⟩
                · rcases k2 i i' hi hi' (fun e => ei e.symm) with h | h | h | h
                  · exact absurd h hz
                  · omega
                  · omega
                  · omega
                · omega
              exact (low q (by omega)).trans (yo q (by omega) (by omega) hd)
            refine Or.inr ⟨a', ad', f', F', q1, up w1, fun k hk => up (w2 k hk), (c11 _).trans ((e2 i' hi' ei).trans s1), ⟨(far _ (by omega) (by omega)).trans bd'.1, fun k hk => ⟨(bd'.2 k hk).1, (far _ (by omega) (by omega)).trans (bd'.2 k hk).2⟩⟩, n5.trans n1, ?_⟩
            refine iv_bc_k (fun x x0 x1 => ?_) (fun _ _ => rfl) (fun _ _ _ _ _ => rfl) bc
            show iv_num h2 104 (124 * (i' : Int) + x) = iv_num h 104 (124 * (i' : Int) + x)
            rw [n4 _ (by omega) (by omega), iv_104 hM (by omega) (by omega)]
            refine z4 _ ?_
            have : i' < i ∨ i < i' := by omega
            omega
      · have hlK : ∀ j, j < 4 → ¬ K j = 0 → K j + 9 < h.length := by
          intro j hj h0
          rcases k1 j hj with ⟨c1, -⟩ | ⟨_, _, _, _, _, _, w2, _⟩
          · exact absurd c1 h0
          · have := (List.getElem?_eq_some_iff.mp (w2 8 (by decide))).1
            omega
        show (if x = i then p else K x) = 0 ∨ (if y = i then p else K y) = 0 ∨ (if x = i then p else K x) + 10 ≤ (if y = i then p else K y) ∨ (if y = i then p else K y) + 10 ≤ (if x = i then p else K x)
        have kd := k2 x y hx hy hxy
        have kx := hlK x hx
        have ky := hlK y hy
        by_cases ex : x = i
        · subst ex
          rw [if_pos rfl, if_neg (fun e => hxy e.symm)]
          rcases ep with ⟨rfl, hz⟩ | ⟨hz, rfl⟩ <;> omega
        · by_cases ey : y = i
          · subst ey
            rw [if_pos rfl, if_neg ex]
            rcases ep with ⟨rfl, hz⟩ | ⟨hz, rfl⟩ <;> omega
          · rw [if_neg ex, if_neg ey]
            exact kd
    · exact absurd ⟨by omega, by omega⟩ hno
theorem xl_b {b b' : Bool} {q : Nat} (h : ¬ q = 0) : xl_I b q = xl_I b' q := by
  unfold xl_I
  split <;> first | rfl | exact absurd rfl h
def iv_S (b : Bool) (j : Nat) : Nat := bif Nat.beq j 10 then (bif b then 55 else 50) else (bif b then 50 else 55)
theorem iv_S_rl (b : Bool) (j : Nat) : iv_rl[iv_S b j]? = some 11 := by
  unfold iv_S
  cases b <;> cases Nat.beq j 10 <;> rfl
