-- keep keeps what holds between calls
set_option maxRecDepth 20000
theorem y_H_app {φ : Nat → Nat → Value} {R : y_R} {W ws : y_W} {β : Nat → Int} {h hs : g_H} (hH : y_H φ R W β h) (hl : hs.length = ws.length) (hro : ∀ (r : Nat) (ro : y_R1), R.1[r]? = some ro → y_rov ro = true → False) (hN : ∀ p ∈ R.2, ∀ w ∈ ws, ¬ w.2 = p.2.1) (hT : ∀ (q a r : Nat), ws[q]? = some (a, r) → ∃ (ro : y_R1) (f : Nat → Value), R.1[r]? = some ro ∧ hs[q]? = some (a, ro.1, ro.2.1, ro.2.2.1, f) ∧ ∀ j, j < ro.2.2.1 → y_g (W ++ ws) β (y_spj β ro j) (f j)) : y_H φ R (W ++ ws) β (h ++ hs) := by
  have hW : W <+: W ++ ws := ⟨ws, rfl⟩
  refine ⟨by rw [List.length_append, List.length_append, hH.1, hl], fun q a r hq => ?_, fun p hp => ?_⟩
  · by_cases hlt : q < W.length
    · rw [List.getElem?_append_left hlt] at hq
      obtain ⟨ro, f, g1, g2, g3⟩ := hH.2.1 q a r hq
      refine ⟨ro, f, g1, ?_, fun j hj => ?_⟩
      · rw [List.getElem?_append_left (by rw [hH.1]; exact hlt)]
        exact g2
      · rcases g3 j hj with g | g
        · exact Or.inl g
        · exact Or.inr ⟨y_ext_g hW g.1, g.2⟩
    · rw [List.getElem?_append_right (by omega)] at hq
      obtain ⟨ro, f, g1, g2, g3⟩ := hT _ a r hq
      refine ⟨ro, f, g1, ?_, fun j hj => Or.inr ⟨g3 j hj, fun h => (hro r ro g1 h).elim⟩⟩
      rw [List.getElem?_append_right (by rw [hH.1]; omega), hH.1]
      exact g2
  · obtain ⟨u1, q, a, ro, f, n, v1, v2, v3, v4, v5⟩ := hH.2.2 p hp
    have low : ∀ q a, (W ++ ws)[q]? = some (a, p.2.1) → W[q]? = some (a, p.2.1) := fun q a hq => by
      by_cases hlt : q < W.length
      · rw [List.getElem?_append_left hlt] at hq
        exact hq
      · rw [List.getElem?_append_right (by omega)] at hq
        exact absurd rfl (hN p hp _ (List.mem_of_getElem? hq))
    have hql := (List.getElem?_eq_some_iff.mp v1).1
    refine ⟨fun q q' a a' h1 h2 => u1 q q' a a' (low q a h1) (low q' a' h2), q, a, ro, f, n, ?_, v2, ?_, v4, v5⟩
    · rw [List.getElem?_append_left hql]
      exact v1
    · rw [List.getElem?_append_left (by rw [hH.1]; exact hql)]
      exact v3
/-- the world of a new Build -/
def iv_ws (z z0 z1 z2 z3 z4 z5 z6 z7 z8 : Nat) : y_W := [(z, 1), (z0, 14), (z1, 15), (z2, 16), (z3, 17), (z4, 18), (z5, 19), (z6, 20), (z7, 21), (z8, 22)]
theorem iv_ints {W : y_W} {β : Nat → Int} {lo hi : Int} (h1 : lo ≤ 0) (h2 : 0 ≤ hi) : y_g W β (0, lo, hi, 0, 0, 0, 0) (.int 0) := ⟨0, rfl, h1, h2, fun h => absurd rfl h, fun h => absurd rfl h⟩
theorem iv_bl_H {φ : Nat → Nat → Value} {W : y_W} {β : Nat → Int} {h h' : g_H} {z : Nat} {f : Nat → Value} (hH : y_H φ y_Rc W β h) (hb : iv_bl h h' z f) (h9 : f 9 = .int 0) (h10 : f 10 = .int 0) : ∃ ws : y_W, y_H φ y_Rc (W ++ ws) β h' ∧ ws[0]? = some (z, 1) := by
  obtain ⟨z0, z1, z2, z3, z4, z5, z6, z7, z8, rfl⟩ := hb
  refine ⟨iv_ws z z0 z1 z2 z3 z4 z5 z6 z7 z8, y_H_app hH rfl (fun _ _ => y_Rc_no) ?_ ?_, rfl⟩
  · intro p hp w hw
    have hp' : p = (300001, 8, 5) := by
      have : p ∈ [(300001, 8, 5)] := hp
      simpa using this
    subst hp'
    unfold iv_ws at hw
    simp only [List.mem_cons, List.not_mem_nil, or_false] at hw
    rcases hw with rfl | rfl | rfl | rfl | rfl | rfl | rfl | rfl | rfl | rfl <;> simp
  · intro q a r hq
    have at_ : ∀ k, k < 10 → (W ++ iv_ws z z0 z1 z2 z3 z4 z5 z6 z7 z8)[W.length + k]? = (iv_ws z z0 z1 z2 z3 z4 z5 z6 z7 z8)[k]? := fun k hk => by
      rw [List.getElem?_append_right (by omega), show W.length + k - W.length = k by omega]
    rcases q with _ | _ | _ | _ | _ | _ | _ | _ | _ | _ | q
    · cases hq
      refine ⟨_, _, rfl, rfl, fun j hj => ?_⟩
      have hj : j < 11 := hj
      rcases j with _ | _ | _ | _ | _ | _ | _ | _ | _ | _ | _ | j
      · exact ⟨W.length + 1, z0, rfl, at_ 1 (by decide)⟩
      · exact ⟨W.length + 2, z1, rfl, at_ 2 (by decide)⟩
      · exact ⟨W.length + 3, z2, rfl, at_ 3 (by decide)⟩
      · exact ⟨W.length + 4, z3, rfl, at_ 4 (by decide)⟩
      · exact ⟨W.length + 5, z4, rfl, at_ 5 (by decide)⟩
      · exact ⟨W.length + 6, z5, rfl, at_ 6 (by decide)⟩
      · exact ⟨W.length + 7, z6, rfl, at_ 7 (by decide)⟩
      · exact ⟨W.length + 8, z7, rfl, at_ 8 (by decide)⟩
      · exact ⟨W.length + 9, z8, rfl, at_ 9 (by decide)⟩
      · show y_g _ β (0, -2147483648, 2147483647, 0, 0, 0, 0) (f 9)
        rw [h9]
        exact iv_ints (by decide) (by decide)
      · show y_g _ β (0, -2147483648, 2147483647, 0, 0, 0, 0) (f 10)
        rw [h10]
        exact iv_ints (by decide) (by decide)
      · omega
    all_goals first
      | (cases hq; exact ⟨_, _, rfl, rfl, fun j hj => iv_ints (by decide) (by decide)⟩)
      | (exact absurd hq (by intro h; cases h))
-- the run up to where a new one is made
def iv_kt : List s_I := t_stop [26] s_c_200
def iv_k26 (Y : y_X) : Bool := match Y with
  | (r :: _, L, st) => bif Nat.beq r.1 26 then (st.isEmpty && ((match y_find L 0 with
      | some v => Nat.beq v.1 2 && decide (v.2.1 = 0)
      | none => false) && (match y_find L 1 with
      | some v => Nat.beq v.1 0 && (decide (0 ≤ v.2.1) && decide (v.2.2.1 ≤ 3))
      | none => false)))
    else (match st with
      | [v] => Nat.beq r.2.2.1 40 && (Nat.beq v.1.1 0 && (decide (0 ≤ v.1.2.1) && decide (v.1.2.2.1 ≤ 1)))
      | _ => false)
  | _ => false
def iv_k0 : Bool := match y_run y_Rc s_ft s_mi (y_Kc 59) [] iv_kt 3 1000 [] (iv_kt, [(0, (2, 0, 0, 0, 0, 0, 0)), (1, (0, -2147483648, 2147483647, 0, 0, 0, 0))], []) with
  | some ls => ls.all iv_k26
  | none => false
set_option maxRecDepth 100000 in
theorem iv_k0_ok : iv_k0 = true := by decide +kernel
set_option maxRecDepth 100000 in
theorem iv_kcp : (y_Kc 59 201 [(2, 1, 0, 0, 0, 0, 0), (2, 1, 0, 0, 0, 0, 0)] []).isSome = true := by decide +kernel
theorem iv_st2 {Ls : g_L} {i : Nat} {x v : Value} (h : (i, x) ∈ Ls) (hi : i < 2) (hx : x.category = 1) : (i, x) ∈ g_st1 2 v Ls := by
  refine List.mem_cons_of_mem _ (List.mem_filter.mpr ⟨h, ?_⟩)
  rw [hx]
  simp only [Bool.and_eq_true, Bool.not_eq_true', beq_eq_false_iff_ne]
  refine ⟨by show ¬ i = 2; omega, ?_⟩
  cases (i + 1 == 2) <;> rfl
theorem iv_keepX (A : Nat → Nat) (h : g_H) (m : Int32) (hI : iv_inv A h) : g_run 60 200 [.ref (A 0), .int m] h 10 133 (fun r h' => (∃ v, r = some (.int v)) ∧ iv_inv A h') := by
  obtain ⟨q1, q2, q3, q4, q5⟩ := s_mi_ok 200 (3, 2, false, 10, 133, 11) (by decide +kernel)
  obtain ⟨c1, c2⟩ := s_codes_ok 200 (3, 2, false, 10, 133, 11) (by decide +kernel)
  rw [show s_codes.getD 200 [] = s_c_200 from rfl] at c1 c2
  have q3 : g_rt 200 = some .boolean := q3
  refine ⟨q1, by rw [q2]; exact (show 2 ≤ 3 by decide), ?_⟩
  rw [q5, q2, q4]
  intro P hend hcl
  obtain ⟨⟨W, β, hH, hW⟩, M, hM, hInv⟩ := hI
  have ret : ∀ {pc len kd a k : Nat} {v0 : Int} {ins : Instr} {Ls : g_L} {x : Int32} {c s : Nat} {h' : g_H}, s_okI (g_by 200) 11 (pc, len, 40, kd, a, k, v0, ins) = true → (x = 0 ∨ x = 1) → c ≤ 10 → s ≤ 133 → iv_inv A h' → P (pc, Ls, [.int x], c, s, h') := by
    intro pc len kd a k v0 ins Ls x c s h' hok hx hc hs hI'
    exact hend _ ⟨hc, hs, Or.inl ⟨x, .boolean, iv_ireturn hok, q3, by rcases hx with rfl | rfl <;> rfl, rfl, ⟨x, rfl⟩, hI'⟩⟩
  have ct2 : ∀ r ∈ iv_kt, s_okI (g_by 200) 11 r = true := t_stop_ok c2
  have hb := iv_k0_ok
  unfold iv_k0 at hb
  split at hb
  next ls el =>
    obtain ⟨k1, k2⟩ := y_run_ok (φ := iv_ct h) (P := P) hcl y_Rc_ok s_ft_ok s_mi_ok (y_Kc_ok 59) ct2 1000 [] _ ls el ct2 (fun g hg => by cases hg)
    have key := k2 W β h (lv_args 0 [.ref (A 0), .int m]) [] hH (fun q hq => ?_) trivial (fun g hg => by cases hg) (fun Y hY => ?_)
    · rw [show s_pc iv_kt = 0 from rfl] at key
      exact key
    · have hq : q ∈ [((0, (2, 0, 0, 0, 0, 0, 0)) : Nat × y_V), (1, (0, -2147483648, 2147483647, 0, 0, 0, 0))] := hq
      simp only [List.mem_cons, List.not_mem_nil, or_false] at hq
      have b1 := Int32.le_toInt m
      have b2 := Int32.toInt_lt m
      rcases hq with rfl | rfl
      · exact iv_gL (by decide) (List.mem_cons_self) ⟨0, A 0, rfl, hW 0 0 rfl⟩
      · exact iv_gL (by decide) (List.mem_cons_of_mem _ List.mem_cons_self) ⟨m, rfl, b1, by show m.toInt ≤ 2147483647; omega, fun h => absurd rfl h, fun h => absurd rfl h⟩
    · have hbY := List.all_eq_true.mp hb Y hY
      have hYI := k1 Y hY
      intro W' β' h1 Ls sts hWW hb9 hH1 hL1 hS1
      obtain ⟨c9, L, st⟩ := Y
      cases c9 with
      | nil => cases hbY
      | cons r t =>
        unfold iv_k26 at hbY
        dsimp only at hbY
        cases e26 : Nat.beq r.1 26
        · rw [e26, cond_false] at hbY
          split at hbY
          next v =>
            simp only [Bool.and_eq_true, Nat.beq_eq, decide_eq_true_eq] at hbY
            obtain ⟨r1, v1, v2, v3⟩ := hbY
            cases sts with
            | nil => exact hS1.elim
            | cons x xs =>
              cases xs with
              | cons _ _ => exact hS1.2.elim
              | nil =>
                obtain ⟨⟨k, lo, hi, rq⟩, cp⟩ := v
                have v1 : k = 0 := v1
                have v2 : 0 ≤ lo := v2
                have v3 : hi ≤ 1 := v3
                subst v1
                obtain ⟨⟨n, rfl, n1, n2, -⟩, -⟩ := hS1.1
                have hn : n = 0 ∨ n = 1 := by
                  rcases (show n.toInt = 0 ∨ n.toInt = 1 by omega) with h | h
                  · exact Or.inl (Int32.toInt_inj.mp (h.trans (show (0 : Int32).toInt = 0 from rfl).symm))
                  · exact Or.inr (Int32.toInt_inj.mp (h.trans (show (1 : Int32).toInt = 1 from rfl).symm))
                have hrI := hYI r List.mem_cons_self
                obtain ⟨pc, len, q9, kd, a, k9, v0, ins⟩ := r
                have r1 : q9 = 40 := r1
                subst r1
                exact ret hrI hn (by decide) (by decide) (iv_back hW hM hInv hWW hH1)
          next => cases hbY
        · rw [e26, cond_true] at hbY
          rw [Nat.beq_eq] at e26
          simp only [Bool.and_eq_true, decide_eq_true_eq, List.isEmpty_iff] at hbY
          obtain ⟨rfl, f0, f1⟩ := hbY
          cases sts with
          | cons _ _ => exact hS1.elim
          | nil =>
            show P (r.1, Ls, [], 0, 0, h1)
            rw [e26]
            split at f0
            next v0 ev0 =>
             split at f1
             next v ev =>
              simp only [Bool.and_eq_true, Nat.beq_eq, decide_eq_true_eq] at f0 f1
              obtain ⟨v1, v2, v3⟩ := f1
              obtain ⟨x0, a0, g0⟩ := hL1 _ (y_find_in ev0)
              obtain ⟨k0, r0, t0⟩ := v0
              have w1 : k0 = 2 := f0.1
              have w2 : r0 = 0 := f0.2
              subst w1 w2
              obtain ⟨x1, a1, g1⟩ := hL1 _ (y_find_in ev)
              have a0 := a0.1 (show 0 < 200000 by decide)
              have a1 := a1.1 (show 1 < 200000 by decide)
              obtain ⟨k, lo, hi, rq⟩ := v
              have v1 : k = 0 := v1
              have v2 : 0 ≤ lo := v2
              have v3 : hi ≤ 3 := v3
              subst v1
              obtain ⟨i, rfl, i1, i2, -⟩ := g1
              obtain ⟨qx, ax, rfl, hqx⟩ := g0
              have hqx : W'[qx]? = some (ax, 0) := hqx
              -- new, dup, its constructor
              refine iv_new (q9 := 0) hcl (c2 _ (iv_in (c := []) (pc := 26) rfl)) (by decide) (by decide) (fun z => ?_)
              refine iv_dup hcl (c2 _ (iv_in (c := []) (pc := 29) rfl)) rfl ?_
              refine iv_special (as := []) hcl (c2 _ (iv_in (c := []) (pc := 30) rfl)) (Or.inr rfl) rfl (by exact (show 1 ≤ 8 by decide)) (mc := 9) (ms := 122) (by decide) (by decide) ?_
              refine g_run_mono (iv_init (d := 58) (a := z) (h := h1) (f := fun j => defaultValue ((parseFieldDescriptor (g_fd 1 j).1).getD .int))) (fun r9 h2 hp => ?_)
              obtain ⟨rfl, hbl⟩ := hp
              obtain ⟨ws, hH2, hz⟩ := iv_bl_H hH1 hbl (by decide +kernel) (by decide +kernel)
              have hW2 : W' <+: W' ++ ws := ⟨ws, rfl⟩
              have hzW : (W' ++ ws)[W'.length]? = some (z, 1) := by
                rw [List.getElem?_append_right (Nat.le_refl _), Nat.sub_self]
                exact hz
              have up : ∀ {q a r : Nat}, W'[q]? = some (a, r) → (W' ++ ws)[q]? = some (a, r) := fun {q a r} hq => by
                rw [List.getElem?_append_left (List.getElem?_eq_some_iff.mp hq).1]
                exact hq
              refine hcl _ ⟨_, _, iv_dec (c2 _ (iv_in (c := []) (pc := 33) rfl)) (by decide) (by decide), Or.inl (Or.inr (Or.inr (Or.inl ⟨2, _, _, _, rfl, rfl, rfl, by decide, ?_⟩)))⟩
              have m0 : (0, Value.ref ax) ∈ g_st1 2 (.ref z) Ls := iv_st2 a0 (by decide) rfl
              have m1 : (1, Value.int i) ∈ g_st1 2 (.ref z) Ls := iv_st2 a1 (by decide) rfl
              have m2 : (2, Value.ref z) ∈ g_st1 2 (.ref z) Ls := List.mem_cons_self
              refine hcl _ ⟨_, _, iv_dec (c2 _ (iv_in (c := []) (pc := 34) rfl)) (by decide) (by decide), Or.inl (Or.inr (Or.inl ⟨0, _, _, rfl, m0, rfl, ?_⟩))⟩
              obtain ⟨ro, fx, e1, e2, e3⟩ := hH2.2.1 qx ax 0 (up hqx)
              cases e1
              have tx := fun j (hj : j < 12) => ((e3 j hj).resolve_left (fun h => by cases h.1)).1
              refine iv_getfield hcl (c2 _ (iv_in (c := []) (pc := 35) rfl)) (Or.inl rfl) (q := qx) (n := 12) (f := fx) e2 (by decide) ?_
              obtain ⟨qb, ab, eb, hqb⟩ := tx 1 (by decide)
              have hqb : (W' ++ ws)[qb]? = some (ab, 13) := hqb
              rw [eb]
              refine hcl _ ⟨_, _, iv_dec (c2 _ (iv_in (c := []) (pc := 38) rfl)) (by decide) (by decide), Or.inl (Or.inr (Or.inl ⟨1, _, _, rfl, m1, rfl, ?_⟩))⟩
              refine hcl _ ⟨_, _, iv_dec (c2 _ (iv_in (c := []) (pc := 39) rfl)) (by decide) (by decide), Or.inl (Or.inr (Or.inl ⟨2, _, _, rfl, m2, rfl, ?_⟩))⟩
              obtain ⟨ro, fb, e4, e5, e6⟩ := hH2.2.1 qb ab 13 hqb
              cases e4
              obtain ⟨ro, fz, e7, e8, e9⟩ := hH2.2.1 W'.length z 1 hzW
              cases e7
              refine iv_aastore hcl (c2 _ (iv_in (c := []) (pc := 40) rfl)) (q := qb) (n := 4) (f := fb) e5 (qk := W'.length) e8 (fun hv => ?_) ?_
              · rcases hv with hv | hv
                · have := Int32.lt_iff_toInt_lt.mp hv
                  have h0 : (0 : Int32).toInt = 0 := rfl
                  omega
                · have : (i.toNatClampNeg : Int) = i.toInt := by
                    rw [← Int32.toNat_toInt]
                    omega
                  omega
              have hH3 := y_H_set (f' := g_up fb i.toNatClampNeg (.ref z)) hH2 hqb rfl e5 (fun p hp hpr => by
                have hp' : p = (300001, 8, 5) := by
                  have : p ∈ [(300001, 8, 5)] := hp
                  simpa using this
                subst hp'
                cases hpr) (fun j hj => by
                unfold g_up
                split
                · exact Or.inr ⟨W'.length, z, rfl, hzW⟩
                · exact ((e6 j hj).resolve_left (fun h => by cases h.1)).1)
              refine hcl _ ⟨_, _, iv_dec (c2 _ (iv_in (c := []) (pc := 41) rfl)) (by decide) (by decide), Or.inl (Or.inr (Or.inl ⟨2, _, _, rfl, m2, rfl, ?_⟩))⟩
              refine hcl _ ⟨_, _, iv_dec (c2 _ (iv_in (c := []) (pc := 42) rfl)) (by decide) (by decide), Or.inl (Or.inr (Or.inl ⟨0, _, _, rfl, m0, rfl, ?_⟩))⟩
              obtain ⟨ro, fx3, e10, e11, e12⟩ := hH3.2.1 qx ax 0 (up hqx)
              cases e10
              refine iv_getfield hcl (c2 _ (iv_in (c := []) (pc := 43) rfl)) (Or.inl rfl) (q := qx) (n := 12) (f := fx3) e11 (by decide) ?_
              have g0 := ((e12 0 (by decide)).resolve_left (fun h => by cases h.1)).1
              obtain ⟨ql, al, el2, hql⟩ := g0
              have hql : (W' ++ ws)[ql]? = some (al, 1) := hql
              rw [el2]
              obtain ⟨ro, fz3, e13, e14, e15⟩ := hH3.2.1 W'.length z 1 hzW
              cases e13
              obtain ⟨outs, eo⟩ := Option.isSome_iff_exists.mp iv_kcp
              have h201 : (g_me 201).2.1 = 1 := (s_mi_ok 201 _ (show s_mi[201]? = some (2, 0, false, 0, 0, 1) by decide +kernel)).2.2.2.2
              refine iv_virt (as := [.ref al]) (rest := []) hcl (c2 _ (iv_in (c := []) (pc := 46) rfl)) (q := W'.length) (by rw [h201]; exact e14) rfl (by decide) (mc := 0) (ms := 0) (by decide) (by decide) ?_
              refine g_run_rt (y_Kc_ok 59 201 _ [] outs eo (iv_ct h) _ β' _ [.ref z, .ref al] hH3 ⟨⟨W'.length, z, rfl, hzW⟩, ⟨ql, al, rfl, hql⟩, trivial⟩ (fun q hq => by cases hq) (fun _ h4 => iv_inv A h4) (fun out _ W3 β3 h4 x hW3 _ _ hH4 _ _ _ => iv_back hW hM hInv ((hWW.trans hW2).trans hW3) hH4)) (fun r4 h4 hI4 hrt => ?_)
              have hr4 : r4 = none := by
                have h3 := (s_mi_ok 201 _ (show s_mi[201]? = some (2, 0, false, 0, 0, 1) by decide +kernel)).2.2.1
                have h3 : g_rt 201 = none := h3
                rw [h3] at hrt
                exact hrt
              subst hr4
              refine hcl _ ⟨_, _, iv_dec (c2 _ (iv_in (c := []) (pc := 49) rfl)) (by decide) (by decide), Or.inl (Or.inl ⟨_, rfl, ?_⟩)⟩
              exact ret (c2 _ (iv_in (c := []) (pc := 50) rfl)) (Or.inr rfl) (by decide) (by decide) hI4
             next => cases f1
            next => cases f0
  next => cases hb
theorem iv_keep_pair (A : Nat → Nat) : iv_pair (iv_inv A) A 200 293 [0] false false := by
  intro h as hI hs
  obtain ⟨m1, ys, e, h1, hs0⟩ := iv_spc hs
  obtain rfl := iv_sp0 hs0
  refine ⟨10, 133, by decide, by decide, ?_⟩
  rw [e]
  refine g_run_mono (iv_keepX A h m1 hI) (fun r1 h1 hp => ?_)
  obtain ⟨⟨v1, e1⟩, hI1⟩ := hp
  refine ⟨v1, e1, iv_sh_ok hI1, g_run_mono (hm_293 A h1 [.int m1] hI1 (by rw [← e]; exact hs)) (fun r2 h2 hp2 => ?_)⟩
  obtain ⟨⟨v2, e2⟩, hI2⟩ := hp2
  exact ⟨⟨v2, e2, (fun h => by cases h)⟩, hI2⟩
