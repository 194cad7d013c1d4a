-- the model's common measure, the class's quotient
def h_cm (x0 y0 : Int64) (z : Option Int64) (y x : Int64) : g_L := match z with
  | none => [(6, .long y), (4, .long x), (0, .long x0), (2, .long y0)]
  | some z => [(6, .long y), (4, .long x), (8, .long z), (0, .long x0), (2, .long y0)]
theorem h_com_loop {d : Nat} {h : g_H} {x0 y0 : Int64} {P : g_S → Prop} (hcl : ∀ S, g_pre (g_run d) 12 10 false 0 0 (g_by 230) P S → P S) (hfull : ∀ r ∈ s_c_230, s_okI (g_by 230) 12 r = true) {B : Int} (hend : ∀ (r : Int64) (L : g_L), 0 < r.toInt → r.toInt ≤ B → P (39, L, [.long r], 0, 0, h)) :
    ∀ (n : Nat) (z : Option Int64) (y x : Int64), y.toInt < n → 0 ≤ x.toInt → 0 ≤ y.toInt → x.toInt ≤ B → y.toInt ≤ B → (0 < y.toInt ∨ 0 < x.toInt) → P (12, h_cm x0 y0 z y x, [], 0, 0, h) := by
  intro n
  induction n with
  | zero =>
    intro z y x hn x0' y0' xB yB h1
    exact absurd hn (by omega)
  | succ n ih =>
    intro z y x hn x0' y0' xB yB h1
    cases z
    all_goals
      refine t_at_ok hcl hfull (pc := 12) (n := 3) (pc' := 16) (L' := _) (st' := [.int (lg_cmp y (Int64.ofNat 0))]) rfl ?_
      refine t_ifc hcl hfull (cd := .eq) (a := 37) rfl ?_
      rw [h_cl, show h_ci y.toInt (Int64.ofNat 0).toInt .eq = decide (y.toInt = 0) from rfl]
      split
      next e =>
        rw [decide_eq_true_eq] at e
        refine t_at_ok hcl hfull (pc := 37) (n := 1) (pc' := 39) (L' := _) (st' := [.long x]) rfl ?_
        exact hend x _ (by omega) xB
      next e =>
        rw [decide_eq_true_eq] at e
        have hy : 0 < y.toInt := by omega
        refine t_at_ok hcl hfull (pc := 19) (n := 2) (pc' := 23) (L' := _) (st' := [.long y, .long x]) rfl ?_
        refine t_ldv hcl hfull rfl (f := fun x y => x - x / y * y) rfl (fun h => by rw [h] at hy; exact absurd hy (by decide)) ?_
        refine t_at_ok hcl hfull (pc := 24) (n := 5) (pc' := 34) (L' := h_cm x0 y0 (some (x - x / y * y)) (x - x / y * y) y) (st' := []) rfl ?_
        refine t_goto hcl hfull (a := 12) rfl ?_
        have e1 := h_rem x0' hy
        have e2 := Int.emod_nonneg x.toInt (show y.toInt ≠ 0 by omega)
        have e3 := Int.emod_lt_of_pos x.toInt hy
        exact ih _ _ _ (by omega) (by omega) (by omega) (by omega) (by omega) (Or.inr hy)
theorem h_com {d : Nat} {h : g_H} {x y : Int64} {post : Option Value → g_H → Prop} {B : Int} (hx : -9223372036854775808 < x.toInt) (hy : -9223372036854775808 < y.toInt) (hxB : (x.toInt.natAbs : Int) ≤ B) (hyB : (y.toInt.natAbs : Int) ≤ B) (hy0 : y.toInt ≠ 0) (k : ∀ r : Int64, 0 < r.toInt → r.toInt ≤ B → post (some (.long r)) h) : g_run (d + 1 + 1) 230 [.long x, .long y] h 0 0 post := by
  have hq : s_mi[230]? = some (10, 3, false, 0, 0, 12) := by decide +kernel
  have hfull := h_full hq (t := s_c_230) rfl
  refine h_meth hq (by show 4 ≤ 10; decide) ?_
  intro P hpost hcl
  refine t_at_ok hcl hfull (pc := 0) (n := 1) (pc' := 1) (L' := [(0, .long x), (2, .long y)]) (st' := [.long x]) rfl ?_
  refine t_stat hcl hfull (a := 56) rfl (Or.inl rfl) [.long x] rfl (by decide) (mc := 0) (ms := 0) (Nat.le_refl _) (Nat.le_refl _) (rest := []) ?_ rfl
  refine h_abs hx (fun x1 hx1 => ?_)
  refine t_at_ok hcl hfull (pc := 4) (n := 2) (pc' := 7) (L' := [(4, .long x1), (0, .long x), (2, .long y)]) (st' := [.long y]) rfl ?_
  refine t_stat hcl hfull (a := 56) rfl (Or.inl rfl) [.long y] rfl (by decide) (mc := 0) (ms := 0) (Nat.le_refl _) (Nat.le_refl _) (rest := []) ?_ rfl
  refine h_abs hy (fun y1 hy1 => ?_)
  refine t_at_ok hcl hfull (pc := 10) (n := 1) (pc' := 12) (L' := h_cm x y none y1 x1) (st' := []) rfl ?_
  exact h_com_loop hcl hfull (B := B) (fun r L h1 h2 => hpost _ (h_lret hq rfl hfull rfl (Nat.le_refl _) (Nat.le_refl _) (k r h1 h2))) (y1.toInt.toNat + 1) none y1 x1 (by omega) (by omega) (by omega) (by omega) (by omega) (Or.inl (by omega))
theorem h_quo {d : Nat} {h : g_H} {x y : Int64} {post : Option Value → g_H → Prop} (k : ∀ r : Int64, post (some (.long r)) h) : g_run (d + 1) 21 [.long x, .long y] h 0 0 post := by
  have hq : s_mi[21]? = some (4, 3, false, 0, 0, 11) := by decide +kernel
  have hfull := h_full hq (t := s_c_21) rfl
  refine h_meth hq (by show 4 ≤ 4; decide) ?_
  intro P hpost hcl
  refine t_at_ok hcl hfull (pc := 0) (n := 3) (pc' := 3) (L' := [(0, .long x), (2, .long y)]) (st' := [.int (lg_cmp y (Int64.ofNat 0))]) rfl ?_
  refine t_ifc hcl hfull (cd := .ne) (a := 10) rfl ?_
  rw [h_cl, show h_ci y.toInt (Int64.ofNat 0).toInt .ne = decide (¬ y.toInt = 0) from rfl]
  split
  next e =>
    rw [decide_eq_true_eq] at e
    refine t_at_ok hcl hfull (pc := 10) (n := 2) (pc' := 12) (L' := [(0, .long x), (2, .long y)]) (st' := [.long y, .long x]) rfl ?_
    refine t_ldv hcl hfull rfl (f := fun x y => x / y) rfl (fun h => e (by rw [h]; rfl)) ?_
    exact hpost _ (h_lret hq rfl hfull rfl (Nat.le_refl _) (Nat.le_refl _) (k _))
  next e =>
    refine t_at_ok hcl hfull (pc := 6) (n := 1) (pc' := 7) (L' := [(0, .long x), (2, .long y)]) (st' := [.long (Int64.ofNat 0)]) rfl ?_
    refine t_goto hcl hfull (a := 13) rfl ?_
    exact hpost _ (h_lret hq rfl hfull rfl (Nat.le_refl _) (Nat.le_refl _) (k _))
