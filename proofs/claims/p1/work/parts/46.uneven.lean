-- uneven: the class's loop and the model's
def un_in (u d : Int) : Prop := 1 ≤ u ∧ u ≤ 1000 ∧ 1 ≤ d ∧ d ≤ 1000 ∧ d ≤ u
def un_of (u d a : Int) : Int := (((100 + a) * d - (100 - a) * u).natAbs : Int)
def un_best (u d : Int) : Nat → Int
  | 0 => 0
  | n + 1 => if un_of u d ((n : Int) + 1) * (100 - un_best u d n) < un_of u d (un_best u d n) * (100 - ((n : Int) + 1)) then (n : Int) + 1 else un_best u d n
theorem un_best_rng (u d : Int) : ∀ n, 0 ≤ un_best u d n ∧ un_best u d n ≤ n
  | 0 => ⟨Int.le_refl _, Int.le_refl _⟩
  | n + 1 => by
    have h := un_best_rng u d n
    rw [un_best]
    split
    · omega
    · omega
def un_X (u d a : Int32) : Int64 := (Int64.ofInt 100 + a.toInt64) * d.toInt64 - (Int64.ofInt 100 - a.toInt64) * u.toInt64
theorem un_X_eq {u d a : Int32} (h : un_in u.toInt d.toInt) (ha : 0 ≤ a.toInt ∧ a.toInt ≤ 100) : (un_X u d a).toInt = (100 + a.toInt) * d.toInt - (100 - a.toInt) * u.toInt ∧ (un_X u d a).toInt.natAbs ≤ 400000 := by
  obtain ⟨h1, h2, h3, h4, h5⟩ := h
  obtain ⟨a1, a2⟩ := i64o a (A := 100) (by omega)
  obtain ⟨u1, u2⟩ := i64o u (A := 1000) (by omega)
  obtain ⟨d1, d2⟩ := i64o d (A := 1000) (by omega)
  obtain ⟨e1, m1⟩ := i64a (x := Int64.ofInt 100) (A := 100) (by decide) a2 (by decide)
  obtain ⟨e2, m2⟩ := i64m m1 d2 (by decide)
  obtain ⟨e3, m3⟩ := i64s (x := Int64.ofInt 100) (A := 100) (by decide) a2 (by decide)
  obtain ⟨e4, m4⟩ := i64m m3 u2 (by decide)
  obtain ⟨e5, m5⟩ := i64s m2 m4 (by decide)
  refine ⟨?_, by unfold un_X; omega⟩
  unfold un_X
  rw [e5, e4, e3, e2, e1, a1, u1, d1, show (Int64.ofInt 100).toInt = 100 from rfl]
/-- h * (100 - x) in the machine's numbers -/
def un_W (h : Int64) (x : Int32) : Int64 := h * ((Int8.ofInt 100).toInt32 - x).toInt64
theorem un_W_eq {h : Int64} {x : Int32} (hh : h.toInt.natAbs ≤ 400000) (hx : 0 ≤ x.toInt ∧ x.toInt ≤ 100) : (un_W h x).toInt = h.toInt * (100 - x.toInt) := by
  obtain ⟨e1, m1⟩ := i32s (x := (Int8.ofInt 100).toInt32) (A := 100) (B := 100) (y := x) (by decide) (by omega) (by decide)
  obtain ⟨e2, m2⟩ := i64o _ m1
  obtain ⟨e3, m3⟩ := i64m hh m2 (by decide)
  unfold un_W
  rw [e3, e2, e1, show (Int8.ofInt 100).toInt32.toInt = 100 from rfl]
/-- the class's locals at the loop's head -/
def un_L (T : Value) (u d : Int32) (z : Option (Int64 × Int64)) (a best : Int32) : g_L := match z with
  | none => [(4, .int a), (3, .int best), (0, T), (1, .int u), (2, .int d)]
  | some (th, he) => [(4, .int a), (3, .int best), (7, .long th), (5, .long he), (0, T), (1, .int u), (2, .int d)]
/-- .. behind the first number -/
def un_M (T : Value) (u d : Int32) (z : Option (Int64 × Int64)) (a best : Int32) (he : Int64) : g_L := match z with
  | none => [(5, .long he), (4, .int a), (3, .int best), (0, T), (1, .int u), (2, .int d)]
  | some (th, _) => [(5, .long he), (4, .int a), (3, .int best), (7, .long th), (0, T), (1, .int u), (2, .int d)]
/-- the model's locals at the loop's head -/
def un_N (T : Value) (u d : Int32) (z : Option (Bool × Int64)) (a : Int32) (bo : Int64) (best : Int32) : g_L := match z with
  | none => [(6, .int a), (4, .long bo), (3, .int best), (0, T), (1, .int u), (2, .int d)]
  | some (false, off) => [(6, .int a), (7, .long off), (4, .long bo), (3, .int best), (0, T), (1, .int u), (2, .int d)]
  | some (true, off) => [(6, .int a), (4, .long bo), (3, .int best), (7, .long off), (0, T), (1, .int u), (2, .int d)]
section T46
variable {dp : Nat} {P : g_S → Prop} {T : Value} {u d : Int32} {h : g_H}
/-- the class's arguments -/
theorem un_x {w : g_W} (hcl : ∀ S, g_pre (g_run dp) 11 9 false 0 0 (g_by 163) P S → P S) (hfull : ∀ r ∈ s_c_163, s_okI (g_by 163) 11 r = true)
    (k1 : un_in u.toInt d.toInt → P (36, un_L T u d none (Int32.ofInt 1) (Int32.ofInt 0), [], w))
    (k2 : ¬ un_in u.toInt d.toInt → P (30, [(0, T), (1, .int u), (2, .int d)], [.int (Int32.ofInt (-1))], w)) : P (0, [(0, T), (1, .int u), (2, .int d)], [], w) := by
  have k3 : ¬ un_in u.toInt d.toInt → P (29, [(0, T), (1, .int u), (2, .int d)], [], w) := fun hn =>
    t_at_ok hcl hfull (pc := 29) (n := 1) (pc' := 30) (L' := _) (st' := _) rfl (k2 hn)
  refine t_at_ok hcl hfull (pc := 0) (n := 2) (pc' := 2) (L' := _) (st' := [.int (Int32.ofInt 1), .int u]) rfl ?_
  refine t_icmp hcl hfull (cd := .lt) (a := 29) rfl ?_
  rw [h_c2, show h_ci u.toInt (Int32.ofInt 1).toInt .lt = decide (u.toInt < 1) from rfl]
  split
  next e => rw [decide_eq_true_eq] at e; exact k3 (by unfold un_in; omega)
  next e1 =>
  rw [decide_eq_true_eq] at e1
  refine t_at_ok hcl hfull (pc := 5) (n := 2) (pc' := 9) (L' := _) (st' := [.int (Int16.ofInt 1000).toInt32, .int u]) rfl ?_
  refine t_icmp hcl hfull (cd := .gt) (a := 29) rfl ?_
  rw [h_c2, show h_ci u.toInt (Int16.ofInt 1000).toInt32.toInt .gt = decide (1000 < u.toInt) from rfl]
  split
  next e => rw [decide_eq_true_eq] at e; exact k3 (by unfold un_in; omega)
  next e2 =>
  rw [decide_eq_true_eq] at e2
  refine t_at_ok hcl hfull (pc := 12) (n := 2) (pc' := 14) (L' := _) (st' := [.int (Int32.ofInt 1), .int d]) rfl ?_
  refine t_icmp hcl hfull (cd := .lt) (a := 29) rfl ?_
  rw [h_c2, show h_ci d.toInt (Int32.ofInt 1).toInt .lt = decide (d.toInt < 1) from rfl]
  split
  next e => rw [decide_eq_true_eq] at e; exact k3 (by unfold un_in; omega)
  next e3 =>
  rw [decide_eq_true_eq] at e3
  refine t_at_ok hcl hfull (pc := 17) (n := 2) (pc' := 21) (L' := _) (st' := [.int (Int16.ofInt 1000).toInt32, .int d]) rfl ?_
  refine t_icmp hcl hfull (cd := .gt) (a := 29) rfl ?_
  rw [h_c2, show h_ci d.toInt (Int16.ofInt 1000).toInt32.toInt .gt = decide (1000 < d.toInt) from rfl]
  split
  next e => rw [decide_eq_true_eq] at e; exact k3 (by unfold un_in; omega)
  next e4 =>
  rw [decide_eq_true_eq] at e4
  refine t_at_ok hcl hfull (pc := 24) (n := 2) (pc' := 26) (L' := _) (st' := [.int d, .int u]) rfl ?_
  refine t_icmp hcl hfull (cd := .ge) (a := 31) rfl ?_
  rw [h_c2, show h_ci u.toInt d.toInt .ge = decide (d.toInt ≤ u.toInt) from rfl]
  split
  next e5 =>
    rw [decide_eq_true_eq] at e5
    refine t_at_ok hcl hfull (pc := 31) (n := 4) (pc' := 36) (L' := un_L T u d none (Int32.ofInt 1) (Int32.ofInt 0)) (st' := []) rfl ?_
    exact k1 (by unfold un_in; omega)
  next e => rw [decide_eq_true_eq] at e; exact k3 (by unfold un_in; omega)
/-- the class's loop -/
theorem un_xl (hcl : ∀ S, g_pre (g_run (dp + 1)) 11 9 false 0 0 (g_by 163) P S → P S) (hfull : ∀ r ∈ s_c_163, s_okI (g_by 163) 11 r = true) (hin : un_in u.toInt d.toInt)
    (k : ∀ (th he : Int64) (best : Int32), best.toInt = un_best u.toInt d.toInt 99 → P (127, un_L T u d (some (th, he)) (Int32.ofInt 100) best, [], 0, 0, h)) :
    ∀ (m n : Nat), n + m = 99 → ∀ (z : Option (Int64 × Int64)) (a best : Int32), (n = 0 ∨ z.isSome = true) → a.toInt = (n : Int) + 1 → best.toInt = un_best u.toInt d.toInt n → P (36, un_L T u d z a best, [], 0, 0, h) := by
  intro m
  induction m with
  | zero =>
    intro n hn z a best hz ha hb
    cases z with
    | none =>
      rcases hz with hz | hz
      · omega
      · cases hz
    | some z =>
      obtain ⟨th, he⟩ := z
      refine t_at_ok hcl hfull (pc := 36) (n := 2) (pc' := 40) (L' := un_L T u d (some (th, he)) a best) (st' := [.int (Int8.ofInt 100).toInt32, .int a]) rfl ?_
      refine t_icmp hcl hfull (cd := .ge) (a := 127) rfl ?_
      rw [h_c2, show h_ci a.toInt (Int8.ofInt 100).toInt32.toInt .ge = decide (100 ≤ a.toInt) from rfl, if_pos (by rw [decide_eq_true_eq]; omega)]
      have e : a = Int32.ofInt 100 := Int32.toInt_inj.mp (by rw [ha, show (Int32.ofInt 100).toInt = 100 from rfl]; omega)
      rw [e]
      have hn' : n = 99 := by omega
      subst hn'
      exact k th he best hb
  | succ m ih =>
    intro n hn z a best hz ha hb
    have hbr := un_best_rng u.toInt d.toInt n
    have ha' : 0 ≤ a.toInt ∧ a.toInt ≤ 100 := by omega
    have hb' : 0 ≤ best.toInt ∧ best.toInt ≤ 100 := by omega
    obtain ⟨x1, x2⟩ := un_X_eq hin ha'
    obtain ⟨y1, y2⟩ := un_X_eq hin hb'
    have step : ∀ (best2 : Int32) (he th : Int64), best2.toInt = un_best u.toInt d.toInt (n + 1) → P (120, [(7, .long th), (5, .long he), (4, .int a), (3, .int best), (0, T), (1, .int u), (2, .int d)], [.int best2], 0, 0, h) := by
      intro best2 he th hb2
      refine t_at_ok hcl hfull (pc := 120) (n := 2) (pc' := 124) (L' := un_L T u d (some (th, he)) (a + Int32.ofInt 1) best2) (st' := []) rfl ?_
      refine t_goto hcl hfull (a := 36) rfl ?_
      refine ih (n + 1) (by omega) _ _ _ (Or.inr rfl) ?_ hb2
      rw [h_inc (by omega), ha]
      omega
    have s2 : ∀ (he th : Int64), he.toInt = un_of u.toInt d.toInt a.toInt → th.toInt = un_of u.toInt d.toInt best.toInt → P (91, un_M T u d z a best he, [.long th], 0, 0, h) := by
      intro he th hhe hth
      have key : t_at s_c_163 9 91 14 (un_M T u d z a best he) [.long th] = some (111, [(7, .long th), (5, .long he), (4, .int a), (3, .int best), (0, T), (1, .int u), (2, .int d)], [.int (lg_cmp (un_W he best) (un_W th a))]) := by
        rcases z with _ | ⟨th0, he0⟩ <;> rfl
      refine t_at_ok hcl hfull key ?_
      have w1 := un_W_eq (h := he) (x := best) (by rw [hhe]; unfold un_of; omega) hb'
      have w2 := un_W_eq (h := th) (x := a) (by rw [hth]; unfold un_of; omega) ha'
      have hst : un_best u.toInt d.toInt (n + 1) = if (un_W he best).toInt < (un_W th a).toInt then a.toInt else best.toInt := by
        rw [un_best, w1, w2, hhe, hth, ha, hb]
      refine t_ifc hcl hfull (cd := .ge) (a := 119) rfl ?_
      rw [h_cl, show h_ci (un_W he best).toInt (un_W th a).toInt .ge = decide ((un_W th a).toInt ≤ (un_W he best).toInt) from rfl]
      split
      next e =>
        rw [decide_eq_true_eq] at e
        rw [if_neg (by omega)] at hst
        refine t_at_ok hcl hfull (pc := 119) (n := 1) (pc' := 120) (L' := _) (st' := [.int best]) rfl ?_
        exact step best he th hst.symm
      next e =>
        rw [decide_eq_true_eq] at e
        rw [if_pos (by omega)] at hst
        refine t_at_ok hcl hfull (pc := 114) (n := 1) (pc' := 116) (L' := _) (st' := [.int a]) rfl ?_
        refine t_goto hcl hfull (a := 120) rfl ?_
        exact step a he th hst.symm
    have s1 : ∀ he : Int64, he.toInt = un_of u.toInt d.toInt a.toInt → P (67, un_L T u d z a best, [.long he], 0, 0, h) := by
      intro he hhe
      have key : t_at s_c_163 9 67 16 (un_L T u d z a best) [.long he] = some (88, un_M T u d z a best he, [.long (un_X u d best)]) := by
        rcases z with _ | ⟨th0, he0⟩ <;> rfl
      refine t_at_ok hcl hfull key ?_
      refine t_stat hcl hfull (a := 56) rfl (Or.inl rfl) [.long (un_X u d best)] rfl (by decide) (mc := 0) (ms := 0) (Nat.le_refl _) (Nat.le_refl _) (rest := []) ?_ rfl
      exact h_abs (by omega) (fun th hth => s2 he th hhe (by rw [hth, y1]; rfl))
    have key : t_at s_c_163 9 36 2 (un_L T u d z a best) [] = some (40, un_L T u d z a best, [.int (Int8.ofInt 100).toInt32, .int a]) := by
      rcases z with _ | ⟨th0, he0⟩ <;> rfl
    refine t_at_ok hcl hfull key ?_
    refine t_icmp hcl hfull (cd := .ge) (a := 127) rfl ?_
    rw [h_c2, show h_ci a.toInt (Int8.ofInt 100).toInt32.toInt .ge = decide (100 ≤ a.toInt) from rfl, if_neg (by rw [decide_eq_true_eq]; omega)]
    have key2 : t_at s_c_163 9 43 15 (un_L T u d z a best) [] = some (64, un_L T u d z a best, [.long (un_X u d a)]) := by
      rcases z with _ | ⟨th0, he0⟩ <;> rfl
    refine t_at_ok hcl hfull key2 ?_
    refine t_stat hcl hfull (a := 56) rfl (Or.inl rfl) [.long (un_X u d a)] rfl (by decide) (mc := 0) (ms := 0) (Nat.le_refl _) (Nat.le_refl _) (rest := []) ?_ rfl
    exact h_abs (by omega) (fun he hhe => s1 he (by rw [hhe, x1]; rfl))
/-- the model's arguments -/
theorem un_m (hcl : ∀ S, g_pre (g_run (dp + 1)) 12 9 false 0 0 (g_by 272) P S → P S) (hfull : ∀ r ∈ s_c_272, s_okI (g_by 272) 12 r = true)
    (k1 : un_in u.toInt d.toInt → P (49, un_N T u d none (Int32.ofInt 1) (Int64.ofInt 100 * (u - d).toInt64) (Int32.ofInt 0), [], 0, 0, h))
    (k2 : ¬ un_in u.toInt d.toInt → P (33, [(0, T), (1, .int u), (2, .int d)], [.int (Int32.ofInt (-1))], 0, 0, h)) : P (5, [(0, T), (1, .int u), (2, .int d)], [], 0, 0, h) := by
  have k3 : ¬ un_in u.toInt d.toInt → P (32, [(0, T), (1, .int u), (2, .int d)], [], 0, 0, h) := fun hn =>
    t_at_ok hcl hfull (pc := 32) (n := 1) (pc' := 33) (L' := _) (st' := _) rfl (k2 hn)
  have h1 : (Int32.ofInt 1).toInt = 1 := rfl
  have h1000 : (Int16.ofInt 1000).toInt32.toInt = 1000 := rfl
  refine t_at_ok hcl hfull (pc := 5) (n := 3) (pc' := 10) (L' := _) (st' := [.int (Int16.ofInt 1000).toInt32, .int (Int32.ofInt 1), .int u]) rfl ?_
  refine t_stat hcl hfull (a := 215) rfl (Or.inl rfl) [.int u, .int (Int32.ofInt 1), .int (Int16.ofInt 1000).toInt32] rfl (by decide) (mc := 0) (ms := 0) (Nat.le_refl _) (Nat.le_refl _) (rest := []) ?_ rfl
  refine h_in ?_
  rw [h1, h1000]
  by_cases e1 : 1 ≤ u.toInt ∧ u.toInt ≤ 1000
  case neg =>
    rw [if_neg e1]
    refine t_ifc hcl hfull (pc := 13) (cd := .eq) (a := 32) rfl ?_
    rw [if_pos (by decide)]
    exact k3 (by unfold un_in; omega)
  rw [if_pos e1]
  refine t_ifc hcl hfull (pc := 13) (cd := .eq) (a := 32) rfl ?_
  rw [if_neg (by decide)]
  refine t_at_ok hcl hfull (pc := 16) (n := 3) (pc' := 21) (L' := _) (st' := [.int (Int16.ofInt 1000).toInt32, .int (Int32.ofInt 1), .int d]) rfl ?_
  refine t_stat hcl hfull (a := 215) rfl (Or.inl rfl) [.int d, .int (Int32.ofInt 1), .int (Int16.ofInt 1000).toInt32] rfl (by decide) (mc := 0) (ms := 0) (Nat.le_refl _) (Nat.le_refl _) (rest := []) ?_ rfl
  refine h_in ?_
  rw [h1, h1000]
  by_cases e2 : 1 ≤ d.toInt ∧ d.toInt ≤ 1000
  case neg =>
    rw [if_neg e2]
    refine t_ifc hcl hfull (pc := 24) (cd := .eq) (a := 32) rfl ?_
    rw [if_pos (by decide)]
    exact k3 (by unfold un_in; omega)
  rw [if_pos e2]
  refine t_ifc hcl hfull (pc := 24) (cd := .eq) (a := 32) rfl ?_
  rw [if_neg (by decide)]
  refine t_at_ok hcl hfull (pc := 27) (n := 2) (pc' := 29) (L' := _) (st' := [.int d, .int u]) rfl ?_
  refine t_icmp hcl hfull (cd := .ge) (a := 34) rfl ?_
  rw [h_c2, show h_ci u.toInt d.toInt .ge = decide (d.toInt ≤ u.toInt) from rfl]
  split
  next e5 =>
    rw [decide_eq_true_eq] at e5
    refine t_at_ok hcl hfull (pc := 34) (n := 11) (pc' := 49) (L' := un_N T u d none (Int32.ofInt 1) (Int64.ofInt 100 * (u - d).toInt64) (Int32.ofInt 0)) (st' := []) rfl ?_
    exact k1 (by unfold un_in; omega)
  next e => rw [decide_eq_true_eq] at e; exact k3 (by unfold un_in; omega)
theorem un_b0 (hin : un_in u.toInt d.toInt) : (Int64.ofInt 100 * (u - d).toInt64).toInt = un_of u.toInt d.toInt 0 := by
  obtain ⟨h1, h2, h3, h4, h5⟩ := hin
  obtain ⟨e1, m1⟩ := i32s (x := u) (y := d) (A := 1000) (B := 1000) (by omega) (by omega) (by decide)
  obtain ⟨e2, m2⟩ := i64o _ m1
  obtain ⟨e3, m3⟩ := i64m (x := Int64.ofInt 100) (A := 100) (by decide) m2 (by decide)
  rw [e3, e2, e1, show (Int64.ofInt 100).toInt = 100 from rfl]
  unfold un_of
  omega
/-- the model's loop -/
theorem un_ml (hcl : ∀ S, g_pre (g_run (dp + 1)) 12 9 false 0 0 (g_by 272) P S → P S) (hfull : ∀ r ∈ s_c_272, s_okI (g_by 272) 12 r = true) (hin : un_in u.toInt d.toInt)
    (k : ∀ (sh : Bool) (off bo : Int64) (best : Int32), best.toInt = un_best u.toInt d.toInt 99 → P (119, un_N T u d (some (sh, off)) (Int32.ofInt 100) bo best, [], 0, 0, h)) :
    ∀ (m n : Nat), n + m = 99 → ∀ (z : Option (Bool × Int64)) (a : Int32) (bo : Int64) (best : Int32), (n = 0 ∨ z.isSome = true) → a.toInt = (n : Int) + 1 → best.toInt = un_best u.toInt d.toInt n → bo.toInt = un_of u.toInt d.toInt best.toInt → P (49, un_N T u d z a bo best, [], 0, 0, h) := by
  intro m
  induction m with
  | zero =>
    intro n hn z a bo best hz ha hb hbo
    cases z with
    | none =>
      rcases hz with hz | hz
      · omega
      · cases hz
    | some z =>
      obtain ⟨sh, off⟩ := z
      have key : t_at s_c_272 9 49 2 (un_N T u d (some (sh, off)) a bo best) [] = some (53, un_N T u d (some (sh, off)) a bo best, [.int (Int8.ofInt 100).toInt32, .int a]) := by
        cases sh <;> rfl
      refine t_at_ok hcl hfull key ?_
      refine t_icmp hcl hfull (cd := .ge) (a := 119) rfl ?_
      rw [h_c2, show h_ci a.toInt (Int8.ofInt 100).toInt32.toInt .ge = decide (100 ≤ a.toInt) from rfl, if_pos (by rw [decide_eq_true_eq]; omega)]
      have e : a = Int32.ofInt 100 := Int32.toInt_inj.mp (by rw [ha, show (Int32.ofInt 100).toInt = 100 from rfl]; omega)
      rw [e]
      have hn' : n = 99 := by omega
      subst hn'
      exact k sh off bo best hb
  | succ m ih =>
    intro n hn z a bo best hz ha hb hbo
    have hbr := un_best_rng u.toInt d.toInt n
    have ha' : 0 ≤ a.toInt ∧ a.toInt ≤ 100 := by omega
    have hb' : 0 ≤ best.toInt ∧ best.toInt ≤ 100 := by omega
    obtain ⟨x1, x2⟩ := un_X_eq hin ha'
    obtain ⟨y1, y2⟩ := un_X_eq hin hb'
    have ha1 : (a + Int32.ofInt 1).toInt = ((n + 1 : Nat) : Int) + 1 := by
      rw [h_inc (by omega), ha]
      omega
    have s1 : ∀ off : Int64, off.toInt = un_of u.toInt d.toInt a.toInt → P (80, un_N T u d z a bo best, [.long off], 0, 0, h) := by
      intro off hoff
      have key : t_at s_c_272 9 80 14 (un_N T u d z a bo best) [.long off] = some (100, [(7, .long off), (6, .int a), (4, .long bo), (3, .int best), (0, T), (1, .int u), (2, .int d)], [.int (lg_cmp (un_W off best) (un_W bo a))]) := by
        rcases z with _ | ⟨_ | _, off0⟩ <;> rfl
      refine t_at_ok hcl hfull key ?_
      have w1 := un_W_eq (h := off) (x := best) (by rw [hoff]; unfold un_of; omega) hb'
      have w2 := un_W_eq (h := bo) (x := a) (by rw [hbo]; unfold un_of; omega) ha'
      have hst : un_best u.toInt d.toInt (n + 1) = if (un_W off best).toInt < (un_W bo a).toInt then a.toInt else best.toInt := by
        rw [un_best, w1, w2, hoff, hbo, ha, hb]
      refine t_ifc hcl hfull (cd := .lt) (a := 106) rfl ?_
      rw [h_cl, show h_ci (un_W off best).toInt (un_W bo a).toInt .lt = decide ((un_W off best).toInt < (un_W bo a).toInt) from rfl]
      split
      next e =>
        rw [decide_eq_true_eq] at e
        rw [if_pos e] at hst
        refine t_at_ok hcl hfull (pc := 106) (n := 5) (pc' := 116) (L' := un_N T u d (some (true, off)) (a + Int32.ofInt 1) off a) (st' := []) rfl ?_
        refine t_goto hcl hfull (a := 49) rfl ?_
        exact ih (n + 1) (by omega) _ _ _ _ (Or.inr rfl) ha1 hst.symm hoff
      next e =>
        rw [decide_eq_true_eq] at e
        rw [if_neg e] at hst
        refine t_goto hcl hfull (pc := 103) (a := 113) rfl ?_
        refine t_at_ok hcl hfull (pc := 113) (n := 1) (pc' := 116) (L' := un_N T u d (some (false, off)) (a + Int32.ofInt 1) bo best) (st' := []) rfl ?_
        refine t_goto hcl hfull (a := 49) rfl ?_
        exact ih (n + 1) (by omega) _ _ _ _ (Or.inr rfl) ha1 hst.symm hbo
    have key : t_at s_c_272 9 49 2 (un_N T u d z a bo best) [] = some (53, un_N T u d z a bo best, [.int (Int8.ofInt 100).toInt32, .int a]) := by
      rcases z with _ | ⟨_ | _, off0⟩ <;> rfl
    refine t_at_ok hcl hfull key ?_
    refine t_icmp hcl hfull (cd := .ge) (a := 119) rfl ?_
    rw [h_c2, show h_ci a.toInt (Int8.ofInt 100).toInt32.toInt .ge = decide (100 ≤ a.toInt) from rfl, if_neg (by rw [decide_eq_true_eq]; omega)]
    have key2 : t_at s_c_272 9 56 15 (un_N T u d z a bo best) [] = some (77, un_N T u d z a bo best, [.long (un_X u d a)]) := by
      rcases z with _ | ⟨_ | _, off0⟩ <;> rfl
    refine t_at_ok hcl hfull key2 ?_
    refine t_stat hcl hfull (a := 56) rfl (Or.inl rfl) [.long (un_X u d a)] rfl (by decide) (mc := 0) (ms := 0) (Nat.le_refl _) (Nat.le_refl _) (rest := []) ?_ rfl
    exact h_abs (by omega) (fun off hoff => s1 off (by rw [hoff, x1]; rfl))
end T46
