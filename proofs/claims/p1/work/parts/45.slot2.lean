-- slot: the model's walk, the ends of both
theorem h_iret {j : Nat} {q : s_MI} (hq : s_mi[j]? = some q) (hrt : q.2.1 = 1) {full : List s_I} (hfull : ∀ r ∈ full, s_okI (g_by j) q.2.2.2.2.2 r = true) {pc kd a k : Nat} {v0 : Int} (h : t_r full pc = some (pc, 1, 40, kd, a, k, v0, .ireturn)) {bc bs cn sn : Nat} (hc : cn ≤ bc) (hs : sn ≤ bs) {post : Option Value → g_H → Prop} {x : Int32} {L : g_L} {hh : g_H} (kk : post (some (.int x)) hh) : g_end (g_by j) (g_rt j) bc bs post (pc, L, [.int x], cn, sn, hh) := by
  obtain ⟨⟨n, hd, hlen, hne⟩, hQ, hlk⟩ := s_okI_eq (t_r_ok hfull h) (by omega)
  subst hlen
  have m3 := (s_mi_ok j q hq).2.2.1
  rw [hrt] at m3
  exact ⟨hc, hs, Or.inl ⟨x, .int, hd, m3, rfl, rfl, kk⟩⟩
/-- more, less, as much -/
def sl_sg (u v : Int) : Int := if v < u then 1 else if u < v then 2 else 0
theorem h_mol {dp : Nat} {h : g_H} {x : Int64} {post : Option Value → g_H → Prop} (k : post (some (.int (Int32.ofInt (sl_sg x.toInt 0)))) h) : g_run (dp + 1) 131 [.long x] h 0 0 post := by
  have hq : s_mi[131]? = some (2, 1, false, 0, 0, 11) := by decide +kernel
  have hfull := h_full hq (t := s_c_131) rfl
  refine h_meth hq (by show 2 ≤ 2; decide) ?_
  intro P hpost hcl
  refine t_at_ok hcl hfull (pc := 0) (n := 3) (pc' := 3) (L' := [(0, .long x)]) (st' := [.int (lg_cmp x (Int64.ofNat 0))]) rfl ?_
  refine t_ifc hcl hfull (cd := .ne) (a := 8) rfl ?_
  rw [h_cl, show h_ci x.toInt (Int64.ofNat 0).toInt .ne = decide (¬ x.toInt = 0) from rfl]
  unfold sl_sg at k
  split
  next e =>
    rw [decide_eq_true_eq] at e
    refine t_at_ok hcl hfull (pc := 8) (n := 3) (pc' := 11) (L' := [(0, .long x)]) (st' := [.int (lg_cmp x (Int64.ofNat 0))]) rfl ?_
    refine t_ifc hcl hfull (cd := .le) (a := 18) rfl ?_
    rw [h_cl, show h_ci x.toInt (Int64.ofNat 0).toInt .le = decide (x.toInt ≤ 0) from rfl]
    split
    next e1 =>
      rw [decide_eq_true_eq] at e1
      rw [if_neg (by omega), if_pos (by omega)] at k
      refine t_at_ok hcl hfull (pc := 18) (n := 1) (pc' := 19) (L' := [(0, .long x)]) (st' := [.int (Int32.ofInt 2)]) rfl ?_
      exact hpost _ (h_iret hq rfl hfull rfl (Nat.le_refl _) (Nat.le_refl _) k)
    next e1 =>
      rw [decide_eq_true_eq] at e1
      rw [if_pos (by omega)] at k
      refine t_at_ok hcl hfull (pc := 14) (n := 1) (pc' := 15) (L' := [(0, .long x)]) (st' := [.int (Int32.ofInt 1)]) rfl ?_
      refine t_goto hcl hfull (a := 19) rfl ?_
      exact hpost _ (h_iret hq rfl hfull rfl (Nat.le_refl _) (Nat.le_refl _) k)
  next e =>
    rw [decide_eq_true_eq] at e
    rw [if_neg (by omega), if_neg (by omega)] at k
    refine t_at_ok hcl hfull (pc := 6) (n := 1) (pc' := 7) (L' := [(0, .long x)]) (st' := [.int (Int32.ofInt 0)]) rfl ?_
    exact hpost _ (h_iret hq rfl hfull rfl (Nat.le_refl _) (Nat.le_refl _) k)
/-- the class's slot, behind what it tells -/
theorem sl_xe {dp : Nat} {P : g_S → Prop} (hcl : ∀ S, g_pre (g_run (dp + 1)) 11 9 false 0 0 (g_by 162) P S → P S) (hfull : ∀ r ∈ s_c_162, s_okI (g_by 162) 11 r = true) {u v : Int64} {Lr : g_L} {h : g_H} (hu : u.toInt.natAbs ≤ 1000000) (hv : v.toInt.natAbs ≤ 2000000)
    (k : P (116, (7, .long v) :: (5, .long u) :: Lr, [.int (Int32.ofInt (sl_sg u.toInt v.toInt))], 0, 0, h)) : P (108, (7, .long v) :: (5, .long u) :: Lr, [], 0, 0, h) := by
  refine t_at_ok hcl hfull (pc := 108) (n := 3) (pc' := 113) (L' := (7, .long v) :: (5, .long u) :: Lr) (st' := [.long (u - v)]) rfl ?_
  refine t_stat hcl hfull (a := 131) rfl (Or.inl rfl) [.long (u - v)] rfl (by decide) (mc := 0) (ms := 0) (Nat.le_refl _) (Nat.le_refl _) (rest := []) ?_ rfl
  refine h_mol ?_
  have e := (i64s hu hv (by decide)).1
  have e2 : sl_sg (u - v).toInt 0 = sl_sg u.toInt v.toInt := by
    unfold sl_sg
    rw [e]
    by_cases c1 : v.toInt < u.toInt
    · rw [if_pos c1, if_pos (by omega)]
    · rw [if_neg c1, if_neg (by omega)]
      by_cases c2 : u.toInt < v.toInt
      · rw [if_pos c2, if_pos (by omega)]
      · rw [if_neg c2, if_neg (by omega)]
  rw [e2]
  exact k
/-- the model's slot, up to where it tells -/
theorem sl_m {dp : Nat} {P : g_S → Prop} (hcl : ∀ S, g_pre (g_run (dp + 1)) 12 9 false 0 0 (g_by 271) P S → P S) (hfull : ∀ r ∈ s_c_271, s_okI (g_by 271) 12 r = true) {T : Value} {a b c d : Int32} {h : g_H}
    (k1 : sl_in a.toInt b.toInt c.toInt d.toInt → P (105, [(7, .long (sl_V2 a b c d)), (5, .long (sl_U2 a b c d)), (0, T), (1, .int a), (2, .int b), (3, .int c), (4, .int d)], [], 0, 0, h))
    (k2 : ¬ sl_in a.toInt b.toInt c.toInt d.toInt → P (50, [(0, T), (1, .int a), (2, .int b), (3, .int c), (4, .int d)], [.int (Int32.ofInt (-1))], 0, 0, h)) : P (5, [(0, T), (1, .int a), (2, .int b), (3, .int c), (4, .int d)], [], 0, 0, h) := by
  have k3 : ¬ sl_in a.toInt b.toInt c.toInt d.toInt → P (49, [(0, T), (1, .int a), (2, .int b), (3, .int c), (4, .int d)], [], 0, 0, h) := fun hn =>
    t_at_ok hcl hfull (pc := 49) (n := 1) (pc' := 50) (L' := _) (st' := _) rfl (k2 hn)
  have h0 : (Int32.ofInt 0).toInt = 0 := rfl
  have h1 : (Int32.ofInt 1).toInt = 1 := rfl
  have h99 : (Int8.ofInt 99).toInt32.toInt = 99 := rfl
  have h100 : (Int8.ofInt 100).toInt32.toInt = 100 := rfl
  have h20 : (Int8.ofInt 20).toInt32.toInt = 20 := rfl
  refine t_at_ok hcl hfull (pc := 5) (n := 3) (pc' := 9) (L' := _) (st' := [.int (Int8.ofInt 99).toInt32, .int (Int32.ofInt 0), .int a]) rfl ?_
  refine t_stat hcl hfull (a := 215) rfl (Or.inl rfl) [.int a, .int (Int32.ofInt 0), .int (Int8.ofInt 99).toInt32] rfl (by decide) (mc := 0) (ms := 0) (Nat.le_refl _) (Nat.le_refl _) (rest := []) ?_ rfl
  refine h_in ?_
  rw [h0, h99]
  by_cases e1 : 0 ≤ a.toInt ∧ a.toInt ≤ 99
  case neg =>
    rw [if_neg e1]
    refine t_ifc hcl hfull (pc := 12) (cd := .eq) (a := 49) rfl ?_
    rw [if_pos (by decide)]
    exact k3 (by unfold sl_in; omega)
  rw [if_pos e1]
  refine t_ifc hcl hfull (pc := 12) (cd := .eq) (a := 49) rfl ?_
  rw [if_neg (by decide)]
  refine t_at_ok hcl hfull (pc := 15) (n := 2) (pc' := 17) (L' := _) (st' := [.int a, .int b]) rfl ?_
  refine t_icmp hcl hfull (cd := .le) (a := 49) rfl ?_
  rw [h_c2, show h_ci b.toInt a.toInt .le = decide (b.toInt ≤ a.toInt) from rfl]
  split
  next e => rw [decide_eq_true_eq] at e; exact k3 (by unfold sl_in; omega)
  next e3 =>
  rw [decide_eq_true_eq] at e3
  refine t_at_ok hcl hfull (pc := 20) (n := 2) (pc' := 23) (L' := _) (st' := [.int (Int8.ofInt 100).toInt32, .int b]) rfl ?_
  refine t_icmp hcl hfull (cd := .gt) (a := 49) rfl ?_
  rw [h_c2, show h_ci b.toInt (Int8.ofInt 100).toInt32.toInt .gt = decide (100 < b.toInt) from rfl]
  split
  next e => rw [decide_eq_true_eq] at e; exact k3 (by unfold sl_in; omega)
  next e4 =>
  rw [decide_eq_true_eq] at e4
  refine t_at_ok hcl hfull (pc := 26) (n := 3) (pc' := 31) (L' := _) (st' := [.int (Int8.ofInt 20).toInt32, .int (Int32.ofInt 1), .int d]) rfl ?_
  refine t_stat hcl hfull (a := 215) rfl (Or.inl rfl) [.int d, .int (Int32.ofInt 1), .int (Int8.ofInt 20).toInt32] rfl (by decide) (mc := 0) (ms := 0) (Nat.le_refl _) (Nat.le_refl _) (rest := []) ?_ rfl
  refine h_in ?_
  rw [h1, h20]
  by_cases e5 : 1 ≤ d.toInt ∧ d.toInt ≤ 20
  case neg =>
    rw [if_neg e5]
    refine t_ifc hcl hfull (pc := 34) (cd := .eq) (a := 49) rfl ?_
    rw [if_pos (by decide)]
    exact k3 (by unfold sl_in; omega)
  rw [if_pos e5]
  refine t_ifc hcl hfull (pc := 34) (cd := .eq) (a := 49) rfl ?_
  rw [if_neg (by decide)]
  have en : (-d).toInt = -d.toInt := by
    rw [Int32.toInt_neg]
    exact h_in32 (by omega) (by omega)
  refine t_at_ok hcl hfull (pc := 37) (n := 4) (pc' := 43) (L' := _) (st' := [.int d, .int (-d), .int c]) rfl ?_
  refine t_stat hcl hfull (a := 215) rfl (Or.inl rfl) [.int c, .int (-d), .int d] rfl (by decide) (mc := 0) (ms := 0) (Nat.le_refl _) (Nat.le_refl _) (rest := []) ?_ rfl
  refine h_in ?_
  rw [en]
  by_cases e7 : -d.toInt ≤ c.toInt ∧ c.toInt ≤ d.toInt
  case neg =>
    rw [if_neg e7]
    refine t_ifc hcl hfull (pc := 46) (cd := .ne) (a := 51) rfl ?_
    rw [if_neg (by decide)]
    exact k3 (by unfold sl_in; omega)
  rw [if_pos e7]
  refine t_ifc hcl hfull (pc := 46) (cd := .ne) (a := 51) rfl ?_
  rw [if_pos (by decide)]
  refine t_at_ok hcl hfull (pc := 51) (n := 47) (pc' := 105) (L' := _) (st' := _) rfl ?_
  exact k1 (by unfold sl_in; omega)
/-- .. behind it -/
theorem sl_me {dp : Nat} {P : g_S → Prop} (hcl : ∀ S, g_pre (g_run dp) 12 9 false 0 0 (g_by 271) P S → P S) (hfull : ∀ r ∈ s_c_271, s_okI (g_by 271) 12 r = true) {u v : Int64} {Lr : g_L} {w : g_W}
    (k : P (143, (7, .long v) :: (5, .long u) :: Lr, [.int (Int32.ofInt (sl_sg u.toInt v.toInt))], w)) : P (118, (7, .long v) :: (5, .long u) :: Lr, [], w) := by
  refine t_at_ok hcl hfull (pc := 118) (n := 3) (pc' := 123) (L' := (7, .long v) :: (5, .long u) :: Lr) (st' := [.int (lg_cmp u v)]) rfl ?_
  refine t_ifc hcl hfull (cd := .le) (a := 130) rfl ?_
  rw [h_cl, show h_ci u.toInt v.toInt .le = decide (u.toInt ≤ v.toInt) from rfl]
  unfold sl_sg at k
  split
  next e =>
    rw [decide_eq_true_eq] at e
    rw [if_neg (by omega)] at k
    refine t_at_ok hcl hfull (pc := 130) (n := 3) (pc' := 135) (L' := (7, .long v) :: (5, .long u) :: Lr) (st' := [.int (lg_cmp u v)]) rfl ?_
    refine t_ifc hcl hfull (cd := .ge) (a := 142) rfl ?_
    rw [h_cl, show h_ci u.toInt v.toInt .ge = decide (v.toInt ≤ u.toInt) from rfl]
    split
    next e1 =>
      rw [decide_eq_true_eq] at e1
      rw [if_neg (by omega)] at k
      exact t_at_ok hcl hfull (pc := 142) (n := 1) (pc' := 143) (L' := _) (st' := _) rfl k
    next e1 =>
      rw [decide_eq_true_eq] at e1
      rw [if_pos (by omega)] at k
      refine t_at_ok hcl hfull (pc := 138) (n := 1) (pc' := 139) (L' := _) (st' := [.int (Int32.ofInt 2)]) rfl ?_
      exact t_goto hcl hfull (a := 143) rfl k
  next e =>
    rw [decide_eq_true_eq] at e
    rw [if_pos (by omega)] at k
    refine t_at_ok hcl hfull (pc := 126) (n := 1) (pc' := 127) (L' := _) (st' := [.int (Int32.ofInt 1)]) rfl ?_
    exact t_goto hcl hfull (a := 143) rfl k
