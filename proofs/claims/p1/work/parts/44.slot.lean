-- slot: sums by hand, of the class and of the model
theorem i_mul {x y : Int} {A B : Nat} (hx : x.natAbs ≤ A) (hy : y.natAbs ≤ B) : (x * y).natAbs ≤ A * B := by
  rw [Int.natAbs_mul]
  exact Nat.mul_le_mul hx hy
theorem i32m {x y : Int32} {A B : Nat} (hx : x.toInt.natAbs ≤ A) (hy : y.toInt.natAbs ≤ B) (h : A * B ≤ 1000000000) : (x * y).toInt = x.toInt * y.toInt ∧ (x * y).toInt.natAbs ≤ A * B := by
  have m := i_mul hx hy
  have e : (x * y).toInt = x.toInt * y.toInt := by
    rw [Int32.toInt_mul]
    exact h_in32 (by omega) (by omega)
  exact ⟨e, by rw [e]; exact m⟩
theorem i32a {x y : Int32} {A B : Nat} (hx : x.toInt.natAbs ≤ A) (hy : y.toInt.natAbs ≤ B) (h : A + B ≤ 1000000000) : (x + y).toInt = x.toInt + y.toInt ∧ (x + y).toInt.natAbs ≤ A + B := by
  have e : (x + y).toInt = x.toInt + y.toInt := by
    rw [Int32.toInt_add]
    exact h_in32 (by omega) (by omega)
  exact ⟨e, by omega⟩
theorem i32s {x y : Int32} {A B : Nat} (hx : x.toInt.natAbs ≤ A) (hy : y.toInt.natAbs ≤ B) (h : A + B ≤ 1000000000) : (x - y).toInt = x.toInt - y.toInt ∧ (x - y).toInt.natAbs ≤ A + B := by
  have e : (x - y).toInt = x.toInt - y.toInt := by
    rw [Int32.toInt_sub]
    exact h_in32 (by omega) (by omega)
  exact ⟨e, by omega⟩
theorem i64m {x y : Int64} {A B : Nat} (hx : x.toInt.natAbs ≤ A) (hy : y.toInt.natAbs ≤ B) (h : A * B ≤ 1000000000000000000) : (x * y).toInt = x.toInt * y.toInt ∧ (x * y).toInt.natAbs ≤ A * B := by
  have m := i_mul hx hy
  have e : (x * y).toInt = x.toInt * y.toInt := by
    rw [Int64.toInt_mul]
    exact h_in64 (by omega) (by omega)
  exact ⟨e, by rw [e]; exact m⟩
theorem i64a {x y : Int64} {A B : Nat} (hx : x.toInt.natAbs ≤ A) (hy : y.toInt.natAbs ≤ B) (h : A + B ≤ 1000000000000000000) : (x + y).toInt = x.toInt + y.toInt ∧ (x + y).toInt.natAbs ≤ A + B := by
  have e : (x + y).toInt = x.toInt + y.toInt := by
    rw [Int64.toInt_add]
    exact h_in64 (by omega) (by omega)
  exact ⟨e, by omega⟩
theorem i64s {x y : Int64} {A B : Nat} (hx : x.toInt.natAbs ≤ A) (hy : y.toInt.natAbs ≤ B) (h : A + B ≤ 1000000000000000000) : (x - y).toInt = x.toInt - y.toInt ∧ (x - y).toInt.natAbs ≤ A + B := by
  have e : (x - y).toInt = x.toInt - y.toInt := by
    rw [Int64.toInt_sub]
    exact h_in64 (by omega) (by omega)
  exact ⟨e, by omega⟩
theorem i64o (x : Int32) {A : Nat} (hx : x.toInt.natAbs ≤ A) : x.toInt64.toInt = x.toInt ∧ x.toInt64.toInt.natAbs ≤ A := by
  have e := Int32.toInt_toInt64 x
  exact ⟨e, by rw [e]; exact hx⟩
def sl_in (a b c d : Int) : Prop := 0 ≤ a ∧ a ≤ 99 ∧ a < b ∧ b ≤ 100 ∧ 1 ≤ d ∧ d ≤ 20 ∧ -d ≤ c ∧ c ≤ d
def sl_up (a b c d : Int) : Int := b * (b * d - a * c)
def sl_dn (a b c d : Int) : Int := d * (b * b + a * a) - 2 * a * b * c
theorem sl_dn_pos {a b c d : Int} (h : sl_in a b c d) : 1 ≤ sl_dn a b c d := by
  obtain ⟨h1, h2, h3, h4, h5, h6, h7, h8⟩ := h
  have e : sl_dn a b c d = d * ((b - a) * (b - a)) + 2 * ((a * b) * (d - c)) := by
    unfold sl_dn
    grind
  have p1 : 0 < d * ((b - a) * (b - a)) := Int.mul_pos (by omega) (Int.mul_pos (by omega) (by omega))
  have p2 : 0 ≤ (a * b) * (d - c) := Int.mul_nonneg (Int.mul_nonneg (by omega) (by omega)) (by omega)
  rw [e]
  omega
def sl_U (a b c d : Int32) : Int64 := b.toInt64 * (b * d - a * c).toInt64
def sl_V (a b c d : Int32) : Int64 := d.toInt64 * (b * b + a * a).toInt64 - Int64.ofInt 2 * a.toInt64 * b.toInt64 * c.toInt64
def sl_U2 (a b c d : Int32) : Int64 := b.toInt64 * b.toInt64 * d.toInt64 - a.toInt64 * b.toInt64 * c.toInt64
def sl_V2 (a b c d : Int32) : Int64 := b.toInt64 * b.toInt64 * d.toInt64 - Int64.ofInt 2 * a.toInt64 * b.toInt64 * c.toInt64 + a.toInt64 * a.toInt64 * d.toInt64
section T44
variable {a b c d : Int32}
theorem sl_bd (h : sl_in a.toInt b.toInt c.toInt d.toInt) : a.toInt.natAbs ≤ 99 ∧ b.toInt.natAbs ≤ 100 ∧ c.toInt.natAbs ≤ 20 ∧ d.toInt.natAbs ≤ 20 := by
  obtain ⟨h1, h2, h3, h4, h5, h6, h7, h8⟩ := h
  omega
theorem sl_U_eq (h : sl_in a.toInt b.toInt c.toInt d.toInt) : (sl_U a b c d).toInt = sl_up a.toInt b.toInt c.toInt d.toInt ∧ (sl_U a b c d).toInt.natAbs ≤ 1000000 := by
  obtain ⟨ha, hb, hc, hd⟩ := sl_bd h
  obtain ⟨e1, m1⟩ := i32m hb hd (by decide)
  obtain ⟨e2, m2⟩ := i32m ha hc (by decide)
  obtain ⟨e3, m3⟩ := i32s m1 m2 (by decide)
  obtain ⟨e4, m4⟩ := i64o _ m3
  obtain ⟨e5, m5⟩ := i64o _ hb
  obtain ⟨e6, m6⟩ := i64m m5 m4 (by decide)
  refine ⟨?_, by unfold sl_U; omega⟩
  unfold sl_U sl_up
  rw [e6, e5, e4, e3, e2, e1]
theorem sl_V_eq (h : sl_in a.toInt b.toInt c.toInt d.toInt) : (sl_V a b c d).toInt = sl_dn a.toInt b.toInt c.toInt d.toInt ∧ (sl_V a b c d).toInt.natAbs ≤ 1000000 := by
  obtain ⟨ha, hb, hc, hd⟩ := sl_bd h
  obtain ⟨e1, m1⟩ := i32m hb hb (by decide)
  obtain ⟨e2, m2⟩ := i32m ha ha (by decide)
  obtain ⟨e3, m3⟩ := i32a m1 m2 (by decide)
  obtain ⟨e4, m4⟩ := i64o _ m3
  obtain ⟨e5, m5⟩ := i64o _ hd
  obtain ⟨e6, m6⟩ := i64m m5 m4 (by decide)
  obtain ⟨a1, n1⟩ := i64o _ ha
  obtain ⟨b1, o1⟩ := i64o _ hb
  obtain ⟨c1, q1⟩ := i64o _ hc
  obtain ⟨e7, m7⟩ := i64m (x := Int64.ofInt 2) (A := 2) (by decide) n1 (by decide)
  obtain ⟨e8, m8⟩ := i64m m7 o1 (by decide)
  obtain ⟨e9, m9⟩ := i64m m8 q1 (by decide)
  obtain ⟨f1, f2⟩ := i64s m6 m9 (by decide)
  refine ⟨?_, by unfold sl_V; omega⟩
  unfold sl_V sl_dn
  rw [f1, e9, e8, e7, e6, e5, e4, e3, e2, e1, a1, b1, c1, show (Int64.ofInt 2).toInt = 2 from rfl]
theorem sl_U2_eq (h : sl_in a.toInt b.toInt c.toInt d.toInt) : (sl_U2 a b c d).toInt = sl_up a.toInt b.toInt c.toInt d.toInt ∧ (sl_U2 a b c d).toInt.natAbs ≤ 1000000 := by
  obtain ⟨ha, hb, hc, hd⟩ := sl_bd h
  obtain ⟨a1, n1⟩ := i64o _ ha
  obtain ⟨b1, o1⟩ := i64o _ hb
  obtain ⟨c1, q1⟩ := i64o _ hc
  obtain ⟨d1, r1⟩ := i64o _ hd
  obtain ⟨e1, m1⟩ := i64m o1 o1 (by decide)
  obtain ⟨e2, m2⟩ := i64m m1 r1 (by decide)
  obtain ⟨e3, m3⟩ := i64m n1 o1 (by decide)
  obtain ⟨e4, m4⟩ := i64m m3 q1 (by decide)
  obtain ⟨e5, m5⟩ := i64s m2 m4 (by decide)
  refine ⟨?_, by unfold sl_U2; omega⟩
  unfold sl_U2 sl_up
  rw [e5, e4, e3, e2, e1, a1, b1, c1, d1]
  grind
theorem sl_V2_eq (h : sl_in a.toInt b.toInt c.toInt d.toInt) : (sl_V2 a b c d).toInt = sl_dn a.toInt b.toInt c.toInt d.toInt ∧ (sl_V2 a b c d).toInt.natAbs ≤ 2000000 := by
  obtain ⟨ha, hb, hc, hd⟩ := sl_bd h
  obtain ⟨a1, n1⟩ := i64o _ ha
  obtain ⟨b1, o1⟩ := i64o _ hb
  obtain ⟨c1, q1⟩ := i64o _ hc
  obtain ⟨d1, r1⟩ := i64o _ hd
  obtain ⟨e1, m1⟩ := i64m o1 o1 (by decide)
  obtain ⟨e2, m2⟩ := i64m m1 r1 (by decide)
  obtain ⟨e7, m7⟩ := i64m (x := Int64.ofInt 2) (A := 2) (by decide) n1 (by decide)
  obtain ⟨e8, m8⟩ := i64m m7 o1 (by decide)
  obtain ⟨e9, m9⟩ := i64m m8 q1 (by decide)
  obtain ⟨f1, f2⟩ := i64s m2 m9 (by decide)
  obtain ⟨g1, g2⟩ := i64m n1 n1 (by decide)
  obtain ⟨g3, g4⟩ := i64m g2 r1 (by decide)
  obtain ⟨g5, g6⟩ := i64a f2 g4 (by decide)
  refine ⟨?_, by unfold sl_V2; omega⟩
  unfold sl_V2 sl_dn
  rw [g5, g3, g1, f1, e9, e8, e7, e2, e1, a1, b1, c1, d1, show (Int64.ofInt 2).toInt = 2 from rfl]
  grind
end T44
/-- the class's slot, up to where it tells -/
theorem sl_x {dp : Nat} {P : g_S → Prop} (hcl : ∀ S, g_pre (g_run dp) 11 9 false 0 0 (g_by 162) P S → P S) (hfull : ∀ r ∈ s_c_162, s_okI (g_by 162) 11 r = true) {T : Value} {a b c d : Int32} {w : g_W}
    (k1 : sl_in a.toInt b.toInt c.toInt d.toInt → P (90, [(7, .long (sl_V a b c d)), (5, .long (sl_U a b c d)), (0, T), (1, .int a), (2, .int b), (3, .int c), (4, .int d)], [], w))
    (k2 : ¬ sl_in a.toInt b.toInt c.toInt d.toInt → P (48, [(0, T), (1, .int a), (2, .int b), (3, .int c), (4, .int d)], [.int (Int32.ofInt (-1))], w)) : P (0, [(0, T), (1, .int a), (2, .int b), (3, .int c), (4, .int d)], [], w) := by
  have k3 : ¬ sl_in a.toInt b.toInt c.toInt d.toInt → P (47, [(0, T), (1, .int a), (2, .int b), (3, .int c), (4, .int d)], [], w) := fun h =>
    t_at_ok hcl hfull (pc := 47) (n := 1) (pc' := 48) (L' := _) (st' := _) rfl (k2 h)
  refine t_at_ok hcl hfull (pc := 0) (n := 1) (pc' := 1) (L' := _) (st' := [.int a]) rfl ?_
  refine t_ifc hcl hfull (cd := .lt) (a := 47) rfl ?_
  rw [h_c1, show h_ci a.toInt 0 .lt = decide (a.toInt < 0) from rfl]
  split
  next e => rw [decide_eq_true_eq] at e; exact k3 (by unfold sl_in; omega)
  next e1 =>
  rw [decide_eq_true_eq] at e1
  refine t_at_ok hcl hfull (pc := 4) (n := 2) (pc' := 7) (L' := _) (st' := [.int (Int8.ofInt 99).toInt32, .int a]) rfl ?_
  refine t_icmp hcl hfull (cd := .gt) (a := 47) rfl ?_
  rw [h_c2, show h_ci a.toInt (Int8.ofInt 99).toInt32.toInt .gt = decide (99 < a.toInt) from rfl]
  split
  next e => rw [decide_eq_true_eq] at e; exact k3 (by unfold sl_in; omega)
  next e2 =>
  rw [decide_eq_true_eq] at e2
  refine t_at_ok hcl hfull (pc := 10) (n := 2) (pc' := 12) (L' := _) (st' := [.int a, .int b]) rfl ?_
  refine t_icmp hcl hfull (cd := .le) (a := 47) rfl ?_
  rw [h_c2, show h_ci b.toInt a.toInt .le = decide (b.toInt ≤ a.toInt) from rfl]
  split
  next e => rw [decide_eq_true_eq] at e; exact k3 (by unfold sl_in; omega)
  next e3 =>
  rw [decide_eq_true_eq] at e3
  refine t_at_ok hcl hfull (pc := 15) (n := 2) (pc' := 18) (L' := _) (st' := [.int (Int8.ofInt 100).toInt32, .int b]) rfl ?_
  refine t_icmp hcl hfull (cd := .gt) (a := 47) rfl ?_
  rw [h_c2, show h_ci b.toInt (Int8.ofInt 100).toInt32.toInt .gt = decide (100 < b.toInt) from rfl]
  split
  next e => rw [decide_eq_true_eq] at e; exact k3 (by unfold sl_in; omega)
  next e4 =>
  rw [decide_eq_true_eq] at e4
  refine t_at_ok hcl hfull (pc := 21) (n := 2) (pc' := 24) (L' := _) (st' := [.int (Int32.ofInt 1), .int d]) rfl ?_
  refine t_icmp hcl hfull (cd := .lt) (a := 47) rfl ?_
  rw [h_c2, show h_ci d.toInt (Int32.ofInt 1).toInt .lt = decide (d.toInt < 1) from rfl]
  split
  next e => rw [decide_eq_true_eq] at e; exact k3 (by unfold sl_in; omega)
  next e5 =>
  rw [decide_eq_true_eq] at e5
  refine t_at_ok hcl hfull (pc := 27) (n := 2) (pc' := 31) (L' := _) (st' := [.int (Int8.ofInt 20).toInt32, .int d]) rfl ?_
  refine t_icmp hcl hfull (cd := .gt) (a := 47) rfl ?_
  rw [h_c2, show h_ci d.toInt (Int8.ofInt 20).toInt32.toInt .gt = decide (20 < d.toInt) from rfl]
  split
  next e => rw [decide_eq_true_eq] at e; exact k3 (by unfold sl_in; omega)
  next e6 =>
  rw [decide_eq_true_eq] at e6
  have en : (-d).toInt = -d.toInt := by
    rw [Int32.toInt_neg]
    exact h_in32 (by omega) (by omega)
  refine t_at_ok hcl hfull (pc := 34) (n := 3) (pc' := 38) (L' := _) (st' := [.int (-d), .int c]) rfl ?_
  refine t_icmp hcl hfull (cd := .lt) (a := 47) rfl ?_
  rw [h_c2, show h_ci c.toInt (-d).toInt .lt = decide (c.toInt < (-d).toInt) from rfl, en]
  split
  next e => rw [decide_eq_true_eq] at e; exact k3 (by unfold sl_in; omega)
  next e7 =>
  rw [decide_eq_true_eq] at e7
  refine t_at_ok hcl hfull (pc := 41) (n := 2) (pc' := 44) (L' := _) (st' := [.int d, .int c]) rfl ?_
  refine t_icmp hcl hfull (cd := .le) (a := 49) rfl ?_
  rw [h_c2, show h_ci c.toInt d.toInt .le = decide (c.toInt ≤ d.toInt) from rfl]
  split
  next e8 =>
    rw [decide_eq_true_eq] at e8
    refine t_at_ok hcl hfull (pc := 49) (n := 35) (pc' := 90) (L' := _) (st' := _) rfl ?_
    exact k1 (by unfold sl_in; omega)
  next e => rw [decide_eq_true_eq] at e; exact k3 (by unfold sl_in; omega)
/-- in: of three numbers -/
theorem h_in {dp : Nat} {h : g_H} {x y z : Int32} {post : Option Value → g_H → Prop} (k : post (some (.int (if y.toInt ≤ x.toInt ∧ x.toInt ≤ z.toInt then Int32.ofInt 1 else Int32.ofInt 0))) h) : g_run (dp + 1) 215 [.int x, .int y, .int z] h 0 0 post := by
  have hq : s_mi[215]? = some (3, 2, false, 0, 0, 12) := by decide +kernel
  have hfull := h_full hq (t := s_c_215) rfl
  refine h_meth hq (by show 3 ≤ 3; decide) ?_
  intro P hpost hcl
  have ret : ∀ (v : Int32) (L : g_L), (v = Int32.ofInt 0 ∨ v = Int32.ofInt 1) → post (some (.int v)) h → P (15, L, [.int v], 0, 0, h) := by
    intro v L hv hp
    apply hpost
    obtain ⟨⟨n, hd, hlen, hne⟩, hQ, hlk⟩ := s_okI_eq (t_r_ok hfull (pc := 15) (r := (15, 1, 40, 0, 0, 0, 0, .ireturn)) rfl) (by omega)
    subst hlen
    have m3 := (s_mi_ok 215 _ hq).2.2.1
    refine ⟨Nat.le_refl _, Nat.le_refl _, Or.inl ⟨v, .boolean, hd, m3, ?_, rfl, hp⟩⟩
    rcases hv with rfl | rfl <;> rfl
  have no : ¬ (y.toInt ≤ x.toInt ∧ x.toInt ≤ z.toInt) → P (14, [(0, .int x), (1, .int y), (2, .int z)], [], 0, 0, h) := fun hn => by
    rw [if_neg hn] at k
    exact t_at_ok hcl hfull (pc := 14) (n := 1) (pc' := 15) (L' := _) (st' := [.int (Int32.ofInt 0)]) rfl (ret _ _ (Or.inl rfl) k)
  refine t_at_ok hcl hfull (pc := 0) (n := 2) (pc' := 2) (L' := [(0, .int x), (1, .int y), (2, .int z)]) (st' := [.int y, .int x]) rfl ?_
  refine t_icmp hcl hfull (cd := .lt) (a := 14) rfl ?_
  rw [h_c2, show h_ci x.toInt y.toInt .lt = decide (x.toInt < y.toInt) from rfl]
  split
  next e => rw [decide_eq_true_eq] at e; exact no (by omega)
  next e1 =>
  rw [decide_eq_true_eq] at e1
  refine t_at_ok hcl hfull (pc := 5) (n := 2) (pc' := 7) (L' := _) (st' := [.int z, .int x]) rfl ?_
  refine t_icmp hcl hfull (cd := .gt) (a := 14) rfl ?_
  rw [h_c2, show h_ci x.toInt z.toInt .gt = decide (z.toInt < x.toInt) from rfl]
  split
  next e => rw [decide_eq_true_eq] at e; exact no (by omega)
  next e2 =>
  rw [decide_eq_true_eq] at e2
  rw [if_pos (by omega)] at k
  refine t_at_ok hcl hfull (pc := 10) (n := 1) (pc' := 11) (L' := _) (st' := [.int (Int32.ofInt 1)]) rfl ?_
  refine t_goto hcl hfull (a := 15) rfl ?_
  exact ret _ _ (Or.inr rfl) k
