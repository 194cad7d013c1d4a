-- pierced, on both sides (made by wip/u/mkpl.py)
set_option maxRecDepth 20000
/-- the square of how far two axles stand apart -/
def pl_sq (xs ys : Int → Int) (a b : Int) : Int := (xs a - xs b) * (xs a - xs b) + (ys a - ys b) * (ys a - ys b)
theorem pl_sq1 {x : Int} (h1 : -1000 ≤ x) (h2 : x ≤ 1000) : 0 ≤ x * x ∧ x * x ≤ 1000000 := by
  have m1 := xa_mul_ok (p := -1000) (q := 1000) (r := -1000) (s := 1000) (m := x) (n := x) (by omega) (by omega) (by omega) (by omega)
  have e1 : xa_mhi (-1000) 1000 (-1000) 1000 = 1000000 := by decide
  rw [e1] at m1
  exact ⟨xm_sq x, m1.2⟩
theorem pl_sq_r {xs ys : Int → Int} {a b : Int} (hx : ∀ i, 0 ≤ i → i < 10 → -500 ≤ xs i ∧ xs i ≤ 500) (hy : ∀ i, 0 ≤ i → i < 10 → -500 ≤ ys i ∧ ys i ≤ 500) (ha : 0 ≤ a ∧ a ≤ 9) (hb : 0 ≤ b ∧ b ≤ 9) : 0 ≤ pl_sq xs ys a b ∧ pl_sq xs ys a b ≤ 2000000 := by
  have x1 := hx a ha.1 (by omega)
  have x2 := hx b hb.1 (by omega)
  have y1 := hy a ha.1 (by omega)
  have y2 := hy b hb.1 (by omega)
  have s1 := pl_sq1 (x := xs a - xs b) (by omega) (by omega)
  have s2 := pl_sq1 (x := ys a - ys b) (by omega) (by omega)
  unfold pl_sq
  exact ⟨Int.add_nonneg s1.1 s2.1, by have := Int.add_le_add s1.2 s2.2; exact Int.le_trans this (by decide)⟩
/-- a depth between the least and the greatest of an axle -/
def pl_bt (ax dp : Int → Int) (n a e : Int) : Prop := (∃ u, 0 ≤ u ∧ u < n ∧ ax u = a ∧ dp u < e) ∧ ∃ v, 0 ≤ v ∧ v < n ∧ ax v = a ∧ e < dp v
def pl_no (ax : Int → Int) (n a : Int) : Prop := ∀ v, 0 ≤ v → v < n → ¬ ax v = a
def pl_mm (ax dp : Int → Int) (n a lo hi : Int) : Prop := (∀ v, 0 ≤ v → v < n → ax v = a → lo ≤ dp v ∧ dp v ≤ hi) ∧ (∃ u, 0 ≤ u ∧ u < n ∧ ax u = a ∧ dp u = lo) ∧ ∃ v, 0 ≤ v ∧ v < n ∧ ax v = a ∧ dp v = hi
/-- the least and the greatest of the first n; l0, h0 if there are none -/
def pl_tb (ax dp : Int → Int) (n a lo hi l0 h0 : Int) : Prop := (lo = l0 ∧ hi = h0 ∧ pl_no ax n a) ∨ pl_mm ax dp n a lo hi
theorem pl_tb0 {ax dp : Int → Int} {a l0 h0 : Int} : pl_tb ax dp 0 a l0 h0 l0 h0 := Or.inl ⟨rfl, rfl, fun v v0 v1 => by omega⟩
theorem pl_tbk {ax dp : Int → Int} {n a lo hi l0 h0 : Int} (hn : ¬ ax n = a) (h : pl_tb ax dp n a lo hi l0 h0) : pl_tb ax dp (n + 1) a lo hi l0 h0 := by
  rcases h with ⟨h1, h2, h3⟩ | ⟨h1, ⟨u, u0, u1, u2⟩, v, v0, v1, v2⟩
  · refine Or.inl ⟨h1, h2, fun w w0 w1 => ?_⟩
    by_cases e : w = n
    · rw [e]
      exact hn
    · exact h3 w w0 (by omega)
  · refine Or.inr ⟨fun w w0 w1 hw => ?_, ⟨u, u0, by omega, u2⟩, v, v0, by omega, v2⟩
    by_cases e : w = n
    · rw [e] at hw
      exact absurd hw hn
    · exact h1 w w0 (by omega) hw
theorem pl_step {ax dp : Int → Int} {n a lo hi l0 h0 lo' hi' : Int} (hd : ∀ v, 0 ≤ v → v < n → 0 ≤ dp v ∧ dp v ≤ 9) (n0 : 0 ≤ n) (hn : ax n = a) (c1 : lo = l0 → hi = h0 → lo' = dp n ∧ hi' = dp n) (c2 : 0 ≤ lo → lo ≤ 9 → 0 ≤ hi → hi ≤ 9 → (lo' ≤ lo ∧ lo' ≤ dp n ∧ (lo' = lo ∨ lo' = dp n)) ∧ hi ≤ hi' ∧ dp n ≤ hi' ∧ (hi' = hi ∨ hi' = dp n)) (h : pl_tb ax dp n a lo hi l0 h0) : pl_tb ax dp (n + 1) a lo' hi' l0 h0 := by
  rcases h with ⟨h1, h2, h3⟩ | ⟨h1, ⟨u, u0, u1, u2, u3⟩, v, v0, v1, v2, v3⟩
  · obtain ⟨e1, e2⟩ := c1 h1 h2
    refine Or.inr ⟨fun w w0 w1 hw => ?_, ⟨n, n0, by omega, hn, e1.symm⟩, n, n0, by omega, hn, e2.symm⟩
    by_cases e : w = n
    · rw [e]
      omega
    · exact absurd hw (h3 w w0 (by omega))
  · have d1 := hd u u0 u1
    have d2 := hd v v0 v1
    obtain ⟨⟨a1, a2, a3⟩, b1, b2, b3⟩ := c2 (by omega) (by omega) (by omega) (by omega)
    refine Or.inr ⟨fun w w0 w1 hw => ?_, ?_, ?_⟩
    · by_cases e : w = n
      · rw [e]
        omega
      · have := h1 w w0 (by omega) hw
        omega
    · rcases a3 with e | e
      · exact ⟨u, u0, by omega, u2, by omega⟩
      · exact ⟨n, n0, by omega, hn, e.symm⟩
    · rcases b3 with e | e
      · exact ⟨v, v0, by omega, v2, by omega⟩
      · exact ⟨n, n0, by omega, hn, e.symm⟩
theorem pl_tb_bt {ax dp : Int → Int} {n a lo hi l0 h0 e : Int} (hne : ¬ (l0 < e ∧ e < h0)) (h : pl_tb ax dp n a lo hi l0 h0) : (lo < e ∧ e < hi) ↔ pl_bt ax dp n a e := by
  rcases h with ⟨h1, h2, h3⟩ | ⟨h1, ⟨u, u0, u1, u2, u3⟩, v, v0, v1, v2, v3⟩
  · rw [h1, h2]
    exact ⟨fun h => absurd h hne, fun ⟨⟨u, u0, u1, u2, _⟩, _⟩ => absurd u2 (h3 u u0 u1)⟩
  · refine ⟨fun h => ⟨⟨u, u0, u1, u2, by omega⟩, v, v0, v1, v2, by omega⟩, fun ⟨⟨u', p0, p1, p2, p3⟩, v', q0, q1, q2, q3⟩ => ?_⟩
    have a1 := h1 u' p0 p1 p2
    have a2 := h1 v' q0 q1 q2
    omega
/-- the axle a goes through the wheel w -/
def pl_th (xs ys ax dp tk : Int → Int) (n a w : Int) : Prop := ¬ ax w = a ∧ pl_bt ax dp n a (dp w) ∧ pl_sq xs ys a (ax w) < tk w * tk w
def pl_pr (xs ys ax dp tk : Int → Int) (n a : Int) : Prop := ∃ w, 0 ≤ w ∧ w < n ∧ pl_th xs ys ax dp tk n a w
theorem pl_orr {a b : Int} : xa_ib 4 (xa_ib 4 a b) b = xa_ib 4 a b := by
  show (Int32.ofInt (Int32.ofInt a ||| Int32.ofInt b).toInt ||| Int32.ofInt b).toInt = (Int32.ofInt a ||| Int32.ofInt b).toInt
  rw [Int32.ofInt_toInt, Int32.or_assoc, Int32.or_self]
/-- a bit, if it holds for one of the first n -/
def pl_b1 (is : Int → Prop) (n base e x : Int) : Prop := (x = base ∧ ∀ w, 0 ≤ w → w < n → ¬ is w) ∨ (x = xa_ib 4 base e ∧ ∃ w, 0 ≤ w ∧ w < n ∧ is w)
theorem pl_b10 {is : Int → Prop} {base e : Int} : pl_b1 is 0 base e base := Or.inl ⟨rfl, fun w w0 w1 => by omega⟩
theorem pl_b1n {is : Int → Prop} {n base e x : Int} (hn : ¬ is n) (h : pl_b1 is n base e x) : pl_b1 is (n + 1) base e x := by
  rcases h with ⟨h1, h2⟩ | ⟨h1, w, w0, w1, h2⟩
  · refine Or.inl ⟨h1, fun w w0 w1 => ?_⟩
    by_cases c : w = n
    · rw [c]
      exact hn
    · exact h2 w w0 (by omega)
  · exact Or.inr ⟨h1, w, w0, by omega, h2⟩
theorem pl_b1y {is : Int → Prop} {n base e x : Int} (n0 : 0 ≤ n) (hn : is n) (h : pl_b1 is n base e x) : pl_b1 is (n + 1) base e (xa_ib 4 x e) := by
  refine Or.inr ⟨?_, n, n0, by omega, hn⟩
  rcases h with ⟨h1, -⟩ | ⟨h1, -⟩
  · rw [h1]
  · rw [h1, pl_orr]
theorem pl_th_e {xs ys ax dp tk xs' ys' ax' dp' tk' : Int → Int} {n : Int} (hn : n ≤ 14) (ex : ∀ i, 0 ≤ i → i < 10 → xs i = xs' i) (ey : ∀ i, 0 ≤ i → i < 10 → ys i = ys' i) (ea : ∀ i, 0 ≤ i → i < 14 → ax i = ax' i) (ed : ∀ i, 0 ≤ i → i < 14 → dp i = dp' i) (et : ∀ i, 0 ≤ i → i < 14 → tk i = tk' i) (hr : ∀ i, 0 ≤ i → i < 14 → 0 ≤ ax' i ∧ ax' i ≤ 9) {a : Int} (ha : 0 ≤ a ∧ a ≤ 9) : pl_pr xs ys ax dp tk n a → pl_pr xs' ys' ax' dp' tk' n a := by
  rintro ⟨w, w0, w1, h1, ⟨⟨u, u0, u1, u2, u3⟩, v, v0, v1, v2, v3⟩, h3⟩
  have r := hr w w0 (by omega)
  refine ⟨w, w0, w1, ?_, ⟨⟨u, u0, u1, ?_, ?_⟩, v, v0, v1, ?_, ?_⟩, ?_⟩
  · rw [← ea w w0 (by omega)]
    exact h1
  · rw [← ea u u0 (by omega)]
    exact u2
  · rw [← ed u u0 (by omega), ← ed w w0 (by omega)]
    exact u3
  · rw [← ea v v0 (by omega)]
    exact v2
  · rw [← ed v v0 (by omega), ← ed w w0 (by omega)]
    exact v3
  · unfold pl_sq at h3 ⊢
    rw [ea w w0 (by omega), et w w0 (by omega), ex a ha.1 (by omega), ey a ha.1 (by omega), ex (ax' w) r.1 (by omega), ey (ax' w) r.1 (by omega)] at h3
    exact h3
theorem cx_23_9 {b : Bool} {A : Nat → Nat} {h0 : g_H} {d : Nat} {M : xa_M} {post : Option xa_V → xa_M → Prop} {l1 u1 : Int} {i : Int} (h1 : 0 ≤ i ∧ i < 10) (k1 : post (some (0, 0, (-2147483648), 2147483647, M 9 i)) M) : xa_C (xl_I b) A h0 (d + 1) 23 [(2, 9, 0, 0, 0), (0, 0, l1, u1, i)] M post := by
  refine xa_C_arg [(2, 9, 0, 0, 0), (0, 0, (-2147483648), 2147483647, i)] (xa_svR (xa_svI (fun _ _ _ _ => by omega) xa_sv0)) ?_
  refine xa_meth (Q0 := (2, 1, false, 0, 0, 11)) (by decide +kernel) ⟨rfl, rfl⟩ (full := s_c_23) rfl rfl ?_
  intro hM hv Q hgo
  refine hgo.1 15 [] 0 _ _ _ ?_
  refine And.intro ?_ ?_
  · intro (c1 : i < 0)
    show post (some (0, 0, 0, 0, 0)) M
    exact absurd h1 (by omega)
  · intro (c1 : 0 ≤ i)
    refine And.intro ?_ ?_
    · intro (c2 : 10 ≤ i)
      show post (some (0, 0, 0, 0, 0)) M
      exact absurd h1 (by omega)
    · intro (c2 : i < 10)
      refine And.intro (show 0 ≤ i ∧ i < 10 by omega) ?_
      show post (some (0, 0, (-2147483648), 2147483647, M 9 i)) M
      exact k1
theorem cx_23_10 {b : Bool} {A : Nat → Nat} {h0 : g_H} {d : Nat} {M : xa_M} {post : Option xa_V → xa_M → Prop} {l1 u1 : Int} {i : Int} (h1 : 0 ≤ i ∧ i < 10) (k1 : post (some (0, 0, (-2147483648), 2147483647, M 10 i)) M) : xa_C (xl_I b) A h0 (d + 1) 23 [(2, 10, 0, 0, 0), (0, 0, l1, u1, i)] M post := by
  refine xa_C_arg [(2, 10, 0, 0, 0), (0, 0, (-2147483648), 2147483647, i)] (xa_svR (xa_svI (fun _ _ _ _ => by omega) xa_sv0)) ?_
  refine xa_meth (Q0 := (2, 1, false, 0, 0, 11)) (by decide +kernel) ⟨rfl, rfl⟩ (full := s_c_23) rfl rfl ?_
  intro hM hv Q hgo
  refine hgo.1 15 [] 0 _ _ _ ?_
  refine And.intro ?_ ?_
  · intro (c1 : i < 0)
    show post (some (0, 0, 0, 0, 0)) M
    exact absurd h1 (by omega)
  · intro (c1 : 0 ≤ i)
    refine And.intro ?_ ?_
    · intro (c2 : 10 ≤ i)
      show post (some (0, 0, 0, 0, 0)) M
      exact absurd h1 (by omega)
    · intro (c2 : i < 10)
      refine And.intro (show 0 ≤ i ∧ i < 10 by omega) ?_
      show post (some (0, 0, (-2147483648), 2147483647, M 10 i)) M
      exact k1
theorem cx_144p {b : Bool} {A : Nat → Nat} {h0 : g_H} {d : Nat} {M : xa_M} {post : Option xa_V → xa_M → Prop} {l1 u1 l2 u2 : Int} {a c : Int} (h1 : 0 ≤ a ∧ a ≤ 9) (h2 : 0 ≤ c ∧ c ≤ 9) (hx : ∀ i, 0 ≤ i → i < 10 → -500 ≤ M 9 i ∧ M 9 i ≤ 500) (hy : ∀ i, 0 ≤ i → i < 10 → -500 ≤ M 10 i ∧ M 10 i ≤ 500) (k : (0 ≤ pl_sq (M 9) (M 10) a c ∧ pl_sq (M 9) (M 10) a c ≤ 2000000) → post (some (1, 0, 0, 2000000, pl_sq (M 9) (M 10) a c)) M) : xa_C (xl_I b) A h0 (d + 2) 144 [(2, 1, 0, 0, 0), (0, 0, l1, u1, a), (0, 0, l2, u2, c)] M post := by
  refine xa_C_wk ?_
  refine xa_C_arg [(2, 1, 0, 0, 0), (0, 0, 0, 9, a), (0, 0, 0, 9, c)] (xa_svR (xa_svI (fun _ _ _ _ => by omega) (xa_svI (fun _ _ _ _ => by omega) (xa_sv0)))) ?_
  refine xa_meth (Q0 := (7, 3, false, 0, 0, 1)) (by decide +kernel) ⟨rfl, rfl⟩ (full := s_c_144) rfl rfl ?_
  intro hM hv Q hgo
  refine hgo.1 34 [] 0 _ _ _ ?_
  show xa_C (xl_I b) A h0 _ 23 [(2, 9, 0, 0, 0), (0, 0, 0, 9, a)] M _
  refine cx_23_9 (show 0 ≤ a ∧ a < 10 by omega) ?_
  show xa_C (xl_I b) A h0 _ 23 [(2, 9, 0, 0, 0), (0, 0, 0, 9, c)] M _
  refine cx_23_9 (show 0 ≤ c ∧ c < 10 by omega) ?_
  show xa_C (xl_I b) A h0 _ 23 [(2, 10, 0, 0, 0), (0, 0, 0, 9, a)] M _
  refine cx_23_10 (show 0 ≤ a ∧ a < 10 by omega) ?_
  show xa_C (xl_I b) A h0 _ 23 [(2, 10, 0, 0, 0), (0, 0, 0, 9, c)] M _
  refine cx_23_10 (show 0 ≤ c ∧ c < 10 by omega) ?_
  show xa_wk post (some (1, 0, (-9223372036854775808), 9223372036854775807, xa_w64 (((xa_w32 ((M 9 a) - (M 9 c))) * (xa_w32 ((M 9 a) - (M 9 c)))) + ((xa_w32 ((M 10 a) - (M 10 c))) * (xa_w32 ((M 10 a) - (M 10 c))))))) M
  have x1 := hx a (by omega) (by omega)
  have x2 := hx c (by omega) (by omega)
  have y1 := hy a (by omega) (by omega)
  have y2 := hy c (by omega) (by omega)
  have e1 : xa_w32 ((M 9 a) - (M 9 c)) = M 9 a - M 9 c := xa_w32_id (by omega) (by omega)
  have e2 : xa_w32 ((M 10 a) - (M 10 c)) = M 10 a - M 10 c := xa_w32_id (by omega) (by omega)
  have hq := pl_sq_r hx hy h1 h2
  have e3 : xa_w64 (((xa_w32 ((M 9 a) - (M 9 c))) * (xa_w32 ((M 9 a) - (M 9 c)))) + ((xa_w32 ((M 10 a) - (M 10 c))) * (xa_w32 ((M 10 a) - (M 10 c))))) = pl_sq (M 9) (M 10) a c := by
    rw [e1, e2]
    exact xa_w64_id (n := pl_sq (M 9) (M 10) a c) (by omega) (by omega)
  exact xa_wkL (pl_sq (M 9) (M 10) a c) e3 (fun _ _ => hq) (k hq)
theorem cx_150p {b : Bool} {A : Nat → Nat} {h0 : g_H} {d : Nat} {M : xa_M} {post : Option xa_V → xa_M → Prop} {l2 u2 a : Int} (h1 : 0 ≤ a ∧ a ≤ 9) (hn : 0 ≤ M 1 9 ∧ M 1 9 ≤ 14) (hx : ∀ i, 0 ≤ i → i < 10 → -500 ≤ M 9 i ∧ M 9 i ≤ 500) (hy : ∀ i, 0 ≤ i → i < 10 → -500 ≤ M 10 i ∧ M 10 i ≤ 500) (ha : ∀ i, 0 ≤ i → i < 14 → 0 ≤ M 5 i ∧ M 5 i ≤ 9) (hd : ∀ i, 0 ≤ i → i < 14 → 0 ≤ M 6 i ∧ M 6 i ≤ 9) (k1 : (pl_pr (M 9) (M 10) (M 5) (M 6) (M 4) (M 1 9)) a → post (some (0, 0, 1, 1, 1)) M) (k0 : ¬ (pl_pr (M 9) (M 10) (M 5) (M 6) (M 4) (M 1 9)) a → post (some (0, 0, 0, 0, 0)) M) : xa_C (xl_I b) A h0 (d + 3) 150 [(2, 34, 0, 0, 0), (2, 1, 0, 0, 0), (0, 0, l2, u2, a)] M post := by
  refine xa_C_arg [(2, 34, 0, 0, 0), (2, 1, 0, 0, 0), (0, 0, 0, 9, a)] (xa_svR (xa_svR (xa_svI (fun _ _ _ _ => by omega) (xa_sv0)))) ?_
  refine xa_meth (Q0 := (10, 2, false, 0, 0, 4)) (by decide +kernel) ⟨rfl, rfl⟩ (full := s_c_150) rfl rfl ?_
  intro hM hv Q hgo
  have loop2 : ∀ (n : Nat) (i tp bm : Int), 0 ≤ i ∧ i ≤ M 1 9 → -1 ≤ tp ∧ tp ≤ 9 → -1 ≤ bm ∧ bm ≤ 9 → pl_tb (M 5) (M 6) (M 1 9) a tp bm (-1) (-1) → (∀ w, 0 ≤ w → w < i → ¬ pl_th (M 9) (M 10) (M 5) (M 6) (M 4) (M 1 9) a w) → 14 - i < (n : Int) → Q 74 [(5, (0, 0, 0, 14, i)), (3, (0, 0, (-1), 9, tp)), (4, (0, 0, (-1), 9, bm)), (0, (2, 34, 0, 0, 0)), (1, (2, 1, 0, 0, 0)), (2, (0, 0, 0, 9, a))] [] M := by
    intro n
    induction n with
    | zero => intro i tp bm i1 t1 b1 hg hz hms; omega
    | succ n ih =>
      intro i tp bm i1 t1 b1 hg hz hms
      have hdi : i < 14 → 0 ≤ M 6 i ∧ M 6 i ≤ 9 := fun h => hd i i1.1 h
      have hai : i < 14 → 0 ≤ M 5 i ∧ M 5 i ≤ 9 := fun h => ha i i1.1 h
      have hbt := pl_tb_bt (e := M 6 i) (by omega) hg
      refine hgo.1 50 [8, 74] 74 _ _ _ ?_
      refine And.intro ?_ ?_
      · intro (c1 : (M 1 9) ≤ i)
        show post (some (0, 0, 0, 0, 0)) M
        exact k0 (fun ⟨w, w0, w1, hw⟩ => hz w w0 (by omega) hw)
      · intro (c1 : i < (M 1 9))
        show xa_C (xl_I b) A h0 _ 142 [(2, 1, 0, 0, 0), (0, 0, 0, 14, i)] M _
        refine cx_142_1 (show 0 ≤ i ∧ i < 14 by omega) ?_
        refine And.intro ?_ ?_
        · intro (c2 : (M 6 i) ≤ tp)
          show xa_C (xl_I b) A h0 _ 28 [(2, 1, 0, 0, 0), (0, 0, 0, 14, i)] M _
          refine cx_28_1 (show 0 ≤ i ∧ i < 14 by omega) ?_
          show xa_C (xl_I b) A h0 _ 37 [(2, 1, 0, 0, 0), (0, 0, 0, 14, i)] M _
          refine cx_37_1 (show 0 ≤ i ∧ i < 14 by omega) ?_
          show xa_C (xl_I b) A h0 _ 144 [(2, 1, 0, 0, 0), (0, 0, 0, 9, a), (0, 0, (-2147483648), 2147483647, M 5 i)] M _
          refine cx_144p (show 0 ≤ a ∧ a ≤ 9 by omega) (show 0 ≤ (M 5 i) ∧ (M 5 i) ≤ 9 by omega) hx hy ?_
          intro (i3 : 0 ≤ pl_sq (M 9) (M 10) a (M 5 i) ∧ pl_sq (M 9) (M 10) a (M 5 i) ≤ 2000000)
          refine And.intro ?_ ?_
          · intro (c4 : ((M 4 i) * (M 4 i)) ≤ (pl_sq (M 9) (M 10) a (M 5 i)))
            show xa_C (xl_I b) A h0 _ 37 [(2, 1, 0, 0, 0), (0, 0, 0, 14, i)] M _
            refine cx_37_1 (show 0 ≤ i ∧ i < 14 by omega) ?_
            refine And.intro ?_ ?_
            · intro (c5 : (M 5 i) = a)
              show Q 74 [(5, (0, 0, 1, 15, i + 1)), (9, (0, 0, 0, 0, 0)), (7, (1, 0, (-2147483648), 2147483647, M 4 i)), (6, (0, 0, 0, 0, 0)), (3, (0, 0, (-1), 9, tp)), (4, (0, 0, (-1), 9, bm)), (0, (2, 34, 0, 0, 0)), (1, (2, 1, 0, 0, 0)), (2, (0, 0, 0, 9, a))] [] M
              refine hgo.2.1 74 _ [(5, (0, 0, 0, 14, i + 1)), (3, (0, 0, (-1), 9, tp)), (4, (0, 0, (-1), 9, bm)), (0, (2, 34, 0, 0, 0)), (1, (2, 1, 0, 0, 0)), (2, (0, 0, 0, 9, a))] _ _ (xa_subI rfl rfl (fun _ _ _ _ => by omega) (xa_subI rfl rfl (fun _ _ _ _ => by omega) (xa_subI rfl rfl (fun _ _ _ _ => by omega) (xa_subR rfl (xa_subR rfl (xa_subI rfl rfl (fun _ _ _ _ => by omega) (xa_sub0))))))) ?_
              exact ih (i + 1) tp bm (by omega) (by omega) (by omega) hg (fun w w0 w1 => by
                by_cases e : w = i
                · rw [e]
                  rintro ⟨z1, z2, z3⟩
                  have z2 := hbt.mpr z2
                  omega
                · exact hz w w0 (by omega)) (by omega)
            · intro (c5 : ¬ (M 5 i) = a)
              show Q 74 [(5, (0, 0, 1, 15, i + 1)), (9, (0, 0, 0, 0, 0)), (7, (1, 0, (-2147483648), 2147483647, M 4 i)), (6, (0, 0, 0, 0, 0)), (3, (0, 0, (-1), 9, tp)), (4, (0, 0, (-1), 9, bm)), (0, (2, 34, 0, 0, 0)), (1, (2, 1, 0, 0, 0)), (2, (0, 0, 0, 9, a))] [] M
              refine hgo.2.1 74 _ [(5, (0, 0, 0, 14, i + 1)), (3, (0, 0, (-1), 9, tp)), (4, (0, 0, (-1), 9, bm)), (0, (2, 34, 0, 0, 0)), (1, (2, 1, 0, 0, 0)), (2, (0, 0, 0, 9, a))] _ _ (xa_subI rfl rfl (fun _ _ _ _ => by omega) (xa_subI rfl rfl (fun _ _ _ _ => by omega) (xa_subI rfl rfl (fun _ _ _ _ => by omega) (xa_subR rfl (xa_subR rfl (xa_subI rfl rfl (fun _ _ _ _ => by omega) (xa_sub0))))))) ?_
              exact ih (i + 1) tp bm (by omega) (by omega) (by omega) hg (fun w w0 w1 => by
                by_cases e : w = i
                · rw [e]
                  rintro ⟨z1, z2, z3⟩
                  have z2 := hbt.mpr z2
                  omega
                · exact hz w w0 (by omega)) (by omega)
          · intro (c4 : (pl_sq (M 9) (M 10) a (M 5 i)) < ((M 4 i) * (M 4 i)))
            show xa_C (xl_I b) A h0 _ 37 [(2, 1, 0, 0, 0), (0, 0, 0, 14, i)] M _
            refine cx_37_1 (show 0 ≤ i ∧ i < 14 by omega) ?_
            refine And.intro ?_ ?_
            · intro (c6 : (M 5 i) = a)
              show Q 74 [(5, (0, 0, 1, 15, i + 1)), (9, (0, 0, 1, 1, 1)), (7, (1, 0, (-2147483648), 2147483647, M 4 i)), (6, (0, 0, 0, 0, 0)), (3, (0, 0, (-1), 9, tp)), (4, (0, 0, (-1), 9, bm)), (0, (2, 34, 0, 0, 0)), (1, (2, 1, 0, 0, 0)), (2, (0, 0, 0, 9, a))] [] M
              refine hgo.2.1 74 _ [(5, (0, 0, 0, 14, i + 1)), (3, (0, 0, (-1), 9, tp)), (4, (0, 0, (-1), 9, bm)), (0, (2, 34, 0, 0, 0)), (1, (2, 1, 0, 0, 0)), (2, (0, 0, 0, 9, a))] _ _ (xa_subI rfl rfl (fun _ _ _ _ => by omega) (xa_subI rfl rfl (fun _ _ _ _ => by omega) (xa_subI rfl rfl (fun _ _ _ _ => by omega) (xa_subR rfl (xa_subR rfl (xa_subI rfl rfl (fun _ _ _ _ => by omega) (xa_sub0))))))) ?_
              exact ih (i + 1) tp bm (by omega) (by omega) (by omega) hg (fun w w0 w1 => by
                by_cases e : w = i
                · rw [e]
                  rintro ⟨z1, z2, z3⟩
                  have z2 := hbt.mpr z2
                  omega
                · exact hz w w0 (by omega)) (by omega)
            · intro (c6 : ¬ (M 5 i) = a)
              show Q 74 [(5, (0, 0, 1, 15, i + 1)), (9, (0, 0, 1, 1, 1)), (7, (1, 0, (-2147483648), 2147483647, M 4 i)), (6, (0, 0, 0, 0, 0)), (3, (0, 0, (-1), 9, tp)), (4, (0, 0, (-1), 9, bm)), (0, (2, 34, 0, 0, 0)), (1, (2, 1, 0, 0, 0)), (2, (0, 0, 0, 9, a))] [] M
              refine hgo.2.1 74 _ [(5, (0, 0, 0, 14, i + 1)), (3, (0, 0, (-1), 9, tp)), (4, (0, 0, (-1), 9, bm)), (0, (2, 34, 0, 0, 0)), (1, (2, 1, 0, 0, 0)), (2, (0, 0, 0, 9, a))] _ _ (xa_subI rfl rfl (fun _ _ _ _ => by omega) (xa_subI rfl rfl (fun _ _ _ _ => by omega) (xa_subI rfl rfl (fun _ _ _ _ => by omega) (xa_subR rfl (xa_subR rfl (xa_subI rfl rfl (fun _ _ _ _ => by omega) (xa_sub0))))))) ?_
              exact ih (i + 1) tp bm (by omega) (by omega) (by omega) hg (fun w w0 w1 => by
                by_cases e : w = i
                · rw [e]
                  rintro ⟨z1, z2, z3⟩
                  have z2 := hbt.mpr z2
                  omega
                · exact hz w w0 (by omega)) (by omega)
        · intro (c2 : tp < (M 6 i))
          show xa_C (xl_I b) A h0 _ 142 [(2, 1, 0, 0, 0), (0, 0, 0, 14, i)] M _
          refine cx_142_1 (show 0 ≤ i ∧ i < 14 by omega) ?_
          refine And.intro ?_ ?_
          · intro (c7 : bm ≤ (M 6 i))
            show xa_C (xl_I b) A h0 _ 28 [(2, 1, 0, 0, 0), (0, 0, 0, 14, i)] M _
            refine cx_28_1 (show 0 ≤ i ∧ i < 14 by omega) ?_
            show xa_C (xl_I b) A h0 _ 37 [(2, 1, 0, 0, 0), (0, 0, 0, 14, i)] M _
            refine cx_37_1 (show 0 ≤ i ∧ i < 14 by omega) ?_
            show xa_C (xl_I b) A h0 _ 144 [(2, 1, 0, 0, 0), (0, 0, 0, 9, a), (0, 0, (-2147483648), 2147483647, M 5 i)] M _
            refine cx_144p (show 0 ≤ a ∧ a ≤ 9 by omega) (show 0 ≤ (M 5 i) ∧ (M 5 i) ≤ 9 by omega) hx hy ?_
            intro (i8 : 0 ≤ pl_sq (M 9) (M 10) a (M 5 i) ∧ pl_sq (M 9) (M 10) a (M 5 i) ≤ 2000000)
            refine And.intro ?_ ?_
            · intro (c9 : ((M 4 i) * (M 4 i)) ≤ (pl_sq (M 9) (M 10) a (M 5 i)))
              show xa_C (xl_I b) A h0 _ 37 [(2, 1, 0, 0, 0), (0, 0, 0, 14, i)] M _
              refine cx_37_1 (show 0 ≤ i ∧ i < 14 by omega) ?_
              refine And.intro ?_ ?_
              · intro (c10 : (M 5 i) = a)
                show Q 74 [(5, (0, 0, 1, 15, i + 1)), (9, (0, 0, 0, 0, 0)), (7, (1, 0, (-2147483648), 2147483647, M 4 i)), (6, (0, 0, 0, 0, 0)), (3, (0, 0, (-1), 9, tp)), (4, (0, 0, (-1), 9, bm)), (0, (2, 34, 0, 0, 0)), (1, (2, 1, 0, 0, 0)), (2, (0, 0, 0, 9, a))] [] M
                refine hgo.2.1 74 _ [(5, (0, 0, 0, 14, i + 1)), (3, (0, 0, (-1), 9, tp)), (4, (0, 0, (-1), 9, bm)), (0, (2, 34, 0, 0, 0)), (1, (2, 1, 0, 0, 0)), (2, (0, 0, 0, 9, a))] _ _ (xa_subI rfl rfl (fun _ _ _ _ => by omega) (xa_subI rfl rfl (fun _ _ _ _ => by omega) (xa_subI rfl rfl (fun _ _ _ _ => by omega) (xa_subR rfl (xa_subR rfl (xa_subI rfl rfl (fun _ _ _ _ => by omega) (xa_sub0))))))) ?_
                exact ih (i + 1) tp bm (by omega) (by omega) (by omega) hg (fun w w0 w1 => by
                  by_cases e : w = i
                  · rw [e]
                    rintro ⟨z1, z2, z3⟩
                    have z2 := hbt.mpr z2
                    omega
                  · exact hz w w0 (by omega)) (by omega)
              · intro (c10 : ¬ (M 5 i) = a)
                show Q 74 [(5, (0, 0, 1, 15, i + 1)), (9, (0, 0, 0, 0, 0)), (7, (1, 0, (-2147483648), 2147483647, M 4 i)), (6, (0, 0, 0, 0, 0)), (3, (0, 0, (-1), 9, tp)), (4, (0, 0, (-1), 9, bm)), (0, (2, 34, 0, 0, 0)), (1, (2, 1, 0, 0, 0)), (2, (0, 0, 0, 9, a))] [] M
                refine hgo.2.1 74 _ [(5, (0, 0, 0, 14, i + 1)), (3, (0, 0, (-1), 9, tp)), (4, (0, 0, (-1), 9, bm)), (0, (2, 34, 0, 0, 0)), (1, (2, 1, 0, 0, 0)), (2, (0, 0, 0, 9, a))] _ _ (xa_subI rfl rfl (fun _ _ _ _ => by omega) (xa_subI rfl rfl (fun _ _ _ _ => by omega) (xa_subI rfl rfl (fun _ _ _ _ => by omega) (xa_subR rfl (xa_subR rfl (xa_subI rfl rfl (fun _ _ _ _ => by omega) (xa_sub0))))))) ?_
                exact ih (i + 1) tp bm (by omega) (by omega) (by omega) hg (fun w w0 w1 => by
                  by_cases e : w = i
                  · rw [e]
                    rintro ⟨z1, z2, z3⟩
                    have z2 := hbt.mpr z2
                    omega
                  · exact hz w w0 (by omega)) (by omega)
            · intro (c9 : (pl_sq (M 9) (M 10) a (M 5 i)) < ((M 4 i) * (M 4 i)))
              show xa_C (xl_I b) A h0 _ 37 [(2, 1, 0, 0, 0), (0, 0, 0, 14, i)] M _
              refine cx_37_1 (show 0 ≤ i ∧ i < 14 by omega) ?_
              refine And.intro ?_ ?_
              · intro (c11 : (M 5 i) = a)
                show Q 74 [(5, (0, 0, 1, 15, i + 1)), (9, (0, 0, 1, 1, 1)), (7, (1, 0, (-2147483648), 2147483647, M 4 i)), (6, (0, 0, 0, 0, 0)), (3, (0, 0, (-1), 9, tp)), (4, (0, 0, (-1), 9, bm)), (0, (2, 34, 0, 0, 0)), (1, (2, 1, 0, 0, 0)), (2, (0, 0, 0, 9, a))] [] M
                refine hgo.2.1 74 _ [(5, (0, 0, 0, 14, i + 1)), (3, (0, 0, (-1), 9, tp)), (4, (0, 0, (-1), 9, bm)), (0, (2, 34, 0, 0, 0)), (1, (2, 1, 0, 0, 0)), (2, (0, 0, 0, 9, a))] _ _ (xa_subI rfl rfl (fun _ _ _ _ => by omega) (xa_subI rfl rfl (fun _ _ _ _ => by omega) (xa_subI rfl rfl (fun _ _ _ _ => by omega) (xa_subR rfl (xa_subR rfl (xa_subI rfl rfl (fun _ _ _ _ => by omega) (xa_sub0))))))) ?_
                exact ih (i + 1) tp bm (by omega) (by omega) (by omega) hg (fun w w0 w1 => by
                  by_cases e : w = i
                  · rw [e]
                    rintro ⟨z1, z2, z3⟩
                    have z2 := hbt.mpr z2
                    omega
                  · exact hz w w0 (by omega)) (by omega)
              · intro (c11 : ¬ (M 5 i) = a)
                show Q 74 [(5, (0, 0, 1, 15, i + 1)), (9, (0, 0, 1, 1, 1)), (7, (1, 0, (-2147483648), 2147483647, M 4 i)), (6, (0, 0, 0, 0, 0)), (3, (0, 0, (-1), 9, tp)), (4, (0, 0, (-1), 9, bm)), (0, (2, 34, 0, 0, 0)), (1, (2, 1, 0, 0, 0)), (2, (0, 0, 0, 9, a))] [] M
                refine hgo.2.1 74 _ [(5, (0, 0, 0, 14, i + 1)), (3, (0, 0, (-1), 9, tp)), (4, (0, 0, (-1), 9, bm)), (0, (2, 34, 0, 0, 0)), (1, (2, 1, 0, 0, 0)), (2, (0, 0, 0, 9, a))] _ _ (xa_subI rfl rfl (fun _ _ _ _ => by omega) (xa_subI rfl rfl (fun _ _ _ _ => by omega) (xa_subI rfl rfl (fun _ _ _ _ => by omega) (xa_subR rfl (xa_subR rfl (xa_subI rfl rfl (fun _ _ _ _ => by omega) (xa_sub0))))))) ?_
                exact ih (i + 1) tp bm (by omega) (by omega) (by omega) hg (fun w w0 w1 => by
                  by_cases e : w = i
                  · rw [e]
                    rintro ⟨z1, z2, z3⟩
                    have z2 := hbt.mpr z2
                    omega
                  · exact hz w w0 (by omega)) (by omega)
          · intro (c7 : (M 6 i) < bm)
            show xa_C (xl_I b) A h0 _ 28 [(2, 1, 0, 0, 0), (0, 0, 0, 14, i)] M _
            refine cx_28_1 (show 0 ≤ i ∧ i < 14 by omega) ?_
            show xa_C (xl_I b) A h0 _ 37 [(2, 1, 0, 0, 0), (0, 0, 0, 14, i)] M _
            refine cx_37_1 (show 0 ≤ i ∧ i < 14 by omega) ?_
            show xa_C (xl_I b) A h0 _ 144 [(2, 1, 0, 0, 0), (0, 0, 0, 9, a), (0, 0, (-2147483648), 2147483647, M 5 i)] M _
            refine cx_144p (show 0 ≤ a ∧ a ≤ 9 by omega) (show 0 ≤ (M 5 i) ∧ (M 5 i) ≤ 9 by omega) hx hy ?_
            intro (i12 : 0 ≤ pl_sq (M 9) (M 10) a (M 5 i) ∧ pl_sq (M 9) (M 10) a (M 5 i) ≤ 2000000)
            refine And.intro ?_ ?_
            · intro (c13 : ((M 4 i) * (M 4 i)) ≤ (pl_sq (M 9) (M 10) a (M 5 i)))
              show xa_C (xl_I b) A h0 _ 37 [(2, 1, 0, 0, 0), (0, 0, 0, 14, i)] M _
              refine cx_37_1 (show 0 ≤ i ∧ i < 14 by omega) ?_
              refine And.intro ?_ ?_
              · intro (c14 : (M 5 i) = a)
                show Q 74 [(5, (0, 0, 1, 15, i + 1)), (9, (0, 0, 0, 0, 0)), (7, (1, 0, (-2147483648), 2147483647, M 4 i)), (6, (0, 0, 1, 1, 1)), (3, (0, 0, (-1), 9, tp)), (4, (0, 0, (-1), 9, bm)), (0, (2, 34, 0, 0, 0)), (1, (2, 1, 0, 0, 0)), (2, (0, 0, 0, 9, a))] [] M
                refine hgo.2.1 74 _ [(5, (0, 0, 0, 14, i + 1)), (3, (0, 0, (-1), 9, tp)), (4, (0, 0, (-1), 9, bm)), (0, (2, 34, 0, 0, 0)), (1, (2, 1, 0, 0, 0)), (2, (0, 0, 0, 9, a))] _ _ (xa_subI rfl rfl (fun _ _ _ _ => by omega) (xa_subI rfl rfl (fun _ _ _ _ => by omega) (xa_subI rfl rfl (fun _ _ _ _ => by omega) (xa_subR rfl (xa_subR rfl (xa_subI rfl rfl (fun _ _ _ _ => by omega) (xa_sub0))))))) ?_
                exact ih (i + 1) tp bm (by omega) (by omega) (by omega) hg (fun w w0 w1 => by
                  by_cases e : w = i
                  · rw [e]
                    rintro ⟨z1, z2, z3⟩
                    have z2 := hbt.mpr z2
                    omega
                  · exact hz w w0 (by omega)) (by omega)
              · intro (c14 : ¬ (M 5 i) = a)
                show Q 74 [(5, (0, 0, 1, 15, i + 1)), (9, (0, 0, 0, 0, 0)), (7, (1, 0, (-2147483648), 2147483647, M 4 i)), (6, (0, 0, 1, 1, 1)), (3, (0, 0, (-1), 9, tp)), (4, (0, 0, (-1), 9, bm)), (0, (2, 34, 0, 0, 0)), (1, (2, 1, 0, 0, 0)), (2, (0, 0, 0, 9, a))] [] M
                refine hgo.2.1 74 _ [(5, (0, 0, 0, 14, i + 1)), (3, (0, 0, (-1), 9, tp)), (4, (0, 0, (-1), 9, bm)), (0, (2, 34, 0, 0, 0)), (1, (2, 1, 0, 0, 0)), (2, (0, 0, 0, 9, a))] _ _ (xa_subI rfl rfl (fun _ _ _ _ => by omega) (xa_subI rfl rfl (fun _ _ _ _ => by omega) (xa_subI rfl rfl (fun _ _ _ _ => by omega) (xa_subR rfl (xa_subR rfl (xa_subI rfl rfl (fun _ _ _ _ => by omega) (xa_sub0))))))) ?_
                exact ih (i + 1) tp bm (by omega) (by omega) (by omega) hg (fun w w0 w1 => by
                  by_cases e : w = i
                  · rw [e]
                    rintro ⟨z1, z2, z3⟩
                    have z2 := hbt.mpr z2
                    omega
                  · exact hz w w0 (by omega)) (by omega)
            · intro (c13 : (pl_sq (M 9) (M 10) a (M 5 i)) < ((M 4 i) * (M 4 i)))
              show xa_C (xl_I b) A h0 _ 37 [(2, 1, 0, 0, 0), (0, 0, 0, 14, i)] M _
              refine cx_37_1 (show 0 ≤ i ∧ i < 14 by omega) ?_
              refine And.intro ?_ ?_
              · intro (c15 : (M 5 i) = a)
                show Q 74 [(5, (0, 0, 1, 15, i + 1)), (9, (0, 0, 1, 1, 1)), (7, (1, 0, (-2147483648), 2147483647, M 4 i)), (6, (0, 0, 1, 1, 1)), (3, (0, 0, (-1), 9, tp)), (4, (0, 0, (-1), 9, bm)), (0, (2, 34, 0, 0, 0)), (1, (2, 1, 0, 0, 0)), (2, (0, 0, 0, 9, a))] [] M
                refine hgo.2.1 74 _ [(5, (0, 0, 0, 14, i + 1)), (3, (0, 0, (-1), 9, tp)), (4, (0, 0, (-1), 9, bm)), (0, (2, 34, 0, 0, 0)), (1, (2, 1, 0, 0, 0)), (2, (0, 0, 0, 9, a))] _ _ (xa_subI rfl rfl (fun _ _ _ _ => by omega) (xa_subI rfl rfl (fun _ _ _ _ => by omega) (xa_subI rfl rfl (fun _ _ _ _ => by omega) (xa_subR rfl (xa_subR rfl (xa_subI rfl rfl (fun _ _ _ _ => by omega) (xa_sub0))))))) ?_
                exact ih (i + 1) tp bm (by omega) (by omega) (by omega) hg (fun w w0 w1 => by
                  by_cases e : w = i
                  · rw [e]
                    rintro ⟨z1, z2, z3⟩
                    have z2 := hbt.mpr z2
                    omega
                  · exact hz w w0 (by omega)) (by omega)
              · intro (c15 : ¬ (M 5 i) = a)
                show post (some (0, 0, 1, 1, 1)) M
                exact k1 ⟨i, by omega, by omega, by omega, hbt.mp (by omega), by omega⟩
  have loop1 : ∀ (n : Nat) (i tp bm : Int), 0 ≤ i ∧ i ≤ M 1 9 → -1 ≤ tp ∧ tp ≤ 9 → -1 ≤ bm ∧ bm ≤ 9 → pl_tb (M 5) (M 6) i a tp bm (-1) (-1) → 14 - i < (n : Int) → Q 8 [(5, (0, 0, 0, 14, i)), (3, (0, 0, (-1), 9, tp)), (4, (0, 0, (-1), 9, bm)), (0, (2, 34, 0, 0, 0)), (1, (2, 1, 0, 0, 0)), (2, (0, 0, 0, 9, a))] [] M := by
    intro n
    induction n with
    | zero => intro i tp bm i1 t1 b1 hg hms; omega
    | succ n ih =>
      intro i tp bm i1 t1 b1 hg hms
      have hdi : i < 14 → 0 ≤ M 6 i ∧ M 6 i ≤ 9 := fun h => hd i i1.1 h
      refine hgo.1 31 [8, 74] 8 _ _ _ ?_
      refine And.intro ?_ ?_
      · intro (c1 : (M 1 9) ≤ i)
        show Q 74 [(5, (0, 0, 0, 0, 0)), (3, (0, 0, (-1), 9, tp)), (4, (0, 0, (-1), 9, bm)), (0, (2, 34, 0, 0, 0)), (1, (2, 1, 0, 0, 0)), (2, (0, 0, 0, 9, a))] [] M
        refine hgo.2.1 74 _ [(5, (0, 0, 0, 14, 0)), (3, (0, 0, (-1), 9, tp)), (4, (0, 0, (-1), 9, bm)), (0, (2, 34, 0, 0, 0)), (1, (2, 1, 0, 0, 0)), (2, (0, 0, 0, 9, a))] _ _ (xa_subI rfl rfl (fun _ _ _ _ => by omega) (xa_subI rfl rfl (fun _ _ _ _ => by omega) (xa_subI rfl rfl (fun _ _ _ _ => by omega) (xa_subR rfl (xa_subR rfl (xa_subI rfl rfl (fun _ _ _ _ => by omega) (xa_sub0))))))) ?_
        exact loop2 15 0 tp bm (by omega) (by omega) (by omega) (by rw [show M 1 9 = i by omega]; exact hg) (fun w w0 w1 => by omega) (by omega)
      · intro (c1 : i < (M 1 9))
        show xa_C (xl_I b) A h0 _ 37 [(2, 1, 0, 0, 0), (0, 0, 0, 14, i)] M _
        refine cx_37_1 (show 0 ≤ i ∧ i < 14 by omega) ?_
        refine And.intro ?_ ?_
        · intro (c2 : ¬ (M 5 i) = a)
          show Q 8 [(5, (0, 0, 1, 15, i + 1)), (3, (0, 0, (-1), 9, tp)), (4, (0, 0, (-1), 9, bm)), (0, (2, 34, 0, 0, 0)), (1, (2, 1, 0, 0, 0)), (2, (0, 0, 0, 9, a))] [] M
          refine hgo.2.1 8 _ [(5, (0, 0, 0, 14, i + 1)), (3, (0, 0, (-1), 9, tp)), (4, (0, 0, (-1), 9, bm)), (0, (2, 34, 0, 0, 0)), (1, (2, 1, 0, 0, 0)), (2, (0, 0, 0, 9, a))] _ _ (xa_subI rfl rfl (fun _ _ _ _ => by omega) (xa_subI rfl rfl (fun _ _ _ _ => by omega) (xa_subI rfl rfl (fun _ _ _ _ => by omega) (xa_subR rfl (xa_subR rfl (xa_subI rfl rfl (fun _ _ _ _ => by omega) (xa_sub0))))))) ?_
          exact ih (i + 1) tp bm (by omega) (by omega) (by omega) (pl_tbk c2 hg) (by omega)
        · intro (c2 : (M 5 i) = a)
          refine And.intro ?_ ?_
          · intro (c3 : ¬ tp = (-1))
            show xa_C (xl_I b) A h0 _ 142 [(2, 1, 0, 0, 0), (0, 0, 0, 14, i)] M _
            refine cx_142_1 (show 0 ≤ i ∧ i < 14 by omega) ?_
            show xa_C (xl_I b) A h0 _ 32 [(0, 0, (-1), 9, tp), (0, 0, (-2147483648), 2147483647, M 6 i)] M _
            refine cx_32 ?_ ?_
            · intro (i4 : (M 6 i) < tp)
              show xa_C (xl_I b) A h0 _ 142 [(2, 1, 0, 0, 0), (0, 0, 0, 14, i)] M _
              refine cx_142_1 (show 0 ≤ i ∧ i < 14 by omega) ?_
              show xa_C (xl_I b) A h0 _ 35 [(0, 0, (-1), 9, bm), (0, 0, (-2147483648), 2147483647, M 6 i)] M _
              refine cx_35 ?_ ?_
              · intro (i5 : bm < (M 6 i))
                show Q 8 [(5, (0, 0, 1, 15, i + 1)), (4, (0, 0, (-2147483648), 2147483647, M 6 i)), (3, (0, 0, (-2147483648), 2147483647, M 6 i)), (0, (2, 34, 0, 0, 0)), (1, (2, 1, 0, 0, 0)), (2, (0, 0, 0, 9, a))] [] M
                refine hgo.2.1 8 _ [(5, (0, 0, 0, 14, i + 1)), (3, (0, 0, (-1), 9, M 6 i)), (4, (0, 0, (-1), 9, M 6 i)), (0, (2, 34, 0, 0, 0)), (1, (2, 1, 0, 0, 0)), (2, (0, 0, 0, 9, a))] _ _ (xa_subI rfl rfl (fun _ _ _ _ => by omega) (xa_subI rfl rfl (fun _ _ _ _ => by omega) (xa_subI rfl rfl (fun _ _ _ _ => by omega) (xa_subR rfl (xa_subR rfl (xa_subI rfl rfl (fun _ _ _ _ => by omega) (xa_sub0))))))) ?_
                exact ih (i + 1) (M 6 i) (M 6 i) (by omega) (by omega) (by omega) (pl_step (fun v v0 v1 => hd v v0 (by omega)) (by omega) c2 (fun _ _ => by omega) (fun _ _ _ _ => by omega) hg) (by omega)
              · intro (i6 : (M 6 i) ≤ bm)
                show Q 8 [(5, (0, 0, 1, 15, i + 1)), (4, (0, 0, (-2147483648), 2147483647, bm)), (3, (0, 0, (-2147483648), 2147483647, M 6 i)), (0, (2, 34, 0, 0, 0)), (1, (2, 1, 0, 0, 0)), (2, (0, 0, 0, 9, a))] [] M
                refine hgo.2.1 8 _ [(5, (0, 0, 0, 14, i + 1)), (3, (0, 0, (-1), 9, M 6 i)), (4, (0, 0, (-1), 9, bm)), (0, (2, 34, 0, 0, 0)), (1, (2, 1, 0, 0, 0)), (2, (0, 0, 0, 9, a))] _ _ (xa_subI rfl rfl (fun _ _ _ _ => by omega) (xa_subI rfl rfl (fun _ _ _ _ => by omega) (xa_subI rfl rfl (fun _ _ _ _ => by omega) (xa_subR rfl (xa_subR rfl (xa_subI rfl rfl (fun _ _ _ _ => by omega) (xa_sub0))))))) ?_
                exact ih (i + 1) (M 6 i) bm (by omega) (by omega) (by omega) (pl_step (fun v v0 v1 => hd v v0 (by omega)) (by omega) c2 (fun _ _ => by omega) (fun _ _ _ _ => by omega) hg) (by omega)
            · intro (i7 : tp ≤ (M 6 i))
              show xa_C (xl_I b) A h0 _ 142 [(2, 1, 0, 0, 0), (0, 0, 0, 14, i)] M _
              refine cx_142_1 (show 0 ≤ i ∧ i < 14 by omega) ?_
              show xa_C (xl_I b) A h0 _ 35 [(0, 0, (-1), 9, bm), (0, 0, (-2147483648), 2147483647, M 6 i)] M _
              refine cx_35 ?_ ?_
              · intro (i8 : bm < (M 6 i))
                show Q 8 [(5, (0, 0, 1, 15, i + 1)), (4, (0, 0, (-2147483648), 2147483647, M 6 i)), (3, (0, 0, (-2147483648), 2147483647, tp)), (0, (2, 34, 0, 0, 0)), (1, (2, 1, 0, 0, 0)), (2, (0, 0, 0, 9, a))] [] M
                refine hgo.2.1 8 _ [(5, (0, 0, 0, 14, i + 1)), (3, (0, 0, (-1), 9, tp)), (4, (0, 0, (-1), 9, M 6 i)), (0, (2, 34, 0, 0, 0)), (1, (2, 1, 0, 0, 0)), (2, (0, 0, 0, 9, a))] _ _ (xa_subI rfl rfl (fun _ _ _ _ => by omega) (xa_subI rfl rfl (fun _ _ _ _ => by omega) (xa_subI rfl rfl (fun _ _ _ _ => by omega) (xa_subR rfl (xa_subR rfl (xa_subI rfl rfl (fun _ _ _ _ => by omega) (xa_sub0))))))) ?_
                exact ih (i + 1) tp (M 6 i) (by omega) (by omega) (by omega) (pl_step (fun v v0 v1 => hd v v0 (by omega)) (by omega) c2 (fun _ _ => by omega) (fun _ _ _ _ => by omega) hg) (by omega)
              · intro (i9 : (M 6 i) ≤ bm)
                show Q 8 [(5, (0, 0, 1, 15, i + 1)), (4, (0, 0, (-2147483648), 2147483647, bm)), (3, (0, 0, (-2147483648), 2147483647, tp)), (0, (2, 34, 0, 0, 0)), (1, (2, 1, 0, 0, 0)), (2, (0, 0, 0, 9, a))] [] M
                refine hgo.2.1 8 _ [(5, (0, 0, 0, 14, i + 1)), (3, (0, 0, (-1), 9, tp)), (4, (0, 0, (-1), 9, bm)), (0, (2, 34, 0, 0, 0)), (1, (2, 1, 0, 0, 0)), (2, (0, 0, 0, 9, a))] _ _ (xa_subI rfl rfl (fun _ _ _ _ => by omega) (xa_subI rfl rfl (fun _ _ _ _ => by omega) (xa_subI rfl rfl (fun _ _ _ _ => by omega) (xa_subR rfl (xa_subR rfl (xa_subI rfl rfl (fun _ _ _ _ => by omega) (xa_sub0))))))) ?_
                exact ih (i + 1) tp bm (by omega) (by omega) (by omega) (pl_step (fun v v0 v1 => hd v v0 (by omega)) (by omega) c2 (fun _ _ => by omega) (fun _ _ _ _ => by omega) hg) (by omega)
          · intro (c3 : tp = (-1))
            show xa_C (xl_I b) A h0 _ 142 [(2, 1, 0, 0, 0), (0, 0, 0, 14, i)] M _
            refine cx_142_1 (show 0 ≤ i ∧ i < 14 by omega) ?_
            show xa_C (xl_I b) A h0 _ 142 [(2, 1, 0, 0, 0), (0, 0, 0, 14, i)] M _
            refine cx_142_1 (show 0 ≤ i ∧ i < 14 by omega) ?_
            show xa_C (xl_I b) A h0 _ 35 [(0, 0, (-1), 9, bm), (0, 0, (-2147483648), 2147483647, M 6 i)] M _
            refine cx_35 ?_ ?_
            · intro (i10 : bm < (M 6 i))
              show Q 8 [(5, (0, 0, 1, 15, i + 1)), (4, (0, 0, (-2147483648), 2147483647, M 6 i)), (3, (0, 0, (-2147483648), 2147483647, M 6 i)), (0, (2, 34, 0, 0, 0)), (1, (2, 1, 0, 0, 0)), (2, (0, 0, 0, 9, a))] [] M
              refine hgo.2.1 8 _ [(5, (0, 0, 0, 14, i + 1)), (3, (0, 0, (-1), 9, M 6 i)), (4, (0, 0, (-1), 9, M 6 i)), (0, (2, 34, 0, 0, 0)), (1, (2, 1, 0, 0, 0)), (2, (0, 0, 0, 9, a))] _ _ (xa_subI rfl rfl (fun _ _ _ _ => by omega) (xa_subI rfl rfl (fun _ _ _ _ => by omega) (xa_subI rfl rfl (fun _ _ _ _ => by omega) (xa_subR rfl (xa_subR rfl (xa_subI rfl rfl (fun _ _ _ _ => by omega) (xa_sub0))))))) ?_
              exact ih (i + 1) (M 6 i) (M 6 i) (by omega) (by omega) (by omega) (pl_step (fun v v0 v1 => hd v v0 (by omega)) (by omega) c2 (fun _ _ => by omega) (fun _ _ _ _ => by omega) hg) (by omega)
            · intro (i11 : (M 6 i) ≤ bm)
              show Q 8 [(5, (0, 0, 1, 15, i + 1)), (4, (0, 0, (-2147483648), 2147483647, bm)), (3, (0, 0, (-2147483648), 2147483647, M 6 i)), (0, (2, 34, 0, 0, 0)), (1, (2, 1, 0, 0, 0)), (2, (0, 0, 0, 9, a))] [] M
              refine hgo.2.1 8 _ [(5, (0, 0, 0, 14, i + 1)), (3, (0, 0, (-1), 9, M 6 i)), (4, (0, 0, (-1), 9, bm)), (0, (2, 34, 0, 0, 0)), (1, (2, 1, 0, 0, 0)), (2, (0, 0, 0, 9, a))] _ _ (xa_subI rfl rfl (fun _ _ _ _ => by omega) (xa_subI rfl rfl (fun _ _ _ _ => by omega) (xa_subI rfl rfl (fun _ _ _ _ => by omega) (xa_subR rfl (xa_subR rfl (xa_subI rfl rfl (fun _ _ _ _ => by omega) (xa_sub0))))))) ?_
              exact ih (i + 1) (M 6 i) bm (by omega) (by omega) (by omega) (pl_step (fun v v0 v1 => hd v v0 (by omega)) (by omega) c2 (fun _ _ => by omega) (fun _ _ _ _ => by omega) hg) (by omega)
  refine hgo.1 11 [8, 74] 0 _ _ _ ?_
  show Q 8 [(5, (0, 0, 0, 0, 0)), (4, (0, 0, (-1), (-1), (-1))), (3, (0, 0, (-1), (-1), (-1))), (0, (2, 34, 0, 0, 0)), (1, (2, 1, 0, 0, 0)), (2, (0, 0, 0, 9, a))] [] M
  refine hgo.2.1 8 _ [(5, (0, 0, 0, 14, 0)), (3, (0, 0, (-1), 9, (-1))), (4, (0, 0, (-1), 9, (-1))), (0, (2, 34, 0, 0, 0)), (1, (2, 1, 0, 0, 0)), (2, (0, 0, 0, 9, a))] _ _ (xa_subI rfl rfl (fun _ _ _ _ => by omega) (xa_subI rfl rfl (fun _ _ _ _ => by omega) (xa_subI rfl rfl (fun _ _ _ _ => by omega) (xa_subR rfl (xa_subR rfl (xa_subI rfl rfl (fun _ _ _ _ => by omega) (xa_sub0))))))) ?_
  exact loop1 15 0 (-1) (-1) (by omega) (by omega) (by omega) pl_tb0 (by omega)
theorem cw_149 {b : Bool} {A : Nat → Nat} {h0 : g_H} {d : Nat} {M : xa_M} {post : Option xa_V → xa_M → Prop} (hn : 0 ≤ M 1 9 ∧ M 1 9 ≤ 14) (hx : ∀ i, 0 ≤ i → i < 10 → -500 ≤ M 9 i ∧ M 9 i ≤ 500) (hy : ∀ i, 0 ≤ i → i < 10 → -500 ≤ M 10 i ∧ M 10 i ≤ 500) (ha : ∀ i, 0 ≤ i → i < 14 → 0 ≤ M 5 i ∧ M 5 i ≤ 9) (hd : ∀ i, 0 ≤ i → i < 14 → 0 ≤ M 6 i ∧ M 6 i ≤ 9) (k : post (some (0, 0, (-2147483648), 2147483647, br_b (pl_pr (M 9) (M 10) (M 5) (M 6) (M 4) (M 1 9)) 10)) M) : xa_C (xl_I b) A h0 (d + 4) 149 [(2, 0, 0, 0, 0)] M post := by
  refine xa_C_arg [(2, 0, 0, 0, 0)] (xa_svR (xa_sv0)) ?_
  refine xa_meth (Q0 := (3, 1, false, 0, 0, 11)) (by decide +kernel) ⟨rfl, rfl⟩ (full := s_c_149) rfl rfl ?_
  intro hM hv Q hgo
  have loop : ∀ (n : Nat) (i bb : Int), 0 ≤ i ∧ i ≤ 10 → bb = br_b (pl_pr (M 9) (M 10) (M 5) (M 6) (M 4) (M 1 9)) i.toNat → 10 - i < (n : Int) → Q 4 [(2, (0, 0, 0, 10, i)), (1, (0, 0, (-2147483648), 2147483647, bb)), (0, (2, 0, 0, 0, 0))] [] M := by
    intro n
    induction n with
    | zero => intro i bb i1 hb hms; omega
    | succ n ih =>
      intro i bb i1 hb hms
      have ei : ((i.toNat : Nat) : Int) = i := Int.toNat_of_nonneg i1.1
      have hr := br_b_r (P := (pl_pr (M 9) (M 10) (M 5) (M 6) (M 4) (M 1 9))) i.toNat
      rw [← hb] at hr
      refine hgo.1 24 [4] 4 _ _ _ ?_
      refine And.intro ?_ ?_
      · intro (c1 : 10 ≤ i)
        show post (some (0, 0, (-2147483648), 2147483647, bb)) M
        rw [hb, show i = 10 by omega]
        exact k
      · intro (c1 : i < 10)
        show xa_C (xl_I b) A h0 _ 150 [(2, 34, 0, 0, 0), (2, 1, 0, 0, 0), (0, 0, 0, 10, i)] M _
        refine cx_150p (show 0 ≤ i ∧ i ≤ 9 by omega) hn hx hy ha hd ?_ ?_
        · intro (i2 : (pl_pr (M 9) (M 10) (M 5) (M 6) (M 4) (M 1 9)) i)
          show Q 4 [(2, (0, 0, 1, 11, i + 1)), (1, (0, 0, (-2147483648), 2147483647, xa_ib 4 bb (xa_ib 6 1 i))), (0, (2, 0, 0, 0, 0))] [] M
          have eb : xa_ib 4 bb (xa_ib 6 1 i) = br_b (pl_pr (M 9) (M 10) (M 5) (M 6) (M 4) (M 1 9)) (i + 1).toNat := by
            rw [show (i + 1).toNat = i.toNat + 1 by omega, br_b1 (show (pl_pr (M 9) (M 10) (M 5) (M 6) (M 4) (M 1 9)) ((i.toNat : Nat) : Int) by rw [ei]; exact i2), ← hb, ei]
          refine hgo.2.1 4 _ [(2, (0, 0, 0, 10, i + 1)), (1, (0, 0, (-2147483648), 2147483647, xa_ib 4 bb (xa_ib 6 1 i))), (0, (2, 0, 0, 0, 0))] _ _ (xa_subI rfl rfl (fun _ _ _ _ => by omega) (xa_subI rfl rfl (fun _ _ _ _ => by omega) (xa_subR rfl (xa_sub0)))) ?_
          exact ih (i + 1) _ (by omega) eb (by omega)
        · intro (i3 : ¬ (pl_pr (M 9) (M 10) (M 5) (M 6) (M 4) (M 1 9)) i)
          show Q 4 [(2, (0, 0, 1, 11, i + 1)), (1, (0, 0, (-2147483648), 2147483647, xa_ib 4 bb 0)), (0, (2, 0, 0, 0, 0))] [] M
          have eb : xa_ib 4 bb 0 = br_b (pl_pr (M 9) (M 10) (M 5) (M 6) (M 4) (M 1 9)) (i + 1).toNat := by
            rw [show (i + 1).toNat = i.toNat + 1 by omega, br_b0 (show ¬ (pl_pr (M 9) (M 10) (M 5) (M 6) (M 4) (M 1 9)) ((i.toNat : Nat) : Int) by rw [ei]; exact i3), ← hb, br_or0 hr.1 hr.2]
          refine hgo.2.1 4 _ [(2, (0, 0, 0, 10, i + 1)), (1, (0, 0, (-2147483648), 2147483647, xa_ib 4 bb 0)), (0, (2, 0, 0, 0, 0))] _ _ (xa_subI rfl rfl (fun _ _ _ _ => by omega) (xa_subI rfl rfl (fun _ _ _ _ => by omega) (xa_subR rfl (xa_sub0)))) ?_
          exact ih (i + 1) _ (by omega) eb (by omega)
  refine hgo.1 9 [4] 0 _ _ _ ?_
  show Q 4 [(2, (0, 0, 0, 0, 0)), (1, (0, 0, 0, 0, 0)), (0, (2, 0, 0, 0, 0))] [] M
  refine hgo.2.1 4 _ [(2, (0, 0, 0, 10, 0)), (1, (0, 0, (-2147483648), 2147483647, 0)), (0, (2, 0, 0, 0, 0))] _ _ (xa_subI rfl rfl (fun _ _ _ _ => by omega) (xa_subI rfl rfl (fun _ _ _ _ => by omega) (xa_subR rfl (xa_sub0)))) ?_
  exact loop 11 0 0 (by omega) rfl (by omega)
theorem ms_piercedF {A : Nat → Nat} {h0 : g_H} {d : Nat} {M : xa_M} {post : Option xa_V → xa_M → Prop} (hI : xm_Inv M) (k : ∀ (r : Int) (M1 : xa_M), r = br_b (pl_pr (M 68) (M 69) (M 64) (M 65) (M 63) (M 60 0)) 10 → xm_cor M M1 → post (some (0, 0, (-2147483648), 2147483647, r)) M1) : xa_C xm_I A h0 (d + 2) 266 [(2, 60, 0, 0, 0)] M post := by
  refine xa_meth (Q0 := (6, 1, false, 0, 0, 12)) (by decide +kernel) ⟨rfl, rfl⟩ (full := s_c_266) rfl rfl ?_
  intro hM hv Q hgo
  have b0 := xm_f0 hM
  have loop0 : ∀ (M1 : xa_M), xm_cor M M1 → ∀ (n : Nat) (x2 x1 : Int), 0 ≤ x2 ∧ x2 ≤ 10 → x1 = br_b (pl_pr (M1 68) (M1 69) (M1 64) (M1 65) (M1 63) (M1 60 0)) x2.toNat → 10 - x2 < (n : Int) → Q 9 [(2, (0, 0, 0, 10, x2)), (1, (0, 0, (-2147483648), 2147483647, x1)), (0, (2, 60, 0, 0, 0))] [] M1 := by
    intro M1 hc
    have f63 : M1 63 = M 63 := funext (xm_corq hc 63 rfl)
    have f64 : M1 64 = M 64 := funext (xm_corq hc 64 rfl)
    have f65 : M1 65 = M 65 := funext (xm_corq hc 65 rfl)
    have f68 : M1 68 = M 68 := funext (xm_corq hc 68 rfl)
    have f69 : M1 69 = M 69 := funext (xm_corq hc 69 rfl)
    have e0 := xm_corf hc 0 (by omega)
    have t64 : ∀ v, 0 ≤ v → v < 14 → 0 ≤ M1 64 v ∧ M1 64 v ≤ 9 := fun v v0 v1 => by rw [f64]; exact xm_t64 hM v v0 v1
    have t65 : ∀ v, 0 ≤ v → v < 14 → 0 ≤ M1 65 v ∧ M1 65 v ≤ 9 := fun v v0 v1 => by rw [f65]; exact xm_t65 hM v v0 v1
    intro n
    induction n with
    | zero => intro x2 x1 b2 hb hms; omega
    | succ n ih0 =>
      intro x2 x1 b2 hb hms0
      have ei : ((x2.toNat : Nat) : Int) = x2 := Int.toNat_of_nonneg b2.1
      have loop1 : x2 < 10 → ∀ (n : Nat) (x5 x4 x3 : Int), 0 ≤ x5 ∧ x5 ≤ M1 60 0 → -1 ≤ x4 ∧ x4 ≤ 9 → 0 ≤ x3 ∧ x3 ≤ 10 → pl_tb (M1 64) (M1 65) x5 x2 x3 x4 10 (-1) → 14 - x5 < (n : Int) → Q 24 [(5, (0, 0, 0, 14, x5)), (4, (0, 0, (-1), 9, x4)), (3, (0, 0, 0, 10, x3)), (2, (0, 0, 0, 9, x2)), (1, (0, 0, (-2147483648), 2147483647, x1)), (0, (2, 60, 0, 0, 0))] [] M1 := by
        intro hx2
        intro n
        induction n with
        | zero => intro x5 x4 x3 b5 b4 b3 hg hms; omega
        | succ n ih1 =>
          intro x5 x4 x3 b5 b4 b3 hg hms
          have loop2 : pl_tb (M1 64) (M1 65) (M1 60 0) x2 x3 x4 10 (-1) → ∀ (n : Nat) (x5 x6 : Int), 0 ≤ x5 ∧ x5 ≤ M1 60 0 → pl_b1 (pl_th (M1 68) (M1 69) (M1 64) (M1 65) (M1 63) (M1 60 0) x2) x5 x1 (xa_ib 6 1 x2) x6 → 14 - x5 < (n : Int) → Q 82 [(5, (0, 0, 0, 14, x5)), (4, (0, 0, (-1), 9, x4)), (3, (0, 0, 0, 10, x3)), (2, (0, 0, 0, 9, x2)), (1, (0, 0, (-2147483648), 2147483647, x6)), (0, (2, 60, 0, 0, 0))] [] M1 := by
            intro hgL
            intro n
            induction n with
            | zero => intro x5 x6 b5 hz hms; omega
            | succ n ih2 =>
              intro x5 x6 b5 hz hms
              have hd5 : x5 < 14 → 0 ≤ M1 65 x5 ∧ M1 65 x5 ≤ 9 := fun h => t65 x5 b5.1 h
              have ha5 : x5 < 14 → 0 ≤ M1 64 x5 ∧ M1 64 x5 ≤ 9 := fun h => t64 x5 b5.1 h
              have hbt := pl_tb_bt (e := M1 65 x5) (by omega) hgL
              refine hgo.1 52 [9, 24, 82] 82 _ _ _ ?_
              refine And.intro ?_ ?_
              · intro (c1 : (M1 60 0) ≤ x5)
                show Q 9 [(2, (0, 0, 1, 10, x2 + 1)), (5, (0, 0, 0, 14, x5)), (4, (0, 0, (-1), 9, x4)), (3, (0, 0, 0, 10, x3)), (1, (0, 0, (-2147483648), 2147483647, x6)), (0, (2, 60, 0, 0, 0))] [] M1
                have eb : x6 = br_b (pl_pr (M1 68) (M1 69) (M1 64) (M1 65) (M1 63) (M1 60 0)) (x2 + 1).toNat := by
                  rw [show (x2 + 1).toNat = x2.toNat + 1 by omega]
                  rcases hz with ⟨z1, z2⟩ | ⟨z1, z2⟩
                  · rw [br_b0 (show ¬ (pl_pr (M1 68) (M1 69) (M1 64) (M1 65) (M1 63) (M1 60 0)) ((x2.toNat : Nat) : Int) by rw [ei]; exact fun ⟨w, w0, w1, hw⟩ => z2 w w0 (by omega) hw), ← hb]
                    exact z1
                  · rw [br_b1 (show (pl_pr (M1 68) (M1 69) (M1 64) (M1 65) (M1 63) (M1 60 0)) ((x2.toNat : Nat) : Int) by rw [ei]; obtain ⟨w, w0, w1, hw⟩ := z2; exact ⟨w, w0, by omega, hw⟩), ← hb, ei]
                    exact z1
                refine hgo.2.1 9 _ [(2, (0, 0, 0, 10, x2 + 1)), (1, (0, 0, (-2147483648), 2147483647, x6)), (0, (2, 60, 0, 0, 0))] _ _ (xa_subI rfl rfl (fun _ _ _ _ => by omega) (xa_subI rfl rfl (fun _ _ _ _ => by omega) (xa_subR rfl (xa_sub0)))) ?_
                exact ih0 (x2 + 1) x6 (by omega) eb (by omega)
              · intro (c1 : x5 < (M1 60 0))
                refine And.intro (show 0 ≤ x5 ∧ x5 < 14 by omega) ?_
                refine And.intro ?_ ?_
                · intro (c2 : (M1 64 x5) = x2)
                  show Q 82 [(5, (0, 0, 1, 15, x5 + 1)), (4, (0, 0, (-1), 9, x4)), (3, (0, 0, 0, 10, x3)), (2, (0, 0, 0, 9, x2)), (1, (0, 0, (-2147483648), 2147483647, x6)), (0, (2, 60, 0, 0, 0))] [] M1
                  refine hgo.2.1 82 _ [(5, (0, 0, 0, 14, x5 + 1)), (4, (0, 0, (-1), 9, x4)), (3, (0, 0, 0, 10, x3)), (2, (0, 0, 0, 9, x2)), (1, (0, 0, (-2147483648), 2147483647, x6)), (0, (2, 60, 0, 0, 0))] _ _ (xa_subI rfl rfl (fun _ _ _ _ => by omega) (xa_subI rfl rfl (fun _ _ _ _ => by omega) (xa_subI rfl rfl (fun _ _ _ _ => by omega) (xa_subI rfl rfl (fun _ _ _ _ => by omega) (xa_subI rfl rfl (fun _ _ _ _ => by omega) (xa_subR rfl (xa_sub0))))))) ?_
                  exact ih2 (x5 + 1) x6 (by omega) (pl_b1n (fun ⟨z1, z2, z3⟩ => by have z2 := hbt.mpr z2; unfold pl_sq at z3; omega) hz) (by omega)
                · intro (c2 : ¬ (M1 64 x5) = x2)
                  refine And.intro (show 0 ≤ x5 ∧ x5 < 14 by omega) ?_
                  refine And.intro ?_ ?_
                  · intro (c3 : (M1 65 x5) ≤ x3)
                    show Q 82 [(5, (0, 0, 1, 15, x5 + 1)), (4, (0, 0, (-1), 9, x4)), (3, (0, 0, 0, 10, x3)), (2, (0, 0, 0, 9, x2)), (1, (0, 0, (-2147483648), 2147483647, x6)), (0, (2, 60, 0, 0, 0))] [] M1
                    refine hgo.2.1 82 _ [(5, (0, 0, 0, 14, x5 + 1)), (4, (0, 0, (-1), 9, x4)), (3, (0, 0, 0, 10, x3)), (2, (0, 0, 0, 9, x2)), (1, (0, 0, (-2147483648), 2147483647, x6)), (0, (2, 60, 0, 0, 0))] _ _ (xa_subI rfl rfl (fun _ _ _ _ => by omega) (xa_subI rfl rfl (fun _ _ _ _ => by omega) (xa_subI rfl rfl (fun _ _ _ _ => by omega) (xa_subI rfl rfl (fun _ _ _ _ => by omega) (xa_subI rfl rfl (fun _ _ _ _ => by omega) (xa_subR rfl (xa_sub0))))))) ?_
                    exact ih2 (x5 + 1) x6 (by omega) (pl_b1n (fun ⟨z1, z2, z3⟩ => by have z2 := hbt.mpr z2; unfold pl_sq at z3; omega) hz) (by omega)
                  · intro (c3 : x3 < (M1 65 x5))
                    refine And.intro (show 0 ≤ x5 ∧ x5 < 14 by omega) ?_
                    refine And.intro ?_ ?_
                    · intro (c4 : (M1 65 x5) < x4)
                      refine And.intro (show 0 ≤ x5 ∧ x5 < 14 by omega) ?_
                      show xa_C xm_I A h0 _ 265 [(2, 60, 0, 0, 0), (0, 0, 0, 9, x2), (0, 0, 0, 9, M1 64 x5)] M1 _
                      refine ct_apart (by omega) (by omega) (by omega) (by omega) ?_
                      intro r101 (i5 : r101 = (M1 68 x2 - M1 68 (M1 64 x5)) * (M1 68 x2 - M1 68 (M1 64 x5)) + (M1 69 x2 - M1 69 (M1 64 x5)) * (M1 69 x2 - M1 69 (M1 64 x5)))
                      refine And.intro (show 0 ≤ x5 ∧ x5 < 14 by omega) ?_
                      refine And.intro (show 0 ≤ x5 ∧ x5 < 14 by omega) ?_
                      refine And.intro ?_ ?_
                      · intro (c6 : ((M1 63 x5) * (M1 63 x5)) ≤ r101)
                        show Q 82 [(5, (0, 0, 1, 15, x5 + 1)), (4, (0, 0, (-1), 9, x4)), (3, (0, 0, 0, 10, x3)), (2, (0, 0, 0, 9, x2)), (1, (0, 0, (-2147483648), 2147483647, x6)), (0, (2, 60, 0, 0, 0))] [] M1
                        refine hgo.2.1 82 _ [(5, (0, 0, 0, 14, x5 + 1)), (4, (0, 0, (-1), 9, x4)), (3, (0, 0, 0, 10, x3)), (2, (0, 0, 0, 9, x2)), (1, (0, 0, (-2147483648), 2147483647, x6)), (0, (2, 60, 0, 0, 0))] _ _ (xa_subI rfl rfl (fun _ _ _ _ => by omega) (xa_subI rfl rfl (fun _ _ _ _ => by omega) (xa_subI rfl rfl (fun _ _ _ _ => by omega) (xa_subI rfl rfl (fun _ _ _ _ => by omega) (xa_subI rfl rfl (fun _ _ _ _ => by omega) (xa_subR rfl (xa_sub0))))))) ?_
                        exact ih2 (x5 + 1) x6 (by omega) (pl_b1n (fun ⟨z1, z2, z3⟩ => by have z2 := hbt.mpr z2; unfold pl_sq at z3; omega) hz) (by omega)
                      · intro (c6 : r101 < ((M1 63 x5) * (M1 63 x5)))
                        show Q 82 [(5, (0, 0, 1, 15, x5 + 1)), (1, (0, 0, (-2147483648), 2147483647, xa_ib 4 x6 (xa_ib 6 1 x2))), (4, (0, 0, (-1), 9, x4)), (3, (0, 0, 0, 10, x3)), (2, (0, 0, 0, 9, x2)), (0, (2, 60, 0, 0, 0))] [] M1
                        refine hgo.2.1 82 _ [(5, (0, 0, 0, 14, x5 + 1)), (4, (0, 0, (-1), 9, x4)), (3, (0, 0, 0, 10, x3)), (2, (0, 0, 0, 9, x2)), (1, (0, 0, (-2147483648), 2147483647, xa_ib 4 x6 (xa_ib 6 1 x2))), (0, (2, 60, 0, 0, 0))] _ _ (xa_subI rfl rfl (fun _ _ _ _ => by omega) (xa_subI rfl rfl (fun _ _ _ _ => by omega) (xa_subI rfl rfl (fun _ _ _ _ => by omega) (xa_subI rfl rfl (fun _ _ _ _ => by omega) (xa_subI rfl rfl (fun _ _ _ _ => by omega) (xa_subR rfl (xa_sub0))))))) ?_
                        exact ih2 (x5 + 1) (xa_ib 4 x6 (xa_ib 6 1 x2)) (by omega) (pl_b1y (by omega) ⟨by omega, hbt.mp (by omega), by unfold pl_sq; omega⟩ hz) (by omega)
                    · intro (c4 : x4 ≤ (M1 65 x5))
                      show Q 82 [(5, (0, 0, 1, 15, x5 + 1)), (4, (0, 0, (-1), 9, x4)), (3, (0, 0, 0, 10, x3)), (2, (0, 0, 0, 9, x2)), (1, (0, 0, (-2147483648), 2147483647, x6)), (0, (2, 60, 0, 0, 0))] [] M1
                      refine hgo.2.1 82 _ [(5, (0, 0, 0, 14, x5 + 1)), (4, (0, 0, (-1), 9, x4)), (3, (0, 0, 0, 10, x3)), (2, (0, 0, 0, 9, x2)), (1, (0, 0, (-2147483648), 2147483647, x6)), (0, (2, 60, 0, 0, 0))] _ _ (xa_subI rfl rfl (fun _ _ _ _ => by omega) (xa_subI rfl rfl (fun _ _ _ _ => by omega) (xa_subI rfl rfl (fun _ _ _ _ => by omega) (xa_subI rfl rfl (fun _ _ _ _ => by omega) (xa_subI rfl rfl (fun _ _ _ _ => by omega) (xa_subR rfl (xa_sub0))))))) ?_
                      exact ih2 (x5 + 1) x6 (by omega) (pl_b1n (fun ⟨z1, z2, z3⟩ => by have z2 := hbt.mpr z2; unfold pl_sq at z3; omega) hz) (by omega)
          have hd5 : x5 < 14 → 0 ≤ M1 65 x5 ∧ M1 65 x5 ≤ 9 := fun h => t65 x5 b5.1 h
          have ha5 : x5 < 14 → 0 ≤ M1 64 x5 ∧ M1 64 x5 ≤ 9 := fun h => t64 x5 b5.1 h
          refine hgo.1 31 [9, 24, 82] 24 _ _ _ ?_
          refine And.intro ?_ ?_
          · intro (c1 : (M1 60 0) ≤ x5)
            show Q 82 [(5, (0, 0, 0, 0, 0)), (4, (0, 0, (-1), 9, x4)), (3, (0, 0, 0, 10, x3)), (2, (0, 0, 0, 9, x2)), (1, (0, 0, (-2147483648), 2147483647, x1)), (0, (2, 60, 0, 0, 0))] [] M1
            refine hgo.2.1 82 _ [(5, (0, 0, 0, 14, 0)), (4, (0, 0, (-1), 9, x4)), (3, (0, 0, 0, 10, x3)), (2, (0, 0, 0, 9, x2)), (1, (0, 0, (-2147483648), 2147483647, x1)), (0, (2, 60, 0, 0, 0))] _ _ (xa_subI rfl rfl (fun _ _ _ _ => by omega) (xa_subI rfl rfl (fun _ _ _ _ => by omega) (xa_subI rfl rfl (fun _ _ _ _ => by omega) (xa_subI rfl rfl (fun _ _ _ _ => by omega) (xa_subI rfl rfl (fun _ _ _ _ => by omega) (xa_subR rfl (xa_sub0))))))) ?_
            exact loop2 (by rw [show M1 60 0 = x5 by omega]; exact hg) 15 0 x1 (by omega) pl_b10 (by omega)
          · intro (c1 : x5 < (M1 60 0))
            refine And.intro (show 0 ≤ x5 ∧ x5 < 14 by omega) ?_
            refine And.intro ?_ ?_
            · intro (c2 : (M1 64 x5) = x2)
              refine And.intro (show 0 ≤ x5 ∧ x5 < 14 by omega) ?_
              show xa_C xm_I A h0 _ 32 [(0, 0, 0, 10, x3), (0, 0, 0, 9, M1 65 x5)] M1 _
              refine ct_min 0 9 (by decide) (by decide) (by decide) ?_
              intro r102 (i3 : 0 ≤ r102 ∧ r102 ≤ 9) (i4 : r102 ≤ x3 ∧ r102 ≤ (M1 65 x5) ∧ (r102 = x3 ∨ r102 = (M1 65 x5)))
              refine And.intro (show 0 ≤ x5 ∧ x5 < 14 by omega) ?_
              show xa_C xm_I A h0 _ 35 [(0, 0, (-1), 9, x4), (0, 0, 0, 9, M1 65 x5)] M1 _
              refine ct_max 0 9 (by decide) (by decide) (by decide) ?_
              intro r103 (i5 : 0 ≤ r103 ∧ r103 ≤ 9) (i6 : x4 ≤ r103 ∧ (M1 65 x5) ≤ r103 ∧ (r103 = x4 ∨ r103 = (M1 65 x5)))
              show Q 24 [(5, (0, 0, 1, 15, x5 + 1)), (4, (0, 0, 0, 9, r103)), (3, (0, 0, 0, 9, r102)), (2, (0, 0, 0, 9, x2)), (1, (0, 0, (-2147483648), 2147483647, x1)), (0, (2, 60, 0, 0, 0))] [] M1
              refine hgo.2.1 24 _ [(5, (0, 0, 0, 14, x5 + 1)), (4, (0, 0, (-1), 9, r103)), (3, (0, 0, 0, 10, r102)), (2, (0, 0, 0, 9, x2)), (1, (0, 0, (-2147483648), 2147483647, x1)), (0, (2, 60, 0, 0, 0))] _ _ (xa_subI rfl rfl (fun _ _ _ _ => by omega) (xa_subI rfl rfl (fun _ _ _ _ => by omega) (xa_subI rfl rfl (fun _ _ _ _ => by omega) (xa_subI rfl rfl (fun _ _ _ _ => by omega) (xa_subI rfl rfl (fun _ _ _ _ => by omega) (xa_subR rfl (xa_sub0))))))) ?_
              exact ih1 (x5 + 1) r103 r102 (by omega) (by omega) (by omega) (pl_step (fun v v0 v1 => t65 v v0 (by omega)) (by omega) c2 (fun _ _ => by omega) (fun _ _ _ _ => by omega) hg) (by omega)
            · intro (c2 : ¬ (M1 64 x5) = x2)
              show Q 24 [(5, (0, 0, 1, 15, x5 + 1)), (4, (0, 0, (-1), 9, x4)), (3, (0, 0, 0, 10, x3)), (2, (0, 0, 0, 9, x2)), (1, (0, 0, (-2147483648), 2147483647, x1)), (0, (2, 60, 0, 0, 0))] [] M1
              refine hgo.2.1 24 _ [(5, (0, 0, 0, 14, x5 + 1)), (4, (0, 0, (-1), 9, x4)), (3, (0, 0, 0, 10, x3)), (2, (0, 0, 0, 9, x2)), (1, (0, 0, (-2147483648), 2147483647, x1)), (0, (2, 60, 0, 0, 0))] _ _ (xa_subI rfl rfl (fun _ _ _ _ => by omega) (xa_subI rfl rfl (fun _ _ _ _ => by omega) (xa_subI rfl rfl (fun _ _ _ _ => by omega) (xa_subI rfl rfl (fun _ _ _ _ => by omega) (xa_subI rfl rfl (fun _ _ _ _ => by omega) (xa_subR rfl (xa_sub0))))))) ?_
              exact ih1 (x5 + 1) x4 x3 (by omega) (by omega) (by omega) (pl_tbk c2 hg) (by omega)
      refine hgo.1 14 [9, 24, 82] 9 _ _ _ ?_
      refine And.intro ?_ ?_
      · intro (c1 : 10 ≤ x2)
        show post (some (0, 0, (-2147483648), 2147483647, x1)) M1
        exact k _ _ (by rw [hb, show x2 = 10 by omega, f68, f69, f64, f65, f63, e0]; first | done | rfl) hc
      · intro (c1 : x2 < 10)
        show Q 24 [(5, (0, 0, 0, 0, 0)), (4, (0, 0, (-1), (-1), (-1))), (3, (0, 0, 10, 10, 10)), (2, (0, 0, 0, 10, x2)), (1, (0, 0, (-2147483648), 2147483647, x1)), (0, (2, 60, 0, 0, 0))] [] M1
        refine hgo.2.1 24 _ [(5, (0, 0, 0, 14, 0)), (4, (0, 0, (-1), 9, (-1))), (3, (0, 0, 0, 10, 10)), (2, (0, 0, 0, 9, x2)), (1, (0, 0, (-2147483648), 2147483647, x1)), (0, (2, 60, 0, 0, 0))] _ _ (xa_subI rfl rfl (fun _ _ _ _ => by omega) (xa_subI rfl rfl (fun _ _ _ _ => by omega) (xa_subI rfl rfl (fun _ _ _ _ => by omega) (xa_subI rfl rfl (fun _ _ _ _ => by omega) (xa_subI rfl rfl (fun _ _ _ _ => by omega) (xa_subR rfl (xa_sub0))))))) ?_
        exact loop1 (by omega) 15 0 (-1) 10 (by omega) (by omega) (by omega) pl_tb0 (by omega)
  refine hgo.1 12 [9, 24, 82] 0 _ _ _ ?_
  show Q 9 [(2, (0, 0, 0, 0, 0)), (1, (0, 0, 0, 0, 0)), (0, (2, 60, 0, 0, 0))] [] (xa_up M 60 21 0)
  refine hgo.2.1 9 _ [(2, (0, 0, 0, 10, 0)), (1, (0, 0, (-2147483648), 2147483647, 0)), (0, (2, 60, 0, 0, 0))] _ _ (xa_subI rfl rfl (fun _ _ _ _ => by omega) (xa_subI rfl rfl (fun _ _ _ _ => by omega) (xa_subR rfl (xa_sub0)))) ?_
  exact loop0 (xa_up M 60 21 0) (xm_cor_f (by omega) xm_cor_r) 11 0 0 (by omega) rfl (by omega)
