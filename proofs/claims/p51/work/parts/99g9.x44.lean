-- room, on both sides (made by wip/u/mkrm.py)
set_option maxRecDepth 20000
/-- the square of how far two axles stand apart -/
def pl_sq (xs ys : Int → Int) (a b : Int) : Int := (xs a - xs b) * (xs a - xs b) + (ys a - ys b) * (ys a - ys b)
theorem pl_sq1 {x : Int} (h1 : -1000 ≤ x) (h2 : x ≤ 1000) : 0 ≤ x * x ∧ x * x ≤ 1000000 := by
  have m1 := xa_mul_ok (p := -1000) (q := 1000) (r := -1000) (s := 1000) (m := x) (n := x) (by omega) (by omega) (by omega) (by omega)
  have e1 : xa_mhi (-1000) 1000 (-1000) 1000 = 1000000 := by decide
  rw [e1] at m1
  exact ⟨xm_sq x, m1.2⟩
theorem pl_sq_r {xs ys : Int → Int} {a b : Int} (hx : ∀ i, 0 ≤ i → i < 10 → -500 ≤ xs i ∧ xs i ≤ 500) (hy : ∀ i, 0 ≤ i → i < 10 → -500 ≤ ys i ∧ ys i ≤ 500) (ha : 0 ≤ a ∧ a ≤ 9) (hb : 0 ≤ b ∧ b ≤ 9) : 0 ≤ pl_sq xs ys a b ∧ pl_sq xs ys a b ≤ 2000000 := by
  have x1 := hx a ha.1 (by omega)
  have x2 := hx b hb.1 (by omega)
  have y1 := hy a ha.1 (by omega)
  have y2 := hy b hb.1 (by omega)
  have s1 := pl_sq1 (x := xs a - xs b) (by omega) (by omega)
  have s2 := pl_sq1 (x := ys a - ys b) (by omega) (by omega)
  unfold pl_sq
  exact ⟨Int.add_nonneg s1.1 s2.1, by have := Int.add_le_add s1.2 s2.2; exact Int.le_trans this (by decide)⟩
/-- a depth between the least and the greatest of an axle -/
def pl_bt (ax dp : Int → Int) (n a e : Int) : Prop := (∃ u, 0 ≤ u ∧ u < n ∧ ax u = a ∧ dp u < e) ∧ ∃ v, 0 ≤ v ∧ v < n ∧ ax v = a ∧ e < dp v
def pl_no (ax : Int → Int) (n a : Int) : Prop := ∀ v, 0 ≤ v → v < n → ¬ ax v = a
def pl_mm (ax dp : Int → Int) (n a lo hi : Int) : Prop := (∀ v, 0 ≤ v → v < n → ax v = a → lo ≤ dp v ∧ dp v ≤ hi) ∧ (∃ u, 0 ≤ u ∧ u < n ∧ ax u = a ∧ dp u = lo) ∧ ∃ v, 0 ≤ v ∧ v < n ∧ ax v = a ∧ dp v = hi
/-- the least and the greatest of the first n; l0, h0 if there are none -/
def pl_tb (ax dp : Int → Int) (n a lo hi l0 h0 : Int) : Prop := (lo = l0 ∧ hi = h0 ∧ pl_no ax n a) ∨ pl_mm ax dp n a lo hi
theorem pl_tb0 {ax dp : Int → Int} {a l0 h0 : Int} : pl_tb ax dp 0 a l0 h0 l0 h0 := Or.inl ⟨rfl, rfl, fun v v0 v1 => by omega⟩
theorem pl_tbk {ax dp : Int → Int} {n a lo hi l0 h0 : Int} (hn : ¬ ax n = a) (h : pl_tb ax dp n a lo hi l0 h0) : pl_tb ax dp (n + 1) a lo hi l0 h0 := by
  rcases h with ⟨h1, h2, h3⟩ | ⟨h1, ⟨u, u0, u1, u2⟩, v, v0, v1, v2⟩
  · refine Or.inl ⟨h1, h2, fun w w0 w1 => ?_⟩
    by_cases e : w = n
    · rw [e]
      exact hn
    · exact h3 w w0 (by omega)
  · refine Or.inr ⟨fun w w0 w1 hw => ?_, ⟨u, u0, by omega, u2⟩, v, v0, by omega, v2⟩
    by_cases e : w = n
    · rw [e] at hw
      exact absurd hw hn
    · exact h1 w w0 (by omega) hw
theorem pl_step {ax dp : Int → Int} {n a lo hi l0 h0 lo' hi' : Int} (hd : ∀ v, 0 ≤ v → v < n → 0 ≤ dp v ∧ dp v ≤ 9) (n0 : 0 ≤ n) (hn : ax n = a) (c1 : lo = l0 → hi = h0 → lo' = dp n ∧ hi' = dp n) (c2 : 0 ≤ lo → lo ≤ 9 → 0 ≤ hi → hi ≤ 9 → (lo' ≤ lo ∧ lo' ≤ dp n ∧ (lo' = lo ∨ lo' = dp n)) ∧ hi ≤ hi' ∧ dp n ≤ hi' ∧ (hi' = hi ∨ hi' = dp n)) (h : pl_tb ax dp n a lo hi l0 h0) : pl_tb ax dp (n + 1) a lo' hi' l0 h0 := by
  rcases h with ⟨h1, h2, h3⟩ | ⟨h1, ⟨u, u0, u1, u2, u3⟩, v, v0, v1, v2, v3⟩
  · obtain ⟨e1, e2⟩ := c1 h1 h2
    refine Or.inr ⟨fun w w0 w1 hw => ?_, ⟨n, n0, by omega, hn, e1.symm⟩, n, n0, by omega, hn, e2.symm⟩
    by_cases e : w = n
    · rw [e]
      omega
    · exact absurd hw (h3 w w0 (by omega))
  · have d1 := hd u u0 u1
    have d2 := hd v v0 v1
    obtain ⟨⟨a1, a2, a3⟩, b1, b2, b3⟩ := c2 (by omega) (by omega) (by omega) (by omega)
    refine Or.inr ⟨fun w w0 w1 hw => ?_, ?_, ?_⟩
    · by_cases e : w = n
      · rw [e]
        omega
      · have := h1 w w0 (by omega) hw
        omega
    · rcases a3 with e | e
      · exact ⟨u, u0, by omega, u2, by omega⟩
      · exact ⟨n, n0, by omega, hn, e.symm⟩
    · rcases b3 with e | e
      · exact ⟨v, v0, by omega, v2, by omega⟩
      · exact ⟨n, n0, by omega, hn, e.symm⟩
theorem pl_tb_bt {ax dp : Int → Int} {n a lo hi l0 h0 e : Int} (hne : ¬ (l0 < e ∧ e < h0)) (h : pl_tb ax dp n a lo hi l0 h0) : (lo < e ∧ e < hi) ↔ pl_bt ax dp n a e := by
  rcases h with ⟨h1, h2, h3⟩ | ⟨h1, ⟨u, u0, u1, u2, u3⟩, v, v0, v1, v2, v3⟩
  · rw [h1, h2]
    exact ⟨fun h => absurd h hne, fun ⟨⟨u, u0, u1, u2, _⟩, _⟩ => absurd u2 (h3 u u0 u1)⟩
  · refine ⟨fun h => ⟨⟨u, u0, u1, u2, by omega⟩, v, v0, v1, v2, by omega⟩, fun ⟨⟨u', p0, p1, p2, p3⟩, v', q0, q1, q2, q3⟩ => ?_⟩
    have a1 := h1 u' p0 p1 p2
    have a2 := h1 v' q0 q1 q2
    omega
/-- the axle a goes through the wheel w -/
def pl_th (xs ys ax dp tk : Int → Int) (n a w : Int) : Prop := ¬ ax w = a ∧ pl_bt ax dp n a (dp w) ∧ pl_sq xs ys a (ax w) < tk w * tk w
def pl_pr (xs ys ax dp tk : Int → Int) (n a : Int) : Prop := ∃ w, 0 ≤ w ∧ w < n ∧ pl_th xs ys ax dp tk n a w
theorem pl_orr {a b : Int} : xa_ib 4 (xa_ib 4 a b) b = xa_ib 4 a b := by
  show (Int32.ofInt (Int32.ofInt a ||| Int32.ofInt b).toInt ||| Int32.ofInt b).toInt = (Int32.ofInt a ||| Int32.ofInt b).toInt
  rw [Int32.ofInt_toInt, Int32.or_assoc, Int32.or_self]
/-- a bit, if it holds for one of the first n -/
def pl_b1 (is : Int → Prop) (n base e x : Int) : Prop := (x = base ∧ ∀ w, 0 ≤ w → w < n → ¬ is w) ∨ (x = xa_ib 4 base e ∧ ∃ w, 0 ≤ w ∧ w < n ∧ is w)
theorem pl_b10 {is : Int → Prop} {base e : Int} : pl_b1 is 0 base e base := Or.inl ⟨rfl, fun w w0 w1 => by omega⟩
theorem pl_b1n {is : Int → Prop} {n base e x : Int} (hn : ¬ is n) (h : pl_b1 is n base e x) : pl_b1 is (n + 1) base e x := by
  rcases h with ⟨h1, h2⟩ | ⟨h1, w, w0, w1, h2⟩
  · refine Or.inl ⟨h1, fun w w0 w1 => ?_⟩
    by_cases c : w = n
    · rw [c]
      exact hn
    · exact h2 w w0 (by omega)
  · exact Or.inr ⟨h1, w, w0, by omega, h2⟩
theorem pl_b1y {is : Int → Prop} {n base e x : Int} (n0 : 0 ≤ n) (hn : is n) (h : pl_b1 is n base e x) : pl_b1 is (n + 1) base e (xa_ib 4 x e) := by
  refine Or.inr ⟨?_, n, n0, by omega, hn⟩
  rcases h with ⟨h1, -⟩ | ⟨h1, -⟩
  · rw [h1]
  · rw [h1, pl_orr]
theorem pl_th_e {xs ys ax dp tk xs' ys' ax' dp' tk' : Int → Int} {n : Int} (hn : n ≤ 14) (ex : ∀ i, 0 ≤ i → i < 10 → xs i = xs' i) (ey : ∀ i, 0 ≤ i → i < 10 → ys i = ys' i) (ea : ∀ i, 0 ≤ i → i < 14 → ax i = ax' i) (ed : ∀ i, 0 ≤ i → i < 14 → dp i = dp' i) (et : ∀ i, 0 ≤ i → i < 14 → tk i = tk' i) (hr : ∀ i, 0 ≤ i → i < 14 → 0 ≤ ax' i ∧ ax' i ≤ 9) {a : Int} (ha : 0 ≤ a ∧ a ≤ 9) : pl_pr xs ys ax dp tk n a → pl_pr xs' ys' ax' dp' tk' n a := by
  rintro ⟨w, w0, w1, h1, ⟨⟨u, u0, u1, u2, u3⟩, v, v0, v1, v2, v3⟩, h3⟩
  have r := hr w w0 (by omega)
  refine ⟨w, w0, w1, ?_, ⟨⟨u, u0, u1, ?_, ?_⟩, v, v0, v1, ?_, ?_⟩, ?_⟩
  · rw [← ea w w0 (by omega)]
    exact h1
  · rw [← ea u u0 (by omega)]
    exact u2
  · rw [← ed u u0 (by omega), ← ed w w0 (by omega)]
    exact u3
  · rw [← ea v v0 (by omega)]
    exact v2
  · rw [← ed v v0 (by omega), ← ed w w0 (by omega)]
    exact v3
  · unfold pl_sq at h3 ⊢
    rw [ea w w0 (by omega), et w w0 (by omega), ex a ha.1 (by omega), ey a ha.1 (by omega), ex (ax' w) r.1 (by omega), ey (ax' w) r.1 (by omega)] at h3
    exact h3
/-- two wheels mesh -/
def pl_me (o p : Int → Int) (m a b : Int) : Prop := ∃ k, 0 ≤ k ∧ k < m ∧ (o k = a ∧ p k = b ∨ o k = b ∧ p k = a)
theorem pl_mi (M : xa_M) (v w : Int) : (lm_mi M v w = 0 ∨ lm_mi M v w = 1) ∧ (lm_mi M v w = 1 ↔ pl_me (M 7) (M 8) (M 1 10) v w) := by
  have e : (∃ k, 0 ≤ k ∧ k < M 1 10 ∧ lm_m1 M v w k) ↔ pl_me (M 7) (M 8) (M 1 10) v w := by
    refine ⟨fun ⟨k, k0, k1, h⟩ => ⟨k, k0, k1, ?_⟩, fun ⟨k, k0, k1, h⟩ => ⟨k, k0, k1, ?_⟩⟩
    · rcases h with h | h
      · exact Or.inl h
      · exact Or.inr ⟨h.2, h.1⟩
    · rcases h with h | h
      · exact Or.inl h
      · exact Or.inr ⟨h.2, h.1⟩
  refine ⟨lm_if01 _, ?_⟩
  unfold lm_mi
  by_cases c : ∃ k, 0 ≤ k ∧ k < M 1 10 ∧ lm_m1 M v w k
  · rw [lm_if1 c]
    exact ⟨fun _ => e.mp c, fun _ => rfl⟩
  · rw [lm_if0 c]
    exact ⟨fun h => by omega, fun h => absurd (e.mpr h) c⟩
/-- wheels of unlike axles that are nearer than both halves together -/
def pl_cr (xs ys ax tk o p : Int → Int) (m v w : Int) : Prop := ¬ ax v = ax w ∧ ¬ pl_me o p m v w ∧ pl_sq xs ys (ax v) (ax w) < (tk v + tk w) * (tk v + tk w)
def pl_sk (dp o p : Int → Int) (m : Int) : Prop := ¬ dp (o m) = dp (p m)
def pl_of (xs ys ax tk o p : Int → Int) (sl m : Int) : Prop := (tk (o m) + tk (p m) + sl) * (tk (o m) + tk (p m) + sl) < pl_sq xs ys (ax (o m)) (ax (p m)) ∨ (0 < tk (o m) + tk (p m) - sl ∧ pl_sq xs ys (ax (o m)) (ax (p m)) < (tk (o m) + tk (p m) - sl) * (tk (o m) + tk (p m) - sl))
/-- how many of the first -/
noncomputable def pl_ct (P : Int → Prop) : Nat → Int
  | 0 => 0
  | k + 1 => @ite _ (P (k : Int)) (Classical.propDecidable _) (pl_ct P k + 1) (pl_ct P k)
theorem pl_ct1 {P : Int → Prop} {k : Nat} (h : P (k : Int)) : pl_ct P (k + 1) = pl_ct P k + 1 := by
  rw [pl_ct]
  exact if_pos h
theorem pl_ct0 {P : Int → Prop} {k : Nat} (h : ¬ P (k : Int)) : pl_ct P (k + 1) = pl_ct P k := by
  rw [pl_ct]
  exact if_neg h
theorem pl_ct_e {P P' : Int → Prop} : ∀ n : Nat, (∀ k : Nat, k < n → (P (k : Int) ↔ P' (k : Int))) → pl_ct P n = pl_ct P' n := by
  intro n
  induction n with
  | zero => intro _; rfl
  | succ k ih =>
    intro e
    have ih := ih (fun j hj => e j (by omega))
    by_cases h : P (k : Int)
    · rw [pl_ct1 h, pl_ct1 ((e k (by omega)).mp h), ih]
    · rw [pl_ct0 h, pl_ct0 (fun h' => h ((e k (by omega)).mpr h')), ih]
theorem pl_ct_r {P : Int → Prop} : ∀ n : Nat, 0 ≤ pl_ct P n ∧ pl_ct P n ≤ (n : Int) := by
  intro n
  induction n with
  | zero => exact ⟨Int.le_refl _, Int.le_refl _⟩
  | succ k ih =>
    by_cases h : P (k : Int)
    · rw [pl_ct1 h]
      omega
    · rw [pl_ct0 h]
      omega
theorem pl_ct_z {P : Int → Prop} : ∀ n : Nat, (∀ k : Nat, k < n → ¬ P (k : Int)) → pl_ct P n = 0 := by
  intro n
  induction n with
  | zero => intro _; rfl
  | succ k ih =>
    intro e
    rw [pl_ct0 (e k (by omega)), ih (fun j hj => e j (by omega))]
/-- the sum of the first -/
def pl_sm (f : Int → Int) : Nat → Int
  | 0 => 0
  | k + 1 => pl_sm f k + f (k : Int)
theorem pl_sm1 {f : Int → Int} {k : Nat} : pl_sm f (k + 1) = pl_sm f k + f (k : Int) := rfl
theorem pl_sm_e {f g : Int → Int} : ∀ n : Nat, (∀ k : Nat, k < n → f (k : Int) = g (k : Int)) → pl_sm f n = pl_sm g n := by
  intro n
  induction n with
  | zero => intro _; rfl
  | succ k ih =>
    intro e
    rw [pl_sm1, pl_sm1, ih (fun j hj => e j (by omega)), e k (by omega)]
theorem pl_sm_r {f : Int → Int} (hf : ∀ v : Int, 0 ≤ f v ∧ f v ≤ 14) : ∀ n : Nat, 0 ≤ pl_sm f n ∧ pl_sm f n ≤ 14 * (n : Int) := by
  intro n
  induction n with
  | zero => exact ⟨Int.le_refl _, Int.le_refl _⟩
  | succ k ih =>
    rw [pl_sm1]
    have := hf (k : Int)
    omega
/-- of the wheels behind v those for which it holds -/
noncomputable def pl_nv (P : Int → Int → Prop) (n : Nat) (v : Int) : Int := pl_ct (fun w => v < w ∧ P v w) n
theorem pl_nv_r {P : Int → Int → Prop} {n : Nat} (hn : n ≤ 14) (v : Int) : 0 ≤ pl_nv P n v ∧ pl_nv P n v ≤ 14 := by
  have := pl_ct_r (P := fun w => v < w ∧ P v w) n
  unfold pl_nv
  omega
/-- pairs of the first n -/
noncomputable def pl_pa (P : Int → Int → Prop) (n : Nat) : Int := pl_sm (pl_nv P n) n
theorem pl_pa_e {P P' : Int → Int → Prop} {n : Nat} (e : ∀ v w : Nat, v < n → w < n → (P (v : Int) (w : Int) ↔ P' (v : Int) (w : Int))) : pl_pa P n = pl_pa P' n := by
  unfold pl_pa
  refine pl_sm_e n (fun v hv => ?_)
  unfold pl_nv
  exact pl_ct_e n (fun w hw => ⟨fun h => ⟨h.1, (e v w hv hw).mp h.2⟩, fun h => ⟨h.1, (e v w hv hw).mpr h.2⟩⟩)
/-- two wheels of one depth that are too near; of one depth on one axle -/
def pl_P1 (xs ys ax dp tk o p : Int → Int) (m v w : Int) : Prop := dp v = dp w ∧ pl_cr xs ys ax tk o p m v w
def pl_P2 (ax dp : Int → Int) (v w : Int) : Prop := dp v = dp w ∧ ax v = ax w
/-- all that is wrong -/
noncomputable def pl_all (xs ys ax dp tk o p : Int → Int) (n m sl : Int) : Int := pl_pa (pl_P1 xs ys ax dp tk o p m) n.toNat + pl_ct (pl_sk dp o p) m.toNat + pl_ct (pl_of xs ys ax tk o p sl) m.toNat + pl_pa (pl_P2 ax dp) n.toNat
/-- only the row has changed -/
def pl_K (N M : xa_M) : Prop := ∀ (q : Nat) (j : Int), ¬ q = 48 → ¬ q = 49 → M q j = N q j
theorem pl_Ke {N M : xa_M} (h : pl_K N M) (q : Nat) (h1 : ¬ q = 48) (h2 : ¬ q = 49) : M q = N q := funext (fun j => h q j h1 h2)
def pl_F (M : xa_M) : Prop := (0 ≤ M 1 9 ∧ M 1 9 ≤ 14) ∧ (0 ≤ M 1 10 ∧ M 1 10 ≤ 16) ∧ (∀ k, 0 ≤ k → k < M 1 10 → (0 ≤ M 7 k ∧ M 7 k < 14) ∧ (0 ≤ M 8 k ∧ M 8 k < 14)) ∧ (∀ i, 0 ≤ i → i < 10 → -500 ≤ M 9 i ∧ M 9 i ≤ 500) ∧ (∀ i, 0 ≤ i → i < 10 → -500 ≤ M 10 i ∧ M 10 i ≤ 500) ∧ (∀ i, 0 ≤ i → i < 14 → 0 ≤ M 5 i ∧ M 5 i ≤ 9) ∧ (∀ i, 0 ≤ i → i < 14 → 0 ≤ M 6 i ∧ M 6 i ≤ 9) ∧ ∀ i, 0 ≤ i → i < 14 → 0 ≤ M 4 i ∧ M 4 i ≤ 400
theorem pl_F_k {N M : xa_M} (h : pl_K N M) (hF : pl_F N) : pl_F M := by
  unfold pl_F at hF ⊢
  rw [pl_Ke h 1 (by decide) (by decide), pl_Ke h 4 (by decide) (by decide), pl_Ke h 5 (by decide) (by decide), pl_Ke h 6 (by decide) (by decide), pl_Ke h 7 (by decide) (by decide), pl_Ke h 8 (by decide) (by decide), pl_Ke h 9 (by decide) (by decide), pl_Ke h 10 (by decide) (by decide)]
  exact hF
theorem cx_23_9 {b : Bool} {A : Nat → Nat} {h0 : g_H} {d : Nat} {M : xa_M} {post : Option xa_V → xa_M → Prop} {l1 u1 : Int} {i : Int} (h1 : 0 ≤ i ∧ i < 10) (k1 : post (some (0, 0, (-2147483648), 2147483647, M 9 i)) M) : xa_C (xl_I b) A h0 (d + 1) 23 [(2, 9, 0, 0, 0), (0, 0, l1, u1, i)] M post := by
  refine xa_C_arg [(2, 9, 0, 0, 0), (0, 0, (-2147483648), 2147483647, i)] (xa_svR (xa_svI (fun _ _ _ _ => by omega) xa_sv0)) ?_
  refine xa_meth (Q0 := (2, 1, false, 0, 0, 11)) (by decide +kernel) ⟨rfl, rfl⟩ (full := s_c_23) rfl rfl ?_
  intro hM hv Q hgo
  refine hgo.1 15 [] 0 _ _ _ ?_
  refine And.intro ?_ ?_
  · intro (c1 : i < 0)
    show post (some (0, 0, 0, 0, 0)) M
    exact absurd h1 (by omega)
  · intro (c1 : 0 ≤ i)
    refine And.intro ?_ ?_
    · intro (c2 : 10 ≤ i)
      show post (some (0, 0, 0, 0, 0)) M
      exact absurd h1 (by omega)
    · intro (c2 : i < 10)
      refine And.intro (show 0 ≤ i ∧ i < 10 by omega) ?_
      show post (some (0, 0, (-2147483648), 2147483647, M 9 i)) M
      exact k1
theorem cx_23_10 {b : Bool} {A : Nat → Nat} {h0 : g_H} {d : Nat} {M : xa_M} {post : Option xa_V → xa_M → Prop} {l1 u1 : Int} {i : Int} (h1 : 0 ≤ i ∧ i < 10) (k1 : post (some (0, 0, (-2147483648), 2147483647, M 10 i)) M) : xa_C (xl_I b) A h0 (d + 1) 23 [(2, 10, 0, 0, 0), (0, 0, l1, u1, i)] M post := by
  refine xa_C_arg [(2, 10, 0, 0, 0), (0, 0, (-2147483648), 2147483647, i)] (xa_svR (xa_svI (fun _ _ _ _ => by omega) xa_sv0)) ?_
  refine xa_meth (Q0 := (2, 1, false, 0, 0, 11)) (by decide +kernel) ⟨rfl, rfl⟩ (full := s_c_23) rfl rfl ?_
  intro hM hv Q hgo
  refine hgo.1 15 [] 0 _ _ _ ?_
  refine And.intro ?_ ?_
  · intro (c1 : i < 0)
    show post (some (0, 0, 0, 0, 0)) M
    exact absurd h1 (by omega)
  · intro (c1 : 0 ≤ i)
    refine And.intro ?_ ?_
    · intro (c2 : 10 ≤ i)
      show post (some (0, 0, 0, 0, 0)) M
      exact absurd h1 (by omega)
    · intro (c2 : i < 10)
      refine And.intro (show 0 ≤ i ∧ i < 10 by omega) ?_
      show post (some (0, 0, (-2147483648), 2147483647, M 10 i)) M
      exact k1
theorem cx_144p {b : Bool} {A : Nat → Nat} {h0 : g_H} {d : Nat} {M : xa_M} {post : Option xa_V → xa_M → Prop} {l1 u1 l2 u2 : Int} {a c : Int} (h1 : 0 ≤ a ∧ a ≤ 9) (h2 : 0 ≤ c ∧ c ≤ 9) (hx : ∀ i, 0 ≤ i → i < 10 → -500 ≤ M 9 i ∧ M 9 i ≤ 500) (hy : ∀ i, 0 ≤ i → i < 10 → -500 ≤ M 10 i ∧ M 10 i ≤ 500) (k : (0 ≤ pl_sq (M 9) (M 10) a c ∧ pl_sq (M 9) (M 10) a c ≤ 2000000) → post (some (1, 0, 0, 2000000, pl_sq (M 9) (M 10) a c)) M) : xa_C (xl_I b) A h0 (d + 2) 144 [(2, 1, 0, 0, 0), (0, 0, l1, u1, a), (0, 0, l2, u2, c)] M post := by
  refine xa_C_wk ?_
  refine xa_C_arg [(2, 1, 0, 0, 0), (0, 0, 0, 9, a), (0, 0, 0, 9, c)] (xa_svR (xa_svI (fun _ _ _ _ => by omega) (xa_svI (fun _ _ _ _ => by omega) (xa_sv0)))) ?_
  refine xa_meth (Q0 := (7, 3, false, 0, 0, 1)) (by decide +kernel) ⟨rfl, rfl⟩ (full := s_c_144) rfl rfl ?_
  intro hM hv Q hgo
  refine hgo.1 34 [] 0 _ _ _ ?_
  show xa_C (xl_I b) A h0 _ 23 [(2, 9, 0, 0, 0), (0, 0, 0, 9, a)] M _
  refine cx_23_9 (show 0 ≤ a ∧ a < 10 by omega) ?_
  show xa_C (xl_I b) A h0 _ 23 [(2, 9, 0, 0, 0), (0, 0, 0, 9, c)] M _
  refine cx_23_9 (show 0 ≤ c ∧ c < 10 by omega) ?_
  show xa_C (xl_I b) A h0 _ 23 [(2, 10, 0, 0, 0), (0, 0, 0, 9, a)] M _
  refine cx_23_10 (show 0 ≤ a ∧ a < 10 by omega) ?_
  show xa_C (xl_I b) A h0 _ 23 [(2, 10, 0, 0, 0), (0, 0, 0, 9, c)] M _
  refine cx_23_10 (show 0 ≤ c ∧ c < 10 by omega) ?_
  show xa_wk post (some (1, 0, (-9223372036854775808), 9223372036854775807, xa_w64 (((xa_w32 ((M 9 a) - (M 9 c))) * (xa_w32 ((M 9 a) - (M 9 c)))) + ((xa_w32 ((M 10 a) - (M 10 c))) * (xa_w32 ((M 10 a) - (M 10 c))))))) M
  have x1 := hx a (by omega) (by omega)
  have x2 := hx c (by omega) (by omega)
  have y1 := hy a (by omega) (by omega)
  have y2 := hy c (by omega) (by omega)
  have e1 : xa_w32 ((M 9 a) - (M 9 c)) = M 9 a - M 9 c := xa_w32_id (by omega) (by omega)
  have e2 : xa_w32 ((M 10 a) - (M 10 c)) = M 10 a - M 10 c := xa_w32_id (by omega) (by omega)
  have hq := pl_sq_r hx hy h1 h2
  have e3 : xa_w64 (((xa_w32 ((M 9 a) - (M 9 c))) * (xa_w32 ((M 9 a) - (M 9 c)))) + ((xa_w32 ((M 10 a) - (M 10 c))) * (xa_w32 ((M 10 a) - (M 10 c))))) = pl_sq (M 9) (M 10) a c := by
    rw [e1, e2]
    exact xa_w64_id (n := pl_sq (M 9) (M 10) a c) (by omega) (by omega)
  exact xa_wkL (pl_sq (M 9) (M 10) a c) e3 (fun _ _ => hq) (k hq)
theorem cx_143p {b : Bool} {A : Nat → Nat} {h0 : g_H} {d : Nat} {M : xa_M} {post : Option xa_V → xa_M → Prop} {l1 u1 l2 u2 : Int} {v w : Int} (h1 : 0 ≤ v ∧ v ≤ 13) (h2 : 0 ≤ w ∧ w ≤ 13) (hF : pl_F M) (k1 : pl_cr (M 9) (M 10) (M 5) (M 4) (M 7) (M 8) (M 1 10) v w → post (some (0, 0, 1, 1, 1)) M) (k0 : ¬ pl_cr (M 9) (M 10) (M 5) (M 4) (M 7) (M 8) (M 1 10) v w → post (some (0, 0, 0, 0, 0)) M) : xa_C (xl_I b) A h0 (d + 5) 143 [(2, 1, 0, 0, 0), (0, 0, l1, u1, v), (0, 0, l2, u2, w)] M post := by
  refine xa_C_arg [(2, 1, 0, 0, 0), (0, 0, 0, 13, v), (0, 0, 0, 13, w)] (xa_svR (xa_svI (fun _ _ _ _ => by omega) (xa_svI (fun _ _ _ _ => by omega) (xa_sv0)))) ?_
  refine xa_meth (Q0 := (5, 2, false, 0, 0, 1)) (by decide +kernel) ⟨rfl, rfl⟩ (full := s_c_143) rfl rfl ?_
  intro hM hv Q hgo
  obtain ⟨hn, hm, hr, hx, hy, ha, hd, ht⟩ := hF
  obtain ⟨z0, z1⟩ := pl_mi M v w
  have tv := ht v h1.1 (by omega)
  have tw := ht w h2.1 (by omega)
  have av := ha v h1.1 (by omega)
  have aw := ha w h2.1 (by omega)
  have e1 : xa_w32 ((M 4 v) + (M 4 w)) = M 4 v + M 4 w := xa_w32_id (by omega) (by omega)
  refine hgo.1 40 [] 0 _ _ _ ?_
  show xa_C (xl_I b) A h0 _ 37 [(2, 1, 0, 0, 0), (0, 0, 0, 13, v)] M _
  refine cx_37_1 (show 0 ≤ v ∧ v < 14 by omega) ?_
  show xa_C (xl_I b) A h0 _ 37 [(2, 1, 0, 0, 0), (0, 0, 0, 13, w)] M _
  refine cx_37_1 (show 0 ≤ w ∧ w < 14 by omega) ?_
  refine And.intro ?_ ?_
  · intro (c1 : (M 5 v) = (M 5 w))
    show post (some (0, 0, 0, 0, 0)) M
    exact k0 (fun ⟨y1, y2, y3⟩ => by first | omega | exact y2 (z1.mp (by omega)))
  · intro (c1 : ¬ (M 5 v) = (M 5 w))
    show xa_C (xl_I b) A h0 _ 38 [(2, 1, 0, 0, 0), (0, 0, 0, 13, v), (0, 0, 0, 13, w)] M _
    refine cx_38_1 hm hr (show 0 ≤ w ∧ w < 14 by omega) ?_
    refine And.intro ?_ ?_
    · intro (c2 : (lm_mi M v w) = 0)
      show xa_C (xl_I b) A h0 _ 28 [(2, 1, 0, 0, 0), (0, 0, 0, 13, v)] M _
      refine cx_28_1 (show 0 ≤ v ∧ v < 14 by omega) ?_
      show xa_C (xl_I b) A h0 _ 28 [(2, 1, 0, 0, 0), (0, 0, 0, 13, w)] M _
      refine cx_28_1 (show 0 ≤ w ∧ w < 14 by omega) ?_
      show xa_C (xl_I b) A h0 _ 37 [(2, 1, 0, 0, 0), (0, 0, 0, 13, v)] M _
      refine cx_37_1 (show 0 ≤ v ∧ v < 14 by omega) ?_
      show xa_C (xl_I b) A h0 _ 37 [(2, 1, 0, 0, 0), (0, 0, 0, 13, w)] M _
      refine cx_37_1 (show 0 ≤ w ∧ w < 14 by omega) ?_
      show xa_C (xl_I b) A h0 _ 144 [(2, 1, 0, 0, 0), (0, 0, (-2147483648), 2147483647, M 5 v), (0, 0, (-2147483648), 2147483647, M 5 w)] M _
      refine cx_144p (show 0 ≤ (M 5 v) ∧ (M 5 v) ≤ 9 by omega) (show 0 ≤ (M 5 w) ∧ (M 5 w) ≤ 9 by omega) hx hy ?_
      intro (i3 : 0 ≤ pl_sq (M 9) (M 10) (M 5 v) (M 5 w) ∧ pl_sq (M 9) (M 10) (M 5 v) (M 5 w) ≤ 2000000)
      refine And.intro ?_ ?_
      · intro (c4 : ((xa_w32 ((M 4 v) + (M 4 w))) * (xa_w32 ((M 4 v) + (M 4 w)))) ≤ (pl_sq (M 9) (M 10) (M 5 v) (M 5 w)))
        show post (some (0, 0, 0, 0, 0)) M
        rw [e1] at c4
        exact k0 (fun ⟨y1, y2, y3⟩ => by first | omega | exact y2 (z1.mp (by omega)))
      · intro (c4 : (pl_sq (M 9) (M 10) (M 5 v) (M 5 w)) < ((xa_w32 ((M 4 v) + (M 4 w))) * (xa_w32 ((M 4 v) + (M 4 w)))))
        show post (some (0, 0, 1, 1, 1)) M
        rw [e1] at c4
        exact k1 ⟨by omega, fun h => by have := z1.mpr h; omega, by omega⟩
    · intro (c2 : ¬ (lm_mi M v w) = 0)
      show post (some (0, 0, 0, 0, 0)) M
      exact k0 (fun ⟨y1, y2, y3⟩ => by first | omega | exact y2 (z1.mp (by omega)))
theorem cx_146p {b : Bool} {A : Nat → Nat} {h0 : g_H} {d : Nat} {M : xa_M} {post : Option xa_V → xa_M → Prop} {l1 u1 : Int} {m : Int} (h1 : 0 ≤ m ∧ m < M 1 10) (hF : pl_F M) (h16 : M 1 10 ≤ 16) (k1 : (pl_sk (M 6) (M 7) (M 8)) m → post (some (0, 0, 1, 1, 1)) M) (k0 : ¬ (pl_sk (M 6) (M 7) (M 8)) m → post (some (0, 0, 0, 0, 0)) M) : xa_C (xl_I b) A h0 (d + 3) 146 [(2, 1, 0, 0, 0), (0, 0, l1, u1, m)] M post := by
  refine xa_C_arg [(2, 1, 0, 0, 0), (0, 0, 0, 15, m)] (xa_svR (xa_svI (fun _ _ _ _ => by omega) (xa_sv0))) ?_
  refine xa_meth (Q0 := (2, 2, false, 0, 0, 4)) (by decide +kernel) ⟨rfl, rfl⟩ (full := s_c_146) rfl rfl ?_
  intro hM hv Q hgo
  obtain ⟨hn, hm, hr, hx, hy, ha, hd, ht⟩ := hF
  have rm := hr m h1.1 h1.2
  refine hgo.1 18 [] 0 _ _ _ ?_
  show xa_C (xl_I b) A h0 _ 40 [(2, 1, 0, 0, 0), (0, 0, 0, 15, m)] M _
  refine cx_40_1 (show 0 ≤ m ∧ m < 16 by omega) ?_
  show xa_C (xl_I b) A h0 _ 142 [(2, 1, 0, 0, 0), (0, 0, (-2147483648), 2147483647, M 7 m)] M _
  refine cx_142_1 (show 0 ≤ (M 7 m) ∧ (M 7 m) < 14 by omega) ?_
  show xa_C (xl_I b) A h0 _ 41 [(2, 1, 0, 0, 0), (0, 0, 0, 15, m)] M _
  refine cx_41_1 (show 0 ≤ m ∧ m < 16 by omega) ?_
  show xa_C (xl_I b) A h0 _ 142 [(2, 1, 0, 0, 0), (0, 0, (-2147483648), 2147483647, M 8 m)] M _
  refine cx_142_1 (show 0 ≤ (M 8 m) ∧ (M 8 m) < 14 by omega) ?_
  refine And.intro ?_ ?_
  · intro (c1 : (M 6 (M 7 m)) = (M 6 (M 8 m)))
    show post (some (0, 0, 0, 0, 0)) M
    exact k0 (by unfold pl_sk; omega)
  · intro (c1 : ¬ (M 6 (M 7 m)) = (M 6 (M 8 m)))
    show post (some (0, 0, 1, 1, 1)) M
    exact k1 (by unfold pl_sk; omega)
theorem cx_147p {b : Bool} {A : Nat → Nat} {h0 : g_H} {d : Nat} {M : xa_M} {post : Option xa_V → xa_M → Prop} {l1 u1 l2 u2 : Int} {m sl : Int} (h1 : 0 ≤ m ∧ m < M 1 10) (h2 : 0 ≤ sl ∧ sl ≤ 50) (hF : pl_F M) (h16 : M 1 10 ≤ 16) (k1 : (pl_of (M 9) (M 10) (M 5) (M 4) (M 7) (M 8) sl) m → post (some (0, 0, 1, 1, 1)) M) (k0 : ¬ (pl_of (M 9) (M 10) (M 5) (M 4) (M 7) (M 8) sl) m → post (some (0, 0, 0, 0, 0)) M) : xa_C (xl_I b) A h0 (d + 3) 147 [(2, 1, 0, 0, 0), (0, 0, l1, u1, m), (0, 0, l2, u2, sl)] M post := by
  refine xa_C_arg [(2, 1, 0, 0, 0), (0, 0, 0, 15, m), (0, 0, 0, 50, sl)] (xa_svR (xa_svI (fun _ _ _ _ => by omega) (xa_svI (fun _ _ _ _ => by omega) (xa_sv0)))) ?_
  refine xa_meth (Q0 := (11, 2, false, 0, 0, 4)) (by decide +kernel) ⟨rfl, rfl⟩ (full := s_c_147) rfl rfl ?_
  intro hM hv Q hgo
  obtain ⟨hn, hm, hr, hx, hy, ha, hd, ht⟩ := hF
  have rm := hr m h1.1 h1.2
  have t1 := ht (M 7 m) rm.1.1 rm.1.2
  have t2 := ht (M 8 m) rm.2.1 rm.2.2
  have a1 := ha (M 7 m) rm.1.1 rm.1.2
  have a2 := ha (M 8 m) rm.2.1 rm.2.2
  have e1 : xa_w32 ((M 4 (M 7 m)) + (M 4 (M 8 m))) = M 4 (M 7 m) + M 4 (M 8 m) := xa_w32_id (by omega) (by omega)
  have e2 : xa_w32 ((xa_w32 ((M 4 (M 7 m)) + (M 4 (M 8 m)))) + sl) = M 4 (M 7 m) + M 4 (M 8 m) + sl := by
    rw [e1]
    exact xa_w32_id (by omega) (by omega)
  have e3 : (M 4 (M 7 m) + M 4 (M 8 m) + sl) - (2 * sl) = M 4 (M 7 m) + M 4 (M 8 m) - sl := by omega
  refine hgo.1 55 [] 0 _ _ _ ?_
  show xa_C (xl_I b) A h0 _ 40 [(2, 1, 0, 0, 0), (0, 0, 0, 15, m)] M _
  refine cx_40_1 (show 0 ≤ m ∧ m < 16 by omega) ?_
  show xa_C (xl_I b) A h0 _ 41 [(2, 1, 0, 0, 0), (0, 0, 0, 15, m)] M _
  refine cx_41_1 (show 0 ≤ m ∧ m < 16 by omega) ?_
  show xa_C (xl_I b) A h0 _ 37 [(2, 1, 0, 0, 0), (0, 0, (-2147483648), 2147483647, M 7 m)] M _
  refine cx_37_1 (show 0 ≤ (M 7 m) ∧ (M 7 m) < 14 by omega) ?_
  show xa_C (xl_I b) A h0 _ 37 [(2, 1, 0, 0, 0), (0, 0, (-2147483648), 2147483647, M 8 m)] M _
  refine cx_37_1 (show 0 ≤ (M 8 m) ∧ (M 8 m) < 14 by omega) ?_
  show xa_C (xl_I b) A h0 _ 144 [(2, 1, 0, 0, 0), (0, 0, (-2147483648), 2147483647, M 5 (M 7 m)), (0, 0, (-2147483648), 2147483647, M 5 (M 8 m))] M _
  refine cx_144p (show 0 ≤ (M 5 (M 7 m)) ∧ (M 5 (M 7 m)) ≤ 9 by omega) (show 0 ≤ (M 5 (M 8 m)) ∧ (M 5 (M 8 m)) ≤ 9 by omega) hx hy ?_
  intro (i1 : 0 ≤ pl_sq (M 9) (M 10) (M 5 (M 7 m)) (M 5 (M 8 m)) ∧ pl_sq (M 9) (M 10) (M 5 (M 7 m)) (M 5 (M 8 m)) ≤ 2000000)
  show xa_C (xl_I b) A h0 _ 28 [(2, 1, 0, 0, 0), (0, 0, (-2147483648), 2147483647, M 7 m)] M _
  refine cx_28_1 (show 0 ≤ (M 7 m) ∧ (M 7 m) < 14 by omega) ?_
  show xa_C (xl_I b) A h0 _ 28 [(2, 1, 0, 0, 0), (0, 0, (-2147483648), 2147483647, M 8 m)] M _
  refine cx_28_1 (show 0 ≤ (M 8 m) ∧ (M 8 m) < 14 by omega) ?_
  refine And.intro ?_ ?_
  · intro (c2 : ((xa_w32 ((xa_w32 ((M 4 (M 7 m)) + (M 4 (M 8 m)))) + sl)) * (xa_w32 ((xa_w32 ((M 4 (M 7 m)) + (M 4 (M 8 m)))) + sl))) < (pl_sq (M 9) (M 10) (M 5 (M 7 m)) (M 5 (M 8 m))))
    show post (some (0, 0, 1, 1, 1)) M
    rw [e2] at c2
    exact k1 (by unfold pl_of; omega)
  · intro (c2 : (pl_sq (M 9) (M 10) (M 5 (M 7 m)) (M 5 (M 8 m))) ≤ ((xa_w32 ((xa_w32 ((M 4 (M 7 m)) + (M 4 (M 8 m)))) + sl)) * (xa_w32 ((xa_w32 ((M 4 (M 7 m)) + (M 4 (M 8 m)))) + sl))))
    refine And.intro ?_ ?_
    · intro (c3 : ((xa_w32 ((xa_w32 ((M 4 (M 7 m)) + (M 4 (M 8 m)))) + sl)) - (2 * sl)) ≤ 0)
      show post (some (0, 0, 0, 0, 0)) M
      rw [e2] at c2
      rw [e2] at c3
      rw [e3] at c3
      exact k0 (by unfold pl_of; omega)
    · intro (c3 : 0 < ((xa_w32 ((xa_w32 ((M 4 (M 7 m)) + (M 4 (M 8 m)))) + sl)) - (2 * sl)))
      refine And.intro ?_ ?_
      · intro (c4 : (((xa_w32 ((xa_w32 ((M 4 (M 7 m)) + (M 4 (M 8 m)))) + sl)) - (2 * sl)) * ((xa_w32 ((xa_w32 ((M 4 (M 7 m)) + (M 4 (M 8 m)))) + sl)) - (2 * sl))) ≤ (pl_sq (M 9) (M 10) (M 5 (M 7 m)) (M 5 (M 8 m))))
        show post (some (0, 0, 0, 0, 0)) M
        rw [e2] at c2
        rw [e2] at c3
        rw [e3] at c3
        rw [e2] at c4
        rw [e3] at c4
        exact k0 (by unfold pl_of; omega)
      · intro (c4 : (pl_sq (M 9) (M 10) (M 5 (M 7 m)) (M 5 (M 8 m))) < (((xa_w32 ((xa_w32 ((M 4 (M 7 m)) + (M 4 (M 8 m)))) + sl)) - (2 * sl)) * ((xa_w32 ((xa_w32 ((M 4 (M 7 m)) + (M 4 (M 8 m)))) + sl)) - (2 * sl))))
        show post (some (0, 0, 1, 1, 1)) M
        rw [e2] at c2
        rw [e2] at c3
        rw [e3] at c3
        rw [e2] at c4
        rw [e3] at c4
        exact k1 (by unfold pl_of; omega)
theorem cx_60k {b : Bool} {A : Nat → Nat} {h0 : g_H} {d : Nat} {M : xa_M} {post : Option xa_V → xa_M → Prop} {l1 u1 : Int} {x : Int} {N : xa_M} (hK : pl_K N M) (h48 : 0 ≤ M 48 1) (k : ∀ M1 : xa_M, pl_K N M1 → 0 ≤ M1 48 1 → post none M1) : xa_C (xl_I b) A h0 (d + 2) 60 [(2, 48, 0, 0, 0), (1, 0, l1, u1, x)] M post := by
  refine xa_C_arg [(2, 48, 0, 0, 0), (1, 0, (-9223372036854775808), 9223372036854775807, x)] (xa_svR (xa_svL (fun _ _ _ _ => by omega) (xa_sv0))) ?_
  refine xa_meth (Q0 := (3, 0, false, 0, 0, 6)) (by decide +kernel) ⟨rfl, rfl⟩ (full := s_c_60) rfl rfl ?_
  intro hM hv Q hgo
  refine hgo.1 21 [] 0 _ _ _ ?_
  refine And.intro ?_ ?_
  · intro (c1 : 16 ≤ (M 48 1))
    show post none M
    exact k _ (fun q j h1 h2 => by first | exact hK q j h1 h2 | exact (by simp [xa_up, h1, h2]; exact hK q j h1 h2)) (by first | exact h48 | (simp [xa_up]; rw [xa_w32_id (by omega) (by omega)]; omega))
  · intro (c1 : (M 48 1) < 16)
    show xa_C (xl_I b) A h0 _ 48 [(2, 49, 0, 0, 0), (0, 0, (-2147483648), 2147483647, M 48 1), (1, 0, (-9223372036854775808), 9223372036854775807, x)] M _
    refine cx_48_49 (show 0 ≤ (M 48 1) ∧ (M 48 1) < 16 by omega) ?_
    show post none (xa_up (xa_up M 49 (M 48 1) x) 48 1 (xa_w32 ((M 48 1) + 1)))
    exact k _ (fun q j h1 h2 => by first | exact hK q j h1 h2 | exact (by simp [xa_up, h1, h2]; exact hK q j h1 h2)) (by first | exact h48 | (simp [xa_up]; rw [xa_w32_id (by omega) (by omega)]; omega))
theorem cx_148k {b : Bool} {A : Nat → Nat} {h0 : g_H} {d : Nat} {M : xa_M} {post : Option xa_V → xa_M → Prop} {l0 u0 : Int} {x : Int} (h1 : 0 ≤ x ∧ x ≤ 196) (h48 : 0 ≤ M 48 1) (k : ∀ M1 : xa_M, pl_K M M1 → 0 ≤ M1 48 1 → post (some (0, 0, 0, 196, x)) M1) : xa_C (xl_I b) A h0 (d + 3) 148 [(0, 0, l0, u0, x), (2, 48, 0, 0, 0)] M post := by
  refine xa_C_arg [(0, 0, 0, 196, x), (2, 48, 0, 0, 0)] (xa_svI (fun _ _ _ _ => by omega) (xa_svR (xa_sv0))) ?_
  refine xa_meth (Q0 := (2, 1, false, 0, 0, 4)) (by decide +kernel) ⟨rfl, rfl⟩ (full := s_c_148) rfl rfl ?_
  intro hM hv Q hgo
  have hK0 : pl_K M M := fun _ _ _ _ => rfl
  refine hgo.1 10 [] 0 _ _ _ ?_
  show xa_C (xl_I b) A h0 _ 60 [(2, 48, 0, 0, 0), (1, 0, 0, 196, x)] M _
  refine cx_60k (N := M) (by first | assumption | exact hK0) (show 0 ≤ (M 48 1) by omega) ?_
  intro M101 (i1 : pl_K M M101) (i2 : 0 ≤ M101 48 1)
  show post (some (0, 0, 0, 196, x)) M101
  exact k _ i1 i2
theorem cx_148kN {b : Bool} {A : Nat → Nat} {h0 : g_H} {d : Nat} {M : xa_M} {post : Option xa_V → xa_M → Prop} {l0 u0 x : Int} {N : xa_M} (hK : pl_K N M) (h1 : 0 ≤ x ∧ x ≤ 196) (h48 : 0 ≤ M 48 1) (k : ∀ M1 : xa_M, pl_K N M1 → 0 ≤ M1 48 1 → post (some (0, 0, 0, 196, x)) M1) : xa_C (xl_I b) A h0 (d + 3) 148 [(0, 0, l0, u0, x), (2, 48, 0, 0, 0)] M post := by
  exact cx_148k h1 h48 (fun M1 g1 g2 => k M1 (fun q j h1 h2 => (g1 q j h1 h2).trans (hK q j h1 h2)) g2)
theorem cx_145a {b : Bool} {A : Nat → Nat} {h0 : g_H} {d : Nat} {M : xa_M} {post : Option xa_V → xa_M → Prop} {l1 u1 : Int} (hF : pl_F M) (h48 : 0 ≤ M 48 1) (k : ∀ M1 : xa_M, pl_K M M1 → 0 ≤ M1 48 1 → post (some (0, 0, 0, 16, pl_ct (pl_sk (M 6) (M 7) (M 8)) (M 1 10).toNat)) M1) : xa_C (xl_I b) A h0 (d + 4) 145 [(2, 1, 0, 0, 0), (0, 0, l1, u1, (-1)), (2, 48, 0, 0, 0)] M post := by
  refine xa_C_arg [(2, 1, 0, 0, 0), (0, 0, (-1), (-1), (-1)), (2, 48, 0, 0, 0)] (xa_svR (xa_svI (fun _ _ _ _ => by omega) (xa_svR (xa_sv0)))) ?_
  refine xa_meth (Q0 := (6, 1, false, 0, 0, 4)) (by decide +kernel) ⟨rfl, rfl⟩ (full := s_c_145) rfl rfl ?_
  intro hM hv Q hgo
  have hK0 : pl_K M M := fun _ _ _ _ => rfl
  have hm : 0 ≤ M 1 10 ∧ M 1 10 ≤ 16 := hF.2.1
  have loop : ∀ (n : Nat) (i nn f : Int), 0 ≤ i ∧ i ≤ M 1 10 → -1 ≤ f ∧ f ≤ 15 → nn = pl_ct (pl_sk (M 6) (M 7) (M 8)) i.toNat → 16 - i < (n : Int) → Q 8 [(5, (0, 0, 0, 16, i)), (3, (0, 0, 0, 16, nn)), (4, (0, 0, (-1), 15, f)), (0, (2, 1, 0, 0, 0)), (1, (0, 0, (-1), (-1), (-1))), (2, (2, 48, 0, 0, 0))] [] M := by
    intro n
    induction n with
    | zero => intro i nn f i1 f1 hb hms; omega
    | succ n ih =>
      intro i nn f i1 f1 hb hms
      have ei : ((i.toNat : Nat) : Int) = i := Int.toNat_of_nonneg i1.1
      have hr1 := pl_ct_r (P := (pl_sk (M 6) (M 7) (M 8))) i.toNat
      rw [← hb] at hr1
      refine hgo.1 25 [8] 8 _ _ _ ?_
      refine And.intro ?_ ?_
      · intro (c1 : (M 1 10) ≤ i)
        show xa_C (xl_I b) A h0 _ 60 [(2, 48, 0, 0, 0), (1, 0, 0, 16, nn)] M _
        refine cx_60k (N := M) (by first | assumption | exact hK0) (show 0 ≤ (M 48 1) by omega) ?_
        intro M102 (i2 : pl_K M M102) (i3 : 0 ≤ M102 48 1)
        show xa_C (xl_I b) A h0 _ 60 [(2, 48, 0, 0, 0), (1, 0, (-1), 15, f)] M102 _
        refine cx_60k (N := M) (by first | assumption | exact hK0) (show 0 ≤ (M102 48 1) by omega) ?_
        intro M103 (i4 : pl_K M M103) (i5 : 0 ≤ M103 48 1)
        show post (some (0, 0, 0, 16, nn)) M103
        rw [hb, show i = M 1 10 by omega]
        exact k _ i4 i5
      · intro (c1 : i < (M 1 10))
        show xa_C (xl_I b) A h0 _ 146 [(2, 1, 0, 0, 0), (0, 0, 0, 16, i)] M _
        refine cx_146p (show 0 ≤ i ∧ i < M 1 10 by omega) hF hm.2 ?_ ?_
        · intro (i6 : (pl_sk (M 6) (M 7) (M 8)) i)
          refine And.intro ?_ ?_
          · intro (c7 : ¬ nn = 0)
            show Q 8 [(5, (0, 0, 1, 17, i + 1)), (3, (0, 0, 1, 17, nn + 1)), (4, (0, 0, (-1), 15, f)), (0, (2, 1, 0, 0, 0)), (1, (0, 0, (-1), (-1), (-1))), (2, (2, 48, 0, 0, 0))] [] M
            have en : nn + 1 = pl_ct (pl_sk (M 6) (M 7) (M 8)) (i + 1).toNat := by
              rw [show (i + 1).toNat = i.toNat + 1 by omega, pl_ct1 (show (pl_sk (M 6) (M 7) (M 8)) ((i.toNat : Nat) : Int) by rw [ei]; exact i6), ← hb]
            refine hgo.2.1 8 _ [(5, (0, 0, 0, 16, i + 1)), (3, (0, 0, 0, 16, nn + 1)), (4, (0, 0, (-1), 15, f)), (0, (2, 1, 0, 0, 0)), (1, (0, 0, (-1), (-1), (-1))), (2, (2, 48, 0, 0, 0))] _ _ (xa_subI rfl rfl (fun _ _ _ _ => by omega) (xa_subI rfl rfl (fun _ _ _ _ => by omega) (xa_subI rfl rfl (fun _ _ _ _ => by omega) (xa_subR rfl (xa_subI rfl rfl (fun _ _ _ _ => by omega) (xa_subR rfl (xa_sub0))))))) ?_
            exact ih (i + 1) (nn + 1) f (by omega) (by omega) en (by omega)
          · intro (c7 : nn = 0)
            show Q 8 [(5, (0, 0, 1, 17, i + 1)), (3, (0, 0, 1, 17, nn + 1)), (4, (0, 0, 0, 16, i)), (0, (2, 1, 0, 0, 0)), (1, (0, 0, (-1), (-1), (-1))), (2, (2, 48, 0, 0, 0))] [] M
            have en : nn + 1 = pl_ct (pl_sk (M 6) (M 7) (M 8)) (i + 1).toNat := by
              rw [show (i + 1).toNat = i.toNat + 1 by omega, pl_ct1 (show (pl_sk (M 6) (M 7) (M 8)) ((i.toNat : Nat) : Int) by rw [ei]; exact i6), ← hb]
            refine hgo.2.1 8 _ [(5, (0, 0, 0, 16, i + 1)), (3, (0, 0, 0, 16, nn + 1)), (4, (0, 0, (-1), 15, i)), (0, (2, 1, 0, 0, 0)), (1, (0, 0, (-1), (-1), (-1))), (2, (2, 48, 0, 0, 0))] _ _ (xa_subI rfl rfl (fun _ _ _ _ => by omega) (xa_subI rfl rfl (fun _ _ _ _ => by omega) (xa_subI rfl rfl (fun _ _ _ _ => by omega) (xa_subR rfl (xa_subI rfl rfl (fun _ _ _ _ => by omega) (xa_subR rfl (xa_sub0))))))) ?_
            exact ih (i + 1) (nn + 1) i (by omega) (by omega) en (by omega)
        · intro (i8 : ¬ (pl_sk (M 6) (M 7) (M 8)) i)
          show Q 8 [(5, (0, 0, 1, 17, i + 1)), (3, (0, 0, 0, 16, nn)), (4, (0, 0, (-1), 15, f)), (0, (2, 1, 0, 0, 0)), (1, (0, 0, (-1), (-1), (-1))), (2, (2, 48, 0, 0, 0))] [] M
          have en : nn = pl_ct (pl_sk (M 6) (M 7) (M 8)) (i + 1).toNat := by
            rw [show (i + 1).toNat = i.toNat + 1 by omega, pl_ct0 (show ¬ (pl_sk (M 6) (M 7) (M 8)) ((i.toNat : Nat) : Int) by rw [ei]; exact i8), ← hb]
          refine hgo.2.1 8 _ [(5, (0, 0, 0, 16, i + 1)), (3, (0, 0, 0, 16, nn)), (4, (0, 0, (-1), 15, f)), (0, (2, 1, 0, 0, 0)), (1, (0, 0, (-1), (-1), (-1))), (2, (2, 48, 0, 0, 0))] _ _ (xa_subI rfl rfl (fun _ _ _ _ => by omega) (xa_subI rfl rfl (fun _ _ _ _ => by omega) (xa_subI rfl rfl (fun _ _ _ _ => by omega) (xa_subR rfl (xa_subI rfl rfl (fun _ _ _ _ => by omega) (xa_subR rfl (xa_sub0))))))) ?_
          exact ih (i + 1) nn f (by omega) (by omega) en (by omega)
  refine hgo.1 11 [8] 0 _ _ _ ?_
  show Q 8 [(5, (0, 0, 0, 0, 0)), (4, (0, 0, (-1), (-1), (-1))), (3, (0, 0, 0, 0, 0)), (0, (2, 1, 0, 0, 0)), (1, (0, 0, (-1), (-1), (-1))), (2, (2, 48, 0, 0, 0))] [] M
  refine hgo.2.1 8 _ [(5, (0, 0, 0, 16, 0)), (3, (0, 0, 0, 16, 0)), (4, (0, 0, (-1), 15, (-1))), (0, (2, 1, 0, 0, 0)), (1, (0, 0, (-1), (-1), (-1))), (2, (2, 48, 0, 0, 0))] _ _ (xa_subI rfl rfl (fun _ _ _ _ => by omega) (xa_subI rfl rfl (fun _ _ _ _ => by omega) (xa_subI rfl rfl (fun _ _ _ _ => by omega) (xa_subR rfl (xa_subI rfl rfl (fun _ _ _ _ => by omega) (xa_subR rfl (xa_sub0))))))) ?_
  exact loop 17 0 0 (-1) (by omega) (by omega) rfl (by omega)
theorem cx_145aN {b : Bool} {A : Nat → Nat} {h0 : g_H} {d : Nat} {M : xa_M} {post : Option xa_V → xa_M → Prop} {l1 u1 : Int} {N : xa_M} (hK : pl_K N M) (hF : pl_F N) (h48 : 0 ≤ M 48 1) (k : ∀ M1 : xa_M, pl_K N M1 → 0 ≤ M1 48 1 → post (some (0, 0, 0, 16, pl_ct (pl_sk (N 6) (N 7) (N 8)) (N 1 10).toNat)) M1) : xa_C (xl_I b) A h0 (d + 4) 145 [(2, 1, 0, 0, 0), (0, 0, l1, u1, -1), (2, 48, 0, 0, 0)] M post := by
  refine cx_145a (pl_F_k hK hF) h48 (fun M1 g1 g2 => ?_)
  have g := k M1 (fun q j h1 h2 => (g1 q j h1 h2).trans (hK q j h1 h2)) g2
  rw [pl_Ke hK 6 (by decide) (by decide), pl_Ke hK 7 (by decide) (by decide), pl_Ke hK 8 (by decide) (by decide), pl_Ke hK 1 (by decide) (by decide)]
  exact g
theorem cx_145b {b : Bool} {A : Nat → Nat} {h0 : g_H} {d : Nat} {M : xa_M} {post : Option xa_V → xa_M → Prop} {l1 u1 : Int} {sl : Int} (hF : pl_F M) (h2 : 0 ≤ sl ∧ sl ≤ 50) (h48 : 0 ≤ M 48 1) (k : ∀ M1 : xa_M, pl_K M M1 → 0 ≤ M1 48 1 → post (some (0, 0, 0, 16, pl_ct (pl_of (M 9) (M 10) (M 5) (M 4) (M 7) (M 8) sl) (M 1 10).toNat)) M1) : xa_C (xl_I b) A h0 (d + 4) 145 [(2, 1, 0, 0, 0), (0, 0, l1, u1, sl), (2, 48, 0, 0, 0)] M post := by
  refine xa_C_arg [(2, 1, 0, 0, 0), (0, 0, 0, 50, sl), (2, 48, 0, 0, 0)] (xa_svR (xa_svI (fun _ _ _ _ => by omega) (xa_svR (xa_sv0)))) ?_
  refine xa_meth (Q0 := (6, 1, false, 0, 0, 4)) (by decide +kernel) ⟨rfl, rfl⟩ (full := s_c_145) rfl rfl ?_
  intro hM hv Q hgo
  have hK0 : pl_K M M := fun _ _ _ _ => rfl
  have hm : 0 ≤ M 1 10 ∧ M 1 10 ≤ 16 := hF.2.1
  have loop : ∀ (n : Nat) (i nn f : Int), 0 ≤ i ∧ i ≤ M 1 10 → -1 ≤ f ∧ f ≤ 15 → nn = pl_ct (pl_of (M 9) (M 10) (M 5) (M 4) (M 7) (M 8) sl) i.toNat → 16 - i < (n : Int) → Q 8 [(5, (0, 0, 0, 16, i)), (3, (0, 0, 0, 16, nn)), (4, (0, 0, (-1), 15, f)), (0, (2, 1, 0, 0, 0)), (1, (0, 0, 0, 50, sl)), (2, (2, 48, 0, 0, 0))] [] M := by
    intro n
    induction n with
    | zero => intro i nn f i1 f1 hb hms; omega
    | succ n ih =>
      intro i nn f i1 f1 hb hms
      have ei : ((i.toNat : Nat) : Int) = i := Int.toNat_of_nonneg i1.1
      have hr1 := pl_ct_r (P := (pl_of (M 9) (M 10) (M 5) (M 4) (M 7) (M 8) sl)) i.toNat
      rw [← hb] at hr1
      refine hgo.1 25 [8] 8 _ _ _ ?_
      refine And.intro ?_ ?_
      · intro (c1 : (M 1 10) ≤ i)
        show xa_C (xl_I b) A h0 _ 60 [(2, 48, 0, 0, 0), (1, 0, 0, 16, nn)] M _
        refine cx_60k (N := M) (by first | assumption | exact hK0) (show 0 ≤ (M 48 1) by omega) ?_
        intro M104 (i2 : pl_K M M104) (i3 : 0 ≤ M104 48 1)
        show xa_C (xl_I b) A h0 _ 60 [(2, 48, 0, 0, 0), (1, 0, (-1), 15, f)] M104 _
        refine cx_60k (N := M) (by first | assumption | exact hK0) (show 0 ≤ (M104 48 1) by omega) ?_
        intro M105 (i4 : pl_K M M105) (i5 : 0 ≤ M105 48 1)
        show post (some (0, 0, 0, 16, nn)) M105
        rw [hb, show i = M 1 10 by omega]
        exact k _ i4 i5
      · intro (c1 : i < (M 1 10))
        show xa_C (xl_I b) A h0 _ 147 [(2, 1, 0, 0, 0), (0, 0, 0, 16, i), (0, 0, 0, 50, sl)] M _
        refine cx_147p (show 0 ≤ i ∧ i < M 1 10 by omega) h2 hF hm.2 ?_ ?_
        · intro (i6 : (pl_of (M 9) (M 10) (M 5) (M 4) (M 7) (M 8) sl) i)
          refine And.intro ?_ ?_
          · intro (c7 : ¬ nn = 0)
            show Q 8 [(5, (0, 0, 1, 17, i + 1)), (3, (0, 0, 1, 17, nn + 1)), (4, (0, 0, (-1), 15, f)), (0, (2, 1, 0, 0, 0)), (1, (0, 0, 0, 50, sl)), (2, (2, 48, 0, 0, 0))] [] M
            have en : nn + 1 = pl_ct (pl_of (M 9) (M 10) (M 5) (M 4) (M 7) (M 8) sl) (i + 1).toNat := by
              rw [show (i + 1).toNat = i.toNat + 1 by omega, pl_ct1 (show (pl_of (M 9) (M 10) (M 5) (M 4) (M 7) (M 8) sl) ((i.toNat : Nat) : Int) by rw [ei]; exact i6), ← hb]
            refine hgo.2.1 8 _ [(5, (0, 0, 0, 16, i + 1)), (3, (0, 0, 0, 16, nn + 1)), (4, (0, 0, (-1), 15, f)), (0, (2, 1, 0, 0, 0)), (1, (0, 0, 0, 50, sl)), (2, (2, 48, 0, 0, 0))] _ _ (xa_subI rfl rfl (fun _ _ _ _ => by omega) (xa_subI rfl rfl (fun _ _ _ _ => by omega) (xa_subI rfl rfl (fun _ _ _ _ => by omega) (xa_subR rfl (xa_subI rfl rfl (fun _ _ _ _ => by omega) (xa_subR rfl (xa_sub0))))))) ?_
            exact ih (i + 1) (nn + 1) f (by omega) (by omega) en (by omega)
          · intro (c7 : nn = 0)
            show Q 8 [(5, (0, 0, 1, 17, i + 1)), (3, (0, 0, 1, 17, nn + 1)), (4, (0, 0, 0, 16, i)), (0, (2, 1, 0, 0, 0)), (1, (0, 0, 0, 50, sl)), (2, (2, 48, 0, 0, 0))] [] M
            have en : nn + 1 = pl_ct (pl_of (M 9) (M 10) (M 5) (M 4) (M 7) (M 8) sl) (i + 1).toNat := by
              rw [show (i + 1).toNat = i.toNat + 1 by omega, pl_ct1 (show (pl_of (M 9) (M 10) (M 5) (M 4) (M 7) (M 8) sl) ((i.toNat : Nat) : Int) by rw [ei]; exact i6), ← hb]
            refine hgo.2.1 8 _ [(5, (0, 0, 0, 16, i + 1)), (3, (0, 0, 0, 16, nn + 1)), (4, (0, 0, (-1), 15, i)), (0, (2, 1, 0, 0, 0)), (1, (0, 0, 0, 50, sl)), (2, (2, 48, 0, 0, 0))] _ _ (xa_subI rfl rfl (fun _ _ _ _ => by omega) (xa_subI rfl rfl (fun _ _ _ _ => by omega) (xa_subI rfl rfl (fun _ _ _ _ => by omega) (xa_subR rfl (xa_subI rfl rfl (fun _ _ _ _ => by omega) (xa_subR rfl (xa_sub0))))))) ?_
            exact ih (i + 1) (nn + 1) i (by omega) (by omega) en (by omega)
        · intro (i8 : ¬ (pl_of (M 9) (M 10) (M 5) (M 4) (M 7) (M 8) sl) i)
          show Q 8 [(5, (0, 0, 1, 17, i + 1)), (3, (0, 0, 0, 16, nn)), (4, (0, 0, (-1), 15, f)), (0, (2, 1, 0, 0, 0)), (1, (0, 0, 0, 50, sl)), (2, (2, 48, 0, 0, 0))] [] M
          have en : nn = pl_ct (pl_of (M 9) (M 10) (M 5) (M 4) (M 7) (M 8) sl) (i + 1).toNat := by
            rw [show (i + 1).toNat = i.toNat + 1 by omega, pl_ct0 (show ¬ (pl_of (M 9) (M 10) (M 5) (M 4) (M 7) (M 8) sl) ((i.toNat : Nat) : Int) by rw [ei]; exact i8), ← hb]
          refine hgo.2.1 8 _ [(5, (0, 0, 0, 16, i + 1)), (3, (0, 0, 0, 16, nn)), (4, (0, 0, (-1), 15, f)), (0, (2, 1, 0, 0, 0)), (1, (0, 0, 0, 50, sl)), (2, (2, 48, 0, 0, 0))] _ _ (xa_subI rfl rfl (fun _ _ _ _ => by omega) (xa_subI rfl rfl (fun _ _ _ _ => by omega) (xa_subI rfl rfl (fun _ _ _ _ => by omega) (xa_subR rfl (xa_subI rfl rfl (fun _ _ _ _ => by omega) (xa_subR rfl (xa_sub0))))))) ?_
          exact ih (i + 1) nn f (by omega) (by omega) en (by omega)
  refine hgo.1 11 [8] 0 _ _ _ ?_
  show Q 8 [(5, (0, 0, 0, 0, 0)), (4, (0, 0, (-1), (-1), (-1))), (3, (0, 0, 0, 0, 0)), (0, (2, 1, 0, 0, 0)), (1, (0, 0, 0, 50, sl)), (2, (2, 48, 0, 0, 0))] [] M
  refine hgo.2.1 8 _ [(5, (0, 0, 0, 16, 0)), (3, (0, 0, 0, 16, 0)), (4, (0, 0, (-1), 15, (-1))), (0, (2, 1, 0, 0, 0)), (1, (0, 0, 0, 50, sl)), (2, (2, 48, 0, 0, 0))] _ _ (xa_subI rfl rfl (fun _ _ _ _ => by omega) (xa_subI rfl rfl (fun _ _ _ _ => by omega) (xa_subI rfl rfl (fun _ _ _ _ => by omega) (xa_subR rfl (xa_subI rfl rfl (fun _ _ _ _ => by omega) (xa_subR rfl (xa_sub0))))))) ?_
  exact loop 17 0 0 (-1) (by omega) (by omega) rfl (by omega)
theorem cx_145bN {b : Bool} {A : Nat → Nat} {h0 : g_H} {d : Nat} {M : xa_M} {post : Option xa_V → xa_M → Prop} {l1 u1 sl : Int} {N : xa_M} (hK : pl_K N M) (hF : pl_F N) (h2 : 0 ≤ sl ∧ sl ≤ 50) (h48 : 0 ≤ M 48 1) (k : ∀ M1 : xa_M, pl_K N M1 → 0 ≤ M1 48 1 → post (some (0, 0, 0, 16, pl_ct (pl_of (N 9) (N 10) (N 5) (N 4) (N 7) (N 8) sl) (N 1 10).toNat)) M1) : xa_C (xl_I b) A h0 (d + 4) 145 [(2, 1, 0, 0, 0), (0, 0, l1, u1, sl), (2, 48, 0, 0, 0)] M post := by
  refine cx_145b (pl_F_k hK hF) h2 h48 (fun M1 g1 g2 => ?_)
  have g := k M1 (fun q j h1 h2 => (g1 q j h1 h2).trans (hK q j h1 h2)) g2
  rw [pl_Ke hK 9 (by decide) (by decide), pl_Ke hK 10 (by decide) (by decide), pl_Ke hK 5 (by decide) (by decide), pl_Ke hK 4 (by decide) (by decide), pl_Ke hK 7 (by decide) (by decide), pl_Ke hK 8 (by decide) (by decide), pl_Ke hK 1 (by decide) (by decide)]
  exact g
theorem cx_141p {b : Bool} {A : Nat → Nat} {h0 : g_H} {d : Nat} {M : xa_M} {post : Option xa_V → xa_M → Prop} {l2 u2 : Int} {sl : Int} (hF : pl_F M) (h2 : 0 ≤ sl ∧ sl ≤ 50) (h48 : 0 ≤ M 48 1) (k : ∀ M1 : xa_M, pl_K M M1 → 0 ≤ M1 48 1 → post (some (0, 0, 0, 1000, pl_all (M 9) (M 10) (M 5) (M 6) (M 4) (M 7) (M 8) (M 1 9) (M 1 10) sl)) M1) : xa_C (xl_I b) A h0 (d + 6) 141 [(2, 34, 0, 0, 0), (2, 1, 0, 0, 0), (0, 0, l2, u2, sl), (2, 48, 0, 0, 0)] M post := by
  refine xa_C_wk ?_
  refine xa_C_arg [(2, 34, 0, 0, 0), (2, 1, 0, 0, 0), (0, 0, 0, 50, sl), (2, 48, 0, 0, 0)] (xa_svR (xa_svR (xa_svI (fun _ _ _ _ => by omega) (xa_svR (xa_sv0))))) ?_
  refine xa_meth (Q0 := (11, 1, false, 0, 0, 4)) (by decide +kernel) ⟨rfl, rfl⟩ (full := s_c_141) rfl rfl ?_
  intro hM hv Q hgo
  have hK0 : pl_K M M := fun _ _ _ _ => rfl
  have hn : 0 ≤ M 1 9 ∧ M 1 9 ≤ 14 := hF.1
  have hm : 0 ≤ M 1 10 ∧ M 1 10 ≤ 16 := hF.2.1
  have s1 := fun k => pl_sm_r (f := pl_nv (pl_P1 (M 9) (M 10) (M 5) (M 6) (M 4) (M 7) (M 8) (M 1 10)) (M 1 9).toNat) (fun v => pl_nv_r (by omega) v) k
  have s2 := fun k => pl_sm_r (f := pl_nv (pl_P2 (M 5) (M 6)) (M 1 9).toNat) (fun v => pl_nv_r (by omega) v) k
  have loop : ∀ (n : Nat) (v cr st fv fw : Int), 0 ≤ v ∧ v ≤ M 1 9 → -1 ≤ fv ∧ fv ≤ 13 → -1 ≤ fw ∧ fw ≤ 13 → cr = pl_sm (pl_nv (pl_P1 (M 9) (M 10) (M 5) (M 6) (M 4) (M 7) (M 8) (M 1 10)) (M 1 9).toNat) v.toNat → st = pl_sm (pl_nv (pl_P2 (M 5) (M 6)) (M 1 9).toNat) v.toNat → 14 - v < (n : Int) → Q 15 [(8, (0, 0, 0, 14, v)), (4, (0, 0, 0, 196, cr)), (5, (0, 0, 0, 196, st)), (6, (0, 0, (-1), 13, fv)), (7, (0, 0, (-1), 13, fw)), (0, (2, 34, 0, 0, 0)), (1, (2, 1, 0, 0, 0)), (2, (0, 0, 0, 50, sl)), (3, (2, 48, 0, 0, 0))] [] M := by
    intro n
    induction n with
    | zero => intro v cr st fv fw i1 f1 f2 h4 h5 hms; omega
    | succ n ih =>
      intro v cr st fv fw i1 f1 f2 h4 h5 hms
      have ev : ((v.toNat : Nat) : Int) = v := Int.toNat_of_nonneg i1.1
      have v1 := s1 v.toNat
      have v2 := s2 v.toNat
      have inner : v < M 1 9 → ∀ (n : Nat) (w cr st fv fw : Int), v + 1 ≤ w ∧ w ≤ M 1 9 → -1 ≤ fv ∧ fv ≤ 13 → -1 ≤ fw ∧ fw ≤ 13 → cr = pl_sm (pl_nv (pl_P1 (M 9) (M 10) (M 5) (M 6) (M 4) (M 7) (M 8) (M 1 10)) (M 1 9).toNat) v.toNat + pl_ct (fun w => v < w ∧ (pl_P1 (M 9) (M 10) (M 5) (M 6) (M 4) (M 7) (M 8) (M 1 10)) v w) w.toNat → st = pl_sm (pl_nv (pl_P2 (M 5) (M 6)) (M 1 9).toNat) v.toNat + pl_ct (fun w => v < w ∧ (pl_P2 (M 5) (M 6)) v w) w.toNat → 14 - w < (n : Int) → Q 30 [(9, (0, 0, 1, 14, w)), (8, (0, 0, 0, 13, v)), (4, (0, 0, 0, 196, cr)), (5, (0, 0, 0, 196, st)), (6, (0, 0, (-1), 13, fv)), (7, (0, 0, (-1), 13, fw)), (0, (2, 34, 0, 0, 0)), (1, (2, 1, 0, 0, 0)), (2, (0, 0, 0, 50, sl)), (3, (2, 48, 0, 0, 0))] [] M := by
        intro hv1 n
        induction n with
        | zero => intro w cr st fv fw j1 f1 f2 h4 h5 hms; omega
        | succ n ih2 =>
          intro w cr st fv fw j1 f1 f2 h4 h5 hms
          have ew : ((w.toNat : Nat) : Int) = w := Int.toNat_of_nonneg (by omega)
          have w1 := pl_ct_r (P := (fun w => v < w ∧ (pl_P1 (M 9) (M 10) (M 5) (M 6) (M 4) (M 7) (M 8) (M 1 10)) v w)) w.toNat
          have w2 := pl_ct_r (P := (fun w => v < w ∧ (pl_P2 (M 5) (M 6)) v w)) w.toNat
          refine hgo.1 53 [15, 30] 30 _ _ _ ?_
          refine And.intro ?_ ?_
          · intro (c1 : (M 1 9) ≤ w)
            show Q 15 [(8, (0, 0, 1, 14, v + 1)), (9, (0, 0, 1, 14, w)), (4, (0, 0, 0, 196, cr)), (5, (0, 0, 0, 196, st)), (6, (0, 0, (-1), 13, fv)), (7, (0, 0, (-1), 13, fw)), (0, (2, 34, 0, 0, 0)), (1, (2, 1, 0, 0, 0)), (2, (0, 0, 0, 50, sl)), (3, (2, 48, 0, 0, 0))] [] M
            have en1 : cr = pl_sm (pl_nv (pl_P1 (M 9) (M 10) (M 5) (M 6) (M 4) (M 7) (M 8) (M 1 10)) (M 1 9).toNat) (v + 1).toNat := by
              rw [show (v + 1).toNat = v.toNat + 1 by omega, pl_sm1, ev, h4, show w = M 1 9 by omega]
              rfl
            have en2 : st = pl_sm (pl_nv (pl_P2 (M 5) (M 6)) (M 1 9).toNat) (v + 1).toNat := by
              rw [show (v + 1).toNat = v.toNat + 1 by omega, pl_sm1, ev, h5, show w = M 1 9 by omega]
              rfl
            refine hgo.2.1 15 _ [(8, (0, 0, 0, 14, v + 1)), (4, (0, 0, 0, 196, cr)), (5, (0, 0, 0, 196, st)), (6, (0, 0, (-1), 13, fv)), (7, (0, 0, (-1), 13, fw)), (0, (2, 34, 0, 0, 0)), (1, (2, 1, 0, 0, 0)), (2, (0, 0, 0, 50, sl)), (3, (2, 48, 0, 0, 0))] _ _ (xa_subI rfl rfl (fun _ _ _ _ => by omega) (xa_subI rfl rfl (fun _ _ _ _ => by omega) (xa_subI rfl rfl (fun _ _ _ _ => by omega) (xa_subI rfl rfl (fun _ _ _ _ => by omega) (xa_subI rfl rfl (fun _ _ _ _ => by omega) (xa_subR rfl (xa_subR rfl (xa_subI rfl rfl (fun _ _ _ _ => by omega) (xa_subR rfl (xa_sub0)))))))))) ?_
            exact ih (v + 1) cr st fv fw (by omega) (by omega) (by omega) en1 en2 (by omega)
          · intro (c1 : w < (M 1 9))
            show xa_C (xl_I b) A h0 _ 142 [(2, 1, 0, 0, 0), (0, 0, 0, 13, v)] M _
            refine cx_142_1 (show 0 ≤ v ∧ v < 14 by omega) ?_
            show xa_C (xl_I b) A h0 _ 142 [(2, 1, 0, 0, 0), (0, 0, 1, 14, w)] M _
            refine cx_142_1 (show 0 ≤ w ∧ w < 14 by omega) ?_
            refine And.intro ?_ ?_
            · intro (c2 : ¬ (M 6 v) = (M 6 w))
              show Q 30 [(9, (0, 0, 2, 15, w + 1)), (5, (0, 0, 0, 196, st + 0)), (10, (0, 0, 0, 0, 0)), (8, (0, 0, 0, 13, v)), (4, (0, 0, 0, 196, cr)), (6, (0, 0, (-1), 13, fv)), (7, (0, 0, (-1), 13, fw)), (0, (2, 34, 0, 0, 0)), (1, (2, 1, 0, 0, 0)), (2, (0, 0, 0, 50, sl)), (3, (2, 48, 0, 0, 0))] [] M
              have en1 : cr = pl_sm (pl_nv (pl_P1 (M 9) (M 10) (M 5) (M 6) (M 4) (M 7) (M 8) (M 1 10)) (M 1 9).toNat) v.toNat + pl_ct (fun w => v < w ∧ (pl_P1 (M 9) (M 10) (M 5) (M 6) (M 4) (M 7) (M 8) (M 1 10)) v w) (w + 1).toNat := by
                rw [show (w + 1).toNat = w.toNat + 1 by omega, pl_ct0 (show ¬ (fun w => v < w ∧ (pl_P1 (M 9) (M 10) (M 5) (M 6) (M 4) (M 7) (M 8) (M 1 10)) v w) ((w.toNat : Nat) : Int) by rw [ew]; exact (fun h => c2 h.2.1)), h4]
              have en2 : st + 0 = pl_sm (pl_nv (pl_P2 (M 5) (M 6)) (M 1 9).toNat) v.toNat + pl_ct (fun w => v < w ∧ (pl_P2 (M 5) (M 6)) v w) (w + 1).toNat := by
                rw [show (w + 1).toNat = w.toNat + 1 by omega, pl_ct0 (show ¬ (fun w => v < w ∧ (pl_P2 (M 5) (M 6)) v w) ((w.toNat : Nat) : Int) by rw [ew]; exact (fun h => c2 h.2.1)), h5]
                omega
              refine hgo.2.1 30 _ [(9, (0, 0, 1, 14, w + 1)), (8, (0, 0, 0, 13, v)), (4, (0, 0, 0, 196, cr)), (5, (0, 0, 0, 196, st + 0)), (6, (0, 0, (-1), 13, fv)), (7, (0, 0, (-1), 13, fw)), (0, (2, 34, 0, 0, 0)), (1, (2, 1, 0, 0, 0)), (2, (0, 0, 0, 50, sl)), (3, (2, 48, 0, 0, 0))] _ _ (xa_subI rfl rfl (fun _ _ _ _ => by omega) (xa_subI rfl rfl (fun _ _ _ _ => by omega) (xa_subI rfl rfl (fun _ _ _ _ => by omega) (xa_subI rfl rfl (fun _ _ _ _ => by omega) (xa_subI rfl rfl (fun _ _ _ _ => by omega) (xa_subI rfl rfl (fun _ _ _ _ => by omega) (xa_subR rfl (xa_subR rfl (xa_subI rfl rfl (fun _ _ _ _ => by omega) (xa_subR rfl (xa_sub0))))))))))) ?_
              exact ih2 (w + 1) cr (st + 0) fv fw (by omega) (by omega) (by omega) en1 en2 (by omega)
            · intro (c2 : (M 6 v) = (M 6 w))
              show xa_C (xl_I b) A h0 _ 143 [(2, 1, 0, 0, 0), (0, 0, 0, 13, v), (0, 0, 1, 14, w)] M _
              refine cx_143p (show 0 ≤ v ∧ v ≤ 13 by omega) (show 0 ≤ w ∧ w ≤ 13 by omega) hF ?_ ?_
              · intro (i3 : pl_cr (M 9) (M 10) (M 5) (M 4) (M 7) (M 8) (M 1 10) v w)
                refine And.intro ?_ ?_
                · intro (c4 : ¬ cr = 0)
                  refine And.intro ?_ ?_
                  · intro (c5 : ¬ cr = 0)
                    show xa_C (xl_I b) A h0 _ 37 [(2, 1, 0, 0, 0), (0, 0, 0, 13, v)] M _
                    refine cx_37_1 (show 0 ≤ v ∧ v < 14 by omega) ?_
                    show xa_C (xl_I b) A h0 _ 37 [(2, 1, 0, 0, 0), (0, 0, 1, 14, w)] M _
                    refine cx_37_1 (show 0 ≤ w ∧ w < 14 by omega) ?_
                    refine And.intro ?_ ?_
                    · intro (c6 : ¬ (M 5 v) = (M 5 w))
                      show Q 30 [(9, (0, 0, 2, 15, w + 1)), (5, (0, 0, 0, 196, st + 0)), (4, (0, 0, 1, 197, cr + 1)), (7, (0, 0, (-1), 13, fw)), (6, (0, 0, (-1), 13, fv)), (10, (0, 0, 1, 1, 1)), (8, (0, 0, 0, 13, v)), (0, (2, 34, 0, 0, 0)), (1, (2, 1, 0, 0, 0)), (2, (0, 0, 0, 50, sl)), (3, (2, 48, 0, 0, 0))] [] M
                      have en1 : cr + 1 = pl_sm (pl_nv (pl_P1 (M 9) (M 10) (M 5) (M 6) (M 4) (M 7) (M 8) (M 1 10)) (M 1 9).toNat) v.toNat + pl_ct (fun w => v < w ∧ (pl_P1 (M 9) (M 10) (M 5) (M 6) (M 4) (M 7) (M 8) (M 1 10)) v w) (w + 1).toNat := by
                        rw [show (w + 1).toNat = w.toNat + 1 by omega, pl_ct1 (show (fun w => v < w ∧ (pl_P1 (M 9) (M 10) (M 5) (M 6) (M 4) (M 7) (M 8) (M 1 10)) v w) ((w.toNat : Nat) : Int) by rw [ew]; exact ⟨by omega, c2, i3⟩), h4]
                        omega
                      have en2 : st + 0 = pl_sm (pl_nv (pl_P2 (M 5) (M 6)) (M 1 9).toNat) v.toNat + pl_ct (fun w => v < w ∧ (pl_P2 (M 5) (M 6)) v w) (w + 1).toNat := by
                        rw [show (w + 1).toNat = w.toNat + 1 by omega, pl_ct0 (show ¬ (fun w => v < w ∧ (pl_P2 (M 5) (M 6)) v w) ((w.toNat : Nat) : Int) by rw [ew]; exact (fun h => c6 h.2.2)), h5]
                        omega
                      refine hgo.2.1 30 _ [(9, (0, 0, 1, 14, w + 1)), (8, (0, 0, 0, 13, v)), (4, (0, 0, 0, 196, cr + 1)), (5, (0, 0, 0, 196, st + 0)), (6, (0, 0, (-1), 13, fv)), (7, (0, 0, (-1), 13, fw)), (0, (2, 34, 0, 0, 0)), (1, (2, 1, 0, 0, 0)), (2, (0, 0, 0, 50, sl)), (3, (2, 48, 0, 0, 0))] _ _ (xa_subI rfl rfl (fun _ _ _ _ => by omega) (xa_subI rfl rfl (fun _ _ _ _ => by omega) (xa_subI rfl rfl (fun _ _ _ _ => by omega) (xa_subI rfl rfl (fun _ _ _ _ => by omega) (xa_subI rfl rfl (fun _ _ _ _ => by omega) (xa_subI rfl rfl (fun _ _ _ _ => by omega) (xa_subR rfl (xa_subR rfl (xa_subI rfl rfl (fun _ _ _ _ => by omega) (xa_subR rfl (xa_sub0))))))))))) ?_
                      exact ih2 (w + 1) (cr + 1) (st + 0) fv fw (by omega) (by omega) (by omega) en1 en2 (by omega)
                    · intro (c6 : (M 5 v) = (M 5 w))
                      show Q 30 [(9, (0, 0, 2, 15, w + 1)), (5, (0, 0, 1, 197, st + 1)), (4, (0, 0, 1, 197, cr + 1)), (7, (0, 0, (-1), 13, fw)), (6, (0, 0, (-1), 13, fv)), (10, (0, 0, 1, 1, 1)), (8, (0, 0, 0, 13, v)), (0, (2, 34, 0, 0, 0)), (1, (2, 1, 0, 0, 0)), (2, (0, 0, 0, 50, sl)), (3, (2, 48, 0, 0, 0))] [] M
                      have en1 : cr + 1 = pl_sm (pl_nv (pl_P1 (M 9) (M 10) (M 5) (M 6) (M 4) (M 7) (M 8) (M 1 10)) (M 1 9).toNat) v.toNat + pl_ct (fun w => v < w ∧ (pl_P1 (M 9) (M 10) (M 5) (M 6) (M 4) (M 7) (M 8) (M 1 10)) v w) (w + 1).toNat := by
                        rw [show (w + 1).toNat = w.toNat + 1 by omega, pl_ct1 (show (fun w => v < w ∧ (pl_P1 (M 9) (M 10) (M 5) (M 6) (M 4) (M 7) (M 8) (M 1 10)) v w) ((w.toNat : Nat) : Int) by rw [ew]; exact ⟨by omega, c2, i3⟩), h4]
                        omega
                      have en2 : st + 1 = pl_sm (pl_nv (pl_P2 (M 5) (M 6)) (M 1 9).toNat) v.toNat + pl_ct (fun w => v < w ∧ (pl_P2 (M 5) (M 6)) v w) (w + 1).toNat := by
                        rw [show (w + 1).toNat = w.toNat + 1 by omega, pl_ct1 (show (fun w => v < w ∧ (pl_P2 (M 5) (M 6)) v w) ((w.toNat : Nat) : Int) by rw [ew]; exact ⟨by omega, c2, c6⟩), h5]
                        omega
                      refine hgo.2.1 30 _ [(9, (0, 0, 1, 14, w + 1)), (8, (0, 0, 0, 13, v)), (4, (0, 0, 0, 196, cr + 1)), (5, (0, 0, 0, 196, st + 1)), (6, (0, 0, (-1), 13, fv)), (7, (0, 0, (-1), 13, fw)), (0, (2, 34, 0, 0, 0)), (1, (2, 1, 0, 0, 0)), (2, (0, 0, 0, 50, sl)), (3, (2, 48, 0, 0, 0))] _ _ (xa_subI rfl rfl (fun _ _ _ _ => by omega) (xa_subI rfl rfl (fun _ _ _ _ => by omega) (xa_subI rfl rfl (fun _ _ _ _ => by omega) (xa_subI rfl rfl (fun _ _ _ _ => by omega) (xa_subI rfl rfl (fun _ _ _ _ => by omega) (xa_subI rfl rfl (fun _ _ _ _ => by omega) (xa_subR rfl (xa_subR rfl (xa_subI rfl rfl (fun _ _ _ _ => by omega) (xa_subR rfl (xa_sub0))))))))))) ?_
                      exact ih2 (w + 1) (cr + 1) (st + 1) fv fw (by omega) (by omega) (by omega) en1 en2 (by omega)
                  · intro (c5 : cr = 0)
                    show xa_C (xl_I b) A h0 _ 37 [(2, 1, 0, 0, 0), (0, 0, 0, 13, v)] M _
                    refine cx_37_1 (show 0 ≤ v ∧ v < 14 by omega) ?_
                    show xa_C (xl_I b) A h0 _ 37 [(2, 1, 0, 0, 0), (0, 0, 1, 14, w)] M _
                    refine cx_37_1 (show 0 ≤ w ∧ w < 14 by omega) ?_
                    refine And.intro ?_ ?_
                    · intro (c7 : ¬ (M 5 v) = (M 5 w))
                      show Q 30 [(9, (0, 0, 2, 15, w + 1)), (5, (0, 0, 0, 196, st + 0)), (4, (0, 0, 1, 197, cr + 1)), (7, (0, 0, 1, 14, w)), (6, (0, 0, (-1), 13, fv)), (10, (0, 0, 1, 1, 1)), (8, (0, 0, 0, 13, v)), (0, (2, 34, 0, 0, 0)), (1, (2, 1, 0, 0, 0)), (2, (0, 0, 0, 50, sl)), (3, (2, 48, 0, 0, 0))] [] M
                      have en1 : cr + 1 = pl_sm (pl_nv (pl_P1 (M 9) (M 10) (M 5) (M 6) (M 4) (M 7) (M 8) (M 1 10)) (M 1 9).toNat) v.toNat + pl_ct (fun w => v < w ∧ (pl_P1 (M 9) (M 10) (M 5) (M 6) (M 4) (M 7) (M 8) (M 1 10)) v w) (w + 1).toNat := by
                        rw [show (w + 1).toNat = w.toNat + 1 by omega, pl_ct1 (show (fun w => v < w ∧ (pl_P1 (M 9) (M 10) (M 5) (M 6) (M 4) (M 7) (M 8) (M 1 10)) v w) ((w.toNat : Nat) : Int) by rw [ew]; exact ⟨by omega, c2, i3⟩), h4]
                        omega
                      have en2 : st + 0 = pl_sm (pl_nv (pl_P2 (M 5) (M 6)) (M 1 9).toNat) v.toNat + pl_ct (fun w => v < w ∧ (pl_P2 (M 5) (M 6)) v w) (w + 1).toNat := by
                        rw [show (w + 1).toNat = w.toNat + 1 by omega, pl_ct0 (show ¬ (fun w => v < w ∧ (pl_P2 (M 5) (M 6)) v w) ((w.toNat : Nat) : Int) by rw [ew]; exact (fun h => c7 h.2.2)), h5]
                        omega
                      refine hgo.2.1 30 _ [(9, (0, 0, 1, 14, w + 1)), (8, (0, 0, 0, 13, v)), (4, (0, 0, 0, 196, cr + 1)), (5, (0, 0, 0, 196, st + 0)), (6, (0, 0, (-1), 13, fv)), (7, (0, 0, (-1), 13, w)), (0, (2, 34, 0, 0, 0)), (1, (2, 1, 0, 0, 0)), (2, (0, 0, 0, 50, sl)), (3, (2, 48, 0, 0, 0))] _ _ (xa_subI rfl rfl (fun _ _ _ _ => by omega) (xa_subI rfl rfl (fun _ _ _ _ => by omega) (xa_subI rfl rfl (fun _ _ _ _ => by omega) (xa_subI rfl rfl (fun _ _ _ _ => by omega) (xa_subI rfl rfl (fun _ _ _ _ => by omega) (xa_subI rfl rfl (fun _ _ _ _ => by omega) (xa_subR rfl (xa_subR rfl (xa_subI rfl rfl (fun _ _ _ _ => by omega) (xa_subR rfl (xa_sub0))))))))))) ?_
                      exact ih2 (w + 1) (cr + 1) (st + 0) fv w (by omega) (by omega) (by omega) en1 en2 (by omega)
                    · intro (c7 : (M 5 v) = (M 5 w))
                      show Q 30 [(9, (0, 0, 2, 15, w + 1)), (5, (0, 0, 1, 197, st + 1)), (4, (0, 0, 1, 197, cr + 1)), (7, (0, 0, 1, 14, w)), (6, (0, 0, (-1), 13, fv)), (10, (0, 0, 1, 1, 1)), (8, (0, 0, 0, 13, v)), (0, (2, 34, 0, 0, 0)), (1, (2, 1, 0, 0, 0)), (2, (0, 0, 0, 50, sl)), (3, (2, 48, 0, 0, 0))] [] M
                      have en1 : cr + 1 = pl_sm (pl_nv (pl_P1 (M 9) (M 10) (M 5) (M 6) (M 4) (M 7) (M 8) (M 1 10)) (M 1 9).toNat) v.toNat + pl_ct (fun w => v < w ∧ (pl_P1 (M 9) (M 10) (M 5) (M 6) (M 4) (M 7) (M 8) (M 1 10)) v w) (w + 1).toNat := by
                        rw [show (w + 1).toNat = w.toNat + 1 by omega, pl_ct1 (show (fun w => v < w ∧ (pl_P1 (M 9) (M 10) (M 5) (M 6) (M 4) (M 7) (M 8) (M 1 10)) v w) ((w.toNat : Nat) : Int) by rw [ew]; exact ⟨by omega, c2, i3⟩), h4]
                        omega
                      have en2 : st + 1 = pl_sm (pl_nv (pl_P2 (M 5) (M 6)) (M 1 9).toNat) v.toNat + pl_ct (fun w => v < w ∧ (pl_P2 (M 5) (M 6)) v w) (w + 1).toNat := by
                        rw [show (w + 1).toNat = w.toNat + 1 by omega, pl_ct1 (show (fun w => v < w ∧ (pl_P2 (M 5) (M 6)) v w) ((w.toNat : Nat) : Int) by rw [ew]; exact ⟨by omega, c2, c7⟩), h5]
                        omega
                      refine hgo.2.1 30 _ [(9, (0, 0, 1, 14, w + 1)), (8, (0, 0, 0, 13, v)), (4, (0, 0, 0, 196, cr + 1)), (5, (0, 0, 0, 196, st + 1)), (6, (0, 0, (-1), 13, fv)), (7, (0, 0, (-1), 13, w)), (0, (2, 34, 0, 0, 0)), (1, (2, 1, 0, 0, 0)), (2, (0, 0, 0, 50, sl)), (3, (2, 48, 0, 0, 0))] _ _ (xa_subI rfl rfl (fun _ _ _ _ => by omega) (xa_subI rfl rfl (fun _ _ _ _ => by omega) (xa_subI rfl rfl (fun _ _ _ _ => by omega) (xa_subI rfl rfl (fun _ _ _ _ => by omega) (xa_subI rfl rfl (fun _ _ _ _ => by omega) (xa_subI rfl rfl (fun _ _ _ _ => by omega) (xa_subR rfl (xa_subR rfl (xa_subI rfl rfl (fun _ _ _ _ => by omega) (xa_subR rfl (xa_sub0))))))))))) ?_
                      exact ih2 (w + 1) (cr + 1) (st + 1) fv w (by omega) (by omega) (by omega) en1 en2 (by omega)
                · intro (c4 : cr = 0)
                  refine And.intro ?_ ?_
                  · intro (c8 : ¬ cr = 0)
                    show xa_C (xl_I b) A h0 _ 37 [(2, 1, 0, 0, 0), (0, 0, 0, 13, v)] M _
                    refine cx_37_1 (show 0 ≤ v ∧ v < 14 by omega) ?_
                    show xa_C (xl_I b) A h0 _ 37 [(2, 1, 0, 0, 0), (0, 0, 1, 14, w)] M _
                    refine cx_37_1 (show 0 ≤ w ∧ w < 14 by omega) ?_
                    refine And.intro ?_ ?_
                    · intro (c9 : ¬ (M 5 v) = (M 5 w))
                      show Q 30 [(9, (0, 0, 2, 15, w + 1)), (5, (0, 0, 0, 196, st + 0)), (4, (0, 0, 1, 197, cr + 1)), (7, (0, 0, (-1), 13, fw)), (6, (0, 0, 0, 13, v)), (10, (0, 0, 1, 1, 1)), (8, (0, 0, 0, 13, v)), (0, (2, 34, 0, 0, 0)), (1, (2, 1, 0, 0, 0)), (2, (0, 0, 0, 50, sl)), (3, (2, 48, 0, 0, 0))] [] M
                      have en1 : cr + 1 = pl_sm (pl_nv (pl_P1 (M 9) (M 10) (M 5) (M 6) (M 4) (M 7) (M 8) (M 1 10)) (M 1 9).toNat) v.toNat + pl_ct (fun w => v < w ∧ (pl_P1 (M 9) (M 10) (M 5) (M 6) (M 4) (M 7) (M 8) (M 1 10)) v w) (w + 1).toNat := by
                        rw [show (w + 1).toNat = w.toNat + 1 by omega, pl_ct1 (show (fun w => v < w ∧ (pl_P1 (M 9) (M 10) (M 5) (M 6) (M 4) (M 7) (M 8) (M 1 10)) v w) ((w.toNat : Nat) : Int) by rw [ew]; exact ⟨by omega, c2, i3⟩), h4]
                        omega
                      have en2 : st + 0 = pl_sm (pl_nv (pl_P2 (M 5) (M 6)) (M 1 9).toNat) v.toNat + pl_ct (fun w => v < w ∧ (pl_P2 (M 5) (M 6)) v w) (w + 1).toNat := by
                        rw [show (w + 1).toNat = w.toNat + 1 by omega, pl_ct0 (show ¬ (fun w => v < w ∧ (pl_P2 (M 5) (M 6)) v w) ((w.toNat : Nat) : Int) by rw [ew]; exact (fun h => c9 h.2.2)), h5]
                        omega
                      refine hgo.2.1 30 _ [(9, (0, 0, 1, 14, w + 1)), (8, (0, 0, 0, 13, v)), (4, (0, 0, 0, 196, cr + 1)), (5, (0, 0, 0, 196, st + 0)), (6, (0, 0, (-1), 13, v)), (7, (0, 0, (-1), 13, fw)), (0, (2, 34, 0, 0, 0)), (1, (2, 1, 0, 0, 0)), (2, (0, 0, 0, 50, sl)), (3, (2, 48, 0, 0, 0))] _ _ (xa_subI rfl rfl (fun _ _ _ _ => by omega) (xa_subI rfl rfl (fun _ _ _ _ => by omega) (xa_subI rfl rfl (fun _ _ _ _ => by omega) (xa_subI rfl rfl (fun _ _ _ _ => by omega) (xa_subI rfl rfl (fun _ _ _ _ => by omega) (xa_subI rfl rfl (fun _ _ _ _ => by omega) (xa_subR rfl (xa_subR rfl (xa_subI rfl rfl (fun _ _ _ _ => by omega) (xa_subR rfl (xa_sub0))))))))))) ?_
                      exact ih2 (w + 1) (cr + 1) (st + 0) v fw (by omega) (by omega) (by omega) en1 en2 (by omega)
                    · intro (c9 : (M 5 v) = (M 5 w))
                      show Q 30 [(9, (0, 0, 2, 15, w + 1)), (5, (0, 0, 1, 197, st + 1)), (4, (0, 0, 1, 197, cr + 1)), (7, (0, 0, (-1), 13, fw)), (6, (0, 0, 0, 13, v)), (10, (0, 0, 1, 1, 1)), (8, (0, 0, 0, 13, v)), (0, (2, 34, 0, 0, 0)), (1, (2, 1, 0, 0, 0)), (2, (0, 0, 0, 50, sl)), (3, (2, 48, 0, 0, 0))] [] M
                      have en1 : cr + 1 = pl_sm (pl_nv (pl_P1 (M 9) (M 10) (M 5) (M 6) (M 4) (M 7) (M 8) (M 1 10)) (M 1 9).toNat) v.toNat + pl_ct (fun w => v < w ∧ (pl_P1 (M 9) (M 10) (M 5) (M 6) (M 4) (M 7) (M 8) (M 1 10)) v w) (w + 1).toNat := by
                        rw [show (w + 1).toNat = w.toNat + 1 by omega, pl_ct1 (show (fun w => v < w ∧ (pl_P1 (M 9) (M 10) (M 5) (M 6) (M 4) (M 7) (M 8) (M 1 10)) v w) ((w.toNat : Nat) : Int) by rw [ew]; exact ⟨by omega, c2, i3⟩), h4]
                        omega
                      have en2 : st + 1 = pl_sm (pl_nv (pl_P2 (M 5) (M 6)) (M 1 9).toNat) v.toNat + pl_ct (fun w => v < w ∧ (pl_P2 (M 5) (M 6)) v w) (w + 1).toNat := by
                        rw [show (w + 1).toNat = w.toNat + 1 by omega, pl_ct1 (show (fun w => v < w ∧ (pl_P2 (M 5) (M 6)) v w) ((w.toNat : Nat) : Int) by rw [ew]; exact ⟨by omega, c2, c9⟩), h5]
                        omega
                      refine hgo.2.1 30 _ [(9, (0, 0, 1, 14, w + 1)), (8, (0, 0, 0, 13, v)), (4, (0, 0, 0, 196, cr + 1)), (5, (0, 0, 0, 196, st + 1)), (6, (0, 0, (-1), 13, v)), (7, (0, 0, (-1), 13, fw)), (0, (2, 34, 0, 0, 0)), (1, (2, 1, 0, 0, 0)), (2, (0, 0, 0, 50, sl)), (3, (2, 48, 0, 0, 0))] _ _ (xa_subI rfl rfl (fun _ _ _ _ => by omega) (xa_subI rfl rfl (fun _ _ _ _ => by omega) (xa_subI rfl rfl (fun _ _ _ _ => by omega) (xa_subI rfl rfl (fun _ _ _ _ => by omega) (xa_subI rfl rfl (fun _ _ _ _ => by omega) (xa_subI rfl rfl (fun _ _ _ _ => by omega) (xa_subR rfl (xa_subR rfl (xa_subI rfl rfl (fun _ _ _ _ => by omega) (xa_subR rfl (xa_sub0))))))))))) ?_
                      exact ih2 (w + 1) (cr + 1) (st + 1) v fw (by omega) (by omega) (by omega) en1 en2 (by omega)
                  · intro (c8 : cr = 0)
                    show xa_C (xl_I b) A h0 _ 37 [(2, 1, 0, 0, 0), (0, 0, 0, 13, v)] M _
                    refine cx_37_1 (show 0 ≤ v ∧ v < 14 by omega) ?_
                    show xa_C (xl_I b) A h0 _ 37 [(2, 1, 0, 0, 0), (0, 0, 1, 14, w)] M _
                    refine cx_37_1 (show 0 ≤ w ∧ w < 14 by omega) ?_
                    refine And.intro ?_ ?_
                    · intro (c10 : ¬ (M 5 v) = (M 5 w))
                      show Q 30 [(9, (0, 0, 2, 15, w + 1)), (5, (0, 0, 0, 196, st + 0)), (4, (0, 0, 1, 197, cr + 1)), (7, (0, 0, 1, 14, w)), (6, (0, 0, 0, 13, v)), (10, (0, 0, 1, 1, 1)), (8, (0, 0, 0, 13, v)), (0, (2, 34, 0, 0, 0)), (1, (2, 1, 0, 0, 0)), (2, (0, 0, 0, 50, sl)), (3, (2, 48, 0, 0, 0))] [] M
                      have en1 : cr + 1 = pl_sm (pl_nv (pl_P1 (M 9) (M 10) (M 5) (M 6) (M 4) (M 7) (M 8) (M 1 10)) (M 1 9).toNat) v.toNat + pl_ct (fun w => v < w ∧ (pl_P1 (M 9) (M 10) (M 5) (M 6) (M 4) (M 7) (M 8) (M 1 10)) v w) (w + 1).toNat := by
                        rw [show (w + 1).toNat = w.toNat + 1 by omega, pl_ct1 (show (fun w => v < w ∧ (pl_P1 (M 9) (M 10) (M 5) (M 6) (M 4) (M 7) (M 8) (M 1 10)) v w) ((w.toNat : Nat) : Int) by rw [ew]; exact ⟨by omega, c2, i3⟩), h4]
                        omega
                      have en2 : st + 0 = pl_sm (pl_nv (pl_P2 (M 5) (M 6)) (M 1 9).toNat) v.toNat + pl_ct (fun w => v < w ∧ (pl_P2 (M 5) (M 6)) v w) (w + 1).toNat := by
                        rw [show (w + 1).toNat = w.toNat + 1 by omega, pl_ct0 (show ¬ (fun w => v < w ∧ (pl_P2 (M 5) (M 6)) v w) ((w.toNat : Nat) : Int) by rw [ew]; exact (fun h => c10 h.2.2)), h5]
                        omega
                      refine hgo.2.1 30 _ [(9, (0, 0, 1, 14, w + 1)), (8, (0, 0, 0, 13, v)), (4, (0, 0, 0, 196, cr + 1)), (5, (0, 0, 0, 196, st + 0)), (6, (0, 0, (-1), 13, v)), (7, (0, 0, (-1), 13, w)), (0, (2, 34, 0, 0, 0)), (1, (2, 1, 0, 0, 0)), (2, (0, 0, 0, 50, sl)), (3, (2, 48, 0, 0, 0))] _ _ (xa_subI rfl rfl (fun _ _ _ _ => by omega) (xa_subI rfl rfl (fun _ _ _ _ => by omega) (xa_subI rfl rfl (fun _ _ _ _ => by omega) (xa_subI rfl rfl (fun _ _ _ _ => by omega) (xa_subI rfl rfl (fun _ _ _ _ => by omega) (xa_subI rfl rfl (fun _ _ _ _ => by omega) (xa_subR rfl (xa_subR rfl (xa_subI rfl rfl (fun _ _ _ _ => by omega) (xa_subR rfl (xa_sub0))))))))))) ?_
                      exact ih2 (w + 1) (cr + 1) (st + 0) v w (by omega) (by omega) (by omega) en1 en2 (by omega)
                    · intro (c10 : (M 5 v) = (M 5 w))
                      show Q 30 [(9, (0, 0, 2, 15, w + 1)), (5, (0, 0, 1, 197, st + 1)), (4, (0, 0, 1, 197, cr + 1)), (7, (0, 0, 1, 14, w)), (6, (0, 0, 0, 13, v)), (10, (0, 0, 1, 1, 1)), (8, (0, 0, 0, 13, v)), (0, (2, 34, 0, 0, 0)), (1, (2, 1, 0, 0, 0)), (2, (0, 0, 0, 50, sl)), (3, (2, 48, 0, 0, 0))] [] M
                      have en1 : cr + 1 = pl_sm (pl_nv (pl_P1 (M 9) (M 10) (M 5) (M 6) (M 4) (M 7) (M 8) (M 1 10)) (M 1 9).toNat) v.toNat + pl_ct (fun w => v < w ∧ (pl_P1 (M 9) (M 10) (M 5) (M 6) (M 4) (M 7) (M 8) (M 1 10)) v w) (w + 1).toNat := by
                        rw [show (w + 1).toNat = w.toNat + 1 by omega, pl_ct1 (show (fun w => v < w ∧ (pl_P1 (M 9) (M 10) (M 5) (M 6) (M 4) (M 7) (M 8) (M 1 10)) v w) ((w.toNat : Nat) : Int) by rw [ew]; exact ⟨by omega, c2, i3⟩), h4]
                        omega
                      have en2 : st + 1 = pl_sm (pl_nv (pl_P2 (M 5) (M 6)) (M 1 9).toNat) v.toNat + pl_ct (fun w => v < w ∧ (pl_P2 (M 5) (M 6)) v w) (w + 1).toNat := by
                        rw [show (w + 1).toNat = w.toNat + 1 by omega, pl_ct1 (show (fun w => v < w ∧ (pl_P2 (M 5) (M 6)) v w) ((w.toNat : Nat) : Int) by rw [ew]; exact ⟨by omega, c2, c10⟩), h5]
                        omega
                      refine hgo.2.1 30 _ [(9, (0, 0, 1, 14, w + 1)), (8, (0, 0, 0, 13, v)), (4, (0, 0, 0, 196, cr + 1)), (5, (0, 0, 0, 196, st + 1)), (6, (0, 0, (-1), 13, v)), (7, (0, 0, (-1), 13, w)), (0, (2, 34, 0, 0, 0)), (1, (2, 1, 0, 0, 0)), (2, (0, 0, 0, 50, sl)), (3, (2, 48, 0, 0, 0))] _ _ (xa_subI rfl rfl (fun _ _ _ _ => by omega) (xa_subI rfl rfl (fun _ _ _ _ => by omega) (xa_subI rfl rfl (fun _ _ _ _ => by omega) (xa_subI rfl rfl (fun _ _ _ _ => by omega) (xa_subI rfl rfl (fun _ _ _ _ => by omega) (xa_subI rfl rfl (fun _ _ _ _ => by omega) (xa_subR rfl (xa_subR rfl (xa_subI rfl rfl (fun _ _ _ _ => by omega) (xa_subR rfl (xa_sub0))))))))))) ?_
                      exact ih2 (w + 1) (cr + 1) (st + 1) v w (by omega) (by omega) (by omega) en1 en2 (by omega)
              · intro (i11 : ¬ pl_cr (M 9) (M 10) (M 5) (M 4) (M 7) (M 8) (M 1 10) v w)
                show xa_C (xl_I b) A h0 _ 37 [(2, 1, 0, 0, 0), (0, 0, 0, 13, v)] M _
                refine cx_37_1 (show 0 ≤ v ∧ v < 14 by omega) ?_
                show xa_C (xl_I b) A h0 _ 37 [(2, 1, 0, 0, 0), (0, 0, 1, 14, w)] M _
                refine cx_37_1 (show 0 ≤ w ∧ w < 14 by omega) ?_
                refine And.intro ?_ ?_
                · intro (c12 : ¬ (M 5 v) = (M 5 w))
                  show Q 30 [(9, (0, 0, 2, 15, w + 1)), (5, (0, 0, 0, 196, st + 0)), (10, (0, 0, 1, 1, 1)), (8, (0, 0, 0, 13, v)), (4, (0, 0, 0, 196, cr)), (6, (0, 0, (-1), 13, fv)), (7, (0, 0, (-1), 13, fw)), (0, (2, 34, 0, 0, 0)), (1, (2, 1, 0, 0, 0)), (2, (0, 0, 0, 50, sl)), (3, (2, 48, 0, 0, 0))] [] M
                  have en1 : cr = pl_sm (pl_nv (pl_P1 (M 9) (M 10) (M 5) (M 6) (M 4) (M 7) (M 8) (M 1 10)) (M 1 9).toNat) v.toNat + pl_ct (fun w => v < w ∧ (pl_P1 (M 9) (M 10) (M 5) (M 6) (M 4) (M 7) (M 8) (M 1 10)) v w) (w + 1).toNat := by
                    rw [show (w + 1).toNat = w.toNat + 1 by omega, pl_ct0 (show ¬ (fun w => v < w ∧ (pl_P1 (M 9) (M 10) (M 5) (M 6) (M 4) (M 7) (M 8) (M 1 10)) v w) ((w.toNat : Nat) : Int) by rw [ew]; exact (fun h => i11 h.2.2)), h4]
                  have en2 : st + 0 = pl_sm (pl_nv (pl_P2 (M 5) (M 6)) (M 1 9).toNat) v.toNat + pl_ct (fun w => v < w ∧ (pl_P2 (M 5) (M 6)) v w) (w + 1).toNat := by
                    rw [show (w + 1).toNat = w.toNat + 1 by omega, pl_ct0 (show ¬ (fun w => v < w ∧ (pl_P2 (M 5) (M 6)) v w) ((w.toNat : Nat) : Int) by rw [ew]; exact (fun h => c12 h.2.2)), h5]
                    omega
                  refine hgo.2.1 30 _ [(9, (0, 0, 1, 14, w + 1)), (8, (0, 0, 0, 13, v)), (4, (0, 0, 0, 196, cr)), (5, (0, 0, 0, 196, st + 0)), (6, (0, 0, (-1), 13, fv)), (7, (0, 0, (-1), 13, fw)), (0, (2, 34, 0, 0, 0)), (1, (2, 1, 0, 0, 0)), (2, (0, 0, 0, 50, sl)), (3, (2, 48, 0, 0, 0))] _ _ (xa_subI rfl rfl (fun _ _ _ _ => by omega) (xa_subI rfl rfl (fun _ _ _ _ => by omega) (xa_subI rfl rfl (fun _ _ _ _ => by omega) (xa_subI rfl rfl (fun _ _ _ _ => by omega) (xa_subI rfl rfl (fun _ _ _ _ => by omega) (xa_subI rfl rfl (fun _ _ _ _ => by omega) (xa_subR rfl (xa_subR rfl (xa_subI rfl rfl (fun _ _ _ _ => by omega) (xa_subR rfl (xa_sub0))))))))))) ?_
                  exact ih2 (w + 1) cr (st + 0) fv fw (by omega) (by omega) (by omega) en1 en2 (by omega)
                · intro (c12 : (M 5 v) = (M 5 w))
                  show Q 30 [(9, (0, 0, 2, 15, w + 1)), (5, (0, 0, 1, 197, st + 1)), (10, (0, 0, 1, 1, 1)), (8, (0, 0, 0, 13, v)), (4, (0, 0, 0, 196, cr)), (6, (0, 0, (-1), 13, fv)), (7, (0, 0, (-1), 13, fw)), (0, (2, 34, 0, 0, 0)), (1, (2, 1, 0, 0, 0)), (2, (0, 0, 0, 50, sl)), (3, (2, 48, 0, 0, 0))] [] M
                  have en1 : cr = pl_sm (pl_nv (pl_P1 (M 9) (M 10) (M 5) (M 6) (M 4) (M 7) (M 8) (M 1 10)) (M 1 9).toNat) v.toNat + pl_ct (fun w => v < w ∧ (pl_P1 (M 9) (M 10) (M 5) (M 6) (M 4) (M 7) (M 8) (M 1 10)) v w) (w + 1).toNat := by
                    rw [show (w + 1).toNat = w.toNat + 1 by omega, pl_ct0 (show ¬ (fun w => v < w ∧ (pl_P1 (M 9) (M 10) (M 5) (M 6) (M 4) (M 7) (M 8) (M 1 10)) v w) ((w.toNat : Nat) : Int) by rw [ew]; exact (fun h => i11 h.2.2)), h4]
                  have en2 : st + 1 = pl_sm (pl_nv (pl_P2 (M 5) (M 6)) (M 1 9).toNat) v.toNat + pl_ct (fun w => v < w ∧ (pl_P2 (M 5) (M 6)) v w) (w + 1).toNat := by
                    rw [show (w + 1).toNat = w.toNat + 1 by omega, pl_ct1 (show (fun w => v < w ∧ (pl_P2 (M 5) (M 6)) v w) ((w.toNat : Nat) : Int) by rw [ew]; exact ⟨by omega, c2, c12⟩), h5]
                    omega
                  refine hgo.2.1 30 _ [(9, (0, 0, 1, 14, w + 1)), (8, (0, 0, 0, 13, v)), (4, (0, 0, 0, 196, cr)), (5, (0, 0, 0, 196, st + 1)), (6, (0, 0, (-1), 13, fv)), (7, (0, 0, (-1), 13, fw)), (0, (2, 34, 0, 0, 0)), (1, (2, 1, 0, 0, 0)), (2, (0, 0, 0, 50, sl)), (3, (2, 48, 0, 0, 0))] _ _ (xa_subI rfl rfl (fun _ _ _ _ => by omega) (xa_subI rfl rfl (fun _ _ _ _ => by omega) (xa_subI rfl rfl (fun _ _ _ _ => by omega) (xa_subI rfl rfl (fun _ _ _ _ => by omega) (xa_subI rfl rfl (fun _ _ _ _ => by omega) (xa_subI rfl rfl (fun _ _ _ _ => by omega) (xa_subR rfl (xa_subR rfl (xa_subI rfl rfl (fun _ _ _ _ => by omega) (xa_subR rfl (xa_sub0))))))))))) ?_
                  exact ih2 (w + 1) cr (st + 1) fv fw (by omega) (by omega) (by omega) en1 en2 (by omega)
      refine hgo.1 36 [15, 30] 15 _ _ _ ?_
      refine And.intro ?_ ?_
      · intro (c1 : (M 1 9) ≤ v)
        show xa_C (xl_I b) A h0 _ 60 [(2, 48, 0, 0, 0), (1, 0, 0, 196, cr)] M _
        refine cx_60k (N := M) (by first | assumption | exact hK0) (show 0 ≤ (M 48 1) by omega) ?_
        intro M106 (i2 : pl_K M M106) (i3 : 0 ≤ M106 48 1)
        show xa_C (xl_I b) A h0 _ 60 [(2, 48, 0, 0, 0), (1, 0, (-1), 13, fv)] M106 _
        refine cx_60k (N := M) (by first | assumption | exact hK0) (show 0 ≤ (M106 48 1) by omega) ?_
        intro M107 (i4 : pl_K M M107) (i5 : 0 ≤ M107 48 1)
        show xa_C (xl_I b) A h0 _ 60 [(2, 48, 0, 0, 0), (1, 0, (-1), 13, fw)] M107 _
        refine cx_60k (N := M) (by first | assumption | exact hK0) (show 0 ≤ (M107 48 1) by omega) ?_
        intro M108 (i6 : pl_K M M108) (i7 : 0 ≤ M108 48 1)
        show xa_C (xl_I b) A h0 _ 145 [(2, 1, 0, 0, 0), (0, 0, (-1), (-1), (-1)), (2, 48, 0, 0, 0)] M108 _
        refine cx_145aN (N := M) (by first | assumption | exact hK0) hF (show 0 ≤ (M108 48 1) by omega) ?_
        intro M109 (i8 : pl_K M M109) (i9 : 0 ≤ M109 48 1)
        show xa_C (xl_I b) A h0 _ 145 [(2, 1, 0, 0, 0), (0, 0, 0, 50, sl), (2, 48, 0, 0, 0)] M109 _
        refine cx_145bN (N := M) (by first | assumption | exact hK0) hF h2 (show 0 ≤ (M109 48 1) by omega) ?_
        intro M110 (i10 : pl_K M M110) (i11 : 0 ≤ M110 48 1)
        show xa_C (xl_I b) A h0 _ 148 [(0, 0, 0, 196, st), (2, 48, 0, 0, 0)] M110 _
        refine cx_148kN (N := M) (by first | assumption | exact hK0) (show 0 ≤ st ∧ st ≤ 196 by omega) (show 0 ≤ (M110 48 1) by omega) ?_
        intro M111 (i12 : pl_K M M111) (i13 : 0 ≤ M111 48 1)
        show xa_wk post (some (0, 0, 0, 424, ((cr + (pl_ct (pl_sk (M 6) (M 7) (M 8)) (M 1 10).toNat)) + (pl_ct (pl_of (M 9) (M 10) (M 5) (M 4) (M 7) (M 8) sl) (M 1 10).toNat)) + st)) M111
        have ev : v = M 1 9 := by omega
        rw [ev] at h4 h5
        have q1 := pl_ct_r (P := (pl_sk (M 6) (M 7) (M 8))) (M 1 10).toNat
        have q2 := pl_ct_r (P := (pl_of (M 9) (M 10) (M 5) (M 4) (M 7) (M 8) sl)) (M 1 10).toNat
        have ex : ((cr + (pl_ct (pl_sk (M 6) (M 7) (M 8)) (M 1 10).toNat)) + (pl_ct (pl_of (M 9) (M 10) (M 5) (M 4) (M 7) (M 8) sl) (M 1 10).toNat)) + st = pl_all (M 9) (M 10) (M 5) (M 6) (M 4) (M 7) (M 8) (M 1 9) (M 1 10) sl := by
          unfold pl_all pl_pa
          rw [← h4, ← h5]
        exact xa_wkI _ ex (fun _ _ => by omega) (k _ i12 i13)
      · intro (c1 : v < (M 1 9))
        show Q 30 [(9, (0, 0, 1, 15, v + 1)), (8, (0, 0, 0, 14, v)), (4, (0, 0, 0, 196, cr)), (5, (0, 0, 0, 196, st)), (6, (0, 0, (-1), 13, fv)), (7, (0, 0, (-1), 13, fw)), (0, (2, 34, 0, 0, 0)), (1, (2, 1, 0, 0, 0)), (2, (0, 0, 0, 50, sl)), (3, (2, 48, 0, 0, 0))] [] M
        have hz1 : pl_ct (fun w => v < w ∧ (pl_P1 (M 9) (M 10) (M 5) (M 6) (M 4) (M 7) (M 8) (M 1 10)) v w) (v + 1).toNat = 0 := pl_ct_z _ (fun k hk h => by have := h.1; omega)
        have hz2 : pl_ct (fun w => v < w ∧ (pl_P2 (M 5) (M 6)) v w) (v + 1).toNat = 0 := pl_ct_z _ (fun k hk h => by have := h.1; omega)
        refine hgo.2.1 30 _ [(9, (0, 0, 1, 14, v + 1)), (8, (0, 0, 0, 13, v)), (4, (0, 0, 0, 196, cr)), (5, (0, 0, 0, 196, st)), (6, (0, 0, (-1), 13, fv)), (7, (0, 0, (-1), 13, fw)), (0, (2, 34, 0, 0, 0)), (1, (2, 1, 0, 0, 0)), (2, (0, 0, 0, 50, sl)), (3, (2, 48, 0, 0, 0))] _ _ (xa_subI rfl rfl (fun _ _ _ _ => by omega) (xa_subI rfl rfl (fun _ _ _ _ => by omega) (xa_subI rfl rfl (fun _ _ _ _ => by omega) (xa_subI rfl rfl (fun _ _ _ _ => by omega) (xa_subI rfl rfl (fun _ _ _ _ => by omega) (xa_subI rfl rfl (fun _ _ _ _ => by omega) (xa_subR rfl (xa_subR rfl (xa_subI rfl rfl (fun _ _ _ _ => by omega) (xa_subR rfl (xa_sub0))))))))))) ?_
        exact inner (by omega) 15 (v + 1) cr st fv fw (by omega) (by omega) (by omega) (by rw [hz1, ← h4]; omega) (by rw [hz2, ← h5]; omega) (by omega)
  refine hgo.1 15 [15, 30] 0 _ _ _ ?_
  show Q 15 [(8, (0, 0, 0, 0, 0)), (7, (0, 0, (-1), (-1), (-1))), (6, (0, 0, (-1), (-1), (-1))), (5, (0, 0, 0, 0, 0)), (4, (0, 0, 0, 0, 0)), (0, (2, 34, 0, 0, 0)), (1, (2, 1, 0, 0, 0)), (2, (0, 0, 0, 50, sl)), (3, (2, 48, 0, 0, 0))] [] M
  refine hgo.2.1 15 _ [(8, (0, 0, 0, 14, 0)), (4, (0, 0, 0, 196, 0)), (5, (0, 0, 0, 196, 0)), (6, (0, 0, (-1), 13, (-1))), (7, (0, 0, (-1), 13, (-1))), (0, (2, 34, 0, 0, 0)), (1, (2, 1, 0, 0, 0)), (2, (0, 0, 0, 50, sl)), (3, (2, 48, 0, 0, 0))] _ _ (xa_subI rfl rfl (fun _ _ _ _ => by omega) (xa_subI rfl rfl (fun _ _ _ _ => by omega) (xa_subI rfl rfl (fun _ _ _ _ => by omega) (xa_subI rfl rfl (fun _ _ _ _ => by omega) (xa_subI rfl rfl (fun _ _ _ _ => by omega) (xa_subR rfl (xa_subR rfl (xa_subI rfl rfl (fun _ _ _ _ => by omega) (xa_subR rfl (xa_sub0)))))))))) ?_
  exact loop 15 0 0 0 (-1) (-1) (by omega) (by omega) (by omega) rfl rfl (by omega)
theorem cx_141pN {b : Bool} {A : Nat → Nat} {h0 : g_H} {d : Nat} {M : xa_M} {post : Option xa_V → xa_M → Prop} {l2 u2 sl : Int} {N : xa_M} (hK : pl_K N M) (hF : pl_F N) (h2 : 0 ≤ sl ∧ sl ≤ 50) (h48 : 0 ≤ M 48 1) (k : ∀ M1 : xa_M, pl_K N M1 → post (some (0, 0, 0, 1000, pl_all (N 9) (N 10) (N 5) (N 6) (N 4) (N 7) (N 8) (N 1 9) (N 1 10) sl)) M1) : xa_C (xl_I b) A h0 (d + 6) 141 [(2, 34, 0, 0, 0), (2, 1, 0, 0, 0), (0, 0, l2, u2, sl), (2, 48, 0, 0, 0)] M post := by
  refine cx_141p (pl_F_k hK hF) h2 h48 (fun M1 g1 g2 => ?_)
  have g := k M1 (fun q j h1 h2 => (g1 q j h1 h2).trans (hK q j h1 h2))
  rw [pl_Ke hK 9 (by decide) (by decide), pl_Ke hK 10 (by decide) (by decide), pl_Ke hK 5 (by decide) (by decide), pl_Ke hK 6 (by decide) (by decide), pl_Ke hK 4 (by decide) (by decide), pl_Ke hK 7 (by decide) (by decide), pl_Ke hK 8 (by decide) (by decide), pl_Ke hK 1 (by decide) (by decide)]
  exact g
theorem cw_140 {b : Bool} {A : Nat → Nat} {h0 : g_H} {d : Nat} {M : xa_M} {post : Option xa_V → xa_M → Prop} {l1 u1 sl : Int} (hF : pl_F M) (k1 : (0 ≤ sl ∧ sl ≤ 50) → ∀ M1 : xa_M, pl_K M M1 → post (some (0, 0, 0, 1000, pl_all (M 9) (M 10) (M 5) (M 6) (M 4) (M 7) (M 8) (M 1 9) (M 1 10) sl)) M1) (k0 : ¬ (0 ≤ sl ∧ sl ≤ 50) → post (some (0, 0, (-1), (-1), (-1))) M) : xa_C (xl_I b) A h0 (d + 7) 140 [(2, 0, 0, 0, 0), (0, 0, l1, u1, sl)] M post := by
  refine xa_C_arg [(2, 0, 0, 0, 0), (0, 0, (-2147483648), 2147483647, sl)] (xa_svR (xa_svI (fun _ _ _ _ => by omega) (xa_sv0))) ?_
  refine xa_meth (Q0 := (2, 1, false, 0, 0, 11)) (by decide +kernel) ⟨rfl, rfl⟩ (full := s_c_140) rfl rfl ?_
  intro hM hv Q hgo
  refine hgo.1 21 [] 0 _ _ _ ?_
  refine And.intro ?_ ?_
  · intro (c1 : sl < 0)
    show post (some (0, 0, (-1), (-1), (-1))) M
    exact k0 (by omega)
  · intro (c1 : 0 ≤ sl)
    refine And.intro ?_ ?_
    · intro (c2 : sl ≤ 50)
      show xa_C (xl_I b) A h0 _ 59 [(2, 48, 0, 0, 0)] M _
      refine cx_59_48 ?_
      show xa_C (xl_I b) A h0 _ 141 [(2, 34, 0, 0, 0), (2, 1, 0, 0, 0), (0, 0, (-2147483648), 2147483647, sl), (2, 48, 0, 0, 0)] (xa_up M 48 1 0) _
      refine cx_141pN (N := M) (fun q j h1 h2 => by first | rfl | (simp [xa_up, h1, h2])) hF (show 0 ≤ sl ∧ sl ≤ 50 by omega) (show (0 : Int) ≤ 0 by omega) ?_
      intro M112 (i3 : pl_K M M112)
      show post (some (0, 0, 0, 1000, pl_all (M 9) (M 10) (M 5) (M 6) (M 4) (M 7) (M 8) (M 1 9) (M 1 10) sl)) M112
      exact k1 (by omega) _ i3
    · intro (c2 : 50 < sl)
      show post (some (0, 0, (-1), (-1), (-1))) M
      exact k0 (by omega)
theorem ms_roomF {A : Nat → Nat} {h0 : g_H} {d : Nat} {M : xa_M} {post : Option xa_V → xa_M → Prop} {l1 u1 a : Int} (hI : xm_Inv M) (k1 : (0 ≤ a ∧ a ≤ 50) → ∀ M1 : xa_M, xm_cor M M1 → post (some (0, 0, 0, 1000, pl_all (M 68) (M 69) (M 64) (M 65) (M 63) (M 66) (M 67) (M 60 0) (M 60 6) a)) M1) (k0 : ¬ (0 ≤ a ∧ a ≤ 50) → ∀ M1 : xa_M, xm_cor M M1 → post (some (0, 0, (-1), (-1), (-1))) M1) : xa_C xm_I A h0 (d + 3) 263 [(2, 60, 0, 0, 0), (0, 0, l1, u1, a)] M post := by
  refine xa_C_wk ?_
  refine xa_C_arg [(2, 60, 0, 0, 0), (0, 0, (-2147483648), 2147483647, a)] (xa_svR (xa_svI (fun _ _ _ _ => by omega) (xa_sv0))) ?_
  refine xa_meth (Q0 := (16, 1, false, 0, 0, 12)) (by decide +kernel) ⟨rfl, rfl⟩ (full := s_c_263) rfl rfl ?_
  intro hM hv Q hgo
  have b0 := xm_f0 hM
  have b6 := xm_f6 hM
  have loops : ∀ (M1 : xa_M), xm_cor M M1 → 0 ≤ a ∧ a ≤ 50 → ∀ (n : Nat) (x6 x5 x4 x3 x2 : Int), 0 ≤ x6 ∧ x6 ≤ M1 60 0 → x2 = pl_sm (pl_nv (pl_P1 (M1 68) (M1 69) (M1 64) (M1 65) (M1 63) (M1 66) (M1 67) (M1 60 6)) (M1 60 0).toNat) x6.toNat → x5 = pl_sm (pl_nv (pl_P2 (M1 64) (M1 65)) (M1 60 0).toNat) x6.toNat → 14 - x6 < (n : Int) → Q 30 [(6, (0, 0, 0, 14, x6)), (5, (0, 0, 0, 196, x5)), (4, (0, 0, (-2147483648), 2147483647, x4)), (3, (0, 0, (-2147483648), 2147483647, x3)), (2, (0, 0, 0, 196, x2)), (1, (0, 0, 0, 50, a)), (0, (2, 60, 0, 0, 0))] [] M1 := by
    intro M1 hc b1
    have f63 : M1 63 = M 63 := funext (xm_corq hc 63 rfl)
    have f64 : M1 64 = M 64 := funext (xm_corq hc 64 rfl)
    have f65 : M1 65 = M 65 := funext (xm_corq hc 65 rfl)
    have f66 : M1 66 = M 66 := funext (xm_corq hc 66 rfl)
    have f67 : M1 67 = M 67 := funext (xm_corq hc 67 rfl)
    have f68 : M1 68 = M 68 := funext (xm_corq hc 68 rfl)
    have f69 : M1 69 = M 69 := funext (xm_corq hc 69 rfl)
    have e0 := xm_corf hc 0 (by omega)
    have e6 := xm_corf hc 6 (by omega)
    have t64 : ∀ v, 0 ≤ v → v < 14 → 0 ≤ M1 64 v ∧ M1 64 v ≤ 9 := fun v v0 v1 => by rw [f64]; exact xm_t64 hM v v0 v1
    have t66 : ∀ v, 0 ≤ v → v < 16 → 0 ≤ M1 66 v ∧ M1 66 v ≤ 13 := fun v v0 v1 => by rw [f66]; exact xm_t66 hM v v0 v1
    have t67 : ∀ v, 0 ≤ v → v < 16 → 0 ≤ M1 67 v ∧ M1 67 v ≤ 13 := fun v v0 v1 => by rw [f67]; exact xm_t67 hM v v0 v1
    have s1 := fun k => pl_sm_r (f := pl_nv (pl_P1 (M1 68) (M1 69) (M1 64) (M1 65) (M1 63) (M1 66) (M1 67) (M1 60 6)) (M1 60 0).toNat) (fun v => pl_nv_r (by omega) v) k
    have s2 := fun k => pl_sm_r (f := pl_nv (pl_P2 (M1 64) (M1 65)) (M1 60 0).toNat) (fun v => pl_nv_r (by omega) v) k
    have loop2 : ∀ (x5 x4 x3 x2 : Int), x2 = pl_sm (pl_nv (pl_P1 (M1 68) (M1 69) (M1 64) (M1 65) (M1 63) (M1 66) (M1 67) (M1 60 6)) (M1 60 0).toNat) (M1 60 0).toNat → x5 = pl_sm (pl_nv (pl_P2 (M1 64) (M1 65)) (M1 60 0).toNat) (M1 60 0).toNat → ∀ (n : Nat) (x10 x9 x8 x7 x6 : Int), -1 ≤ x10 ∧ x10 < M1 60 6 → x6 + pl_ct (pl_sk (M1 65) (M1 66) (M1 67)) (x10 + 1).toNat = pl_ct (pl_sk (M1 65) (M1 66) (M1 67)) (M1 60 6).toNat → x8 + pl_ct (pl_of (M1 68) (M1 69) (M1 64) (M1 63) (M1 66) (M1 67) a) (x10 + 1).toNat = pl_ct (pl_of (M1 68) (M1 69) (M1 64) (M1 63) (M1 66) (M1 67) a) (M1 60 6).toNat → x10 + 1 < (n : Int) → Q 165 [(10, (0, 0, (-1), 15, x10)), (9, (0, 0, (-2147483648), 2147483647, x9)), (8, (0, 0, 0, 16, x8)), (7, (0, 0, (-2147483648), 2147483647, x7)), (6, (0, 0, 0, 16, x6)), (5, (0, 0, 0, 196, x5)), (4, (0, 0, (-2147483648), 2147483647, x4)), (3, (0, 0, (-2147483648), 2147483647, x3)), (2, (0, 0, 0, 196, x2)), (1, (0, 0, 0, 50, a)), (0, (2, 60, 0, 0, 0))] [] M1 := by
      intro x5 x4 x3 x2 h2x h5x n
      have v1 := s1 (M1 60 0).toNat
      have v2 := s2 (M1 60 0).toNat
      have c1 := pl_ct_r (P := (pl_sk (M1 65) (M1 66) (M1 67))) (M1 60 6).toNat
      have c2 := pl_ct_r (P := (pl_of (M1 68) (M1 69) (M1 64) (M1 63) (M1 66) (M1 67) a)) (M1 60 6).toNat
      induction n with
      | zero => intro x10 x9 x8 x7 x6 b10 h6 h8 hms; omega
      | succ n ih =>
        intro x10 x9 x8 x7 x6 b10 h6 h8 hms
        have w1 := pl_ct_r (P := (pl_sk (M1 65) (M1 66) (M1 67))) (x10 + 1).toNat
        have w2 := pl_ct_r (P := (pl_of (M1 68) (M1 69) (M1 64) (M1 63) (M1 66) (M1 67) a)) (x10 + 1).toNat
        have g66 : 0 ≤ x10 → 0 ≤ M1 66 x10 ∧ M1 66 x10 ≤ 13 := fun h => t66 x10 h (by omega)
        have g67 : 0 ≤ x10 → 0 ≤ M1 67 x10 ∧ M1 67 x10 ≤ 13 := fun h => t67 x10 h (by omega)
        have g64 : 0 ≤ x10 → (0 ≤ M1 64 (M1 66 x10) ∧ M1 64 (M1 66 x10) ≤ 9) ∧ (0 ≤ M1 64 (M1 67 x10) ∧ M1 64 (M1 67 x10) ≤ 9) := fun h => ⟨t64 _ (g66 h).1 (by have := g66 h; omega), t64 _ (g67 h).1 (by have := g67 h; omega)⟩
        have ex10 : 0 ≤ x10 → ((x10.toNat : Nat) : Int) = x10 := fun h => Int.toNat_of_nonneg h
        refine hgo.1 81 [30, 45, 165] 165 _ _ _ ?_
        refine And.intro ?_ ?_
        · intro (c1 : x10 < 0)
          show xa_C xm_I A h0 _ 231 [(2, 60, 0, 0, 0), (1, 0, 0, 196, x2)] (xa_up M1 60 20 0) _
          refine ct_tell (n := 0) (by first | rfl | (simp [xa_up]; done) | omega) (by omega) (by omega) ?_
          show xa_C xm_I A h0 _ 231 [(2, 60, 0, 0, 0), (1, 0, (-2147483648), 2147483647, x3)] (xa_up (xa_up (xa_up M1 60 20 0) 74 0 x2) 60 20 1) _
          refine ct_tell (n := 1) (by first | rfl | (simp [xa_up]; done) | omega) (by omega) (by omega) ?_
          show xa_C xm_I A h0 _ 231 [(2, 60, 0, 0, 0), (1, 0, (-2147483648), 2147483647, x4)] (xa_up (xa_up (xa_up (xa_up (xa_up M1 60 20 0) 74 0 x2) 60 20 1) 74 1 x3) 60 20 2) _
          refine ct_tell (n := 2) (by first | rfl | (simp [xa_up]; done) | omega) (by omega) (by omega) ?_
          show xa_C xm_I A h0 _ 231 [(2, 60, 0, 0, 0), (1, 0, 0, 16, x6)] (xa_up (xa_up (xa_up (xa_up (xa_up (xa_up (xa_up M1 60 20 0) 74 0 x2) 60 20 1) 74 1 x3) 60 20 2) 74 2 x4) 60 20 3) _
          refine ct_tell (n := 3) (by first | rfl | (simp [xa_up]; done) | omega) (by omega) (by omega) ?_
          show xa_C xm_I A h0 _ 231 [(2, 60, 0, 0, 0), (1, 0, (-2147483648), 2147483647, x7)] (xa_up (xa_up (xa_up (xa_up (xa_up (xa_up (xa_up (xa_up (xa_up M1 60 20 0) 74 0 x2) 60 20 1) 74 1 x3) 60 20 2) 74 2 x4) 60 20 3) 74 3 x6) 60 20 4) _
          refine ct_tell (n := 4) (by first | rfl | (simp [xa_up]; done) | omega) (by omega) (by omega) ?_
          show xa_C xm_I A h0 _ 231 [(2, 60, 0, 0, 0), (1, 0, 0, 16, x8)] (xa_up (xa_up (xa_up (xa_up (xa_up (xa_up (xa_up (xa_up (xa_up (xa_up (xa_up M1 60 20 0) 74 0 x2) 60 20 1) 74 1 x3) 60 20 2) 74 2 x4) 60 20 3) 74 3 x6) 60 20 4) 74 4 x7) 60 20 5) _
          refine ct_tell (n := 5) (by first | rfl | (simp [xa_up]; done) | omega) (by omega) (by omega) ?_
          show xa_C xm_I A h0 _ 231 [(2, 60, 0, 0, 0), (1, 0, (-2147483648), 2147483647, x9)] (xa_up (xa_up (xa_up (xa_up (xa_up (xa_up (xa_up (xa_up (xa_up (xa_up (xa_up (xa_up (xa_up M1 60 20 0) 74 0 x2) 60 20 1) 74 1 x3) 60 20 2) 74 2 x4) 60 20 3) 74 3 x6) 60 20 4) 74 4 x7) 60 20 5) 74 5 x8) 60 20 6) _
          refine ct_tell (n := 6) (by first | rfl | (simp [xa_up]; done) | omega) (by omega) (by omega) ?_
          show xa_C xm_I A h0 _ 231 [(2, 60, 0, 0, 0), (1, 0, 0, 196, x5)] (xa_up (xa_up (xa_up (xa_up (xa_up (xa_up (xa_up (xa_up (xa_up (xa_up (xa_up (xa_up (xa_up (xa_up (xa_up M1 60 20 0) 74 0 x2) 60 20 1) 74 1 x3) 60 20 2) 74 2 x4) 60 20 3) 74 3 x6) 60 20 4) 74 4 x7) 60 20 5) 74 5 x8) 60 20 6) 74 6 x9) 60 20 7) _
          refine ct_tell (n := 7) (by first | rfl | (simp [xa_up]; done) | omega) (by omega) (by omega) ?_
          show xa_wk post (some (0, 0, 0, 424, ((x2 + x6) + x8) + x5)) (xa_up (xa_up (xa_up (xa_up (xa_up (xa_up (xa_up (xa_up (xa_up (xa_up (xa_up (xa_up (xa_up (xa_up (xa_up (xa_up (xa_up M1 60 20 0) 74 0 x2) 60 20 1) 74 1 x3) 60 20 2) 74 2 x4) 60 20 3) 74 3 x6) 60 20 4) 74 4 x7) 60 20 5) 74 5 x8) 60 20 6) 74 6 x9) 60 20 7) 74 7 x5) 60 20 8)
          have e10 : x10 = -1 := by omega
          rw [e10] at h6 h8
          have z6 : x6 + 0 = _ := h6
          have z8 : x8 + 0 = _ := h8
          refine xa_wkI _ ?_ (fun _ _ => by omega) (k1 b1 _ ?_)
          · unfold pl_all pl_pa
            rw [← f68, ← f69, ← f64, ← f65, ← f63, ← f66, ← f67, ← e0, ← e6]
            omega
          · exact (xm_cor_f (by omega) (xm_cor_a rfl (xm_cor_f (by omega) (xm_cor_a rfl (xm_cor_f (by omega) (xm_cor_a rfl (xm_cor_f (by omega) (xm_cor_a rfl (xm_cor_f (by omega) (xm_cor_a rfl (xm_cor_f (by omega) (xm_cor_a rfl (xm_cor_f (by omega) (xm_cor_a rfl (xm_cor_f (by omega) (xm_cor_a rfl (xm_cor_f (by omega) hc)))))))))))))))))
        · intro (c1 : 0 ≤ x10)
          refine And.intro (show 0 ≤ x10 ∧ x10 < 16 by omega) ?_
          refine And.intro (show 0 ≤ x10 ∧ x10 < 16 by omega) ?_
          refine And.intro ?_ ?_
          · intro (c2 : (M1 65 (M1 66 x10)) = (M1 65 (M1 67 x10)))
            show xa_C xm_I A h0 _ 265 [(2, 60, 0, 0, 0), (0, 0, 0, 9, M1 64 (M1 66 x10)), (0, 0, 0, 9, M1 64 (M1 67 x10))] M1 _
            refine ct_apart (by omega) (by omega) (by omega) (by omega) ?_
            intro r113 (i3 : r113 = (M1 68 (M1 64 (M1 66 x10)) - M1 68 (M1 64 (M1 67 x10))) * (M1 68 (M1 64 (M1 66 x10)) - M1 68 (M1 64 (M1 67 x10))) + (M1 69 (M1 64 (M1 66 x10)) - M1 69 (M1 64 (M1 67 x10))) * (M1 69 (M1 64 (M1 66 x10)) - M1 69 (M1 64 (M1 67 x10))))
            refine And.intro ?_ ?_
            · intro (c4 : ((((M1 63 (M1 66 x10)) + (M1 63 (M1 67 x10))) + a) * (((M1 63 (M1 66 x10)) + (M1 63 (M1 67 x10))) + a)) < r113)
              show Q 165 [(10, (0, 0, (-2), 14, x10 + (-1))), (9, (0, 0, (-1), 15, x10)), (8, (0, 0, 1, 17, x8 + 1)), (15, (0, 0, (-50), 800, ((M1 63 (M1 66 x10)) + (M1 63 (M1 67 x10))) - a)), (14, (0, 0, 0, 850, ((M1 63 (M1 66 x10)) + (M1 63 (M1 67 x10))) + a)), (13, (0, 0, 0, 2000000, r113)), (12, (0, 0, 0, 13, M1 67 x10)), (11, (0, 0, 0, 13, M1 66 x10)), (7, (0, 0, (-2147483648), 2147483647, x7)), (6, (0, 0, 0, 16, x6)), (5, (0, 0, 0, 196, x5)), (4, (0, 0, (-2147483648), 2147483647, x4)), (3, (0, 0, (-2147483648), 2147483647, x3)), (2, (0, 0, 0, 196, x2)), (1, (0, 0, 0, 50, a)), (0, (2, 60, 0, 0, 0))] [] M1
              have y1 := pl_ct_r (P := (pl_sk (M1 65) (M1 66) (M1 67))) (x10 + (-1) + 1).toNat
              have y2 := pl_ct_r (P := (pl_of (M1 68) (M1 69) (M1 64) (M1 63) (M1 66) (M1 67) a)) (x10 + (-1) + 1).toNat
              have ep : (x10 + (-1) + 1).toNat = x10.toNat := by omega
              have e6x : x6 + pl_ct (pl_sk (M1 65) (M1 66) (M1 67)) (x10 + (-1) + 1).toNat = pl_ct (pl_sk (M1 65) (M1 66) (M1 67)) (M1 60 6).toNat := by
                rw [ep, ← h6, show (x10 + 1).toNat = x10.toNat + 1 by omega, pl_ct0 (show ¬ (pl_sk (M1 65) (M1 66) (M1 67)) ((x10.toNat : Nat) : Int) by rw [ex10 (by omega)]; unfold pl_sk; omega)]
              have e8x : x8 + 1 + pl_ct (pl_of (M1 68) (M1 69) (M1 64) (M1 63) (M1 66) (M1 67) a) (x10 + (-1) + 1).toNat = pl_ct (pl_of (M1 68) (M1 69) (M1 64) (M1 63) (M1 66) (M1 67) a) (M1 60 6).toNat := by
                rw [ep, ← h8, show (x10 + 1).toNat = x10.toNat + 1 by omega, pl_ct1 (show (pl_of (M1 68) (M1 69) (M1 64) (M1 63) (M1 66) (M1 67) a) ((x10.toNat : Nat) : Int) by rw [ex10 (by omega)]; unfold pl_of pl_sq; omega)]
                omega
              refine hgo.2.1 165 _ [(10, (0, 0, (-1), 15, x10 + (-1))), (9, (0, 0, (-2147483648), 2147483647, x10)), (8, (0, 0, 0, 16, x8 + 1)), (7, (0, 0, (-2147483648), 2147483647, x7)), (6, (0, 0, 0, 16, x6)), (5, (0, 0, 0, 196, x5)), (4, (0, 0, (-2147483648), 2147483647, x4)), (3, (0, 0, (-2147483648), 2147483647, x3)), (2, (0, 0, 0, 196, x2)), (1, (0, 0, 0, 50, a)), (0, (2, 60, 0, 0, 0))] _ _ (xa_subI rfl rfl (fun _ _ _ _ => by omega) (xa_subI rfl rfl (fun _ _ _ _ => by omega) (xa_subI rfl rfl (fun _ _ _ _ => by omega) (xa_subI rfl rfl (fun _ _ _ _ => by omega) (xa_subI rfl rfl (fun _ _ _ _ => by omega) (xa_subI rfl rfl (fun _ _ _ _ => by omega) (xa_subI rfl rfl (fun _ _ _ _ => by omega) (xa_subI rfl rfl (fun _ _ _ _ => by omega) (xa_subI rfl rfl (fun _ _ _ _ => by omega) (xa_subI rfl rfl (fun _ _ _ _ => by omega) (xa_subR rfl (xa_sub0)))))))))))) ?_
              exact ih (x10 + (-1)) x10 (x8 + 1) x7 x6 (by omega) e6x e8x (by omega)
            · intro (c4 : r113 ≤ ((((M1 63 (M1 66 x10)) + (M1 63 (M1 67 x10))) + a) * (((M1 63 (M1 66 x10)) + (M1 63 (M1 67 x10))) + a)))
              refine And.intro ?_ ?_
              · intro (c5 : (((M1 63 (M1 66 x10)) + (M1 63 (M1 67 x10))) - a) ≤ 0)
                show Q 165 [(10, (0, 0, (-2), 14, x10 + (-1))), (15, (0, 0, (-50), 800, ((M1 63 (M1 66 x10)) + (M1 63 (M1 67 x10))) - a)), (14, (0, 0, 0, 850, ((M1 63 (M1 66 x10)) + (M1 63 (M1 67 x10))) + a)), (13, (0, 0, 0, 2000000, r113)), (12, (0, 0, 0, 13, M1 67 x10)), (11, (0, 0, 0, 13, M1 66 x10)), (9, (0, 0, (-2147483648), 2147483647, x9)), (8, (0, 0, 0, 16, x8)), (7, (0, 0, (-2147483648), 2147483647, x7)), (6, (0, 0, 0, 16, x6)), (5, (0, 0, 0, 196, x5)), (4, (0, 0, (-2147483648), 2147483647, x4)), (3, (0, 0, (-2147483648), 2147483647, x3)), (2, (0, 0, 0, 196, x2)), (1, (0, 0, 0, 50, a)), (0, (2, 60, 0, 0, 0))] [] M1
                have y1 := pl_ct_r (P := (pl_sk (M1 65) (M1 66) (M1 67))) (x10 + (-1) + 1).toNat
                have y2 := pl_ct_r (P := (pl_of (M1 68) (M1 69) (M1 64) (M1 63) (M1 66) (M1 67) a)) (x10 + (-1) + 1).toNat
                have ep : (x10 + (-1) + 1).toNat = x10.toNat := by omega
                have e6x : x6 + pl_ct (pl_sk (M1 65) (M1 66) (M1 67)) (x10 + (-1) + 1).toNat = pl_ct (pl_sk (M1 65) (M1 66) (M1 67)) (M1 60 6).toNat := by
                  rw [ep, ← h6, show (x10 + 1).toNat = x10.toNat + 1 by omega, pl_ct0 (show ¬ (pl_sk (M1 65) (M1 66) (M1 67)) ((x10.toNat : Nat) : Int) by rw [ex10 (by omega)]; unfold pl_sk; omega)]
                have e8x : x8 + pl_ct (pl_of (M1 68) (M1 69) (M1 64) (M1 63) (M1 66) (M1 67) a) (x10 + (-1) + 1).toNat = pl_ct (pl_of (M1 68) (M1 69) (M1 64) (M1 63) (M1 66) (M1 67) a) (M1 60 6).toNat := by
                  rw [ep, ← h8, show (x10 + 1).toNat = x10.toNat + 1 by omega, pl_ct0 (show ¬ (pl_of (M1 68) (M1 69) (M1 64) (M1 63) (M1 66) (M1 67) a) ((x10.toNat : Nat) : Int) by rw [ex10 (by omega)]; unfold pl_of pl_sq; omega)]
                refine hgo.2.1 165 _ [(10, (0, 0, (-1), 15, x10 + (-1))), (9, (0, 0, (-2147483648), 2147483647, x9)), (8, (0, 0, 0, 16, x8)), (7, (0, 0, (-2147483648), 2147483647, x7)), (6, (0, 0, 0, 16, x6)), (5, (0, 0, 0, 196, x5)), (4, (0, 0, (-2147483648), 2147483647, x4)), (3, (0, 0, (-2147483648), 2147483647, x3)), (2, (0, 0, 0, 196, x2)), (1, (0, 0, 0, 50, a)), (0, (2, 60, 0, 0, 0))] _ _ (xa_subI rfl rfl (fun _ _ _ _ => by omega) (xa_subI rfl rfl (fun _ _ _ _ => by omega) (xa_subI rfl rfl (fun _ _ _ _ => by omega) (xa_subI rfl rfl (fun _ _ _ _ => by omega) (xa_subI rfl rfl (fun _ _ _ _ => by omega) (xa_subI rfl rfl (fun _ _ _ _ => by omega) (xa_subI rfl rfl (fun _ _ _ _ => by omega) (xa_subI rfl rfl (fun _ _ _ _ => by omega) (xa_subI rfl rfl (fun _ _ _ _ => by omega) (xa_subI rfl rfl (fun _ _ _ _ => by omega) (xa_subR rfl (xa_sub0)))))))))))) ?_
                exact ih (x10 + (-1)) x9 x8 x7 x6 (by omega) e6x e8x (by omega)
              · intro (c5 : 0 < (((M1 63 (M1 66 x10)) + (M1 63 (M1 67 x10))) - a))
                refine And.intro ?_ ?_
                · intro (c6 : ((((M1 63 (M1 66 x10)) + (M1 63 (M1 67 x10))) - a) * (((M1 63 (M1 66 x10)) + (M1 63 (M1 67 x10))) - a)) ≤ r113)
                  show Q 165 [(10, (0, 0, (-2), 14, x10 + (-1))), (15, (0, 0, (-50), 800, ((M1 63 (M1 66 x10)) + (M1 63 (M1 67 x10))) - a)), (14, (0, 0, 0, 850, ((M1 63 (M1 66 x10)) + (M1 63 (M1 67 x10))) + a)), (13, (0, 0, 0, 2000000, r113)), (12, (0, 0, 0, 13, M1 67 x10)), (11, (0, 0, 0, 13, M1 66 x10)), (9, (0, 0, (-2147483648), 2147483647, x9)), (8, (0, 0, 0, 16, x8)), (7, (0, 0, (-2147483648), 2147483647, x7)), (6, (0, 0, 0, 16, x6)), (5, (0, 0, 0, 196, x5)), (4, (0, 0, (-2147483648), 2147483647, x4)), (3, (0, 0, (-2147483648), 2147483647, x3)), (2, (0, 0, 0, 196, x2)), (1, (0, 0, 0, 50, a)), (0, (2, 60, 0, 0, 0))] [] M1
                  have y1 := pl_ct_r (P := (pl_sk (M1 65) (M1 66) (M1 67))) (x10 + (-1) + 1).toNat
                  have y2 := pl_ct_r (P := (pl_of (M1 68) (M1 69) (M1 64) (M1 63) (M1 66) (M1 67) a)) (x10 + (-1) + 1).toNat
                  have ep : (x10 + (-1) + 1).toNat = x10.toNat := by omega
                  have e6x : x6 + pl_ct (pl_sk (M1 65) (M1 66) (M1 67)) (x10 + (-1) + 1).toNat = pl_ct (pl_sk (M1 65) (M1 66) (M1 67)) (M1 60 6).toNat := by
                    rw [ep, ← h6, show (x10 + 1).toNat = x10.toNat + 1 by omega, pl_ct0 (show ¬ (pl_sk (M1 65) (M1 66) (M1 67)) ((x10.toNat : Nat) : Int) by rw [ex10 (by omega)]; unfold pl_sk; omega)]
                  have e8x : x8 + pl_ct (pl_of (M1 68) (M1 69) (M1 64) (M1 63) (M1 66) (M1 67) a) (x10 + (-1) + 1).toNat = pl_ct (pl_of (M1 68) (M1 69) (M1 64) (M1 63) (M1 66) (M1 67) a) (M1 60 6).toNat := by
                    rw [ep, ← h8, show (x10 + 1).toNat = x10.toNat + 1 by omega, pl_ct0 (show ¬ (pl_of (M1 68) (M1 69) (M1 64) (M1 63) (M1 66) (M1 67) a) ((x10.toNat : Nat) : Int) by rw [ex10 (by omega)]; unfold pl_of pl_sq; omega)]
                  refine hgo.2.1 165 _ [(10, (0, 0, (-1), 15, x10 + (-1))), (9, (0, 0, (-2147483648), 2147483647, x9)), (8, (0, 0, 0, 16, x8)), (7, (0, 0, (-2147483648), 2147483647, x7)), (6, (0, 0, 0, 16, x6)), (5, (0, 0, 0, 196, x5)), (4, (0, 0, (-2147483648), 2147483647, x4)), (3, (0, 0, (-2147483648), 2147483647, x3)), (2, (0, 0, 0, 196, x2)), (1, (0, 0, 0, 50, a)), (0, (2, 60, 0, 0, 0))] _ _ (xa_subI rfl rfl (fun _ _ _ _ => by omega) (xa_subI rfl rfl (fun _ _ _ _ => by omega) (xa_subI rfl rfl (fun _ _ _ _ => by omega) (xa_subI rfl rfl (fun _ _ _ _ => by omega) (xa_subI rfl rfl (fun _ _ _ _ => by omega) (xa_subI rfl rfl (fun _ _ _ _ => by omega) (xa_subI rfl rfl (fun _ _ _ _ => by omega) (xa_subI rfl rfl (fun _ _ _ _ => by omega) (xa_subI rfl rfl (fun _ _ _ _ => by omega) (xa_subI rfl rfl (fun _ _ _ _ => by omega) (xa_subR rfl (xa_sub0)))))))))))) ?_
                  exact ih (x10 + (-1)) x9 x8 x7 x6 (by omega) e6x e8x (by omega)
                · intro (c6 : r113 < ((((M1 63 (M1 66 x10)) + (M1 63 (M1 67 x10))) - a) * (((M1 63 (M1 66 x10)) + (M1 63 (M1 67 x10))) - a)))
                  show Q 165 [(10, (0, 0, (-2), 14, x10 + (-1))), (9, (0, 0, (-1), 15, x10)), (8, (0, 0, 1, 17, x8 + 1)), (15, (0, 0, (-50), 800, ((M1 63 (M1 66 x10)) + (M1 63 (M1 67 x10))) - a)), (14, (0, 0, 0, 850, ((M1 63 (M1 66 x10)) + (M1 63 (M1 67 x10))) + a)), (13, (0, 0, 0, 2000000, r113)), (12, (0, 0, 0, 13, M1 67 x10)), (11, (0, 0, 0, 13, M1 66 x10)), (7, (0, 0, (-2147483648), 2147483647, x7)), (6, (0, 0, 0, 16, x6)), (5, (0, 0, 0, 196, x5)), (4, (0, 0, (-2147483648), 2147483647, x4)), (3, (0, 0, (-2147483648), 2147483647, x3)), (2, (0, 0, 0, 196, x2)), (1, (0, 0, 0, 50, a)), (0, (2, 60, 0, 0, 0))] [] M1
                  have y1 := pl_ct_r (P := (pl_sk (M1 65) (M1 66) (M1 67))) (x10 + (-1) + 1).toNat
                  have y2 := pl_ct_r (P := (pl_of (M1 68) (M1 69) (M1 64) (M1 63) (M1 66) (M1 67) a)) (x10 + (-1) + 1).toNat
                  have ep : (x10 + (-1) + 1).toNat = x10.toNat := by omega
                  have e6x : x6 + pl_ct (pl_sk (M1 65) (M1 66) (M1 67)) (x10 + (-1) + 1).toNat = pl_ct (pl_sk (M1 65) (M1 66) (M1 67)) (M1 60 6).toNat := by
                    rw [ep, ← h6, show (x10 + 1).toNat = x10.toNat + 1 by omega, pl_ct0 (show ¬ (pl_sk (M1 65) (M1 66) (M1 67)) ((x10.toNat : Nat) : Int) by rw [ex10 (by omega)]; unfold pl_sk; omega)]
                  have e8x : x8 + 1 + pl_ct (pl_of (M1 68) (M1 69) (M1 64) (M1 63) (M1 66) (M1 67) a) (x10 + (-1) + 1).toNat = pl_ct (pl_of (M1 68) (M1 69) (M1 64) (M1 63) (M1 66) (M1 67) a) (M1 60 6).toNat := by
                    rw [ep, ← h8, show (x10 + 1).toNat = x10.toNat + 1 by omega, pl_ct1 (show (pl_of (M1 68) (M1 69) (M1 64) (M1 63) (M1 66) (M1 67) a) ((x10.toNat : Nat) : Int) by rw [ex10 (by omega)]; unfold pl_of pl_sq; omega)]
                    omega
                  refine hgo.2.1 165 _ [(10, (0, 0, (-1), 15, x10 + (-1))), (9, (0, 0, (-2147483648), 2147483647, x10)), (8, (0, 0, 0, 16, x8 + 1)), (7, (0, 0, (-2147483648), 2147483647, x7)), (6, (0, 0, 0, 16, x6)), (5, (0, 0, 0, 196, x5)), (4, (0, 0, (-2147483648), 2147483647, x4)), (3, (0, 0, (-2147483648), 2147483647, x3)), (2, (0, 0, 0, 196, x2)), (1, (0, 0, 0, 50, a)), (0, (2, 60, 0, 0, 0))] _ _ (xa_subI rfl rfl (fun _ _ _ _ => by omega) (xa_subI rfl rfl (fun _ _ _ _ => by omega) (xa_subI rfl rfl (fun _ _ _ _ => by omega) (xa_subI rfl rfl (fun _ _ _ _ => by omega) (xa_subI rfl rfl (fun _ _ _ _ => by omega) (xa_subI rfl rfl (fun _ _ _ _ => by omega) (xa_subI rfl rfl (fun _ _ _ _ => by omega) (xa_subI rfl rfl (fun _ _ _ _ => by omega) (xa_subI rfl rfl (fun _ _ _ _ => by omega) (xa_subI rfl rfl (fun _ _ _ _ => by omega) (xa_subR rfl (xa_sub0)))))))))))) ?_
                  exact ih (x10 + (-1)) x10 (x8 + 1) x7 x6 (by omega) e6x e8x (by omega)
          · intro (c2 : ¬ (M1 65 (M1 66 x10)) = (M1 65 (M1 67 x10)))
            show xa_C xm_I A h0 _ 265 [(2, 60, 0, 0, 0), (0, 0, 0, 9, M1 64 (M1 66 x10)), (0, 0, 0, 9, M1 64 (M1 67 x10))] M1 _
            refine ct_apart (by omega) (by omega) (by omega) (by omega) ?_
            intro r114 (i7 : r114 = (M1 68 (M1 64 (M1 66 x10)) - M1 68 (M1 64 (M1 67 x10))) * (M1 68 (M1 64 (M1 66 x10)) - M1 68 (M1 64 (M1 67 x10))) + (M1 69 (M1 64 (M1 66 x10)) - M1 69 (M1 64 (M1 67 x10))) * (M1 69 (M1 64 (M1 66 x10)) - M1 69 (M1 64 (M1 67 x10))))
            refine And.intro ?_ ?_
            · intro (c8 : ((((M1 63 (M1 66 x10)) + (M1 63 (M1 67 x10))) + a) * (((M1 63 (M1 66 x10)) + (M1 63 (M1 67 x10))) + a)) < r114)
              show Q 165 [(10, (0, 0, (-2), 14, x10 + (-1))), (9, (0, 0, (-1), 15, x10)), (8, (0, 0, 1, 17, x8 + 1)), (15, (0, 0, (-50), 800, ((M1 63 (M1 66 x10)) + (M1 63 (M1 67 x10))) - a)), (14, (0, 0, 0, 850, ((M1 63 (M1 66 x10)) + (M1 63 (M1 67 x10))) + a)), (13, (0, 0, 0, 2000000, r114)), (7, (0, 0, (-1), 15, x10)), (6, (0, 0, 1, 17, x6 + 1)), (12, (0, 0, 0, 13, M1 67 x10)), (11, (0, 0, 0, 13, M1 66 x10)), (5, (0, 0, 0, 196, x5)), (4, (0, 0, (-2147483648), 2147483647, x4)), (3, (0, 0, (-2147483648), 2147483647, x3)), (2, (0, 0, 0, 196, x2)), (1, (0, 0, 0, 50, a)), (0, (2, 60, 0, 0, 0))] [] M1
              have y1 := pl_ct_r (P := (pl_sk (M1 65) (M1 66) (M1 67))) (x10 + (-1) + 1).toNat
              have y2 := pl_ct_r (P := (pl_of (M1 68) (M1 69) (M1 64) (M1 63) (M1 66) (M1 67) a)) (x10 + (-1) + 1).toNat
              have ep : (x10 + (-1) + 1).toNat = x10.toNat := by omega
              have e6x : x6 + 1 + pl_ct (pl_sk (M1 65) (M1 66) (M1 67)) (x10 + (-1) + 1).toNat = pl_ct (pl_sk (M1 65) (M1 66) (M1 67)) (M1 60 6).toNat := by
                rw [ep, ← h6, show (x10 + 1).toNat = x10.toNat + 1 by omega, pl_ct1 (show (pl_sk (M1 65) (M1 66) (M1 67)) ((x10.toNat : Nat) : Int) by rw [ex10 (by omega)]; unfold pl_sk; omega)]
                omega
              have e8x : x8 + 1 + pl_ct (pl_of (M1 68) (M1 69) (M1 64) (M1 63) (M1 66) (M1 67) a) (x10 + (-1) + 1).toNat = pl_ct (pl_of (M1 68) (M1 69) (M1 64) (M1 63) (M1 66) (M1 67) a) (M1 60 6).toNat := by
                rw [ep, ← h8, show (x10 + 1).toNat = x10.toNat + 1 by omega, pl_ct1 (show (pl_of (M1 68) (M1 69) (M1 64) (M1 63) (M1 66) (M1 67) a) ((x10.toNat : Nat) : Int) by rw [ex10 (by omega)]; unfold pl_of pl_sq; omega)]
                omega
              refine hgo.2.1 165 _ [(10, (0, 0, (-1), 15, x10 + (-1))), (9, (0, 0, (-2147483648), 2147483647, x10)), (8, (0, 0, 0, 16, x8 + 1)), (7, (0, 0, (-2147483648), 2147483647, x10)), (6, (0, 0, 0, 16, x6 + 1)), (5, (0, 0, 0, 196, x5)), (4, (0, 0, (-2147483648), 2147483647, x4)), (3, (0, 0, (-2147483648), 2147483647, x3)), (2, (0, 0, 0, 196, x2)), (1, (0, 0, 0, 50, a)), (0, (2, 60, 0, 0, 0))] _ _ (xa_subI rfl rfl (fun _ _ _ _ => by omega) (xa_subI rfl rfl (fun _ _ _ _ => by omega) (xa_subI rfl rfl (fun _ _ _ _ => by omega) (xa_subI rfl rfl (fun _ _ _ _ => by omega) (xa_subI rfl rfl (fun _ _ _ _ => by omega) (xa_subI rfl rfl (fun _ _ _ _ => by omega) (xa_subI rfl rfl (fun _ _ _ _ => by omega) (xa_subI rfl rfl (fun _ _ _ _ => by omega) (xa_subI rfl rfl (fun _ _ _ _ => by omega) (xa_subI rfl rfl (fun _ _ _ _ => by omega) (xa_subR rfl (xa_sub0)))))))))))) ?_
              exact ih (x10 + (-1)) x10 (x8 + 1) x10 (x6 + 1) (by omega) e6x e8x (by omega)
            · intro (c8 : r114 ≤ ((((M1 63 (M1 66 x10)) + (M1 63 (M1 67 x10))) + a) * (((M1 63 (M1 66 x10)) + (M1 63 (M1 67 x10))) + a)))
              refine And.intro ?_ ?_
              · intro (c9 : (((M1 63 (M1 66 x10)) + (M1 63 (M1 67 x10))) - a) ≤ 0)
                show Q 165 [(10, (0, 0, (-2), 14, x10 + (-1))), (15, (0, 0, (-50), 800, ((M1 63 (M1 66 x10)) + (M1 63 (M1 67 x10))) - a)), (14, (0, 0, 0, 850, ((M1 63 (M1 66 x10)) + (M1 63 (M1 67 x10))) + a)), (13, (0, 0, 0, 2000000, r114)), (7, (0, 0, (-1), 15, x10)), (6, (0, 0, 1, 17, x6 + 1)), (12, (0, 0, 0, 13, M1 67 x10)), (11, (0, 0, 0, 13, M1 66 x10)), (9, (0, 0, (-2147483648), 2147483647, x9)), (8, (0, 0, 0, 16, x8)), (5, (0, 0, 0, 196, x5)), (4, (0, 0, (-2147483648), 2147483647, x4)), (3, (0, 0, (-2147483648), 2147483647, x3)), (2, (0, 0, 0, 196, x2)), (1, (0, 0, 0, 50, a)), (0, (2, 60, 0, 0, 0))] [] M1
                have y1 := pl_ct_r (P := (pl_sk (M1 65) (M1 66) (M1 67))) (x10 + (-1) + 1).toNat
                have y2 := pl_ct_r (P := (pl_of (M1 68) (M1 69) (M1 64) (M1 63) (M1 66) (M1 67) a)) (x10 + (-1) + 1).toNat
                have ep : (x10 + (-1) + 1).toNat = x10.toNat := by omega
                have e6x : x6 + 1 + pl_ct (pl_sk (M1 65) (M1 66) (M1 67)) (x10 + (-1) + 1).toNat = pl_ct (pl_sk (M1 65) (M1 66) (M1 67)) (M1 60 6).toNat := by
                  rw [ep, ← h6, show (x10 + 1).toNat = x10.toNat + 1 by omega, pl_ct1 (show (pl_sk (M1 65) (M1 66) (M1 67)) ((x10.toNat : Nat) : Int) by rw [ex10 (by omega)]; unfold pl_sk; omega)]
                  omega
                have e8x : x8 + pl_ct (pl_of (M1 68) (M1 69) (M1 64) (M1 63) (M1 66) (M1 67) a) (x10 + (-1) + 1).toNat = pl_ct (pl_of (M1 68) (M1 69) (M1 64) (M1 63) (M1 66) (M1 67) a) (M1 60 6).toNat := by
                  rw [ep, ← h8, show (x10 + 1).toNat = x10.toNat + 1 by omega, pl_ct0 (show ¬ (pl_of (M1 68) (M1 69) (M1 64) (M1 63) (M1 66) (M1 67) a) ((x10.toNat : Nat) : Int) by rw [ex10 (by omega)]; unfold pl_of pl_sq; omega)]
                refine hgo.2.1 165 _ [(10, (0, 0, (-1), 15, x10 + (-1))), (9, (0, 0, (-2147483648), 2147483647, x9)), (8, (0, 0, 0, 16, x8)), (7, (0, 0, (-2147483648), 2147483647, x10)), (6, (0, 0, 0, 16, x6 + 1)), (5, (0, 0, 0, 196, x5)), (4, (0, 0, (-2147483648), 2147483647, x4)), (3, (0, 0, (-2147483648), 2147483647, x3)), (2, (0, 0, 0, 196, x2)), (1, (0, 0, 0, 50, a)), (0, (2, 60, 0, 0, 0))] _ _ (xa_subI rfl rfl (fun _ _ _ _ => by omega) (xa_subI rfl rfl (fun _ _ _ _ => by omega) (xa_subI rfl rfl (fun _ _ _ _ => by omega) (xa_subI rfl rfl (fun _ _ _ _ => by omega) (xa_subI rfl rfl (fun _ _ _ _ => by omega) (xa_subI rfl rfl (fun _ _ _ _ => by omega) (xa_subI rfl rfl (fun _ _ _ _ => by omega) (xa_subI rfl rfl (fun _ _ _ _ => by omega) (xa_subI rfl rfl (fun _ _ _ _ => by omega) (xa_subI rfl rfl (fun _ _ _ _ => by omega) (xa_subR rfl (xa_sub0)))))))))))) ?_
                exact ih (x10 + (-1)) x9 x8 x10 (x6 + 1) (by omega) e6x e8x (by omega)
              · intro (c9 : 0 < (((M1 63 (M1 66 x10)) + (M1 63 (M1 67 x10))) - a))
                refine And.intro ?_ ?_
                · intro (c10 : ((((M1 63 (M1 66 x10)) + (M1 63 (M1 67 x10))) - a) * (((M1 63 (M1 66 x10)) + (M1 63 (M1 67 x10))) - a)) ≤ r114)
                  show Q 165 [(10, (0, 0, (-2), 14, x10 + (-1))), (15, (0, 0, (-50), 800, ((M1 63 (M1 66 x10)) + (M1 63 (M1 67 x10))) - a)), (14, (0, 0, 0, 850, ((M1 63 (M1 66 x10)) + (M1 63 (M1 67 x10))) + a)), (13, (0, 0, 0, 2000000, r114)), (7, (0, 0, (-1), 15, x10)), (6, (0, 0, 1, 17, x6 + 1)), (12, (0, 0, 0, 13, M1 67 x10)), (11, (0, 0, 0, 13, M1 66 x10)), (9, (0, 0, (-2147483648), 2147483647, x9)), (8, (0, 0, 0, 16, x8)), (5, (0, 0, 0, 196, x5)), (4, (0, 0, (-2147483648), 2147483647, x4)), (3, (0, 0, (-2147483648), 2147483647, x3)), (2, (0, 0, 0, 196, x2)), (1, (0, 0, 0, 50, a)), (0, (2, 60, 0, 0, 0))] [] M1
                  have y1 := pl_ct_r (P := (pl_sk (M1 65) (M1 66) (M1 67))) (x10 + (-1) + 1).toNat
                  have y2 := pl_ct_r (P := (pl_of (M1 68) (M1 69) (M1 64) (M1 63) (M1 66) (M1 67) a)) (x10 + (-1) + 1).toNat
                  have ep : (x10 + (-1) + 1).toNat = x10.toNat := by omega
                  have e6x : x6 + 1 + pl_ct (pl_sk (M1 65) (M1 66) (M1 67)) (x10 + (-1) + 1).toNat = pl_ct (pl_sk (M1 65) (M1 66) (M1 67)) (M1 60 6).toNat := by
                    rw [ep, ← h6, show (x10 + 1).toNat = x10.toNat + 1 by omega, pl_ct1 (show (pl_sk (M1 65) (M1 66) (M1 67)) ((x10.toNat : Nat) : Int) by rw [ex10 (by omega)]; unfold pl_sk; omega)]
                    omega
                  have e8x : x8 + pl_ct (pl_of (M1 68) (M1 69) (M1 64) (M1 63) (M1 66) (M1 67) a) (x10 + (-1) + 1).toNat = pl_ct (pl_of (M1 68) (M1 69) (M1 64) (M1 63) (M1 66) (M1 67) a) (M1 60 6).toNat := by
                    rw [ep, ← h8, show (x10 + 1).toNat = x10.toNat + 1 by omega, pl_ct0 (show ¬ (pl_of (M1 68) (M1 69) (M1 64) (M1 63) (M1 66) (M1 67) a) ((x10.toNat : Nat) : Int) by rw [ex10 (by omega)]; unfold pl_of pl_sq; omega)]
                  refine hgo.2.1 165 _ [(10, (0, 0, (-1), 15, x10 + (-1))), (9, (0, 0, (-2147483648), 2147483647, x9)), (8, (0, 0, 0, 16, x8)), (7, (0, 0, (-2147483648), 2147483647, x10)), (6, (0, 0, 0, 16, x6 + 1)), (5, (0, 0, 0, 196, x5)), (4, (0, 0, (-2147483648), 2147483647, x4)), (3, (0, 0, (-2147483648), 2147483647, x3)), (2, (0, 0, 0, 196, x2)), (1, (0, 0, 0, 50, a)), (0, (2, 60, 0, 0, 0))] _ _ (xa_subI rfl rfl (fun _ _ _ _ => by omega) (xa_subI rfl rfl (fun _ _ _ _ => by omega) (xa_subI rfl rfl (fun _ _ _ _ => by omega) (xa_subI rfl rfl (fun _ _ _ _ => by omega) (xa_subI rfl rfl (fun _ _ _ _ => by omega) (xa_subI rfl rfl (fun _ _ _ _ => by omega) (xa_subI rfl rfl (fun _ _ _ _ => by omega) (xa_subI rfl rfl (fun _ _ _ _ => by omega) (xa_subI rfl rfl (fun _ _ _ _ => by omega) (xa_subI rfl rfl (fun _ _ _ _ => by omega) (xa_subR rfl (xa_sub0)))))))))))) ?_
                  exact ih (x10 + (-1)) x9 x8 x10 (x6 + 1) (by omega) e6x e8x (by omega)
                · intro (c10 : r114 < ((((M1 63 (M1 66 x10)) + (M1 63 (M1 67 x10))) - a) * (((M1 63 (M1 66 x10)) + (M1 63 (M1 67 x10))) - a)))
                  show Q 165 [(10, (0, 0, (-2), 14, x10 + (-1))), (9, (0, 0, (-1), 15, x10)), (8, (0, 0, 1, 17, x8 + 1)), (15, (0, 0, (-50), 800, ((M1 63 (M1 66 x10)) + (M1 63 (M1 67 x10))) - a)), (14, (0, 0, 0, 850, ((M1 63 (M1 66 x10)) + (M1 63 (M1 67 x10))) + a)), (13, (0, 0, 0, 2000000, r114)), (7, (0, 0, (-1), 15, x10)), (6, (0, 0, 1, 17, x6 + 1)), (12, (0, 0, 0, 13, M1 67 x10)), (11, (0, 0, 0, 13, M1 66 x10)), (5, (0, 0, 0, 196, x5)), (4, (0, 0, (-2147483648), 2147483647, x4)), (3, (0, 0, (-2147483648), 2147483647, x3)), (2, (0, 0, 0, 196, x2)), (1, (0, 0, 0, 50, a)), (0, (2, 60, 0, 0, 0))] [] M1
                  have y1 := pl_ct_r (P := (pl_sk (M1 65) (M1 66) (M1 67))) (x10 + (-1) + 1).toNat
                  have y2 := pl_ct_r (P := (pl_of (M1 68) (M1 69) (M1 64) (M1 63) (M1 66) (M1 67) a)) (x10 + (-1) + 1).toNat
                  have ep : (x10 + (-1) + 1).toNat = x10.toNat := by omega
                  have e6x : x6 + 1 + pl_ct (pl_sk (M1 65) (M1 66) (M1 67)) (x10 + (-1) + 1).toNat = pl_ct (pl_sk (M1 65) (M1 66) (M1 67)) (M1 60 6).toNat := by
                    rw [ep, ← h6, show (x10 + 1).toNat = x10.toNat + 1 by omega, pl_ct1 (show (pl_sk (M1 65) (M1 66) (M1 67)) ((x10.toNat : Nat) : Int) by rw [ex10 (by omega)]; unfold pl_sk; omega)]
                    omega
                  have e8x : x8 + 1 + pl_ct (pl_of (M1 68) (M1 69) (M1 64) (M1 63) (M1 66) (M1 67) a) (x10 + (-1) + 1).toNat = pl_ct (pl_of (M1 68) (M1 69) (M1 64) (M1 63) (M1 66) (M1 67) a) (M1 60 6).toNat := by
                    rw [ep, ← h8, show (x10 + 1).toNat = x10.toNat + 1 by omega, pl_ct1 (show (pl_of (M1 68) (M1 69) (M1 64) (M1 63) (M1 66) (M1 67) a) ((x10.toNat : Nat) : Int) by rw [ex10 (by omega)]; unfold pl_of pl_sq; omega)]
                    omega
                  refine hgo.2.1 165 _ [(10, (0, 0, (-1), 15, x10 + (-1))), (9, (0, 0, (-2147483648), 2147483647, x10)), (8, (0, 0, 0, 16, x8 + 1)), (7, (0, 0, (-2147483648), 2147483647, x10)), (6, (0, 0, 0, 16, x6 + 1)), (5, (0, 0, 0, 196, x5)), (4, (0, 0, (-2147483648), 2147483647, x4)), (3, (0, 0, (-2147483648), 2147483647, x3)), (2, (0, 0, 0, 196, x2)), (1, (0, 0, 0, 50, a)), (0, (2, 60, 0, 0, 0))] _ _ (xa_subI rfl rfl (fun _ _ _ _ => by omega) (xa_subI rfl rfl (fun _ _ _ _ => by omega) (xa_subI rfl rfl (fun _ _ _ _ => by omega) (xa_subI rfl rfl (fun _ _ _ _ => by omega) (xa_subI rfl rfl (fun _ _ _ _ => by omega) (xa_subI rfl rfl (fun _ _ _ _ => by omega) (xa_subI rfl rfl (fun _ _ _ _ => by omega) (xa_subI rfl rfl (fun _ _ _ _ => by omega) (xa_subI rfl rfl (fun _ _ _ _ => by omega) (xa_subI rfl rfl (fun _ _ _ _ => by omega) (xa_subR rfl (xa_sub0)))))))))))) ?_
                  exact ih (x10 + (-1)) x10 (x8 + 1) x10 (x6 + 1) (by omega) e6x e8x (by omega)
    intro n
    induction n with
    | zero => intro x6 x5 x4 x3 x2 b6x h4 h5 hms; omega
    | succ n ih =>
      intro x6 x5 x4 x3 x2 b6x h4 h5 hms
      have ev : ((x6.toNat : Nat) : Int) = x6 := Int.toNat_of_nonneg b6x.1
      have v1 := s1 x6.toNat
      have v2 := s2 x6.toNat
      have inner : x6 < M1 60 0 → ∀ (n : Nat) (x7 x5 x4 x3 x2 : Int), x6 + 1 ≤ x7 ∧ x7 ≤ M1 60 0 → x2 = pl_sm (pl_nv (pl_P1 (M1 68) (M1 69) (M1 64) (M1 65) (M1 63) (M1 66) (M1 67) (M1 60 6)) (M1 60 0).toNat) x6.toNat + pl_ct (fun w => x6 < w ∧ (pl_P1 (M1 68) (M1 69) (M1 64) (M1 65) (M1 63) (M1 66) (M1 67) (M1 60 6)) x6 w) x7.toNat → x5 = pl_sm (pl_nv (pl_P2 (M1 64) (M1 65)) (M1 60 0).toNat) x6.toNat + pl_ct (fun w => x6 < w ∧ (pl_P2 (M1 64) (M1 65)) x6 w) x7.toNat → 14 - x7 < (n : Int) → Q 45 [(7, (0, 0, 1, 15, x7)), (6, (0, 0, 0, 13, x6)), (5, (0, 0, 0, 196, x5)), (4, (0, 0, (-2147483648), 2147483647, x4)), (3, (0, 0, (-2147483648), 2147483647, x3)), (2, (0, 0, 0, 196, x2)), (1, (0, 0, 0, 50, a)), (0, (2, 60, 0, 0, 0))] [] M1 := by
        intro hv1 n
        induction n with
        | zero => intro x7 x5 x4 x3 x2 b7 h4 h5 hms; omega
        | succ n ih2 =>
          intro x7 x5 x4 x3 x2 b7 h4 h5 hms
          have ew : ((x7.toNat : Nat) : Int) = x7 := Int.toNat_of_nonneg (by omega)
          have w1 := pl_ct_r (P := (fun w => x6 < w ∧ (pl_P1 (M1 68) (M1 69) (M1 64) (M1 65) (M1 63) (M1 66) (M1 67) (M1 60 6)) x6 w)) x7.toNat
          have w2 := pl_ct_r (P := (fun w => x6 < w ∧ (pl_P2 (M1 64) (M1 65)) x6 w)) x7.toNat
          refine hgo.1 47 [30, 45, 165] 45 _ _ _ ?_
          refine And.intro ?_ ?_
          · intro (c1 : (M1 60 0) ≤ x7)
            show Q 30 [(6, (0, 0, 1, 14, x6 + 1)), (7, (0, 0, 1, 15, x7)), (5, (0, 0, 0, 196, x5)), (4, (0, 0, (-2147483648), 2147483647, x4)), (3, (0, 0, (-2147483648), 2147483647, x3)), (2, (0, 0, 0, 196, x2)), (1, (0, 0, 0, 50, a)), (0, (2, 60, 0, 0, 0))] [] M1
            have en1 : x2 = pl_sm (pl_nv (pl_P1 (M1 68) (M1 69) (M1 64) (M1 65) (M1 63) (M1 66) (M1 67) (M1 60 6)) (M1 60 0).toNat) (x6 + 1).toNat := by
              rw [show (x6 + 1).toNat = x6.toNat + 1 by omega, pl_sm1, ev, h4, show x7 = M1 60 0 by omega]
              rfl
            have en2 : x5 = pl_sm (pl_nv (pl_P2 (M1 64) (M1 65)) (M1 60 0).toNat) (x6 + 1).toNat := by
              rw [show (x6 + 1).toNat = x6.toNat + 1 by omega, pl_sm1, ev, h5, show x7 = M1 60 0 by omega]
              rfl
            refine hgo.2.1 30 _ [(6, (0, 0, 0, 14, x6 + 1)), (5, (0, 0, 0, 196, x5)), (4, (0, 0, (-2147483648), 2147483647, x4)), (3, (0, 0, (-2147483648), 2147483647, x3)), (2, (0, 0, 0, 196, x2)), (1, (0, 0, 0, 50, a)), (0, (2, 60, 0, 0, 0))] _ _ (xa_subI rfl rfl (fun _ _ _ _ => by omega) (xa_subI rfl rfl (fun _ _ _ _ => by omega) (xa_subI rfl rfl (fun _ _ _ _ => by omega) (xa_subI rfl rfl (fun _ _ _ _ => by omega) (xa_subI rfl rfl (fun _ _ _ _ => by omega) (xa_subI rfl rfl (fun _ _ _ _ => by omega) (xa_subR rfl (xa_sub0)))))))) ?_
            exact ih (x6 + 1) x5 x4 x3 x2 (by omega) en1 en2 (by omega)
          · intro (c1 : x7 < (M1 60 0))
            refine And.intro (show 0 ≤ x7 ∧ x7 < 14 by omega) ?_
            refine And.intro ?_ ?_
            · intro (c2 : (M1 65 x6) = (M1 65 x7))
              refine And.intro (show 0 ≤ x7 ∧ x7 < 14 by omega) ?_
              refine And.intro ?_ ?_
              · intro (c3 : ¬ (M1 64 x6) = (M1 64 x7))
                show xa_C xm_I A h0 _ 264 [(2, 60, 0, 0, 0), (0, 0, 0, 13, x6), (0, 0, 1, 15, x7)] M1 _
                refine ct_areNearF (by omega) (by omega) (by omega) (by omega) ?_
                intro r115 (i4 : r115 = 0 ∨ r115 = 1) (i5 : r115 = 1 ↔ xm_near M1 x6 x7)
                refine And.intro ?_ ?_
                · intro (c6 : r115 = 0)
                  show Q 45 [(7, (0, 0, 2, 16, x7 + 1)), (6, (0, 0, 0, 13, x6)), (5, (0, 0, 0, 196, x5)), (4, (0, 0, (-2147483648), 2147483647, x4)), (3, (0, 0, (-2147483648), 2147483647, x3)), (2, (0, 0, 0, 196, x2)), (1, (0, 0, 0, 50, a)), (0, (2, 60, 0, 0, 0))] [] M1
                  have en1 : x2 = pl_sm (pl_nv (pl_P1 (M1 68) (M1 69) (M1 64) (M1 65) (M1 63) (M1 66) (M1 67) (M1 60 6)) (M1 60 0).toNat) x6.toNat + pl_ct (fun w => x6 < w ∧ (pl_P1 (M1 68) (M1 69) (M1 64) (M1 65) (M1 63) (M1 66) (M1 67) (M1 60 6)) x6 w) (x7 + 1).toNat := by
                    rw [show (x7 + 1).toNat = x7.toNat + 1 by omega, pl_ct0 (show ¬ (fun w => x6 < w ∧ (pl_P1 (M1 68) (M1 69) (M1 64) (M1 65) (M1 63) (M1 66) (M1 67) (M1 60 6)) x6 w) ((x7.toNat : Nat) : Int) by rw [ew]; exact (fun h => by have n1 := i5.mpr ⟨h.2.2.1, h.2.2.2.2⟩; first | omega | exact h.2.2.2.1 (i5.mp (by omega)))), h4]
                  have en2 : x5 = pl_sm (pl_nv (pl_P2 (M1 64) (M1 65)) (M1 60 0).toNat) x6.toNat + pl_ct (fun w => x6 < w ∧ (pl_P2 (M1 64) (M1 65)) x6 w) (x7 + 1).toNat := by
                    rw [show (x7 + 1).toNat = x7.toNat + 1 by omega, pl_ct0 (show ¬ (fun w => x6 < w ∧ (pl_P2 (M1 64) (M1 65)) x6 w) ((x7.toNat : Nat) : Int) by rw [ew]; exact (fun h => c3 h.2.2)), h5]
                  refine hgo.2.1 45 _ [(7, (0, 0, 1, 15, x7 + 1)), (6, (0, 0, 0, 13, x6)), (5, (0, 0, 0, 196, x5)), (4, (0, 0, (-2147483648), 2147483647, x4)), (3, (0, 0, (-2147483648), 2147483647, x3)), (2, (0, 0, 0, 196, x2)), (1, (0, 0, 0, 50, a)), (0, (2, 60, 0, 0, 0))] _ _ (xa_subI rfl rfl (fun _ _ _ _ => by omega) (xa_subI rfl rfl (fun _ _ _ _ => by omega) (xa_subI rfl rfl (fun _ _ _ _ => by omega) (xa_subI rfl rfl (fun _ _ _ _ => by omega) (xa_subI rfl rfl (fun _ _ _ _ => by omega) (xa_subI rfl rfl (fun _ _ _ _ => by omega) (xa_subI rfl rfl (fun _ _ _ _ => by omega) (xa_subR rfl (xa_sub0))))))))) ?_
                  exact ih2 (x7 + 1) x5 x4 x3 x2 (by omega) en1 en2 (by omega)
                · intro (c6 : ¬ r115 = 0)
                  show xa_C xm_I A h0 _ 221 [(2, 60, 0, 0, 0), (0, 0, 0, 13, x6), (0, 0, 1, 15, x7)] M1 _
                  refine ct_areMeshed ?_
                  intro r116 (i7 : r116 = 0 ∨ r116 = 1) (i8 : r116 = 1 ↔ xm_meshed M1 x6 x7)
                  refine And.intro ?_ ?_
                  · intro (c9 : r116 = 0)
                    refine And.intro ?_ ?_
                    · intro (c10 : ¬ x2 = 0)
                      show Q 45 [(7, (0, 0, 2, 16, x7 + 1)), (2, (0, 0, 1, 197, x2 + 1)), (6, (0, 0, 0, 13, x6)), (5, (0, 0, 0, 196, x5)), (4, (0, 0, (-2147483648), 2147483647, x4)), (3, (0, 0, (-2147483648), 2147483647, x3)), (1, (0, 0, 0, 50, a)), (0, (2, 60, 0, 0, 0))] [] M1
                      have en1 : x2 + 1 = pl_sm (pl_nv (pl_P1 (M1 68) (M1 69) (M1 64) (M1 65) (M1 63) (M1 66) (M1 67) (M1 60 6)) (M1 60 0).toNat) x6.toNat + pl_ct (fun w => x6 < w ∧ (pl_P1 (M1 68) (M1 69) (M1 64) (M1 65) (M1 63) (M1 66) (M1 67) (M1 60 6)) x6 w) (x7 + 1).toNat := by
                        rw [show (x7 + 1).toNat = x7.toNat + 1 by omega, pl_ct1 (show (fun w => x6 < w ∧ (pl_P1 (M1 68) (M1 69) (M1 64) (M1 65) (M1 63) (M1 66) (M1 67) (M1 60 6)) x6 w) ((x7.toNat : Nat) : Int) by rw [ew]; exact ⟨by omega, c2, (i5.mp (by omega)).1, fun h => by have := i8.mpr h; omega, (i5.mp (by omega)).2⟩), h4]
                        omega
                      have en2 : x5 = pl_sm (pl_nv (pl_P2 (M1 64) (M1 65)) (M1 60 0).toNat) x6.toNat + pl_ct (fun w => x6 < w ∧ (pl_P2 (M1 64) (M1 65)) x6 w) (x7 + 1).toNat := by
                        rw [show (x7 + 1).toNat = x7.toNat + 1 by omega, pl_ct0 (show ¬ (fun w => x6 < w ∧ (pl_P2 (M1 64) (M1 65)) x6 w) ((x7.toNat : Nat) : Int) by rw [ew]; exact (fun h => c3 h.2.2)), h5]
                      refine hgo.2.1 45 _ [(7, (0, 0, 1, 15, x7 + 1)), (6, (0, 0, 0, 13, x6)), (5, (0, 0, 0, 196, x5)), (4, (0, 0, (-2147483648), 2147483647, x4)), (3, (0, 0, (-2147483648), 2147483647, x3)), (2, (0, 0, 0, 196, x2 + 1)), (1, (0, 0, 0, 50, a)), (0, (2, 60, 0, 0, 0))] _ _ (xa_subI rfl rfl (fun _ _ _ _ => by omega) (xa_subI rfl rfl (fun _ _ _ _ => by omega) (xa_subI rfl rfl (fun _ _ _ _ => by omega) (xa_subI rfl rfl (fun _ _ _ _ => by omega) (xa_subI rfl rfl (fun _ _ _ _ => by omega) (xa_subI rfl rfl (fun _ _ _ _ => by omega) (xa_subI rfl rfl (fun _ _ _ _ => by omega) (xa_subR rfl (xa_sub0))))))))) ?_
                      exact ih2 (x7 + 1) x5 x4 x3 (x2 + 1) (by omega) en1 en2 (by omega)
                    · intro (c10 : x2 = 0)
                      show Q 45 [(7, (0, 0, 2, 16, x7 + 1)), (2, (0, 0, 1, 197, x2 + 1)), (4, (0, 0, 1, 15, x7)), (3, (0, 0, 0, 13, x6)), (6, (0, 0, 0, 13, x6)), (5, (0, 0, 0, 196, x5)), (1, (0, 0, 0, 50, a)), (0, (2, 60, 0, 0, 0))] [] M1
                      have en1 : x2 + 1 = pl_sm (pl_nv (pl_P1 (M1 68) (M1 69) (M1 64) (M1 65) (M1 63) (M1 66) (M1 67) (M1 60 6)) (M1 60 0).toNat) x6.toNat + pl_ct (fun w => x6 < w ∧ (pl_P1 (M1 68) (M1 69) (M1 64) (M1 65) (M1 63) (M1 66) (M1 67) (M1 60 6)) x6 w) (x7 + 1).toNat := by
                        rw [show (x7 + 1).toNat = x7.toNat + 1 by omega, pl_ct1 (show (fun w => x6 < w ∧ (pl_P1 (M1 68) (M1 69) (M1 64) (M1 65) (M1 63) (M1 66) (M1 67) (M1 60 6)) x6 w) ((x7.toNat : Nat) : Int) by rw [ew]; exact ⟨by omega, c2, (i5.mp (by omega)).1, fun h => by have := i8.mpr h; omega, (i5.mp (by omega)).2⟩), h4]
                        omega
                      have en2 : x5 = pl_sm (pl_nv (pl_P2 (M1 64) (M1 65)) (M1 60 0).toNat) x6.toNat + pl_ct (fun w => x6 < w ∧ (pl_P2 (M1 64) (M1 65)) x6 w) (x7 + 1).toNat := by
                        rw [show (x7 + 1).toNat = x7.toNat + 1 by omega, pl_ct0 (show ¬ (fun w => x6 < w ∧ (pl_P2 (M1 64) (M1 65)) x6 w) ((x7.toNat : Nat) : Int) by rw [ew]; exact (fun h => c3 h.2.2)), h5]
                      refine hgo.2.1 45 _ [(7, (0, 0, 1, 15, x7 + 1)), (6, (0, 0, 0, 13, x6)), (5, (0, 0, 0, 196, x5)), (4, (0, 0, (-2147483648), 2147483647, x7)), (3, (0, 0, (-2147483648), 2147483647, x6)), (2, (0, 0, 0, 196, x2 + 1)), (1, (0, 0, 0, 50, a)), (0, (2, 60, 0, 0, 0))] _ _ (xa_subI rfl rfl (fun _ _ _ _ => by omega) (xa_subI rfl rfl (fun _ _ _ _ => by omega) (xa_subI rfl rfl (fun _ _ _ _ => by omega) (xa_subI rfl rfl (fun _ _ _ _ => by omega) (xa_subI rfl rfl (fun _ _ _ _ => by omega) (xa_subI rfl rfl (fun _ _ _ _ => by omega) (xa_subI rfl rfl (fun _ _ _ _ => by omega) (xa_subR rfl (xa_sub0))))))))) ?_
                      exact ih2 (x7 + 1) x5 x7 x6 (x2 + 1) (by omega) en1 en2 (by omega)
                  · intro (c9 : ¬ r116 = 0)
                    show Q 45 [(7, (0, 0, 2, 16, x7 + 1)), (6, (0, 0, 0, 13, x6)), (5, (0, 0, 0, 196, x5)), (4, (0, 0, (-2147483648), 2147483647, x4)), (3, (0, 0, (-2147483648), 2147483647, x3)), (2, (0, 0, 0, 196, x2)), (1, (0, 0, 0, 50, a)), (0, (2, 60, 0, 0, 0))] [] M1
                    have en1 : x2 = pl_sm (pl_nv (pl_P1 (M1 68) (M1 69) (M1 64) (M1 65) (M1 63) (M1 66) (M1 67) (M1 60 6)) (M1 60 0).toNat) x6.toNat + pl_ct (fun w => x6 < w ∧ (pl_P1 (M1 68) (M1 69) (M1 64) (M1 65) (M1 63) (M1 66) (M1 67) (M1 60 6)) x6 w) (x7 + 1).toNat := by
                      rw [show (x7 + 1).toNat = x7.toNat + 1 by omega, pl_ct0 (show ¬ (fun w => x6 < w ∧ (pl_P1 (M1 68) (M1 69) (M1 64) (M1 65) (M1 63) (M1 66) (M1 67) (M1 60 6)) x6 w) ((x7.toNat : Nat) : Int) by rw [ew]; exact (fun h => by have n1 := i5.mpr ⟨h.2.2.1, h.2.2.2.2⟩; first | omega | exact h.2.2.2.1 (i8.mp (by omega)))), h4]
                    have en2 : x5 = pl_sm (pl_nv (pl_P2 (M1 64) (M1 65)) (M1 60 0).toNat) x6.toNat + pl_ct (fun w => x6 < w ∧ (pl_P2 (M1 64) (M1 65)) x6 w) (x7 + 1).toNat := by
                      rw [show (x7 + 1).toNat = x7.toNat + 1 by omega, pl_ct0 (show ¬ (fun w => x6 < w ∧ (pl_P2 (M1 64) (M1 65)) x6 w) ((x7.toNat : Nat) : Int) by rw [ew]; exact (fun h => c3 h.2.2)), h5]
                    refine hgo.2.1 45 _ [(7, (0, 0, 1, 15, x7 + 1)), (6, (0, 0, 0, 13, x6)), (5, (0, 0, 0, 196, x5)), (4, (0, 0, (-2147483648), 2147483647, x4)), (3, (0, 0, (-2147483648), 2147483647, x3)), (2, (0, 0, 0, 196, x2)), (1, (0, 0, 0, 50, a)), (0, (2, 60, 0, 0, 0))] _ _ (xa_subI rfl rfl (fun _ _ _ _ => by omega) (xa_subI rfl rfl (fun _ _ _ _ => by omega) (xa_subI rfl rfl (fun _ _ _ _ => by omega) (xa_subI rfl rfl (fun _ _ _ _ => by omega) (xa_subI rfl rfl (fun _ _ _ _ => by omega) (xa_subI rfl rfl (fun _ _ _ _ => by omega) (xa_subI rfl rfl (fun _ _ _ _ => by omega) (xa_subR rfl (xa_sub0))))))))) ?_
                    exact ih2 (x7 + 1) x5 x4 x3 x2 (by omega) en1 en2 (by omega)
              · intro (c3 : (M1 64 x6) = (M1 64 x7))
                show xa_C xm_I A h0 _ 264 [(2, 60, 0, 0, 0), (0, 0, 0, 13, x6), (0, 0, 1, 15, x7)] M1 _
                refine ct_areNearF (by omega) (by omega) (by omega) (by omega) ?_
                intro r117 (i11 : r117 = 0 ∨ r117 = 1) (i12 : r117 = 1 ↔ xm_near M1 x6 x7)
                refine And.intro ?_ ?_
                · intro (c13 : r117 = 0)
                  show Q 45 [(7, (0, 0, 2, 16, x7 + 1)), (5, (0, 0, 1, 197, x5 + 1)), (6, (0, 0, 0, 13, x6)), (4, (0, 0, (-2147483648), 2147483647, x4)), (3, (0, 0, (-2147483648), 2147483647, x3)), (2, (0, 0, 0, 196, x2)), (1, (0, 0, 0, 50, a)), (0, (2, 60, 0, 0, 0))] [] M1
                  have en1 : x2 = pl_sm (pl_nv (pl_P1 (M1 68) (M1 69) (M1 64) (M1 65) (M1 63) (M1 66) (M1 67) (M1 60 6)) (M1 60 0).toNat) x6.toNat + pl_ct (fun w => x6 < w ∧ (pl_P1 (M1 68) (M1 69) (M1 64) (M1 65) (M1 63) (M1 66) (M1 67) (M1 60 6)) x6 w) (x7 + 1).toNat := by
                    rw [show (x7 + 1).toNat = x7.toNat + 1 by omega, pl_ct0 (show ¬ (fun w => x6 < w ∧ (pl_P1 (M1 68) (M1 69) (M1 64) (M1 65) (M1 63) (M1 66) (M1 67) (M1 60 6)) x6 w) ((x7.toNat : Nat) : Int) by rw [ew]; exact (fun h => by have n1 := i12.mpr ⟨h.2.2.1, h.2.2.2.2⟩; first | omega | exact h.2.2.2.1 (i12.mp (by omega)))), h4]
                  have en2 : x5 + 1 = pl_sm (pl_nv (pl_P2 (M1 64) (M1 65)) (M1 60 0).toNat) x6.toNat + pl_ct (fun w => x6 < w ∧ (pl_P2 (M1 64) (M1 65)) x6 w) (x7 + 1).toNat := by
                    rw [show (x7 + 1).toNat = x7.toNat + 1 by omega, pl_ct1 (show (fun w => x6 < w ∧ (pl_P2 (M1 64) (M1 65)) x6 w) ((x7.toNat : Nat) : Int) by rw [ew]; exact ⟨by omega, c2, c3⟩), h5]
                    omega
                  refine hgo.2.1 45 _ [(7, (0, 0, 1, 15, x7 + 1)), (6, (0, 0, 0, 13, x6)), (5, (0, 0, 0, 196, x5 + 1)), (4, (0, 0, (-2147483648), 2147483647, x4)), (3, (0, 0, (-2147483648), 2147483647, x3)), (2, (0, 0, 0, 196, x2)), (1, (0, 0, 0, 50, a)), (0, (2, 60, 0, 0, 0))] _ _ (xa_subI rfl rfl (fun _ _ _ _ => by omega) (xa_subI rfl rfl (fun _ _ _ _ => by omega) (xa_subI rfl rfl (fun _ _ _ _ => by omega) (xa_subI rfl rfl (fun _ _ _ _ => by omega) (xa_subI rfl rfl (fun _ _ _ _ => by omega) (xa_subI rfl rfl (fun _ _ _ _ => by omega) (xa_subI rfl rfl (fun _ _ _ _ => by omega) (xa_subR rfl (xa_sub0))))))))) ?_
                  exact ih2 (x7 + 1) (x5 + 1) x4 x3 x2 (by omega) en1 en2 (by omega)
                · intro (c13 : ¬ r117 = 0)
                  show xa_C xm_I A h0 _ 221 [(2, 60, 0, 0, 0), (0, 0, 0, 13, x6), (0, 0, 1, 15, x7)] M1 _
                  refine ct_areMeshed ?_
                  intro r118 (i14 : r118 = 0 ∨ r118 = 1) (i15 : r118 = 1 ↔ xm_meshed M1 x6 x7)
                  refine And.intro ?_ ?_
                  · intro (c16 : r118 = 0)
                    refine And.intro ?_ ?_
                    · intro (c17 : ¬ x2 = 0)
                      show Q 45 [(7, (0, 0, 2, 16, x7 + 1)), (2, (0, 0, 1, 197, x2 + 1)), (5, (0, 0, 1, 197, x5 + 1)), (6, (0, 0, 0, 13, x6)), (4, (0, 0, (-2147483648), 2147483647, x4)), (3, (0, 0, (-2147483648), 2147483647, x3)), (1, (0, 0, 0, 50, a)), (0, (2, 60, 0, 0, 0))] [] M1
                      have en1 : x2 + 1 = pl_sm (pl_nv (pl_P1 (M1 68) (M1 69) (M1 64) (M1 65) (M1 63) (M1 66) (M1 67) (M1 60 6)) (M1 60 0).toNat) x6.toNat + pl_ct (fun w => x6 < w ∧ (pl_P1 (M1 68) (M1 69) (M1 64) (M1 65) (M1 63) (M1 66) (M1 67) (M1 60 6)) x6 w) (x7 + 1).toNat := by
                        rw [show (x7 + 1).toNat = x7.toNat + 1 by omega, pl_ct1 (show (fun w => x6 < w ∧ (pl_P1 (M1 68) (M1 69) (M1 64) (M1 65) (M1 63) (M1 66) (M1 67) (M1 60 6)) x6 w) ((x7.toNat : Nat) : Int) by rw [ew]; exact ⟨by omega, c2, (i12.mp (by omega)).1, fun h => by have := i15.mpr h; omega, (i12.mp (by omega)).2⟩), h4]
                        omega
                      have en2 : x5 + 1 = pl_sm (pl_nv (pl_P2 (M1 64) (M1 65)) (M1 60 0).toNat) x6.toNat + pl_ct (fun w => x6 < w ∧ (pl_P2 (M1 64) (M1 65)) x6 w) (x7 + 1).toNat := by
                        rw [show (x7 + 1).toNat = x7.toNat + 1 by omega, pl_ct1 (show (fun w => x6 < w ∧ (pl_P2 (M1 64) (M1 65)) x6 w) ((x7.toNat : Nat) : Int) by rw [ew]; exact ⟨by omega, c2, c3⟩), h5]
                        omega
                      refine hgo.2.1 45 _ [(7, (0, 0, 1, 15, x7 + 1)), (6, (0, 0, 0, 13, x6)), (5, (0, 0, 0, 196, x5 + 1)), (4, (0, 0, (-2147483648), 2147483647, x4)), (3, (0, 0, (-2147483648), 2147483647, x3)), (2, (0, 0, 0, 196, x2 + 1)), (1, (0, 0, 0, 50, a)), (0, (2, 60, 0, 0, 0))] _ _ (xa_subI rfl rfl (fun _ _ _ _ => by omega) (xa_subI rfl rfl (fun _ _ _ _ => by omega) (xa_subI rfl rfl (fun _ _ _ _ => by omega) (xa_subI rfl rfl (fun _ _ _ _ => by omega) (xa_subI rfl rfl (fun _ _ _ _ => by omega) (xa_subI rfl rfl (fun _ _ _ _ => by omega) (xa_subI rfl rfl (fun _ _ _ _ => by omega) (xa_subR rfl (xa_sub0))))))))) ?_
                      exact ih2 (x7 + 1) (x5 + 1) x4 x3 (x2 + 1) (by omega) en1 en2 (by omega)
                    · intro (c17 : x2 = 0)
                      show Q 45 [(7, (0, 0, 2, 16, x7 + 1)), (2, (0, 0, 1, 197, x2 + 1)), (4, (0, 0, 1, 15, x7)), (3, (0, 0, 0, 13, x6)), (5, (0, 0, 1, 197, x5 + 1)), (6, (0, 0, 0, 13, x6)), (1, (0, 0, 0, 50, a)), (0, (2, 60, 0, 0, 0))] [] M1
                      have en1 : x2 + 1 = pl_sm (pl_nv (pl_P1 (M1 68) (M1 69) (M1 64) (M1 65) (M1 63) (M1 66) (M1 67) (M1 60 6)) (M1 60 0).toNat) x6.toNat + pl_ct (fun w => x6 < w ∧ (pl_P1 (M1 68) (M1 69) (M1 64) (M1 65) (M1 63) (M1 66) (M1 67) (M1 60 6)) x6 w) (x7 + 1).toNat := by
                        rw [show (x7 + 1).toNat = x7.toNat + 1 by omega, pl_ct1 (show (fun w => x6 < w ∧ (pl_P1 (M1 68) (M1 69) (M1 64) (M1 65) (M1 63) (M1 66) (M1 67) (M1 60 6)) x6 w) ((x7.toNat : Nat) : Int) by rw [ew]; exact ⟨by omega, c2, (i12.mp (by omega)).1, fun h => by have := i15.mpr h; omega, (i12.mp (by omega)).2⟩), h4]
                        omega
                      have en2 : x5 + 1 = pl_sm (pl_nv (pl_P2 (M1 64) (M1 65)) (M1 60 0).toNat) x6.toNat + pl_ct (fun w => x6 < w ∧ (pl_P2 (M1 64) (M1 65)) x6 w) (x7 + 1).toNat := by
                        rw [show (x7 + 1).toNat = x7.toNat + 1 by omega, pl_ct1 (show (fun w => x6 < w ∧ (pl_P2 (M1 64) (M1 65)) x6 w) ((x7.toNat : Nat) : Int) by rw [ew]; exact ⟨by omega, c2, c3⟩), h5]
                        omega
                      refine hgo.2.1 45 _ [(7, (0, 0, 1, 15, x7 + 1)), (6, (0, 0, 0, 13, x6)), (5, (0, 0, 0, 196, x5 + 1)), (4, (0, 0, (-2147483648), 2147483647, x7)), (3, (0, 0, (-2147483648), 2147483647, x6)), (2, (0, 0, 0, 196, x2 + 1)), (1, (0, 0, 0, 50, a)), (0, (2, 60, 0, 0, 0))] _ _ (xa_subI rfl rfl (fun _ _ _ _ => by omega) (xa_subI rfl rfl (fun _ _ _ _ => by omega) (xa_subI rfl rfl (fun _ _ _ _ => by omega) (xa_subI rfl rfl (fun _ _ _ _ => by omega) (xa_subI rfl rfl (fun _ _ _ _ => by omega) (xa_subI rfl rfl (fun _ _ _ _ => by omega) (xa_subI rfl rfl (fun _ _ _ _ => by omega) (xa_subR rfl (xa_sub0))))))))) ?_
                      exact ih2 (x7 + 1) (x5 + 1) x7 x6 (x2 + 1) (by omega) en1 en2 (by omega)
                  · intro (c16 : ¬ r118 = 0)
                    show Q 45 [(7, (0, 0, 2, 16, x7 + 1)), (5, (0, 0, 1, 197, x5 + 1)), (6, (0, 0, 0, 13, x6)), (4, (0, 0, (-2147483648), 2147483647, x4)), (3, (0, 0, (-2147483648), 2147483647, x3)), (2, (0, 0, 0, 196, x2)), (1, (0, 0, 0, 50, a)), (0, (2, 60, 0, 0, 0))] [] M1
                    have en1 : x2 = pl_sm (pl_nv (pl_P1 (M1 68) (M1 69) (M1 64) (M1 65) (M1 63) (M1 66) (M1 67) (M1 60 6)) (M1 60 0).toNat) x6.toNat + pl_ct (fun w => x6 < w ∧ (pl_P1 (M1 68) (M1 69) (M1 64) (M1 65) (M1 63) (M1 66) (M1 67) (M1 60 6)) x6 w) (x7 + 1).toNat := by
                      rw [show (x7 + 1).toNat = x7.toNat + 1 by omega, pl_ct0 (show ¬ (fun w => x6 < w ∧ (pl_P1 (M1 68) (M1 69) (M1 64) (M1 65) (M1 63) (M1 66) (M1 67) (M1 60 6)) x6 w) ((x7.toNat : Nat) : Int) by rw [ew]; exact (fun h => by have n1 := i12.mpr ⟨h.2.2.1, h.2.2.2.2⟩; first | omega | exact h.2.2.2.1 (i15.mp (by omega)))), h4]
                    have en2 : x5 + 1 = pl_sm (pl_nv (pl_P2 (M1 64) (M1 65)) (M1 60 0).toNat) x6.toNat + pl_ct (fun w => x6 < w ∧ (pl_P2 (M1 64) (M1 65)) x6 w) (x7 + 1).toNat := by
                      rw [show (x7 + 1).toNat = x7.toNat + 1 by omega, pl_ct1 (show (fun w => x6 < w ∧ (pl_P2 (M1 64) (M1 65)) x6 w) ((x7.toNat : Nat) : Int) by rw [ew]; exact ⟨by omega, c2, c3⟩), h5]
                      omega
                    refine hgo.2.1 45 _ [(7, (0, 0, 1, 15, x7 + 1)), (6, (0, 0, 0, 13, x6)), (5, (0, 0, 0, 196, x5 + 1)), (4, (0, 0, (-2147483648), 2147483647, x4)), (3, (0, 0, (-2147483648), 2147483647, x3)), (2, (0, 0, 0, 196, x2)), (1, (0, 0, 0, 50, a)), (0, (2, 60, 0, 0, 0))] _ _ (xa_subI rfl rfl (fun _ _ _ _ => by omega) (xa_subI rfl rfl (fun _ _ _ _ => by omega) (xa_subI rfl rfl (fun _ _ _ _ => by omega) (xa_subI rfl rfl (fun _ _ _ _ => by omega) (xa_subI rfl rfl (fun _ _ _ _ => by omega) (xa_subI rfl rfl (fun _ _ _ _ => by omega) (xa_subI rfl rfl (fun _ _ _ _ => by omega) (xa_subR rfl (xa_sub0))))))))) ?_
                    exact ih2 (x7 + 1) (x5 + 1) x4 x3 x2 (by omega) en1 en2 (by omega)
            · intro (c2 : ¬ (M1 65 x6) = (M1 65 x7))
              show Q 45 [(7, (0, 0, 2, 16, x7 + 1)), (6, (0, 0, 0, 13, x6)), (5, (0, 0, 0, 196, x5)), (4, (0, 0, (-2147483648), 2147483647, x4)), (3, (0, 0, (-2147483648), 2147483647, x3)), (2, (0, 0, 0, 196, x2)), (1, (0, 0, 0, 50, a)), (0, (2, 60, 0, 0, 0))] [] M1
              have en1 : x2 = pl_sm (pl_nv (pl_P1 (M1 68) (M1 69) (M1 64) (M1 65) (M1 63) (M1 66) (M1 67) (M1 60 6)) (M1 60 0).toNat) x6.toNat + pl_ct (fun w => x6 < w ∧ (pl_P1 (M1 68) (M1 69) (M1 64) (M1 65) (M1 63) (M1 66) (M1 67) (M1 60 6)) x6 w) (x7 + 1).toNat := by
                rw [show (x7 + 1).toNat = x7.toNat + 1 by omega, pl_ct0 (show ¬ (fun w => x6 < w ∧ (pl_P1 (M1 68) (M1 69) (M1 64) (M1 65) (M1 63) (M1 66) (M1 67) (M1 60 6)) x6 w) ((x7.toNat : Nat) : Int) by rw [ew]; exact (fun h => c2 h.2.1)), h4]
              have en2 : x5 = pl_sm (pl_nv (pl_P2 (M1 64) (M1 65)) (M1 60 0).toNat) x6.toNat + pl_ct (fun w => x6 < w ∧ (pl_P2 (M1 64) (M1 65)) x6 w) (x7 + 1).toNat := by
                rw [show (x7 + 1).toNat = x7.toNat + 1 by omega, pl_ct0 (show ¬ (fun w => x6 < w ∧ (pl_P2 (M1 64) (M1 65)) x6 w) ((x7.toNat : Nat) : Int) by rw [ew]; exact (fun h => c2 h.2.1)), h5]
              refine hgo.2.1 45 _ [(7, (0, 0, 1, 15, x7 + 1)), (6, (0, 0, 0, 13, x6)), (5, (0, 0, 0, 196, x5)), (4, (0, 0, (-2147483648), 2147483647, x4)), (3, (0, 0, (-2147483648), 2147483647, x3)), (2, (0, 0, 0, 196, x2)), (1, (0, 0, 0, 50, a)), (0, (2, 60, 0, 0, 0))] _ _ (xa_subI rfl rfl (fun _ _ _ _ => by omega) (xa_subI rfl rfl (fun _ _ _ _ => by omega) (xa_subI rfl rfl (fun _ _ _ _ => by omega) (xa_subI rfl rfl (fun _ _ _ _ => by omega) (xa_subI rfl rfl (fun _ _ _ _ => by omega) (xa_subI rfl rfl (fun _ _ _ _ => by omega) (xa_subI rfl rfl (fun _ _ _ _ => by omega) (xa_subR rfl (xa_sub0))))))))) ?_
              exact ih2 (x7 + 1) x5 x4 x3 x2 (by omega) en1 en2 (by omega)
      refine hgo.1 22 [30, 45, 165] 30 _ _ _ ?_
      refine And.intro ?_ ?_
      · intro (c1 : (M1 60 0) ≤ x6)
        show Q 165 [(10, (0, 0, (-1), 15, (M1 60 6) - 1)), (9, (0, 0, (-1), (-1), (-1))), (8, (0, 0, 0, 0, 0)), (7, (0, 0, (-1), (-1), (-1))), (6, (0, 0, 0, 0, 0)), (5, (0, 0, 0, 196, x5)), (4, (0, 0, (-2147483648), 2147483647, x4)), (3, (0, 0, (-2147483648), 2147483647, x3)), (2, (0, 0, 0, 196, x2)), (1, (0, 0, 0, 50, a)), (0, (2, 60, 0, 0, 0))] [] M1
        refine hgo.2.1 165 _ [(10, (0, 0, (-1), 15, (M1 60 6) - 1)), (9, (0, 0, (-2147483648), 2147483647, (-1))), (8, (0, 0, 0, 16, 0)), (7, (0, 0, (-2147483648), 2147483647, (-1))), (6, (0, 0, 0, 16, 0)), (5, (0, 0, 0, 196, x5)), (4, (0, 0, (-2147483648), 2147483647, x4)), (3, (0, 0, (-2147483648), 2147483647, x3)), (2, (0, 0, 0, 196, x2)), (1, (0, 0, 0, 50, a)), (0, (2, 60, 0, 0, 0))] _ _ (xa_subI rfl rfl (fun _ _ _ _ => by omega) (xa_subI rfl rfl (fun _ _ _ _ => by omega) (xa_subI rfl rfl (fun _ _ _ _ => by omega) (xa_subI rfl rfl (fun _ _ _ _ => by omega) (xa_subI rfl rfl (fun _ _ _ _ => by omega) (xa_subI rfl rfl (fun _ _ _ _ => by omega) (xa_subI rfl rfl (fun _ _ _ _ => by omega) (xa_subI rfl rfl (fun _ _ _ _ => by omega) (xa_subI rfl rfl (fun _ _ _ _ => by omega) (xa_subI rfl rfl (fun _ _ _ _ => by omega) (xa_subR rfl (xa_sub0)))))))))))) ?_
        exact loop2 x5 x4 x3 x2 (by rw [h4, show x6 = M1 60 0 by omega]) (by rw [h5, show x6 = M1 60 0 by omega]) 17 ((M1 60 6) - 1) (-1) 0 (-1) 0 (by omega) (by rw [show M1 60 6 - 1 + 1 = M1 60 6 by omega, Int.zero_add]) (by rw [show M1 60 6 - 1 + 1 = M1 60 6 by omega, Int.zero_add]) (by omega)
      · intro (c1 : x6 < (M1 60 0))
        show Q 45 [(7, (0, 0, 1, 15, x6 + 1)), (6, (0, 0, 0, 14, x6)), (5, (0, 0, 0, 196, x5)), (4, (0, 0, (-2147483648), 2147483647, x4)), (3, (0, 0, (-2147483648), 2147483647, x3)), (2, (0, 0, 0, 196, x2)), (1, (0, 0, 0, 50, a)), (0, (2, 60, 0, 0, 0))] [] M1
        have hz1 : pl_ct (fun w => x6 < w ∧ (pl_P1 (M1 68) (M1 69) (M1 64) (M1 65) (M1 63) (M1 66) (M1 67) (M1 60 6)) x6 w) (x6 + 1).toNat = 0 := pl_ct_z _ (fun k hk h => by have := h.1; omega)
        have hz2 : pl_ct (fun w => x6 < w ∧ (pl_P2 (M1 64) (M1 65)) x6 w) (x6 + 1).toNat = 0 := pl_ct_z _ (fun k hk h => by have := h.1; omega)
        refine hgo.2.1 45 _ [(7, (0, 0, 1, 15, x6 + 1)), (6, (0, 0, 0, 13, x6)), (5, (0, 0, 0, 196, x5)), (4, (0, 0, (-2147483648), 2147483647, x4)), (3, (0, 0, (-2147483648), 2147483647, x3)), (2, (0, 0, 0, 196, x2)), (1, (0, 0, 0, 50, a)), (0, (2, 60, 0, 0, 0))] _ _ (xa_subI rfl rfl (fun _ _ _ _ => by omega) (xa_subI rfl rfl (fun _ _ _ _ => by omega) (xa_subI rfl rfl (fun _ _ _ _ => by omega) (xa_subI rfl rfl (fun _ _ _ _ => by omega) (xa_subI rfl rfl (fun _ _ _ _ => by omega) (xa_subI rfl rfl (fun _ _ _ _ => by omega) (xa_subI rfl rfl (fun _ _ _ _ => by omega) (xa_subR rfl (xa_sub0))))))))) ?_
        exact inner (by omega) 16 (x6 + 1) x5 x4 x3 x2 (by omega) (by rw [hz1, ← h4]; omega) (by rw [hz2, ← h5]; omega) (by omega)
  refine hgo.1 23 [30, 45, 165] 0 _ _ _ ?_
  show xa_C xm_I A h0 _ 214 [(0, 0, (-2147483648), 2147483647, a), (0, 0, 0, 0, 0), (0, 0, 50, 50, 50)] (xa_up M 60 21 0) _
  refine ct_in ?_ ?_
  · intro (i1 : 0 ≤ a ∧ a ≤ 50)
    show Q 30 [(6, (0, 0, 0, 0, 0)), (5, (0, 0, 0, 0, 0)), (4, (0, 0, (-1), (-1), (-1))), (3, (0, 0, (-1), (-1), (-1))), (2, (0, 0, 0, 0, 0)), (0, (2, 60, 0, 0, 0)), (1, (0, 0, (-2147483648), 2147483647, a))] [] (xa_up M 60 21 0)
    refine hgo.2.1 30 _ [(6, (0, 0, 0, 14, 0)), (5, (0, 0, 0, 196, 0)), (4, (0, 0, (-2147483648), 2147483647, (-1))), (3, (0, 0, (-2147483648), 2147483647, (-1))), (2, (0, 0, 0, 196, 0)), (1, (0, 0, 0, 50, a)), (0, (2, 60, 0, 0, 0))] _ _ (xa_subI rfl rfl (fun _ _ _ _ => by omega) (xa_subI rfl rfl (fun _ _ _ _ => by omega) (xa_subI rfl rfl (fun _ _ _ _ => by omega) (xa_subI rfl rfl (fun _ _ _ _ => by omega) (xa_subI rfl rfl (fun _ _ _ _ => by omega) (xa_subI rfl rfl (fun _ _ _ _ => by omega) (xa_subR rfl (xa_sub0)))))))) ?_
    exact loops (xa_up M 60 21 0) (xm_cor_f (by omega) xm_cor_r) (by omega) 15 0 0 (-1) (-1) 0 (by rw [xa_up_ne (by omega)]; omega) rfl rfl (by omega)
  · intro (i2 : ¬ (0 ≤ a ∧ a ≤ 50))
    show xa_wk post (some (0, 0, (-1), (-1), (-1))) (xa_up M 60 21 0)
    exact xa_wkI (-1) rfl (fun _ _ => by omega) (k0 (by omega) _ (xm_cor_f (by omega) xm_cor_r))
