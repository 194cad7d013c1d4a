-- room, on both sides (made by wip/u/mkrm.py)
set_option maxRecDepth 20000
/-- the square of how far two axles stand apart -/
def pl_sq (xs ys : Int → Int) (a b : Int) : Int := (xs a - xs b) * (xs a - xs b) + (ys a - ys b) * (ys a - ys b)
theorem pl_sq1 {x : Int} (h1 : -1000 ≤ x) (h2 : x ≤ 1000) : 0 ≤ x * x ∧ x * x ≤ 1000000 := by
  have m1 := xa_mul_ok (p := -1000) (q := 1000) (r := -1000) (s := 1000) (m := x) (n := x) (by omega) (by omega) (by omega) (by omega)
  have e1 : xa_mhi (-1000) 1000 (-1000) 1000 = 1000000 := by decide
  rw [e1] at m1
  exact ⟨xm_sq x, m1.2⟩
theorem pl_sq_r {xs ys : Int → Int} {a b : Int} (hx : ∀ i, 0 ≤ i → i < 10 → -500 ≤ xs i ∧ xs i ≤ 500) (hy : ∀ i, 0 ≤ i → i < 10 → -500 ≤ ys i ∧ ys i ≤ 500) (ha : 0 ≤ a ∧ a ≤ 9) (hb : 0 ≤ b ∧ b ≤ 9) : 0 ≤ pl_sq xs ys a b ∧ pl_sq xs ys a b ≤ 2000000 := by
  have x1 := hx a ha.1 (by omega)
  have x2 := hx b hb.1 (by omega)
  have y1 := hy a ha.1 (by omega)
  have y2 := hy b hb.1 (by omega)
  have s1 := pl_sq1 (x := xs a - xs b) (by omega) (by omega)
  have s2 := pl_sq1 (x := ys a - ys b) (by omega) (by omega)
  unfold pl_sq
  exact ⟨Int.add_nonneg s1.1 s2.1, by have := Int.add_le_add s1.2 s2.2; exact Int.le_trans this (by decide)⟩
/-- two wheels mesh -/
def pl_me (o p : Int → Int) (m a b : Int) : Prop := ∃ k, 0 ≤ k ∧ k < m ∧ (o k = a ∧ p k = b ∨ o k = b ∧ p k = a)
theorem pl_mi (M : xa_M) (v w : Int) : (lm_mi M v w = 0 ∨ lm_mi M v w = 1) ∧ (lm_mi M v w = 1 ↔ pl_me (M 7) (M 8) (M 1 10) v w) := by
  have e : (∃ k, 0 ≤ k ∧ k < M 1 10 ∧ lm_m1 M v w k) ↔ pl_me (M 7) (M 8) (M 1 10) v w := by
    refine ⟨fun ⟨k, k0, k1, h⟩ => ⟨k, k0, k1, ?_⟩, fun ⟨k, k0, k1, h⟩ => ⟨k, k0, k1, ?_⟩⟩
    · rcases h with h | h
      · exact Or.inl h
      · exact Or.inr ⟨h.2, h.1⟩
    · rcases h with h | h
      · exact Or.inl h
      · exact Or.inr ⟨h.2, h.1⟩
  refine ⟨lm_if01 _, ?_⟩
  unfold lm_mi
  by_cases c : ∃ k, 0 ≤ k ∧ k < M 1 10 ∧ lm_m1 M v w k
  · rw [lm_if1 c]
    exact ⟨fun _ => e.mp c, fun _ => rfl⟩
  · rw [lm_if0 c]
    exact ⟨fun h => by omega, fun h => absurd (e.mpr h) c⟩
/-- wheels of unlike axles that are nearer than both halves together -/
def pl_cr (xs ys ax tk o p : Int → Int) (m v w : Int) : Prop := ¬ ax v = ax w ∧ ¬ pl_me o p m v w ∧ pl_sq xs ys (ax v) (ax w) < (tk v + tk w) * (tk v + tk w)
def pl_sk (dp o p : Int → Int) (m : Int) : Prop := ¬ dp (o m) = dp (p m)
def pl_of (xs ys ax tk o p : Int → Int) (sl m : Int) : Prop := (tk (o m) + tk (p m) + sl) * (tk (o m) + tk (p m) + sl) < pl_sq xs ys (ax (o m)) (ax (p m)) ∨ (0 < tk (o m) + tk (p m) - sl ∧ pl_sq xs ys (ax (o m)) (ax (p m)) < (tk (o m) + tk (p m) - sl) * (tk (o m) + tk (p m) - sl))
/-- how many of the first -/
noncomputable def pl_ct (P : Int → Prop) : Nat → Int
  | 0 => 0
  | k + 1 => @ite _ (P (k : Int)) (Classical.propDecidable _) (pl_ct P k + 1) (pl_ct P k)
theorem pl_ct1 {P : Int → Prop} {k : Nat} (h : P (k : Int)) : pl_ct P (k + 1) = pl_ct P k + 1 := by
  rw [pl_ct]
  exact if_pos h
theorem pl_ct0 {P : Int → Prop} {k : Nat} (h : ¬ P (k : Int)) : pl_ct P (k + 1) = pl_ct P k := by
  rw [pl_ct]
  exact if_neg h
theorem pl_ct_e {P P' : Int → Prop} : ∀ n : Nat, (∀ k : Nat, k < n → (P (k : Int) ↔ P' (k : Int))) → pl_ct P n = pl_ct P' n := by
  intro n
  induction n with
  | zero => intro _; rfl
  | succ k ih =>
    intro e
    have ih := ih (fun j hj => e j (by omega))
    by_cases h : P (k : Int)
    · rw [pl_ct1 h, pl_ct1 ((e k (by omega)).mp h), ih]
    · rw [pl_ct0 h, pl_ct0 (fun h' => h ((e k (by omega)).mpr h')), ih]
theorem pl_ct_r {P : Int → Prop} : ∀ n : Nat, 0 ≤ pl_ct P n ∧ pl_ct P n ≤ (n : Int) := by
  intro n
  induction n with
  | zero => exact ⟨Int.le_refl _, Int.le_refl _⟩
  | succ k ih =>
    by_cases h : P (k : Int)
    · rw [pl_ct1 h]
      omega
    · rw [pl_ct0 h]
      omega
theorem pl_ct_z {P : Int → Prop} : ∀ n : Nat, (∀ k : Nat, k < n → ¬ P (k : Int)) → pl_ct P n = 0 := by
  intro n
  induction n with
  | zero => intro _; rfl
  | succ k ih =>
    intro e
    rw [pl_ct0 (e k (by omega)), ih (fun j hj => e j (by omega))]
/-- the sum of the first -/
def pl_sm (f : Int → Int) : Nat → Int
  | 0 => 0
  | k + 1 => pl_sm f k + f (k : Int)
theorem pl_sm1 {f : Int → Int} {k : Nat} : pl_sm f (k + 1) = pl_sm f k + f (k : Int) := rfl
theorem pl_sm_e {f g : Int → Int} : ∀ n : Nat, (∀ k : Nat, k < n → f (k : Int) = g (k : Int)) → pl_sm f n = pl_sm g n := by
  intro n
  induction n with
  | zero => intro _; rfl
  | succ k ih =>
    intro e
    rw [pl_sm1, pl_sm1, ih (fun j hj => e j (by omega)), e k (by omega)]
theorem pl_sm_r {f : Int → Int} (hf : ∀ v : Int, 0 ≤ f v ∧ f v ≤ 14) : ∀ n : Nat, 0 ≤ pl_sm f n ∧ pl_sm f n ≤ 14 * (n : Int) := by
  intro n
  induction n with
  | zero => exact ⟨Int.le_refl _, Int.le_refl _⟩
  | succ k ih =>
    rw [pl_sm1]
    have := hf (k : Int)
    omega
/-- of the wheels behind v those for which it holds -/
noncomputable def pl_nv (P : Int → Int → Prop) (n : Nat) (v : Int) : Int := pl_ct (fun w => v < w ∧ P v w) n
theorem pl_nv_r {P : Int → Int → Prop} {n : Nat} (hn : n ≤ 14) (v : Int) : 0 ≤ pl_nv P n v ∧ pl_nv P n v ≤ 14 := by
  have := pl_ct_r (P := fun w => v < w ∧ P v w) n
  unfold pl_nv
  omega
/-- pairs of the first n -/
noncomputable def pl_pa (P : Int → Int → Prop) (n : Nat) : Int := pl_sm (pl_nv P n) n
theorem pl_pa_e {P P' : Int → Int → Prop} {n : Nat} (e : ∀ v w : Nat, v < n → w < n → (P (v : Int) (w : Int) ↔ P' (v : Int) (w : Int))) : pl_pa P n = pl_pa P' n := by
  unfold pl_pa
  refine pl_sm_e n (fun v hv => ?_)
  unfold pl_nv
  exact pl_ct_e n (fun w hw => ⟨fun h => ⟨h.1, (e v w hv hw).mp h.2⟩, fun h => ⟨h.1, (e v w hv hw).mpr h.2⟩⟩)
/-- two wheels of one depth that are too near; of one depth on one axle -/
def pl_P1 (xs ys ax dp tk o p : Int → Int) (m v w : Int) : Prop := dp v = dp w ∧ pl_cr xs ys ax tk o p m v w
def pl_P2 (ax dp : Int → Int) (v w : Int) : Prop := dp v = dp w ∧ ax v = ax w
/-- all that is wrong -/
noncomputable def pl_all (xs ys ax dp tk o p : Int → Int) (n m sl : Int) : Int := pl_pa (pl_P1 xs ys ax dp tk o p m) n.toNat + pl_ct (pl_sk dp o p) m.toNat + pl_ct (pl_of xs ys ax tk o p sl) m.toNat + pl_pa (pl_P2 ax dp) n.toNat
/-- only the row has changed -/
def pl_K (N M : xa_M) : Prop := ∀ (q : Nat) (j : Int), ¬ q = 48 → ¬ q = 49 → M q j = N q j
theorem pl_Ke {N M : xa_M} (h : pl_K N M) (q : Nat) (h1 : ¬ q = 48) (h2 : ¬ q = 49) : M q = N q := funext (fun j => h q j h1 h2)
def pl_F (M : xa_M) : Prop := (0 ≤ M 1 9 ∧ M 1 9 ≤ 14) ∧ (0 ≤ M 1 10 ∧ M 1 10 ≤ 16) ∧ (∀ k, 0 ≤ k → k < M 1 10 → (0 ≤ M 7 k ∧ M 7 k < 14) ∧ (0 ≤ M 8 k ∧ M 8 k < 14)) ∧ (∀ i, 0 ≤ i → i < 10 → -500 ≤ M 9 i ∧ M 9 i ≤ 500) ∧ (∀ i, 0 ≤ i → i < 10 → -500 ≤ M 10 i ∧ M 10 i ≤ 500) ∧ (∀ i, 0 ≤ i → i < 14 → 0 ≤ M 5 i ∧ M 5 i ≤ 9) ∧ (∀ i, 0 ≤ i → i < 14 → 0 ≤ M 6 i ∧ M 6 i ≤ 9) ∧ ∀ i, 0 ≤ i → i < 14 → 0 ≤ M 4 i ∧ M 4 i ≤ 400
theorem pl_F_k {N M : xa_M} (h : pl_K N M) (hF : pl_F N) : pl_F M := by
  unfold pl_F at hF ⊢
  rw [pl_Ke h 1 (by decide) (by decide), pl_Ke h 4 (by decide) (by decide), pl_Ke h 5 (by decide) (by decide), pl_Ke h 6 (by decide) (by decide), pl_Ke h 7 (by decide) (by decide), pl_Ke h 8 (by decide) (by decide), pl_Ke h 9 (by decide) (by decide), pl_Ke h 10 (by decide) (by decide)]
  exact hF
theorem cx_23_9 {b : Bool} {A : Nat → Nat} {h0 : g_H} {d : Nat} {M : xa_M} {post : Option xa_V → xa_M → Prop} {l1 u1 : Int} {i : Int} (h1 : 0 ≤ i ∧ i < 10) (k1 : post (some (0, 0, (-2147483648), 2147483647, M 9 i)) M) : xa_C (xl_I b) A h0 (d + 1) 23 [(2, 9, 0, 0, 0), (0, 0, l1, u1, i)] M post := by
  refine xa_C_arg [(2, 9, 0, 0, 0), (0, 0, (-2147483648), 2147483647, i)] (xa_svR (xa_svI (fun _ _ _ _ => by omega) xa_sv0)) ?_
  refine xa_meth (Q0 := (2, 1, false, 0, 0, 11)) (by decide +kernel) ⟨rfl, rfl⟩ (full := s_c_23) rfl rfl ?_
  intro hM hv Q hgo
  refine hgo.1 15 [] 0 _ _ _ ?_
  refine And.intro ?_ ?_
  · intro (c1 : i < 0)
    show post (some (0, 0, 0, 0, 0)) M
    exact absurd h1 (by omega)
  · intro (c1 : 0 ≤ i)
    refine And.intro ?_ ?_
    · intro (c2 : 10 ≤ i)
      show post (some (0, 0, 0, 0, 0)) M
      exact absurd h1 (by omega)
    · intro (c2 : i < 10)
      refine And.intro (show 0 ≤ i ∧ i < 10 by omega) ?_
      show post (some (0, 0, (-2147483648), 2147483647, M 9 i)) M
      exact k1
theorem cx_23_10 {b : Bool} {A : Nat → Nat} {h0 : g_H} {d : Nat} {M : xa_M} {post : Option xa_V → xa_M → Prop} {l1 u1 : Int} {i : Int} (h1 : 0 ≤ i ∧ i < 10) (k1 : post (some (0, 0, (-2147483648), 2147483647, M 10 i)) M) : xa_C (xl_I b) A h0 (d + 1) 23 [(2, 10, 0, 0, 0), (0, 0, l1, u1, i)] M post := by
  refine xa_C_arg [(2, 10, 0, 0, 0), (0, 0, (-2147483648), 2147483647, i)] (xa_svR (xa_svI (fun _ _ _ _ => by omega) xa_sv0)) ?_
  refine xa_meth (Q0 := (2, 1, false, 0, 0, 11)) (by decide +kernel) ⟨rfl, rfl⟩ (full := s_c_23) rfl rfl ?_
  intro hM hv Q hgo
  refine hgo.1 15 [] 0 _ _ _ ?_
  refine And.intro ?_ ?_
  · intro (c1 : i < 0)
    show post (some (0, 0, 0, 0, 0)) M
    exact absurd h1 (by omega)
  · intro (c1 : 0 ≤ i)
    refine And.intro ?_ ?_
    · intro (c2 : 10 ≤ i)
      show post (some (0, 0, 0, 0, 0)) M
      exact absurd h1 (by omega)
    · intro (c2 : i < 10)
      refine And.intro (show 0 ≤ i ∧ i < 10 by omega) ?_
      show post (some (0, 0, (-2147483648), 2147483647, M 10 i)) M
      exact k1
theorem cx_144p {b : Bool} {A : Nat → Nat} {h0 : g_H} {d : Nat} {M : xa_M} {post : Option xa_V → xa_M → Prop} {l1 u1 l2 u2 : Int} {a c : Int} (h1 : 0 ≤ a ∧ a ≤ 9) (h2 : 0 ≤ c ∧ c ≤ 9) (hx : ∀ i, 0 ≤ i → i < 10 → -500 ≤ M 9 i ∧ M 9 i ≤ 500) (hy : ∀ i, 0 ≤ i → i < 10 → -500 ≤ M 10 i ∧ M 10 i ≤ 500) (k : (0 ≤ pl_sq (M 9) (M 10) a c ∧ pl_sq (M 9) (M 10) a c ≤ 2000000) → post (some (1, 0, 0, 2000000, pl_sq (M 9) (M 10) a c)) M) : xa_C (xl_I b) A h0 (d + 2) 144 [(2, 1, 0, 0, 0), (0, 0, l1, u1, a), (0, 0, l2, u2, c)] M post := by
  refine xa_C_wk ?_
  refine xa_C_arg [(2, 1, 0, 0, 0), (0, 0, 0, 9, a), (0, 0, 0, 9, c)] (xa_svR (xa_svI (fun _ _ _ _ => by omega) (xa_svI (fun _ _ _ _ => by omega) (xa_sv0)))) ?_
  refine xa_meth (Q0 := (7, 3, false, 0, 0, 1)) (by decide +kernel) ⟨rfl, rfl⟩ (full := s_c_144) rfl rfl ?_
  intro hM hv Q hgo
  refine hgo.1 34 [] 0 _ _ _ ?_
  show xa_C (xl_I b) A h0 _ 23 [(2, 9, 0, 0, 0), (0, 0, 0, 9, a)] M _
  refine cx_23_9 (show 0 ≤ a ∧ a < 10 by omega) ?_
  show xa_C (xl_I b) A h0 _ 23 [(2, 9, 0, 0, 0), (0, 0, 0, 9, c)] M _
  refine cx_23_9 (show 0 ≤ c ∧ c < 10 by omega) ?_
  show xa_C (xl_I b) A h0 _ 23 [(2, 10, 0, 0, 0), (0, 0, 0, 9, a)] M _
  refine cx_23_10 (show 0 ≤ a ∧ a < 10 by omega) ?_
  show xa_C (xl_I b) A h0 _ 23 [(2, 10, 0, 0, 0), (0, 0, 0, 9, c)] M _
  refine cx_23_10 (show 0 ≤ c ∧ c < 10 by omega) ?_
  show xa_wk post (some (1, 0, (-9223372036854775808), 9223372036854775807, xa_w64 (((xa_w32 ((M 9 a) - (M 9 c))) * (xa_w32 ((M 9 a) - (M 9 c)))) + ((xa_w32 ((M 10 a) - (M 10 c))) * (xa_w32 ((M 10 a) - (M 10 c))))))) M
  have x1 := hx a (by omega) (by omega)
  have x2 := hx c (by omega) (by omega)
  have y1 := hy a (by omega) (by omega)
  have y2 := hy c (by omega) (by omega)
  have e1 : xa_w32 ((M 9 a) - (M 9 c)) = M 9 a - M 9 c := xa_w32_id (by omega) (by omega)
  have e2 : xa_w32 ((M 10 a) - (M 10 c)) = M 10 a - M 10 c := xa_w32_id (by omega) (by omega)
  have hq := pl_sq_r hx hy h1 h2
  have e3 : xa_w64 (((xa_w32 ((M 9 a) - (M 9 c))) * (xa_w32 ((M 9 a) - (M 9 c)))) + ((xa_w32 ((M 10 a) - (M 10 c))) * (xa_w32 ((M 10 a) - (M 10 c))))) = pl_sq (M 9) (M 10) a c := by
    rw [e1, e2]
    exact xa_w64_id (n := pl_sq (M 9) (M 10) a c) (by omega) (by omega)
  exact xa_wkL (pl_sq (M 9) (M 10) a c) e3 (fun _ _ => hq) (k hq)
theorem cx_143p {b : Bool} {A : Nat → Nat} {h0 : g_H} {d : Nat} {M : xa_M} {post : Option xa_V → xa_M → Prop} {l1 u1 l2 u2 : Int} {v w : Int} (h1 : 0 ≤ v ∧ v ≤ 13) (h2 : 0 ≤ w ∧ w ≤ 13) (hF : pl_F M) (k1 : pl_cr (M 9) (M 10) (M 5) (M 4) (M 7) (M 8) (M 1 10) v w → post (some (0, 0, 1, 1, 1)) M) (k0 : ¬ pl_cr (M 9) (M 10) (M 5) (M 4) (M 7) (M 8) (M 1 10) v w → post (some (0, 0, 0, 0, 0)) M) : xa_C (xl_I b) A h0 (d + 5) 143 [(2, 1, 0, 0, 0), (0, 0, l1, u1, v), (0, 0, l2, u2, w)] M post := by
  refine xa_C_arg [(2, 1, 0, 0, 0), (0, 0, 0, 13, v), (0, 0, 0, 13, w)] (xa_svR (xa_svI (fun _ _ _ _ => by omega) (xa_svI (fun _ _ _ _ => by omega) (xa_sv0)))) ?_
  refine xa_meth (Q0 := (5, 2, false, 0, 0, 1)) (by decide +kernel) ⟨rfl, rfl⟩ (full := s_c_143) rfl rfl ?_
  intro hM hv Q hgo
  obtain ⟨hn, hm, hr, hx, hy, ha, hd, ht⟩ := hF
  obtain ⟨z0, z1⟩ := pl_mi M v w
  have tv := ht v h1.1 (by omega)
  have tw := ht w h2.1 (by omega)
  have av := ha v h1.1 (by omega)
  have aw := ha w h2.1 (by omega)
  have e1 : xa_w32 ((M 4 v) + (M 4 w)) = M 4 v + M 4 w := xa_w32_id (by omega) (by omega)
  refine hgo.1 40 [] 0 _ _ _ ?_
  show xa_C (xl_I b) A h0 _ 37 [(2, 1, 0, 0, 0), (0, 0, 0, 13, v)] M _
  refine cx_37_1 (show 0 ≤ v ∧ v < 14 by omega) ?_
  show xa_C (xl_I b) A h0 _ 37 [(2, 1, 0, 0, 0), (0, 0, 0, 13, w)] M _
  refine cx_37_1 (show 0 ≤ w ∧ w < 14 by omega) ?_
  refine And.intro ?_ ?_
  · intro (c1 : (M 5 v) = (M 5 w))
    show post (some (0, 0, 0, 0, 0)) M
    exact k0 (fun ⟨y1, y2, y3⟩ => by first | omega | exact y2 (z1.mp (by omega)))
  · intro (c1 : ¬ (M 5 v) = (M 5 w))
    show xa_C (xl_I b) A h0 _ 38 [(2, 1, 0, 0, 0), (0, 0, 0, 13, v), (0, 0, 0, 13, w)] M _
    refine cx_38_1 hm hr (show 0 ≤ w ∧ w < 14 by omega) ?_
    refine And.intro ?_ ?_
    · intro (c2 : (lm_mi M v w) = 0)
      show xa_C (xl_I b) A h0 _ 28 [(2, 1, 0, 0, 0), (0, 0, 0, 13, v)] M _
      refine cx_28_1 (show 0 ≤ v ∧ v < 14 by omega) ?_
      show xa_C (xl_I b) A h0 _ 28 [(2, 1, 0, 0, 0), (0, 0, 0, 13, w)] M _
      refine cx_28_1 (show 0 ≤ w ∧ w < 14 by omega) ?_
      show xa_C (xl_I b) A h0 _ 37 [(2, 1, 0, 0, 0), (0, 0, 0, 13, v)] M _
      refine cx_37_1 (show 0 ≤ v ∧ v < 14 by omega) ?_
      show xa_C (xl_I b) A h0 _ 37 [(2, 1, 0, 0, 0), (0, 0, 0, 13, w)] M _
      refine cx_37_1 (show 0 ≤ w ∧ w < 14 by omega) ?_
      show xa_C (xl_I b) A h0 _ 144 [(2, 1, 0, 0, 0), (0, 0, (-2147483648), 2147483647, M 5 v), (0, 0, (-2147483648), 2147483647, M 5 w)] M _
      refine cx_144p (show 0 ≤ (M 5 v) ∧ (M 5 v) ≤ 9 by omega) (show 0 ≤ (M 5 w) ∧ (M 5 w) ≤ 9 by omega) hx hy ?_
      intro (i3 : 0 ≤ pl_sq (M 9) (M 10) (M 5 v) (M 5 w) ∧ pl_sq (M 9) (M 10) (M 5 v) (M 5 w) ≤ 2000000)
      refine And.intro ?_ ?_
      · intro (c4 : ((xa_w32 ((M 4 v) + (M 4 w))) * (xa_w32 ((M 4 v) + (M 4 w)))) ≤ (pl_sq (M 9) (M 10) (M 5 v) (M 5 w)))
        show post (some (0, 0, 0, 0, 0)) M
        rw [e1] at c4
        exact k0 (fun ⟨y1, y2, y3⟩ => by first | omega | exact y2 (z1.mp (by omega)))
      · intro (c4 : (pl_sq (M 9) (M 10) (M 5 v) (M 5 w)) < ((xa_w32 ((M 4 v) + (M 4 w))) * (xa_w32 ((M 4 v) + (M 4 w)))))
        show post (some (0, 0, 1, 1, 1)) M
        rw [e1] at c4
        exact k1 ⟨by omega, fun h => by have := z1.mpr h; omega, by omega⟩
    · intro (c2 : ¬ (lm_mi M v w) = 0)
      show post (some (0, 0, 0, 0, 0)) M
      exact k0 (fun ⟨y1, y2, y3⟩ => by first | omega | exact y2 (z1.mp (by omega)))
theorem cx_146p {b : Bool} {A : Nat → Nat} {h0 : g_H} {d : Nat} {M : xa_M} {post : Option xa_V → xa_M → Prop} {l1 u1 : Int} {m : Int} (h1 : 0 ≤ m ∧ m < M 1 10) (hF : pl_F M) (h16 : M 1 10 ≤ 16) (k1 : (pl_sk (M 6) (M 7) (M 8)) m → post (some (0, 0, 1, 1, 1)) M) (k0 : ¬ (pl_sk (M 6) (M 7) (M 8)) m → post (some (0, 0, 0, 0, 0)) M) : xa_C (xl_I b) A h0 (d + 3) 146 [(2, 1, 0, 0, 0), (0, 0, l1, u1, m)] M post := by
  refine xa_C_arg [(2, 1, 0, 0, 0), (0, 0, 0, 15, m)] (xa_svR (xa_svI (fun _ _ _ _ => by omega) (xa_sv0))) ?_
  refine xa_meth (Q0 := (2, 2, false, 0, 0, 4)) (by decide +kernel) ⟨rfl, rfl⟩ (full := s_c_146) rfl rfl ?_
  intro hM hv Q hgo
  obtain ⟨hn, hm, hr, hx, hy, ha, hd, ht⟩ := hF
  have rm := hr m h1.1 h1.2
  refine hgo.1 18 [] 0 _ _ _ ?_
  show xa_C (xl_I b) A h0 _ 40 [(2, 1, 0, 0, 0), (0, 0, 0, 15, m)] M _
  refine cx_40_1 (show 0 ≤ m ∧ m < 16 by omega) ?_
  show xa_C (xl_I b) A h0 _ 142 [(2, 1, 0, 0, 0), (0, 0, (-2147483648), 2147483647, M 7 m)] M _
  refine cx_142_1 (show 0 ≤ (M 7 m) ∧ (M 7 m) < 14 by omega) ?_
  show xa_C (xl_I b) A h0 _ 41 [(2, 1, 0, 0, 0), (0, 0, 0, 15, m)] M _
  refine cx_41_1 (show 0 ≤ m ∧ m < 16 by omega) ?_
  show xa_C (xl_I b) A h0 _ 142 [(2, 1, 0, 0, 0), (0, 0, (-2147483648), 2147483647, M 8 m)] M _
  refine cx_142_1 (show 0 ≤ (M 8 m) ∧ (M 8 m) < 14 by omega) ?_
  refine And.intro ?_ ?_
  · intro (c1 : (M 6 (M 7 m)) = (M 6 (M 8 m)))
    show post (some (0, 0, 0, 0, 0)) M
    exact k0 (by unfold pl_sk; omega)
  · intro (c1 : ¬ (M 6 (M 7 m)) = (M 6 (M 8 m)))
    show post (some (0, 0, 1, 1, 1)) M
    exact k1 (by unfold pl_sk; omega)
theorem cx_147p {b : Bool} {A : Nat → Nat} {h0 : g_H} {d : Nat} {M : xa_M} {post : Option xa_V → xa_M → Prop} {l1 u1 l2 u2 : Int} {m sl : Int} (h1 : 0 ≤ m ∧ m < M 1 10) (h2 : 0 ≤ sl ∧ sl ≤ 50) (hF : pl_F M) (h16 : M 1 10 ≤ 16) (k1 : (pl_of (M 9) (M 10) (M 5) (M 4) (M 7) (M 8) sl) m → post (some (0, 0, 1, 1, 1)) M) (k0 : ¬ (pl_of (M 9) (M 10) (M 5) (M 4) (M 7) (M 8) sl) m → post (some (0, 0, 0, 0, 0)) M) : xa_C (xl_I b) A h0 (d + 3) 147 [(2, 1, 0, 0, 0), (0, 0, l1, u1, m), (0, 0, l2, u2, sl)] M post := by
  refine xa_C_arg [(2, 1, 0, 0, 0), (0, 0, 0, 15, m), (0, 0, 0, 50, sl)] (xa_svR (xa_svI (fun _ _ _ _ => by omega) (xa_svI (fun _ _ _ _ => by omega) (xa_sv0)))) ?_
  refine xa_meth (Q0 := (11, 2, false, 0, 0, 4)) (by decide +kernel) ⟨rfl, rfl⟩ (full := s_c_147) rfl rfl ?_
  intro hM hv Q hgo
  obtain ⟨hn, hm, hr, hx, hy, ha, hd, ht⟩ := hF
  have rm := hr m h1.1 h1.2
  have t1 := ht (M 7 m) rm.1.1 rm.1.2
  have t2 := ht (M 8 m) rm.2.1 rm.2.2
  have a1 := ha (M 7 m) rm.1.1 rm.1.2
  have a2 := ha (M 8 m) rm.2.1 rm.2.2
  have e1 : xa_w32 ((M 4 (M 7 m)) + (M 4 (M 8 m))) = M 4 (M 7 m) + M 4 (M 8 m) := xa_w32_id (by omega) (by omega)
  have e2 : xa_w32 ((xa_w32 ((M 4 (M 7 m)) + (M 4 (M 8 m)))) + sl) = M 4 (M 7 m) + M 4 (M 8 m) + sl := by
    rw [e1]
    exact xa_w32_id (by omega) (by omega)
  have e3 : (M 4 (M 7 m) + M 4 (M 8 m) + sl) - (2 * sl) = M 4 (M 7 m) + M 4 (M 8 m) - sl := by omega
  refine hgo.1 55 [] 0 _ _ _ ?_
  show xa_C (xl_I b) A h0 _ 40 [(2, 1, 0, 0, 0), (0, 0, 0, 15, m)] M _
  refine cx_40_1 (show 0 ≤ m ∧ m < 16 by omega) ?_
  show xa_C (xl_I b) A h0 _ 41 [(2, 1, 0, 0, 0), (0, 0, 0, 15, m)] M _
  refine cx_41_1 (show 0 ≤ m ∧ m < 16 by omega) ?_
  show xa_C (xl_I b) A h0 _ 37 [(2, 1, 0, 0, 0), (0, 0, (-2147483648), 2147483647, M 7 m)] M _
  refine cx_37_1 (show 0 ≤ (M 7 m) ∧ (M 7 m) < 14 by omega) ?_
  show xa_C (xl_I b) A h0 _ 37 [(2, 1, 0, 0, 0), (0, 0, (-2147483648), 2147483647, M 8 m)] M _
  refine cx_37_1 (show 0 ≤ (M 8 m) ∧ (M 8 m) < 14 by omega) ?_
  show xa_C (xl_I b) A h0 _ 144 [(2, 1, 0, 0, 0), (0, 0, (-2147483648), 2147483647, M 5 (M 7 m)), (0, 0, (-2147483648), 2147483647, M 5 (M 8 m))] M _
  refine cx_144p (show 0 ≤ (M 5 (M 7 m)) ∧ (M 5 (M 7 m)) ≤ 9 by omega) (show 0 ≤ (M 5 (M 8 m)) ∧ (M 5 (M 8 m)) ≤ 9 by omega) hx hy ?_
  intro (i1 : 0 ≤ pl_sq (M 9) (M 10) (M 5 (M 7 m)) (M 5 (M 8 m)) ∧ pl_sq (M 9) (M 10) (M 5 (M 7 m)) (M 5 (M 8 m)) ≤ 2000000)
  show xa_C (xl_I b) A h0 _ 28 [(2, 1, 0, 0, 0), (0, 0, (-2147483648), 2147483647, M 7 m)] M _
  refine cx_28_1 (show 0 ≤ (M 7 m) ∧ (M 7 m) < 14 by omega) ?_
  show xa_C (xl_I b) A h0 _ 28 [(2, 1, 0, 0, 0), (0, 0, (-2147483648), 2147483647, M 8 m)] M _
  refine cx_28_1 (show 0 ≤ (M 8 m) ∧ (M 8 m) < 14 by omega) ?_
  refine And.intro ?_ ?_
  · intro (c2 : ((xa_w32 ((xa_w32 ((M 4 (M 7 m)) + (M 4 (M 8 m)))) + sl)) * (xa_w32 ((xa_w32 ((M 4 (M 7 m)) + (M 4 (M 8 m)))) + sl))) < (pl_sq (M 9) (M 10) (M 5 (M 7 m)) (M 5 (M 8 m))))
    show post (some (0, 0, 1, 1, 1)) M
    rw [e2] at c2
    exact k1 (by unfold pl_of; omega)
  · intro (c2 : (pl_sq (M 9) (M 10) (M 5 (M 7 m)) (M 5 (M 8 m))) ≤ ((xa_w32 ((xa_w32 ((M 4 (M 7 m)) + (M 4 (M 8 m)))) + sl)) * (xa_w32 ((xa_w32 ((M 4 (M 7 m)) + (M 4 (M 8 m)))) + sl))))
    refine And.intro ?_ ?_
    · intro (c3 : ((xa_w32 ((xa_w32 ((M 4 (M 7 m)) + (M 4 (M 8 m)))) + sl)) - (2 * sl)) ≤ 0)
      show post (some (0, 0, 0, 0, 0)) M
      rw [e2] at c2
      rw [e2] at c3
      rw [e3] at c3
      exact k0 (by unfold pl_of; omega)
    · intro (c3 : 0 < ((xa_w32 ((xa_w32 ((M 4 (M 7 m)) + (M 4 (M 8 m)))) + sl)) - (2 * sl)))
      refine And.intro ?_ ?_
      · intro (c4 : (((xa_w32 ((xa_w32 ((M 4 (M 7 m)) + (M 4 (M 8 m)))) + sl)) - (2 * sl)) * ((xa_w32 ((xa_w32 ((M 4 (M 7 m)) + (M 4 (M 8 m)))) + sl)) - (2 * sl))) ≤ (pl_sq (M 9) (M 10) (M 5 (M 7 m)) (M 5 (M 8 m))))
        show post (some (0, 0, 0, 0, 0)) M
        rw [e2] at c2
        rw [e2] at c3
        rw [e3] at c3
        rw [e2] at c4
        rw [e3] at c4
        exact k0 (by unfold pl_of; omega)
      · intro (c4 : (pl_sq (M 9) (M 10) (M 5 (M 7 m)) (M 5 (M 8 m))) < (((xa_w32 ((xa_w32 ((M 4 (M 7 m)) + (M 4 (M 8 m)))) + sl)) - (2 * sl)) * ((xa_w32 ((xa_w32 ((M 4 (M 7 m)) + (M 4 (M 8 m)))) + sl)) - (2 * sl))))
        show post (some (0, 0, 1, 1, 1)) M
        rw [e2] at c2
        rw [e2] at c3
        rw [e3] at c3
        rw [e2] at c4
        rw [e3] at c4
        exact k1 (by unfold pl_of; omega)
