-- names, told
set_option maxRecDepth 20000
/-- a sign that a word of names may have -/
def nm_l (t : Int) : Prop := (97 ≤ t ∧ t ≤ 122) ∨ t = 63
/-- sign s may be the name of period p, where the periods of u are taken -/
def nm_o (T C : Int → Int) (s u p : Int) : Bool := (decide (T s = 63) || decide (T s = C p)) && decide (xa_ib 3 (xa_ib 7 u p) 1 = 0)
theorem nm_oi {T C : Int → Int} {s u p : Int} : nm_o T C s u p = true ↔ ((T s = 63 ∨ T s = C p) ∧ xa_ib 3 (xa_ib 7 u p) 1 = 0) := by
  unfold nm_o
  rw [Bool.and_eq_true, Bool.or_eq_true, decide_eq_true_eq, decide_eq_true_eq, decide_eq_true_eq]
/-- the sum over the first periods -/
def nm_s (T C : Int → Int) (s u : Int) (F : Int → Int) : Nat → Int
  | 0 => 0
  | k + 1 => nm_s T C s u F k + (if nm_o T C s u (k : Int) = true then F (xa_ib 4 u (xa_ib 6 1 (k : Int))) else 0)
theorem nm_s1 {T C : Int → Int} {s u : Int} {F : Int → Int} {k : Nat} (h : nm_o T C s u (k : Int) = true) : nm_s T C s u F (k + 1) = nm_s T C s u F k + F (xa_ib 4 u (xa_ib 6 1 (k : Int))) := by
  show nm_s T C s u F k + (if nm_o T C s u (k : Int) = true then F (xa_ib 4 u (xa_ib 6 1 (k : Int))) else 0) = _
  rw [if_pos h]
theorem nm_s0 {T C : Int → Int} {s u : Int} {F : Int → Int} {k : Nat} (h : ¬ nm_o T C s u (k : Int) = true) : nm_s T C s u F (k + 1) = nm_s T C s u F k := by
  show nm_s T C s u F k + (if nm_o T C s u (k : Int) = true then F (xa_ib 4 u (xa_ib 6 1 (k : Int))) else 0) = _
  rw [if_neg h, Int.add_zero]
/-- the ways in which the last f signs are names of periods that are not in u -/
def nm_f (T C : Int → Int) (N : Int) (S : Nat) : Nat → Int → Int
  | 0 => fun _ => 1
  | f + 1 => fun u => nm_s T C (N - ((f + 1 : Nat) : Int)) u (nm_f T C N S f) S
theorem nm_f1 {T C : Int → Int} {N : Int} {S f : Nat} {u : Int} : nm_f T C N S (f + 1) u = nm_s T C (N - ((f + 1 : Nat) : Int)) u (nm_f T C N S f) S := rfl
theorem nm_s_b {T C : Int → Int} {s u B : Int} {F : Int → Int} (hF : ∀ x, 0 ≤ F x ∧ F x ≤ B) (k : Nat) : 0 ≤ nm_s T C s u F k ∧ nm_s T C s u F k ≤ B * (k : Int) := by
  induction k with
  | zero =>
    refine ⟨Int.le_refl 0, ?_⟩
    rw [show ((0 : Nat) : Int) = 0 from rfl, Int.mul_zero]
    exact Int.le_refl 0
  | succ k ih =>
    have h9 := hF (xa_ib 4 u (xa_ib 6 1 (k : Int)))
    have e : B * ((k + 1 : Nat) : Int) = B * (k : Int) + B := by rw [show ((k + 1 : Nat) : Int) = (k : Int) + 1 by omega, Int.mul_add, Int.mul_one]
    rw [e]
    by_cases c : nm_o T C s u (k : Int) = true
    · rw [nm_s1 c]
      omega
    · rw [nm_s0 c]
      omega
theorem nm_s_m {T C : Int → Int} {s u : Int} {F : Int → Int} (hF : ∀ x, 0 ≤ F x) (k d : Nat) : nm_s T C s u F k ≤ nm_s T C s u F (k + d) := by
  induction d with
  | zero => exact Int.le_refl _
  | succ d ih =>
    have h9 := hF (xa_ib 4 u (xa_ib 6 1 ((k + d : Nat) : Int)))
    rw [show k + (d + 1) = (k + d) + 1 by omega]
    by_cases c : nm_o T C s u ((k + d : Nat) : Int) = true
    · rw [nm_s1 c]
      omega
    · rw [nm_s0 c]
      omega
theorem nm_p8 (f : Nat) : (0 : Int) ≤ 8 ^ f := by
  induction f with
  | zero => rw [Int.pow_zero]; decide
  | succ f ih => rw [Int.pow_succ]; omega
theorem nm_f_b {T C : Int → Int} {N : Int} {S : Nat} (hS : S ≤ 8) (f : Nat) : ∀ u, 0 ≤ nm_f T C N S f u ∧ nm_f T C N S f u ≤ 8 ^ f := by
  induction f with
  | zero =>
    intro u
    rw [Int.pow_zero]
    exact ⟨show (0 : Int) ≤ 1 by decide, Int.le_refl 1⟩
  | succ f ih =>
    intro u
    have b := nm_s_b (T := T) (C := C) (s := N - ((f + 1 : Nat) : Int)) (u := u) ih S
    rw [nm_f1, Int.pow_succ]
    have m : (8 : Int) ^ f * (S : Int) ≤ 8 ^ f * 8 := Int.mul_le_mul_of_nonneg_left (by omega) (nm_p8 f)
    exact ⟨b.1, Int.le_trans b.2 m⟩
theorem nm_p9 : ∀ f : Nat, f < 9 → (8 : Int) ^ f ≤ 16777216 := by decide +kernel
theorem nm_p7 : ∀ f : Nat, f < 8 → (8 : Int) ^ f ≤ 2097152 := by decide +kernel
theorem nm_fb {T C : Int → Int} {N : Int} {S : Nat} (hS : S ≤ 8) {f : Nat} (hf : f ≤ 8) (u : Int) : 0 ≤ nm_f T C N S f u ∧ nm_f T C N S f u ≤ 16777216 := by
  have b := nm_f_b (T := T) (C := C) (N := N) hS f u
  exact ⟨b.1, Int.le_trans b.2 (nm_p9 f (by omega))⟩
theorem nm_sb {T C : Int → Int} {N s u : Int} {S : Nat} (hS : S ≤ 8) {f k : Nat} (hf : f ≤ 7) (hk : k ≤ 8) : 0 ≤ nm_s T C s u (nm_f T C N S f) k ∧ nm_s T C s u (nm_f T C N S f) k ≤ 16777216 := by
  have b := nm_s_b (T := T) (C := C) (s := s) (u := u) (nm_f_b (T := T) (C := C) (N := N) hS f) k
  have m : (8 : Int) ^ f * (k : Int) ≤ 2097152 * 8 := Int.mul_le_mul (nm_p7 f (by omega)) (by omega) (by omega) (by decide)
  exact ⟨b.1, Int.le_trans b.2 (Int.le_trans m (by decide))⟩
-- bits of small numbers
def nm_c1 (u p : Nat) : Bool := !(decide (xa_ib 3 (xa_ib 7 (u : Int) (p : Int)) 1 = 0)) || (decide (xa_ib 4 (u : Int) (xa_ib 6 1 (p : Int)) = ((u + 2 ^ p : Nat) : Int)) && (decide (xa_bc ((u + 2 ^ p : Nat) : Int) = xa_bc (u : Int) + 1) && decide (u / 2 ^ p % 2 = 0)))
def nm_c2 (S u p : Nat) : Bool := !(decide (u < 2 ^ S) && (decide (p < S) && decide (u / 2 ^ p % 2 = 0))) || decide (u + 2 ^ p < 2 ^ S)
theorem nm_k1 : ((List.range 256).all fun u => (List.range 8).all fun p => nm_c1 u p) = true := by decide +kernel
theorem nm_k2 : ((List.range 9).all fun S => (List.range 256).all fun u => (List.range 8).all fun p => nm_c2 S u p) = true := by decide +kernel
theorem nm_k3 : ((List.range 9).all fun S => decide (xa_ib 6 1 (S : Int) = ((2 ^ S : Nat) : Int))) = true := by decide +kernel
theorem nm_k4 : ((List.range 256).all fun u => decide (0 ≤ xa_bc (u : Int)) && decide (xa_bc (u : Int) ≤ 8)) = true := by decide +kernel
theorem nm_P {S : Int} (h0 : 0 ≤ S) (h8 : S ≤ 8) : xa_ib 6 1 S = ((2 ^ S.toNat : Nat) : Int) ∧ 1 ≤ xa_ib 6 1 S ∧ xa_ib 6 1 S ≤ 256 := by
  obtain ⟨n, rfl⟩ := Int.eq_ofNat_of_zero_le h0
  have e : xa_ib 6 1 (n : Int) = ((2 ^ n : Nat) : Int) := of_decide_eq_true (List.all_eq_true.mp nm_k3 n (List.mem_range.mpr (by omega)))
  have b1 := Nat.two_pow_pos n
  have b2 : 2 ^ n ≤ 2 ^ 8 := Nat.pow_le_pow_right (by decide) (by omega)
  have b2 : 2 ^ n ≤ 256 := b2
  rw [Int.toNat_natCast, e]
  generalize 2 ^ n = z at b1 b2 ⊢
  exact ⟨rfl, by omega, by omega⟩
theorem nm_bc {u : Int} (h0 : 0 ≤ u) (h1 : u < 256) : 0 ≤ xa_bc u ∧ xa_bc u ≤ 8 := by
  obtain ⟨n, rfl⟩ := Int.eq_ofNat_of_zero_le h0
  have e : (decide (0 ≤ xa_bc (n : Int)) && decide (xa_bc (n : Int) ≤ 8)) = true := List.all_eq_true.mp nm_k4 n (List.mem_range.mpr (by omega))
  rw [Bool.and_eq_true, decide_eq_true_eq, decide_eq_true_eq] at e
  exact e
theorem nm_F {u p S : Int} (u0 : 0 ≤ u) (p0 : 0 ≤ p) (pS : p < S) (S8 : S ≤ 8) (uS : u < xa_ib 6 1 S) (h : xa_ib 3 (xa_ib 7 u p) 1 = 0) : u < xa_ib 4 u (xa_ib 6 1 p) ∧ xa_ib 4 u (xa_ib 6 1 p) < xa_ib 6 1 S ∧ xa_bc (xa_ib 4 u (xa_ib 6 1 p)) = xa_bc u + 1 := by
  obtain ⟨a, rfl⟩ := Int.eq_ofNat_of_zero_le u0
  obtain ⟨q, rfl⟩ := Int.eq_ofNat_of_zero_le p0
  obtain ⟨n, rfl⟩ := Int.eq_ofNat_of_zero_le (show 0 ≤ S by omega)
  obtain ⟨e1, e2, e3⟩ := nm_P (S := (n : Int)) (by omega) S8
  rw [Int.toNat_natCast] at e1
  have ha : a < 256 := by omega
  have c1 : nm_c1 a q = true := List.all_eq_true.mp (List.all_eq_true.mp nm_k1 a (List.mem_range.mpr ha)) q (List.mem_range.mpr (by omega))
  unfold nm_c1 at c1
  rw [decide_eq_true h] at c1
  have c1 : (decide (xa_ib 4 (a : Int) (xa_ib 6 1 (q : Int)) = ((a + 2 ^ q : Nat) : Int)) && (decide (xa_bc ((a + 2 ^ q : Nat) : Int) = xa_bc (a : Int) + 1) && decide (a / 2 ^ q % 2 = 0))) = true := c1
  rw [Bool.and_eq_true, Bool.and_eq_true, decide_eq_true_eq, decide_eq_true_eq, decide_eq_true_eq] at c1
  have u1 : a < 2 ^ n := Int.ofNat_lt.mp (by rw [← e1]; exact uS)
  have c2 : nm_c2 n a q = true := List.all_eq_true.mp (List.all_eq_true.mp (List.all_eq_true.mp nm_k2 n (List.mem_range.mpr (by omega))) a (List.mem_range.mpr ha)) q (List.mem_range.mpr (by omega))
  unfold nm_c2 at c2
  rw [decide_eq_true u1, decide_eq_true (show q < n by omega), decide_eq_true c1.2.2] at c2
  have c2 : decide (a + 2 ^ q < 2 ^ n) = true := c2
  have c2 := of_decide_eq_true c2
  have b1 := Nat.two_pow_pos q
  rw [c1.1, e1]
  exact ⟨Int.ofNat_lt.mpr (by omega), Int.ofNat_lt.mpr c2, c1.2.1⟩
theorem nm_F8 {u p : Int} (u0 : 0 ≤ u) (u1 : u < 256) (p0 : 0 ≤ p) (p1 : p < 8) (h : xa_ib 3 (xa_ib 7 u p) 1 = 0) : 0 ≤ xa_ib 4 u (xa_ib 6 1 p) ∧ xa_ib 4 u (xa_ib 6 1 p) < 256 := by
  have e8 : xa_ib 6 1 8 = 256 := by decide +kernel
  have f := nm_F (S := 8) u0 p0 p1 (by decide) (by omega) h
  omega
/-- what the class keeps of the periods u -/
def nm_g (T C : Int → Int) (N : Int) (S : Nat) (u : Int) : Int := if xa_bc u ≤ N then nm_f T C N S (N - xa_bc u).toNat u else 0
theorem nm_gs {T C : Int → Int} {N u v : Int} {S : Nat} (hc : xa_bc u < N) (hb : xa_bc v = xa_bc u + 1) : nm_g T C N S v = nm_f T C N S (N - xa_bc u - 1).toNat v := by
  unfold nm_g
  rw [if_pos (by omega), show N - xa_bc v = N - xa_bc u - 1 by omega]
theorem nm_gN {T C : Int → Int} {N u : Int} {S : Nat} (hc : xa_bc u = N) : nm_g T C N S u = 1 := by
  unfold nm_g
  rw [if_pos (by omega), show (N - xa_bc u).toNat = 0 by omega]
  rfl
theorem nm_gG {T C : Int → Int} {N u : Int} {S : Nat} (hc : N < xa_bc u) : nm_g T C N S u = 0 := by
  unfold nm_g
  rw [if_neg (by omega)]
theorem nm_gL {T C : Int → Int} {N u : Int} {S : Nat} (hc : xa_bc u < N) : nm_g T C N S u = nm_s T C (xa_bc u) u (nm_f T C N S (N - xa_bc u - 1).toNat) S := by
  unfold nm_g
  rw [if_pos (by omega), show (N - xa_bc u).toNat = (N - xa_bc u - 1).toNat + 1 by omega, nm_f1, show N - (((N - xa_bc u - 1).toNat + 1 : Nat) : Int) = xa_bc u by omega]
theorem nm_g0 {T C : Int → Int} {N : Int} {S : Nat} (h : 0 ≤ N) : nm_g T C N S 0 = nm_f T C N S N.toNat 0 := by
  have e : xa_bc 0 = 0 := by decide +kernel
  unfold nm_g
  rw [e, if_pos h, Int.sub_zero]
/-- the count of u so far -/
def nm_n (T C : Int → Int) (N : Int) (S : Nat) (u p n : Int) : Prop := (xa_bc u < N ∧ n = nm_s T C (xa_bc u) u (nm_f T C N S (N - xa_bc u - 1).toNat) p.toNat) ∨ (xa_bc u = N ∧ n = 1) ∨ (N < xa_bc u ∧ n = 0)
theorem nm_n0 {T C : Int → Int} {N : Int} {S : Nat} {u : Int} (h : ¬ xa_bc u = N) : nm_n T C N S u 0 0 := by
  rcases Int.lt_or_le (xa_bc u) N with c | c
  · exact Or.inl ⟨c, rfl⟩
  · exact Or.inr (Or.inr ⟨by omega, rfl⟩)
theorem nm_nL {T C : Int → Int} {N : Int} {S : Nat} {u p n : Int} (h : nm_n T C N S u p n) (hc : xa_bc u < N) : n = nm_s T C (xa_bc u) u (nm_f T C N S (N - xa_bc u - 1).toNat) p.toNat := by
  rcases h with ⟨-, a⟩ | ⟨a, -⟩ | ⟨a, -⟩
  · exact a
  · omega
  · omega
theorem nm_nG {T C : Int → Int} {N S : Int} {u p n : Int} (h : nm_n T C N S.toNat u p n) (hp : xa_bc u < N → p = S) : n = nm_g T C N S.toNat u := by
  rcases h with ⟨a1, a2⟩ | ⟨a1, a2⟩ | ⟨a1, a2⟩
  · rw [nm_gL a1, a2, hp a1]
  · rw [nm_gN a1]
    exact a2
  · rw [nm_gG a1]
    exact a2
theorem nm_bn (v : Int) : (v = -1 ∧ bk_n v = 0) ∨ (¬ v = -1 ∧ bk_n v = v) := by
  unfold bk_n
  by_cases e : v = -1
  · exact Or.inl ⟨e, if_pos e⟩
  · exact Or.inr ⟨e, if_neg e⟩
theorem nm_bit {u p : Int} (p0 : 0 ≤ p) (p1 : p < 8) : xa_ib 3 (xa_ib 7 u p) 1 = 0 ∨ xa_ib 3 (xa_ib 7 u p) 1 = 1 := by
  have h := bt_eq (b := u) p0 (show p < 31 by omega)
  unfold bt at h
  rw [h]
  split
  · exact Or.inr rfl
  · exact Or.inl rfl
/-- what names answers -/
def nm_R (T C : Int → Int) (N : Int) (S : Nat) (r : Int) : Prop := (∃ i, 0 ≤ i ∧ i < N ∧ i ≤ 8 ∧ (i = 8 ∨ ¬ nm_l (T i)) ∧ (∀ j, 0 ≤ j → j < i → nm_l (T j)) ∧ r = -100 - i) ∨ ((∀ j, 0 ≤ j → j < N → nm_l (T j)) ∧ N ≤ 8 ∧ ((N = 0 ∧ r = -100) ∨ (1 ≤ N ∧ r = nm_f T C N S N.toNat 0)))
theorem nm_one {T C : Int → Int} {N : Int} {S : Nat} {r r' : Int} (h : nm_R T C N S r) (h' : nm_R T C N S r') : r = r' := by
  rcases h with ⟨i, a1, a2, a3, a4, a5, a6⟩ | ⟨a1, a2, a3⟩
  · rcases h' with ⟨j, b1, b2, b3, b4, b5, b6⟩ | ⟨b1, b2, b3⟩
    · have e : i = j := by
        rcases Int.lt_or_le i j with c | c
        · rcases a4 with a4 | a4
          · omega
          · exact absurd (b5 i a1 c) a4
        · rcases Int.lt_or_le j i with c2 | c2
          · rcases b4 with b4 | b4
            · omega
            · exact absurd (a5 j b1 c2) b4
          · omega
      omega
    · rcases a4 with a4 | a4
      · omega
      · exact absurd (b1 i a1 a2) a4
  · rcases h' with ⟨j, b1, b2, b3, b4, b5, b6⟩ | ⟨b1, b2, b3⟩
    · rcases b4 with b4 | b4
      · omega
      · exact absurd (a1 j b1 b2) b4
    · rcases a3 with ⟨c1, c2⟩ | ⟨c1, c2⟩
      · rcases b3 with ⟨d1, d2⟩ | ⟨d1, d2⟩
        · omega
        · omega
      · rcases b3 with ⟨d1, d2⟩ | ⟨d1, d2⟩
        · omega
        · rw [c2, d2]
theorem cx_23_53 {b : Bool} {A : Nat → Nat} {h0 : g_H} {d : Nat} {M : xa_M} {post : Option xa_V → xa_M → Prop} {l1 u1 : Int} {i : Int} (h1 : 0 ≤ i ∧ i < 8) (k1 : post (some (0, 0, (-2147483648), 2147483647, M 53 i)) M) : xa_C (xl_I b) A h0 (d + 1) 23 [(2, 53, 0, 0, 0), (0, 0, l1, u1, i)] M post := by
  refine xa_C_arg [(2, 53, 0, 0, 0), (0, 0, (-2147483648), 2147483647, i)] (xa_svR (xa_svI (fun _ _ _ _ => by omega) xa_sv0)) ?_
  refine xa_meth (Q0 := (2, 1, false, 0, 0, 11)) (by decide +kernel) ⟨rfl, rfl⟩ (full := s_c_23) rfl rfl ?_
  intro hM hv Q hgo
  refine hgo.1 15 [] 0 _ _ _ ?_
  refine And.intro ?_ ?_
  · intro (c1 : i < 0)
    show post (some (0, 0, 0, 0, 0)) M
    exact absurd h1 (by omega)
  · intro (c1 : 0 ≤ i)
    refine And.intro ?_ ?_
    · intro (c2 : 8 ≤ i)
      show post (some (0, 0, 0, 0, 0)) M
      exact absurd h1 (by omega)
    · intro (c2 : i < 8)
      refine And.intro (show 0 ≤ i ∧ i < 8 by omega) ?_
      show post (some (0, 0, (-2147483648), 2147483647, M 53 i)) M
      exact k1
theorem cx_177_50_30 {b : Bool} {A : Nat → Nat} {h0 : g_H} {d : Nat} {M : xa_M} {post : Option xa_V → xa_M → Prop} {l2 u2 l3 u3 l4 u4 : Int} {x1 x2 x3 : Int} (h1 : 0 ≤ (M 30 1) ∧ (M 30 1) ≤ 80) (h2 : 0 ≤ x3 ∧ x3 < 8) (k1 : ((0 ≤ x1 ∧ x1 < (M 30 1)) ∧ M 31 x1 = 63) → (¬ (xa_ib 3 (xa_ib 7 x2 x3) 1) = 0) → post (some (0, 0, 0, 0, 0)) M) (k2 : ((0 ≤ x1 ∧ x1 < (M 30 1)) ∧ M 31 x1 = 63) → ((xa_ib 3 (xa_ib 7 x2 x3) 1) = 0) → post (some (0, 0, 1, 1, 1)) M) (k3 : (¬ ((0 ≤ x1 ∧ x1 < (M 30 1)) ∧ M 31 x1 = 63)) → (0 ≤ x1 ∧ x1 < (M 30 1)) → (¬ (M 31 x1) = (M 53 x3)) → post (some (0, 0, 0, 0, 0)) M) (k4 : (¬ ((0 ≤ x1 ∧ x1 < (M 30 1)) ∧ M 31 x1 = 63)) → (0 ≤ x1 ∧ x1 < (M 30 1)) → ((M 31 x1) = (M 53 x3)) → (¬ (xa_ib 3 (xa_ib 7 x2 x3) 1) = 0) → post (some (0, 0, 0, 0, 0)) M) (k5 : (¬ ((0 ≤ x1 ∧ x1 < (M 30 1)) ∧ M 31 x1 = 63)) → (0 ≤ x1 ∧ x1 < (M 30 1)) → ((M 31 x1) = (M 53 x3)) → ((xa_ib 3 (xa_ib 7 x2 x3) 1) = 0) → post (some (0, 0, 1, 1, 1)) M) (k6 : (¬ ((0 ≤ x1 ∧ x1 < (M 30 1)) ∧ M 31 x1 = 63)) → (¬ (0 ≤ x1 ∧ x1 < (M 30 1))) → (¬ (-1) = (M 53 x3)) → post (some (0, 0, 0, 0, 0)) M) (k7 : (¬ ((0 ≤ x1 ∧ x1 < (M 30 1)) ∧ M 31 x1 = 63)) → (¬ (0 ≤ x1 ∧ x1 < (M 30 1))) → ((-1) = (M 53 x3)) → (¬ (xa_ib 3 (xa_ib 7 x2 x3) 1) = 0) → post (some (0, 0, 0, 0, 0)) M) (k8 : (¬ ((0 ≤ x1 ∧ x1 < (M 30 1)) ∧ M 31 x1 = 63)) → (¬ (0 ≤ x1 ∧ x1 < (M 30 1))) → ((-1) = (M 53 x3)) → ((xa_ib 3 (xa_ib 7 x2 x3) 1) = 0) → post (some (0, 0, 1, 1, 1)) M) : xa_C (xl_I b) A h0 (d + 4) 177 [(2, 50, 0, 0, 0), (2, 30, 0, 0, 0), (0, 0, l2, u2, x1), (0, 0, l3, u3, x2), (0, 0, l4, u4, x3)] M post := by
  refine xa_C_arg [(2, 50, 0, 0, 0), (2, 30, 0, 0, 0), (0, 0, (-2147483648), 2147483647, x1), (0, 0, (-2147483648), 2147483647, x2), (0, 0, (-2147483648), 2147483647, x3)] (xa_svR (xa_svR (xa_svI (fun _ _ _ _ => by omega) (xa_svI (fun _ _ _ _ => by omega) (xa_svI (fun _ _ _ _ => by omega) (xa_sv0)))))) ?_
  refine xa_meth (Q0 := (6, 2, false, 0, 0, 0)) (by decide +kernel) ⟨rfl, rfl⟩ (full := s_c_177) rfl rfl ?_
  intro hM hv Q hgo
  refine hgo.1 30 [] 0 _ _ _ ?_
  show xa_C (xl_I b) A h0 _ 172 [(2, 30, 0, 0, 0), (0, 0, (-2147483648), 2147483647, x1)] M _
  refine cg_172 (show 0 ≤ (M 30 1) ∧ (M 30 1) ≤ 80 by omega) ?_ ?_
  · intro (i1 : (0 ≤ x1 ∧ x1 < (M 30 1)) ∧ M 31 x1 = 63)
    refine And.intro ?_ ?_
    · intro (c2 : ¬ (xa_ib 3 (xa_ib 7 x2 x3) 1) = 0)
      show post (some (0, 0, 0, 0, 0)) M
      exact k1 i1 c2
    · intro (c2 : (xa_ib 3 (xa_ib 7 x2 x3) 1) = 0)
      show post (some (0, 0, 1, 1, 1)) M
      exact k2 i1 c2
  · intro (i3 : ¬ ((0 ≤ x1 ∧ x1 < (M 30 1)) ∧ M 31 x1 = 63))
    show xa_C (xl_I b) A h0 _ 119 [(2, 30, 0, 0, 0), (0, 0, (-2147483648), 2147483647, x1)] M _
    refine cg_119 (show 0 ≤ (M 30 1) ∧ (M 30 1) ≤ 80 by omega) ?_ ?_
    · intro (i4 : 0 ≤ x1 ∧ x1 < (M 30 1))
      show xa_C (xl_I b) A h0 _ 23 [(2, 53, 0, 0, 0), (0, 0, (-2147483648), 2147483647, x3)] M _
      refine cx_23_53 (show 0 ≤ x3 ∧ x3 < 8 by omega) ?_
      refine And.intro ?_ ?_
      · intro (c5 : ¬ (M 31 x1) = (M 53 x3))
        show post (some (0, 0, 0, 0, 0)) M
        exact k3 i3 i4 c5
      · intro (c5 : (M 31 x1) = (M 53 x3))
        refine And.intro ?_ ?_
        · intro (c6 : ¬ (xa_ib 3 (xa_ib 7 x2 x3) 1) = 0)
          show post (some (0, 0, 0, 0, 0)) M
          exact k4 i3 i4 c5 c6
        · intro (c6 : (xa_ib 3 (xa_ib 7 x2 x3) 1) = 0)
          show post (some (0, 0, 1, 1, 1)) M
          exact k5 i3 i4 c5 c6
    · intro (i7 : ¬ (0 ≤ x1 ∧ x1 < (M 30 1)))
      show xa_C (xl_I b) A h0 _ 23 [(2, 53, 0, 0, 0), (0, 0, (-2147483648), 2147483647, x3)] M _
      refine cx_23_53 (show 0 ≤ x3 ∧ x3 < 8 by omega) ?_
      refine And.intro ?_ ?_
      · intro (c8 : ¬ (-1) = (M 53 x3))
        show post (some (0, 0, 0, 0, 0)) M
        exact k6 i3 i7 c8
      · intro (c8 : (-1) = (M 53 x3))
        refine And.intro ?_ ?_
        · intro (c9 : ¬ (xa_ib 3 (xa_ib 7 x2 x3) 1) = 0)
          show post (some (0, 0, 0, 0, 0)) M
          exact k7 i3 i7 c8 c9
        · intro (c9 : (xa_ib 3 (xa_ib 7 x2 x3) 1) = 0)
          show post (some (0, 0, 1, 1, 1)) M
          exact k8 i3 i7 c8 c9
theorem cg_177_50 {b : Bool} {A : Nat → Nat} {h0 : g_H} {d : Nat} {M : xa_M} {post : Option xa_V → xa_M → Prop} {l2 u2 l3 u3 l4 u4 x1 x2 x3 : Int} (h1 : 0 ≤ M 30 1 ∧ M 30 1 ≤ 80) (h2 : 0 ≤ x3 ∧ x3 < 8) (h3 : 0 ≤ x1 ∧ x1 < M 30 1) (k1 : (M 31 x1 = 63 ∨ M 31 x1 = M 53 x3) ∧ xa_ib 3 (xa_ib 7 x2 x3) 1 = 0 → post (some (0, 0, 1, 1, 1)) M) (k2 : ¬ ((M 31 x1 = 63 ∨ M 31 x1 = M 53 x3) ∧ xa_ib 3 (xa_ib 7 x2 x3) 1 = 0) → post (some (0, 0, 0, 0, 0)) M) : xa_C (xl_I b) A h0 (d + 4) 177 [(2, 50, 0, 0, 0), (2, 30, 0, 0, 0), (0, 0, l2, u2, x1), (0, 0, l3, u3, x2), (0, 0, l4, u4, x3)] M post := by
  refine cx_177_50_30 h1 h2 ?_ ?_ ?_ ?_ ?_ ?_ ?_ ?_
  all_goals intros
  all_goals first
    | exact k1 (by omega)
    | exact k2 (by omega)
theorem cx_18_54 {b : Bool} {A : Nat → Nat} {h0 : g_H} {d : Nat} {M : xa_M} {post : Option xa_V → xa_M → Prop} {l1 u1 l2 u2 : Int} {i v : Int} (h1 : 0 ≤ i ∧ i < 256) (k1 : post none (xa_up M 54 i v)) : xa_C (xl_I b) A h0 (d + 1) 18 [(2, 54, 0, 0, 0), (0, 0, l1, u1, i), (0, 0, l2, u2, v)] M post := by
  refine xa_C_arg [(2, 54, 0, 0, 0), (0, 0, (-2147483648), 2147483647, i), (0, 0, (-2147483648), 2147483647, v)] (xa_svR (xa_svI (fun _ _ _ _ => by omega) (xa_svI (fun _ _ _ _ => by omega) xa_sv0))) ?_
  refine xa_meth (Q0 := (3, 0, false, 0, 0, 11)) (by decide +kernel) ⟨rfl, rfl⟩ (full := s_c_18) rfl rfl ?_
  intro hM hv Q hgo
  refine hgo.1 15 [] 0 _ _ _ ?_
  refine And.intro ?_ ?_
  · intro (c1 : i < 0)
    show post none M
    exact absurd h1 (by omega)
  · intro (c1 : 0 ≤ i)
    refine And.intro ?_ ?_
    · intro (c2 : 256 ≤ i)
      show post none M
      exact absurd h1 (by omega)
    · intro (c2 : i < 256)
      refine And.intro (show 0 ≤ i ∧ i < 256 by omega) ?_
      show post none (xa_up M 54 i v)
      exact k1
theorem cx_23_54 {b : Bool} {A : Nat → Nat} {h0 : g_H} {d : Nat} {M : xa_M} {post : Option xa_V → xa_M → Prop} {l1 u1 : Int} {i : Int} (h1 : 0 ≤ i ∧ i < 256) (k1 : post (some (0, 0, (-2147483648), 2147483647, M 54 i)) M) : xa_C (xl_I b) A h0 (d + 1) 23 [(2, 54, 0, 0, 0), (0, 0, l1, u1, i)] M post := by
  refine xa_C_arg [(2, 54, 0, 0, 0), (0, 0, (-2147483648), 2147483647, i)] (xa_svR (xa_svI (fun _ _ _ _ => by omega) xa_sv0)) ?_
  refine xa_meth (Q0 := (2, 1, false, 0, 0, 11)) (by decide +kernel) ⟨rfl, rfl⟩ (full := s_c_23) rfl rfl ?_
  intro hM hv Q hgo
  refine hgo.1 15 [] 0 _ _ _ ?_
  refine And.intro ?_ ?_
  · intro (c1 : i < 0)
    show post (some (0, 0, 0, 0, 0)) M
    exact absurd h1 (by omega)
  · intro (c1 : 0 ≤ i)
    refine And.intro ?_ ?_
    · intro (c2 : 256 ≤ i)
      show post (some (0, 0, 0, 0, 0)) M
      exact absurd h1 (by omega)
    · intro (c2 : i < 256)
      refine And.intro (show 0 ≤ i ∧ i < 256 by omega) ?_
      show post (some (0, 0, (-2147483648), 2147483647, M 54 i)) M
      exact k1
theorem cx_176_50 {b : Bool} {A : Nat → Nat} {h0 : g_H} {d : Nat} {M : xa_M} {post : Option xa_V → xa_M → Prop} {T C : Int → Int} (hT : (∀ i, 0 ≤ i → i < 80 → M 31 i = T i)) (hC : ∀ i, 0 ≤ i → i < M 50 4 → M 53 i = bk_n (C i)) (hN : 1 ≤ M 30 1 ∧ M 30 1 ≤ 8) (hS : 0 ≤ M 50 4 ∧ M 50 4 ≤ 8) (hL : ∀ i, 0 ≤ i → i < M 30 1 → nm_l (T i)) (k : ∀ M1 : xa_M, (∀ q j, ¬ q = 54 → M1 q j = M q j) → (∀ v, 0 ≤ v → v < xa_ib 6 1 (M 50 4) → M1 54 v = nm_g T C (M 30 1) (M 50 4).toNat v) → post none M1) : xa_C (xl_I b) A h0 (d + 5) 176 [(2, 50, 0, 0, 0), (2, 30, 0, 0, 0)] M post := by
  refine xa_meth (Q0 := (6, 0, false, 0, 0, 0)) (by decide +kernel) ⟨rfl, rfl⟩ (full := s_c_176) rfl rfl ?_
  intro hM hv Q hgo
  have hP := nm_P hS.1 hS.2
  have loop : ∀ (f : Nat) (u : Int) (M1 : xa_M), -1 ≤ u ∧ u < xa_ib 6 1 (M 50 4) → (∀ q j, ¬ q = 54 → M1 q j = M q j) → (∀ v, u < v → v < xa_ib 6 1 (M 50 4) → M1 54 v = nm_g T C (M 30 1) (M 50 4).toNat v) → u + 1 < (f : Int) → Q 9 [(2, (0, 0, (-1), 255, u)), (0, (2, 50, 0, 0, 0)), (1, (2, 30, 0, 0, 0))] [] M1 := by
    intro f
    induction f with
    | zero => intro u M1 u1 hk hw hms; omega
    | succ f ih =>
      intro u M1 u1 hk hw hms
      have e30 : M1 30 1 = M 30 1 := hk 30 1 (by decide)
      have e4 : M1 50 4 = M 50 4 := hk 50 4 (by decide)
      have hT1 : (∀ i, 0 ≤ i → i < 80 → M1 31 i = T i) := fun i i0 i1 => (hk 31 i (by decide)).trans (hT i i0 i1)
      have hC1 : ∀ i, 0 ≤ i → i < M 50 4 → M1 53 i = bk_n (C i) := fun i i0 i1 => (hk 53 i (by decide)).trans (hC i i0 i1)
      have inner : 0 ≤ u → ∀ (f2 : Nat) (p n : Int), 0 ≤ p ∧ p ≤ M 50 4 → 0 ≤ n ∧ n ≤ 16777216 → nm_n T C (M 30 1) (M 50 4).toNat u p n → 8 - p < (f2 : Int) → Q 36 [(5, (0, 0, 0, 8, p)), (4, (0, 0, 0, 16777216, n)), (3, (0, 0, (-2147483648), 2147483647, xa_bc u)), (2, (0, 0, 0, 255, u)), (0, (2, 50, 0, 0, 0)), (1, (2, 30, 0, 0, 0))] [] M1 := by
        intro u0 f2
        have bc9 := nm_bc (u := u) u0 (by omega)
        induction f2 with
        | zero => intro p n p1 n1 hn hms2; omega
        | succ f2 ihf =>
          intro p n p1 n1 hn hms2
          refine hgo.1 34 [9, 36] 36 _ _ _ ?_
          refine And.intro ?_ ?_
          · intro (c1 : (M1 50 4) ≤ p)
            show xa_C (xl_I b) A h0 _ 18 [(2, 54, 0, 0, 0), (0, 0, 0, 255, u), (0, 0, 0, 16777216, n)] M1 _
            refine cx_18_54 (show 0 ≤ u ∧ u < 256 by omega) ?_
            show Q 9 [(2, (0, 0, (-1), 254, u + (-1))), (5, (0, 0, 0, 8, p)), (4, (0, 0, 0, 16777216, n)), (3, (0, 0, (-2147483648), 2147483647, xa_bc u)), (0, (2, 50, 0, 0, 0)), (1, (2, 30, 0, 0, 0))] [] (xa_up M1 54 u n)
            have en := nm_nG (S := M 50 4) hn (fun h => by omega)
            refine hgo.2.1 9 _ [(2, (0, 0, (-1), 255, u + (-1))), (0, (2, 50, 0, 0, 0)), (1, (2, 30, 0, 0, 0))] _ _ (xa_subI rfl rfl (fun _ _ _ _ => by omega) (xa_subR rfl (xa_subR rfl (xa_sub0)))) ?_
            exact ih (u + (-1)) _ (by omega) (fun q j hq => (xa_up_ne (fun e => hq e.1)).trans (hk q j hq)) (fun v v0 v1 => by
              by_cases e : v = u
              · rw [e, xa_up_eq]
                exact en
              · rw [xa_up_ne (fun h => e h.2)]
                exact hw v (by omega) v1) (by omega)
          · intro (c1 : p < (M1 50 4))
            refine And.intro ?_ ?_
            · intro (c2 : (M1 30 1) ≤ (xa_bc u))
              show xa_C (xl_I b) A h0 _ 18 [(2, 54, 0, 0, 0), (0, 0, 0, 255, u), (0, 0, 0, 16777216, n)] M1 _
              refine cx_18_54 (show 0 ≤ u ∧ u < 256 by omega) ?_
              show Q 9 [(2, (0, 0, (-1), 254, u + (-1))), (5, (0, 0, 0, 8, p)), (4, (0, 0, 0, 16777216, n)), (3, (0, 0, (-2147483648), 2147483647, xa_bc u)), (0, (2, 50, 0, 0, 0)), (1, (2, 30, 0, 0, 0))] [] (xa_up M1 54 u n)
              have en := nm_nG (S := M 50 4) hn (fun h => by omega)
              refine hgo.2.1 9 _ [(2, (0, 0, (-1), 255, u + (-1))), (0, (2, 50, 0, 0, 0)), (1, (2, 30, 0, 0, 0))] _ _ (xa_subI rfl rfl (fun _ _ _ _ => by omega) (xa_subR rfl (xa_subR rfl (xa_sub0)))) ?_
              exact ih (u + (-1)) _ (by omega) (fun q j hq => (xa_up_ne (fun e => hq e.1)).trans (hk q j hq)) (fun v v0 v1 => by
                by_cases e : v = u
                · rw [e, xa_up_eq]
                  exact en
                · rw [xa_up_ne (fun h => e h.2)]
                  exact hw v (by omega) v1) (by omega)
            · intro (c2 : (xa_bc u) < (M1 30 1))
              show xa_C (xl_I b) A h0 _ 177 [(2, 50, 0, 0, 0), (2, 30, 0, 0, 0), (0, 0, (-2147483648), 2147483647, xa_bc u), (0, 0, 0, 255, u), (0, 0, 0, 8, p)] M1 _
              refine cg_177_50 (show 0 ≤ (M1 30 1) ∧ (M1 30 1) ≤ 80 by omega) (show 0 ≤ p ∧ p < 8 by omega) (show 0 ≤ (xa_bc u) ∧ (xa_bc u) < (M1 30 1) by omega) ?_ ?_
              · intro (i3 : (M1 31 (xa_bc u) = 63 ∨ M1 31 (xa_bc u) = M1 53 p) ∧ xa_ib 3 (xa_ib 7 u p) 1 = 0)
                have dF := nm_F (S := M 50 4) (by omega) (by omega) (by omega) (by omega) (by omega) i3.2
                show xa_C (xl_I b) A h0 _ 23 [(2, 54, 0, 0, 0), (0, 0, (-2147483648), 2147483647, xa_ib 4 u (xa_ib 6 1 p))] M1 _
                refine cx_23_54 (show 0 ≤ (xa_ib 4 u (xa_ib 6 1 p)) ∧ (xa_ib 4 u (xa_ib 6 1 p)) < 256 by omega) ?_
                show Q 36 [(5, (0, 0, 1, 9, p + 1)), (4, (0, 0, (-2147483648), 2147483647, xa_w32 (n + (M1 54 (xa_ib 4 u (xa_ib 6 1 p)))))), (3, (0, 0, (-2147483648), 2147483647, xa_bc u)), (2, (0, 0, 0, 255, u)), (0, (2, 50, 0, 0, 0)), (1, (2, 30, 0, 0, 0))] [] M1
                have ei : ((p.toNat : Nat) : Int) = p := Int.toNat_of_nonneg (by omega)
                have a2 := nm_nL hn (by omega)
                have t9 := hT1 (xa_bc u) (by omega) (by omega)
                have l9 := hL (xa_bc u) (by omega) (by omega)
                unfold nm_l at l9
                have q9 := hC1 p (by omega) (by omega)
                have g9 := nm_bn (C p)
                have f9 : nm_o T C (xa_bc u) u ((p.toNat : Nat) : Int) = true := by
                  rw [ei, nm_oi]
                  exact ⟨by omega, i3.2⟩
                have es := nm_s1 (F := nm_f T C (M 30 1) (M 50 4).toNat (M 30 1 - xa_bc u - 1).toNat) f9
                have eg : M1 54 (xa_ib 4 u (xa_ib 6 1 p)) = nm_f T C (M 30 1) (M 50 4).toNat (M 30 1 - xa_bc u - 1).toNat (xa_ib 4 u (xa_ib 6 1 p)) := (hw (xa_ib 4 u (xa_ib 6 1 p)) (by omega) (by omega)).trans (nm_gs (by omega) (by omega))
                have b1 := nm_sb (T := T) (C := C) (N := M 30 1) (s := xa_bc u) (u := u) (S := (M 50 4).toNat) (f := (M 30 1 - xa_bc u - 1).toNat) (k := p.toNat + 1) (by omega) (by omega) (by omega)
                have b2 := nm_fb (T := T) (C := C) (N := M 30 1) (S := (M 50 4).toNat) (f := (M 30 1 - xa_bc u - 1).toNat) (by omega) (by omega) (xa_ib 4 u (xa_ib 6 1 p))
                rw [ei, ← a2, ← eg] at es
                rw [← eg] at b2
                have ew : xa_w32 (n + (M1 54 (xa_ib 4 u (xa_ib 6 1 p)))) = n + (M1 54 (xa_ib 4 u (xa_ib 6 1 p))) := xa_w32_id (by omega) (by omega)
                rw [ew]
                refine hgo.2.1 36 _ [(5, (0, 0, 0, 8, p + 1)), (4, (0, 0, 0, 16777216, n + (M1 54 (xa_ib 4 u (xa_ib 6 1 p))))), (3, (0, 0, (-2147483648), 2147483647, xa_bc u)), (2, (0, 0, 0, 255, u)), (0, (2, 50, 0, 0, 0)), (1, (2, 30, 0, 0, 0))] _ _ (xa_subI rfl rfl (fun _ _ _ _ => by omega) (xa_subI rfl rfl (fun _ _ _ _ => by omega) (xa_subI rfl rfl (fun _ _ _ _ => by omega) (xa_subI rfl rfl (fun _ _ _ _ => by omega) (xa_subR rfl (xa_subR rfl (xa_sub0))))))) ?_
                exact ihf (p + 1) (n + (M1 54 (xa_ib 4 u (xa_ib 6 1 p)))) (by omega) (by omega) (Or.inl ⟨by omega, by rw [show (p + 1).toNat = p.toNat + 1 by omega, es]⟩) (by omega)
              · intro (i4 : ¬ ((M1 31 (xa_bc u) = 63 ∨ M1 31 (xa_bc u) = M1 53 p) ∧ xa_ib 3 (xa_ib 7 u p) 1 = 0))
                show Q 36 [(5, (0, 0, 1, 9, p + 1)), (4, (0, 0, 0, 16777216, n + 0)), (3, (0, 0, (-2147483648), 2147483647, xa_bc u)), (2, (0, 0, 0, 255, u)), (0, (2, 50, 0, 0, 0)), (1, (2, 30, 0, 0, 0))] [] M1
                have ei : ((p.toNat : Nat) : Int) = p := Int.toNat_of_nonneg (by omega)
                have a2 := nm_nL hn (by omega)
                have t9 := hT1 (xa_bc u) (by omega) (by omega)
                have l9 := hL (xa_bc u) (by omega) (by omega)
                unfold nm_l at l9
                have q9 := hC1 p (by omega) (by omega)
                have g9 := nm_bn (C p)
                have f9 : ¬ nm_o T C (xa_bc u) u ((p.toNat : Nat) : Int) = true := fun h => by
                  rw [ei, nm_oi] at h
                  omega
                have es := nm_s0 (F := nm_f T C (M 30 1) (M 50 4).toNat (M 30 1 - xa_bc u - 1).toNat) f9
                rw [← a2] at es
                refine hgo.2.1 36 _ [(5, (0, 0, 0, 8, p + 1)), (4, (0, 0, 0, 16777216, n + 0)), (3, (0, 0, (-2147483648), 2147483647, xa_bc u)), (2, (0, 0, 0, 255, u)), (0, (2, 50, 0, 0, 0)), (1, (2, 30, 0, 0, 0))] _ _ (xa_subI rfl rfl (fun _ _ _ _ => by omega) (xa_subI rfl rfl (fun _ _ _ _ => by omega) (xa_subI rfl rfl (fun _ _ _ _ => by omega) (xa_subI rfl rfl (fun _ _ _ _ => by omega) (xa_subR rfl (xa_subR rfl (xa_sub0))))))) ?_
                exact ihf (p + 1) (n + 0) (by omega) (by omega) (Or.inl ⟨by omega, by rw [show (p + 1).toNat = p.toNat + 1 by omega, es]; omega⟩) (by omega)
      refine hgo.1 19 [9, 36] 9 _ _ _ ?_
      refine And.intro ?_ ?_
      · intro (c1 : u < 0)
        show post none M1
        exact k M1 hk (fun v v0 v1 => hw v (by omega) v1)
      · intro (c1 : 0 ≤ u)
        have bc9 := nm_bc (u := u) (by omega) (by omega)
        have inner := inner (by omega)
        show xa_C (xl_I b) A h0 _ 136 [(0, 0, (-1), 255, u)] M1 _
        refine ct_bitCount ?_
        refine And.intro ?_ ?_
        · intro (c2 : ¬ (xa_bc u) = (M1 30 1))
          show Q 36 [(5, (0, 0, 0, 0, 0)), (4, (0, 0, 0, 0, 0)), (3, (0, 0, (-2147483648), 2147483647, xa_bc u)), (2, (0, 0, (-1), 255, u)), (0, (2, 50, 0, 0, 0)), (1, (2, 30, 0, 0, 0))] [] M1
          refine hgo.2.1 36 _ [(5, (0, 0, 0, 8, 0)), (4, (0, 0, 0, 16777216, 0)), (3, (0, 0, (-2147483648), 2147483647, xa_bc u)), (2, (0, 0, 0, 255, u)), (0, (2, 50, 0, 0, 0)), (1, (2, 30, 0, 0, 0))] _ _ (xa_subI rfl rfl (fun _ _ _ _ => by omega) (xa_subI rfl rfl (fun _ _ _ _ => by omega) (xa_subI rfl rfl (fun _ _ _ _ => by omega) (xa_subI rfl rfl (fun _ _ _ _ => by omega) (xa_subR rfl (xa_subR rfl (xa_sub0))))))) ?_
          exact inner 9 0 0 (by omega) (by omega) (nm_n0 (by omega)) (by omega)
        · intro (c2 : (xa_bc u) = (M1 30 1))
          show Q 36 [(5, (0, 0, 0, 0, 0)), (4, (0, 0, 1, 1, 1)), (3, (0, 0, (-2147483648), 2147483647, xa_bc u)), (2, (0, 0, (-1), 255, u)), (0, (2, 50, 0, 0, 0)), (1, (2, 30, 0, 0, 0))] [] M1
          refine hgo.2.1 36 _ [(5, (0, 0, 0, 8, 0)), (4, (0, 0, 0, 16777216, 1)), (3, (0, 0, (-2147483648), 2147483647, xa_bc u)), (2, (0, 0, 0, 255, u)), (0, (2, 50, 0, 0, 0)), (1, (2, 30, 0, 0, 0))] _ _ (xa_subI rfl rfl (fun _ _ _ _ => by omega) (xa_subI rfl rfl (fun _ _ _ _ => by omega) (xa_subI rfl rfl (fun _ _ _ _ => by omega) (xa_subI rfl rfl (fun _ _ _ _ => by omega) (xa_subR rfl (xa_subR rfl (xa_sub0))))))) ?_
          exact inner 9 0 1 (by omega) (by omega) (Or.inr (Or.inl ⟨by omega, rfl⟩)) (by omega)
  refine hgo.1 12 [9, 36] 0 _ _ _ ?_
  show Q 9 [(2, (0, 0, (-2147483648), 2147483647, xa_w32 ((xa_ib 6 1 (M 50 4)) - 1))), (0, (2, 50, 0, 0, 0)), (1, (2, 30, 0, 0, 0))] [] M
  have e9 : xa_w32 ((xa_ib 6 1 (M 50 4)) - 1) = xa_ib 6 1 (M 50 4) - 1 := xa_w32_id (by omega) (by omega)
  rw [e9]
  refine hgo.2.1 9 _ [(2, (0, 0, (-1), 255, xa_ib 6 1 (M 50 4) - 1)), (0, (2, 50, 0, 0, 0)), (1, (2, 30, 0, 0, 0))] _ _ (xa_subI rfl rfl (fun _ _ _ _ => by omega) (xa_subR rfl (xa_subR rfl (xa_sub0)))) ?_
  exact loop 257 (xa_ib 6 1 (M 50 4) - 1) M (by omega) (fun _ _ _ => rfl) (fun v v0 v1 => by omega) (by omega)
theorem cx_23_58 {b : Bool} {A : Nat → Nat} {h0 : g_H} {d : Nat} {M : xa_M} {post : Option xa_V → xa_M → Prop} {l1 u1 : Int} {i : Int} (h1 : 0 ≤ i ∧ i < 8) (k1 : post (some (0, 0, (-2147483648), 2147483647, M 58 i)) M) : xa_C (xl_I b) A h0 (d + 1) 23 [(2, 58, 0, 0, 0), (0, 0, l1, u1, i)] M post := by
  refine xa_C_arg [(2, 58, 0, 0, 0), (0, 0, (-2147483648), 2147483647, i)] (xa_svR (xa_svI (fun _ _ _ _ => by omega) xa_sv0)) ?_
  refine xa_meth (Q0 := (2, 1, false, 0, 0, 11)) (by decide +kernel) ⟨rfl, rfl⟩ (full := s_c_23) rfl rfl ?_
  intro hM hv Q hgo
  refine hgo.1 15 [] 0 _ _ _ ?_
  refine And.intro ?_ ?_
  · intro (c1 : i < 0)
    show post (some (0, 0, 0, 0, 0)) M
    exact absurd h1 (by omega)
  · intro (c1 : 0 ≤ i)
    refine And.intro ?_ ?_
    · intro (c2 : 8 ≤ i)
      show post (some (0, 0, 0, 0, 0)) M
      exact absurd h1 (by omega)
    · intro (c2 : i < 8)
      refine And.intro (show 0 ≤ i ∧ i < 8 by omega) ?_
      show post (some (0, 0, (-2147483648), 2147483647, M 58 i)) M
      exact k1
theorem cx_177_55_30 {b : Bool} {A : Nat → Nat} {h0 : g_H} {d : Nat} {M : xa_M} {post : Option xa_V → xa_M → Prop} {l2 u2 l3 u3 l4 u4 : Int} {x1 x2 x3 : Int} (h1 : 0 ≤ (M 30 1) ∧ (M 30 1) ≤ 80) (h2 : 0 ≤ x3 ∧ x3 < 8) (k1 : ((0 ≤ x1 ∧ x1 < (M 30 1)) ∧ M 31 x1 = 63) → (¬ (xa_ib 3 (xa_ib 7 x2 x3) 1) = 0) → post (some (0, 0, 0, 0, 0)) M) (k2 : ((0 ≤ x1 ∧ x1 < (M 30 1)) ∧ M 31 x1 = 63) → ((xa_ib 3 (xa_ib 7 x2 x3) 1) = 0) → post (some (0, 0, 1, 1, 1)) M) (k3 : (¬ ((0 ≤ x1 ∧ x1 < (M 30 1)) ∧ M 31 x1 = 63)) → (0 ≤ x1 ∧ x1 < (M 30 1)) → (¬ (M 31 x1) = (M 58 x3)) → post (some (0, 0, 0, 0, 0)) M) (k4 : (¬ ((0 ≤ x1 ∧ x1 < (M 30 1)) ∧ M 31 x1 = 63)) → (0 ≤ x1 ∧ x1 < (M 30 1)) → ((M 31 x1) = (M 58 x3)) → (¬ (xa_ib 3 (xa_ib 7 x2 x3) 1) = 0) → post (some (0, 0, 0, 0, 0)) M) (k5 : (¬ ((0 ≤ x1 ∧ x1 < (M 30 1)) ∧ M 31 x1 = 63)) → (0 ≤ x1 ∧ x1 < (M 30 1)) → ((M 31 x1) = (M 58 x3)) → ((xa_ib 3 (xa_ib 7 x2 x3) 1) = 0) → post (some (0, 0, 1, 1, 1)) M) (k6 : (¬ ((0 ≤ x1 ∧ x1 < (M 30 1)) ∧ M 31 x1 = 63)) → (¬ (0 ≤ x1 ∧ x1 < (M 30 1))) → (¬ (-1) = (M 58 x3)) → post (some (0, 0, 0, 0, 0)) M) (k7 : (¬ ((0 ≤ x1 ∧ x1 < (M 30 1)) ∧ M 31 x1 = 63)) → (¬ (0 ≤ x1 ∧ x1 < (M 30 1))) → ((-1) = (M 58 x3)) → (¬ (xa_ib 3 (xa_ib 7 x2 x3) 1) = 0) → post (some (0, 0, 0, 0, 0)) M) (k8 : (¬ ((0 ≤ x1 ∧ x1 < (M 30 1)) ∧ M 31 x1 = 63)) → (¬ (0 ≤ x1 ∧ x1 < (M 30 1))) → ((-1) = (M 58 x3)) → ((xa_ib 3 (xa_ib 7 x2 x3) 1) = 0) → post (some (0, 0, 1, 1, 1)) M) : xa_C (xl_I b) A h0 (d + 4) 177 [(2, 55, 0, 0, 0), (2, 30, 0, 0, 0), (0, 0, l2, u2, x1), (0, 0, l3, u3, x2), (0, 0, l4, u4, x3)] M post := by
  refine xa_C_arg [(2, 55, 0, 0, 0), (2, 30, 0, 0, 0), (0, 0, (-2147483648), 2147483647, x1), (0, 0, (-2147483648), 2147483647, x2), (0, 0, (-2147483648), 2147483647, x3)] (xa_svR (xa_svR (xa_svI (fun _ _ _ _ => by omega) (xa_svI (fun _ _ _ _ => by omega) (xa_svI (fun _ _ _ _ => by omega) (xa_sv0)))))) ?_
  refine xa_meth (Q0 := (6, 2, false, 0, 0, 0)) (by decide +kernel) ⟨rfl, rfl⟩ (full := s_c_177) rfl rfl ?_
  intro hM hv Q hgo
  refine hgo.1 30 [] 0 _ _ _ ?_
  show xa_C (xl_I b) A h0 _ 172 [(2, 30, 0, 0, 0), (0, 0, (-2147483648), 2147483647, x1)] M _
  refine cg_172 (show 0 ≤ (M 30 1) ∧ (M 30 1) ≤ 80 by omega) ?_ ?_
  · intro (i1 : (0 ≤ x1 ∧ x1 < (M 30 1)) ∧ M 31 x1 = 63)
    refine And.intro ?_ ?_
    · intro (c2 : ¬ (xa_ib 3 (xa_ib 7 x2 x3) 1) = 0)
      show post (some (0, 0, 0, 0, 0)) M
      exact k1 i1 c2
    · intro (c2 : (xa_ib 3 (xa_ib 7 x2 x3) 1) = 0)
      show post (some (0, 0, 1, 1, 1)) M
      exact k2 i1 c2
  · intro (i3 : ¬ ((0 ≤ x1 ∧ x1 < (M 30 1)) ∧ M 31 x1 = 63))
    show xa_C (xl_I b) A h0 _ 119 [(2, 30, 0, 0, 0), (0, 0, (-2147483648), 2147483647, x1)] M _
    refine cg_119 (show 0 ≤ (M 30 1) ∧ (M 30 1) ≤ 80 by omega) ?_ ?_
    · intro (i4 : 0 ≤ x1 ∧ x1 < (M 30 1))
      show xa_C (xl_I b) A h0 _ 23 [(2, 58, 0, 0, 0), (0, 0, (-2147483648), 2147483647, x3)] M _
      refine cx_23_58 (show 0 ≤ x3 ∧ x3 < 8 by omega) ?_
      refine And.intro ?_ ?_
      · intro (c5 : ¬ (M 31 x1) = (M 58 x3))
        show post (some (0, 0, 0, 0, 0)) M
        exact k3 i3 i4 c5
      · intro (c5 : (M 31 x1) = (M 58 x3))
        refine And.intro ?_ ?_
        · intro (c6 : ¬ (xa_ib 3 (xa_ib 7 x2 x3) 1) = 0)
          show post (some (0, 0, 0, 0, 0)) M
          exact k4 i3 i4 c5 c6
        · intro (c6 : (xa_ib 3 (xa_ib 7 x2 x3) 1) = 0)
          show post (some (0, 0, 1, 1, 1)) M
          exact k5 i3 i4 c5 c6
    · intro (i7 : ¬ (0 ≤ x1 ∧ x1 < (M 30 1)))
      show xa_C (xl_I b) A h0 _ 23 [(2, 58, 0, 0, 0), (0, 0, (-2147483648), 2147483647, x3)] M _
      refine cx_23_58 (show 0 ≤ x3 ∧ x3 < 8 by omega) ?_
      refine And.intro ?_ ?_
      · intro (c8 : ¬ (-1) = (M 58 x3))
        show post (some (0, 0, 0, 0, 0)) M
        exact k6 i3 i7 c8
      · intro (c8 : (-1) = (M 58 x3))
        refine And.intro ?_ ?_
        · intro (c9 : ¬ (xa_ib 3 (xa_ib 7 x2 x3) 1) = 0)
          show post (some (0, 0, 0, 0, 0)) M
          exact k7 i3 i7 c8 c9
        · intro (c9 : (xa_ib 3 (xa_ib 7 x2 x3) 1) = 0)
          show post (some (0, 0, 1, 1, 1)) M
          exact k8 i3 i7 c8 c9
theorem cg_177_55 {b : Bool} {A : Nat → Nat} {h0 : g_H} {d : Nat} {M : xa_M} {post : Option xa_V → xa_M → Prop} {l2 u2 l3 u3 l4 u4 x1 x2 x3 : Int} (h1 : 0 ≤ M 30 1 ∧ M 30 1 ≤ 80) (h2 : 0 ≤ x3 ∧ x3 < 8) (h3 : 0 ≤ x1 ∧ x1 < M 30 1) (k1 : (M 31 x1 = 63 ∨ M 31 x1 = M 58 x3) ∧ xa_ib 3 (xa_ib 7 x2 x3) 1 = 0 → post (some (0, 0, 1, 1, 1)) M) (k2 : ¬ ((M 31 x1 = 63 ∨ M 31 x1 = M 58 x3) ∧ xa_ib 3 (xa_ib 7 x2 x3) 1 = 0) → post (some (0, 0, 0, 0, 0)) M) : xa_C (xl_I b) A h0 (d + 4) 177 [(2, 55, 0, 0, 0), (2, 30, 0, 0, 0), (0, 0, l2, u2, x1), (0, 0, l3, u3, x2), (0, 0, l4, u4, x3)] M post := by
  refine cx_177_55_30 h1 h2 ?_ ?_ ?_ ?_ ?_ ?_ ?_ ?_
  all_goals intros
  all_goals first
    | exact k1 (by omega)
    | exact k2 (by omega)
theorem cx_18_59 {b : Bool} {A : Nat → Nat} {h0 : g_H} {d : Nat} {M : xa_M} {post : Option xa_V → xa_M → Prop} {l1 u1 l2 u2 : Int} {i v : Int} (h1 : 0 ≤ i ∧ i < 256) (k1 : post none (xa_up M 59 i v)) : xa_C (xl_I b) A h0 (d + 1) 18 [(2, 59, 0, 0, 0), (0, 0, l1, u1, i), (0, 0, l2, u2, v)] M post := by
  refine xa_C_arg [(2, 59, 0, 0, 0), (0, 0, (-2147483648), 2147483647, i), (0, 0, (-2147483648), 2147483647, v)] (xa_svR (xa_svI (fun _ _ _ _ => by omega) (xa_svI (fun _ _ _ _ => by omega) xa_sv0))) ?_
  refine xa_meth (Q0 := (3, 0, false, 0, 0, 11)) (by decide +kernel) ⟨rfl, rfl⟩ (full := s_c_18) rfl rfl ?_
  intro hM hv Q hgo
  refine hgo.1 15 [] 0 _ _ _ ?_
  refine And.intro ?_ ?_
  · intro (c1 : i < 0)
    show post none M
    exact absurd h1 (by omega)
  · intro (c1 : 0 ≤ i)
    refine And.intro ?_ ?_
    · intro (c2 : 256 ≤ i)
      show post none M
      exact absurd h1 (by omega)
    · intro (c2 : i < 256)
      refine And.intro (show 0 ≤ i ∧ i < 256 by omega) ?_
      show post none (xa_up M 59 i v)
      exact k1
theorem cx_23_59 {b : Bool} {A : Nat → Nat} {h0 : g_H} {d : Nat} {M : xa_M} {post : Option xa_V → xa_M → Prop} {l1 u1 : Int} {i : Int} (h1 : 0 ≤ i ∧ i < 256) (k1 : post (some (0, 0, (-2147483648), 2147483647, M 59 i)) M) : xa_C (xl_I b) A h0 (d + 1) 23 [(2, 59, 0, 0, 0), (0, 0, l1, u1, i)] M post := by
  refine xa_C_arg [(2, 59, 0, 0, 0), (0, 0, (-2147483648), 2147483647, i)] (xa_svR (xa_svI (fun _ _ _ _ => by omega) xa_sv0)) ?_
  refine xa_meth (Q0 := (2, 1, false, 0, 0, 11)) (by decide +kernel) ⟨rfl, rfl⟩ (full := s_c_23) rfl rfl ?_
  intro hM hv Q hgo
  refine hgo.1 15 [] 0 _ _ _ ?_
  refine And.intro ?_ ?_
  · intro (c1 : i < 0)
    show post (some (0, 0, 0, 0, 0)) M
    exact absurd h1 (by omega)
  · intro (c1 : 0 ≤ i)
    refine And.intro ?_ ?_
    · intro (c2 : 256 ≤ i)
      show post (some (0, 0, 0, 0, 0)) M
      exact absurd h1 (by omega)
    · intro (c2 : i < 256)
      refine And.intro (show 0 ≤ i ∧ i < 256 by omega) ?_
      show post (some (0, 0, (-2147483648), 2147483647, M 59 i)) M
      exact k1
theorem cx_176_55 {b : Bool} {A : Nat → Nat} {h0 : g_H} {d : Nat} {M : xa_M} {post : Option xa_V → xa_M → Prop} {T C : Int → Int} (hT : (∀ i, 0 ≤ i → i < 80 → M 31 i = T i)) (hC : ∀ i, 0 ≤ i → i < M 55 4 → M 58 i = bk_n (C i)) (hN : 1 ≤ M 30 1 ∧ M 30 1 ≤ 8) (hS : 0 ≤ M 55 4 ∧ M 55 4 ≤ 8) (hL : ∀ i, 0 ≤ i → i < M 30 1 → nm_l (T i)) (k : ∀ M1 : xa_M, (∀ q j, ¬ q = 59 → M1 q j = M q j) → (∀ v, 0 ≤ v → v < xa_ib 6 1 (M 55 4) → M1 59 v = nm_g T C (M 30 1) (M 55 4).toNat v) → post none M1) : xa_C (xl_I b) A h0 (d + 5) 176 [(2, 55, 0, 0, 0), (2, 30, 0, 0, 0)] M post := by
  refine xa_meth (Q0 := (6, 0, false, 0, 0, 0)) (by decide +kernel) ⟨rfl, rfl⟩ (full := s_c_176) rfl rfl ?_
  intro hM hv Q hgo
  have hP := nm_P hS.1 hS.2
  have loop : ∀ (f : Nat) (u : Int) (M1 : xa_M), -1 ≤ u ∧ u < xa_ib 6 1 (M 55 4) → (∀ q j, ¬ q = 59 → M1 q j = M q j) → (∀ v, u < v → v < xa_ib 6 1 (M 55 4) → M1 59 v = nm_g T C (M 30 1) (M 55 4).toNat v) → u + 1 < (f : Int) → Q 9 [(2, (0, 0, (-1), 255, u)), (0, (2, 55, 0, 0, 0)), (1, (2, 30, 0, 0, 0))] [] M1 := by
    intro f
    induction f with
    | zero => intro u M1 u1 hk hw hms; omega
    | succ f ih =>
      intro u M1 u1 hk hw hms
      have e30 : M1 30 1 = M 30 1 := hk 30 1 (by decide)
      have e4 : M1 55 4 = M 55 4 := hk 55 4 (by decide)
      have hT1 : (∀ i, 0 ≤ i → i < 80 → M1 31 i = T i) := fun i i0 i1 => (hk 31 i (by decide)).trans (hT i i0 i1)
      have hC1 : ∀ i, 0 ≤ i → i < M 55 4 → M1 58 i = bk_n (C i) := fun i i0 i1 => (hk 58 i (by decide)).trans (hC i i0 i1)
      have inner : 0 ≤ u → ∀ (f2 : Nat) (p n : Int), 0 ≤ p ∧ p ≤ M 55 4 → 0 ≤ n ∧ n ≤ 16777216 → nm_n T C (M 30 1) (M 55 4).toNat u p n → 8 - p < (f2 : Int) → Q 36 [(5, (0, 0, 0, 8, p)), (4, (0, 0, 0, 16777216, n)), (3, (0, 0, (-2147483648), 2147483647, xa_bc u)), (2, (0, 0, 0, 255, u)), (0, (2, 55, 0, 0, 0)), (1, (2, 30, 0, 0, 0))] [] M1 := by
        intro u0 f2
        have bc9 := nm_bc (u := u) u0 (by omega)
        induction f2 with
        | zero => intro p n p1 n1 hn hms2; omega
        | succ f2 ihf =>
          intro p n p1 n1 hn hms2
          refine hgo.1 34 [9, 36] 36 _ _ _ ?_
          refine And.intro ?_ ?_
          · intro (c1 : (M1 55 4) ≤ p)
            show xa_C (xl_I b) A h0 _ 18 [(2, 59, 0, 0, 0), (0, 0, 0, 255, u), (0, 0, 0, 16777216, n)] M1 _
            refine cx_18_59 (show 0 ≤ u ∧ u < 256 by omega) ?_
            show Q 9 [(2, (0, 0, (-1), 254, u + (-1))), (5, (0, 0, 0, 8, p)), (4, (0, 0, 0, 16777216, n)), (3, (0, 0, (-2147483648), 2147483647, xa_bc u)), (0, (2, 55, 0, 0, 0)), (1, (2, 30, 0, 0, 0))] [] (xa_up M1 59 u n)
            have en := nm_nG (S := M 55 4) hn (fun h => by omega)
            refine hgo.2.1 9 _ [(2, (0, 0, (-1), 255, u + (-1))), (0, (2, 55, 0, 0, 0)), (1, (2, 30, 0, 0, 0))] _ _ (xa_subI rfl rfl (fun _ _ _ _ => by omega) (xa_subR rfl (xa_subR rfl (xa_sub0)))) ?_
            exact ih (u + (-1)) _ (by omega) (fun q j hq => (xa_up_ne (fun e => hq e.1)).trans (hk q j hq)) (fun v v0 v1 => by
              by_cases e : v = u
              · rw [e, xa_up_eq]
                exact en
              · rw [xa_up_ne (fun h => e h.2)]
                exact hw v (by omega) v1) (by omega)
          · intro (c1 : p < (M1 55 4))
            refine And.intro ?_ ?_
            · intro (c2 : (M1 30 1) ≤ (xa_bc u))
              show xa_C (xl_I b) A h0 _ 18 [(2, 59, 0, 0, 0), (0, 0, 0, 255, u), (0, 0, 0, 16777216, n)] M1 _
              refine cx_18_59 (show 0 ≤ u ∧ u < 256 by omega) ?_
              show Q 9 [(2, (0, 0, (-1), 254, u + (-1))), (5, (0, 0, 0, 8, p)), (4, (0, 0, 0, 16777216, n)), (3, (0, 0, (-2147483648), 2147483647, xa_bc u)), (0, (2, 55, 0, 0, 0)), (1, (2, 30, 0, 0, 0))] [] (xa_up M1 59 u n)
              have en := nm_nG (S := M 55 4) hn (fun h => by omega)
              refine hgo.2.1 9 _ [(2, (0, 0, (-1), 255, u + (-1))), (0, (2, 55, 0, 0, 0)), (1, (2, 30, 0, 0, 0))] _ _ (xa_subI rfl rfl (fun _ _ _ _ => by omega) (xa_subR rfl (xa_subR rfl (xa_sub0)))) ?_
              exact ih (u + (-1)) _ (by omega) (fun q j hq => (xa_up_ne (fun e => hq e.1)).trans (hk q j hq)) (fun v v0 v1 => by
                by_cases e : v = u
                · rw [e, xa_up_eq]
                  exact en
                · rw [xa_up_ne (fun h => e h.2)]
                  exact hw v (by omega) v1) (by omega)
            · intro (c2 : (xa_bc u) < (M1 30 1))
              show xa_C (xl_I b) A h0 _ 177 [(2, 55, 0, 0, 0), (2, 30, 0, 0, 0), (0, 0, (-2147483648), 2147483647, xa_bc u), (0, 0, 0, 255, u), (0, 0, 0, 8, p)] M1 _
              refine cg_177_55 (show 0 ≤ (M1 30 1) ∧ (M1 30 1) ≤ 80 by omega) (show 0 ≤ p ∧ p < 8 by omega) (show 0 ≤ (xa_bc u) ∧ (xa_bc u) < (M1 30 1) by omega) ?_ ?_
              · intro (i3 : (M1 31 (xa_bc u) = 63 ∨ M1 31 (xa_bc u) = M1 58 p) ∧ xa_ib 3 (xa_ib 7 u p) 1 = 0)
                have dF := nm_F (S := M 55 4) (by omega) (by omega) (by omega) (by omega) (by omega) i3.2
                show xa_C (xl_I b) A h0 _ 23 [(2, 59, 0, 0, 0), (0, 0, (-2147483648), 2147483647, xa_ib 4 u (xa_ib 6 1 p))] M1 _
                refine cx_23_59 (show 0 ≤ (xa_ib 4 u (xa_ib 6 1 p)) ∧ (xa_ib 4 u (xa_ib 6 1 p)) < 256 by omega) ?_
                show Q 36 [(5, (0, 0, 1, 9, p + 1)), (4, (0, 0, (-2147483648), 2147483647, xa_w32 (n + (M1 59 (xa_ib 4 u (xa_ib 6 1 p)))))), (3, (0, 0, (-2147483648), 2147483647, xa_bc u)), (2, (0, 0, 0, 255, u)), (0, (2, 55, 0, 0, 0)), (1, (2, 30, 0, 0, 0))] [] M1
                have ei : ((p.toNat : Nat) : Int) = p := Int.toNat_of_nonneg (by omega)
                have a2 := nm_nL hn (by omega)
                have t9 := hT1 (xa_bc u) (by omega) (by omega)
                have l9 := hL (xa_bc u) (by omega) (by omega)
                unfold nm_l at l9
                have q9 := hC1 p (by omega) (by omega)
                have g9 := nm_bn (C p)
                have f9 : nm_o T C (xa_bc u) u ((p.toNat : Nat) : Int) = true := by
                  rw [ei, nm_oi]
                  exact ⟨by omega, i3.2⟩
                have es := nm_s1 (F := nm_f T C (M 30 1) (M 55 4).toNat (M 30 1 - xa_bc u - 1).toNat) f9
                have eg : M1 59 (xa_ib 4 u (xa_ib 6 1 p)) = nm_f T C (M 30 1) (M 55 4).toNat (M 30 1 - xa_bc u - 1).toNat (xa_ib 4 u (xa_ib 6 1 p)) := (hw (xa_ib 4 u (xa_ib 6 1 p)) (by omega) (by omega)).trans (nm_gs (by omega) (by omega))
                have b1 := nm_sb (T := T) (C := C) (N := M 30 1) (s := xa_bc u) (u := u) (S := (M 55 4).toNat) (f := (M 30 1 - xa_bc u - 1).toNat) (k := p.toNat + 1) (by omega) (by omega) (by omega)
                have b2 := nm_fb (T := T) (C := C) (N := M 30 1) (S := (M 55 4).toNat) (f := (M 30 1 - xa_bc u - 1).toNat) (by omega) (by omega) (xa_ib 4 u (xa_ib 6 1 p))
                rw [ei, ← a2, ← eg] at es
                rw [← eg] at b2
                have ew : xa_w32 (n + (M1 59 (xa_ib 4 u (xa_ib 6 1 p)))) = n + (M1 59 (xa_ib 4 u (xa_ib 6 1 p))) := xa_w32_id (by omega) (by omega)
                rw [ew]
                refine hgo.2.1 36 _ [(5, (0, 0, 0, 8, p + 1)), (4, (0, 0, 0, 16777216, n + (M1 59 (xa_ib 4 u (xa_ib 6 1 p))))), (3, (0, 0, (-2147483648), 2147483647, xa_bc u)), (2, (0, 0, 0, 255, u)), (0, (2, 55, 0, 0, 0)), (1, (2, 30, 0, 0, 0))] _ _ (xa_subI rfl rfl (fun _ _ _ _ => by omega) (xa_subI rfl rfl (fun _ _ _ _ => by omega) (xa_subI rfl rfl (fun _ _ _ _ => by omega) (xa_subI rfl rfl (fun _ _ _ _ => by omega) (xa_subR rfl (xa_subR rfl (xa_sub0))))))) ?_
                exact ihf (p + 1) (n + (M1 59 (xa_ib 4 u (xa_ib 6 1 p)))) (by omega) (by omega) (Or.inl ⟨by omega, by rw [show (p + 1).toNat = p.toNat + 1 by omega, es]⟩) (by omega)
              · intro (i4 : ¬ ((M1 31 (xa_bc u) = 63 ∨ M1 31 (xa_bc u) = M1 58 p) ∧ xa_ib 3 (xa_ib 7 u p) 1 = 0))
                show Q 36 [(5, (0, 0, 1, 9, p + 1)), (4, (0, 0, 0, 16777216, n + 0)), (3, (0, 0, (-2147483648), 2147483647, xa_bc u)), (2, (0, 0, 0, 255, u)), (0, (2, 55, 0, 0, 0)), (1, (2, 30, 0, 0, 0))] [] M1
                have ei : ((p.toNat : Nat) : Int) = p := Int.toNat_of_nonneg (by omega)
                have a2 := nm_nL hn (by omega)
                have t9 := hT1 (xa_bc u) (by omega) (by omega)
                have l9 := hL (xa_bc u) (by omega) (by omega)
                unfold nm_l at l9
                have q9 := hC1 p (by omega) (by omega)
                have g9 := nm_bn (C p)
                have f9 : ¬ nm_o T C (xa_bc u) u ((p.toNat : Nat) : Int) = true := fun h => by
                  rw [ei, nm_oi] at h
                  omega
                have es := nm_s0 (F := nm_f T C (M 30 1) (M 55 4).toNat (M 30 1 - xa_bc u - 1).toNat) f9
                rw [← a2] at es
                refine hgo.2.1 36 _ [(5, (0, 0, 0, 8, p + 1)), (4, (0, 0, 0, 16777216, n + 0)), (3, (0, 0, (-2147483648), 2147483647, xa_bc u)), (2, (0, 0, 0, 255, u)), (0, (2, 55, 0, 0, 0)), (1, (2, 30, 0, 0, 0))] _ _ (xa_subI rfl rfl (fun _ _ _ _ => by omega) (xa_subI rfl rfl (fun _ _ _ _ => by omega) (xa_subI rfl rfl (fun _ _ _ _ => by omega) (xa_subI rfl rfl (fun _ _ _ _ => by omega) (xa_subR rfl (xa_subR rfl (xa_sub0))))))) ?_
                exact ihf (p + 1) (n + 0) (by omega) (by omega) (Or.inl ⟨by omega, by rw [show (p + 1).toNat = p.toNat + 1 by omega, es]; omega⟩) (by omega)
      refine hgo.1 19 [9, 36] 9 _ _ _ ?_
      refine And.intro ?_ ?_
      · intro (c1 : u < 0)
        show post none M1
        exact k M1 hk (fun v v0 v1 => hw v (by omega) v1)
      · intro (c1 : 0 ≤ u)
        have bc9 := nm_bc (u := u) (by omega) (by omega)
        have inner := inner (by omega)
        show xa_C (xl_I b) A h0 _ 136 [(0, 0, (-1), 255, u)] M1 _
        refine ct_bitCount ?_
        refine And.intro ?_ ?_
        · intro (c2 : ¬ (xa_bc u) = (M1 30 1))
          show Q 36 [(5, (0, 0, 0, 0, 0)), (4, (0, 0, 0, 0, 0)), (3, (0, 0, (-2147483648), 2147483647, xa_bc u)), (2, (0, 0, (-1), 255, u)), (0, (2, 55, 0, 0, 0)), (1, (2, 30, 0, 0, 0))] [] M1
          refine hgo.2.1 36 _ [(5, (0, 0, 0, 8, 0)), (4, (0, 0, 0, 16777216, 0)), (3, (0, 0, (-2147483648), 2147483647, xa_bc u)), (2, (0, 0, 0, 255, u)), (0, (2, 55, 0, 0, 0)), (1, (2, 30, 0, 0, 0))] _ _ (xa_subI rfl rfl (fun _ _ _ _ => by omega) (xa_subI rfl rfl (fun _ _ _ _ => by omega) (xa_subI rfl rfl (fun _ _ _ _ => by omega) (xa_subI rfl rfl (fun _ _ _ _ => by omega) (xa_subR rfl (xa_subR rfl (xa_sub0))))))) ?_
          exact inner 9 0 0 (by omega) (by omega) (nm_n0 (by omega)) (by omega)
        · intro (c2 : (xa_bc u) = (M1 30 1))
          show Q 36 [(5, (0, 0, 0, 0, 0)), (4, (0, 0, 1, 1, 1)), (3, (0, 0, (-2147483648), 2147483647, xa_bc u)), (2, (0, 0, (-1), 255, u)), (0, (2, 55, 0, 0, 0)), (1, (2, 30, 0, 0, 0))] [] M1
          refine hgo.2.1 36 _ [(5, (0, 0, 0, 8, 0)), (4, (0, 0, 0, 16777216, 1)), (3, (0, 0, (-2147483648), 2147483647, xa_bc u)), (2, (0, 0, 0, 255, u)), (0, (2, 55, 0, 0, 0)), (1, (2, 30, 0, 0, 0))] _ _ (xa_subI rfl rfl (fun _ _ _ _ => by omega) (xa_subI rfl rfl (fun _ _ _ _ => by omega) (xa_subI rfl rfl (fun _ _ _ _ => by omega) (xa_subI rfl rfl (fun _ _ _ _ => by omega) (xa_subR rfl (xa_subR rfl (xa_sub0))))))) ?_
          exact inner 9 0 1 (by omega) (by omega) (Or.inr (Or.inl ⟨by omega, rfl⟩)) (by omega)
  refine hgo.1 12 [9, 36] 0 _ _ _ ?_
  show Q 9 [(2, (0, 0, (-2147483648), 2147483647, xa_w32 ((xa_ib 6 1 (M 55 4)) - 1))), (0, (2, 55, 0, 0, 0)), (1, (2, 30, 0, 0, 0))] [] M
  have e9 : xa_w32 ((xa_ib 6 1 (M 55 4)) - 1) = xa_ib 6 1 (M 55 4) - 1 := xa_w32_id (by omega) (by omega)
  rw [e9]
  refine hgo.2.1 9 _ [(2, (0, 0, (-1), 255, xa_ib 6 1 (M 55 4) - 1)), (0, (2, 55, 0, 0, 0)), (1, (2, 30, 0, 0, 0))] _ _ (xa_subI rfl rfl (fun _ _ _ _ => by omega) (xa_subR rfl (xa_subR rfl (xa_sub0)))) ?_
  exact loop 257 (xa_ib 6 1 (M 55 4) - 1) M (by omega) (fun _ _ _ => rfl) (fun v v0 v1 => by omega) (by omega)
