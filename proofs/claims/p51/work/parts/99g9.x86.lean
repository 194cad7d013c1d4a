set_option maxRecDepth 20000
/-- a fraction in its least terms -/
def rw_f2 (x y : Int) : List Int := [x.tdiv (Int.gcd x y : Int), y.tdiv (Int.gcd x y : Int)]
/-- a pin in a slot: the fastest -/
def rw_slU (a b c e : Int) : Int := b * b * e - a * b * c
def rw_slD (a b c e : Int) : Int := b * b * e - 2 * a * b * c + a * a * e
theorem rw_sl1 (a b c e : Int) : b * (b * e - a * c) = rw_slU a b c e := by
  unfold rw_slU
  rw [Int.mul_sub, Int.mul_assoc b b e, show b * (a * c) = a * b * c by rw [← Int.mul_assoc, Int.mul_comm b a]]
theorem rw_sl2 (a b c e : Int) : e * (b * b + a * a) - 2 * a * b * c = rw_slD a b c e := by
  unfold rw_slD
  rw [Int.mul_add, Int.mul_comm e (b * b), Int.mul_comm e (a * a)]
  omega
/-- how far off a is, the best of the first -/
def rw_h (u d a : Int) : Int := (((100 + a) * d - (100 - a) * u).natAbs : Int)
def rw_ub (u d : Int) : Nat → Int
  | 0 => 0
  | n + 1 => if rw_h u d ((n : Int) + 1) * (100 - rw_ub u d n) < rw_h u d (rw_ub u d n) * (100 - ((n : Int) + 1)) then (n : Int) + 1 else rw_ub u d n
theorem rw_ubn {u d t b : Int} (t0 : 1 ≤ t) (hb : b = rw_ub u d (t - 1).toNat) (hc : rw_h u d b * (100 - t) ≤ rw_h u d t * (100 - b)) : b = rw_ub u d (t + 1 - 1).toNat := by
  have e : (((t - 1).toNat : Nat) : Int) + 1 = t := by omega
  rw [show (t + 1 - 1).toNat = (t - 1).toNat + 1 by omega]
  show b = if rw_h u d ((((t - 1).toNat : Nat) : Int) + 1) * (100 - rw_ub u d (t - 1).toNat) < rw_h u d (rw_ub u d (t - 1).toNat) * (100 - ((((t - 1).toNat : Nat) : Int) + 1)) then (((t - 1).toNat : Nat) : Int) + 1 else rw_ub u d (t - 1).toNat
  rw [e, ← hb, if_neg (by omega)]
theorem rw_uby {u d t b : Int} (t0 : 1 ≤ t) (hb : b = rw_ub u d (t - 1).toNat) (hc : rw_h u d t * (100 - b) < rw_h u d b * (100 - t)) : t = rw_ub u d (t + 1 - 1).toNat := by
  have e : (((t - 1).toNat : Nat) : Int) + 1 = t := by omega
  rw [show (t + 1 - 1).toNat = (t - 1).toNat + 1 by omega]
  show t = if rw_h u d ((((t - 1).toNat : Nat) : Int) + 1) * (100 - rw_ub u d (t - 1).toNat) < rw_h u d (rw_ub u d (t - 1).toNat) * (100 - ((((t - 1).toNat : Nat) : Int) + 1)) then (((t - 1).toNat : Nat) : Int) + 1 else rw_ub u d (t - 1).toNat
  rw [e, ← hb, if_pos hc]
theorem rw_hb {u d a : Int} (hu : 1 ≤ u ∧ u ≤ 1000) (hd : 1 ≤ d ∧ d ≤ 1000) (ha : 0 ≤ a ∧ a ≤ 100) : 0 ≤ rw_h u d a ∧ rw_h u d a ≤ 300000 := by
  have m1 := rz_mb (p := 100 + a) (q := d) (A := 200) (B := 1000) (by omega) (by omega) (by omega) (by omega)
  have m2 := rz_mb (p := 100 - a) (q := u) (A := 100) (B := 1000) (by omega) (by omega) (by omega) (by omega)
  unfold rw_h
  rcases Int.natAbs_eq ((100 + a) * d - (100 - a) * u) with h | h <;> omega
theorem rw_h0 {u d : Int} (h : d ≤ u) : 100 * (u - d) = rw_h u d 0 := by
  unfold rw_h
  rcases Int.natAbs_eq ((100 + 0) * d - (100 - 0) * u) with h | h <;> omega
def rw_s163 (u d : Int) (V : Int → Int) : Prop := V = rw_v (rw_f2 (100 + rw_ub u d 99) (100 - rw_ub u d 99))
theorem rw_s163_of {u d b : Int} (h : b = rw_ub u d 99) : rw_s163 u d (rw_v (rw_f2 (100 + b) (100 - b))) := by
  rw [h]
  rfl
theorem rw_und {a b c e : Int} : 0 ≤ a → a < b → b ≤ 100 → 1 ≤ e → e ≤ 20 → -e ≤ c → c ≤ e → 1 ≤ rw_slD a b c e := by
  have und : 0 ≤ a → a < b → b ≤ 100 → 1 ≤ e → e ≤ 20 → -e ≤ c → c ≤ e → 1 ≤ b * b * e - 2 * a * b * c + a * a * e := by
    intro h1 h2 h3 h4 h5 h6 h7
    have hab : 0 ≤ a * b := Int.mul_nonneg h1 (by omega)
    have k1 : a * b * c ≤ a * b * e := Int.mul_le_mul_of_nonneg_left h7 hab
    have k2 : 1 ≤ (b - a) * (b - a) := (xm_mulp (p := b - a) (q := b - a) (a := 100) (b := 100) (by omega) (by omega) (by omega) (by omega)).1
    have k3 : 1 ≤ (b - a) * (b - a) * e := by
      have := Int.mul_pos (show 0 < (b - a) * (b - a) by omega) (show 0 < e by omega)
      omega
    have k4 : (b - a) * (b - a) * e = b * b * e - 2 * (a * b * e) + a * a * e := by
      simp only [Int.sub_mul, Int.mul_sub, Int.mul_comm b a]
      omega
    have k5 : 2 * a * b * c = 2 * (a * b * c) := by
      rw [Int.mul_assoc 2 a b, Int.mul_assoc 2 (a * b) c]
    omega
  exact und
theorem rw_162 {b : Bool} {A : Nat → Nat} {h0 : g_H} {d : Nat} {M : xa_M} {post : Option xa_V → xa_M → Prop} {l1 u1 l2 u2 l3 u3 l4 u4 x1 x2 x3 x4 : Int} (k : ∀ (r : Int) (M1 : xa_M), (∀ (q : Nat) (j : Int), ¬ (q = 48 ∨ q = 49) → M1 q j = M q j) → rw_k (rz_sl x1 x2 x3 x4) (M 48 1) (M 49) (M1 48 1) (M1 49) 2 (fun V => V = rw_v (rw_f2 (rw_slU x1 x2 x3 x4) (rw_slD x1 x2 x3 x4))) → post (some (0, 0, (-1), 2, r)) M1) : xa_C (xl_I b) A h0 (d + 4) 162 [(2, 0, 0, 0, 0), (0, 0, l1, u1, x1), (0, 0, l2, u2, x2), (0, 0, l3, u3, x3), (0, 0, l4, u4, x4)] M post := by
  refine xa_C_wk ?_
  by_cases h4 : 1 ≤ x4 ∧ x4 ≤ 20
  case neg =>
    refine xa_C_arg [(2, 0, 0, 0, 0), (0, 0, (-2147483648), 2147483647, x1), (0, 0, (-2147483648), 2147483647, x2), (0, 0, (-2147483648), 2147483647, x3), (0, 0, (-2147483648), 2147483647, x4)] (xa_svR (xa_svI (fun _ _ _ _ => by omega) (xa_svI (fun _ _ _ _ => by omega) (xa_svI (fun _ _ _ _ => by omega) (xa_svI (fun _ _ _ _ => by omega) xa_sv0))))) ?_
    refine xa_meth (Q0 := (9, 1, false, 0, 0, 11)) (by decide +kernel) ⟨rfl, rfl⟩ (full := s_c_162) rfl rfl ?_
    intro hM hv Q hgo
    refine hgo.1 76 [] 0 _ _ _ ?_
    refine And.intro ?_ ?_
    · intro (c1 : x1 < 0)
      show xa_wk post (some (0, 0, (-1), (-1), (-1))) M
      exact xa_wkI (-1) rfl (fun _ _ => by omega) (k _ _ (fun _ _ _ => rfl) (rw_no (by unfold rz_sl; omega) rfl (fun _ _ _ => rfl)))
    · intro (c1 : 0 ≤ x1)
      refine And.intro ?_ ?_
      · intro (c2 : 99 < x1)
        show xa_wk post (some (0, 0, (-1), (-1), (-1))) M
        exact xa_wkI (-1) rfl (fun _ _ => by omega) (k _ _ (fun _ _ _ => rfl) (rw_no (by unfold rz_sl; omega) rfl (fun _ _ _ => rfl)))
      · intro (c2 : x1 ≤ 99)
        refine And.intro ?_ ?_
        · intro (c3 : x2 ≤ x1)
          show xa_wk post (some (0, 0, (-1), (-1), (-1))) M
          exact xa_wkI (-1) rfl (fun _ _ => by omega) (k _ _ (fun _ _ _ => rfl) (rw_no (by unfold rz_sl; omega) rfl (fun _ _ _ => rfl)))
        · intro (c3 : x1 < x2)
          refine And.intro ?_ ?_
          · intro (c4 : 100 < x2)
            show xa_wk post (some (0, 0, (-1), (-1), (-1))) M
            exact xa_wkI (-1) rfl (fun _ _ => by omega) (k _ _ (fun _ _ _ => rfl) (rw_no (by unfold rz_sl; omega) rfl (fun _ _ _ => rfl)))
          · intro (c4 : x2 ≤ 100)
            refine And.intro ?_ ?_
            · intro (c5 : x4 < 1)
              show xa_wk post (some (0, 0, (-1), (-1), (-1))) M
              exact xa_wkI (-1) rfl (fun _ _ => by omega) (k _ _ (fun _ _ _ => rfl) (rw_no (by unfold rz_sl; omega) rfl (fun _ _ _ => rfl)))
            · intro (c5 : 1 ≤ x4)
              refine And.intro ?_ ?_
              · intro (c6 : 20 < x4)
                show xa_wk post (some (0, 0, (-1), (-1), (-1))) M
                exact xa_wkI (-1) rfl (fun _ _ => by omega) (k _ _ (fun _ _ _ => rfl) (rw_no (by unfold rz_sl; omega) rfl (fun _ _ _ => rfl)))
              · intro (c6 : x4 ≤ 20)
                exfalso; omega
  refine xa_C_arg [(2, 0, 0, 0, 0), (0, 0, (-2147483648), 2147483647, x1), (0, 0, (-2147483648), 2147483647, x2), (0, 0, (-2147483648), 2147483647, x3), (0, 0, 1, 20, x4)] (xa_svR (xa_svI (fun _ _ _ _ => by omega) (xa_svI (fun _ _ _ _ => by omega) (xa_svI (fun _ _ _ _ => by omega) (xa_svI (fun _ _ _ _ => by omega) xa_sv0))))) ?_
  refine xa_meth (Q0 := (9, 1, false, 0, 0, 11)) (by decide +kernel) ⟨rfl, rfl⟩ (full := s_c_162) rfl rfl ?_
  intro hM hv Q hgo
  refine hgo.1 76 [] 0 _ _ _ ?_
  refine And.intro ?_ ?_
  · intro (c1 : x1 < 0)
    show xa_wk post (some (0, 0, (-1), (-1), (-1))) M
    exact xa_wkI (-1) rfl (fun _ _ => by omega) (k _ _ (fun _ _ _ => rfl) (rw_no (by unfold rz_sl; omega) rfl (fun _ _ _ => rfl)))
  · intro (c1 : 0 ≤ x1)
    refine And.intro ?_ ?_
    · intro (c2 : 99 < x1)
      show xa_wk post (some (0, 0, (-1), (-1), (-1))) M
      exact xa_wkI (-1) rfl (fun _ _ => by omega) (k _ _ (fun _ _ _ => rfl) (rw_no (by unfold rz_sl; omega) rfl (fun _ _ _ => rfl)))
    · intro (c2 : x1 ≤ 99)
      refine And.intro ?_ ?_
      · intro (c3 : x2 ≤ x1)
        show xa_wk post (some (0, 0, (-1), (-1), (-1))) M
        exact xa_wkI (-1) rfl (fun _ _ => by omega) (k _ _ (fun _ _ _ => rfl) (rw_no (by unfold rz_sl; omega) rfl (fun _ _ _ => rfl)))
      · intro (c3 : x1 < x2)
        refine And.intro ?_ ?_
        · intro (c4 : 100 < x2)
          show xa_wk post (some (0, 0, (-1), (-1), (-1))) M
          exact xa_wkI (-1) rfl (fun _ _ => by omega) (k _ _ (fun _ _ _ => rfl) (rw_no (by unfold rz_sl; omega) rfl (fun _ _ _ => rfl)))
        · intro (c4 : x2 ≤ 100)
          refine And.intro ?_ ?_
          · intro (c5 : x3 < (-x4))
            show xa_wk post (some (0, 0, (-1), (-1), (-1))) M
            exact xa_wkI (-1) rfl (fun _ _ => by omega) (k _ _ (fun _ _ _ => rfl) (rw_no (by unfold rz_sl; omega) rfl (fun _ _ _ => rfl)))
          · intro (c5 : (-x4) ≤ x3)
            refine And.intro ?_ ?_
            · intro (c6 : x3 ≤ x4)
              show xa_C (xl_I b) A h0 _ 59 [(2, 48, 0, 0, 0)] M _
              refine rw_59n (N := M) (fun _ _ _ => rfl) ?_
              intro M104 (i7 : ∀ (q : Nat) (j : Int), ¬ (q = 48 ∨ q = 49) → M104 q j = M q j) (i8 : M104 48 1 = 0) (tM104 : rw_T (M104 49) [])
              have u0 := rz_mb (p := x2) (q := x4) (A := 100) (B := 20) (by omega) (by omega) (by omega) (by omega)
              have u1 := rz_mb (p := x1) (q := x3) (A := 99) (B := 20) (by omega) (by omega) (by omega) (by omega)
              have u2 := rz_mb (p := x2) (q := x2) (A := 100) (B := 100) (by omega) (by omega) (by omega) (by omega)
              have u3 := rz_mb (p := x1) (q := x1) (A := 99) (B := 99) (by omega) (by omega) (by omega) (by omega)
              have u4 := xa_w32_id (n := x2 * x4) (by omega) (by omega)
              have u5 := xa_w32_id (n := x1 * x3) (by omega) (by omega)
              have u6 := xa_w32_id (n := xa_w32 (x2 * x4) - xa_w32 (x1 * x3)) (by omega) (by omega)
              have u7 := rz_mb (p := x2) (q := xa_w32 (xa_w32 (x2 * x4) - xa_w32 (x1 * x3))) (A := 100) (B := 4000) (by omega) (by omega) (by omega) (by omega)
              have u8 := xa_w32_id (n := x2 * x2) (by omega) (by omega)
              have u9 := xa_w32_id (n := x1 * x1) (by omega) (by omega)
              have u10 := xa_w32_id (n := xa_w32 (x2 * x2) + xa_w32 (x1 * x1)) (by omega) (by omega)
              have u11 := rz_mb (p := x4) (q := xa_w32 (xa_w32 (x2 * x2) + xa_w32 (x1 * x1))) (A := 20) (B := 20000) (by omega) (by omega) (by omega) (by omega)
              have u12 := rz_mb (p := 2 * x1) (q := x2) (A := 198) (B := 100) (by omega) (by omega) (by omega) (by omega)
              have u13 := xa_w64_id (n := 2 * x1 * x2) (by omega) (by omega)
              have u14 := rz_mb (p := xa_w64 (2 * x1 * x2)) (q := x3) (A := 19800) (B := 20) (by omega) (by omega) (by omega) (by omega)
              have u15 := xa_w64_id (n := xa_w64 (2 * x1 * x2) * x3) (by omega) (by omega)
              have u16 := xa_w64_id (n := x4 * xa_w32 (xa_w32 (x2 * x2) + xa_w32 (x1 * x1)) - xa_w64 (xa_w64 (2 * x1 * x2) * x3)) (by omega) (by omega)
              have u17 := xa_w64_id (n := x2 * xa_w32 (xa_w32 (x2 * x4) - xa_w32 (x1 * x3)) - xa_w64 (x4 * xa_w32 (xa_w32 (x2 * x2) + xa_w32 (x1 * x1)) - xa_w64 (xa_w64 (2 * x1 * x2) * x3))) (by omega) (by omega)
              have ex : x2 * xa_w32 (xa_w32 (x2 * x4) - xa_w32 (x1 * x3)) = rw_slU x1 x2 x3 x4 := by rw [u6, u4, u5, rw_sl1]
              have ey : xa_w64 (x4 * xa_w32 (xa_w32 (x2 * x2) + xa_w32 (x1 * x1)) - xa_w64 (xa_w64 (2 * x1 * x2) * x3)) = rw_slD x1 x2 x3 x4 := by rw [u16, u10, u8, u9, u15, u13, rw_sl2]
              have uy : 1 ≤ xa_w64 (x4 * xa_w32 (xa_w32 (x2 * x2) + xa_w32 (x1 * x1)) - xa_w64 (xa_w64 (2 * x1 * x2) * x3)) := by rw [ey]; exact rw_und (by omega) (by omega) (by omega) (by omega) (by omega) (by omega) (by omega)
              show xa_C (xl_I b) A h0 _ 71 [(2, 48, 0, 0, 0), (1, 0, (-4611686016279904256), 4611686018427387904, x2 * (xa_w32 ((xa_w32 (x2 * x4)) - (xa_w32 (x1 * x3))))), (1, 0, (-9223372036854775808), 9223372036854775807, xa_w64 ((x4 * (xa_w32 ((xa_w32 (x2 * x2)) + (xa_w32 (x1 * x1))))) - (xa_w64 ((xa_w64 ((2 * x1) * x2)) * x3))))] M104 _
              refine rw_71n (N := M) (c := 0) (e := 2) (l := []) (by assumption) (by assumption) rfl tM104 (by decide) (by omega) (by omega) ?_
              intro M105 (i9 : ∀ (q : Nat) (j : Int), ¬ (q = 48 ∨ q = 49) → M105 q j = M q j) (i10 : M105 48 1 = 2) (tM105 : rw_T (M105 49) [(x2 * (xa_w32 ((xa_w32 (x2 * x4)) - (xa_w32 (x1 * x3))))).tdiv (Int.gcd (x2 * (xa_w32 ((xa_w32 (x2 * x4)) - (xa_w32 (x1 * x3))))) (xa_w64 ((x4 * (xa_w32 ((xa_w32 (x2 * x2)) + (xa_w32 (x1 * x1))))) - (xa_w64 ((xa_w64 ((2 * x1) * x2)) * x3)))) : Int), (xa_w64 ((x4 * (xa_w32 ((xa_w32 (x2 * x2)) + (xa_w32 (x1 * x1))))) - (xa_w64 ((xa_w64 ((2 * x1) * x2)) * x3)))).tdiv (Int.gcd (x2 * (xa_w32 ((xa_w32 (x2 * x4)) - (xa_w32 (x1 * x3))))) (xa_w64 ((x4 * (xa_w32 ((xa_w32 (x2 * x2)) + (xa_w32 (x1 * x1))))) - (xa_w64 ((xa_w64 ((2 * x1) * x2)) * x3)))) : Int)])
              show xa_C (xl_I b) A h0 _ 131 [(1, 0, (-9223372036854775808), 9223372036854775807, xa_w64 ((x2 * (xa_w32 ((xa_w32 (x2 * x4)) - (xa_w32 (x1 * x3))))) - (xa_w64 ((x4 * (xa_w32 ((xa_w32 (x2 * x2)) + (xa_w32 (x1 * x1))))) - (xa_w64 ((xa_w64 ((2 * x1) * x2)) * x3))))))] M105 _
              refine cx_131n (by omega) ?_
              intro r106 (i11 : nr_s (xa_w64 ((x2 * (xa_w32 ((xa_w32 (x2 * x4)) - (xa_w32 (x1 * x3))))) - (xa_w64 ((x4 * (xa_w32 ((xa_w32 (x2 * x2)) + (xa_w32 (x1 * x1))))) - (xa_w64 ((xa_w64 ((2 * x1) * x2)) * x3)))))) r106)
              show xa_wk post (some (0, 0, 0, 2, r106)) M105
              exact xa_wkI _ rfl (fun _ _ => by omega) (k _ _ i9 (rw_yes (V := rw_v (rw_f2 (rw_slU x1 x2 x3 x4) (rw_slD x1 x2 x3 x4))) (by unfold rz_sl; omega) i10 (fun i i0 i1 => by have q := tM105 i i0 i1; rw [ex, ey] at q; exact q) rfl))
            · intro (c6 : x4 < x3)
              show xa_wk post (some (0, 0, (-1), (-1), (-1))) M
              exact xa_wkI (-1) rfl (fun _ _ => by omega) (k _ _ (fun _ _ _ => rfl) (rw_no (by unfold rz_sl; omega) rfl (fun _ _ _ => rfl)))
theorem rw_163 {b : Bool} {A : Nat → Nat} {h0 : g_H} {d : Nat} {M : xa_M} {post : Option xa_V → xa_M → Prop} {l1 u1 l2 u2 x1 x2 : Int} (k : ∀ (r : Int) (M1 : xa_M), (∀ (q : Nat) (j : Int), ¬ (q = 48 ∨ q = 49) → M1 q j = M q j) → rw_k (rz_un x1 x2) (M 48 1) (M 49) (M1 48 1) (M1 49) 2 (rw_s163 x1 x2) → post (some (0, 0, (-1), 99, r)) M1) : xa_C (xl_I b) A h0 (d + 4) 163 [(2, 0, 0, 0, 0), (0, 0, l1, u1, x1), (0, 0, l2, u2, x2)] M post := by
  refine xa_C_wk ?_
  refine xa_C_arg [(2, 0, 0, 0, 0), (0, 0, (-2147483648), 2147483647, x1), (0, 0, (-2147483648), 2147483647, x2)] (xa_svR (xa_svI (fun _ _ _ _ => by omega) (xa_svI (fun _ _ _ _ => by omega) xa_sv0))) ?_
  refine xa_meth (Q0 := (9, 1, false, 0, 0, 11)) (by decide +kernel) ⟨rfl, rfl⟩ (full := s_c_163) rfl rfl ?_
  intro hM hv Q hgo
  have loop : (1 ≤ x1 ∧ x1 ≤ 1000) → (1 ≤ x2 ∧ x2 ≤ 1000) → x2 ≤ x1 → ∀ (f : Nat) (ta tb : Int), 1 ≤ ta ∧ ta ≤ 100 → 0 ≤ tb ∧ tb ≤ 99 → tb = rw_ub x1 x2 (ta - 1).toNat → 100 - ta < (f : Int) → Q 36 [(4, (0, 0, 1, 100, ta)), (3, (0, 0, 0, 99, tb)), (0, (2, 0, 0, 0, 0)), (1, (0, 0, 1, 1000, x1)), (2, (0, 0, 1, 1000, x2))] [] M := by
    intro z1 z2 z3 f
    induction f with
    | zero => intro ta tb a1 b1 hT hms; omega
    | succ f ih =>
      intro ta tb a1 b1 hT hms
      refine hgo.1 60 [36] 36 _ _ _ ?_
      refine And.intro ?_ ?_
      · intro (c1 : 100 ≤ ta)
        show xa_C (xl_I b) A h0 _ 59 [(2, 48, 0, 0, 0)] M _
        refine rw_59n (N := M) (fun _ _ _ => rfl) ?_
        intro M107 (i2 : ∀ (q : Nat) (j : Int), ¬ (q = 48 ∨ q = 49) → M107 q j = M q j) (i3 : M107 48 1 = 0) (tM107 : rw_T (M107 49) [])
        show xa_C (xl_I b) A h0 _ 71 [(2, 48, 0, 0, 0), (1, 0, 100, 199, 100 + tb), (1, 0, 1, 100, 100 - tb)] M107 _
        refine rw_71n (N := M) (c := 0) (e := 2) (l := []) (by assumption) (by assumption) rfl tM107 (by decide) (by omega) (by omega) ?_
        intro M108 (i4 : ∀ (q : Nat) (j : Int), ¬ (q = 48 ∨ q = 49) → M108 q j = M q j) (i5 : M108 48 1 = 2) (tM108 : rw_T (M108 49) [(100 + tb).tdiv (Int.gcd (100 + tb) (100 - tb) : Int), (100 - tb).tdiv (Int.gcd (100 + tb) (100 - tb) : Int)])
        show xa_wk post (some (0, 0, 0, 99, tb)) M108
        exact xa_wkI _ rfl (fun _ _ => by omega) (k _ _ i4 (rw_yes (V := rw_v (rw_f2 (100 + tb) (100 - tb))) (by unfold rz_un; omega) i5 (fun i i0 i1 => tM108 i i0 i1) (rw_s163_of (by rw [show (ta - 1).toNat = 99 by omega] at hT; exact hT))))
      · intro (c1 : ta < 100)
        show xa_C (xl_I b) A h0 _ 56 [(1, 0, (-98899), 200000, ((100 + ta) * x2) - ((100 - ta) * x1))] M _
        refine ct_absb 200000 (by decide) (by decide) (by decide) ?_
        intro r109 (i6 : r109 = ((((100 + ta) * x2) - ((100 - ta) * x1)).natAbs : Int))
        show xa_C (xl_I b) A h0 _ 56 [(1, 0, (-99900), 198999, ((100 + tb) * x2) - ((100 - tb) * x1))] M _
        refine ct_absb 200000 (by decide) (by decide) (by decide) ?_
        intro r110 (i7 : r110 = ((((100 + tb) * x2) - ((100 - tb) * x1)).natAbs : Int))
        refine And.intro ?_ ?_
        · intro (c8 : (r110 * (100 - ta)) ≤ (r109 * (100 - tb)))
          show Q 36 [(4, (0, 0, 2, 101, ta + 1)), (3, (0, 0, 0, 99, tb)), (7, (1, 0, 0, 200000, r110)), (5, (1, 0, 0, 200000, r109)), (0, (2, 0, 0, 0, 0)), (1, (0, 0, 1, 1000, x1)), (2, (0, 0, 1, 1000, x2))] [] M
          refine hgo.2.1 36 _ [(4, (0, 0, 1, 100, ta + 1)), (3, (0, 0, 0, 99, tb)), (0, (2, 0, 0, 0, 0)), (1, (0, 0, 1, 1000, x1)), (2, (0, 0, 1, 1000, x2))] _ _ (xa_subI rfl rfl (fun _ _ _ _ => by omega) (xa_subI rfl rfl (fun _ _ _ _ => by omega) (xa_subR rfl (xa_subI rfl rfl (fun _ _ _ _ => by omega) (xa_subI rfl rfl (fun _ _ _ _ => by omega) (xa_sub0)))))) ?_
          exact ih (ta + 1) tb (by omega) (by omega) (rw_ubn a1.1 hT (by unfold rw_h; rw [← i6, ← i7]; exact c8)) (by omega)
        · intro (c8 : (r109 * (100 - tb)) < (r110 * (100 - ta)))
          show Q 36 [(4, (0, 0, 2, 101, ta + 1)), (3, (0, 0, 1, 100, ta)), (7, (1, 0, 0, 200000, r110)), (5, (1, 0, 0, 200000, r109)), (0, (2, 0, 0, 0, 0)), (1, (0, 0, 1, 1000, x1)), (2, (0, 0, 1, 1000, x2))] [] M
          refine hgo.2.1 36 _ [(4, (0, 0, 1, 100, ta + 1)), (3, (0, 0, 0, 99, ta)), (0, (2, 0, 0, 0, 0)), (1, (0, 0, 1, 1000, x1)), (2, (0, 0, 1, 1000, x2))] _ _ (xa_subI rfl rfl (fun _ _ _ _ => by omega) (xa_subI rfl rfl (fun _ _ _ _ => by omega) (xa_subR rfl (xa_subI rfl rfl (fun _ _ _ _ => by omega) (xa_subI rfl rfl (fun _ _ _ _ => by omega) (xa_sub0)))))) ?_
          exact ih (ta + 1) ta (by omega) (by omega) (rw_uby a1.1 hT (by unfold rw_h; rw [← i6, ← i7]; exact c8)) (by omega)
  refine hgo.1 24 [36] 0 _ _ _ ?_
  refine And.intro ?_ ?_
  · intro (c1 : x1 < 1)
    show xa_wk post (some (0, 0, (-1), (-1), (-1))) M
    exact xa_wkI (-1) rfl (fun _ _ => by omega) (k _ _ (fun _ _ _ => rfl) (rw_no (by unfold rz_un; omega) rfl (fun _ _ _ => rfl)))
  · intro (c1 : 1 ≤ x1)
    refine And.intro ?_ ?_
    · intro (c2 : 1000 < x1)
      show xa_wk post (some (0, 0, (-1), (-1), (-1))) M
      exact xa_wkI (-1) rfl (fun _ _ => by omega) (k _ _ (fun _ _ _ => rfl) (rw_no (by unfold rz_un; omega) rfl (fun _ _ _ => rfl)))
    · intro (c2 : x1 ≤ 1000)
      refine And.intro ?_ ?_
      · intro (c3 : x2 < 1)
        show xa_wk post (some (0, 0, (-1), (-1), (-1))) M
        exact xa_wkI (-1) rfl (fun _ _ => by omega) (k _ _ (fun _ _ _ => rfl) (rw_no (by unfold rz_un; omega) rfl (fun _ _ _ => rfl)))
      · intro (c3 : 1 ≤ x2)
        refine And.intro ?_ ?_
        · intro (c4 : 1000 < x2)
          show xa_wk post (some (0, 0, (-1), (-1), (-1))) M
          exact xa_wkI (-1) rfl (fun _ _ => by omega) (k _ _ (fun _ _ _ => rfl) (rw_no (by unfold rz_un; omega) rfl (fun _ _ _ => rfl)))
        · intro (c4 : x2 ≤ 1000)
          refine And.intro ?_ ?_
          · intro (c5 : x2 ≤ x1)
            show Q 36 [(4, (0, 0, 1, 1, 1)), (3, (0, 0, 0, 0, 0)), (0, (2, 0, 0, 0, 0)), (1, (0, 0, (-2147483648), 2147483647, x1)), (2, (0, 0, (-2147483648), 2147483647, x2))] [] M
            refine hgo.2.1 36 _ [(4, (0, 0, 1, 100, 1)), (3, (0, 0, 0, 99, 0)), (0, (2, 0, 0, 0, 0)), (1, (0, 0, 1, 1000, x1)), (2, (0, 0, 1, 1000, x2))] _ _ (xa_subI rfl rfl (fun _ _ _ _ => by omega) (xa_subI rfl rfl (fun _ _ _ _ => by omega) (xa_subR rfl (xa_subI rfl rfl (fun _ _ _ _ => by omega) (xa_subI rfl rfl (fun _ _ _ _ => by omega) (xa_sub0)))))) ?_
            exact loop ⟨by omega, by omega⟩ ⟨by omega, by omega⟩ (by omega) 100 1 0 (by omega) (by omega) rfl (by omega)
          · intro (c5 : x1 < x2)
            show xa_wk post (some (0, 0, (-1), (-1), (-1))) M
            exact xa_wkI (-1) rfl (fun _ _ => by omega) (k _ _ (fun _ _ _ => rfl) (rw_no (by unfold rz_un; omega) rfl (fun _ _ _ => rfl)))
theorem rw_m162 {A : Nat → Nat} {h0 : g_H} {d : Nat} {M : xa_M} {post : Option xa_V → xa_M → Prop} {l1 u1 l2 u2 l3 u3 l4 u4 : Int} {a b c e : Int} (hI : xm_Inv M) (k : ∀ (o : Option xa_V) (M1 : xa_M), (∃ lo hi n, o = some (0, 0, lo, hi, n)) → xm_cor M M1 → rw_k (rz_sl a b c e) (M 60 20) (M 74) (M1 60 20) (M1 74) 2 (fun V => V = rw_v (rw_f2 (rw_slU a b c e) (rw_slD a b c e))) → post o M1) : xa_C xm_I A h0 (d + 4) 270 [(2, 60, 0, 0, 0), (0, 0, l1, u1, a), (0, 0, l2, u2, b), (0, 0, l3, u3, c), (0, 0, l4, u4, e)] M post := by
  refine xa_C_arg [(2, 60, 0, 0, 0), (0, 0, (-2147483648), 2147483647, a), (0, 0, (-2147483648), 2147483647, b), (0, 0, (-2147483648), 2147483647, c), (0, 0, (-2147483648), 2147483647, e)] (xa_svR (xa_svI (fun _ _ _ _ => by omega) (xa_svI (fun _ _ _ _ => by omega) (xa_svI (fun _ _ _ _ => by omega) (xa_svI (fun _ _ _ _ => by omega) xa_sv0))))) ?_
  refine xa_meth (Q0 := (9, 1, false, 0, 0, 12)) (by decide +kernel) ⟨rfl, rfl⟩ (full := s_c_270) rfl rfl ?_
  intro hM hv Q hgo
  have und : 0 ≤ a → a < b → b ≤ 100 → 1 ≤ e → e ≤ 20 → -e ≤ c → c ≤ e → 1 ≤ b * b * e - 2 * a * b * c + a * a * e := by
    intro h1 h2 h3 h4 h5 h6 h7
    have hab : 0 ≤ a * b := Int.mul_nonneg h1 (by omega)
    have k1 : a * b * c ≤ a * b * e := Int.mul_le_mul_of_nonneg_left h7 hab
    have k2 : 1 ≤ (b - a) * (b - a) := (xm_mulp (p := b - a) (q := b - a) (a := 100) (b := 100) (by omega) (by omega) (by omega) (by omega)).1
    have k3 : 1 ≤ (b - a) * (b - a) * e := by
      have := Int.mul_pos (show 0 < (b - a) * (b - a) by omega) (show 0 < e by omega)
      omega
    have k4 : (b - a) * (b - a) * e = b * b * e - 2 * (a * b * e) + a * a * e := by
      simp only [Int.sub_mul, Int.mul_sub, Int.mul_comm b a]
      omega
    have k5 : 2 * a * b * c = 2 * (a * b * c) := by
      rw [Int.mul_assoc 2 a b, Int.mul_assoc 2 (a * b) c]
    omega
  refine hgo.1 25 [37] 0 _ _ _ ?_
  show xa_C xm_I A h0 _ 214 [(0, 0, (-2147483648), 2147483647, a), (0, 0, 0, 0, 0), (0, 0, 99, 99, 99)] (xa_up M 60 21 0) _
  refine ct_in ?_ ?_
  · intro (i1 : 0 ≤ a ∧ a ≤ 99)
    refine And.intro ?_ ?_
    · intro (c2 : b ≤ a)
      show post (some (0, 0, (-1), (-1), (-1))) (xa_up M 60 21 0)
      exact k _ _ ⟨_, _, _, rfl⟩ (xm_cor_f (by omega) xm_cor_r) (rw_no (by unfold rz_sl; omega) (xa_up_ne (by omega)) (fun i _ _ => xa_up_ne (by omega)))
    · intro (c2 : a < b)
      refine And.intro ?_ ?_
      · intro (c3 : 100 < b)
        show post (some (0, 0, (-1), (-1), (-1))) (xa_up M 60 21 0)
        exact k _ _ ⟨_, _, _, rfl⟩ (xm_cor_f (by omega) xm_cor_r) (rw_no (by unfold rz_sl; omega) (xa_up_ne (by omega)) (fun i _ _ => xa_up_ne (by omega)))
      · intro (c3 : b ≤ 100)
        show xa_C xm_I A h0 _ 214 [(0, 0, (-2147483648), 2147483647, e), (0, 0, 1, 1, 1), (0, 0, 20, 20, 20)] (xa_up M 60 21 0) _
        refine ct_in ?_ ?_
        · intro (i4 : 1 ≤ e ∧ e ≤ 20)
          show Q 37 [(0, (2, 60, 0, 0, 0)), (1, (0, 0, (-2147483648), 2147483647, a)), (2, (0, 0, (-2147483648), 2147483647, b)), (3, (0, 0, (-2147483648), 2147483647, c)), (4, (0, 0, (-2147483648), 2147483647, e))] [] (xa_up M 60 21 0)
          refine hgo.2.1 37 _ [(0, (2, 60, 0, 0, 0)), (1, (0, 0, (-2147483648), 2147483647, a)), (2, (0, 0, (-2147483648), 2147483647, b)), (3, (0, 0, (-2147483648), 2147483647, c)), (4, (0, 0, 1, 20, e))] _ _ (xa_subR rfl (xa_subI rfl rfl (fun _ _ _ _ => by omega) (xa_subI rfl rfl (fun _ _ _ _ => by omega) (xa_subI rfl rfl (fun _ _ _ _ => by omega) (xa_subI rfl rfl (fun _ _ _ _ => by omega) xa_sub0))))) ?_
          refine hgo.1 12 [51] 37 _ _ _ ?_
          show xa_C xm_I A h0 _ 214 [(0, 0, (-2147483648), 2147483647, c), (0, 0, (-20), (-1), -e), (0, 0, 1, 20, e)] (xa_up M 60 21 0) _
          refine ct_in ?_ ?_
          · intro (i105 : (-e) ≤ c ∧ c ≤ e)
            show Q 51 [(0, (2, 60, 0, 0, 0)), (1, (0, 0, (-2147483648), 2147483647, a)), (2, (0, 0, (-2147483648), 2147483647, b)), (3, (0, 0, (-2147483648), 2147483647, c)), (4, (0, 0, 1, 20, e))] [] (xa_up M 60 21 0)
            refine hgo.2.1 51 _ [(0, (2, 60, 0, 0, 0)), (1, (0, 0, 0, 99, a)), (2, (0, 0, 1, 100, b)), (3, (0, 0, (-20), 20, c)), (4, (0, 0, 1, 20, e))] _ _ (xa_subR rfl (xa_subI rfl rfl (fun _ _ _ _ => by omega) (xa_subI rfl rfl (fun _ _ _ _ => by omega) (xa_subI rfl rfl (fun _ _ _ _ => by omega) (xa_subI rfl rfl (fun _ _ _ _ => by omega) xa_sub0))))) ?_
            have und1 := und (by omega) (by omega) (by omega) (by omega) (by omega) (by omega) (by omega)
            refine hgo.1 10 [56, 60, 65, 68, 69, 76, 80, 86, 89, 92, 93, 98, 102, 103] 51 _ _ _ ?_
            show Q 56 [(0, (2, 60, 0, 0, 0)), (1, (0, 0, 0, 99, a)), (2, (0, 0, 1, 100, b)), (3, (0, 0, (-20), 20, c)), (4, (0, 0, 1, 20, e))] [(1, 0, 1, 10000, b * b)] (xa_up M 60 21 0)
            refine hgo.1 8 [56, 60, 65, 68, 69, 76, 80, 86, 89, 92, 93, 98, 102, 103] 56 _ _ _ ?_
            show Q 60 [(0, (2, 60, 0, 0, 0)), (1, (0, 0, 0, 99, a)), (2, (0, 0, 1, 100, b)), (3, (0, 0, (-20), 20, c)), (4, (0, 0, 1, 20, e))] [(1, 0, 1, 200000, (b * b) * e)] (xa_up M 60 21 0)
            refine hgo.1 10 [56, 60, 65, 68, 69, 76, 80, 86, 89, 92, 93, 98, 102, 103] 60 _ _ _ ?_
            show Q 65 [(0, (2, 60, 0, 0, 0)), (1, (0, 0, 0, 99, a)), (2, (0, 0, 1, 100, b)), (3, (0, 0, (-20), 20, c)), (4, (0, 0, 1, 20, e))] [(1, 0, 0, 9900, a * b), (1, 0, 1, 200000, (b * b) * e)] (xa_up M 60 21 0)
            refine hgo.1 8 [56, 60, 65, 68, 69, 76, 80, 86, 89, 92, 93, 98, 102, 103] 65 _ _ _ ?_
            show Q 68 [(0, (2, 60, 0, 0, 0)), (1, (0, 0, 0, 99, a)), (2, (0, 0, 1, 100, b)), (3, (0, 0, (-20), 20, c)), (4, (0, 0, 1, 20, e))] [(1, 0, (-198000), 198000, (a * b) * c), (1, 0, 1, 200000, (b * b) * e)] (xa_up M 60 21 0)
            refine hgo.1 6 [56, 60, 65, 68, 69, 76, 80, 86, 89, 92, 93, 98, 102, 103] 68 _ _ _ ?_
            show Q 69 [(0, (2, 60, 0, 0, 0)), (1, (0, 0, 0, 99, a)), (2, (0, 0, 1, 100, b)), (3, (0, 0, (-20), 20, c)), (4, (0, 0, 1, 20, e))] [(1, 0, (-197999), 398000, ((b * b) * e) - ((a * b) * c))] (xa_up M 60 21 0)
            refine hgo.1 11 [56, 60, 65, 68, 69, 76, 80, 86, 89, 92, 93, 98, 102, 103] 69 _ _ _ ?_
            show Q 76 [(5, (1, 0, (-197999), 398000, ((b * b) * e) - ((a * b) * c))), (0, (2, 60, 0, 0, 0)), (1, (0, 0, 0, 99, a)), (2, (0, 0, 1, 100, b)), (3, (0, 0, (-20), 20, c)), (4, (0, 0, 1, 20, e))] [(1, 0, 1, 10000, b * b)] (xa_up M 60 21 0)
            refine hgo.1 8 [56, 60, 65, 68, 69, 76, 80, 86, 89, 92, 93, 98, 102, 103] 76 _ _ _ ?_
            show Q 80 [(5, (1, 0, (-197999), 398000, ((b * b) * e) - ((a * b) * c))), (0, (2, 60, 0, 0, 0)), (1, (0, 0, 0, 99, a)), (2, (0, 0, 1, 100, b)), (3, (0, 0, (-20), 20, c)), (4, (0, 0, 1, 20, e))] [(1, 0, 1, 200000, (b * b) * e)] (xa_up M 60 21 0)
            refine hgo.1 9 [56, 60, 65, 68, 69, 76, 80, 86, 89, 92, 93, 98, 102, 103] 80 _ _ _ ?_
            show Q 86 [(5, (1, 0, (-197999), 398000, ((b * b) * e) - ((a * b) * c))), (0, (2, 60, 0, 0, 0)), (1, (0, 0, 0, 99, a)), (2, (0, 0, 1, 100, b)), (3, (0, 0, (-20), 20, c)), (4, (0, 0, 1, 20, e))] [(1, 0, 0, 198, 2 * a), (1, 0, 1, 200000, (b * b) * e)] (xa_up M 60 21 0)
            refine hgo.1 8 [56, 60, 65, 68, 69, 76, 80, 86, 89, 92, 93, 98, 102, 103] 86 _ _ _ ?_
            show Q 89 [(5, (1, 0, (-197999), 398000, ((b * b) * e) - ((a * b) * c))), (0, (2, 60, 0, 0, 0)), (1, (0, 0, 0, 99, a)), (2, (0, 0, 1, 100, b)), (3, (0, 0, (-20), 20, c)), (4, (0, 0, 1, 20, e))] [(1, 0, 0, 19800, (2 * a) * b), (1, 0, 1, 200000, (b * b) * e)] (xa_up M 60 21 0)
            refine hgo.1 8 [56, 60, 65, 68, 69, 76, 80, 86, 89, 92, 93, 98, 102, 103] 89 _ _ _ ?_
            show Q 92 [(5, (1, 0, (-197999), 398000, ((b * b) * e) - ((a * b) * c))), (0, (2, 60, 0, 0, 0)), (1, (0, 0, 0, 99, a)), (2, (0, 0, 1, 100, b)), (3, (0, 0, (-20), 20, c)), (4, (0, 0, 1, 20, e))] [(1, 0, (-396000), 396000, ((2 * a) * b) * c), (1, 0, 1, 200000, (b * b) * e)] (xa_up M 60 21 0)
            refine hgo.1 6 [56, 60, 65, 68, 69, 76, 80, 86, 89, 92, 93, 98, 102, 103] 92 _ _ _ ?_
            show Q 93 [(5, (1, 0, (-197999), 398000, ((b * b) * e) - ((a * b) * c))), (0, (2, 60, 0, 0, 0)), (1, (0, 0, 0, 99, a)), (2, (0, 0, 1, 100, b)), (3, (0, 0, (-20), 20, c)), (4, (0, 0, 1, 20, e))] [(1, 0, (-395999), 596000, ((b * b) * e) - (((2 * a) * b) * c))] (xa_up M 60 21 0)
            refine hgo.1 10 [56, 60, 65, 68, 69, 76, 80, 86, 89, 92, 93, 98, 102, 103] 93 _ _ _ ?_
            show Q 98 [(5, (1, 0, (-197999), 398000, ((b * b) * e) - ((a * b) * c))), (0, (2, 60, 0, 0, 0)), (1, (0, 0, 0, 99, a)), (2, (0, 0, 1, 100, b)), (3, (0, 0, (-20), 20, c)), (4, (0, 0, 1, 20, e))] [(1, 0, 0, 9801, a * a), (1, 0, (-395999), 596000, ((b * b) * e) - (((2 * a) * b) * c))] (xa_up M 60 21 0)
            refine hgo.1 8 [56, 60, 65, 68, 69, 76, 80, 86, 89, 92, 93, 98, 102, 103] 98 _ _ _ ?_
            show Q 102 [(5, (1, 0, (-197999), 398000, ((b * b) * e) - ((a * b) * c))), (0, (2, 60, 0, 0, 0)), (1, (0, 0, 0, 99, a)), (2, (0, 0, 1, 100, b)), (3, (0, 0, (-20), 20, c)), (4, (0, 0, 1, 20, e))] [(1, 0, 0, 196020, (a * a) * e), (1, 0, (-395999), 596000, ((b * b) * e) - (((2 * a) * b) * c))] (xa_up M 60 21 0)
            refine hgo.1 6 [56, 60, 65, 68, 69, 76, 80, 86, 89, 92, 93, 98, 102, 103] 102 _ _ _ ?_
            show Q 103 [(5, (1, 0, (-197999), 398000, ((b * b) * e) - ((a * b) * c))), (0, (2, 60, 0, 0, 0)), (1, (0, 0, 0, 99, a)), (2, (0, 0, 1, 100, b)), (3, (0, 0, (-20), 20, c)), (4, (0, 0, 1, 20, e))] [(1, 0, (-395999), 792020, (((b * b) * e) - (((2 * a) * b) * c)) + ((a * a) * e))] (xa_up M 60 21 0)
            refine hgo.1 21 [56, 60, 65, 68, 69, 76, 80, 86, 89, 92, 93, 98, 102, 103] 103 _ _ _ ?_
            show xa_C xm_I A h0 _ 230 [(2, 60, 0, 0, 0), (1, 0, (-197999), 398000, ((b * b) * e) - ((a * b) * c)), (1, 0, (-395999), 792020, (((b * b) * e) - (((2 * a) * b) * c)) + ((a * a) * e))] (xa_up (xa_up M 60 21 0) 60 20 0) _
            refine ct_tellPart (n := 0) (by first | rfl | (simp [xa_up]; done)) (by decide) (by decide) (by decide) (by omega) (fun g486 eg486 pg486 qg486 => ?_)
            refine And.intro ?_ ?_
            · intro (c487 : (((b * b) * e) - ((a * b) * c)) ≤ ((((b * b) * e) - (((2 * a) * b) * c)) + ((a * a) * e)))
              refine And.intro ?_ ?_
              · intro (c488 : ((((b * b) * e) - (((2 * a) * b) * c)) + ((a * a) * e)) ≤ (((b * b) * e) - ((a * b) * c)))
                show post (some (0, 0, 0, 0, 0)) (xa_up (xa_up (xa_up (xa_up (xa_up (xa_up M 60 21 0) 60 20 0) 74 0 ((((b * b) * e) - ((a * b) * c)).tdiv g486)) 60 20 1) 74 1 (((((b * b) * e) - (((2 * a) * b) * c)) + ((a * a) * e)).tdiv g486)) 60 20 2)
                exact k _ _ ⟨_, _, _, rfl⟩ (xm_cor_f (by omega) (xm_cor_a rfl (xm_cor_f (by omega) (xm_cor_a rfl (xm_cor_f (by omega) (xm_cor_f (by omega) xm_cor_r)))))) (rw_yes (V := rw_v (rw_f2 (rw_slU a b c e) (rw_slD a b c e))) (by unfold rz_sl; omega) xa_up_eq (fun i i0 i1 => by unfold rw_f2 rw_slU rw_slD; rw [← eg486]; rcases (show i = 0 ∨ i = 1 by omega) with rfl | rfl <;> first | rfl | (simp [xa_up, rw_v]; done)) rfl)
              · intro (c488 : (((b * b) * e) - ((a * b) * c)) < ((((b * b) * e) - (((2 * a) * b) * c)) + ((a * a) * e)))
                show post (some (0, 0, 2, 2, 2)) (xa_up (xa_up (xa_up (xa_up (xa_up (xa_up M 60 21 0) 60 20 0) 74 0 ((((b * b) * e) - ((a * b) * c)).tdiv g486)) 60 20 1) 74 1 (((((b * b) * e) - (((2 * a) * b) * c)) + ((a * a) * e)).tdiv g486)) 60 20 2)
                exact k _ _ ⟨_, _, _, rfl⟩ (xm_cor_f (by omega) (xm_cor_a rfl (xm_cor_f (by omega) (xm_cor_a rfl (xm_cor_f (by omega) (xm_cor_f (by omega) xm_cor_r)))))) (rw_yes (V := rw_v (rw_f2 (rw_slU a b c e) (rw_slD a b c e))) (by unfold rz_sl; omega) xa_up_eq (fun i i0 i1 => by unfold rw_f2 rw_slU rw_slD; rw [← eg486]; rcases (show i = 0 ∨ i = 1 by omega) with rfl | rfl <;> first | rfl | (simp [xa_up, rw_v]; done)) rfl)
            · intro (c487 : ((((b * b) * e) - (((2 * a) * b) * c)) + ((a * a) * e)) < (((b * b) * e) - ((a * b) * c)))
              show post (some (0, 0, 1, 1, 1)) (xa_up (xa_up (xa_up (xa_up (xa_up (xa_up M 60 21 0) 60 20 0) 74 0 ((((b * b) * e) - ((a * b) * c)).tdiv g486)) 60 20 1) 74 1 (((((b * b) * e) - (((2 * a) * b) * c)) + ((a * a) * e)).tdiv g486)) 60 20 2)
              exact k _ _ ⟨_, _, _, rfl⟩ (xm_cor_f (by omega) (xm_cor_a rfl (xm_cor_f (by omega) (xm_cor_a rfl (xm_cor_f (by omega) (xm_cor_f (by omega) xm_cor_r)))))) (rw_yes (V := rw_v (rw_f2 (rw_slU a b c e) (rw_slD a b c e))) (by unfold rz_sl; omega) xa_up_eq (fun i i0 i1 => by unfold rw_f2 rw_slU rw_slD; rw [← eg486]; rcases (show i = 0 ∨ i = 1 by omega) with rfl | rfl <;> first | rfl | (simp [xa_up, rw_v]; done)) rfl)
          · intro (i105 : ¬ ((-e) ≤ c ∧ c ≤ e))
            show post (some (0, 0, (-1), (-1), (-1))) (xa_up M 60 21 0)
            exact k _ _ ⟨_, _, _, rfl⟩ (xm_cor_f (by omega) xm_cor_r) (rw_no (by unfold rz_sl; omega) (xa_up_ne (by omega)) (fun i _ _ => xa_up_ne (by omega)))
        · intro (i4 : ¬ (1 ≤ e ∧ e ≤ 20))
          show post (some (0, 0, (-1), (-1), (-1))) (xa_up M 60 21 0)
          exact k _ _ ⟨_, _, _, rfl⟩ (xm_cor_f (by omega) xm_cor_r) (rw_no (by unfold rz_sl; omega) (xa_up_ne (by omega)) (fun i _ _ => xa_up_ne (by omega)))
  · intro (i1 : ¬ (0 ≤ a ∧ a ≤ 99))
    show post (some (0, 0, (-1), (-1), (-1))) (xa_up M 60 21 0)
    exact k _ _ ⟨_, _, _, rfl⟩ (xm_cor_f (by omega) xm_cor_r) (rw_no (by unfold rz_sl; omega) (xa_up_ne (by omega)) (fun i _ _ => xa_up_ne (by omega)))
theorem rw_m163 {A : Nat → Nat} {h0 : g_H} {d : Nat} {M : xa_M} {post : Option xa_V → xa_M → Prop} {l1 u1 l2 u2 : Int} {x1 x2 : Int} (hI : xm_Inv M) (k : ∀ (o : Option xa_V) (M1 : xa_M), (∃ lo hi n, o = some (0, 0, lo, hi, n)) → xm_iz M M1 → rw_k (rz_un x1 x2) (M 60 20) (M 74) (M1 60 20) (M1 74) 2 (rw_s163 x1 x2) → post o M1) : xa_C xm_I A h0 (d + 4) 271 [(2, 60, 0, 0, 0), (0, 0, l1, u1, x1), (0, 0, l2, u2, x2)] M post := by
  refine xa_C_arg [(2, 60, 0, 0, 0), (0, 0, (-2147483648), 2147483647, x1), (0, 0, (-2147483648), 2147483647, x2)] (xa_svR (xa_svI (fun _ _ _ _ => by omega) (xa_svI (fun _ _ _ _ => by omega) xa_sv0))) ?_
  refine xa_meth (Q0 := (9, 1, false, 0, 0, 12)) (by decide +kernel) ⟨rfl, rfl⟩ (full := s_c_271) rfl rfl ?_
  intro hM hv Q hgo
  have loop0 : 1 ≤ x1 → x1 ≤ 1000 → 1 ≤ x2 → x2 ≤ 1000 → x2 ≤ x1 → ∀ (n : Nat) (x6 x4 x3 : Int) (M1 : xa_M), 1 ≤ x6 ∧ x6 ≤ 100 → 0 ≤ x3 ∧ x3 ≤ 99 → 1 ≤ x2 ∧ x2 ≤ 1000 → 1 ≤ x1 ∧ x1 ≤ 1000 → xm_iz M M1 → (x3 = rw_ub x1 x2 (x6 - 1).toNat ∧ x4 = rw_h x1 x2 x3) → 100 - x6 < (n : Int) → Q 49 [(6, (0, 0, 1, 100, x6)), (4, (1, 0, (-9223372036854775808), 9223372036854775807, x4)), (3, (0, 0, 0, 99, x3)), (2, (0, 0, 1, 1000, x2)), (1, (0, 0, 1, 1000, x1)), (0, (2, 60, 0, 0, 0))] [] M1 := by
    intro u0 u1 v0 v1 z21
    intro n
    induction n with
    | zero => intro x6 x4 x3 M1 b6 b3 f2 f1 hc hT hms; omega
    | succ n ih0 =>
      intro x6 x4 x3 M1 b6 b3 f2 f1 hc hT hms0
      refine hgo.1 44 [49] 49 _ _ _ ?_
      refine And.intro ?_ ?_
      · intro (c1 : 100 ≤ x6)
        show xa_C xm_I A h0 _ 230 [(2, 60, 0, 0, 0), (1, 0, 100, 199, 100 + x3), (1, 0, 1, 100, 100 - x3)] (xa_up M1 60 20 0) _
        refine ct_tellPart (n := 0) (by first | rfl | (simp [xa_up]; done)) (by decide) (by decide) (by decide) (by omega) (fun g2 eg2 pg2 qg2 => ?_)
        show post (some (0, 0, 0, 99, x3)) (xa_up (xa_up (xa_up (xa_up (xa_up M1 60 20 0) 74 0 ((100 + x3).tdiv g2)) 60 20 1) 74 1 ((100 - x3).tdiv g2)) 60 20 2)
        exact k _ _ ⟨_, _, _, rfl⟩ (xm_iz_u rfl (xm_iz_u rfl (xm_iz_u rfl (xm_iz_u rfl (xm_iz_u rfl hc))))) (rw_yes (V := rw_v (rw_f2 (100 + x3) (100 - x3))) (by unfold rz_un; omega) xa_up_eq (fun i i0 i1 => by unfold rw_f2; rw [← eg2]; rcases (show i = 0 ∨ i = 1 by omega) with rfl | rfl <;> first | rfl | (simp [xa_up, rw_v]; done)) (rw_s163_of (by rw [show (x6 - 1).toNat = 99 by omega] at hT; exact hT.1)))
      · intro (c1 : x6 < 100)
        show xa_C xm_I A h0 _ 56 [(1, 0, (-98899), 200000, ((100 + x6) * x2) - ((100 - x6) * x1))] M1 _
        refine ct_absb 200000 (by decide) (by decide) (by decide) (fun a3 ea3 => ?_)
        have e3 : a3 = rw_h x1 x2 x6 := ea3
        have h4 := rw_hb (u := x1) (d := x2) (a := x3) (by omega) (by omega) (by omega)
        rw [← hT.2] at h4
        have p4 := rz_mb (p := x4) (q := 100 - x6) (A := 300000) (B := 100) (by omega) (by omega) (by omega) (by omega)
        have ew := xa_w64_id (n := x4 * (100 - x6)) (by omega) (by omega)
        refine And.intro ?_ ?_
        · intro (c4 : (a3 * (100 - x3)) < (xa_w64 (x4 * (100 - x6))))
          show Q 49 [(6, (0, 0, 2, 101, x6 + 1)), (4, (1, 0, 0, 200000, a3)), (3, (0, 0, 1, 100, x6)), (7, (1, 0, 0, 200000, a3)), (2, (0, 0, 1, 1000, x2)), (1, (0, 0, 1, 1000, x1)), (0, (2, 60, 0, 0, 0))] [] M1
          refine hgo.2.1 49 _ [(6, (0, 0, 1, 100, x6 + 1)), (4, (1, 0, (-9223372036854775808), 9223372036854775807, a3)), (3, (0, 0, 0, 99, x6)), (2, (0, 0, 1, 1000, x2)), (1, (0, 0, 1, 1000, x1)), (0, (2, 60, 0, 0, 0))] _ _ (xa_subI rfl rfl (fun _ _ _ _ => by omega) (xa_subL rfl rfl (fun _ _ _ _ => by omega) (xa_subI rfl rfl (fun _ _ _ _ => by omega) (xa_subI rfl rfl (fun _ _ _ _ => by omega) (xa_subI rfl rfl (fun _ _ _ _ => by omega) (xa_subR rfl xa_sub0)))))) ?_
          exact ih0 (x6 + 1) a3 x6 M1 (by omega) (by omega) (by omega) (by omega) hc ⟨rw_uby b6.1 hT.1 (by rw [← hT.2, ← e3, ← ew]; exact c4), e3⟩ (by omega)
        · intro (c4 : (xa_w64 (x4 * (100 - x6))) ≤ (a3 * (100 - x3)))
          show Q 49 [(6, (0, 0, 2, 101, x6 + 1)), (7, (1, 0, 0, 200000, a3)), (4, (1, 0, (-9223372036854775808), 9223372036854775807, x4)), (3, (0, 0, 0, 99, x3)), (2, (0, 0, 1, 1000, x2)), (1, (0, 0, 1, 1000, x1)), (0, (2, 60, 0, 0, 0))] [] M1
          refine hgo.2.1 49 _ [(6, (0, 0, 1, 100, x6 + 1)), (4, (1, 0, (-9223372036854775808), 9223372036854775807, x4)), (3, (0, 0, 0, 99, x3)), (2, (0, 0, 1, 1000, x2)), (1, (0, 0, 1, 1000, x1)), (0, (2, 60, 0, 0, 0))] _ _ (xa_subI rfl rfl (fun _ _ _ _ => by omega) (xa_subL rfl rfl (fun _ _ _ _ => by omega) (xa_subI rfl rfl (fun _ _ _ _ => by omega) (xa_subI rfl rfl (fun _ _ _ _ => by omega) (xa_subI rfl rfl (fun _ _ _ _ => by omega) (xa_subR rfl xa_sub0)))))) ?_
          exact ih0 (x6 + 1) x4 x3 M1 (by omega) (by omega) (by omega) (by omega) hc ⟨rw_ubn b6.1 hT.1 (by rw [← hT.2, ← e3, ← ew]; exact c4), hT.2⟩ (by omega)
  refine hgo.1 22 [34] 0 _ _ _ ?_
  show xa_C xm_I A h0 _ 214 [(0, 0, (-2147483648), 2147483647, x1), (0, 0, 1, 1, 1), (0, 0, 1000, 1000, 1000)] (xa_up M 60 21 0) _
  refine ct_in ?_ ?_
  · intro (i1 : 1 ≤ x1 ∧ x1 ≤ 1000)
    show xa_C xm_I A h0 _ 214 [(0, 0, (-2147483648), 2147483647, x2), (0, 0, 1, 1, 1), (0, 0, 1000, 1000, 1000)] (xa_up M 60 21 0) _
    refine ct_in ?_ ?_
    · intro (i2 : 1 ≤ x2 ∧ x2 ≤ 1000)
      refine And.intro ?_ ?_
      · intro (c3 : x2 ≤ x1)
        show Q 34 [(0, (2, 60, 0, 0, 0)), (1, (0, 0, (-2147483648), 2147483647, x1)), (2, (0, 0, (-2147483648), 2147483647, x2))] [] (xa_up M 60 21 0)
        refine hgo.2.1 34 _ [(0, (2, 60, 0, 0, 0)), (1, (0, 0, 1, 1000, x1)), (2, (0, 0, 1, 1000, x2))] _ _ (xa_subR rfl (xa_subI rfl rfl (fun _ _ _ _ => by omega) (xa_subI rfl rfl (fun _ _ _ _ => by omega) xa_sub0))) ?_
        have hb1 : 1 ≤ x1 ∧ x1 ≤ 1000 := by omega
        have hb2 : 1 ≤ x2 ∧ x2 ≤ 1000 := by omega
        refine hgo.1 16 [49] 34 _ _ _ ?_
        show Q 49 [(6, (0, 0, 1, 1, 1)), (4, (1, 0, (-99900), 99900, 100 * (x1 - x2))), (3, (0, 0, 0, 0, 0)), (0, (2, 60, 0, 0, 0)), (1, (0, 0, 1, 1000, x1)), (2, (0, 0, 1, 1000, x2))] [] (xa_up M 60 21 0)
        refine hgo.2.1 49 _ [(6, (0, 0, 1, 100, 1)), (4, (1, 0, (-9223372036854775808), 9223372036854775807, 100 * (x1 - x2))), (3, (0, 0, 0, 99, 0)), (2, (0, 0, 1, 1000, x2)), (1, (0, 0, 1, 1000, x1)), (0, (2, 60, 0, 0, 0))] _ _ (xa_subI rfl rfl (fun _ _ _ _ => by omega) (xa_subL rfl rfl (fun _ _ _ _ => by omega) (xa_subI rfl rfl (fun _ _ _ _ => by omega) (xa_subI rfl rfl (fun _ _ _ _ => by omega) (xa_subI rfl rfl (fun _ _ _ _ => by omega) (xa_subR rfl xa_sub0)))))) ?_
        exact loop0 hb1.1 hb1.2 hb2.1 hb2.2 c3 100 1 (100 * (x1 - x2)) 0 (xa_up M 60 21 0) (by omega) (by omega) (by omega) (by omega) (xm_iz_u rfl xm_iz_r) ⟨rfl, rw_h0 c3⟩ (by omega)
      · intro (c3 : x1 < x2)
        show post (some (0, 0, (-1), (-1), (-1))) (xa_up M 60 21 0)
        exact k _ _ ⟨_, _, _, rfl⟩ (xm_iz_u rfl xm_iz_r) (rw_no (by unfold rz_un; omega) (xa_up_ne (by omega)) (fun i _ _ => xa_up_ne (by omega)))
    · intro (i2 : ¬ (1 ≤ x2 ∧ x2 ≤ 1000))
      show post (some (0, 0, (-1), (-1), (-1))) (xa_up M 60 21 0)
      exact k _ _ ⟨_, _, _, rfl⟩ (xm_iz_u rfl xm_iz_r) (rw_no (by unfold rz_un; omega) (xa_up_ne (by omega)) (fun i _ _ => xa_up_ne (by omega)))
  · intro (i1 : ¬ (1 ≤ x1 ∧ x1 ≤ 1000))
    show post (some (0, 0, (-1), (-1), (-1))) (xa_up M 60 21 0)
    exact k _ _ ⟨_, _, _, rfl⟩ (xm_iz_u rfl xm_iz_r) (rw_no (by unfold rz_un; omega) (xa_up_ne (by omega)) (fun i _ _ => xa_up_ne (by omega)))
theorem rw_p162 (A : Nat → Nat) (cmp : Bool) : iv_pair (rw_J A) A 162 270 [0, 0, 0, 0] (cmp && false) false := rw_armU (fun W b h as M hJ hM hInv hs hR hz => by
  obtain ⟨m1, ys, rfl, -, hs⟩ := iv_spc hs
  obtain ⟨m2, ys, rfl, -, hs⟩ := iv_spc hs
  obtain ⟨m3, ys, rfl, -, hs⟩ := iv_spc hs
  obtain ⟨m4, ys, rfl, -, hs⟩ := iv_spc hs
  obtain rfl := iv_sp0 hs
  have hc := rw_162 (b := b) (A := A) (h0 := h) (d := 56) (M := iv_num h) (l1 := -2147483648) (u1 := 2147483647) (l2 := -2147483648) (u2 := 2147483647) (l3 := -2147483648) (u3 := 2147483647) (l4 := -2147483648) (u4 := 2147483647) (x1 := m1.toInt) (x2 := m2.toInt) (x3 := m3.toInt) (x4 := m4.toInt) (post := fun o M1 => (∃ lo hi n, o = some (0, 0, lo, hi, n) ∧ rw_k (rz_sl m1.toInt m2.toInt m3.toInt m4.toInt) (iv_num h 48 1) (iv_num h 49) (M1 48 1) (M1 49) 2 (fun V => V = rw_v (rw_f2 (rw_slU m1.toInt m2.toInt m3.toInt m4.toInt) (rw_slD m1.toInt m2.toInt m3.toInt m4.toInt)))) ∧ ∀ q j, lm_C q j → q < 60 → M1 q j = iv_num h q j) (fun r M1 hk z => ⟨⟨_, _, r, rfl, z⟩, fun q j hC _ => hk q j (by first | (have t9 := lm_Cq hC; omega) | (unfold lm_C at hC; omega))⟩)
  have hm := fun (h1 : g_H) => rw_m162 (A := A) (h0 := h1) (d := 56) (M := M) (l1 := -2147483648) (u1 := 2147483647) (l2 := -2147483648) (u2 := 2147483647) (l3 := -2147483648) (u3 := 2147483647) (l4 := -2147483648) (u4 := 2147483647) (a := m1.toInt) (b := m2.toInt) (c := m3.toInt) (e := m4.toInt) (post := fun o M2 => (∃ lo hi n, o = some (0, 0, lo, hi, n) ∧ rw_k (rz_sl m1.toInt m2.toInt m3.toInt m4.toInt) (M 60 20) (M 74) (M2 60 20) (M2 74) 2 (fun V => V = rw_v (rw_f2 (rw_slU m1.toInt m2.toInt m3.toInt m4.toInt) (rw_slD m1.toInt m2.toInt m3.toInt m4.toInt)))) ∧ xk_U M M2 ∧ xm_Inv M2) hInv (fun o M2 ho hc z => by
    obtain ⟨lo, hi, n, rfl⟩ := ho
    exact ⟨⟨lo, hi, n, rfl, z⟩, xk_cor hc, xm_Inv_cor hc hInv⟩)
  exact ⟨[(2, 0, 0, 0, 0), (0, 0, -2147483648, 2147483647, m1.toInt), (0, 0, -2147483648, 2147483647, m2.toInt), (0, 0, -2147483648, 2147483647, m3.toInt), (0, 0, -2147483648, 2147483647, m4.toInt)], [(2, 60, 0, 0, 0), (0, 0, -2147483648, 2147483647, m1.toInt), (0, 0, -2147483648, 2147483647, m2.toInt), (0, 0, -2147483648, 2147483647, m3.toInt), (0, 0, -2147483648, 2147483647, m4.toInt)], fun _ M1 => rw_k (rz_sl m1.toInt m2.toInt m3.toInt m4.toInt) (iv_num h 48 1) (iv_num h 49) (M1 48 1) (M1 49) 2 (fun V => V = rw_v (rw_f2 (rw_slU m1.toInt m2.toInt m3.toInt m4.toInt) (rw_slD m1.toInt m2.toInt m3.toInt m4.toInt))), fun _ M2 => rw_k (rz_sl m1.toInt m2.toInt m3.toInt m4.toInt) (M 60 20) (M 74) (M2 60 20) (M2 74) 2 (fun V => V = rw_v (rw_f2 (rw_slU m1.toInt m2.toInt m3.toInt m4.toInt) (rw_slD m1.toInt m2.toInt m3.toInt m4.toInt))), ⟨rfl, iv_i m1, iv_i m2, iv_i m3, iv_i m4, trivial⟩, ⟨rfl, iv_i m1, iv_i m2, iv_i m3, iv_i m4, trivial⟩, fun r r' M1 M2 h1 h2 => ⟨fun e => by cases cmp <;> exact absurd e (by decide), rw_k1 h1 h2 Iff.rfl (fun _ => by decide) (fun V V' _ g1 g2 i _ _ => by rw [g1, g2]) hz⟩, hc, hm⟩)
theorem rw_p163 (A : Nat → Nat) (cmp : Bool) : iv_pair (rw_J A) A 163 271 [0, 0] (cmp && false) false := rw_armU (fun W b h as M hJ hM hInv hs hR hz => by
  obtain ⟨m1, ys, rfl, -, hs⟩ := iv_spc hs
  obtain ⟨m2, ys, rfl, -, hs⟩ := iv_spc hs
  obtain rfl := iv_sp0 hs
  have hc := rw_163 (b := b) (A := A) (h0 := h) (d := 56) (M := iv_num h) (l1 := -2147483648) (u1 := 2147483647) (l2 := -2147483648) (u2 := 2147483647) (x1 := m1.toInt) (x2 := m2.toInt) (post := fun o M1 => (∃ lo hi n, o = some (0, 0, lo, hi, n) ∧ rw_k (rz_un m1.toInt m2.toInt) (iv_num h 48 1) (iv_num h 49) (M1 48 1) (M1 49) 2 (rw_s163 m1.toInt m2.toInt)) ∧ ∀ q j, lm_C q j → q < 60 → M1 q j = iv_num h q j) (fun r M1 hk z => ⟨⟨_, _, r, rfl, z⟩, fun q j hC _ => hk q j (by first | (have t9 := lm_Cq hC; omega) | (unfold lm_C at hC; omega))⟩)
  have hm := fun (h1 : g_H) => rw_m163 (A := A) (h0 := h1) (d := 56) (M := M) (l1 := -2147483648) (u1 := 2147483647) (l2 := -2147483648) (u2 := 2147483647) (x1 := m1.toInt) (x2 := m2.toInt) (post := fun o M2 => (∃ lo hi n, o = some (0, 0, lo, hi, n) ∧ rw_k (rz_un m1.toInt m2.toInt) (M 60 20) (M 74) (M2 60 20) (M2 74) 2 (rw_s163 m1.toInt m2.toInt)) ∧ xk_U M M2 ∧ xm_Inv M2) hInv (fun o M2 ho hc z => by
    obtain ⟨lo, hi, n, rfl⟩ := ho
    exact ⟨⟨lo, hi, n, rfl, z⟩, xm_iz_k hc, xm_Inv_is (xm_iz_is hc) hInv⟩)
  exact ⟨[(2, 0, 0, 0, 0), (0, 0, -2147483648, 2147483647, m1.toInt), (0, 0, -2147483648, 2147483647, m2.toInt)], [(2, 60, 0, 0, 0), (0, 0, -2147483648, 2147483647, m1.toInt), (0, 0, -2147483648, 2147483647, m2.toInt)], fun _ M1 => rw_k (rz_un m1.toInt m2.toInt) (iv_num h 48 1) (iv_num h 49) (M1 48 1) (M1 49) 2 (rw_s163 m1.toInt m2.toInt), fun _ M2 => rw_k (rz_un m1.toInt m2.toInt) (M 60 20) (M 74) (M2 60 20) (M2 74) 2 (rw_s163 m1.toInt m2.toInt), ⟨rfl, iv_i m1, iv_i m2, trivial⟩, ⟨rfl, iv_i m1, iv_i m2, trivial⟩, fun r r' M1 M2 h1 h2 => ⟨fun e => by cases cmp <;> exact absurd e (by decide), rw_k1 h1 h2 Iff.rfl (fun _ => by decide) (fun V V' _ g1 g2 i _ _ => by unfold rw_s163 at g1 g2; rw [g1, g2]) hz⟩, hc, hm⟩)
