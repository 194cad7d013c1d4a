-- meets
set_option maxRecDepth 20000
theorem cx_56 {b : Bool} {A : Nat → Nat} {h0 : g_H} {d : Nat} {M : xa_M} {post : Option xa_V → xa_M → Prop} {l0 u0 : Int} {x1 : Int} (k1 : (0 ≤ x1) → post (some (1, 0, (-9223372036854775808), 9223372036854775807, x1)) M) (k2 : (x1 < 0) → post (some (1, 0, (-9223372036854775808), 9223372036854775807, xa_w64 (-x1))) M) : xa_C (xl_I b) A h0 (d + 1) 56 [(1, 0, l0, u0, x1)] M post := by
  refine xa_C_arg [(1, 0, (-9223372036854775808), 9223372036854775807, x1)] (xa_svL (fun _ _ _ _ => by omega) (xa_sv0)) ?_
  refine xa_meth (Q0 := (2, 3, false, 0, 0, 14)) (by decide +kernel) ⟨rfl, rfl⟩ (full := s_c_56) rfl rfl ?_
  intro hM hv Q hgo
  refine hgo.1 11 [] 0 _ _ _ ?_
  refine And.intro ?_ ?_
  · intro (c1 : 0 ≤ x1)
    show post (some (1, 0, (-9223372036854775808), 9223372036854775807, x1)) M
    exact k1 c1
  · intro (c1 : x1 < 0)
    show post (some (1, 0, (-9223372036854775808), 9223372036854775807, xa_w64 (-x1))) M
    exact k2 c1
theorem cx_55f {b : Bool} {A : Nat → Nat} {h0 : g_H} {d : Nat} {M : xa_M} {post : Option xa_V → xa_M → Prop} {l1 u1 l2 u2 x y : Int} (hx : 0 ≤ x ∧ x ≤ 4294967296) (hy : 0 ≤ y ∧ y ≤ 4294967296) (k : ∀ g : Int, g = (Int.gcd x y : Int) → 0 ≤ g → post (some (1, 0, 0, 4294967296, g)) M) : xa_C (xl_I b) A h0 (d + 2) 55 [(1, 0, l1, u1, x), (1, 0, l2, u2, y)] M post := by
  refine xa_C_wk ?_
  refine xa_C_arg [(1, 0, 0, 4294967296, x), (1, 0, 0, 4294967296, y)] (xa_svL (fun _ _ _ _ => by omega) (xa_svL (fun _ _ _ _ => by omega) xa_sv0)) ?_
  refine xa_meth (Q0 := (11, 3, false, 0, 0, 11)) (by decide +kernel) ⟨rfl, rfl⟩ (full := s_c_55) rfl rfl ?_
  intro hM hv Q hgo
  have loop : ∀ (f : Nat) (i a b : Int), 0 ≤ i ∧ i ≤ 100 → 0 ≤ a ∧ a ≤ 4294967296 → 0 ≤ b ∧ b ≤ 4294967296 → Int.gcd a b = Int.gcd x y → ((∃ j : Nat, b ≤ a ∧ a * b < 2 ^ j ∧ (j : Int) < 100 - i) ∨ (i = 0 ∧ a ≤ 4294967296)) → 100 - i < (f : Int) → Q 15 [(8, (0, 0, 0, 100, i)), (4, (1, 0, 0, 4294967296, a)), (6, (1, 0, 0, 4294967296, b))] [] M := by
    intro f
    induction f with
    | zero =>
      intro i a b i1 a1 b1 hg hk hms
      clear hk
      omega
    | succ f ih =>
      intro i a b i1 a1 b1 hg hk hms
      refine hgo.1 21 [15] 15 _ _ _ ?_
      refine And.intro ?_ ?_
      · intro (c1 : 100 ≤ i)
        show xa_wk post (some (1, 0, 0, 4294967296, a)) M
        have z : b = 0 := by
          rcases hk with ⟨j, j0, j1, j2⟩ | ⟨j0, j1⟩
          · exfalso
            omega
          · exfalso
            omega
        rw [z, Int.gcd_zero_right] at hg
        clear hk
        exact xa_wkL a rfl (fun _ _ => by omega) (k a (by rw [← hg]; omega) (by omega))
      · intro (c1 : i < 100)
        refine And.intro ?_ ?_
        · intro (c2 : b = 0)
          show xa_wk post (some (1, 0, 0, 4294967296, a)) M
          have z : b = 0 := by
            clear hk
            omega
          clear hk
          rw [z, Int.gcd_zero_right] at hg
          exact xa_wkL a rfl (fun _ _ => by omega) (k a (by rw [← hg]; omega) (by omega))
        · intro (c2 : ¬ b = 0)
          refine And.intro (show 0 < b by omega) ?_
          show Q 15 [(8, (0, 0, 1, 101, i + 1)), (6, (1, 0, 0, 4294967295, a % b)), (4, (1, 0, 0, 4294967296, b)), (9, (1, 0, 0, 4294967295, a % b))] [] M
          have m0 := Int.emod_nonneg a (show b ≠ 0 by omega)
          have m1 := Int.emod_lt_of_pos a (show 0 < b by omega)
          refine hgo.2.1 15 _ [(8, (0, 0, 0, 100, i + 1)), (4, (1, 0, 0, 4294967296, b)), (6, (1, 0, 0, 4294967296, a % b))] _ _ (xa_subI rfl rfl (fun _ _ _ _ => by omega) (xa_subL rfl rfl (fun _ _ _ _ => by omega) (xa_subL rfl rfl (fun _ _ _ _ => by omega) (xa_sub0)))) ?_
          refine ih (i + 1) b (a % b) (by omega) (by omega) (by omega) (by rw [← hg]; exact xa_gcd_step (by omega) (by omega)) ?_ (by omega)
          rcases hk with ⟨j, j0, j1, j2⟩ | ⟨j0, j1⟩
          · have p1 := gc_pos (a := a) (b := b) (by omega) (by omega)
            rcases j with _ | j
            · rw [Int.pow_zero] at j1
              exact absurd j1 (by omega)
            · exact Or.inl ⟨j, by omega, gc_step (by omega) j0 j1, by omega⟩
          · exact Or.inl ⟨65, by omega, Int.lt_of_le_of_lt (Int.mul_le_mul (show b ≤ 4294967296 by omega) (show a % b ≤ 4294967296 by omega) (by omega) (by omega)) (by decide), by omega⟩
  refine hgo.1 13 [15] 0 _ _ _ ?_
  show xa_C (xl_I b) A h0 _ 56 [(1, 0, 0, 4294967296, x)] M _
  refine cx_56 ?_ ?_
  · intro (i1 : 0 ≤ x)
    show xa_C (xl_I b) A h0 _ 56 [(1, 0, 0, 4294967296, y)] M _
    refine cx_56 ?_ ?_
    · intro (i2 : 0 ≤ y)
      show Q 15 [(8, (0, 0, 0, 0, 0)), (6, (1, 0, (-9223372036854775808), 9223372036854775807, y)), (4, (1, 0, (-9223372036854775808), 9223372036854775807, x)), (0, (1, 0, 0, 4294967296, x)), (2, (1, 0, 0, 4294967296, y))] [] M
      refine hgo.2.1 15 _ [(8, (0, 0, 0, 100, 0)), (4, (1, 0, 0, 4294967296, x)), (6, (1, 0, 0, 4294967296, y))] _ _ (xa_subI rfl rfl (fun _ _ _ _ => by omega) (xa_subL rfl rfl (fun _ _ _ _ => by omega) (xa_subL rfl rfl (fun _ _ _ _ => by omega) (xa_sub0)))) ?_
      exact loop 101 0 x y (by omega) (by omega) (by omega) rfl (Or.inr ⟨rfl, by omega⟩) (by omega)
    · intro (i3 : y < 0)
      exfalso
      omega
  · intro (i4 : x < 0)
    exfalso
    omega
theorem cx_55p {b : Bool} {A : Nat → Nat} {h0 : g_H} {d : Nat} {M : xa_M} {post : Option xa_V → xa_M → Prop} {l1 u1 l2 u2 x y : Int} (hx : 1 ≤ x ∧ x ≤ 4294967296) (hy : 1 ≤ y ∧ y ≤ 4294967296) (k : ∀ g : Int, g = (Int.gcd x y : Int) → 1 ≤ g → g ≤ x → g ≤ y → post (some (1, 0, 0, 4294967296, g)) M) : xa_C (xl_I b) A h0 (d + 2) 55 [(1, 0, l1, u1, x), (1, 0, l2, u2, y)] M post := by
  refine cx_55f (by omega) (by omega) (fun g eg g0 => k g eg ?_ ?_ ?_)
  · have h9 : ¬ (Int.gcd x y = 0) := fun h => by
      have := (Int.gcd_eq_zero_iff.mp h).1
      omega
    omega
  · rw [eg]
    exact Int.le_of_dvd (by omega) (Int.gcd_dvd_left x y)
  · rw [eg]
    exact Int.le_of_dvd (by omega) (Int.gcd_dvd_right x y)
theorem cx_21f {b : Bool} {A : Nat → Nat} {h0 : g_H} {d : Nat} {M : xa_M} {post : Option xa_V → xa_M → Prop} {l1 u1 l2 u2 x y : Int} (lo hi : Int) (hx : 0 ≤ x ∧ x ≤ 9223372036854775807) (hy : 1 ≤ y ∧ y ≤ 9223372036854775807) (hl : lo ≤ x / y ∧ x / y ≤ hi) (k : post (some (1, 0, lo, hi, x / y)) M) : xa_C (xl_I b) A h0 (d + 1) 21 [(1, 0, l1, u1, x), (1, 0, l2, u2, y)] M post := by
  refine xa_C_wk ?_
  refine xa_C_arg [(1, 0, 0, 9223372036854775807, x), (1, 0, 0, 9223372036854775807, y)] (xa_svL (fun _ _ _ _ => by omega) (xa_svL (fun _ _ _ _ => by omega) xa_sv0)) ?_
  refine xa_meth (Q0 := (4, 3, false, 0, 0, 11)) (by decide +kernel) ⟨rfl, rfl⟩ (full := s_c_21) rfl rfl ?_
  intro hM hv Q hgo
  refine hgo.1 11 [] 0 _ _ _ ?_
  refine And.intro ?_ ?_
  · intro (c1 : ¬ y = 0)
    refine And.intro (show 0 < y by omega) ?_
    show xa_wk post (some (1, 0, 0, 9223372036854775807, x / y)) M
    exact xa_wkL (x / y) rfl (fun _ _ => hl) k
  · intro (c1 : y = 0)
    show xa_wk post (some (1, 0, 0, 0, 0)) M
    exfalso
    omega
theorem cx_64_50 {b : Bool} {A : Nat → Nat} {h0 : g_H} {d : Nat} {M : xa_M} {post : Option xa_V → xa_M → Prop} {l1 u1 : Int} {x1 : Int} (h1 : 0 ≤ x1 ∧ x1 < 8) (k1 : post (some (1, 0, (-2147483648), 2147483647, M 52 x1)) M) : xa_C (xl_I b) A h0 (d + 2) 64 [(2, 50, 0, 0, 0), (0, 0, l1, u1, x1)] M post := by
  refine xa_C_arg [(2, 50, 0, 0, 0), (0, 0, (-2147483648), 2147483647, x1)] (xa_svR (xa_svI (fun _ _ _ _ => by omega) (xa_sv0))) ?_
  refine xa_meth (Q0 := (2, 3, false, 0, 0, 0)) (by decide +kernel) ⟨rfl, rfl⟩ (full := s_c_64) rfl rfl ?_
  intro hM hv Q hgo
  refine hgo.1 10 [] 0 _ _ _ ?_
  show xa_C (xl_I b) A h0 _ 23 [(2, 52, 0, 0, 0), (0, 0, (-2147483648), 2147483647, x1)] M _
  refine cx_23_52 (show 0 ≤ x1 ∧ x1 < 8 by omega) ?_
  show post (some (1, 0, (-2147483648), 2147483647, M 52 x1)) M
  exact k1
theorem cx_65_50 {b : Bool} {A : Nat → Nat} {h0 : g_H} {d : Nat} {M : xa_M} {post : Option xa_V → xa_M → Prop} {l1 u1 : Int} {x1 : Int} (h1 : 0 ≤ x1 ∧ x1 < 8) (k1 : post (some (1, 0, (-2147483648), 2147483647, M 51 x1)) M) : xa_C (xl_I b) A h0 (d + 2) 65 [(2, 50, 0, 0, 0), (0, 0, l1, u1, x1)] M post := by
  refine xa_C_arg [(2, 50, 0, 0, 0), (0, 0, (-2147483648), 2147483647, x1)] (xa_svR (xa_svI (fun _ _ _ _ => by omega) (xa_sv0))) ?_
  refine xa_meth (Q0 := (2, 3, false, 0, 0, 0)) (by decide +kernel) ⟨rfl, rfl⟩ (full := s_c_65) rfl rfl ?_
  intro hM hv Q hgo
  refine hgo.1 10 [] 0 _ _ _ ?_
  show xa_C (xl_I b) A h0 _ 23 [(2, 51, 0, 0, 0), (0, 0, (-2147483648), 2147483647, x1)] M _
  refine cx_23_51 (show 0 ≤ x1 ∧ x1 < 8 by omega) ?_
  show post (some (1, 0, (-2147483648), 2147483647, M 51 x1)) M
  exact k1
theorem cx_168_50 {b : Bool} {A : Nat → Nat} {h0 : g_H} {d : Nat} {M : xa_M} {post : Option xa_V → xa_M → Prop} {l1 u1 x1 : Int} (hp : 0 ≤ M 50 4 ∧ M 50 4 ≤ 8) (hU : ∀ i, 0 ≤ i → i < M 50 4 → (1 ≤ M 51 i ∧ M 51 i ≤ 2000) ∧ (1 ≤ M 52 i ∧ M 52 i ≤ 2000)) (k : ∀ r : Int, (r = -1 ∨ (1 ≤ r ∧ r ≤ 1000000)) → r = (mt_y (fun p => xa_ib 3 (xa_ib 7 x1 p) 1 = 1) (mt_d (M 52) (M 51)) (M 50 4).toNat) → post (some (0, 0, (-1), 1000000, r)) M) : xa_C (xl_I b) A h0 (d + 3) 168 [(2, 50, 0, 0, 0), (0, 0, l1, u1, x1)] M post := by
  refine xa_C_wk ?_
  refine xa_C_arg [(2, 50, 0, 0, 0), (0, 0, (-2147483648), 2147483647, x1)] (xa_svR (xa_svI (fun _ _ _ _ => by omega) xa_sv0)) ?_
  refine xa_meth (Q0 := (7, 1, false, 0, 0, 0)) (by decide +kernel) ⟨rfl, rfl⟩ (full := s_c_168) rfl rfl ?_
  intro hM hv Q hgo
  have loop : ∀ (f : Nat) (p y : Int), 0 ≤ p ∧ p ≤ 8 → p ≤ M 50 4 → 1 ≤ y ∧ y ≤ 1000000 → y = (mt_y (fun p => xa_ib 3 (xa_ib 7 x1 p) 1 = 1) (mt_d (M 52) (M 51)) p.toNat) → 8 - p < (f : Int) → Q 5 [(4, (0, 0, 0, 8, p)), (2, (1, 0, 1, 1000000, y)), (0, (2, 50, 0, 0, 0)), (1, (0, 0, (-2147483648), 2147483647, x1))] [] M := by
    intro f
    induction f with
    | zero => intro p y p1 p2 y1 hy hms; omega
    | succ f ih =>
      intro p y p1 p2 y1 hy hms
      have hu := hU p
      refine hgo.1 41 [5] 5 _ _ _ ?_
      refine And.intro ?_ ?_
      · intro (c1 : (M 50 4) ≤ p)
        show xa_wk post (some (0, 0, 1, 1000000, y)) M
        exact xa_wkI y rfl (fun _ _ => by omega) (k y (by omega) (by rw [hy, show p = M 50 4 by omega]))
      · intro (c1 : p < (M 50 4))
        refine And.intro ?_ ?_
        · intro (c2 : ¬ (xa_ib 3 (xa_ib 7 x1 p) 1) = 1)
          show Q 5 [(4, (0, 0, 1, 9, p + 1)), (2, (1, 0, 1, 1000000, y)), (0, (2, 50, 0, 0, 0)), (1, (0, 0, (-2147483648), 2147483647, x1))] [] M
          have ei : ((p.toNat : Nat) : Int) = p := Int.toNat_of_nonneg (by omega)
          have en : y = (mt_y (fun p => xa_ib 3 (xa_ib 7 x1 p) 1 = 1) (mt_d (M 52) (M 51)) (p + 1).toNat) := by
            rw [show (p + 1).toNat = p.toNat + 1 by omega, mt_y0 (by rw [← hy]; omega) (by rw [ei]; exact c2), ← hy]
          refine hgo.2.1 5 _ [(4, (0, 0, 0, 8, p + 1)), (2, (1, 0, 1, 1000000, y)), (0, (2, 50, 0, 0, 0)), (1, (0, 0, (-2147483648), 2147483647, x1))] _ _ (xa_subI rfl rfl (fun _ _ _ _ => by omega) (xa_subL rfl rfl (fun _ _ _ _ => by omega) (xa_subR rfl (xa_subI rfl rfl (fun _ _ _ _ => by omega) (xa_sub0))))) ?_
          exact ih (p + 1) _ (by omega) (by omega) (by omega) en (by omega)
        · intro (c2 : (xa_ib 3 (xa_ib 7 x1 p) 1) = 1)
          show xa_C (xl_I b) A h0 _ 64 [(2, 50, 0, 0, 0), (0, 0, 0, 8, p)] M _
          refine cx_64_50 (show 0 ≤ p ∧ p < 8 by omega) ?_
          show xa_C (xl_I b) A h0 _ 65 [(2, 50, 0, 0, 0), (0, 0, 0, 8, p)] M _
          refine cx_65_50 (show 0 ≤ p ∧ p < 8 by omega) ?_
          show xa_C (xl_I b) A h0 _ 64 [(2, 50, 0, 0, 0), (0, 0, 0, 8, p)] M _
          refine cx_64_50 (show 0 ≤ p ∧ p < 8 by omega) ?_
          show xa_C (xl_I b) A h0 _ 55 [(1, 0, (-2147483648), 2147483647, M 51 p), (1, 0, (-2147483648), 2147483647, M 52 p)] M _
          refine cx_55p (by omega) (by omega) ?_
          intro g142 (i3 : g142 = (Int.gcd (M 51 p) (M 52 p) : Int)) (i4 : 1 ≤ g142) (i5 : g142 ≤ (M 51 p)) (i6 : g142 ≤ (M 52 p))
          have dg142 := xm_edb (g := g142) (y := (M 52 p)) (B := 2000) (by omega) (by omega) (by omega)
          show xa_C (xl_I b) A h0 _ 21 [(1, 0, (-2147483648), 2147483647, M 52 p), (1, 0, 0, 4294967296, g142)] M _
          refine cx_21f 1 2000 (by omega) (by omega) (by omega) ?_
          show xa_C (xl_I b) A h0 _ 55 [(1, 0, 1, 1000000, y), (1, 0, 1, 2000, (M 52 p) / g142)] M _
          refine cx_55p (by omega) (by omega) ?_
          intro g143 (i7 : g143 = (Int.gcd y ((M 52 p) / g142) : Int)) (i8 : 1 ≤ g143) (i9 : g143 ≤ y) (i10 : g143 ≤ ((M 52 p) / g142))
          have dg143 := xm_edb (g := g143) (y := ((M 52 p) / g142)) (B := 2000) (by omega) (by omega) (by omega)
          have mg143 := xm_mulp (p := y) (q := ((M 52 p) / g142) / g143) (a := 1000000) (b := 2000) (by omega) (by omega) (by omega) (by omega)
          show xa_C (xl_I b) A h0 _ 21 [(1, 0, 1, 2000, (M 52 p) / g142), (1, 0, 0, 4294967296, g143)] M _
          refine cx_21f 1 2000 (by omega) (by omega) (by omega) ?_
          refine And.intro ?_ ?_
          · intro (c11 : (y * (((M 52 p) / g142) / g143)) ≤ 1000000)
            show Q 5 [(4, (0, 0, 1, 9, p + 1)), (2, (1, 0, 1, 2000000000, y * (((M 52 p) / g142) / g143))), (5, (1, 0, 1, 2000, (M 52 p) / g142)), (0, (2, 50, 0, 0, 0)), (1, (0, 0, (-2147483648), 2147483647, x1))] [] M
            have ei : ((p.toNat : Nat) : Int) = p := Int.toNat_of_nonneg (by omega)
            have ed : mt_d (M 52) (M 51) p = M 52 p / g142 := by
              rw [i3]
              rfl
            have en : y * (((M 52 p) / g142) / g143) = (mt_y (fun p => xa_ib 3 (xa_ib 7 x1 p) 1 = 1) (mt_d (M 52) (M 51)) (p + 1).toNat) := by
              rw [show (p + 1).toNat = p.toNat + 1 by omega, mt_y1 (by rw [← hy]; omega) (by rw [ei]; exact c2), ei, ed, ← hy, mt_s0 (by rw [← i7]; omega), ← i7]
            refine hgo.2.1 5 _ [(4, (0, 0, 0, 8, p + 1)), (2, (1, 0, 1, 1000000, y * (((M 52 p) / g142) / g143))), (0, (2, 50, 0, 0, 0)), (1, (0, 0, (-2147483648), 2147483647, x1))] _ _ (xa_subI rfl rfl (fun _ _ _ _ => by omega) (xa_subL rfl rfl (fun _ _ _ _ => by omega) (xa_subR rfl (xa_subI rfl rfl (fun _ _ _ _ => by omega) (xa_sub0))))) ?_
            exact ih (p + 1) _ (by omega) (by omega) (by omega) en (by omega)
          · intro (c11 : 1000000 < (y * (((M 52 p) / g142) / g143)))
            show xa_wk post (some (0, 0, (-1), (-1), (-1))) M
            have ei : ((p.toNat : Nat) : Int) = p := Int.toNat_of_nonneg (by omega)
            have ed : mt_d (M 52) (M 51) p = M 52 p / g142 := by
              rw [i3]
              rfl
            have en : (mt_y (fun p => xa_ib 3 (xa_ib 7 x1 p) 1 = 1) (mt_d (M 52) (M 51)) (p.toNat + 1)) = -1 := by
              rw [mt_y1 (by rw [← hy]; omega) (by rw [ei]; exact c2), ei, ed, ← hy]
              exact mt_s1 (by rw [← i7]; omega)
            exact xa_wkI (-1) rfl (fun _ _ => by omega) (k (-1) (by omega) (mt_yn en (by omega)).symm)
  refine hgo.1 9 [5] 0 _ _ _ ?_
  show Q 5 [(4, (0, 0, 0, 0, 0)), (2, (1, 0, 1, 1, 1)), (0, (2, 50, 0, 0, 0)), (1, (0, 0, (-2147483648), 2147483647, x1))] [] M
  refine hgo.2.1 5 _ [(4, (0, 0, 0, 8, 0)), (2, (1, 0, 1, 1000000, 1)), (0, (2, 50, 0, 0, 0)), (1, (0, 0, (-2147483648), 2147483647, x1))] _ _ (xa_subI rfl rfl (fun _ _ _ _ => by omega) (xa_subL rfl rfl (fun _ _ _ _ => by omega) (xa_subR rfl (xa_subI rfl rfl (fun _ _ _ _ => by omega) (xa_sub0))))) ?_
  exact loop 9 0 1 (by omega) (by omega) (by omega) rfl (by omega)
theorem cx_169_50 {b : Bool} {A : Nat → Nat} {h0 : g_H} {d : Nat} {M : xa_M} {post : Option xa_V → xa_M → Prop} {l1 u1 l2 u2 x1 x2 : Int} (hp : 0 ≤ M 50 4 ∧ M 50 4 ≤ 8) (hU : ∀ i, 0 ≤ i → i < M 50 4 → (1 ≤ M 51 i ∧ M 51 i ≤ 2000) ∧ (1 ≤ M 52 i ∧ M 52 i ≤ 2000)) (hx : 1 ≤ x2 ∧ x2 ≤ 1000000) (hz : 0 ≤ M 48 1 ∧ M 48 1 ≤ 16) (k : ∀ M1 : xa_M, (∀ q j, ¬ q = 48 → ¬ q = 49 → M1 q j = M q j) → post none M1) : xa_C (xl_I b) A h0 (d + 3) 169 [(2, 50, 0, 0, 0), (0, 0, l1, u1, x1), (0, 0, l2, u2, x2), (2, 48, 0, 0, 0)] M post := by
  refine xa_C_arg [(2, 50, 0, 0, 0), (0, 0, (-2147483648), 2147483647, x1), (0, 0, 1, 1000000, x2), (2, 48, 0, 0, 0)] (xa_svR (xa_svI (fun _ _ _ _ => by omega) (xa_svI (fun _ _ _ _ => by omega) (xa_svR xa_sv0)))) ?_
  refine xa_meth (Q0 := (5, 0, false, 0, 0, 0)) (by decide +kernel) ⟨rfl, rfl⟩ (full := s_c_169) rfl rfl ?_
  intro hM hv Q hgo
  have loop : ∀ (f : Nat) (p : Int) (M1 : xa_M), 0 ≤ p ∧ p ≤ 8 → (∀ q j, ¬ q = 48 → ¬ q = 49 → M1 q j = M q j) → 0 ≤ M1 48 1 ∧ M1 48 1 ≤ 16 → 8 - p < (f : Int) → Q 3 [(4, (0, 0, 0, 8, p)), (0, (2, 50, 0, 0, 0)), (1, (0, 0, (-2147483648), 2147483647, x1)), (2, (0, 0, 1, 1000000, x2)), (3, (2, 48, 0, 0, 0))] [] M1 := by
    intro f
    induction f with
    | zero => intro p M1 p1 hk hz hms; omega
    | succ f ih =>
      intro p M1 p1 hk hz hms
      have e4 : M1 50 4 = M 50 4 := hk 50 4 (by decide) (by decide)
      have eU : M1 51 p = M 51 p := hk 51 p (by decide) (by decide)
      have eL : M1 52 p = M 52 p := hk 52 p (by decide) (by decide)
      have hu := hU p
      refine hgo.1 30 [3] 3 _ _ _ ?_
      refine And.intro ?_ ?_
      · intro (c1 : (M1 50 4) ≤ p)
        show post none M1
        exact k _ hk
      · intro (c1 : p < (M1 50 4))
        refine And.intro ?_ ?_
        · intro (c2 : ¬ (xa_ib 3 (xa_ib 7 x1 p) 1) = 1)
          show Q 3 [(4, (0, 0, 1, 9, p + 1)), (0, (2, 50, 0, 0, 0)), (1, (0, 0, (-2147483648), 2147483647, x1)), (2, (0, 0, 1, 1000000, x2)), (3, (2, 48, 0, 0, 0))] [] M1
          refine hgo.2.1 3 _ [(4, (0, 0, 0, 8, p + 1)), (0, (2, 50, 0, 0, 0)), (1, (0, 0, (-2147483648), 2147483647, x1)), (2, (0, 0, 1, 1000000, x2)), (3, (2, 48, 0, 0, 0))] _ _ (xa_subI rfl rfl (fun _ _ _ _ => by omega) (xa_subR rfl (xa_subI rfl rfl (fun _ _ _ _ => by omega) (xa_subI rfl rfl (fun _ _ _ _ => by omega) (xa_subR rfl (xa_sub0)))))) ?_
          exact ih (p + 1) _ (by omega) (fun q j h1 h2 => hk q j h1 h2) (by exact hz) (by omega)
        · intro (c2 : (xa_ib 3 (xa_ib 7 x1 p) 1) = 1)
          show xa_C (xl_I b) A h0 _ 65 [(2, 50, 0, 0, 0), (0, 0, 0, 8, p)] M1 _
          refine cx_65_50 (show 0 ≤ p ∧ p < 8 by omega) ?_
          show xa_C (xl_I b) A h0 _ 64 [(2, 50, 0, 0, 0), (0, 0, 0, 8, p)] M1 _
          refine cx_64_50 (show 0 ≤ p ∧ p < 8 by omega) ?_
          show xa_C (xl_I b) A h0 _ 21 [(1, 0, (-2147483648000000), 2147483647000000, (M1 51 p) * x2), (1, 0, (-2147483648), 2147483647, M1 52 p)] M1 _
          have mp := xm_mulp (p := M1 51 p) (q := x2) (a := 2000) (b := 1000000) (by omega) (by omega) (by omega) (by omega)
          have dq0 := Int.ediv_nonneg (show 0 ≤ (M1 51 p) * x2 by omega) (show 0 ≤ M1 52 p by omega)
          have dq1 := Int.ediv_le_self (M1 52 p) (show 0 ≤ (M1 51 p) * x2 by omega)
          refine cx_21f 0 2000000000 (by omega) (by omega) (by omega) ?_
          show xa_C (xl_I b) A h0 _ 60 [(2, 48, 0, 0, 0), (1, 0, 0, 2000000000, ((M1 51 p) * x2) / (M1 52 p))] M1 _
          refine cx_60_48 (show (0 : Int) ≤ (M1 48 1) by omega) ?_ ?_
          · intro (i3 : 16 ≤ (M1 48 1))
            show Q 3 [(4, (0, 0, 1, 9, p + 1)), (0, (2, 50, 0, 0, 0)), (1, (0, 0, (-2147483648), 2147483647, x1)), (2, (0, 0, 1, 1000000, x2)), (3, (2, 48, 0, 0, 0))] [] M1
            refine hgo.2.1 3 _ [(4, (0, 0, 0, 8, p + 1)), (0, (2, 50, 0, 0, 0)), (1, (0, 0, (-2147483648), 2147483647, x1)), (2, (0, 0, 1, 1000000, x2)), (3, (2, 48, 0, 0, 0))] _ _ (xa_subI rfl rfl (fun _ _ _ _ => by omega) (xa_subR rfl (xa_subI rfl rfl (fun _ _ _ _ => by omega) (xa_subI rfl rfl (fun _ _ _ _ => by omega) (xa_subR rfl (xa_sub0)))))) ?_
            exact ih (p + 1) _ (by omega) (fun q j h1 h2 => hk q j h1 h2) (by exact hz) (by omega)
          · intro (i4 : (M1 48 1) < 16)
            show Q 3 [(4, (0, 0, 1, 9, p + 1)), (0, (2, 50, 0, 0, 0)), (1, (0, 0, (-2147483648), 2147483647, x1)), (2, (0, 0, 1, 1000000, x2)), (3, (2, 48, 0, 0, 0))] [] (xa_up (xa_up M1 49 (M1 48 1) (((M1 51 p) * x2) / (M1 52 p))) 48 1 (xa_w32 ((M1 48 1) + 1)))
            have e9 := xa_w32_id (n := M1 48 1 + 1) (by omega) (by omega)
            refine hgo.2.1 3 _ [(4, (0, 0, 0, 8, p + 1)), (0, (2, 50, 0, 0, 0)), (1, (0, 0, (-2147483648), 2147483647, x1)), (2, (0, 0, 1, 1000000, x2)), (3, (2, 48, 0, 0, 0))] _ _ (xa_subI rfl rfl (fun _ _ _ _ => by omega) (xa_subR rfl (xa_subI rfl rfl (fun _ _ _ _ => by omega) (xa_subI rfl rfl (fun _ _ _ _ => by omega) (xa_subR rfl (xa_sub0)))))) ?_
            exact ih (p + 1) _ (by omega) (fun q j h1 h2 => (xa_up_ne (by omega)).trans ((xa_up_ne (by omega)).trans (hk q j h1 h2))) (by show 0 ≤ (xa_w32 ((M1 48 1) + 1)) ∧ (xa_w32 ((M1 48 1) + 1)) ≤ 16; omega) (by omega)
  refine hgo.1 7 [3] 0 _ _ _ ?_
  show Q 3 [(4, (0, 0, 0, 0, 0)), (0, (2, 50, 0, 0, 0)), (1, (0, 0, (-2147483648), 2147483647, x1)), (2, (0, 0, 1, 1000000, x2)), (3, (2, 48, 0, 0, 0))] [] M
  refine hgo.2.1 3 _ [(4, (0, 0, 0, 8, 0)), (0, (2, 50, 0, 0, 0)), (1, (0, 0, (-2147483648), 2147483647, x1)), (2, (0, 0, 1, 1000000, x2)), (3, (2, 48, 0, 0, 0))] _ _ (xa_subI rfl rfl (fun _ _ _ _ => by omega) (xa_subR rfl (xa_subI rfl rfl (fun _ _ _ _ => by omega) (xa_subI rfl rfl (fun _ _ _ _ => by omega) (xa_subR rfl (xa_sub0)))))) ?_
  exact loop 9 0 M (by omega) (fun _ _ _ _ => rfl) hz (by omega)
theorem cx_133_50 {b : Bool} {A : Nat → Nat} {h0 : g_H} {d : Nat} {M : xa_M} {post : Option xa_V → xa_M → Prop} {l1 u1 : Int} {x1 : Int} (k1 : (x1 ≤ 0) → post (some (0, 0, 0, 0, 0)) M) (k2 : (0 < x1) → ((xa_ib 6 1 (M 50 4)) ≤ x1) → post (some (0, 0, 0, 0, 0)) M) (k3 : (0 < x1) → (x1 < (xa_ib 6 1 (M 50 4))) → post (some (0, 0, 1, 1, 1)) M) : xa_C (xl_I b) A h0 (d + 1) 133 [(2, 50, 0, 0, 0), (0, 0, l1, u1, x1)] M post := by
  refine xa_C_arg [(2, 50, 0, 0, 0), (0, 0, (-2147483648), 2147483647, x1)] (xa_svR (xa_svI (fun _ _ _ _ => by omega) (xa_sv0))) ?_
  refine xa_meth (Q0 := (2, 2, false, 0, 0, 0)) (by decide +kernel) ⟨rfl, rfl⟩ (full := s_c_133) rfl rfl ?_
  intro hM hv Q hgo
  refine hgo.1 15 [] 0 _ _ _ ?_
  refine And.intro ?_ ?_
  · intro (c1 : x1 ≤ 0)
    show post (some (0, 0, 0, 0, 0)) M
    exact k1 c1
  · intro (c1 : 0 < x1)
    refine And.intro ?_ ?_
    · intro (c2 : (xa_ib 6 1 (M 50 4)) ≤ x1)
      show post (some (0, 0, 0, 0, 0)) M
      exact k2 c1 c2
    · intro (c2 : x1 < (xa_ib 6 1 (M 50 4)))
      show post (some (0, 0, 1, 1, 1)) M
      exact k3 c1 c2
theorem cw_167_50 {A : Nat → Nat} {h0 : g_H} {d : Nat} {M : xa_M} {post : Option xa_V → xa_M → Prop} {l1 u1 x1 : Int} (hp : 0 ≤ M 50 4 ∧ M 50 4 ≤ 8) (hU : ∀ i, 0 ≤ i → i < M 50 4 → (1 ≤ M 51 i ∧ M 51 i ≤ 2000) ∧ (1 ≤ M 52 i ∧ M 52 i ≤ 2000)) (k : ∀ (r : Int) (M1 : xa_M), r = mt_r x1 (xa_ib 6 1 (M 50 4)) (mt_y (fun p => xa_ib 3 (xa_ib 7 x1 p) 1 = 1) (mt_d (M 52) (M 51)) (M 50 4).toNat) → (∀ q j, ¬ q = 48 → ¬ q = 49 → M1 q j = M q j) → post (some (0, 0, (-2), 1000000, r)) M1) : xa_C (xl_I false) A h0 (d + 4) 167 [(2, 0, 0, 0, 0), (0, 0, l1, u1, x1)] M post := by
  refine xa_C_wk ?_
  refine xa_C_arg [(2, 0, 0, 0, 0), (0, 0, (-2147483648), 2147483647, x1)] (xa_svR (xa_svI (fun _ _ _ _ => by omega) xa_sv0)) ?_
  refine xa_meth (Q0 := (3, 1, false, 0, 0, 11)) (by decide +kernel) ⟨rfl, rfl⟩ (full := s_c_167) rfl rfl ?_
  intro hM hv Q hgo
  refine hgo.1 29 [] 0 _ _ _ ?_
  show xa_C (xl_I false) A h0 _ 133 [(2, 50, 0, 0, 0), (0, 0, (-2147483648), 2147483647, x1)] M _
  refine cx_133_50 ?_ ?_ ?_
  · intro (i1 : x1 ≤ 0)
    show xa_wk post (some (0, 0, (-1), (-1), (-1))) M
    exact xa_wkI (-1) rfl (fun _ _ => by omega) (k _ _ (mt_r1 (by omega)).symm (fun _ _ _ _ => rfl))
  · intro (i2 : 0 < x1) (i3 : (xa_ib 6 1 (M 50 4)) ≤ x1)
    show xa_wk post (some (0, 0, (-1), (-1), (-1))) M
    exact xa_wkI (-1) rfl (fun _ _ => by omega) (k _ _ (mt_r1 (by omega)).symm (fun _ _ _ _ => rfl))
  · intro (i4 : 0 < x1) (i5 : x1 < (xa_ib 6 1 (M 50 4)))
    show xa_C (xl_I false) A h0 _ 168 [(2, 50, 0, 0, 0), (0, 0, (-2147483648), 2147483647, x1)] M _
    refine cx_168_50 hp hU ?_
    intro r144 (i6 : r144 = -1 ∨ (1 ≤ r144 ∧ r144 ≤ 1000000)) (i7 : r144 = (mt_y (fun p => xa_ib 3 (xa_ib 7 x1 p) 1 = 1) (mt_d (M 52) (M 51)) (M 50 4).toNat))
    refine And.intro ?_ ?_
    · intro (c8 : ¬ r144 = (-1))
      show xa_C (xl_I false) A h0 _ 59 [(2, 48, 0, 0, 0)] M _
      refine cx_59_48 ?_
      show xa_C (xl_I false) A h0 _ 169 [(2, 50, 0, 0, 0), (0, 0, (-2147483648), 2147483647, x1), (0, 0, (-1), 1000000, r144), (2, 48, 0, 0, 0)] (xa_up M 48 1 0) _
      refine cx_169_50 hp hU (by omega) (by show 0 ≤ (0 : Int) ∧ (0 : Int) ≤ 16; omega) ?_
      intro M145 (i9 : ∀ q j, ¬ q = 48 → ¬ q = 49 → M145 q j = (xa_up M 48 1 0) q j)
      show xa_wk post (some (0, 0, (-1), 1000000, r144)) M145
      exact xa_wkI _ rfl (fun _ _ => by omega) (k _ _ (by rw [mt_r3 (by omega) (by rw [← i7]; omega)]; exact i7) (fun q j h1 h2 => (i9 q j h1 h2).trans (xa_up_ne (by omega))))
    · intro (c8 : r144 = (-1))
      show xa_wk post (some (0, 0, (-2), (-2), (-2))) M
      exact xa_wkI (-2) rfl (fun _ _ => by omega) (k _ _ (mt_r2 (by omega) (by rw [← i7]; omega)).symm (fun _ _ _ _ => rfl))
theorem cx_64_55 {b : Bool} {A : Nat → Nat} {h0 : g_H} {d : Nat} {M : xa_M} {post : Option xa_V → xa_M → Prop} {l1 u1 : Int} {x1 : Int} (h1 : 0 ≤ x1 ∧ x1 < 8) (k1 : post (some (1, 0, (-2147483648), 2147483647, M 57 x1)) M) : xa_C (xl_I b) A h0 (d + 2) 64 [(2, 55, 0, 0, 0), (0, 0, l1, u1, x1)] M post := by
  refine xa_C_arg [(2, 55, 0, 0, 0), (0, 0, (-2147483648), 2147483647, x1)] (xa_svR (xa_svI (fun _ _ _ _ => by omega) (xa_sv0))) ?_
  refine xa_meth (Q0 := (2, 3, false, 0, 0, 0)) (by decide +kernel) ⟨rfl, rfl⟩ (full := s_c_64) rfl rfl ?_
  intro hM hv Q hgo
  refine hgo.1 10 [] 0 _ _ _ ?_
  show xa_C (xl_I b) A h0 _ 23 [(2, 57, 0, 0, 0), (0, 0, (-2147483648), 2147483647, x1)] M _
  refine cx_23_57 (show 0 ≤ x1 ∧ x1 < 8 by omega) ?_
  show post (some (1, 0, (-2147483648), 2147483647, M 57 x1)) M
  exact k1
theorem cx_65_55 {b : Bool} {A : Nat → Nat} {h0 : g_H} {d : Nat} {M : xa_M} {post : Option xa_V → xa_M → Prop} {l1 u1 : Int} {x1 : Int} (h1 : 0 ≤ x1 ∧ x1 < 8) (k1 : post (some (1, 0, (-2147483648), 2147483647, M 56 x1)) M) : xa_C (xl_I b) A h0 (d + 2) 65 [(2, 55, 0, 0, 0), (0, 0, l1, u1, x1)] M post := by
  refine xa_C_arg [(2, 55, 0, 0, 0), (0, 0, (-2147483648), 2147483647, x1)] (xa_svR (xa_svI (fun _ _ _ _ => by omega) (xa_sv0))) ?_
  refine xa_meth (Q0 := (2, 3, false, 0, 0, 0)) (by decide +kernel) ⟨rfl, rfl⟩ (full := s_c_65) rfl rfl ?_
  intro hM hv Q hgo
  refine hgo.1 10 [] 0 _ _ _ ?_
  show xa_C (xl_I b) A h0 _ 23 [(2, 56, 0, 0, 0), (0, 0, (-2147483648), 2147483647, x1)] M _
  refine cx_23_56 (show 0 ≤ x1 ∧ x1 < 8 by omega) ?_
  show post (some (1, 0, (-2147483648), 2147483647, M 56 x1)) M
  exact k1
theorem cx_168_55 {b : Bool} {A : Nat → Nat} {h0 : g_H} {d : Nat} {M : xa_M} {post : Option xa_V → xa_M → Prop} {l1 u1 x1 : Int} (hp : 0 ≤ M 55 4 ∧ M 55 4 ≤ 8) (hU : ∀ i, 0 ≤ i → i < M 55 4 → (1 ≤ M 56 i ∧ M 56 i ≤ 2000) ∧ (1 ≤ M 57 i ∧ M 57 i ≤ 2000)) (k : ∀ r : Int, (r = -1 ∨ (1 ≤ r ∧ r ≤ 1000000)) → r = (mt_y (fun p => xa_ib 3 (xa_ib 7 x1 p) 1 = 1) (mt_d (M 57) (M 56)) (M 55 4).toNat) → post (some (0, 0, (-1), 1000000, r)) M) : xa_C (xl_I b) A h0 (d + 3) 168 [(2, 55, 0, 0, 0), (0, 0, l1, u1, x1)] M post := by
  refine xa_C_wk ?_
  refine xa_C_arg [(2, 55, 0, 0, 0), (0, 0, (-2147483648), 2147483647, x1)] (xa_svR (xa_svI (fun _ _ _ _ => by omega) xa_sv0)) ?_
  refine xa_meth (Q0 := (7, 1, false, 0, 0, 0)) (by decide +kernel) ⟨rfl, rfl⟩ (full := s_c_168) rfl rfl ?_
  intro hM hv Q hgo
  have loop : ∀ (f : Nat) (p y : Int), 0 ≤ p ∧ p ≤ 8 → p ≤ M 55 4 → 1 ≤ y ∧ y ≤ 1000000 → y = (mt_y (fun p => xa_ib 3 (xa_ib 7 x1 p) 1 = 1) (mt_d (M 57) (M 56)) p.toNat) → 8 - p < (f : Int) → Q 5 [(4, (0, 0, 0, 8, p)), (2, (1, 0, 1, 1000000, y)), (0, (2, 55, 0, 0, 0)), (1, (0, 0, (-2147483648), 2147483647, x1))] [] M := by
    intro f
    induction f with
    | zero => intro p y p1 p2 y1 hy hms; omega
    | succ f ih =>
      intro p y p1 p2 y1 hy hms
      have hu := hU p
      refine hgo.1 41 [5] 5 _ _ _ ?_
      refine And.intro ?_ ?_
      · intro (c1 : (M 55 4) ≤ p)
        show xa_wk post (some (0, 0, 1, 1000000, y)) M
        exact xa_wkI y rfl (fun _ _ => by omega) (k y (by omega) (by rw [hy, show p = M 55 4 by omega]))
      · intro (c1 : p < (M 55 4))
        refine And.intro ?_ ?_
        · intro (c2 : ¬ (xa_ib 3 (xa_ib 7 x1 p) 1) = 1)
          show Q 5 [(4, (0, 0, 1, 9, p + 1)), (2, (1, 0, 1, 1000000, y)), (0, (2, 55, 0, 0, 0)), (1, (0, 0, (-2147483648), 2147483647, x1))] [] M
          have ei : ((p.toNat : Nat) : Int) = p := Int.toNat_of_nonneg (by omega)
          have en : y = (mt_y (fun p => xa_ib 3 (xa_ib 7 x1 p) 1 = 1) (mt_d (M 57) (M 56)) (p + 1).toNat) := by
            rw [show (p + 1).toNat = p.toNat + 1 by omega, mt_y0 (by rw [← hy]; omega) (by rw [ei]; exact c2), ← hy]
          refine hgo.2.1 5 _ [(4, (0, 0, 0, 8, p + 1)), (2, (1, 0, 1, 1000000, y)), (0, (2, 55, 0, 0, 0)), (1, (0, 0, (-2147483648), 2147483647, x1))] _ _ (xa_subI rfl rfl (fun _ _ _ _ => by omega) (xa_subL rfl rfl (fun _ _ _ _ => by omega) (xa_subR rfl (xa_subI rfl rfl (fun _ _ _ _ => by omega) (xa_sub0))))) ?_
          exact ih (p + 1) _ (by omega) (by omega) (by omega) en (by omega)
        · intro (c2 : (xa_ib 3 (xa_ib 7 x1 p) 1) = 1)
          show xa_C (xl_I b) A h0 _ 64 [(2, 55, 0, 0, 0), (0, 0, 0, 8, p)] M _
          refine cx_64_55 (show 0 ≤ p ∧ p < 8 by omega) ?_
          show xa_C (xl_I b) A h0 _ 65 [(2, 55, 0, 0, 0), (0, 0, 0, 8, p)] M _
          refine cx_65_55 (show 0 ≤ p ∧ p < 8 by omega) ?_
          show xa_C (xl_I b) A h0 _ 64 [(2, 55, 0, 0, 0), (0, 0, 0, 8, p)] M _
          refine cx_64_55 (show 0 ≤ p ∧ p < 8 by omega) ?_
          show xa_C (xl_I b) A h0 _ 55 [(1, 0, (-2147483648), 2147483647, M 56 p), (1, 0, (-2147483648), 2147483647, M 57 p)] M _
          refine cx_55p (by omega) (by omega) ?_
          intro g146 (i3 : g146 = (Int.gcd (M 56 p) (M 57 p) : Int)) (i4 : 1 ≤ g146) (i5 : g146 ≤ (M 56 p)) (i6 : g146 ≤ (M 57 p))
          have dg146 := xm_edb (g := g146) (y := (M 57 p)) (B := 2000) (by omega) (by omega) (by omega)
          show xa_C (xl_I b) A h0 _ 21 [(1, 0, (-2147483648), 2147483647, M 57 p), (1, 0, 0, 4294967296, g146)] M _
          refine cx_21f 1 2000 (by omega) (by omega) (by omega) ?_
          show xa_C (xl_I b) A h0 _ 55 [(1, 0, 1, 1000000, y), (1, 0, 1, 2000, (M 57 p) / g146)] M _
          refine cx_55p (by omega) (by omega) ?_
          intro g147 (i7 : g147 = (Int.gcd y ((M 57 p) / g146) : Int)) (i8 : 1 ≤ g147) (i9 : g147 ≤ y) (i10 : g147 ≤ ((M 57 p) / g146))
          have dg147 := xm_edb (g := g147) (y := ((M 57 p) / g146)) (B := 2000) (by omega) (by omega) (by omega)
          have mg147 := xm_mulp (p := y) (q := ((M 57 p) / g146) / g147) (a := 1000000) (b := 2000) (by omega) (by omega) (by omega) (by omega)
          show xa_C (xl_I b) A h0 _ 21 [(1, 0, 1, 2000, (M 57 p) / g146), (1, 0, 0, 4294967296, g147)] M _
          refine cx_21f 1 2000 (by omega) (by omega) (by omega) ?_
          refine And.intro ?_ ?_
          · intro (c11 : (y * (((M 57 p) / g146) / g147)) ≤ 1000000)
            show Q 5 [(4, (0, 0, 1, 9, p + 1)), (2, (1, 0, 1, 2000000000, y * (((M 57 p) / g146) / g147))), (5, (1, 0, 1, 2000, (M 57 p) / g146)), (0, (2, 55, 0, 0, 0)), (1, (0, 0, (-2147483648), 2147483647, x1))] [] M
            have ei : ((p.toNat : Nat) : Int) = p := Int.toNat_of_nonneg (by omega)
            have ed : mt_d (M 57) (M 56) p = M 57 p / g146 := by
              rw [i3]
              rfl
            have en : y * (((M 57 p) / g146) / g147) = (mt_y (fun p => xa_ib 3 (xa_ib 7 x1 p) 1 = 1) (mt_d (M 57) (M 56)) (p + 1).toNat) := by
              rw [show (p + 1).toNat = p.toNat + 1 by omega, mt_y1 (by rw [← hy]; omega) (by rw [ei]; exact c2), ei, ed, ← hy, mt_s0 (by rw [← i7]; omega), ← i7]
            refine hgo.2.1 5 _ [(4, (0, 0, 0, 8, p + 1)), (2, (1, 0, 1, 1000000, y * (((M 57 p) / g146) / g147))), (0, (2, 55, 0, 0, 0)), (1, (0, 0, (-2147483648), 2147483647, x1))] _ _ (xa_subI rfl rfl (fun _ _ _ _ => by omega) (xa_subL rfl rfl (fun _ _ _ _ => by omega) (xa_subR rfl (xa_subI rfl rfl (fun _ _ _ _ => by omega) (xa_sub0))))) ?_
            exact ih (p + 1) _ (by omega) (by omega) (by omega) en (by omega)
          · intro (c11 : 1000000 < (y * (((M 57 p) / g146) / g147)))
            show xa_wk post (some (0, 0, (-1), (-1), (-1))) M
            have ei : ((p.toNat : Nat) : Int) = p := Int.toNat_of_nonneg (by omega)
            have ed : mt_d (M 57) (M 56) p = M 57 p / g146 := by
              rw [i3]
              rfl
            have en : (mt_y (fun p => xa_ib 3 (xa_ib 7 x1 p) 1 = 1) (mt_d (M 57) (M 56)) (p.toNat + 1)) = -1 := by
              rw [mt_y1 (by rw [← hy]; omega) (by rw [ei]; exact c2), ei, ed, ← hy]
              exact mt_s1 (by rw [← i7]; omega)
            exact xa_wkI (-1) rfl (fun _ _ => by omega) (k (-1) (by omega) (mt_yn en (by omega)).symm)
  refine hgo.1 9 [5] 0 _ _ _ ?_
  show Q 5 [(4, (0, 0, 0, 0, 0)), (2, (1, 0, 1, 1, 1)), (0, (2, 55, 0, 0, 0)), (1, (0, 0, (-2147483648), 2147483647, x1))] [] M
  refine hgo.2.1 5 _ [(4, (0, 0, 0, 8, 0)), (2, (1, 0, 1, 1000000, 1)), (0, (2, 55, 0, 0, 0)), (1, (0, 0, (-2147483648), 2147483647, x1))] _ _ (xa_subI rfl rfl (fun _ _ _ _ => by omega) (xa_subL rfl rfl (fun _ _ _ _ => by omega) (xa_subR rfl (xa_subI rfl rfl (fun _ _ _ _ => by omega) (xa_sub0))))) ?_
  exact loop 9 0 1 (by omega) (by omega) (by omega) rfl (by omega)
theorem cx_169_55 {b : Bool} {A : Nat → Nat} {h0 : g_H} {d : Nat} {M : xa_M} {post : Option xa_V → xa_M → Prop} {l1 u1 l2 u2 x1 x2 : Int} (hp : 0 ≤ M 55 4 ∧ M 55 4 ≤ 8) (hU : ∀ i, 0 ≤ i → i < M 55 4 → (1 ≤ M 56 i ∧ M 56 i ≤ 2000) ∧ (1 ≤ M 57 i ∧ M 57 i ≤ 2000)) (hx : 1 ≤ x2 ∧ x2 ≤ 1000000) (hz : 0 ≤ M 48 1 ∧ M 48 1 ≤ 16) (k : ∀ M1 : xa_M, (∀ q j, ¬ q = 48 → ¬ q = 49 → M1 q j = M q j) → post none M1) : xa_C (xl_I b) A h0 (d + 3) 169 [(2, 55, 0, 0, 0), (0, 0, l1, u1, x1), (0, 0, l2, u2, x2), (2, 48, 0, 0, 0)] M post := by
  refine xa_C_arg [(2, 55, 0, 0, 0), (0, 0, (-2147483648), 2147483647, x1), (0, 0, 1, 1000000, x2), (2, 48, 0, 0, 0)] (xa_svR (xa_svI (fun _ _ _ _ => by omega) (xa_svI (fun _ _ _ _ => by omega) (xa_svR xa_sv0)))) ?_
  refine xa_meth (Q0 := (5, 0, false, 0, 0, 0)) (by decide +kernel) ⟨rfl, rfl⟩ (full := s_c_169) rfl rfl ?_
  intro hM hv Q hgo
  have loop : ∀ (f : Nat) (p : Int) (M1 : xa_M), 0 ≤ p ∧ p ≤ 8 → (∀ q j, ¬ q = 48 → ¬ q = 49 → M1 q j = M q j) → 0 ≤ M1 48 1 ∧ M1 48 1 ≤ 16 → 8 - p < (f : Int) → Q 3 [(4, (0, 0, 0, 8, p)), (0, (2, 55, 0, 0, 0)), (1, (0, 0, (-2147483648), 2147483647, x1)), (2, (0, 0, 1, 1000000, x2)), (3, (2, 48, 0, 0, 0))] [] M1 := by
    intro f
    induction f with
    | zero => intro p M1 p1 hk hz hms; omega
    | succ f ih =>
      intro p M1 p1 hk hz hms
      have e4 : M1 55 4 = M 55 4 := hk 55 4 (by decide) (by decide)
      have eU : M1 56 p = M 56 p := hk 56 p (by decide) (by decide)
      have eL : M1 57 p = M 57 p := hk 57 p (by decide) (by decide)
      have hu := hU p
      refine hgo.1 30 [3] 3 _ _ _ ?_
      refine And.intro ?_ ?_
      · intro (c1 : (M1 55 4) ≤ p)
        show post none M1
        exact k _ hk
      · intro (c1 : p < (M1 55 4))
        refine And.intro ?_ ?_
        · intro (c2 : ¬ (xa_ib 3 (xa_ib 7 x1 p) 1) = 1)
          show Q 3 [(4, (0, 0, 1, 9, p + 1)), (0, (2, 55, 0, 0, 0)), (1, (0, 0, (-2147483648), 2147483647, x1)), (2, (0, 0, 1, 1000000, x2)), (3, (2, 48, 0, 0, 0))] [] M1
          refine hgo.2.1 3 _ [(4, (0, 0, 0, 8, p + 1)), (0, (2, 55, 0, 0, 0)), (1, (0, 0, (-2147483648), 2147483647, x1)), (2, (0, 0, 1, 1000000, x2)), (3, (2, 48, 0, 0, 0))] _ _ (xa_subI rfl rfl (fun _ _ _ _ => by omega) (xa_subR rfl (xa_subI rfl rfl (fun _ _ _ _ => by omega) (xa_subI rfl rfl (fun _ _ _ _ => by omega) (xa_subR rfl (xa_sub0)))))) ?_
          exact ih (p + 1) _ (by omega) (fun q j h1 h2 => hk q j h1 h2) (by exact hz) (by omega)
        · intro (c2 : (xa_ib 3 (xa_ib 7 x1 p) 1) = 1)
          show xa_C (xl_I b) A h0 _ 65 [(2, 55, 0, 0, 0), (0, 0, 0, 8, p)] M1 _
          refine cx_65_55 (show 0 ≤ p ∧ p < 8 by omega) ?_
          show xa_C (xl_I b) A h0 _ 64 [(2, 55, 0, 0, 0), (0, 0, 0, 8, p)] M1 _
          refine cx_64_55 (show 0 ≤ p ∧ p < 8 by omega) ?_
          show xa_C (xl_I b) A h0 _ 21 [(1, 0, (-2147483648000000), 2147483647000000, (M1 56 p) * x2), (1, 0, (-2147483648), 2147483647, M1 57 p)] M1 _
          have mp := xm_mulp (p := M1 56 p) (q := x2) (a := 2000) (b := 1000000) (by omega) (by omega) (by omega) (by omega)
          have dq0 := Int.ediv_nonneg (show 0 ≤ (M1 56 p) * x2 by omega) (show 0 ≤ M1 57 p by omega)
          have dq1 := Int.ediv_le_self (M1 57 p) (show 0 ≤ (M1 56 p) * x2 by omega)
          refine cx_21f 0 2000000000 (by omega) (by omega) (by omega) ?_
          show xa_C (xl_I b) A h0 _ 60 [(2, 48, 0, 0, 0), (1, 0, 0, 2000000000, ((M1 56 p) * x2) / (M1 57 p))] M1 _
          refine cx_60_48 (show (0 : Int) ≤ (M1 48 1) by omega) ?_ ?_
          · intro (i3 : 16 ≤ (M1 48 1))
            show Q 3 [(4, (0, 0, 1, 9, p + 1)), (0, (2, 55, 0, 0, 0)), (1, (0, 0, (-2147483648), 2147483647, x1)), (2, (0, 0, 1, 1000000, x2)), (3, (2, 48, 0, 0, 0))] [] M1
            refine hgo.2.1 3 _ [(4, (0, 0, 0, 8, p + 1)), (0, (2, 55, 0, 0, 0)), (1, (0, 0, (-2147483648), 2147483647, x1)), (2, (0, 0, 1, 1000000, x2)), (3, (2, 48, 0, 0, 0))] _ _ (xa_subI rfl rfl (fun _ _ _ _ => by omega) (xa_subR rfl (xa_subI rfl rfl (fun _ _ _ _ => by omega) (xa_subI rfl rfl (fun _ _ _ _ => by omega) (xa_subR rfl (xa_sub0)))))) ?_
            exact ih (p + 1) _ (by omega) (fun q j h1 h2 => hk q j h1 h2) (by exact hz) (by omega)
          · intro (i4 : (M1 48 1) < 16)
            show Q 3 [(4, (0, 0, 1, 9, p + 1)), (0, (2, 55, 0, 0, 0)), (1, (0, 0, (-2147483648), 2147483647, x1)), (2, (0, 0, 1, 1000000, x2)), (3, (2, 48, 0, 0, 0))] [] (xa_up (xa_up M1 49 (M1 48 1) (((M1 56 p) * x2) / (M1 57 p))) 48 1 (xa_w32 ((M1 48 1) + 1)))
            have e9 := xa_w32_id (n := M1 48 1 + 1) (by omega) (by omega)
            refine hgo.2.1 3 _ [(4, (0, 0, 0, 8, p + 1)), (0, (2, 55, 0, 0, 0)), (1, (0, 0, (-2147483648), 2147483647, x1)), (2, (0, 0, 1, 1000000, x2)), (3, (2, 48, 0, 0, 0))] _ _ (xa_subI rfl rfl (fun _ _ _ _ => by omega) (xa_subR rfl (xa_subI rfl rfl (fun _ _ _ _ => by omega) (xa_subI rfl rfl (fun _ _ _ _ => by omega) (xa_subR rfl (xa_sub0)))))) ?_
            exact ih (p + 1) _ (by omega) (fun q j h1 h2 => (xa_up_ne (by omega)).trans ((xa_up_ne (by omega)).trans (hk q j h1 h2))) (by show 0 ≤ (xa_w32 ((M1 48 1) + 1)) ∧ (xa_w32 ((M1 48 1) + 1)) ≤ 16; omega) (by omega)
  refine hgo.1 7 [3] 0 _ _ _ ?_
  show Q 3 [(4, (0, 0, 0, 0, 0)), (0, (2, 55, 0, 0, 0)), (1, (0, 0, (-2147483648), 2147483647, x1)), (2, (0, 0, 1, 1000000, x2)), (3, (2, 48, 0, 0, 0))] [] M
  refine hgo.2.1 3 _ [(4, (0, 0, 0, 8, 0)), (0, (2, 55, 0, 0, 0)), (1, (0, 0, (-2147483648), 2147483647, x1)), (2, (0, 0, 1, 1000000, x2)), (3, (2, 48, 0, 0, 0))] _ _ (xa_subI rfl rfl (fun _ _ _ _ => by omega) (xa_subR rfl (xa_subI rfl rfl (fun _ _ _ _ => by omega) (xa_subI rfl rfl (fun _ _ _ _ => by omega) (xa_subR rfl (xa_sub0)))))) ?_
  exact loop 9 0 M (by omega) (fun _ _ _ _ => rfl) hz (by omega)
theorem cx_133_55 {b : Bool} {A : Nat → Nat} {h0 : g_H} {d : Nat} {M : xa_M} {post : Option xa_V → xa_M → Prop} {l1 u1 : Int} {x1 : Int} (k1 : (x1 ≤ 0) → post (some (0, 0, 0, 0, 0)) M) (k2 : (0 < x1) → ((xa_ib 6 1 (M 55 4)) ≤ x1) → post (some (0, 0, 0, 0, 0)) M) (k3 : (0 < x1) → (x1 < (xa_ib 6 1 (M 55 4))) → post (some (0, 0, 1, 1, 1)) M) : xa_C (xl_I b) A h0 (d + 1) 133 [(2, 55, 0, 0, 0), (0, 0, l1, u1, x1)] M post := by
  refine xa_C_arg [(2, 55, 0, 0, 0), (0, 0, (-2147483648), 2147483647, x1)] (xa_svR (xa_svI (fun _ _ _ _ => by omega) (xa_sv0))) ?_
  refine xa_meth (Q0 := (2, 2, false, 0, 0, 0)) (by decide +kernel) ⟨rfl, rfl⟩ (full := s_c_133) rfl rfl ?_
  intro hM hv Q hgo
  refine hgo.1 15 [] 0 _ _ _ ?_
  refine And.intro ?_ ?_
  · intro (c1 : x1 ≤ 0)
    show post (some (0, 0, 0, 0, 0)) M
    exact k1 c1
  · intro (c1 : 0 < x1)
    refine And.intro ?_ ?_
    · intro (c2 : (xa_ib 6 1 (M 55 4)) ≤ x1)
      show post (some (0, 0, 0, 0, 0)) M
      exact k2 c1 c2
    · intro (c2 : x1 < (xa_ib 6 1 (M 55 4)))
      show post (some (0, 0, 1, 1, 1)) M
      exact k3 c1 c2
theorem cw_167_55 {A : Nat → Nat} {h0 : g_H} {d : Nat} {M : xa_M} {post : Option xa_V → xa_M → Prop} {l1 u1 x1 : Int} (hp : 0 ≤ M 55 4 ∧ M 55 4 ≤ 8) (hU : ∀ i, 0 ≤ i → i < M 55 4 → (1 ≤ M 56 i ∧ M 56 i ≤ 2000) ∧ (1 ≤ M 57 i ∧ M 57 i ≤ 2000)) (k : ∀ (r : Int) (M1 : xa_M), r = mt_r x1 (xa_ib 6 1 (M 55 4)) (mt_y (fun p => xa_ib 3 (xa_ib 7 x1 p) 1 = 1) (mt_d (M 57) (M 56)) (M 55 4).toNat) → (∀ q j, ¬ q = 48 → ¬ q = 49 → M1 q j = M q j) → post (some (0, 0, (-2), 1000000, r)) M1) : xa_C (xl_I true) A h0 (d + 4) 167 [(2, 0, 0, 0, 0), (0, 0, l1, u1, x1)] M post := by
  refine xa_C_wk ?_
  refine xa_C_arg [(2, 0, 0, 0, 0), (0, 0, (-2147483648), 2147483647, x1)] (xa_svR (xa_svI (fun _ _ _ _ => by omega) xa_sv0)) ?_
  refine xa_meth (Q0 := (3, 1, false, 0, 0, 11)) (by decide +kernel) ⟨rfl, rfl⟩ (full := s_c_167) rfl rfl ?_
  intro hM hv Q hgo
  refine hgo.1 29 [] 0 _ _ _ ?_
  show xa_C (xl_I true) A h0 _ 133 [(2, 55, 0, 0, 0), (0, 0, (-2147483648), 2147483647, x1)] M _
  refine cx_133_55 ?_ ?_ ?_
  · intro (i1 : x1 ≤ 0)
    show xa_wk post (some (0, 0, (-1), (-1), (-1))) M
    exact xa_wkI (-1) rfl (fun _ _ => by omega) (k _ _ (mt_r1 (by omega)).symm (fun _ _ _ _ => rfl))
  · intro (i2 : 0 < x1) (i3 : (xa_ib 6 1 (M 55 4)) ≤ x1)
    show xa_wk post (some (0, 0, (-1), (-1), (-1))) M
    exact xa_wkI (-1) rfl (fun _ _ => by omega) (k _ _ (mt_r1 (by omega)).symm (fun _ _ _ _ => rfl))
  · intro (i4 : 0 < x1) (i5 : x1 < (xa_ib 6 1 (M 55 4)))
    show xa_C (xl_I true) A h0 _ 168 [(2, 55, 0, 0, 0), (0, 0, (-2147483648), 2147483647, x1)] M _
    refine cx_168_55 hp hU ?_
    intro r148 (i6 : r148 = -1 ∨ (1 ≤ r148 ∧ r148 ≤ 1000000)) (i7 : r148 = (mt_y (fun p => xa_ib 3 (xa_ib 7 x1 p) 1 = 1) (mt_d (M 57) (M 56)) (M 55 4).toNat))
    refine And.intro ?_ ?_
    · intro (c8 : ¬ r148 = (-1))
      show xa_C (xl_I true) A h0 _ 59 [(2, 48, 0, 0, 0)] M _
      refine cx_59_48 ?_
      show xa_C (xl_I true) A h0 _ 169 [(2, 55, 0, 0, 0), (0, 0, (-2147483648), 2147483647, x1), (0, 0, (-1), 1000000, r148), (2, 48, 0, 0, 0)] (xa_up M 48 1 0) _
      refine cx_169_55 hp hU (by omega) (by show 0 ≤ (0 : Int) ∧ (0 : Int) ≤ 16; omega) ?_
      intro M149 (i9 : ∀ q j, ¬ q = 48 → ¬ q = 49 → M149 q j = (xa_up M 48 1 0) q j)
      show xa_wk post (some (0, 0, (-1), 1000000, r148)) M149
      exact xa_wkI _ rfl (fun _ _ => by omega) (k _ _ (by rw [mt_r3 (by omega) (by rw [← i7]; omega)]; exact i7) (fun q j h1 h2 => (i9 q j h1 h2).trans (xa_up_ne (by omega))))
    · intro (c8 : r148 = (-1))
      show xa_wk post (some (0, 0, (-2), (-2), (-2))) M
      exact xa_wkI (-2) rfl (fun _ _ => by omega) (k _ _ (mt_r2 (by omega) (by rw [← i7]; omega)).symm (fun _ _ _ _ => rfl))
theorem cw_167 {b : Bool} {A : Nat → Nat} {h0 : g_H} {d : Nat} {M : xa_M} {post : Option xa_V → xa_M → Prop} {l1 u1 x1 : Int} (hp : 0 ≤ M (bk_p b) 4 ∧ M (bk_p b) 4 ≤ 8) (hU : ∀ i, 0 ≤ i → i < M (bk_p b) 4 → (1 ≤ M (bk_p b + 1) i ∧ M (bk_p b + 1) i ≤ 2000) ∧ (1 ≤ M (bk_p b + 2) i ∧ M (bk_p b + 2) i ≤ 2000)) (k : ∀ (r : Int) (M1 : xa_M), r = mt_r x1 (xa_ib 6 1 (M (bk_p b) 4)) (mt_y (fun p => xa_ib 3 (xa_ib 7 x1 p) 1 = 1) (mt_d (M (bk_p b + 2)) (M (bk_p b + 1))) (M (bk_p b) 4).toNat) → (∀ q j, ¬ q = 48 → ¬ q = 49 → M1 q j = M q j) → post (some (0, 0, (-2), 1000000, r)) M1) : xa_C (xl_I b) A h0 (d + 4) 167 [(2, 0, 0, 0, 0), (0, 0, l1, u1, x1)] M post := by
  cases b
  · exact cw_167_50 hp hU k
  · exact cw_167_55 hp hU k
theorem ms_meetsF {A : Nat → Nat} {h0 : g_H} {d : Nat} {M : xa_M} {post : Option xa_V → xa_M → Prop} {l1 u1 : Int} {a : Int} (hI : xm_Inv M) (k : ∀ (lo hi r : Int) (M1 : xa_M), r = mt_r a (xa_ib 6 1 (M 60 11)) (mt_y (fun p => xa_ib 3 (xa_ib 7 a p) 1 = 1) (mt_d (M 71) (M 70)) (M 60 11).toNat) → xm_cor M M1 → post (some (0, 0, lo, hi, r)) M1) : xa_C xm_I A h0 (d + 4) 278 [(2, 60, 0, 0, 0), (0, 0, l1, u1, a)] M post := by
  refine xa_C_arg [(2, 60, 0, 0, 0), (0, 0, (-2147483648), 2147483647, a)] (xa_svR (xa_svI (fun _ _ _ _ => by omega) xa_sv0)) ?_
  refine xa_meth (Q0 := (7, 1, false, 0, 0, 12)) (by decide +kernel) ⟨rfl, rfl⟩ (full := s_c_278) rfl rfl ?_
  intro hM hv Q hgo
  have b0 := xm_f0 hM
  have b6 := xm_f6 hM
  have b61 := xm_f61 hM
  have b11 := xm_f11 hM
  have b15 := xm_f15 hM
  have b16 := xm_f16 hM
  have hlh := hI.2.2.2.1
  have loop1 : ∀ (n : Nat) (x4 x2 x1 : Int) (M1 : xa_M), 0 ≤ x4 ∧ x4 ≤ 8 → 1 ≤ x2 ∧ x2 ≤ 1000000 → xm_cor M M1 → M1 60 20 ≤ x4 → x2 = mt_y (fun p => xa_ib 3 (xa_ib 7 a p) 1 = 1) (mt_d (M 71) (M 70)) (M 60 11).toNat → ¬ (a ≤ 0 ∨ xa_ib 6 1 (M 60 11) ≤ a) → 8 - x4 < (n : Int) → Q 114 [(4, (0, 0, 0, 8, x4)), (2, (1, 0, 1, 1000000, x2)), (1, (0, 0, (-2147483648), 2147483647, x1)), (0, (2, 60, 0, 0, 0))] [] M1 := by
    intro n
    induction n with
    | zero => intro x4 x2 x1 M1 b4 b2 hc h20 hy hv9 hms; omega
    | succ n ih1 =>
      intro x4 x2 x1 M1 b4 b2 hc h20 hy hv9 hms1
      have e0 := xm_corf hc 0 (by omega)
      have e6 := xm_corf hc 6 (by omega)
      have e61 := xm_corf hc 61 (by omega)
      have e11 := xm_corf hc 11 (by omega)
      have e15 := xm_corf hc 15 (by omega)
      have e16 := xm_corf hc 16 (by omega)
      refine hgo.2.2 _ _ _ _ (fun hM1 _ => ?_)
      have t70 : x4 < M1 60 11 → 0 ≤ M1 70 x4 ∧ M1 70 x4 ≤ 2000 := fun h => xm_t70 hM1 x4 (by omega) (by omega)
      have t71 : x4 < M1 60 11 → 0 ≤ M1 71 x4 ∧ M1 71 x4 ≤ 2000 := fun h => xm_t71 hM1 x4 (by omega) (by omega)
      have hpp := (xm_Inv_cor hc hI).2.2.1 x4 (by omega)
      have b20 := xm_f20 hM1
      refine hgo.1 30 [26, 114] 114 _ _ _ ?_
      refine And.intro ?_ ?_
      · intro (c1 : (M1 60 11) ≤ x4)
        show post (some (0, 0, 1, 1000000, x2)) M1
        exact k _ _ _ _ (by rw [mt_r3 hv9 (by rw [← hy]; omega)]; exact hy) hc
      · intro (c1 : x4 < (M1 60 11))
        show xa_C xm_I A h0 _ 248 [(0, 0, (-2147483648), 2147483647, x1), (0, 0, 0, 8, x4)] M1 _
        refine ct_has (fun r2 zr2 er2 => ?_)
        refine And.intro ?_ ?_
        · intro (c3 : r2 = 0)
          show Q 114 [(4, (0, 0, 1, 9, x4 + 1)), (2, (1, 0, 1, 1000000, x2)), (1, (0, 0, (-2147483648), 2147483647, x1)), (0, (2, 60, 0, 0, 0))] [] M1
          refine hgo.2.1 114 _ [(4, (0, 0, 0, 8, x4 + 1)), (2, (1, 0, 1, 1000000, x2)), (1, (0, 0, (-2147483648), 2147483647, x1)), (0, (2, 60, 0, 0, 0))] _ _ (xa_subI rfl rfl (fun _ _ _ _ => by omega) (xa_subL rfl rfl (fun _ _ _ _ => by omega) (xa_subI rfl rfl (fun _ _ _ _ => by omega) (xa_subR rfl xa_sub0)))) ?_
          exact ih1 (x4 + 1) x2 x1 M1 (by omega) (by omega) hc (by first | omega | (simp [xa_up]; done) | (simp [xa_up]; omega)) hy hv9 (by omega)
        · intro (c3 : ¬ r2 = 0)
          refine And.intro (show 0 ≤ x4 ∧ x4 < 8 by omega) ?_
          refine And.intro (show 0 ≤ x4 ∧ x4 < 8 by omega) ?_
          refine And.intro (show 0 < (M1 71 x4) by omega) ?_
          show xa_C xm_I A h0 _ 231 [(2, 60, 0, 0, 0), (1, 0, 0, 2000000000, (x2 * (M1 70 x4)) / (M1 71 x4))] M1 _
          refine ct_tell (n := M1 60 20) (by first | rfl | (simp [xa_up]; done) | omega) (by omega) (by omega) ?_
          show Q 114 [(4, (0, 0, 1, 9, x4 + 1)), (2, (1, 0, 1, 1000000, x2)), (1, (0, 0, (-2147483648), 2147483647, x1)), (0, (2, 60, 0, 0, 0))] [] (xa_up (xa_up M1 74 (M1 60 20) ((x2 * (M1 70 x4)) / (M1 71 x4))) 60 20 ((M1 60 20) + 1))
          refine hgo.2.1 114 _ [(4, (0, 0, 0, 8, x4 + 1)), (2, (1, 0, 1, 1000000, x2)), (1, (0, 0, (-2147483648), 2147483647, x1)), (0, (2, 60, 0, 0, 0))] _ _ (xa_subI rfl rfl (fun _ _ _ _ => by omega) (xa_subL rfl rfl (fun _ _ _ _ => by omega) (xa_subI rfl rfl (fun _ _ _ _ => by omega) (xa_subR rfl xa_sub0)))) ?_
          exact ih1 (x4 + 1) x2 x1 (xa_up (xa_up M1 74 (M1 60 20) ((x2 * (M1 70 x4)) / (M1 71 x4))) 60 20 ((M1 60 20) + 1)) (by omega) (by omega) (xm_cor_f (by omega) (xm_cor_a rfl hc)) (by first | omega | (simp [xa_up]; done) | (simp [xa_up]; omega)) hy hv9 (by omega)
  have loop0 : ∀ (n : Nat) (x4 x2 x1 : Int) (M1 : xa_M), 0 ≤ x4 ∧ x4 ≤ 8 → 1 ≤ x2 ∧ x2 ≤ 1000000 → xm_cor M M1 → x1 = a → x4 ≤ M 60 11 → x2 = mt_y (fun p => xa_ib 3 (xa_ib 7 a p) 1 = 1) (mt_d (M 71) (M 70)) x4.toNat → ¬ (a ≤ 0 ∨ xa_ib 6 1 (M 60 11) ≤ a) → 8 - x4 < (n : Int) → Q 26 [(4, (0, 0, 0, 8, x4)), (2, (1, 0, 1, 1000000, x2)), (1, (0, 0, (-2147483648), 2147483647, x1)), (0, (2, 60, 0, 0, 0))] [] M1 := by
    intro n
    induction n with
    | zero => intro x4 x2 x1 M1 b4 b2 hc ha hn hy hv9 hms; omega
    | succ n ih0 =>
      intro x4 x2 x1 M1 b4 b2 hc ha hn hy hv9 hms0
      have ei : ((x4.toNat : Nat) : Int) = x4 := Int.toNat_of_nonneg (by omega)
      have k70 : M1 70 x4 = M 70 x4 := hc 70 x4 (by unfold xm_scr; omega)
      have k71 : M1 71 x4 = M 71 x4 := hc 71 x4 (by unfold xm_scr; omega)
      have e0 := xm_corf hc 0 (by omega)
      have e6 := xm_corf hc 6 (by omega)
      have e61 := xm_corf hc 61 (by omega)
      have e11 := xm_corf hc 11 (by omega)
      have e15 := xm_corf hc 15 (by omega)
      have e16 := xm_corf hc 16 (by omega)
      refine hgo.2.2 _ _ _ _ (fun hM1 _ => ?_)
      have t70 : x4 < M1 60 11 → 0 ≤ M1 70 x4 ∧ M1 70 x4 ≤ 2000 := fun h => xm_t70 hM1 x4 (by omega) (by omega)
      have t71 : x4 < M1 60 11 → 0 ≤ M1 71 x4 ∧ M1 71 x4 ≤ 2000 := fun h => xm_t71 hM1 x4 (by omega) (by omega)
      have hpp := (xm_Inv_cor hc hI).2.2.1 x4 (by omega)
      refine hgo.1 44 [26, 114] 26 _ _ _ ?_
      refine And.intro ?_ ?_
      · intro (c1 : (M1 60 11) ≤ x4)
        show Q 114 [(4, (0, 0, 0, 0, 0)), (2, (1, 0, 1, 1000000, x2)), (1, (0, 0, (-2147483648), 2147483647, x1)), (0, (2, 60, 0, 0, 0))] [] (xa_up M1 60 20 0)
        refine hgo.2.1 114 _ [(4, (0, 0, 0, 8, 0)), (2, (1, 0, 1, 1000000, x2)), (1, (0, 0, (-2147483648), 2147483647, x1)), (0, (2, 60, 0, 0, 0))] _ _ (xa_subI rfl rfl (fun _ _ _ _ => by omega) (xa_subL rfl rfl (fun _ _ _ _ => by omega) (xa_subI rfl rfl (fun _ _ _ _ => by omega) (xa_subR rfl xa_sub0)))) ?_
        exact loop1 9 0 x2 x1 (xa_up M1 60 20 0) (by omega) (by omega) (xm_cor_f (by omega) hc) (by first | omega | (simp [xa_up]; done) | (simp [xa_up]; omega)) (by rw [hy, show x4 = M 60 11 by omega]) hv9 (by omega)
      · intro (c1 : x4 < (M1 60 11))
        show xa_C xm_I A h0 _ 248 [(0, 0, (-2147483648), 2147483647, x1), (0, 0, 0, 8, x4)] M1 _
        refine ct_has (fun r2 zr2 er2 => ?_)
        refine And.intro ?_ ?_
        · intro (c3 : ¬ r2 = 0)
          refine And.intro (show 0 ≤ x4 ∧ x4 < 8 by omega) ?_
          refine And.intro (show 0 ≤ x4 ∧ x4 < 8 by omega) ?_
          refine And.intro (show 0 ≤ x4 ∧ x4 < 8 by omega) ?_
          show xa_C xm_I A h0 _ 229 [(1, 0, 0, 2000, M1 70 x4), (1, 0, 0, 2000, M1 71 x4)] M1 _
          refine ct_gcd3 (by omega) (by omega) (fun g4 eg4 pg4 qg4 ug4 => ?_)
          have dg4 := xm_edb (g := g4) (y := M1 71 x4) (B := 2000) (by omega) (by omega) (by omega)
          show xa_C xm_I A h0 _ 229 [(1, 0, 1, 1000000, x2), (1, 0, 0, 2000, (M1 71 x4) / g4)] M1 _
          refine ct_gcd3 (by omega) (by omega) (fun g5 eg5 pg5 qg5 ug5 => ?_)
          have dg5 := xm_edb (g := g5) (y := x2) (B := 1000000) (by omega) (by omega) (by omega)
          have mg5 := xm_mulp (p := x2 / g5) (q := M1 71 x4 / g4) (a := 1000000) (b := 2000) (by omega) (by omega) (by omega) (by omega)
          have zg5 := xa_w64_id (n := (x2 / g5) * (M1 71 x4 / g4)) (by omega) (by omega)
          refine And.intro ?_ ?_
          · intro (c6 : ((x2 / g5) * ((M1 71 x4) / g4)) ≤ 1000000)
            show Q 26 [(4, (0, 0, 1, 9, x4 + 1)), (2, (1, 0, 0, 2000000000, (x2 / g5) * ((M1 71 x4) / g4))), (5, (1, 0, 0, 2000, (M1 71 x4) / g4)), (1, (0, 0, (-2147483648), 2147483647, x1)), (0, (2, 60, 0, 0, 0))] [] M1
            refine hgo.2.1 26 _ [(4, (0, 0, 0, 8, x4 + 1)), (2, (1, 0, 1, 1000000, (x2 / g5) * ((M1 71 x4) / g4))), (1, (0, 0, (-2147483648), 2147483647, x1)), (0, (2, 60, 0, 0, 0))] _ _ (xa_subI rfl rfl (fun _ _ _ _ => by omega) (xa_subL rfl rfl (fun _ _ _ _ => by omega) (xa_subI rfl rfl (fun _ _ _ _ => by omega) (xa_subR rfl xa_sub0)))) ?_
            have ed : mt_d (M 71) (M 70) x4 = M1 71 x4 / g4 := by
              rw [eg4, k70, k71]
              rfl
            have en : (x2 / g5) * ((M1 71 x4) / g4) = mt_y (fun p => xa_ib 3 (xa_ib 7 a p) 1 = 1) (mt_d (M 71) (M 70)) (x4 + 1).toNat := by
              rw [show (x4 + 1).toNat = x4.toNat + 1 by omega, mt_y1 (by rw [← hy]; omega) (by rw [ei, ← ha]; exact er2.mp (by omega)), ei, ed, ← hy, mt_s0 (by rw [← mt_swap, ← eg5]; omega), ← mt_swap, ← eg5]
            exact ih0 (x4 + 1) ((x2 / g5) * ((M1 71 x4) / g4)) x1 M1 (by omega) (by omega) hc ha (by omega) en hv9 (by omega)
          · intro (c6 : 1000000 < ((x2 / g5) * ((M1 71 x4) / g4)))
            show post (some (0, 0, (-2), (-2), (-2))) M1
            have ed : mt_d (M 71) (M 70) x4 = M1 71 x4 / g4 := by
              rw [eg4, k70, k71]
              rfl
            have en : mt_y (fun p => xa_ib 3 (xa_ib 7 a p) 1 = 1) (mt_d (M 71) (M 70)) (x4.toNat + 1) = -1 := by
              rw [mt_y1 (by rw [← hy]; omega) (by rw [ei, ← ha]; exact er2.mp (by omega)), ei, ed, ← hy]
              refine mt_s1 ?_
              rw [← mt_swap, ← eg5]
              exact c6
            exact k _ _ _ _ (mt_r2 hv9 (mt_yn en (by omega))).symm hc
        · intro (c3 : r2 = 0)
          show Q 26 [(4, (0, 0, 1, 9, x4 + 1)), (2, (1, 0, 1, 1000000, x2)), (1, (0, 0, (-2147483648), 2147483647, x1)), (0, (2, 60, 0, 0, 0))] [] M1
          refine hgo.2.1 26 _ [(4, (0, 0, 0, 8, x4 + 1)), (2, (1, 0, 1, 1000000, x2)), (1, (0, 0, (-2147483648), 2147483647, x1)), (0, (2, 60, 0, 0, 0))] _ _ (xa_subI rfl rfl (fun _ _ _ _ => by omega) (xa_subL rfl rfl (fun _ _ _ _ => by omega) (xa_subI rfl rfl (fun _ _ _ _ => by omega) (xa_subR rfl xa_sub0)))) ?_
          exact ih0 (x4 + 1) x2 x1 M1 (by omega) (by omega) hc ha (by omega) (by rw [show (x4 + 1).toNat = x4.toNat + 1 by omega, mt_y0 (by rw [← hy]; omega) (by rw [ei, ← ha]; exact fun h => absurd (er2.mpr h) (by omega))]; exact hy) hv9 (by omega)
  refine hgo.1 20 [26, 114] 0 _ _ _ ?_
  refine And.intro ?_ ?_
  · intro (c1 : a ≤ 0)
    show post (some (0, 0, (-1), (-1), (-1))) (xa_up M 60 21 0)
    exact k _ _ _ _ (mt_r1 (by omega)).symm (xm_cor_f (by omega) xm_cor_r)
  · intro (c1 : 0 < a)
    refine And.intro ?_ ?_
    · intro (c2 : a < (xa_ib 6 1 (M 60 11)))
      show Q 26 [(4, (0, 0, 0, 0, 0)), (2, (1, 0, 1, 1, 1)), (0, (2, 60, 0, 0, 0)), (1, (0, 0, (-2147483648), 2147483647, a))] [] (xa_up M 60 21 0)
      refine hgo.2.1 26 _ [(4, (0, 0, 0, 8, 0)), (2, (1, 0, 1, 1000000, 1)), (1, (0, 0, (-2147483648), 2147483647, a)), (0, (2, 60, 0, 0, 0))] _ _ (xa_subI rfl rfl (fun _ _ _ _ => by omega) (xa_subL rfl rfl (fun _ _ _ _ => by omega) (xa_subI rfl rfl (fun _ _ _ _ => by omega) (xa_subR rfl xa_sub0)))) ?_
      exact loop0 9 0 1 a (xa_up M 60 21 0) (by omega) (by omega) (xm_cor_f (by omega) xm_cor_r) rfl (by omega) rfl (by omega) (by omega)
    · intro (c2 : (xa_ib 6 1 (M 60 11)) ≤ a)
      show post (some (0, 0, (-1), (-1), (-1))) (xa_up M 60 21 0)
      exact k _ _ _ _ (mt_r1 (by omega)).symm (xm_cor_f (by omega) xm_cor_r)

