-- meets
set_option maxRecDepth 20000
theorem cx_56 {b : Bool} {A : Nat → Nat} {h0 : g_H} {d : Nat} {M : xa_M} {post : Option xa_V → xa_M → Prop} {l0 u0 : Int} {x1 : Int} (k1 : (0 ≤ x1) → post (some (1, 0, (-9223372036854775808), 9223372036854775807, x1)) M) (k2 : (x1 < 0) → post (some (1, 0, (-9223372036854775808), 9223372036854775807, xa_w64 (-x1))) M) : xa_C (xl_I b) A h0 (d + 1) 56 [(1, 0, l0, u0, x1)] M post := by
  refine xa_C_arg [(1, 0, (-9223372036854775808), 9223372036854775807, x1)] (xa_svL (fun _ _ _ _ => by omega) (xa_sv0)) ?_
  refine xa_meth (Q0 := (2, 3, false, 0, 0, 14)) (by decide +kernel) ⟨rfl, rfl⟩ (full := s_c_56) rfl rfl ?_
  intro hM hv Q hgo
  refine hgo.1 11 [] 0 _ _ _ ?_
  refine And.intro ?_ ?_
  · intro (c1 : 0 ≤ x1)
    show post (some (1, 0, (-9223372036854775808), 9223372036854775807, x1)) M
    exact k1 c1
  · intro (c1 : x1 < 0)
    show post (some (1, 0, (-9223372036854775808), 9223372036854775807, xa_w64 (-x1))) M
    exact k2 c1
theorem cx_55f {b : Bool} {A : Nat → Nat} {h0 : g_H} {d : Nat} {M : xa_M} {post : Option xa_V → xa_M → Prop} {l1 u1 l2 u2 x y : Int} (hx : 0 ≤ x ∧ x ≤ 4294967296) (hy : 0 ≤ y ∧ y ≤ 4294967296) (k : ∀ g : Int, g = (Int.gcd x y : Int) → 0 ≤ g → post (some (1, 0, 0, 4294967296, g)) M) : xa_C (xl_I b) A h0 (d + 2) 55 [(1, 0, l1, u1, x), (1, 0, l2, u2, y)] M post := by
  refine xa_C_wk ?_
  refine xa_C_arg [(1, 0, 0, 4294967296, x), (1, 0, 0, 4294967296, y)] (xa_svL (fun _ _ _ _ => by omega) (xa_svL (fun _ _ _ _ => by omega) xa_sv0)) ?_
  refine xa_meth (Q0 := (11, 3, false, 0, 0, 11)) (by decide +kernel) ⟨rfl, rfl⟩ (full := s_c_55) rfl rfl ?_
  intro hM hv Q hgo
  have loop : ∀ (f : Nat) (i a b : Int), 0 ≤ i ∧ i ≤ 100 → 0 ≤ a ∧ a ≤ 4294967296 → 0 ≤ b ∧ b ≤ 4294967296 → Int.gcd a b = Int.gcd x y → ((∃ j : Nat, b ≤ a ∧ a * b < 2 ^ j ∧ (j : Int) < 100 - i) ∨ (i = 0 ∧ a ≤ 4294967296)) → 100 - i < (f : Int) → Q 15 [(8, (0, 0, 0, 100, i)), (4, (1, 0, 0, 4294967296, a)), (6, (1, 0, 0, 4294967296, b))] [] M := by
    intro f
    induction f with
    | zero =>
      intro i a b i1 a1 b1 hg hk hms
      clear hk
      omega
    | succ f ih =>
      intro i a b i1 a1 b1 hg hk hms
      refine hgo.1 21 [15] 15 _ _ _ ?_
      refine And.intro ?_ ?_
      · intro (c1 : 100 ≤ i)
        show xa_wk post (some (1, 0, 0, 4294967296, a)) M
        have z : b = 0 := by
          rcases hk with ⟨j, j0, j1, j2⟩ | ⟨j0, j1⟩
          · exfalso
            omega
          · exfalso
            omega
        rw [z, Int.gcd_zero_right] at hg
        clear hk
        exact xa_wkL a rfl (fun _ _ => by omega) (k a (by rw [← hg]; omega) (by omega))
      · intro (c1 : i < 100)
        refine And.intro ?_ ?_
        · intro (c2 : b = 0)
          show xa_wk post (some (1, 0, 0, 4294967296, a)) M
          have z : b = 0 := by
            clear hk
            omega
          clear hk
          rw [z, Int.gcd_zero_right] at hg
          exact xa_wkL a rfl (fun _ _ => by omega) (k a (by rw [← hg]; omega) (by omega))
        · intro (c2 : ¬ b = 0)
          refine And.intro (show 0 < b by omega) ?_
          show Q 15 [(8, (0, 0, 1, 101, i + 1)), (6, (1, 0, 0, 4294967295, a % b)), (4, (1, 0, 0, 4294967296, b)), (9, (1, 0, 0, 4294967295, a % b))] [] M
          have m0 := Int.emod_nonneg a (show b ≠ 0 by omega)
          have m1 := Int.emod_lt_of_pos a (show 0 < b by omega)
          refine hgo.2.1 15 _ [(8, (0, 0, 0, 100, i + 1)), (4, (1, 0, 0, 4294967296, b)), (6, (1, 0, 0, 4294967296, a % b))] _ _ (xa_subI rfl rfl (fun _ _ _ _ => by omega) (xa_subL rfl rfl (fun _ _ _ _ => by omega) (xa_subL rfl rfl (fun _ _ _ _ => by omega) (xa_sub0)))) ?_
          refine ih (i + 1) b (a % b) (by omega) (by omega) (by omega) (by rw [← hg]; exact xa_gcd_step (by omega) (by omega)) ?_ (by omega)
          rcases hk with ⟨j, j0, j1, j2⟩ | ⟨j0, j1⟩
          · have p1 := gc_pos (a := a) (b := b) (by omega) (by omega)
            rcases j with _ | j
            · rw [Int.pow_zero] at j1
              exact absurd j1 (by omega)
            · exact Or.inl ⟨j, by omega, gc_step (by omega) j0 j1, by omega⟩
          · exact Or.inl ⟨65, by omega, Int.lt_of_le_of_lt (Int.mul_le_mul (show b ≤ 4294967296 by omega) (show a % b ≤ 4294967296 by omega) (by omega) (by omega)) (by decide), by omega⟩
  refine hgo.1 13 [15] 0 _ _ _ ?_
  show xa_C (xl_I b) A h0 _ 56 [(1, 0, 0, 4294967296, x)] M _
  refine cx_56 ?_ ?_
  · intro (i1 : 0 ≤ x)
    show xa_C (xl_I b) A h0 _ 56 [(1, 0, 0, 4294967296, y)] M _
    refine cx_56 ?_ ?_
    · intro (i2 : 0 ≤ y)
      show Q 15 [(8, (0, 0, 0, 0, 0)), (6, (1, 0, (-9223372036854775808), 9223372036854775807, y)), (4, (1, 0, (-9223372036854775808), 9223372036854775807, x)), (0, (1, 0, 0, 4294967296, x)), (2, (1, 0, 0, 4294967296, y))] [] M
      refine hgo.2.1 15 _ [(8, (0, 0, 0, 100, 0)), (4, (1, 0, 0, 4294967296, x)), (6, (1, 0, 0, 4294967296, y))] _ _ (xa_subI rfl rfl (fun _ _ _ _ => by omega) (xa_subL rfl rfl (fun _ _ _ _ => by omega) (xa_subL rfl rfl (fun _ _ _ _ => by omega) (xa_sub0)))) ?_
      exact loop 101 0 x y (by omega) (by omega) (by omega) rfl (Or.inr ⟨rfl, by omega⟩) (by omega)
    · intro (i3 : y < 0)
      exfalso
      omega
  · intro (i4 : x < 0)
    exfalso
    omega
theorem cx_55p {b : Bool} {A : Nat → Nat} {h0 : g_H} {d : Nat} {M : xa_M} {post : Option xa_V → xa_M → Prop} {l1 u1 l2 u2 x y : Int} (hx : 1 ≤ x ∧ x ≤ 4294967296) (hy : 1 ≤ y ∧ y ≤ 4294967296) (k : ∀ g : Int, g = (Int.gcd x y : Int) → 1 ≤ g → g ≤ x → g ≤ y → post (some (1, 0, 0, 4294967296, g)) M) : xa_C (xl_I b) A h0 (d + 2) 55 [(1, 0, l1, u1, x), (1, 0, l2, u2, y)] M post := by
  refine cx_55f (by omega) (by omega) (fun g eg g0 => k g eg ?_ ?_ ?_)
  · have h9 : ¬ (Int.gcd x y = 0) := fun h => by
      have := (Int.gcd_eq_zero_iff.mp h).1
      omega
    omega
  · rw [eg]
    exact Int.le_of_dvd (by omega) (Int.gcd_dvd_left x y)
  · rw [eg]
    exact Int.le_of_dvd (by omega) (Int.gcd_dvd_right x y)
theorem cx_21f {b : Bool} {A : Nat → Nat} {h0 : g_H} {d : Nat} {M : xa_M} {post : Option xa_V → xa_M → Prop} {l1 u1 l2 u2 x y : Int} (lo hi : Int) (hx : 0 ≤ x ∧ x ≤ 9223372036854775807) (hy : 1 ≤ y ∧ y ≤ 9223372036854775807) (hl : lo ≤ x / y ∧ x / y ≤ hi) (k : post (some (1, 0, lo, hi, x / y)) M) : xa_C (xl_I b) A h0 (d + 1) 21 [(1, 0, l1, u1, x), (1, 0, l2, u2, y)] M post := by
  refine xa_C_wk ?_
  refine xa_C_arg [(1, 0, 0, 9223372036854775807, x), (1, 0, 0, 9223372036854775807, y)] (xa_svL (fun _ _ _ _ => by omega) (xa_svL (fun _ _ _ _ => by omega) xa_sv0)) ?_
  refine xa_meth (Q0 := (4, 3, false, 0, 0, 11)) (by decide +kernel) ⟨rfl, rfl⟩ (full := s_c_21) rfl rfl ?_
  intro hM hv Q hgo
  refine hgo.1 11 [] 0 _ _ _ ?_
  refine And.intro ?_ ?_
  · intro (c1 : ¬ y = 0)
    refine And.intro (show 0 < y by omega) ?_
    show xa_wk post (some (1, 0, 0, 9223372036854775807, x / y)) M
    exact xa_wkL (x / y) rfl (fun _ _ => hl) k
  · intro (c1 : y = 0)
    show xa_wk post (some (1, 0, 0, 0, 0)) M
    exfalso
    omega
theorem cx_64_50 {b : Bool} {A : Nat → Nat} {h0 : g_H} {d : Nat} {M : xa_M} {post : Option xa_V → xa_M → Prop} {l1 u1 : Int} {x1 : Int} (h1 : 0 ≤ x1 ∧ x1 < 8) (k1 : post (some (1, 0, (-2147483648), 2147483647, M 52 x1)) M) : xa_C (xl_I b) A h0 (d + 2) 64 [(2, 50, 0, 0, 0), (0, 0, l1, u1, x1)] M post := by
  refine xa_C_arg [(2, 50, 0, 0, 0), (0, 0, (-2147483648), 2147483647, x1)] (xa_svR (xa_svI (fun _ _ _ _ => by omega) (xa_sv0))) ?_
  refine xa_meth (Q0 := (2, 3, false, 0, 0, 0)) (by decide +kernel) ⟨rfl, rfl⟩ (full := s_c_64) rfl rfl ?_
  intro hM hv Q hgo
  refine hgo.1 10 [] 0 _ _ _ ?_
  show xa_C (xl_I b) A h0 _ 23 [(2, 52, 0, 0, 0), (0, 0, (-2147483648), 2147483647, x1)] M _
  refine cx_23_52 (show 0 ≤ x1 ∧ x1 < 8 by omega) ?_
  show post (some (1, 0, (-2147483648), 2147483647, M 52 x1)) M
  exact k1
theorem cx_65_50 {b : Bool} {A : Nat → Nat} {h0 : g_H} {d : Nat} {M : xa_M} {post : Option xa_V → xa_M → Prop} {l1 u1 : Int} {x1 : Int} (h1 : 0 ≤ x1 ∧ x1 < 8) (k1 : post (some (1, 0, (-2147483648), 2147483647, M 51 x1)) M) : xa_C (xl_I b) A h0 (d + 2) 65 [(2, 50, 0, 0, 0), (0, 0, l1, u1, x1)] M post := by
  refine xa_C_arg [(2, 50, 0, 0, 0), (0, 0, (-2147483648), 2147483647, x1)] (xa_svR (xa_svI (fun _ _ _ _ => by omega) (xa_sv0))) ?_
  refine xa_meth (Q0 := (2, 3, false, 0, 0, 0)) (by decide +kernel) ⟨rfl, rfl⟩ (full := s_c_65) rfl rfl ?_
  intro hM hv Q hgo
  refine hgo.1 10 [] 0 _ _ _ ?_
  show xa_C (xl_I b) A h0 _ 23 [(2, 51, 0, 0, 0), (0, 0, (-2147483648), 2147483647, x1)] M _
  refine cx_23_51 (show 0 ≤ x1 ∧ x1 < 8 by omega) ?_
  show post (some (1, 0, (-2147483648), 2147483647, M 51 x1)) M
  exact k1
theorem cx_168_50 {b : Bool} {A : Nat → Nat} {h0 : g_H} {d : Nat} {M : xa_M} {post : Option xa_V → xa_M → Prop} {l1 u1 x1 : Int} (hp : 0 ≤ M 50 4 ∧ M 50 4 ≤ 8) (hU : ∀ i, 0 ≤ i → i < M 50 4 → (1 ≤ M 51 i ∧ M 51 i ≤ 2000) ∧ (1 ≤ M 52 i ∧ M 52 i ≤ 2000)) (k : ∀ r : Int, (r = -1 ∨ (1 ≤ r ∧ r ≤ 1000000)) → r = (mt_y (fun p => xa_ib 3 (xa_ib 7 x1 p) 1 = 1) (mt_d (M 52) (M 51)) (M 50 4).toNat) → post (some (0, 0, (-1), 1000000, r)) M) : xa_C (xl_I b) A h0 (d + 3) 168 [(2, 50, 0, 0, 0), (0, 0, l1, u1, x1)] M post := by
  refine xa_C_wk ?_
  refine xa_C_arg [(2, 50, 0, 0, 0), (0, 0, (-2147483648), 2147483647, x1)] (xa_svR (xa_svI (fun _ _ _ _ => by omega) xa_sv0)) ?_
  refine xa_meth (Q0 := (7, 1, false, 0, 0, 0)) (by decide +kernel) ⟨rfl, rfl⟩ (full := s_c_168) rfl rfl ?_
  intro hM hv Q hgo
  have loop : ∀ (f : Nat) (p y : Int), 0 ≤ p ∧ p ≤ 8 → p ≤ M 50 4 → 1 ≤ y ∧ y ≤ 1000000 → y = (mt_y (fun p => xa_ib 3 (xa_ib 7 x1 p) 1 = 1) (mt_d (M 52) (M 51)) p.toNat) → 8 - p < (f : Int) → Q 5 [(4, (0, 0, 0, 8, p)), (2, (1, 0, 1, 1000000, y)), (0, (2, 50, 0, 0, 0)), (1, (0, 0, (-2147483648), 2147483647, x1))] [] M := by
    intro f
    induction f with
    | zero => intro p y p1 p2 y1 hy hms; omega
    | succ f ih =>
      intro p y p1 p2 y1 hy hms
      have hu := hU p
      refine hgo.1 41 [5] 5 _ _ _ ?_
      refine And.intro ?_ ?_
      · intro (c1 : (M 50 4) ≤ p)
        show xa_wk post (some (0, 0, 1, 1000000, y)) M
        exact xa_wkI y rfl (fun _ _ => by omega) (k y (by omega) (by rw [hy, show p = M 50 4 by omega]))
      · intro (c1 : p < (M 50 4))
        refine And.intro ?_ ?_
        · intro (c2 : ¬ (xa_ib 3 (xa_ib 7 x1 p) 1) = 1)
          show Q 5 [(4, (0, 0, 1, 9, p + 1)), (2, (1, 0, 1, 1000000, y)), (0, (2, 50, 0, 0, 0)), (1, (0, 0, (-2147483648), 2147483647, x1))] [] M
          have ei : ((p.toNat : Nat) : Int) = p := Int.toNat_of_nonneg (by omega)
          have en : y = (mt_y (fun p => xa_ib 3 (xa_ib 7 x1 p) 1 = 1) (mt_d (M 52) (M 51)) (p + 1).toNat) := by
            rw [show (p + 1).toNat = p.toNat + 1 by omega, mt_y0 (by rw [← hy]; omega) (by rw [ei]; exact c2), ← hy]
          refine hgo.2.1 5 _ [(4, (0, 0, 0, 8, p + 1)), (2, (1, 0, 1, 1000000, y)), (0, (2, 50, 0, 0, 0)), (1, (0, 0, (-2147483648), 2147483647, x1))] _ _ (xa_subI rfl rfl (fun _ _ _ _ => by omega) (xa_subL rfl rfl (fun _ _ _ _ => by omega) (xa_subR rfl (xa_subI rfl rfl (fun _ _ _ _ => by omega) (xa_sub0))))) ?_
          exact ih (p + 1) _ (by omega) (by omega) (by omega) en (by omega)
        · intro (c2 : (xa_ib 3 (xa_ib 7 x1 p) 1) = 1)
          show xa_C (xl_I b) A h0 _ 64 [(2, 50, 0, 0, 0), (0, 0, 0, 8, p)] M _
          refine cx_64_50 (show 0 ≤ p ∧ p < 8 by omega) ?_
          show xa_C (xl_I b) A h0 _ 65 [(2, 50, 0, 0, 0), (0, 0, 0, 8, p)] M _
          refine cx_65_50 (show 0 ≤ p ∧ p < 8 by omega) ?_
          show xa_C (xl_I b) A h0 _ 64 [(2, 50, 0, 0, 0), (0, 0, 0, 8, p)] M _
          refine cx_64_50 (show 0 ≤ p ∧ p < 8 by omega) ?_
          show xa_C (xl_I b) A h0 _ 55 [(1, 0, (-2147483648), 2147483647, M 51 p), (1, 0, (-2147483648), 2147483647, M 52 p)] M _
          refine cx_55p (by omega) (by omega) ?_
          intro g142 (i3 : g142 = (Int.gcd (M 51 p) (M 52 p) : Int)) (i4 : 1 ≤ g142) (i5 : g142 ≤ (M 51 p)) (i6 : g142 ≤ (M 52 p))
          have dg142 := xm_edb (g := g142) (y := (M 52 p)) (B := 2000) (by omega) (by omega) (by omega)
          show xa_C (xl_I b) A h0 _ 21 [(1, 0, (-2147483648), 2147483647, M 52 p), (1, 0, 0, 4294967296, g142)] M _
          refine cx_21f 1 2000 (by omega) (by omega) (by omega) ?_
          show xa_C (xl_I b) A h0 _ 55 [(1, 0, 1, 1000000, y), (1, 0, 1, 2000, (M 52 p) / g142)] M _
          refine cx_55p (by omega) (by omega) ?_
          intro g143 (i7 : g143 = (Int.gcd y ((M 52 p) / g142) : Int)) (i8 : 1 ≤ g143) (i9 : g143 ≤ y) (i10 : g143 ≤ ((M 52 p) / g142))
          have dg143 := xm_edb (g := g143) (y := ((M 52 p) / g142)) (B := 2000) (by omega) (by omega) (by omega)
          have mg143 := xm_mulp (p := y) (q := ((M 52 p) / g142) / g143) (a := 1000000) (b := 2000) (by omega) (by omega) (by omega) (by omega)
          show xa_C (xl_I b) A h0 _ 21 [(1, 0, 1, 2000, (M 52 p) / g142), (1, 0, 0, 4294967296, g143)] M _
          refine cx_21f 1 2000 (by omega) (by omega) (by omega) ?_
          refine And.intro ?_ ?_
          · intro (c11 : (y * (((M 52 p) / g142) / g143)) ≤ 1000000)
            show Q 5 [(4, (0, 0, 1, 9, p + 1)), (2, (1, 0, 1, 2000000000, y * (((M 52 p) / g142) / g143))), (5, (1, 0, 1, 2000, (M 52 p) / g142)), (0, (2, 50, 0, 0, 0)), (1, (0, 0, (-2147483648), 2147483647, x1))] [] M
            have ei : ((p.toNat : Nat) : Int) = p := Int.toNat_of_nonneg (by omega)
            have ed : mt_d (M 52) (M 51) p = M 52 p / g142 := by
              rw [i3]
              rfl
            have en : y * (((M 52 p) / g142) / g143) = (mt_y (fun p => xa_ib 3 (xa_ib 7 x1 p) 1 = 1) (mt_d (M 52) (M 51)) (p + 1).toNat) := by
              rw [show (p + 1).toNat = p.toNat + 1 by omega, mt_y1 (by rw [← hy]; omega) (by rw [ei]; exact c2), ei, ed, ← hy, mt_s0 (by rw [← i7]; omega), ← i7]
            refine hgo.2.1 5 _ [(4, (0, 0, 0, 8, p + 1)), (2, (1, 0, 1, 1000000, y * (((M 52 p) / g142) / g143))), (0, (2, 50, 0, 0, 0)), (1, (0, 0, (-2147483648), 2147483647, x1))] _ _ (xa_subI rfl rfl (fun _ _ _ _ => by omega) (xa_subL rfl rfl (fun _ _ _ _ => by omega) (xa_subR rfl (xa_subI rfl rfl (fun _ _ _ _ => by omega) (xa_sub0))))) ?_
            exact ih (p + 1) _ (by omega) (by omega) (by omega) en (by omega)
          · intro (c11 : 1000000 < (y * (((M 52 p) / g142) / g143)))
            show xa_wk post (some (0, 0, (-1), (-1), (-1))) M
            have ei : ((p.toNat : Nat) : Int) = p := Int.toNat_of_nonneg (by omega)
            have ed : mt_d (M 52) (M 51) p = M 52 p / g142 := by
              rw [i3]
              rfl
            have en : (mt_y (fun p => xa_ib 3 (xa_ib 7 x1 p) 1 = 1) (mt_d (M 52) (M 51)) (p.toNat + 1)) = -1 := by
              rw [mt_y1 (by rw [← hy]; omega) (by rw [ei]; exact c2), ei, ed, ← hy]
              exact mt_s1 (by rw [← i7]; omega)
            exact xa_wkI (-1) rfl (fun _ _ => by omega) (k (-1) (by omega) (mt_yn en (by omega)).symm)
  refine hgo.1 9 [5] 0 _ _ _ ?_
  show Q 5 [(4, (0, 0, 0, 0, 0)), (2, (1, 0, 1, 1, 1)), (0, (2, 50, 0, 0, 0)), (1, (0, 0, (-2147483648), 2147483647, x1))] [] M
  refine hgo.2.1 5 _ [(4, (0, 0, 0, 8, 0)), (2, (1, 0, 1, 1000000, 1)), (0, (2, 50, 0, 0, 0)), (1, (0, 0, (-2147483648), 2147483647, x1))] _ _ (xa_subI rfl rfl (fun _ _ _ _ => by omega) (xa_subL rfl rfl (fun _ _ _ _ => by omega) (xa_subR rfl (xa_subI rfl rfl (fun _ _ _ _ => by omega) (xa_sub0))))) ?_
  exact loop 9 0 1 (by omega) (by omega) (by omega) rfl (by omega)
theorem cx_133_50 {b : Bool} {A : Nat → Nat} {h0 : g_H} {d : Nat} {M : xa_M} {post : Option xa_V → xa_M → Prop} {l1 u1 : Int} {x1 : Int} (k1 : (x1 ≤ 0) → post (some (0, 0, 0, 0, 0)) M) (k2 : (0 < x1) → ((xa_ib 6 1 (M 50 4)) ≤ x1) → post (some (0, 0, 0, 0, 0)) M) (k3 : (0 < x1) → (x1 < (xa_ib 6 1 (M 50 4))) → post (some (0, 0, 1, 1, 1)) M) : xa_C (xl_I b) A h0 (d + 1) 133 [(2, 50, 0, 0, 0), (0, 0, l1, u1, x1)] M post := by
  refine xa_C_arg [(2, 50, 0, 0, 0), (0, 0, (-2147483648), 2147483647, x1)] (xa_svR (xa_svI (fun _ _ _ _ => by omega) (xa_sv0))) ?_
  refine xa_meth (Q0 := (2, 2, false, 0, 0, 0)) (by decide +kernel) ⟨rfl, rfl⟩ (full := s_c_133) rfl rfl ?_
  intro hM hv Q hgo
  refine hgo.1 15 [] 0 _ _ _ ?_
  refine And.intro ?_ ?_
  · intro (c1 : x1 ≤ 0)
    show post (some (0, 0, 0, 0, 0)) M
    exact k1 c1
  · intro (c1 : 0 < x1)
    refine And.intro ?_ ?_
    · intro (c2 : (xa_ib 6 1 (M 50 4)) ≤ x1)
      show post (some (0, 0, 0, 0, 0)) M
      exact k2 c1 c2
    · intro (c2 : x1 < (xa_ib 6 1 (M 50 4)))
      show post (some (0, 0, 1, 1, 1)) M
      exact k3 c1 c2
theorem cx_64_55 {b : Bool} {A : Nat → Nat} {h0 : g_H} {d : Nat} {M : xa_M} {post : Option xa_V → xa_M → Prop} {l1 u1 : Int} {x1 : Int} (h1 : 0 ≤ x1 ∧ x1 < 8) (k1 : post (some (1, 0, (-2147483648), 2147483647, M 57 x1)) M) : xa_C (xl_I b) A h0 (d + 2) 64 [(2, 55, 0, 0, 0), (0, 0, l1, u1, x1)] M post := by
  refine xa_C_arg [(2, 55, 0, 0, 0), (0, 0, (-2147483648), 2147483647, x1)] (xa_svR (xa_svI (fun _ _ _ _ => by omega) (xa_sv0))) ?_
  refine xa_meth (Q0 := (2, 3, false, 0, 0, 0)) (by decide +kernel) ⟨rfl, rfl⟩ (full := s_c_64) rfl rfl ?_
  intro hM hv Q hgo
  refine hgo.1 10 [] 0 _ _ _ ?_
  show xa_C (xl_I b) A h0 _ 23 [(2, 57, 0, 0, 0), (0, 0, (-2147483648), 2147483647, x1)] M _
  refine cx_23_57 (show 0 ≤ x1 ∧ x1 < 8 by omega) ?_
  show post (some (1, 0, (-2147483648), 2147483647, M 57 x1)) M
  exact k1
theorem cx_65_55 {b : Bool} {A : Nat → Nat} {h0 : g_H} {d : Nat} {M : xa_M} {post : Option xa_V → xa_M → Prop} {l1 u1 : Int} {x1 : Int} (h1 : 0 ≤ x1 ∧ x1 < 8) (k1 : post (some (1, 0, (-2147483648), 2147483647, M 56 x1)) M) : xa_C (xl_I b) A h0 (d + 2) 65 [(2, 55, 0, 0, 0), (0, 0, l1, u1, x1)] M post := by
  refine xa_C_arg [(2, 55, 0, 0, 0), (0, 0, (-2147483648), 2147483647, x1)] (xa_svR (xa_svI (fun _ _ _ _ => by omega) (xa_sv0))) ?_
  refine xa_meth (Q0 := (2, 3, false, 0, 0, 0)) (by decide +kernel) ⟨rfl, rfl⟩ (full := s_c_65) rfl rfl ?_
  intro hM hv Q hgo
  refine hgo.1 10 [] 0 _ _ _ ?_
  show xa_C (xl_I b) A h0 _ 23 [(2, 56, 0, 0, 0), (0, 0, (-2147483648), 2147483647, x1)] M _
  refine cx_23_56 (show 0 ≤ x1 ∧ x1 < 8 by omega) ?_
  show post (some (1, 0, (-2147483648), 2147483647, M 56 x1)) M
  exact k1
theorem cx_168_55 {b : Bool} {A : Nat → Nat} {h0 : g_H} {d : Nat} {M : xa_M} {post : Option xa_V → xa_M → Prop} {l1 u1 x1 : Int} (hp : 0 ≤ M 55 4 ∧ M 55 4 ≤ 8) (hU : ∀ i, 0 ≤ i → i < M 55 4 → (1 ≤ M 56 i ∧ M 56 i ≤ 2000) ∧ (1 ≤ M 57 i ∧ M 57 i ≤ 2000)) (k : ∀ r : Int, (r = -1 ∨ (1 ≤ r ∧ r ≤ 1000000)) → r = (mt_y (fun p => xa_ib 3 (xa_ib 7 x1 p) 1 = 1) (mt_d (M 57) (M 56)) (M 55 4).toNat) → post (some (0, 0, (-1), 1000000, r)) M) : xa_C (xl_I b) A h0 (d + 3) 168 [(2, 55, 0, 0, 0), (0, 0, l1, u1, x1)] M post := by
  refine xa_C_wk ?_
  refine xa_C_arg [(2, 55, 0, 0, 0), (0, 0, (-2147483648), 2147483647, x1)] (xa_svR (xa_svI (fun _ _ _ _ => by omega) xa_sv0)) ?_
  refine xa_meth (Q0 := (7, 1, false, 0, 0, 0)) (by decide +kernel) ⟨rfl, rfl⟩ (full := s_c_168) rfl rfl ?_
  intro hM hv Q hgo
  have loop : ∀ (f : Nat) (p y : Int), 0 ≤ p ∧ p ≤ 8 → p ≤ M 55 4 → 1 ≤ y ∧ y ≤ 1000000 → y = (mt_y (fun p => xa_ib 3 (xa_ib 7 x1 p) 1 = 1) (mt_d (M 57) (M 56)) p.toNat) → 8 - p < (f : Int) → Q 5 [(4, (0, 0, 0, 8, p)), (2, (1, 0, 1, 1000000, y)), (0, (2, 55, 0, 0, 0)), (1, (0, 0, (-2147483648), 2147483647, x1))] [] M := by
    intro f
    induction f with
    | zero => intro p y p1 p2 y1 hy hms; omega
    | succ f ih =>
      intro p y p1 p2 y1 hy hms
      have hu := hU p
      refine hgo.1 41 [5] 5 _ _ _ ?_
      refine And.intro ?_ ?_
      · intro (c1 : (M 55 4) ≤ p)
        show xa_wk post (some (0, 0, 1, 1000000, y)) M
        exact xa_wkI y rfl (fun _ _ => by omega) (k y (by omega) (by rw [hy, show p = M 55 4 by omega]))
      · intro (c1 : p < (M 55 4))
        refine And.intro ?_ ?_
        · intro (c2 : ¬ (xa_ib 3 (xa_ib 7 x1 p) 1) = 1)
          show Q 5 [(4, (0, 0, 1, 9, p + 1)), (2, (1, 0, 1, 1000000, y)), (0, (2, 55, 0, 0, 0)), (1, (0, 0, (-2147483648), 2147483647, x1))] [] M
          have ei : ((p.toNat : Nat) : Int) = p := Int.toNat_of_nonneg (by omega)
          have en : y = (mt_y (fun p => xa_ib 3 (xa_ib 7 x1 p) 1 = 1) (mt_d (M 57) (M 56)) (p + 1).toNat) := by
            rw [show (p + 1).toNat = p.toNat + 1 by omega, mt_y0 (by rw [← hy]; omega) (by rw [ei]; exact c2), ← hy]
          refine hgo.2.1 5 _ [(4, (0, 0, 0, 8, p + 1)), (2, (1, 0, 1, 1000000, y)), (0, (2, 55, 0, 0, 0)), (1, (0, 0, (-2147483648), 2147483647, x1))] _ _ (xa_subI rfl rfl (fun _ _ _ _ => by omega) (xa_subL rfl rfl (fun _ _ _ _ => by omega) (xa_subR rfl (xa_subI rfl rfl (fun _ _ _ _ => by omega) (xa_sub0))))) ?_
          exact ih (p + 1) _ (by omega) (by omega) (by omega) en (by omega)
        · intro (c2 : (xa_ib 3 (xa_ib 7 x1 p) 1) = 1)
          show xa_C (xl_I b) A h0 _ 64 [(2, 55, 0, 0, 0), (0, 0, 0, 8, p)] M _
          refine cx_64_55 (show 0 ≤ p ∧ p < 8 by omega) ?_
          show xa_C (xl_I b) A h0 _ 65 [(2, 55, 0, 0, 0), (0, 0, 0, 8, p)] M _
          refine cx_65_55 (show 0 ≤ p ∧ p < 8 by omega) ?_
          show xa_C (xl_I b) A h0 _ 64 [(2, 55, 0, 0, 0), (0, 0, 0, 8, p)] M _
          refine cx_64_55 (show 0 ≤ p ∧ p < 8 by omega) ?_
          show xa_C (xl_I b) A h0 _ 55 [(1, 0, (-2147483648), 2147483647, M 56 p), (1, 0, (-2147483648), 2147483647, M 57 p)] M _
          refine cx_55p (by omega) (by omega) ?_
          intro g146 (i3 : g146 = (Int.gcd (M 56 p) (M 57 p) : Int)) (i4 : 1 ≤ g146) (i5 : g146 ≤ (M 56 p)) (i6 : g146 ≤ (M 57 p))
          have dg146 := xm_edb (g := g146) (y := (M 57 p)) (B := 2000) (by omega) (by omega) (by omega)
          show xa_C (xl_I b) A h0 _ 21 [(1, 0, (-2147483648), 2147483647, M 57 p), (1, 0, 0, 4294967296, g146)] M _
          refine cx_21f 1 2000 (by omega) (by omega) (by omega) ?_
          show xa_C (xl_I b) A h0 _ 55 [(1, 0, 1, 1000000, y), (1, 0, 1, 2000, (M 57 p) / g146)] M _
          refine cx_55p (by omega) (by omega) ?_
          intro g147 (i7 : g147 = (Int.gcd y ((M 57 p) / g146) : Int)) (i8 : 1 ≤ g147) (i9 : g147 ≤ y) (i10 : g147 ≤ ((M 57 p) / g146))
          have dg147 := xm_edb (g := g147) (y := ((M 57 p) / g146)) (B := 2000) (by omega) (by omega) (by omega)
          have mg147 := xm_mulp (p := y) (q := ((M 57 p) / g146) / g147) (a := 1000000) (b := 2000) (by omega) (by omega) (by omega) (by omega)
          show xa_C (xl_I b) A h0 _ 21 [(1, 0, 1, 2000, (M 57 p) / g146), (1, 0, 0, 4294967296, g147)] M _
          refine cx_21f 1 2000 (by omega) (by omega) (by omega) ?_
          refine And.intro ?_ ?_
          · intro (c11 : (y * (((M 57 p) / g146) / g147)) ≤ 1000000)
            show Q 5 [(4, (0, 0, 1, 9, p + 1)), (2, (1, 0, 1, 2000000000, y * (((M 57 p) / g146) / g147))), (5, (1, 0, 1, 2000, (M 57 p) / g146)), (0, (2, 55, 0, 0, 0)), (1, (0, 0, (-2147483648), 2147483647, x1))] [] M
            have ei : ((p.toNat : Nat) : Int) = p := Int.toNat_of_nonneg (by omega)
            have ed : mt_d (M 57) (M 56) p = M 57 p / g146 := by
              rw [i3]
              rfl
            have en : y * (((M 57 p) / g146) / g147) = (mt_y (fun p => xa_ib 3 (xa_ib 7 x1 p) 1 = 1) (mt_d (M 57) (M 56)) (p + 1).toNat) := by
              rw [show (p + 1).toNat = p.toNat + 1 by omega, mt_y1 (by rw [← hy]; omega) (by rw [ei]; exact c2), ei, ed, ← hy, mt_s0 (by rw [← i7]; omega), ← i7]
            refine hgo.2.1 5 _ [(4, (0, 0, 0, 8, p + 1)), (2, (1, 0, 1, 1000000, y * (((M 57 p) / g146) / g147))), (0, (2, 55, 0, 0, 0)), (1, (0, 0, (-2147483648), 2147483647, x1))] _ _ (xa_subI rfl rfl (fun _ _ _ _ => by omega) (xa_subL rfl rfl (fun _ _ _ _ => by omega) (xa_subR rfl (xa_subI rfl rfl (fun _ _ _ _ => by omega) (xa_sub0))))) ?_
            exact ih (p + 1) _ (by omega) (by omega) (by omega) en (by omega)
          · intro (c11 : 1000000 < (y * (((M 57 p) / g146) / g147)))
            show xa_wk post (some (0, 0, (-1), (-1), (-1))) M
            have ei : ((p.toNat : Nat) : Int) = p := Int.toNat_of_nonneg (by omega)
            have ed : mt_d (M 57) (M 56) p = M 57 p / g146 := by
              rw [i3]
              rfl
            have en : (mt_y (fun p => xa_ib 3 (xa_ib 7 x1 p) 1 = 1) (mt_d (M 57) (M 56)) (p.toNat + 1)) = -1 := by
              rw [mt_y1 (by rw [← hy]; omega) (by rw [ei]; exact c2), ei, ed, ← hy]
              exact mt_s1 (by rw [← i7]; omega)
            exact xa_wkI (-1) rfl (fun _ _ => by omega) (k (-1) (by omega) (mt_yn en (by omega)).symm)
  refine hgo.1 9 [5] 0 _ _ _ ?_
  show Q 5 [(4, (0, 0, 0, 0, 0)), (2, (1, 0, 1, 1, 1)), (0, (2, 55, 0, 0, 0)), (1, (0, 0, (-2147483648), 2147483647, x1))] [] M
  refine hgo.2.1 5 _ [(4, (0, 0, 0, 8, 0)), (2, (1, 0, 1, 1000000, 1)), (0, (2, 55, 0, 0, 0)), (1, (0, 0, (-2147483648), 2147483647, x1))] _ _ (xa_subI rfl rfl (fun _ _ _ _ => by omega) (xa_subL rfl rfl (fun _ _ _ _ => by omega) (xa_subR rfl (xa_subI rfl rfl (fun _ _ _ _ => by omega) (xa_sub0))))) ?_
  exact loop 9 0 1 (by omega) (by omega) (by omega) rfl (by omega)
theorem cx_133_55 {b : Bool} {A : Nat → Nat} {h0 : g_H} {d : Nat} {M : xa_M} {post : Option xa_V → xa_M → Prop} {l1 u1 : Int} {x1 : Int} (k1 : (x1 ≤ 0) → post (some (0, 0, 0, 0, 0)) M) (k2 : (0 < x1) → ((xa_ib 6 1 (M 55 4)) ≤ x1) → post (some (0, 0, 0, 0, 0)) M) (k3 : (0 < x1) → (x1 < (xa_ib 6 1 (M 55 4))) → post (some (0, 0, 1, 1, 1)) M) : xa_C (xl_I b) A h0 (d + 1) 133 [(2, 55, 0, 0, 0), (0, 0, l1, u1, x1)] M post := by
  refine xa_C_arg [(2, 55, 0, 0, 0), (0, 0, (-2147483648), 2147483647, x1)] (xa_svR (xa_svI (fun _ _ _ _ => by omega) (xa_sv0))) ?_
  refine xa_meth (Q0 := (2, 2, false, 0, 0, 0)) (by decide +kernel) ⟨rfl, rfl⟩ (full := s_c_133) rfl rfl ?_
  intro hM hv Q hgo
  refine hgo.1 15 [] 0 _ _ _ ?_
  refine And.intro ?_ ?_
  · intro (c1 : x1 ≤ 0)
    show post (some (0, 0, 0, 0, 0)) M
    exact k1 c1
  · intro (c1 : 0 < x1)
    refine And.intro ?_ ?_
    · intro (c2 : (xa_ib 6 1 (M 55 4)) ≤ x1)
      show post (some (0, 0, 0, 0, 0)) M
      exact k2 c1 c2
    · intro (c2 : x1 < (xa_ib 6 1 (M 55 4)))
      show post (some (0, 0, 1, 1, 1)) M
      exact k3 c1 c2
