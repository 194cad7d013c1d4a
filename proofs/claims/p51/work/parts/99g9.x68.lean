set_option maxRecDepth 20000
theorem rz_mb {p q A B : Int} (h1 : -A ≤ p) (h2 : p ≤ A) (h3 : -B ≤ q) (h4 : q ≤ B) : -(A * B) ≤ p * q ∧ p * q ≤ A * B := by
  have a := Int.mul_nonneg (show 0 ≤ A - p by omega) (show 0 ≤ B - q by omega)
  have b := Int.mul_nonneg (show 0 ≤ A + p by omega) (show 0 ≤ B + q by omega)
  have c := Int.mul_nonneg (show 0 ≤ A - p by omega) (show 0 ≤ B + q by omega)
  have d := Int.mul_nonneg (show 0 ≤ A + p by omega) (show 0 ≤ B - q by omega)
  simp only [Int.sub_mul, Int.mul_sub, Int.add_mul, Int.mul_add] at a b c d
  omega
def rz_sl (a b c d : Int) : Prop := (0 ≤ a ∧ a ≤ 99) ∧ (a < b ∧ b ≤ 100) ∧ (1 ≤ d ∧ d ≤ 20) ∧ (-d ≤ c ∧ c ≤ d)
def rz_un (u d : Int) : Prop := (1 ≤ u ∧ u ≤ 1000) ∧ (1 ≤ d ∧ d ≤ 1000) ∧ d ≤ u
theorem rx_162 {b : Bool} {A : Nat → Nat} {h0 : g_H} {d : Nat} {M : xa_M} {post : Option xa_V → xa_M → Prop} {l1 u1 l2 u2 l3 u3 l4 u4 x1 x2 x3 x4 : Int} (k : ∀ (r : Int) (M1 : xa_M), (∀ (q : Nat) (j : Int), ¬ (q = 48 ∨ q = 49) → M1 q j = M q j) → rz_c (rz_sl x1 x2 x3 x4) (M 48 1) (M1 48 1) 2 → post (some (0, 0, (-1), 2, r)) M1) : xa_C (xl_I b) A h0 (d + 4) 162 [(2, 0, 0, 0, 0), (0, 0, l1, u1, x1), (0, 0, l2, u2, x2), (0, 0, l3, u3, x3), (0, 0, l4, u4, x4)] M post := by
  refine xa_C_wk ?_
  by_cases h4 : 1 ≤ x4 ∧ x4 ≤ 20
  case neg =>
    refine xa_C_arg [(2, 0, 0, 0, 0), (0, 0, (-2147483648), 2147483647, x1), (0, 0, (-2147483648), 2147483647, x2), (0, 0, (-2147483648), 2147483647, x3), (0, 0, (-2147483648), 2147483647, x4)] (xa_svR (xa_svI (fun _ _ _ _ => by omega) (xa_svI (fun _ _ _ _ => by omega) (xa_svI (fun _ _ _ _ => by omega) (xa_svI (fun _ _ _ _ => by omega) xa_sv0))))) ?_
    refine xa_meth (Q0 := (9, 1, false, 0, 0, 11)) (by decide +kernel) ⟨rfl, rfl⟩ (full := s_c_162) rfl rfl ?_
    intro hM hv Q hgo
    refine hgo.1 76 [] 0 _ _ _ ?_
    refine And.intro ?_ ?_
    · intro (c1 : x1 < 0)
      show xa_wk post (some (0, 0, (-1), (-1), (-1))) M
      exact xa_wkI (-1) rfl (fun _ _ => by omega) (k _ _ (fun _ _ _ => rfl) (Or.inr ⟨by unfold rz_sl; omega, rfl⟩))
    · intro (c1 : 0 ≤ x1)
      refine And.intro ?_ ?_
      · intro (c2 : 99 < x1)
        show xa_wk post (some (0, 0, (-1), (-1), (-1))) M
        exact xa_wkI (-1) rfl (fun _ _ => by omega) (k _ _ (fun _ _ _ => rfl) (Or.inr ⟨by unfold rz_sl; omega, rfl⟩))
      · intro (c2 : x1 ≤ 99)
        refine And.intro ?_ ?_
        · intro (c3 : x2 ≤ x1)
          show xa_wk post (some (0, 0, (-1), (-1), (-1))) M
          exact xa_wkI (-1) rfl (fun _ _ => by omega) (k _ _ (fun _ _ _ => rfl) (Or.inr ⟨by unfold rz_sl; omega, rfl⟩))
        · intro (c3 : x1 < x2)
          refine And.intro ?_ ?_
          · intro (c4 : 100 < x2)
            show xa_wk post (some (0, 0, (-1), (-1), (-1))) M
            exact xa_wkI (-1) rfl (fun _ _ => by omega) (k _ _ (fun _ _ _ => rfl) (Or.inr ⟨by unfold rz_sl; omega, rfl⟩))
          · intro (c4 : x2 ≤ 100)
            refine And.intro ?_ ?_
            · intro (c5 : x4 < 1)
              show xa_wk post (some (0, 0, (-1), (-1), (-1))) M
              exact xa_wkI (-1) rfl (fun _ _ => by omega) (k _ _ (fun _ _ _ => rfl) (Or.inr ⟨by unfold rz_sl; omega, rfl⟩))
            · intro (c5 : 1 ≤ x4)
              refine And.intro ?_ ?_
              · intro (c6 : 20 < x4)
                show xa_wk post (some (0, 0, (-1), (-1), (-1))) M
                exact xa_wkI (-1) rfl (fun _ _ => by omega) (k _ _ (fun _ _ _ => rfl) (Or.inr ⟨by unfold rz_sl; omega, rfl⟩))
              · intro (c6 : x4 ≤ 20)
                exfalso; omega
  refine xa_C_arg [(2, 0, 0, 0, 0), (0, 0, (-2147483648), 2147483647, x1), (0, 0, (-2147483648), 2147483647, x2), (0, 0, (-2147483648), 2147483647, x3), (0, 0, 1, 20, x4)] (xa_svR (xa_svI (fun _ _ _ _ => by omega) (xa_svI (fun _ _ _ _ => by omega) (xa_svI (fun _ _ _ _ => by omega) (xa_svI (fun _ _ _ _ => by omega) xa_sv0))))) ?_
  refine xa_meth (Q0 := (9, 1, false, 0, 0, 11)) (by decide +kernel) ⟨rfl, rfl⟩ (full := s_c_162) rfl rfl ?_
  intro hM hv Q hgo
  refine hgo.1 76 [] 0 _ _ _ ?_
  refine And.intro ?_ ?_
  · intro (c1 : x1 < 0)
    show xa_wk post (some (0, 0, (-1), (-1), (-1))) M
    exact xa_wkI (-1) rfl (fun _ _ => by omega) (k _ _ (fun _ _ _ => rfl) (Or.inr ⟨by unfold rz_sl; omega, rfl⟩))
  · intro (c1 : 0 ≤ x1)
    refine And.intro ?_ ?_
    · intro (c2 : 99 < x1)
      show xa_wk post (some (0, 0, (-1), (-1), (-1))) M
      exact xa_wkI (-1) rfl (fun _ _ => by omega) (k _ _ (fun _ _ _ => rfl) (Or.inr ⟨by unfold rz_sl; omega, rfl⟩))
    · intro (c2 : x1 ≤ 99)
      refine And.intro ?_ ?_
      · intro (c3 : x2 ≤ x1)
        show xa_wk post (some (0, 0, (-1), (-1), (-1))) M
        exact xa_wkI (-1) rfl (fun _ _ => by omega) (k _ _ (fun _ _ _ => rfl) (Or.inr ⟨by unfold rz_sl; omega, rfl⟩))
      · intro (c3 : x1 < x2)
        refine And.intro ?_ ?_
        · intro (c4 : 100 < x2)
          show xa_wk post (some (0, 0, (-1), (-1), (-1))) M
          exact xa_wkI (-1) rfl (fun _ _ => by omega) (k _ _ (fun _ _ _ => rfl) (Or.inr ⟨by unfold rz_sl; omega, rfl⟩))
        · intro (c4 : x2 ≤ 100)
          refine And.intro ?_ ?_
          · intro (c5 : x3 < (-x4))
            show xa_wk post (some (0, 0, (-1), (-1), (-1))) M
            exact xa_wkI (-1) rfl (fun _ _ => by omega) (k _ _ (fun _ _ _ => rfl) (Or.inr ⟨by unfold rz_sl; omega, rfl⟩))
          · intro (c5 : (-x4) ≤ x3)
            refine And.intro ?_ ?_
            · intro (c6 : x3 ≤ x4)
              show xa_C (xl_I b) A h0 _ 59 [(2, 48, 0, 0, 0)] M _
              refine rz_59n (N := M) (fun _ _ _ => rfl) ?_
              intro M104 (i7 : ∀ (q : Nat) (j : Int), ¬ (q = 48 ∨ q = 49) → M104 q j = M q j) (i8 : M104 48 1 = 0)
              have u0 := rz_mb (p := x2) (q := x4) (A := 100) (B := 20) (by omega) (by omega) (by omega) (by omega)
              have u1 := rz_mb (p := x1) (q := x3) (A := 99) (B := 20) (by omega) (by omega) (by omega) (by omega)
              have u2 := rz_mb (p := x2) (q := x2) (A := 100) (B := 100) (by omega) (by omega) (by omega) (by omega)
              have u3 := rz_mb (p := x1) (q := x1) (A := 99) (B := 99) (by omega) (by omega) (by omega) (by omega)
              have u4 := xa_w32_id (n := x2 * x4) (by omega) (by omega)
              have u5 := xa_w32_id (n := x1 * x3) (by omega) (by omega)
              have u6 := xa_w32_id (n := xa_w32 (x2 * x4) - xa_w32 (x1 * x3)) (by omega) (by omega)
              have u7 := rz_mb (p := x2) (q := xa_w32 (xa_w32 (x2 * x4) - xa_w32 (x1 * x3))) (A := 100) (B := 4000) (by omega) (by omega) (by omega) (by omega)
              have u8 := xa_w32_id (n := x2 * x2) (by omega) (by omega)
              have u9 := xa_w32_id (n := x1 * x1) (by omega) (by omega)
              have u10 := xa_w32_id (n := xa_w32 (x2 * x2) + xa_w32 (x1 * x1)) (by omega) (by omega)
              have u11 := rz_mb (p := x4) (q := xa_w32 (xa_w32 (x2 * x2) + xa_w32 (x1 * x1))) (A := 20) (B := 20000) (by omega) (by omega) (by omega) (by omega)
              have u12 := rz_mb (p := 2 * x1) (q := x2) (A := 198) (B := 100) (by omega) (by omega) (by omega) (by omega)
              have u13 := xa_w64_id (n := 2 * x1 * x2) (by omega) (by omega)
              have u14 := rz_mb (p := xa_w64 (2 * x1 * x2)) (q := x3) (A := 19800) (B := 20) (by omega) (by omega) (by omega) (by omega)
              have u15 := xa_w64_id (n := xa_w64 (2 * x1 * x2) * x3) (by omega) (by omega)
              have u16 := xa_w64_id (n := x4 * xa_w32 (xa_w32 (x2 * x2) + xa_w32 (x1 * x1)) - xa_w64 (xa_w64 (2 * x1 * x2) * x3)) (by omega) (by omega)
              have u17 := xa_w64_id (n := x2 * xa_w32 (xa_w32 (x2 * x4) - xa_w32 (x1 * x3)) - xa_w64 (x4 * xa_w32 (xa_w32 (x2 * x2) + xa_w32 (x1 * x1)) - xa_w64 (xa_w64 (2 * x1 * x2) * x3))) (by omega) (by omega)
              show xa_C (xl_I b) A h0 _ 71 [(2, 48, 0, 0, 0), (1, 0, (-4611686016279904256), 4611686018427387904, x2 * (xa_w32 ((xa_w32 (x2 * x4)) - (xa_w32 (x1 * x3))))), (1, 0, (-9223372036854775808), 9223372036854775807, xa_w64 ((x4 * (xa_w32 ((xa_w32 (x2 * x2)) + (xa_w32 (x1 * x1))))) - (xa_w64 ((xa_w64 ((2 * x1) * x2)) * x3))))] M104 _
              refine rz_71n (N := M) (c := 0) (e := 2) (by assumption) (by assumption) (by decide) (by omega) (by omega) ?_
              intro M105 (i9 : ∀ (q : Nat) (j : Int), ¬ (q = 48 ∨ q = 49) → M105 q j = M q j) (i10 : M105 48 1 = 2)
              show xa_C (xl_I b) A h0 _ 131 [(1, 0, (-9223372036854775808), 9223372036854775807, xa_w64 ((x2 * (xa_w32 ((xa_w32 (x2 * x4)) - (xa_w32 (x1 * x3))))) - (xa_w64 ((x4 * (xa_w32 ((xa_w32 (x2 * x2)) + (xa_w32 (x1 * x1))))) - (xa_w64 ((xa_w64 ((2 * x1) * x2)) * x3))))))] M105 _
              refine cx_131n (by omega) ?_
              intro r106 (i11 : nr_s (xa_w64 ((x2 * (xa_w32 ((xa_w32 (x2 * x4)) - (xa_w32 (x1 * x3))))) - (xa_w64 ((x4 * (xa_w32 ((xa_w32 (x2 * x2)) + (xa_w32 (x1 * x1))))) - (xa_w64 ((xa_w64 ((2 * x1) * x2)) * x3)))))) r106)
              show xa_wk post (some (0, 0, 0, 2, r106)) M105
              exact xa_wkI _ rfl (fun _ _ => by omega) (k _ _ i9 (Or.inl ⟨by unfold rz_sl; omega, i10⟩))
            · intro (c6 : x4 < x3)
              show xa_wk post (some (0, 0, (-1), (-1), (-1))) M
              exact xa_wkI (-1) rfl (fun _ _ => by omega) (k _ _ (fun _ _ _ => rfl) (Or.inr ⟨by unfold rz_sl; omega, rfl⟩))
theorem rx_163 {b : Bool} {A : Nat → Nat} {h0 : g_H} {d : Nat} {M : xa_M} {post : Option xa_V → xa_M → Prop} {l1 u1 l2 u2 x1 x2 : Int} (k : ∀ (r : Int) (M1 : xa_M), (∀ (q : Nat) (j : Int), ¬ (q = 48 ∨ q = 49) → M1 q j = M q j) → rz_c (rz_un x1 x2) (M 48 1) (M1 48 1) 2 → post (some (0, 0, (-1), 99, r)) M1) : xa_C (xl_I b) A h0 (d + 4) 163 [(2, 0, 0, 0, 0), (0, 0, l1, u1, x1), (0, 0, l2, u2, x2)] M post := by
  refine xa_C_wk ?_
  refine xa_C_arg [(2, 0, 0, 0, 0), (0, 0, (-2147483648), 2147483647, x1), (0, 0, (-2147483648), 2147483647, x2)] (xa_svR (xa_svI (fun _ _ _ _ => by omega) (xa_svI (fun _ _ _ _ => by omega) xa_sv0))) ?_
  refine xa_meth (Q0 := (9, 1, false, 0, 0, 11)) (by decide +kernel) ⟨rfl, rfl⟩ (full := s_c_163) rfl rfl ?_
  intro hM hv Q hgo
  have loop : (1 ≤ x1 ∧ x1 ≤ 1000) → (1 ≤ x2 ∧ x2 ≤ 1000) → x2 ≤ x1 → ∀ (f : Nat) (ta tb : Int), 1 ≤ ta ∧ ta ≤ 100 → 0 ≤ tb ∧ tb ≤ 99 → 100 - ta < (f : Int) → Q 36 [(4, (0, 0, 1, 100, ta)), (3, (0, 0, 0, 99, tb)), (0, (2, 0, 0, 0, 0)), (1, (0, 0, 1, 1000, x1)), (2, (0, 0, 1, 1000, x2))] [] M := by
    intro z1 z2 z3 f
    induction f with
    | zero => intro ta tb a1 b1 hms; omega
    | succ f ih =>
      intro ta tb a1 b1 hms
      refine hgo.1 60 [36] 36 _ _ _ ?_
      refine And.intro ?_ ?_
      · intro (c1 : 100 ≤ ta)
        show xa_C (xl_I b) A h0 _ 59 [(2, 48, 0, 0, 0)] M _
        refine rz_59n (N := M) (fun _ _ _ => rfl) ?_
        intro M107 (i2 : ∀ (q : Nat) (j : Int), ¬ (q = 48 ∨ q = 49) → M107 q j = M q j) (i3 : M107 48 1 = 0)
        show xa_C (xl_I b) A h0 _ 71 [(2, 48, 0, 0, 0), (1, 0, 100, 199, 100 + tb), (1, 0, 1, 100, 100 - tb)] M107 _
        refine rz_71n (N := M) (c := 0) (e := 2) (by assumption) (by assumption) (by decide) (by omega) (by omega) ?_
        intro M108 (i4 : ∀ (q : Nat) (j : Int), ¬ (q = 48 ∨ q = 49) → M108 q j = M q j) (i5 : M108 48 1 = 2)
        show xa_wk post (some (0, 0, 0, 99, tb)) M108
        exact xa_wkI _ rfl (fun _ _ => by omega) (k _ _ i4 (Or.inl ⟨by unfold rz_un; omega, i5⟩))
      · intro (c1 : ta < 100)
        show xa_C (xl_I b) A h0 _ 56 [(1, 0, (-98899), 200000, ((100 + ta) * x2) - ((100 - ta) * x1))] M _
        refine ct_absb 200000 (by decide) (by decide) (by decide) ?_
        intro r109 (i6 : r109 = ((((100 + ta) * x2) - ((100 - ta) * x1)).natAbs : Int))
        show xa_C (xl_I b) A h0 _ 56 [(1, 0, (-99900), 198999, ((100 + tb) * x2) - ((100 - tb) * x1))] M _
        refine ct_absb 200000 (by decide) (by decide) (by decide) ?_
        intro r110 (i7 : r110 = ((((100 + tb) * x2) - ((100 - tb) * x1)).natAbs : Int))
        refine And.intro ?_ ?_
        · intro (c8 : (r110 * (100 - ta)) ≤ (r109 * (100 - tb)))
          show Q 36 [(4, (0, 0, 2, 101, ta + 1)), (3, (0, 0, 0, 99, tb)), (7, (1, 0, 0, 200000, r110)), (5, (1, 0, 0, 200000, r109)), (0, (2, 0, 0, 0, 0)), (1, (0, 0, 1, 1000, x1)), (2, (0, 0, 1, 1000, x2))] [] M
          refine hgo.2.1 36 _ [(4, (0, 0, 1, 100, ta + 1)), (3, (0, 0, 0, 99, tb)), (0, (2, 0, 0, 0, 0)), (1, (0, 0, 1, 1000, x1)), (2, (0, 0, 1, 1000, x2))] _ _ (xa_subI rfl rfl (fun _ _ _ _ => by omega) (xa_subI rfl rfl (fun _ _ _ _ => by omega) (xa_subR rfl (xa_subI rfl rfl (fun _ _ _ _ => by omega) (xa_subI rfl rfl (fun _ _ _ _ => by omega) (xa_sub0)))))) ?_
          exact ih (ta + 1) tb (by omega) (by omega) (by omega)
        · intro (c8 : (r109 * (100 - tb)) < (r110 * (100 - ta)))
          show Q 36 [(4, (0, 0, 2, 101, ta + 1)), (3, (0, 0, 1, 100, ta)), (7, (1, 0, 0, 200000, r110)), (5, (1, 0, 0, 200000, r109)), (0, (2, 0, 0, 0, 0)), (1, (0, 0, 1, 1000, x1)), (2, (0, 0, 1, 1000, x2))] [] M
          refine hgo.2.1 36 _ [(4, (0, 0, 1, 100, ta + 1)), (3, (0, 0, 0, 99, ta)), (0, (2, 0, 0, 0, 0)), (1, (0, 0, 1, 1000, x1)), (2, (0, 0, 1, 1000, x2))] _ _ (xa_subI rfl rfl (fun _ _ _ _ => by omega) (xa_subI rfl rfl (fun _ _ _ _ => by omega) (xa_subR rfl (xa_subI rfl rfl (fun _ _ _ _ => by omega) (xa_subI rfl rfl (fun _ _ _ _ => by omega) (xa_sub0)))))) ?_
          exact ih (ta + 1) ta (by omega) (by omega) (by omega)
  refine hgo.1 24 [36] 0 _ _ _ ?_
  refine And.intro ?_ ?_
  · intro (c1 : x1 < 1)
    show xa_wk post (some (0, 0, (-1), (-1), (-1))) M
    exact xa_wkI (-1) rfl (fun _ _ => by omega) (k _ _ (fun _ _ _ => rfl) (Or.inr ⟨by unfold rz_un; omega, rfl⟩))
  · intro (c1 : 1 ≤ x1)
    refine And.intro ?_ ?_
    · intro (c2 : 1000 < x1)
      show xa_wk post (some (0, 0, (-1), (-1), (-1))) M
      exact xa_wkI (-1) rfl (fun _ _ => by omega) (k _ _ (fun _ _ _ => rfl) (Or.inr ⟨by unfold rz_un; omega, rfl⟩))
    · intro (c2 : x1 ≤ 1000)
      refine And.intro ?_ ?_
      · intro (c3 : x2 < 1)
        show xa_wk post (some (0, 0, (-1), (-1), (-1))) M
        exact xa_wkI (-1) rfl (fun _ _ => by omega) (k _ _ (fun _ _ _ => rfl) (Or.inr ⟨by unfold rz_un; omega, rfl⟩))
      · intro (c3 : 1 ≤ x2)
        refine And.intro ?_ ?_
        · intro (c4 : 1000 < x2)
          show xa_wk post (some (0, 0, (-1), (-1), (-1))) M
          exact xa_wkI (-1) rfl (fun _ _ => by omega) (k _ _ (fun _ _ _ => rfl) (Or.inr ⟨by unfold rz_un; omega, rfl⟩))
        · intro (c4 : x2 ≤ 1000)
          refine And.intro ?_ ?_
          · intro (c5 : x2 ≤ x1)
            show Q 36 [(4, (0, 0, 1, 1, 1)), (3, (0, 0, 0, 0, 0)), (0, (2, 0, 0, 0, 0)), (1, (0, 0, (-2147483648), 2147483647, x1)), (2, (0, 0, (-2147483648), 2147483647, x2))] [] M
            refine hgo.2.1 36 _ [(4, (0, 0, 1, 100, 1)), (3, (0, 0, 0, 99, 0)), (0, (2, 0, 0, 0, 0)), (1, (0, 0, 1, 1000, x1)), (2, (0, 0, 1, 1000, x2))] _ _ (xa_subI rfl rfl (fun _ _ _ _ => by omega) (xa_subI rfl rfl (fun _ _ _ _ => by omega) (xa_subR rfl (xa_subI rfl rfl (fun _ _ _ _ => by omega) (xa_subI rfl rfl (fun _ _ _ _ => by omega) (xa_sub0)))))) ?_
            exact loop ⟨by omega, by omega⟩ ⟨by omega, by omega⟩ (by omega) 100 1 0 (by omega) (by omega) (by omega)
          · intro (c5 : x1 < x2)
            show xa_wk post (some (0, 0, (-1), (-1), (-1))) M
            exact xa_wkI (-1) rfl (fun _ _ => by omega) (k _ _ (fun _ _ _ => rfl) (Or.inr ⟨by unfold rz_un; omega, rfl⟩))
theorem rm_slot {A : Nat → Nat} {h0 : g_H} {d : Nat} {M : xa_M} {post : Option xa_V → xa_M → Prop} {l1 u1 l2 u2 l3 u3 l4 u4 : Int} {a b c e : Int} (hI : xm_Inv M) (k : ∀ (o : Option xa_V) (M1 : xa_M), (∃ lo hi n, o = some (0, 0, lo, hi, n)) → xm_cor M M1 → rz_c (rz_sl a b c e) (M 60 20) (M1 60 20) 2 → post o M1) : xa_C xm_I A h0 (d + 4) 270 [(2, 60, 0, 0, 0), (0, 0, l1, u1, a), (0, 0, l2, u2, b), (0, 0, l3, u3, c), (0, 0, l4, u4, e)] M post := by
  refine xa_C_arg [(2, 60, 0, 0, 0), (0, 0, (-2147483648), 2147483647, a), (0, 0, (-2147483648), 2147483647, b), (0, 0, (-2147483648), 2147483647, c), (0, 0, (-2147483648), 2147483647, e)] (xa_svR (xa_svI (fun _ _ _ _ => by omega) (xa_svI (fun _ _ _ _ => by omega) (xa_svI (fun _ _ _ _ => by omega) (xa_svI (fun _ _ _ _ => by omega) xa_sv0))))) ?_
  refine xa_meth (Q0 := (9, 1, false, 0, 0, 12)) (by decide +kernel) ⟨rfl, rfl⟩ (full := s_c_270) rfl rfl ?_
  intro hM hv Q hgo
  have und : 0 ≤ a → a < b → b ≤ 100 → 1 ≤ e → e ≤ 20 → -e ≤ c → c ≤ e → 1 ≤ b * b * e - 2 * a * b * c + a * a * e := by
    intro h1 h2 h3 h4 h5 h6 h7
    have hab : 0 ≤ a * b := Int.mul_nonneg h1 (by omega)
    have k1 : a * b * c ≤ a * b * e := Int.mul_le_mul_of_nonneg_left h7 hab
    have k2 : 1 ≤ (b - a) * (b - a) := (xm_mulp (p := b - a) (q := b - a) (a := 100) (b := 100) (by omega) (by omega) (by omega) (by omega)).1
    have k3 : 1 ≤ (b - a) * (b - a) * e := by
      have := Int.mul_pos (show 0 < (b - a) * (b - a) by omega) (show 0 < e by omega)
      omega
    have k4 : (b - a) * (b - a) * e = b * b * e - 2 * (a * b * e) + a * a * e := by
      simp only [Int.sub_mul, Int.mul_sub, Int.mul_comm b a]
      omega
    have k5 : 2 * a * b * c = 2 * (a * b * c) := by
      rw [Int.mul_assoc 2 a b, Int.mul_assoc 2 (a * b) c]
    omega
  refine hgo.1 25 [37] 0 _ _ _ ?_
  show xa_C xm_I A h0 _ 214 [(0, 0, (-2147483648), 2147483647, a), (0, 0, 0, 0, 0), (0, 0, 99, 99, 99)] (xa_up M 60 21 0) _
  refine ct_in ?_ ?_
  · intro (i1 : 0 ≤ a ∧ a ≤ 99)
    refine And.intro ?_ ?_
    · intro (c2 : b ≤ a)
      show post (some (0, 0, (-1), (-1), (-1))) (xa_up M 60 21 0)
      exact k _ _ ⟨_, _, _, rfl⟩ (xm_cor_f (by omega) xm_cor_r) (by show rz_c (rz_sl a b c e) (M 60 20) (M 60 20) 2; unfold rz_c rz_sl; omega)
    · intro (c2 : a < b)
      refine And.intro ?_ ?_
      · intro (c3 : 100 < b)
        show post (some (0, 0, (-1), (-1), (-1))) (xa_up M 60 21 0)
        exact k _ _ ⟨_, _, _, rfl⟩ (xm_cor_f (by omega) xm_cor_r) (by show rz_c (rz_sl a b c e) (M 60 20) (M 60 20) 2; unfold rz_c rz_sl; omega)
      · intro (c3 : b ≤ 100)
        show xa_C xm_I A h0 _ 214 [(0, 0, (-2147483648), 2147483647, e), (0, 0, 1, 1, 1), (0, 0, 20, 20, 20)] (xa_up M 60 21 0) _
        refine ct_in ?_ ?_
        · intro (i4 : 1 ≤ e ∧ e ≤ 20)
          show Q 37 [(0, (2, 60, 0, 0, 0)), (1, (0, 0, (-2147483648), 2147483647, a)), (2, (0, 0, (-2147483648), 2147483647, b)), (3, (0, 0, (-2147483648), 2147483647, c)), (4, (0, 0, (-2147483648), 2147483647, e))] [] (xa_up M 60 21 0)
          refine hgo.2.1 37 _ [(0, (2, 60, 0, 0, 0)), (1, (0, 0, (-2147483648), 2147483647, a)), (2, (0, 0, (-2147483648), 2147483647, b)), (3, (0, 0, (-2147483648), 2147483647, c)), (4, (0, 0, 1, 20, e))] _ _ (xa_subR rfl (xa_subI rfl rfl (fun _ _ _ _ => by omega) (xa_subI rfl rfl (fun _ _ _ _ => by omega) (xa_subI rfl rfl (fun _ _ _ _ => by omega) (xa_subI rfl rfl (fun _ _ _ _ => by omega) xa_sub0))))) ?_
          refine hgo.1 12 [51] 37 _ _ _ ?_
          show xa_C xm_I A h0 _ 214 [(0, 0, (-2147483648), 2147483647, c), (0, 0, (-20), (-1), -e), (0, 0, 1, 20, e)] (xa_up M 60 21 0) _
          refine ct_in ?_ ?_
          · intro (i105 : (-e) ≤ c ∧ c ≤ e)
            show Q 51 [(0, (2, 60, 0, 0, 0)), (1, (0, 0, (-2147483648), 2147483647, a)), (2, (0, 0, (-2147483648), 2147483647, b)), (3, (0, 0, (-2147483648), 2147483647, c)), (4, (0, 0, 1, 20, e))] [] (xa_up M 60 21 0)
            refine hgo.2.1 51 _ [(0, (2, 60, 0, 0, 0)), (1, (0, 0, 0, 99, a)), (2, (0, 0, 1, 100, b)), (3, (0, 0, (-20), 20, c)), (4, (0, 0, 1, 20, e))] _ _ (xa_subR rfl (xa_subI rfl rfl (fun _ _ _ _ => by omega) (xa_subI rfl rfl (fun _ _ _ _ => by omega) (xa_subI rfl rfl (fun _ _ _ _ => by omega) (xa_subI rfl rfl (fun _ _ _ _ => by omega) xa_sub0))))) ?_
            have und1 := und (by omega) (by omega) (by omega) (by omega) (by omega) (by omega) (by omega)
            refine hgo.1 10 [56, 60, 65, 68, 69, 76, 80, 86, 89, 92, 93, 98, 102, 103] 51 _ _ _ ?_
            show Q 56 [(0, (2, 60, 0, 0, 0)), (1, (0, 0, 0, 99, a)), (2, (0, 0, 1, 100, b)), (3, (0, 0, (-20), 20, c)), (4, (0, 0, 1, 20, e))] [(1, 0, 1, 10000, b * b)] (xa_up M 60 21 0)
            refine hgo.1 8 [56, 60, 65, 68, 69, 76, 80, 86, 89, 92, 93, 98, 102, 103] 56 _ _ _ ?_
            show Q 60 [(0, (2, 60, 0, 0, 0)), (1, (0, 0, 0, 99, a)), (2, (0, 0, 1, 100, b)), (3, (0, 0, (-20), 20, c)), (4, (0, 0, 1, 20, e))] [(1, 0, 1, 200000, (b * b) * e)] (xa_up M 60 21 0)
            refine hgo.1 10 [56, 60, 65, 68, 69, 76, 80, 86, 89, 92, 93, 98, 102, 103] 60 _ _ _ ?_
            show Q 65 [(0, (2, 60, 0, 0, 0)), (1, (0, 0, 0, 99, a)), (2, (0, 0, 1, 100, b)), (3, (0, 0, (-20), 20, c)), (4, (0, 0, 1, 20, e))] [(1, 0, 0, 9900, a * b), (1, 0, 1, 200000, (b * b) * e)] (xa_up M 60 21 0)
            refine hgo.1 8 [56, 60, 65, 68, 69, 76, 80, 86, 89, 92, 93, 98, 102, 103] 65 _ _ _ ?_
            show Q 68 [(0, (2, 60, 0, 0, 0)), (1, (0, 0, 0, 99, a)), (2, (0, 0, 1, 100, b)), (3, (0, 0, (-20), 20, c)), (4, (0, 0, 1, 20, e))] [(1, 0, (-198000), 198000, (a * b) * c), (1, 0, 1, 200000, (b * b) * e)] (xa_up M 60 21 0)
            refine hgo.1 6 [56, 60, 65, 68, 69, 76, 80, 86, 89, 92, 93, 98, 102, 103] 68 _ _ _ ?_
            show Q 69 [(0, (2, 60, 0, 0, 0)), (1, (0, 0, 0, 99, a)), (2, (0, 0, 1, 100, b)), (3, (0, 0, (-20), 20, c)), (4, (0, 0, 1, 20, e))] [(1, 0, (-197999), 398000, ((b * b) * e) - ((a * b) * c))] (xa_up M 60 21 0)
            refine hgo.1 11 [56, 60, 65, 68, 69, 76, 80, 86, 89, 92, 93, 98, 102, 103] 69 _ _ _ ?_
            show Q 76 [(5, (1, 0, (-197999), 398000, ((b * b) * e) - ((a * b) * c))), (0, (2, 60, 0, 0, 0)), (1, (0, 0, 0, 99, a)), (2, (0, 0, 1, 100, b)), (3, (0, 0, (-20), 20, c)), (4, (0, 0, 1, 20, e))] [(1, 0, 1, 10000, b * b)] (xa_up M 60 21 0)
            refine hgo.1 8 [56, 60, 65, 68, 69, 76, 80, 86, 89, 92, 93, 98, 102, 103] 76 _ _ _ ?_
            show Q 80 [(5, (1, 0, (-197999), 398000, ((b * b) * e) - ((a * b) * c))), (0, (2, 60, 0, 0, 0)), (1, (0, 0, 0, 99, a)), (2, (0, 0, 1, 100, b)), (3, (0, 0, (-20), 20, c)), (4, (0, 0, 1, 20, e))] [(1, 0, 1, 200000, (b * b) * e)] (xa_up M 60 21 0)
            refine hgo.1 9 [56, 60, 65, 68, 69, 76, 80, 86, 89, 92, 93, 98, 102, 103] 80 _ _ _ ?_
            show Q 86 [(5, (1, 0, (-197999), 398000, ((b * b) * e) - ((a * b) * c))), (0, (2, 60, 0, 0, 0)), (1, (0, 0, 0, 99, a)), (2, (0, 0, 1, 100, b)), (3, (0, 0, (-20), 20, c)), (4, (0, 0, 1, 20, e))] [(1, 0, 0, 198, 2 * a), (1, 0, 1, 200000, (b * b) * e)] (xa_up M 60 21 0)
            refine hgo.1 8 [56, 60, 65, 68, 69, 76, 80, 86, 89, 92, 93, 98, 102, 103] 86 _ _ _ ?_
            show Q 89 [(5, (1, 0, (-197999), 398000, ((b * b) * e) - ((a * b) * c))), (0, (2, 60, 0, 0, 0)), (1, (0, 0, 0, 99, a)), (2, (0, 0, 1, 100, b)), (3, (0, 0, (-20), 20, c)), (4, (0, 0, 1, 20, e))] [(1, 0, 0, 19800, (2 * a) * b), (1, 0, 1, 200000, (b * b) * e)] (xa_up M 60 21 0)
            refine hgo.1 8 [56, 60, 65, 68, 69, 76, 80, 86, 89, 92, 93, 98, 102, 103] 89 _ _ _ ?_
            show Q 92 [(5, (1, 0, (-197999), 398000, ((b * b) * e) - ((a * b) * c))), (0, (2, 60, 0, 0, 0)), (1, (0, 0, 0, 99, a)), (2, (0, 0, 1, 100, b)), (3, (0, 0, (-20), 20, c)), (4, (0, 0, 1, 20, e))] [(1, 0, (-396000), 396000, ((2 * a) * b) * c), (1, 0, 1, 200000, (b * b) * e)] (xa_up M 60 21 0)
            refine hgo.1 6 [56, 60, 65, 68, 69, 76, 80, 86, 89, 92, 93, 98, 102, 103] 92 _ _ _ ?_
            show Q 93 [(5, (1, 0, (-197999), 398000, ((b * b) * e) - ((a * b) * c))), (0, (2, 60, 0, 0, 0)), (1, (0, 0, 0, 99, a)), (2, (0, 0, 1, 100, b)), (3, (0, 0, (-20), 20, c)), (4, (0, 0, 1, 20, e))] [(1, 0, (-395999), 596000, ((b * b) * e) - (((2 * a) * b) * c))] (xa_up M 60 21 0)
            refine hgo.1 10 [56, 60, 65, 68, 69, 76, 80, 86, 89, 92, 93, 98, 102, 103] 93 _ _ _ ?_
            show Q 98 [(5, (1, 0, (-197999), 398000, ((b * b) * e) - ((a * b) * c))), (0, (2, 60, 0, 0, 0)), (1, (0, 0, 0, 99, a)), (2, (0, 0, 1, 100, b)), (3, (0, 0, (-20), 20, c)), (4, (0, 0, 1, 20, e))] [(1, 0, 0, 9801, a * a), (1, 0, (-395999), 596000, ((b * b) * e) - (((2 * a) * b) * c))] (xa_up M 60 21 0)
            refine hgo.1 8 [56, 60, 65, 68, 69, 76, 80, 86, 89, 92, 93, 98, 102, 103] 98 _ _ _ ?_
            show Q 102 [(5, (1, 0, (-197999), 398000, ((b * b) * e) - ((a * b) * c))), (0, (2, 60, 0, 0, 0)), (1, (0, 0, 0, 99, a)), (2, (0, 0, 1, 100, b)), (3, (0, 0, (-20), 20, c)), (4, (0, 0, 1, 20, e))] [(1, 0, 0, 196020, (a * a) * e), (1, 0, (-395999), 596000, ((b * b) * e) - (((2 * a) * b) * c))] (xa_up M 60 21 0)
            refine hgo.1 6 [56, 60, 65, 68, 69, 76, 80, 86, 89, 92, 93, 98, 102, 103] 102 _ _ _ ?_
            show Q 103 [(5, (1, 0, (-197999), 398000, ((b * b) * e) - ((a * b) * c))), (0, (2, 60, 0, 0, 0)), (1, (0, 0, 0, 99, a)), (2, (0, 0, 1, 100, b)), (3, (0, 0, (-20), 20, c)), (4, (0, 0, 1, 20, e))] [(1, 0, (-395999), 792020, (((b * b) * e) - (((2 * a) * b) * c)) + ((a * a) * e))] (xa_up M 60 21 0)
            refine hgo.1 21 [56, 60, 65, 68, 69, 76, 80, 86, 89, 92, 93, 98, 102, 103] 103 _ _ _ ?_
            show xa_C xm_I A h0 _ 230 [(2, 60, 0, 0, 0), (1, 0, (-197999), 398000, ((b * b) * e) - ((a * b) * c)), (1, 0, (-395999), 792020, (((b * b) * e) - (((2 * a) * b) * c)) + ((a * a) * e))] (xa_up (xa_up M 60 21 0) 60 20 0) _
            refine ct_tellPart (n := 0) (by first | rfl | (simp [xa_up]; done)) (by decide) (by decide) (by decide) (by omega) (fun g486 eg486 pg486 qg486 => ?_)
            refine And.intro ?_ ?_
            · intro (c487 : (((b * b) * e) - ((a * b) * c)) ≤ ((((b * b) * e) - (((2 * a) * b) * c)) + ((a * a) * e)))
              refine And.intro ?_ ?_
              · intro (c488 : ((((b * b) * e) - (((2 * a) * b) * c)) + ((a * a) * e)) ≤ (((b * b) * e) - ((a * b) * c)))
                show post (some (0, 0, 0, 0, 0)) (xa_up (xa_up (xa_up (xa_up (xa_up (xa_up M 60 21 0) 60 20 0) 74 0 ((((b * b) * e) - ((a * b) * c)).tdiv g486)) 60 20 1) 74 1 (((((b * b) * e) - (((2 * a) * b) * c)) + ((a * a) * e)).tdiv g486)) 60 20 2)
                exact k _ _ ⟨_, _, _, rfl⟩ (xm_cor_f (by omega) (xm_cor_a rfl (xm_cor_f (by omega) (xm_cor_a rfl (xm_cor_f (by omega) (xm_cor_f (by omega) xm_cor_r)))))) (by show rz_c (rz_sl a b c e) (M 60 20) (2) 2; unfold rz_c rz_sl; omega)
              · intro (c488 : (((b * b) * e) - ((a * b) * c)) < ((((b * b) * e) - (((2 * a) * b) * c)) + ((a * a) * e)))
                show post (some (0, 0, 2, 2, 2)) (xa_up (xa_up (xa_up (xa_up (xa_up (xa_up M 60 21 0) 60 20 0) 74 0 ((((b * b) * e) - ((a * b) * c)).tdiv g486)) 60 20 1) 74 1 (((((b * b) * e) - (((2 * a) * b) * c)) + ((a * a) * e)).tdiv g486)) 60 20 2)
                exact k _ _ ⟨_, _, _, rfl⟩ (xm_cor_f (by omega) (xm_cor_a rfl (xm_cor_f (by omega) (xm_cor_a rfl (xm_cor_f (by omega) (xm_cor_f (by omega) xm_cor_r)))))) (by show rz_c (rz_sl a b c e) (M 60 20) (2) 2; unfold rz_c rz_sl; omega)
            · intro (c487 : ((((b * b) * e) - (((2 * a) * b) * c)) + ((a * a) * e)) < (((b * b) * e) - ((a * b) * c)))
              show post (some (0, 0, 1, 1, 1)) (xa_up (xa_up (xa_up (xa_up (xa_up (xa_up M 60 21 0) 60 20 0) 74 0 ((((b * b) * e) - ((a * b) * c)).tdiv g486)) 60 20 1) 74 1 (((((b * b) * e) - (((2 * a) * b) * c)) + ((a * a) * e)).tdiv g486)) 60 20 2)
              exact k _ _ ⟨_, _, _, rfl⟩ (xm_cor_f (by omega) (xm_cor_a rfl (xm_cor_f (by omega) (xm_cor_a rfl (xm_cor_f (by omega) (xm_cor_f (by omega) xm_cor_r)))))) (by show rz_c (rz_sl a b c e) (M 60 20) (2) 2; unfold rz_c rz_sl; omega)
          · intro (i105 : ¬ ((-e) ≤ c ∧ c ≤ e))
            show post (some (0, 0, (-1), (-1), (-1))) (xa_up M 60 21 0)
            exact k _ _ ⟨_, _, _, rfl⟩ (xm_cor_f (by omega) xm_cor_r) (by show rz_c (rz_sl a b c e) (M 60 20) (M 60 20) 2; unfold rz_c rz_sl; omega)
        · intro (i4 : ¬ (1 ≤ e ∧ e ≤ 20))
          show post (some (0, 0, (-1), (-1), (-1))) (xa_up M 60 21 0)
          exact k _ _ ⟨_, _, _, rfl⟩ (xm_cor_f (by omega) xm_cor_r) (by show rz_c (rz_sl a b c e) (M 60 20) (M 60 20) 2; unfold rz_c rz_sl; omega)
  · intro (i1 : ¬ (0 ≤ a ∧ a ≤ 99))
    show post (some (0, 0, (-1), (-1), (-1))) (xa_up M 60 21 0)
    exact k _ _ ⟨_, _, _, rfl⟩ (xm_cor_f (by omega) xm_cor_r) (by show rz_c (rz_sl a b c e) (M 60 20) (M 60 20) 2; unfold rz_c rz_sl; omega)
theorem rm_uneven {A : Nat → Nat} {h0 : g_H} {d : Nat} {M : xa_M} {post : Option xa_V → xa_M → Prop} {l1 u1 l2 u2 : Int} {x1 x2 : Int} (hI : xm_Inv M) (k : ∀ (o : Option xa_V) (M1 : xa_M), (∃ lo hi n, o = some (0, 0, lo, hi, n)) → xm_iz M M1 → rz_c (rz_un x1 x2) (M 60 20) (M1 60 20) 2 → post o M1) : xa_C xm_I A h0 (d + 4) 271 [(2, 60, 0, 0, 0), (0, 0, l1, u1, x1), (0, 0, l2, u2, x2)] M post := by
  refine xa_C_arg [(2, 60, 0, 0, 0), (0, 0, (-2147483648), 2147483647, x1), (0, 0, (-2147483648), 2147483647, x2)] (xa_svR (xa_svI (fun _ _ _ _ => by omega) (xa_svI (fun _ _ _ _ => by omega) xa_sv0))) ?_
  refine xa_meth (Q0 := (9, 1, false, 0, 0, 12)) (by decide +kernel) ⟨rfl, rfl⟩ (full := s_c_271) rfl rfl ?_
  intro hM hv Q hgo
  have loop0 : 1 ≤ x1 → x1 ≤ 1000 → 1 ≤ x2 → x2 ≤ 1000 → x2 ≤ x1 → ∀ (n : Nat) (x6 x4 x3 : Int) (M1 : xa_M), 1 ≤ x6 ∧ x6 ≤ 100 → 0 ≤ x3 ∧ x3 ≤ 99 → 1 ≤ x2 ∧ x2 ≤ 1000 → 1 ≤ x1 ∧ x1 ≤ 1000 → xm_iz M M1 → 100 - x6 < (n : Int) → Q 49 [(6, (0, 0, 1, 100, x6)), (4, (1, 0, (-9223372036854775808), 9223372036854775807, x4)), (3, (0, 0, 0, 99, x3)), (2, (0, 0, 1, 1000, x2)), (1, (0, 0, 1, 1000, x1)), (0, (2, 60, 0, 0, 0))] [] M1 := by
    intro u0 u1 v0 v1 z21
    intro n
    induction n with
    | zero => intro x6 x4 x3 M1 b6 b3 f2 f1 hc hms; omega
    | succ n ih0 =>
      intro x6 x4 x3 M1 b6 b3 f2 f1 hc hms0
      refine hgo.1 44 [49] 49 _ _ _ ?_
      refine And.intro ?_ ?_
      · intro (c1 : 100 ≤ x6)
        show xa_C xm_I A h0 _ 230 [(2, 60, 0, 0, 0), (1, 0, 100, 199, 100 + x3), (1, 0, 1, 100, 100 - x3)] (xa_up M1 60 20 0) _
        refine ct_tellPart (n := 0) (by first | rfl | (simp [xa_up]; done)) (by decide) (by decide) (by decide) (by omega) (fun g2 eg2 pg2 qg2 => ?_)
        show post (some (0, 0, 0, 99, x3)) (xa_up (xa_up (xa_up (xa_up (xa_up M1 60 20 0) 74 0 ((100 + x3).tdiv g2)) 60 20 1) 74 1 ((100 - x3).tdiv g2)) 60 20 2)
        exact k _ _ ⟨_, _, _, rfl⟩ (xm_iz_u rfl (xm_iz_u rfl (xm_iz_u rfl (xm_iz_u rfl (xm_iz_u rfl hc))))) (by show rz_c (rz_un x1 x2) (M 60 20) (2) 2; unfold rz_c rz_un; omega)
      · intro (c1 : x6 < 100)
        show xa_C xm_I A h0 _ 56 [(1, 0, (-98899), 200000, ((100 + x6) * x2) - ((100 - x6) * x1))] M1 _
        refine ct_absb 200000 (by decide) (by decide) (by decide) (fun a3 ea3 => ?_)
        refine And.intro ?_ ?_
        · intro (c4 : (a3 * (100 - x3)) < (xa_w64 (x4 * (100 - x6))))
          show Q 49 [(6, (0, 0, 2, 101, x6 + 1)), (4, (1, 0, 0, 200000, a3)), (3, (0, 0, 1, 100, x6)), (7, (1, 0, 0, 200000, a3)), (2, (0, 0, 1, 1000, x2)), (1, (0, 0, 1, 1000, x1)), (0, (2, 60, 0, 0, 0))] [] M1
          refine hgo.2.1 49 _ [(6, (0, 0, 1, 100, x6 + 1)), (4, (1, 0, (-9223372036854775808), 9223372036854775807, a3)), (3, (0, 0, 0, 99, x6)), (2, (0, 0, 1, 1000, x2)), (1, (0, 0, 1, 1000, x1)), (0, (2, 60, 0, 0, 0))] _ _ (xa_subI rfl rfl (fun _ _ _ _ => by omega) (xa_subL rfl rfl (fun _ _ _ _ => by omega) (xa_subI rfl rfl (fun _ _ _ _ => by omega) (xa_subI rfl rfl (fun _ _ _ _ => by omega) (xa_subI rfl rfl (fun _ _ _ _ => by omega) (xa_subR rfl xa_sub0)))))) ?_
          exact ih0 (x6 + 1) a3 x6 M1 (by omega) (by omega) (by omega) (by omega) hc (by omega)
        · intro (c4 : (xa_w64 (x4 * (100 - x6))) ≤ (a3 * (100 - x3)))
          show Q 49 [(6, (0, 0, 2, 101, x6 + 1)), (7, (1, 0, 0, 200000, a3)), (4, (1, 0, (-9223372036854775808), 9223372036854775807, x4)), (3, (0, 0, 0, 99, x3)), (2, (0, 0, 1, 1000, x2)), (1, (0, 0, 1, 1000, x1)), (0, (2, 60, 0, 0, 0))] [] M1
          refine hgo.2.1 49 _ [(6, (0, 0, 1, 100, x6 + 1)), (4, (1, 0, (-9223372036854775808), 9223372036854775807, x4)), (3, (0, 0, 0, 99, x3)), (2, (0, 0, 1, 1000, x2)), (1, (0, 0, 1, 1000, x1)), (0, (2, 60, 0, 0, 0))] _ _ (xa_subI rfl rfl (fun _ _ _ _ => by omega) (xa_subL rfl rfl (fun _ _ _ _ => by omega) (xa_subI rfl rfl (fun _ _ _ _ => by omega) (xa_subI rfl rfl (fun _ _ _ _ => by omega) (xa_subI rfl rfl (fun _ _ _ _ => by omega) (xa_subR rfl xa_sub0)))))) ?_
          exact ih0 (x6 + 1) x4 x3 M1 (by omega) (by omega) (by omega) (by omega) hc (by omega)
  refine hgo.1 22 [34] 0 _ _ _ ?_
  show xa_C xm_I A h0 _ 214 [(0, 0, (-2147483648), 2147483647, x1), (0, 0, 1, 1, 1), (0, 0, 1000, 1000, 1000)] (xa_up M 60 21 0) _
  refine ct_in ?_ ?_
  · intro (i1 : 1 ≤ x1 ∧ x1 ≤ 1000)
    show xa_C xm_I A h0 _ 214 [(0, 0, (-2147483648), 2147483647, x2), (0, 0, 1, 1, 1), (0, 0, 1000, 1000, 1000)] (xa_up M 60 21 0) _
    refine ct_in ?_ ?_
    · intro (i2 : 1 ≤ x2 ∧ x2 ≤ 1000)
      refine And.intro ?_ ?_
      · intro (c3 : x2 ≤ x1)
        show Q 34 [(0, (2, 60, 0, 0, 0)), (1, (0, 0, (-2147483648), 2147483647, x1)), (2, (0, 0, (-2147483648), 2147483647, x2))] [] (xa_up M 60 21 0)
        refine hgo.2.1 34 _ [(0, (2, 60, 0, 0, 0)), (1, (0, 0, 1, 1000, x1)), (2, (0, 0, 1, 1000, x2))] _ _ (xa_subR rfl (xa_subI rfl rfl (fun _ _ _ _ => by omega) (xa_subI rfl rfl (fun _ _ _ _ => by omega) xa_sub0))) ?_
        have hb1 : 1 ≤ x1 ∧ x1 ≤ 1000 := by omega
        have hb2 : 1 ≤ x2 ∧ x2 ≤ 1000 := by omega
        refine hgo.1 16 [49] 34 _ _ _ ?_
        show Q 49 [(6, (0, 0, 1, 1, 1)), (4, (1, 0, (-99900), 99900, 100 * (x1 - x2))), (3, (0, 0, 0, 0, 0)), (0, (2, 60, 0, 0, 0)), (1, (0, 0, 1, 1000, x1)), (2, (0, 0, 1, 1000, x2))] [] (xa_up M 60 21 0)
        refine hgo.2.1 49 _ [(6, (0, 0, 1, 100, 1)), (4, (1, 0, (-9223372036854775808), 9223372036854775807, 100 * (x1 - x2))), (3, (0, 0, 0, 99, 0)), (2, (0, 0, 1, 1000, x2)), (1, (0, 0, 1, 1000, x1)), (0, (2, 60, 0, 0, 0))] _ _ (xa_subI rfl rfl (fun _ _ _ _ => by omega) (xa_subL rfl rfl (fun _ _ _ _ => by omega) (xa_subI rfl rfl (fun _ _ _ _ => by omega) (xa_subI rfl rfl (fun _ _ _ _ => by omega) (xa_subI rfl rfl (fun _ _ _ _ => by omega) (xa_subR rfl xa_sub0)))))) ?_
        exact loop0 hb1.1 hb1.2 hb2.1 hb2.2 c3 100 1 (100 * (x1 - x2)) 0 (xa_up M 60 21 0) (by omega) (by omega) (by omega) (by omega) (xm_iz_u rfl xm_iz_r) (by omega)
      · intro (c3 : x1 < x2)
        show post (some (0, 0, (-1), (-1), (-1))) (xa_up M 60 21 0)
        exact k _ _ ⟨_, _, _, rfl⟩ (xm_iz_u rfl xm_iz_r) (by show rz_c (rz_un x1 x2) (M 60 20) (M 60 20) 2; unfold rz_c rz_un; omega)
    · intro (i2 : ¬ (1 ≤ x2 ∧ x2 ≤ 1000))
      show post (some (0, 0, (-1), (-1), (-1))) (xa_up M 60 21 0)
      exact k _ _ ⟨_, _, _, rfl⟩ (xm_iz_u rfl xm_iz_r) (by show rz_c (rz_un x1 x2) (M 60 20) (M 60 20) 2; unfold rz_c rz_un; omega)
  · intro (i1 : ¬ (1 ≤ x1 ∧ x1 ≤ 1000))
    show post (some (0, 0, (-1), (-1), (-1))) (xa_up M 60 21 0)
    exact k _ _ ⟨_, _, _, rfl⟩ (xm_iz_u rfl xm_iz_r) (by show rz_c (rz_un x1 x2) (M 60 20) (M 60 20) 2; unfold rz_c rz_un; omega)
theorem rz_p162 (A : Nat → Nat) (cmp : Bool) : iv_pair (rz_J A) A 162 270 [0, 0, 0, 0] (cmp && false) false := rz_armU (fun W b h as M hJ hM hInv hs hR hz => by
  obtain ⟨m1, ys, rfl, -, hs⟩ := iv_spc hs
  obtain ⟨m2, ys, rfl, -, hs⟩ := iv_spc hs
  obtain ⟨m3, ys, rfl, -, hs⟩ := iv_spc hs
  obtain ⟨m4, ys, rfl, -, hs⟩ := iv_spc hs
  obtain rfl := iv_sp0 hs
  have hc := rx_162 (b := b) (A := A) (h0 := h) (d := 56) (M := iv_num h) (l1 := -2147483648) (u1 := 2147483647) (l2 := -2147483648) (u2 := 2147483647) (l3 := -2147483648) (u3 := 2147483647) (l4 := -2147483648) (u4 := 2147483647) (x1 := m1.toInt) (x2 := m2.toInt) (x3 := m3.toInt) (x4 := m4.toInt) (post := fun o M1 => (∃ lo hi n, o = some (0, 0, lo, hi, n) ∧ rz_c (rz_sl m1.toInt m2.toInt m3.toInt m4.toInt) (iv_num h 48 1) (M1 48 1) 2) ∧ ∀ q j, lm_C q j → q < 60 → M1 q j = iv_num h q j) (fun r M1 hk z => ⟨⟨_, _, r, rfl, z⟩, fun q j hC _ => hk q j (by first | (have t9 := lm_Cq hC; omega) | (unfold lm_C at hC; omega))⟩)
  have hm := fun (h1 : g_H) => rm_slot (A := A) (h0 := h1) (d := 56) (M := M) (l1 := -2147483648) (u1 := 2147483647) (l2 := -2147483648) (u2 := 2147483647) (l3 := -2147483648) (u3 := 2147483647) (l4 := -2147483648) (u4 := 2147483647) (a := m1.toInt) (b := m2.toInt) (c := m3.toInt) (e := m4.toInt) (post := fun o M2 => (∃ lo hi n, o = some (0, 0, lo, hi, n) ∧ rz_c (rz_sl m1.toInt m2.toInt m3.toInt m4.toInt) (M 60 20) (M2 60 20) 2) ∧ xk_U M M2 ∧ xm_Inv M2) hInv (fun o M2 ho hc z => by
    obtain ⟨lo, hi, n, rfl⟩ := ho
    exact ⟨⟨lo, hi, n, rfl, z⟩, xk_cor hc, xm_Inv_cor hc hInv⟩)
  exact ⟨[(2, 0, 0, 0, 0), (0, 0, -2147483648, 2147483647, m1.toInt), (0, 0, -2147483648, 2147483647, m2.toInt), (0, 0, -2147483648, 2147483647, m3.toInt), (0, 0, -2147483648, 2147483647, m4.toInt)], [(2, 60, 0, 0, 0), (0, 0, -2147483648, 2147483647, m1.toInt), (0, 0, -2147483648, 2147483647, m2.toInt), (0, 0, -2147483648, 2147483647, m3.toInt), (0, 0, -2147483648, 2147483647, m4.toInt)], fun _ s => rz_c (rz_sl m1.toInt m2.toInt m3.toInt m4.toInt) (iv_num h 48 1) s 2, fun _ s => rz_c (rz_sl m1.toInt m2.toInt m3.toInt m4.toInt) (M 60 20) s 2, ⟨rfl, iv_i m1, iv_i m2, iv_i m3, iv_i m4, trivial⟩, ⟨rfl, iv_i m1, iv_i m2, iv_i m3, iv_i m4, trivial⟩, fun r r' s s' h1 h2 => ⟨fun e => by cases cmp <;> exact absurd e (by decide), rz_c1 h1 h2 Iff.rfl hz⟩, hc, hm⟩)
theorem rz_p163 (A : Nat → Nat) (cmp : Bool) : iv_pair (rz_J A) A 163 271 [0, 0] (cmp && false) false := rz_armU (fun W b h as M hJ hM hInv hs hR hz => by
  obtain ⟨m1, ys, rfl, -, hs⟩ := iv_spc hs
  obtain ⟨m2, ys, rfl, -, hs⟩ := iv_spc hs
  obtain rfl := iv_sp0 hs
  have hc := rx_163 (b := b) (A := A) (h0 := h) (d := 56) (M := iv_num h) (l1 := -2147483648) (u1 := 2147483647) (l2 := -2147483648) (u2 := 2147483647) (x1 := m1.toInt) (x2 := m2.toInt) (post := fun o M1 => (∃ lo hi n, o = some (0, 0, lo, hi, n) ∧ rz_c (rz_un m1.toInt m2.toInt) (iv_num h 48 1) (M1 48 1) 2) ∧ ∀ q j, lm_C q j → q < 60 → M1 q j = iv_num h q j) (fun r M1 hk z => ⟨⟨_, _, r, rfl, z⟩, fun q j hC _ => hk q j (by first | (have t9 := lm_Cq hC; omega) | (unfold lm_C at hC; omega))⟩)
  have hm := fun (h1 : g_H) => rm_uneven (A := A) (h0 := h1) (d := 56) (M := M) (l1 := -2147483648) (u1 := 2147483647) (l2 := -2147483648) (u2 := 2147483647) (x1 := m1.toInt) (x2 := m2.toInt) (post := fun o M2 => (∃ lo hi n, o = some (0, 0, lo, hi, n) ∧ rz_c (rz_un m1.toInt m2.toInt) (M 60 20) (M2 60 20) 2) ∧ xk_U M M2 ∧ xm_Inv M2) hInv (fun o M2 ho hc z => by
    obtain ⟨lo, hi, n, rfl⟩ := ho
    exact ⟨⟨lo, hi, n, rfl, z⟩, xm_iz_k hc, xm_Inv_is (xm_iz_is hc) hInv⟩)
  exact ⟨[(2, 0, 0, 0, 0), (0, 0, -2147483648, 2147483647, m1.toInt), (0, 0, -2147483648, 2147483647, m2.toInt)], [(2, 60, 0, 0, 0), (0, 0, -2147483648, 2147483647, m1.toInt), (0, 0, -2147483648, 2147483647, m2.toInt)], fun _ s => rz_c (rz_un m1.toInt m2.toInt) (iv_num h 48 1) s 2, fun _ s => rz_c (rz_un m1.toInt m2.toInt) (M 60 20) s 2, ⟨rfl, iv_i m1, iv_i m2, trivial⟩, ⟨rfl, iv_i m1, iv_i m2, trivial⟩, fun r r' s s' h1 h2 => ⟨fun e => by cases cmp <;> exact absurd e (by decide), rz_c1 h1 h2 Iff.rfl hz⟩, hc, hm⟩)
theorem rz_Qc {A : Nat → Nat} {W : y_W} {b : Bool} {h : g_H} {N : xa_M} (hQ : iv_Q A W b h N) {d j : Nat} {vs : List xa_V} {xs : List Value} (hx : xa_gS A vs xs) {Px : Option xa_V → xa_M → Prop} (hC : xa_C (xl_I b) A h d j vs (iv_num h) Px) : g_run d j xs h 0 0 (fun r h1 => ∃ v M1, Px v M1 ∧ xa_gR A v r ∧ iv_Q A W b h1 M1 ∧ xa_H (xl_I b) A M1 h h1 ∧ (∀ M : xa_M, xa_H xm_I A M h h → xa_H xm_I A M h1 h1) ∧ (∀ x : Int, 0 ≤ x → x < 496 → iv_num h1 104 x = iv_num h 104 x)) := by
  refine hC h xs (xc_F (xl_fit b) (iv_iW_inv hQ.1) hQ.2.1) hx _ (fun v M' x h' hv hr hX => ?_)
  obtain ⟨hI1, km⟩ := xc_B (xl_fit b) hQ.1 hX
  have out : ∀ q, ¬ q < 60 → h'[q]? = h[q]? := fun q hq => hX.2.2 q (xl_no hq)
  refine ⟨v, M', hv, hr, ⟨hI1, iv_F_X hX, iv_kept_k (List.prefix_refl W) ?_ ?_ ?_ ?_ ?_ hQ.2.2.1, fun q j hq hC => iv_num_x hX hC hq⟩, hX, km, fun x _ _ => iv_num_h (out 104 (by omega)) _⟩
  · intro i hi
    unfold iv_ct
    rw [hX.2.2 11 rfl]
  · intro i hi
    exact iv_num_h (out 105 (by omega)) _
  · intro x x0 x1
    exact iv_num_h (out 104 (by omega)) _
  · intro p a f hp hw e
    exact ⟨f, by rw [out p (by omega)]; exact e, fun _ _ => rfl⟩
  · intro k p a F hk hp hw e
    exact ⟨F, by rw [out p (by omega)]; exact e, fun _ _ _ => rfl⟩
def rz_uk (K : xa_M) (a b : Int) : Prop := (0 ≤ a ∧ a < 4) ∧ (0 ≤ b ∧ b < 4) ∧ ¬ K 105 a = 0 ∧ ¬ K 105 b = 0
theorem rz_uke {K K' : xa_M} {a b : Int} (e : ∀ x, 0 ≤ x → x < 4 → K 105 x = K' 105 x) : rz_uk K a b ↔ rz_uk K' a b :=
  ⟨fun ⟨h1, h2, h3, h4⟩ => ⟨h1, h2, by rw [← e a h1.1 h1.2]; exact h3, by rw [← e b h2.1 h2.2]; exact h4⟩, fun ⟨h1, h2, h3, h4⟩ => ⟨h1, h2, by rw [e a h1.1 h1.2]; exact h3, by rw [e b h2.1 h2.2]; exact h4⟩⟩
/-- the class's numbers of a cell behind a call -/
theorem rz_n48 {A : Nat → Nat} {b : Bool} {M1 : xa_M} {h h1 : g_H} (hX : xa_H (xl_I b) A M1 h h1) : iv_num h1 48 1 = M1 48 1 := iv_num_M (j := 1) hX rfl (by decide) (by decide) (by show (0 : Nat) < 2; decide)
theorem rz_u59 {A : Nat → Nat} {W : y_W} {b : Bool} {h : g_H} {M : xa_M} (hJ : iv_JW A W b h) (hM : xa_H xm_I A M h h) (hInv : xm_Inv M) : g_run 59 59 [.ref (A 48)] h 0 0 (fun _ h' => (∃ W', W <+: W' ∧ iv_JW A W' b h' ∧ ∀ M : xa_M, xa_H xm_I A M h h → xa_H xm_I A M h' h') ∧ iv_num h' 48 1 = 0) := by
  have hQ : iv_Q A W b h (iv_num h) := ⟨hJ.1, hJ.2.1, hJ.2.2.2, fun _ _ _ _ => rfl⟩
  refine g_run_mono (rz_Qc (d := 59) hQ (vs := [(2, 48, 0, 0, 0)]) (xs := [.ref (A 48)]) ⟨rfl, trivial⟩ (cx_59_48 (b := b) (d := 58) (post := fun o M2 => M2 = xa_up (iv_num h) 48 1 0) rfl)) (fun r h1 hp => ?_)
  obtain ⟨o, M1, rfl, hr, hQ1, hX, km, -⟩ := hp
  refine ⟨⟨W, List.prefix_refl W, iv_Qm hQ1 (km M hM) (km M hM) hInv (fun _ => rfl) (fun _ => rfl) (lm_R_k (fun q j hC => ?_) (iv_xj hJ hM)), km⟩, (rz_n48 hX).trans xa_up_eq⟩
  unfold xj
  by_cases hq : q < 60
  · rw [if_pos hq, if_pos hq]
    exact xa_up_ne (by first | (have t9 := lm_Cq hC; omega) | (unfold lm_C at hC; omega))
  · rw [if_neg hq, if_neg hq]
theorem rz_u60 {A : Nat → Nat} {W : y_W} {b : Bool} {h : g_H} {M : xa_M} (hJ : iv_JW A W b h) (hM : xa_H xm_I A M h h) (hInv : xm_Inv M) (x : Int64) {c : Int} (hc : iv_num h 48 1 = c) (hc2 : 0 ≤ c ∧ c < 16) : g_run 59 60 [.ref (A 48), .long x] h 0 0 (fun _ h' => (∃ W', W <+: W' ∧ iv_JW A W' b h' ∧ ∀ M : xa_M, xa_H xm_I A M h h → xa_H xm_I A M h' h') ∧ iv_num h' 48 1 = c + 1) := by
  have hQ : iv_Q A W b h (iv_num h) := ⟨hJ.1, hJ.2.1, hJ.2.2.2, fun _ _ _ _ => rfl⟩
  refine g_run_mono (rz_Qc (d := 59) hQ (vs := [(2, 48, 0, 0, 0), (1, 0, -9223372036854775808, 9223372036854775807, x.toInt)]) (xs := [.ref (A 48), .long x]) ⟨rfl, ⟨x, rfl, rfl, by have := Int64.le_toInt x; omega, by have := Int64.toInt_lt x; omega⟩, trivial⟩ (cx_60_48 (b := b) (d := 57) (x1 := x.toInt) (post := fun o M2 => M2 48 1 = c + 1 ∧ ∀ q j, ¬ (q = 48 ∨ q = 49) → M2 q j = iv_num h q j) (by omega) (fun h9 => absurd h9 (by omega)) (fun h9 => ⟨by rw [xa_up_eq, xa_w32_id (by omega) (by omega)]; omega, fun q j hq => (xa_up_ne (by omega)).trans (xa_up_ne (by omega))⟩))) (fun r h1 hp => ?_)
  obtain ⟨o, M1, ⟨h48, hf⟩, hr, hQ1, hX, km, -⟩ := hp
  refine ⟨⟨W, List.prefix_refl W, iv_Qm hQ1 (km M hM) (km M hM) hInv (fun _ => rfl) (fun _ => rfl) (lm_R_k (fun q j hC => ?_) (iv_xj hJ hM)), km⟩, (rz_n48 hX).trans h48⟩
  unfold xj
  by_cases hq : q < 60
  · rw [if_pos hq, if_pos hq]
    exact hf q j (by first | (have t9 := lm_Cq hC; omega) | (unfold lm_C at hC; omega))
  · rw [if_neg hq, if_neg hq]
theorem rz_ucall {A : Nat → Nat} {W : y_W} {b : Bool} {h : g_H} (hJ : iv_JW A W b h) {j : Nat} {vs : List y_V} {xs : List Value} (hj : f_T iv_B j = true) (hj2 : f_T rz_B j = true) (hs : (y_Kr 59 j vs []).isSome = true) (hx : ∀ β : Nat → Int, y_gA W β vs xs) : g_run 59 j xs h 0 0 (fun _ h' => (∃ W', W <+: W' ∧ iv_JW A W' b h' ∧ ∀ M : xa_M, xa_H xm_I A M h h → xa_H xm_I A M h' h') ∧ iv_num h' 48 1 = iv_num h 48 1) :=
  f_run rz_T_ok _ _ _ _ _ _ _ _ hj2 (un_call hJ hj hs hx) (fun r h' hp hF => ⟨hp, (rz_fr (iv_iW_inv hJ.1) hF).1⟩)
theorem rz_unlX {A : Nat → Nat} {W : y_W} {b : Bool} {h : g_H} {M : xa_M} (hJ : iv_JW A W b h) (hM : xa_H xm_I A M h h) (hInv : xm_Inv M) (m1 m2 : Int32) : g_run 60 205 [.ref (A 0), .int m1, .int m2] h 0 0 (fun r h1 => ∃ (v : Int32) (W1 : y_W), r = some (.int v) ∧ iv_JW A W1 b h1 ∧ xa_H xm_I A M h1 h1 ∧ un_A (iv_num h) m1.toInt m2.toInt v.toInt ∧ rz_c (rz_uk (iv_num h) m1.toInt m2.toInt) (iv_num h 48 1) (iv_num h1 48 1) 3) := by
  obtain ⟨q1, q2, q3, q4, q5⟩ := s_mi_ok 205 (6, 1, false, 0, 0, 11) (by decide +kernel)
  obtain ⟨c1, c2⟩ := s_codes_ok 205 (6, 1, false, 0, 0, 11) (by decide +kernel)
  rw [show s_codes.getD 205 [] = s_c_205 from rfl] at c1 c2
  have q3 : g_rt 205 = some .int := q3
  refine ⟨q1, by rw [q2]; exact (show 3 ≤ 6 by decide), ?_⟩
  rw [q5, q2, q4]
  intro P hend hcl
  show P (0, [(0, .ref (A 0)), (1, .int m1), (2, .int m2)], [], 0, 0, h)
  have t204 : (g_me 204).2.1 = 11 := (s_mi_ok 204 _ (show s_mi[204]? = some (2, 4, false, 0, 0, 11) by decide +kernel)).2.2.2.2
  have t206 : (g_me 206).2.1 = 1 := (s_mi_ok 206 _ (show s_mi[206]? = some (5, 1, false, 0, 0, 1) by decide +kernel)).2.2.2.2
  have t59 : (g_me 59).2.1 = 6 := (s_mi_ok 59 _ (show s_mi[59]? = some (1, 0, false, 0, 0, 6) by decide +kernel)).2.2.2.2
  have t60 : (g_me 60).2.1 = 6 := (s_mi_ok 60 _ (show s_mi[60]? = some (3, 0, false, 0, 0, 6) by decide +kernel)).2.2.2.2
  have t195 : (g_me 195).2.1 = 5 := (s_mi_ok 195 _ (show s_mi[195]? = some (4, 1, false, 0, 0, 5) by decide +kernel)).2.2.2.2
  have r195 : g_rt 195 = some .int := (s_mi_ok 195 _ (show s_mi[195]? = some (4, 1, false, 0, 0, 5) by decide +kernel)).2.2.1
  have r59 : g_rt 59 = none := (s_mi_ok 59 _ (show s_mi[59]? = some (1, 0, false, 0, 0, 6) by decide +kernel)).2.2.1
  have r60 : g_rt 60 = none := (s_mi_ok 60 _ (show s_mi[60]? = some (3, 0, false, 0, 0, 6) by decide +kernel)).2.2.1
  have m0 : ((0 : Nat), Value.ref (A 0)) ∈ ([(0, .ref (A 0)), (1, .int m1), (2, .int m2)] : g_L) := List.mem_cons_self
  have m1' : ((1 : Nat), Value.int m1) ∈ ([(0, .ref (A 0)), (1, .int m1), (2, .int m2)] : g_L) := List.mem_cons_of_mem _ List.mem_cons_self
  have m2' : ((2 : Nat), Value.int m2) ∈ ([(0, .ref (A 0)), (1, .int m1), (2, .int m2)] : g_L) := List.mem_cons_of_mem _ (List.mem_cons_of_mem _ List.mem_cons_self)
  obtain ⟨f0, f11, hb⟩ := iv_b0_of hJ.1 hJ.2.1
  have none9 : ∀ Ls : g_L, ¬ ((0 ≤ m1.toInt ∧ m1.toInt < 4) ∧ (0 ≤ m2.toInt ∧ m2.toInt < 4) ∧ ¬ iv_num h 105 m1.toInt = 0 ∧ ¬ iv_num h 105 m2.toInt = 0) → P (22, Ls, [], 0, 0, h) := fun Ls hc => by
    refine ir_co hcl (iv_dec (c2 _ (iv_in (c := []) (pc := 22) rfl)) (by decide) (by decide)) rfl ?_
    exact hend _ ⟨Nat.le_refl _, Nat.le_refl _, Or.inl ⟨_, .int, iv_ireturn (c2 _ (iv_in (c := []) (pc := 23) rfl)), q3, rfl, rfl, _, W, rfl, hJ, hM, Or.inr ⟨hc, rfl⟩, Or.inr ⟨hc, rfl⟩⟩⟩
  refine ir_ld hcl (iv_dec (c2 _ (iv_in (c := []) (pc := 0) rfl)) (by decide) (by decide)) rfl m0 rfl ?_
  refine ir_ld hcl (iv_dec (c2 _ (iv_in (c := []) (pc := 1) rfl)) (by decide) (by decide)) rfl m1' rfl ?_
  rcases iv_k_at hb hJ.2.2.2 (m := m1) with ⟨v1, z1⟩ | ⟨i1, p1, a1, hi1, hm1, v1, hk1, hc1⟩
  · refine iv_virt (as := [.int m1]) (rest := []) hcl (c2 _ (iv_in (c := []) (pc := 2) rfl)) (q := 0) (by rw [t204]; exact hb.1) rfl (show g_sum [] ≤ 8 by first | decide | exact (show (1 : Nat) ≤ 8 by decide)) (mc := 0) (ms := 0) (by decide) (by decide) (g_run_mono (iv_buildAt (d := 58) hb) (fun r h1 hq => ?_))
    obtain ⟨e1, e2⟩ := hq
    rw [e1, e2, v1]
    clear e1 e2 r h1
    show P (5, _, [Value.null], 0, 0, h)
    refine ir_st hcl (iv_dec (c2 _ (iv_in (c := []) (pc := 5) rfl)) (by decide) (by decide)) rfl rfl (by decide) ?_
    have k0 : ((0 : Nat), Value.ref (A 0)) ∈ g_st1 3 (Value.null) ([(0, .ref (A 0)), (1, .int m1), (2, .int m2)] : g_L) := iv_st2c m0 (by decide) rfl
    have k2 : ((2 : Nat), Value.int m2) ∈ g_st1 3 (Value.null) ([(0, .ref (A 0)), (1, .int m1), (2, .int m2)] : g_L) := iv_st2c m2' (by decide) rfl
    refine ir_ld hcl (iv_dec (c2 _ (iv_in (c := []) (pc := 6) rfl)) (by decide) (by decide)) rfl k0 rfl ?_
    refine ir_ld hcl (iv_dec (c2 _ (iv_in (c := []) (pc := 7) rfl)) (by decide) (by decide)) rfl k2 rfl ?_
    rcases iv_k_at hb hJ.2.2.2 (m := m2) with ⟨v2, z2⟩ | ⟨i2, p2, a2, hi2, hm2, v2, hk2, hc2⟩
    · refine iv_virt (as := [.int m2]) (rest := []) hcl (c2 _ (iv_in (c := []) (pc := 8) rfl)) (q := 0) (by rw [t204]; exact hb.1) rfl (show g_sum [] ≤ 8 by first | decide | exact (show (1 : Nat) ≤ 8 by decide)) (mc := 0) (ms := 0) (by decide) (by decide) (g_run_mono (iv_buildAt (d := 58) hb) (fun r h1 hq => ?_))
      obtain ⟨e1, e2⟩ := hq
      rw [e1, e2, v2]
      clear e1 e2 r h1
      show P (11, _, [Value.null], 0, 0, h)
      refine ir_st hcl (iv_dec (c2 _ (iv_in (c := []) (pc := 11) rfl)) (by decide) (by decide)) rfl rfl (by decide) ?_
      have n3 : ((3 : Nat), Value.null) ∈ g_st1 4 (Value.null) (g_st1 3 (Value.null) ([(0, .ref (A 0)), (1, .int m1), (2, .int m2)] : g_L)) := iv_st2c List.mem_cons_self (by decide) rfl
      have n4 : ((4 : Nat), Value.null) ∈ g_st1 4 (Value.null) (g_st1 3 (Value.null) ([(0, .ref (A 0)), (1, .int m1), (2, .int m2)] : g_L)) := List.mem_cons_self
      refine ir_ld hcl (iv_dec (c2 _ (iv_in (c := []) (pc := 13) rfl)) (by decide) (by decide)) rfl n3 rfl ?_
      refine ir_u0 hcl (iv_dec (c2 _ (iv_in (c := []) (pc := 14) rfl)) (by decide) (by decide)) 22 rfl rfl ?_
      exact none9 _ (fun h => h.2.2.1 (z1 h.1))
    · refine iv_virt (as := [.int m2]) (rest := []) hcl (c2 _ (iv_in (c := []) (pc := 8) rfl)) (q := 0) (by rw [t204]; exact hb.1) rfl (show g_sum [] ≤ 8 by first | decide | exact (show (1 : Nat) ≤ 8 by decide)) (mc := 0) (ms := 0) (by decide) (by decide) (g_run_mono (iv_buildAt (d := 58) hb) (fun r h1 hq => ?_))
      obtain ⟨e1, e2⟩ := hq
      rw [e1, e2, v2]
      clear e1 e2 r h1
      show P (11, _, [Value.ref a2], 0, 0, h)
      refine ir_st hcl (iv_dec (c2 _ (iv_in (c := []) (pc := 11) rfl)) (by decide) (by decide)) rfl rfl (by decide) ?_
      have n3 : ((3 : Nat), Value.null) ∈ g_st1 4 (Value.ref a2) (g_st1 3 (Value.null) ([(0, .ref (A 0)), (1, .int m1), (2, .int m2)] : g_L)) := iv_st2c List.mem_cons_self (by decide) rfl
      have n4 : ((4 : Nat), Value.ref a2) ∈ g_st1 4 (Value.ref a2) (g_st1 3 (Value.null) ([(0, .ref (A 0)), (1, .int m1), (2, .int m2)] : g_L)) := List.mem_cons_self
      refine ir_ld hcl (iv_dec (c2 _ (iv_in (c := []) (pc := 13) rfl)) (by decide) (by decide)) rfl n3 rfl ?_
      refine ir_u0 hcl (iv_dec (c2 _ (iv_in (c := []) (pc := 14) rfl)) (by decide) (by decide)) 22 rfl rfl ?_
      exact none9 _ (fun h => h.2.2.1 (z1 h.1))
  · refine iv_virt (as := [.int m1]) (rest := []) hcl (c2 _ (iv_in (c := []) (pc := 2) rfl)) (q := 0) (by rw [t204]; exact hb.1) rfl (show g_sum [] ≤ 8 by first | decide | exact (show (1 : Nat) ≤ 8 by decide)) (mc := 0) (ms := 0) (by decide) (by decide) (g_run_mono (iv_buildAt (d := 58) hb) (fun r h1 hq => ?_))
    obtain ⟨e1, e2⟩ := hq
    rw [e1, e2, v1]
    clear e1 e2 r h1
    show P (5, _, [Value.ref a1], 0, 0, h)
    refine ir_st hcl (iv_dec (c2 _ (iv_in (c := []) (pc := 5) rfl)) (by decide) (by decide)) rfl rfl (by decide) ?_
    have k0 : ((0 : Nat), Value.ref (A 0)) ∈ g_st1 3 (Value.ref a1) ([(0, .ref (A 0)), (1, .int m1), (2, .int m2)] : g_L) := iv_st2c m0 (by decide) rfl
    have k2 : ((2 : Nat), Value.int m2) ∈ g_st1 3 (Value.ref a1) ([(0, .ref (A 0)), (1, .int m1), (2, .int m2)] : g_L) := iv_st2c m2' (by decide) rfl
    refine ir_ld hcl (iv_dec (c2 _ (iv_in (c := []) (pc := 6) rfl)) (by decide) (by decide)) rfl k0 rfl ?_
    refine ir_ld hcl (iv_dec (c2 _ (iv_in (c := []) (pc := 7) rfl)) (by decide) (by decide)) rfl k2 rfl ?_
    rcases iv_k_at hb hJ.2.2.2 (m := m2) with ⟨v2, z2⟩ | ⟨i2, p2, a2, hi2, hm2, v2, hk2, hc2⟩
    · refine iv_virt (as := [.int m2]) (rest := []) hcl (c2 _ (iv_in (c := []) (pc := 8) rfl)) (q := 0) (by rw [t204]; exact hb.1) rfl (show g_sum [] ≤ 8 by first | decide | exact (show (1 : Nat) ≤ 8 by decide)) (mc := 0) (ms := 0) (by decide) (by decide) (g_run_mono (iv_buildAt (d := 58) hb) (fun r h1 hq => ?_))
      obtain ⟨e1, e2⟩ := hq
      rw [e1, e2, v2]
      clear e1 e2 r h1
      show P (11, _, [Value.null], 0, 0, h)
      refine ir_st hcl (iv_dec (c2 _ (iv_in (c := []) (pc := 11) rfl)) (by decide) (by decide)) rfl rfl (by decide) ?_
      have n3 : ((3 : Nat), Value.ref a1) ∈ g_st1 4 (Value.null) (g_st1 3 (Value.ref a1) ([(0, .ref (A 0)), (1, .int m1), (2, .int m2)] : g_L)) := iv_st2c List.mem_cons_self (by decide) rfl
      have n4 : ((4 : Nat), Value.null) ∈ g_st1 4 (Value.null) (g_st1 3 (Value.ref a1) ([(0, .ref (A 0)), (1, .int m1), (2, .int m2)] : g_L)) := List.mem_cons_self
      refine ir_ld hcl (iv_dec (c2 _ (iv_in (c := []) (pc := 13) rfl)) (by decide) (by decide)) rfl n3 rfl ?_
      refine ir_u1 hcl (iv_dec (c2 _ (iv_in (c := []) (pc := 14) rfl)) (by decide) (by decide)) 22 rfl rfl ?_
      refine ir_ld hcl (iv_dec (c2 _ (iv_in (c := []) (pc := 17) rfl)) (by decide) (by decide)) rfl n4 rfl ?_
      refine ir_n0 hcl (iv_dec (c2 _ (iv_in (c := []) (pc := 19) rfl)) (by decide) (by decide)) 24 rfl rfl ?_
      exact none9 _ (fun h => h.2.2.2 (z2 h.2.1))
    · refine iv_virt (as := [.int m2]) (rest := []) hcl (c2 _ (iv_in (c := []) (pc := 8) rfl)) (q := 0) (by rw [t204]; exact hb.1) rfl (show g_sum [] ≤ 8 by first | decide | exact (show (1 : Nat) ≤ 8 by decide)) (mc := 0) (ms := 0) (by decide) (by decide) (g_run_mono (iv_buildAt (d := 58) hb) (fun r h1 hq => ?_))
      obtain ⟨e1, e2⟩ := hq
      rw [e1, e2, v2]
      clear e1 e2 r h1
      show P (11, _, [Value.ref a2], 0, 0, h)
      refine ir_st hcl (iv_dec (c2 _ (iv_in (c := []) (pc := 11) rfl)) (by decide) (by decide)) rfl rfl (by decide) ?_
      have n3 : ((3 : Nat), Value.ref a1) ∈ g_st1 4 (Value.ref a2) (g_st1 3 (Value.ref a1) ([(0, .ref (A 0)), (1, .int m1), (2, .int m2)] : g_L)) := iv_st2c List.mem_cons_self (by decide) rfl
      have n4 : ((4 : Nat), Value.ref a2) ∈ g_st1 4 (Value.ref a2) (g_st1 3 (Value.ref a1) ([(0, .ref (A 0)), (1, .int m1), (2, .int m2)] : g_L)) := List.mem_cons_self
      refine ir_ld hcl (iv_dec (c2 _ (iv_in (c := []) (pc := 13) rfl)) (by decide) (by decide)) rfl n3 rfl ?_
      refine ir_u1 hcl (iv_dec (c2 _ (iv_in (c := []) (pc := 14) rfl)) (by decide) (by decide)) 22 rfl rfl ?_
      refine ir_ld hcl (iv_dec (c2 _ (iv_in (c := []) (pc := 17) rfl)) (by decide) (by decide)) rfl n4 rfl ?_
      refine ir_n1 hcl (iv_dec (c2 _ (iv_in (c := []) (pc := 19) rfl)) (by decide) (by decide)) 24 rfl rfl ?_
      obtain ⟨A1, ad1, f1, F1, q11, q21, q31, q41, bd1, q51, bc1⟩ := hk1
      have ea1 : A1 = a1 := Value.ref.inj (q41.symm.trans hc1)
      rw [ea1] at q21 bd1
      have bi1 := iv_bints hJ.1 ⟨q21, q31⟩ bd1
      obtain ⟨w1, ew1⟩ := bi1.1
      obtain ⟨A2, ad2, f2, F2, q12, q22, q32, q42, bd2, q52, bc2⟩ := hk2
      have ea2 : A2 = a2 := Value.ref.inj (q42.symm.trans hc2)
      rw [ea2] at q22 bd2
      have bi2 := iv_bints hJ.1 ⟨q22, q32⟩ bd2
      obtain ⟨w2, ew2⟩ := bi2.1
      have n0 : ((0 : Nat), Value.ref (A 0)) ∈ g_st1 4 (Value.ref a2) (g_st1 3 (Value.ref a1) ([(0, .ref (A 0)), (1, .int m1), (2, .int m2)] : g_L)) := iv_st2c k0 (by decide) rfl
      refine ir_ld hcl (iv_dec (c2 _ (iv_in (c := []) (pc := 24) rfl)) (by decide) (by decide)) rfl n3 rfl ?_
      refine ir_ld hcl (iv_dec (c2 _ (iv_in (c := []) (pc := 25) rfl)) (by decide) (by decide)) rfl n4 rfl ?_
      refine iv_virt (as := [.ref a2]) (rest := []) hcl (c2 _ (iv_in (c := []) (pc := 27) rfl)) (q := p1) (by rw [t206]; exact bd1.1) rfl (show g_sum [] ≤ 8 by first | decide | exact (show (1 : Nat) ≤ 8 by decide)) (mc := 0) (ms := 0) (by decide) (by decide) (g_run_mono (un_unl (d := 56) bd1 bd2 ew1 ew2 bi1 bi2) (fun r h1 hq => ?_))
      obtain ⟨e1, v, e2, hv⟩ := hq
      rw [e1, e2]
      clear e1 e2 r h1
      show P (30, _, [.int v], 0, 0, h)
      refine ir_st hcl (iv_dec (c2 _ (iv_in (c := []) (pc := 30) rfl)) (by decide) (by decide)) rfl rfl (by decide) ?_
      have x0 : ((0 : Nat), Value.ref (A 0)) ∈ g_st1 5 (.int v) (g_st1 4 (Value.ref a2) (g_st1 3 (Value.ref a1) ([(0, .ref (A 0)), (1, .int m1), (2, .int m2)] : g_L))) := iv_st2c n0 (by decide) rfl
      have x3 : ((3 : Nat), Value.ref a1) ∈ g_st1 5 (.int v) (g_st1 4 (Value.ref a2) (g_st1 3 (Value.ref a1) ([(0, .ref (A 0)), (1, .int m1), (2, .int m2)] : g_L))) := iv_st2c n3 (by decide) rfl
      have x4 : ((4 : Nat), Value.ref a2) ∈ g_st1 5 (.int v) (g_st1 4 (Value.ref a2) (g_st1 3 (Value.ref a1) ([(0, .ref (A 0)), (1, .int m1), (2, .int m2)] : g_L))) := iv_st2c n4 (by decide) rfl
      have x5 : ((5 : Nat), Value.int v) ∈ g_st1 5 (.int v) (g_st1 4 (Value.ref a2) (g_st1 3 (Value.ref a1) ([(0, .ref (A 0)), (1, .int m1), (2, .int m2)] : g_L))) := List.mem_cons_self
      have hk9 : rz_uk (iv_num h) m1.toInt m2.toInt := by
        rw [hm1, hm2]
        exact ⟨by omega, by omega, by rw [q51]; decide, by rw [q52]; decide⟩
      have ans : un_A (iv_num h) m1.toInt m2.toInt (xa_bc v.toInt) := by
        rw [hm1, hm2]
        refine Or.inl ⟨by omega, by omega, by rw [q51]; decide, by rw [q52]; decide, ?_⟩
        rw [hv]
        refine congrArg xa_bc (br_b_e _ (fun k hk => ?_))
        obtain ⟨b11, _, b13, _⟩ := bc1
        obtain ⟨b21, _, b23, _⟩ := bc2
        obtain ⟨_, _, u4, u5, u3⟩ := b13 k hk
        obtain ⟨_, _, s4, s5, s3⟩ := b23 k hk
        rw [un_n ew1] at b11
        rw [un_n ew2] at b21
        have j1 : ∀ c d : Int, 124 * (i1 : Int) + (c + 5 * (k : Int)) = 124 * (i1 : Int) + 1 + 5 * (k : Int) + d → iv_num h 104 (124 * (i1 : Int) + (c + 5 * (k : Int))) = iv_num h 104 (124 * (i1 : Int) + 1 + 5 * (k : Int) + d) := fun c d e => congrArg (iv_num h 104) e
        have j2 : ∀ c d : Int, 124 * (i2 : Int) + (c + 5 * (k : Int)) = 124 * (i2 : Int) + 1 + 5 * (k : Int) + d → iv_num h 104 (124 * (i2 : Int) + (c + 5 * (k : Int))) = iv_num h 104 (124 * (i2 : Int) + 1 + 5 * (k : Int) + d) := fun c d e => congrArg (iv_num h 104) e
        have t3 := u3.trans (j1 3 2 (by omega))
        have t4 := u4.trans (j1 4 3 (by omega))
        have t5 := u5.trans (j1 5 4 (by omega))
        have l3 := s3.trans (j2 3 2 (by omega))
        have l4 := s4.trans (j2 4 3 (by omega))
        have l5 := s5.trans (j2 5 4 (by omega))
        have b1 : w1.toInt = iv_num h 104 (124 * (i1 : Int)) := b11.trans (congrArg (iv_num h 104) (by omega))
        have b2 : w2.toInt = iv_num h 104 (124 * (i2 : Int)) := b21.trans (congrArg (iv_num h 104) (by omega))
        unfold un_P
        simp only [Int.toNat_natCast]
        rw [t3, t4, t5, l3, l4, l5, b1, b2]
      have J0 := hJ
      obtain ⟨cc0, gg0, e90, e80, ⟨y0, Y0⟩, z0, Z0⟩ := un_c0 J0
      refine ir_ld hcl (iv_dec (c2 _ (iv_in (c := []) (pc := 32) rfl)) (by decide) (by decide)) rfl x0 rfl ?_
      refine iv_getfield hcl (c2 _ (iv_in (c := []) (pc := 33) rfl)) (Or.inl rfl) (q := 0) (n := 12) (f := cc0) gg0 (by decide) ?_
      rw [e90]
      refine iv_virt (as := []) (rest := []) hcl (c2 _ (iv_in (c := []) (pc := 36) rfl)) (q := 48) (by rw [t59]; exact Y0) rfl (show g_sum [] ≤ 8 by first | decide | exact (show (1 : Nat) ≤ 8 by decide)) (mc := 0) (ms := 0) (by decide) (by decide) (g_run_rt (rz_u59 J0 hM hInv) (fun r h1 hp hrt => ?_))
      rw [r59] at hrt
      obtain rfl : r = none := hrt
      obtain ⟨⟨W1, pW1, J1, km1⟩, s1⟩ := hp
      show P (39, _, [], 0, 0, h1)
      obtain ⟨cc1, gg1, e91, e81, ⟨y1, Y1⟩, z1, Z1⟩ := un_c0 J1
      refine ir_ld hcl (iv_dec (c2 _ (iv_in (c := []) (pc := 39) rfl)) (by decide) (by decide)) rfl x0 rfl ?_
      refine iv_getfield hcl (c2 _ (iv_in (c := []) (pc := 40) rfl)) (Or.inl rfl) (q := 0) (n := 12) (f := cc1) gg1 (by decide) ?_
      rw [e91]
      refine ir_ld hcl (iv_dec (c2 _ (iv_in (c := []) (pc := 43) rfl)) (by decide) (by decide)) rfl x5 rfl ?_
      refine ir_i2l hcl (iv_dec (c2 _ (iv_in (c := []) (pc := 45) rfl)) (by decide) (by decide)) rfl ?_
      refine iv_virt (as := [.long v.toInt64]) (rest := []) hcl (c2 _ (iv_in (c := []) (pc := 46) rfl)) (q := 48) (by rw [t60]; exact Y1) rfl (show g_sum [] ≤ 8 by first | decide | exact (show (1 : Nat) ≤ 8 by decide)) (mc := 0) (ms := 0) (by decide) (by decide) (g_run_rt (rz_u60 J1 (km1 M hM) hInv v.toInt64 (c := 0) s1 (by decide)) (fun r h2 hp hrt => ?_))
      rw [r60] at hrt
      obtain rfl : r = none := hrt
      obtain ⟨⟨W2, pW2, J2, km2⟩, s2⟩ := hp
      show P (49, _, [], 0, 0, h2)
      obtain ⟨cc2, gg2, e92, e82, ⟨y2, Y2⟩, z2, Z2⟩ := un_c0 J2
      refine ir_ld hcl (iv_dec (c2 _ (iv_in (c := []) (pc := 49) rfl)) (by decide) (by decide)) rfl x0 rfl ?_
      refine iv_getfield hcl (c2 _ (iv_in (c := []) (pc := 50) rfl)) (Or.inl rfl) (q := 0) (n := 12) (f := cc2) gg2 (by decide) ?_
      rw [e92]
      refine ir_ld hcl (iv_dec (c2 _ (iv_in (c := []) (pc := 53) rfl)) (by decide) (by decide)) rfl x0 rfl ?_
      refine iv_getfield hcl (c2 _ (iv_in (c := []) (pc := 54) rfl)) (Or.inl rfl) (q := 0) (n := 12) (f := cc2) gg2 (by decide) ?_
      rw [e82]
      refine ir_ld hcl (iv_dec (c2 _ (iv_in (c := []) (pc := 57) rfl)) (by decide) (by decide)) rfl x3 rfl ?_
      refine iv_virt (as := [.ref a1]) (rest := [.ref (A 48)]) hcl (c2 _ (iv_in (c := []) (pc := 58) rfl)) (q := 43) (by rw [t195]; exact Z2) rfl (show g_sum [.ref (A 48)] ≤ 8 by first | decide | exact (show (1 : Nat) ≤ 8 by decide)) (mc := 0) (ms := 0) (by decide) (by decide) (g_run_rt (rz_ucall J2 (by decide +kernel) (by decide +kernel) y_su_195 (fun β => ⟨⟨43, A 43, rfl, J2.1.2.1 43 9 rfl⟩, ⟨p1, a1, rfl, (un_pre pW2 (un_pre pW1 q21))⟩, trivial⟩)) (fun r h3 hp hrt => ?_))
      rw [r195] at hrt
      obtain ⟨x29, rfl⟩ := hrt
      obtain ⟨⟨W3, pW3, J3, km3⟩, s3⟩ := hp
      have s3 := s3.trans s2
      show P (61, _, [.int x29, .ref (A 48)], 0, 0, h3)
      refine ir_i2l hcl (iv_dec (c2 _ (iv_in (c := []) (pc := 61) rfl)) (by decide) (by decide)) rfl ?_
      obtain ⟨cc3, gg3, e93, e83, ⟨y3, Y3⟩, z3, Z3⟩ := un_c0 J3
      refine iv_virt (as := [.long x29.toInt64]) (rest := []) hcl (c2 _ (iv_in (c := []) (pc := 62) rfl)) (q := 48) (by rw [t60]; exact Y3) rfl (show g_sum [] ≤ 8 by first | decide | exact (show (1 : Nat) ≤ 8 by decide)) (mc := 0) (ms := 0) (by decide) (by decide) (g_run_rt (rz_u60 J3 (km3 M (km2 M (km1 M hM))) hInv x29.toInt64 (c := 1) s3 (by decide)) (fun r h4 hp hrt => ?_))
      rw [r60] at hrt
      obtain rfl : r = none := hrt
      obtain ⟨⟨W4, pW4, J4, km4⟩, s4⟩ := hp
      show P (65, _, [], 0, 0, h4)
      obtain ⟨cc4, gg4, e94, e84, ⟨y4, Y4⟩, z4, Z4⟩ := un_c0 J4
      refine ir_ld hcl (iv_dec (c2 _ (iv_in (c := []) (pc := 65) rfl)) (by decide) (by decide)) rfl x0 rfl ?_
      refine iv_getfield hcl (c2 _ (iv_in (c := []) (pc := 66) rfl)) (Or.inl rfl) (q := 0) (n := 12) (f := cc4) gg4 (by decide) ?_
      rw [e94]
      refine ir_ld hcl (iv_dec (c2 _ (iv_in (c := []) (pc := 69) rfl)) (by decide) (by decide)) rfl x0 rfl ?_
      refine iv_getfield hcl (c2 _ (iv_in (c := []) (pc := 70) rfl)) (Or.inl rfl) (q := 0) (n := 12) (f := cc4) gg4 (by decide) ?_
      rw [e84]
      refine ir_ld hcl (iv_dec (c2 _ (iv_in (c := []) (pc := 73) rfl)) (by decide) (by decide)) rfl x4 rfl ?_
      refine iv_virt (as := [.ref a2]) (rest := [.ref (A 48)]) hcl (c2 _ (iv_in (c := []) (pc := 75) rfl)) (q := 43) (by rw [t195]; exact Z4) rfl (show g_sum [.ref (A 48)] ≤ 8 by first | decide | exact (show (1 : Nat) ≤ 8 by decide)) (mc := 0) (ms := 0) (by decide) (by decide) (g_run_rt (rz_ucall J4 (by decide +kernel) (by decide +kernel) y_su_195 (fun β => ⟨⟨43, A 43, rfl, J4.1.2.1 43 9 rfl⟩, ⟨p2, a2, rfl, (un_pre pW4 (un_pre pW3 (un_pre pW2 (un_pre pW1 q22))))⟩, trivial⟩)) (fun r h5 hp hrt => ?_))
      rw [r195] at hrt
      obtain ⟨x49, rfl⟩ := hrt
      obtain ⟨⟨W5, pW5, J5, km5⟩, s5⟩ := hp
      have s5 := s5.trans s4
      show P (78, _, [.int x49, .ref (A 48)], 0, 0, h5)
      refine ir_i2l hcl (iv_dec (c2 _ (iv_in (c := []) (pc := 78) rfl)) (by decide) (by decide)) rfl ?_
      obtain ⟨cc5, gg5, e95, e85, ⟨y5, Y5⟩, z5, Z5⟩ := un_c0 J5
      refine iv_virt (as := [.long x49.toInt64]) (rest := []) hcl (c2 _ (iv_in (c := []) (pc := 79) rfl)) (q := 48) (by rw [t60]; exact Y5) rfl (show g_sum [] ≤ 8 by first | decide | exact (show (1 : Nat) ≤ 8 by decide)) (mc := 0) (ms := 0) (by decide) (by decide) (g_run_rt (rz_u60 J5 (km5 M (km4 M (km3 M (km2 M (km1 M hM))))) hInv x49.toInt64 (c := 2) s5 (by decide)) (fun r h6 hp hrt => ?_))
      rw [r60] at hrt
      obtain rfl : r = none := hrt
      obtain ⟨⟨W6, pW6, J6, km6⟩, s6⟩ := hp
      show P (82, _, [], 0, 0, h6)
      refine ir_ld hcl (iv_dec (c2 _ (iv_in (c := []) (pc := 82) rfl)) (by decide) (by decide)) rfl x5 rfl ?_
      have hN := (km6 M (km5 M (km4 M (km3 M (km2 M (km1 M hM))))))
      have hQ : iv_Q A W6 b h6 (iv_num h6) := ⟨J6.1, J6.2.1, J6.2.2.2, fun _ _ _ _ => rfl⟩
      refine iv_stat (as := [.int v]) (rest := []) (cells := 0) (slots := 0) hcl (c2 _ (iv_in (c := []) (pc := 84) rfl)) rfl (by decide) (by decide) (by decide) (g_run_mono (rz_Qc (d := 59) hQ (vs := [(0, 0, (-2147483648), 2147483647, v.toInt)]) (xs := [.int v]) ⟨iv_i v, trivial⟩ (ct_bitCount (d := 58) (I := xl_I b) (post := fun o M2 => o = some (0, 0, (-2147483648), 2147483647, xa_bc v.toInt) ∧ M2 = iv_num h6) ⟨rfl, rfl⟩)) (fun r h9 hp => ?_))
      obtain ⟨o9, M9, ⟨rfl, rfl⟩, hr9, hQ9, hX9, km9, -⟩ := hp
      have hM9 := km9 M hN
      obtain ⟨z9, rfl, hz9⟩ := iv_gRi hr9
      show P (87, _, [.int z9], 0, 0, h9)
      have J9 : iv_JW A W6 b h9 := iv_Qm hQ9 hM9 hM9 hInv (fun _ => rfl) (fun _ => rfl) (iv_xj J6 hN)
      exact hend _ ⟨Nat.le_refl _, Nat.le_refl _, Or.inl ⟨z9, .int, iv_ireturn (c2 _ (iv_in (c := []) (pc := 87) rfl)), q3, rfl, rfl, z9, W6, rfl, J9, hM9, by rw [hz9]; exact ans, Or.inl ⟨hk9, (rz_n48 hX9).trans s6⟩⟩⟩
theorem rm_unlike {A : Nat → Nat} {h0 : g_H} {d : Nat} {M : xa_M} {post : Option xa_V → xa_M → Prop} {l1 u1 l2 u2 a b : Int} (hI : xm_Inv M) (k : ∀ (r : Int) (M1 : xa_M), un_A M a b r → xm_cor M M1 → rz_c (rz_uk M a b) (M 60 20) (M1 60 20) 3 → post (some (0, 0, (-2147483648), 2147483647, r)) M1) : xa_C xm_I A h0 (d + 5) 297 [(2, 60, 0, 0, 0), (0, 0, l1, u1, a), (0, 0, l2, u2, b)] M post := by
  refine xa_C_wk ?_
  refine xa_C_arg [(2, 60, 0, 0, 0), (0, 0, (-2147483648), 2147483647, a), (0, 0, (-2147483648), 2147483647, b)] (xa_svR (xa_svI (fun _ _ _ _ => by omega) (xa_svI (fun _ _ _ _ => by omega) xa_sv0))) ?_
  refine xa_meth (Q0 := (9, 1, false, 0, 0, 12)) (by decide +kernel) ⟨rfl, rfl⟩ (full := s_c_297) rfl rfl ?_
  intro hM hv Q hgo
  have t105a := fun h0 h1 => xm_t105 hM a h0 h1
  have t105b := fun h0 h1 => xm_t105 hM b h0 h1
  have key : 0 ≤ a → a ≤ 3 → 0 ≤ b → b ≤ 3 → M 105 a = 1 → M 105 b = 1 → Q 48 [(4, (0, 0, 0, 14, 0)), (3, (0, 0, (-2147483648), 2147483647, 0)), (2, (0, 0, 0, 3, b)), (1, (0, 0, 0, 3, a)), (0, (2, 60, 0, 0, 0))] [] (xa_up M 60 21 0) := by
    intro a0 a1 b0 b1 e1 e2
    have ba := hI.2.2.2.2 a a0 (by omega) e1
    have bb := hI.2.2.2.2 b b0 (by omega) e2
    have loop : ∀ (n : Nat) (w c : Int), 0 ≤ w ∧ w ≤ 14 → c = br_b (un_P (M 104 (124 * a)) (M 104 (124 * b)) (fun x => M 104 (124 * a + 1 + 5 * x + 2)) (fun x => M 104 (124 * a + 1 + 5 * x + 3)) (fun x => M 104 (124 * a + 1 + 5 * x + 4)) (fun x => M 104 (124 * b + 1 + 5 * x + 2)) (fun x => M 104 (124 * b + 1 + 5 * x + 3)) (fun x => M 104 (124 * b + 1 + 5 * x + 4))) w.toNat → 14 - w < (n : Int) → Q 48 [(4, (0, 0, 0, 14, w)), (3, (0, 0, (-2147483648), 2147483647, c)), (2, (0, 0, 0, 3, b)), (1, (0, 0, 0, 3, a)), (0, (2, 60, 0, 0, 0))] [] (xa_up M 60 21 0) := by
      intro n
      induction n with
      | zero => intro w c w1 hc hms; omega
      | succ n ih =>
        intro w c w1 hc hms
        have ew : ((w.toNat : Nat) : Int) = w := Int.toNat_of_nonneg w1.1
        have hr := br_b_r (P := (un_P (M 104 (124 * a)) (M 104 (124 * b)) (fun x => M 104 (124 * a + 1 + 5 * x + 2)) (fun x => M 104 (124 * a + 1 + 5 * x + 3)) (fun x => M 104 (124 * a + 1 + 5 * x + 4)) (fun x => M 104 (124 * b + 1 + 5 * x + 2)) (fun x => M 104 (124 * b + 1 + 5 * x + 3)) (fun x => M 104 (124 * b + 1 + 5 * x + 4)))) w.toNat
        rw [← hc] at hr
        refine hgo.1 124 [43, 48] 48 _ _ _ ?_
        refine And.intro ?_ ?_
        · intro (c1 : 14 ≤ w)
          show xa_C xm_I A h0 _ 231 [(2, 60, 0, 0, 0), (1, 0, (-2147483648), 2147483647, c)] (xa_up (xa_up M 60 21 0) 60 20 0) _
          refine ct_tell (n := 0) (by first | rfl | (simp [xa_up]; done) | omega) (by omega) (by omega) ?_
          show xa_C xm_I A h0 _ 299 [(2, 60, 0, 0, 0), (0, 0, 0, 3, a)] (xa_up (xa_up (xa_up (xa_up M 60 21 0) 60 20 0) 74 0 c) 60 20 1) _
          refine ct_brokenBy (by omega) (by omega) (xm_bld_c (fun j => by simp [xa_up]) ba) ?_
          intro r101
          show xa_C xm_I A h0 _ 231 [(2, 60, 0, 0, 0), (1, 0, (-2147483648), 2147483647, r101)] (xa_up (xa_up (xa_up (xa_up M 60 21 0) 60 20 0) 74 0 c) 60 20 1) _
          refine ct_tell (n := 1) (by first | rfl | (simp [xa_up]; done) | omega) (by omega) (by omega) ?_
          show xa_C xm_I A h0 _ 299 [(2, 60, 0, 0, 0), (0, 0, 0, 3, b)] (xa_up (xa_up (xa_up (xa_up (xa_up (xa_up M 60 21 0) 60 20 0) 74 0 c) 60 20 1) 74 1 r101) 60 20 2) _
          refine ct_brokenBy (by omega) (by omega) (xm_bld_c (fun j => by simp [xa_up]) bb) ?_
          intro r102
          show xa_C xm_I A h0 _ 231 [(2, 60, 0, 0, 0), (1, 0, (-2147483648), 2147483647, r102)] (xa_up (xa_up (xa_up (xa_up (xa_up (xa_up M 60 21 0) 60 20 0) 74 0 c) 60 20 1) 74 1 r101) 60 20 2) _
          refine ct_tell (n := 2) (by first | rfl | (simp [xa_up]; done) | omega) (by omega) (by omega) ?_
          show xa_C xm_I A h0 _ 136 [(0, 0, (-2147483648), 2147483647, c)] (xa_up (xa_up (xa_up (xa_up (xa_up (xa_up (xa_up (xa_up M 60 21 0) 60 20 0) 74 0 c) 60 20 1) 74 1 r101) 60 20 2) 74 2 r102) 60 20 3) _
          refine ct_bitCount ?_
          show xa_wk post (some (0, 0, (-2147483648), 2147483647, xa_bc c)) (xa_up (xa_up (xa_up (xa_up (xa_up (xa_up (xa_up (xa_up M 60 21 0) 60 20 0) 74 0 c) 60 20 1) 74 1 r101) 60 20 2) 74 2 r102) 60 20 3)
          rw [show w = 14 by omega] at hc
          exact xa_wkI _ rfl (fun _ _ => by omega) (k _ _ (Or.inl ⟨by omega, by omega, by omega, by omega, by rw [hc]; rfl⟩) (xm_cor_f (by omega) (xm_cor_a rfl (xm_cor_f (by omega) (xm_cor_a rfl (xm_cor_f (by omega) (xm_cor_a rfl (xm_cor_f (by omega) (xm_cor_f (by omega) xm_cor_r)))))))) (Or.inl ⟨⟨by omega, by omega, by omega, by omega⟩, xa_up_eq⟩))
        · intro (c1 : w < 14)
          refine And.intro ?_ ?_
          · intro (c2 : (M 104 (124 * a)) ≤ w)
            refine And.intro ?_ ?_
            · intro (c3 : (M 104 (124 * b)) ≤ w)
              show Q 48 [(4, (0, 0, 1, 15, w + 1)), (3, (0, 0, (-2147483648), 2147483647, xa_ib 4 c 0)), (8, (0, 0, 2, 2, 2)), (7, (0, 0, 0, 0, 0)), (6, (0, 0, 0, 0, 0)), (5, (0, 0, 0, 0, 0)), (2, (0, 0, 0, 3, b)), (1, (0, 0, 0, 3, a)), (0, (2, 60, 0, 0, 0))] [] (xa_up M 60 21 0)
              have eb : xa_ib 4 c 0 = br_b (un_P (M 104 (124 * a)) (M 104 (124 * b)) (fun x => M 104 (124 * a + 1 + 5 * x + 2)) (fun x => M 104 (124 * a + 1 + 5 * x + 3)) (fun x => M 104 (124 * a + 1 + 5 * x + 4)) (fun x => M 104 (124 * b + 1 + 5 * x + 2)) (fun x => M 104 (124 * b + 1 + 5 * x + 3)) (fun x => M 104 (124 * b + 1 + 5 * x + 4))) (w + 1).toNat := by
                rw [show (w + 1).toNat = w.toNat + 1 by omega, br_b0 (show ¬ (un_P (M 104 (124 * a)) (M 104 (124 * b)) (fun x => M 104 (124 * a + 1 + 5 * x + 2)) (fun x => M 104 (124 * a + 1 + 5 * x + 3)) (fun x => M 104 (124 * a + 1 + 5 * x + 4)) (fun x => M 104 (124 * b + 1 + 5 * x + 2)) (fun x => M 104 (124 * b + 1 + 5 * x + 3)) (fun x => M 104 (124 * b + 1 + 5 * x + 4))) ((w.toNat : Nat) : Int) by rw [ew]; exact fun h => h.elim (fun e => by omega) (fun e => by omega)), ← hc, br_or0 hr.1 hr.2]
              refine hgo.2.1 48 _ [(4, (0, 0, 0, 14, w + 1)), (3, (0, 0, (-2147483648), 2147483647, xa_ib 4 c 0)), (2, (0, 0, 0, 3, b)), (1, (0, 0, 0, 3, a)), (0, (2, 60, 0, 0, 0))] _ _ (xa_subI rfl rfl (fun _ _ _ _ => by omega) (xa_subI rfl rfl (fun _ _ _ _ => by omega) (xa_subI rfl rfl (fun _ _ _ _ => by omega) (xa_subI rfl rfl (fun _ _ _ _ => by omega) (xa_subR rfl (xa_sub0)))))) ?_
              exact ih (w + 1) _ (by omega) eb (by omega)
            · intro (c3 : w < (M 104 (124 * b)))
              show Q 48 [(4, (0, 0, 1, 15, w + 1)), (3, (0, 0, (-2147483648), 2147483647, xa_ib 4 c (xa_ib 6 1 w))), (8, (0, 0, 2, 2, 2)), (7, (0, 0, 1, 1, 1)), (6, (0, 0, 1, 1, 1)), (5, (0, 0, 0, 0, 0)), (2, (0, 0, 0, 3, b)), (1, (0, 0, 0, 3, a)), (0, (2, 60, 0, 0, 0))] [] (xa_up M 60 21 0)
              have eb : xa_ib 4 c (xa_ib 6 1 w) = br_b (un_P (M 104 (124 * a)) (M 104 (124 * b)) (fun x => M 104 (124 * a + 1 + 5 * x + 2)) (fun x => M 104 (124 * a + 1 + 5 * x + 3)) (fun x => M 104 (124 * a + 1 + 5 * x + 4)) (fun x => M 104 (124 * b + 1 + 5 * x + 2)) (fun x => M 104 (124 * b + 1 + 5 * x + 3)) (fun x => M 104 (124 * b + 1 + 5 * x + 4))) (w + 1).toNat := by
                rw [show (w + 1).toNat = w.toNat + 1 by omega, br_b1 (show (un_P (M 104 (124 * a)) (M 104 (124 * b)) (fun x => M 104 (124 * a + 1 + 5 * x + 2)) (fun x => M 104 (124 * a + 1 + 5 * x + 3)) (fun x => M 104 (124 * a + 1 + 5 * x + 4)) (fun x => M 104 (124 * b + 1 + 5 * x + 2)) (fun x => M 104 (124 * b + 1 + 5 * x + 3)) (fun x => M 104 (124 * b + 1 + 5 * x + 4))) ((w.toNat : Nat) : Int) by rw [ew]; exact Or.inl (by omega)), ← hc, ew]
              refine hgo.2.1 48 _ [(4, (0, 0, 0, 14, w + 1)), (3, (0, 0, (-2147483648), 2147483647, xa_ib 4 c (xa_ib 6 1 w))), (2, (0, 0, 0, 3, b)), (1, (0, 0, 0, 3, a)), (0, (2, 60, 0, 0, 0))] _ _ (xa_subI rfl rfl (fun _ _ _ _ => by omega) (xa_subI rfl rfl (fun _ _ _ _ => by omega) (xa_subI rfl rfl (fun _ _ _ _ => by omega) (xa_subI rfl rfl (fun _ _ _ _ => by omega) (xa_subR rfl (xa_sub0)))))) ?_
              exact ih (w + 1) _ (by omega) eb (by omega)
          · intro (c2 : w < (M 104 (124 * a)))
            refine And.intro ?_ ?_
            · intro (c4 : (M 104 (124 * b)) ≤ w)
              show Q 48 [(4, (0, 0, 1, 15, w + 1)), (3, (0, 0, (-2147483648), 2147483647, xa_ib 4 c (xa_ib 6 1 w))), (8, (0, 0, 2, 2, 2)), (7, (0, 0, 1, 1, 1)), (6, (0, 0, 0, 0, 0)), (5, (0, 0, 1, 1, 1)), (2, (0, 0, 0, 3, b)), (1, (0, 0, 0, 3, a)), (0, (2, 60, 0, 0, 0))] [] (xa_up M 60 21 0)
              have eb : xa_ib 4 c (xa_ib 6 1 w) = br_b (un_P (M 104 (124 * a)) (M 104 (124 * b)) (fun x => M 104 (124 * a + 1 + 5 * x + 2)) (fun x => M 104 (124 * a + 1 + 5 * x + 3)) (fun x => M 104 (124 * a + 1 + 5 * x + 4)) (fun x => M 104 (124 * b + 1 + 5 * x + 2)) (fun x => M 104 (124 * b + 1 + 5 * x + 3)) (fun x => M 104 (124 * b + 1 + 5 * x + 4))) (w + 1).toNat := by
                rw [show (w + 1).toNat = w.toNat + 1 by omega, br_b1 (show (un_P (M 104 (124 * a)) (M 104 (124 * b)) (fun x => M 104 (124 * a + 1 + 5 * x + 2)) (fun x => M 104 (124 * a + 1 + 5 * x + 3)) (fun x => M 104 (124 * a + 1 + 5 * x + 4)) (fun x => M 104 (124 * b + 1 + 5 * x + 2)) (fun x => M 104 (124 * b + 1 + 5 * x + 3)) (fun x => M 104 (124 * b + 1 + 5 * x + 4))) ((w.toNat : Nat) : Int) by rw [ew]; exact Or.inl (by omega)), ← hc, ew]
              refine hgo.2.1 48 _ [(4, (0, 0, 0, 14, w + 1)), (3, (0, 0, (-2147483648), 2147483647, xa_ib 4 c (xa_ib 6 1 w))), (2, (0, 0, 0, 3, b)), (1, (0, 0, 0, 3, a)), (0, (2, 60, 0, 0, 0))] _ _ (xa_subI rfl rfl (fun _ _ _ _ => by omega) (xa_subI rfl rfl (fun _ _ _ _ => by omega) (xa_subI rfl rfl (fun _ _ _ _ => by omega) (xa_subI rfl rfl (fun _ _ _ _ => by omega) (xa_subR rfl (xa_sub0)))))) ?_
              exact ih (w + 1) _ (by omega) eb (by omega)
            · intro (c4 : w < (M 104 (124 * b)))
              show xa_C xm_I A h0 _ 298 [(2, 60, 0, 0, 0), (0, 0, 0, 3, a), (0, 0, 0, 14, w), (0, 0, 2, 2, 2)] (xa_up M 60 21 0) _
              refine ct_ofBuild (by omega) (by omega) (by omega) (by omega) (by omega) (by omega) ?_
              show xa_C xm_I A h0 _ 298 [(2, 60, 0, 0, 0), (0, 0, 0, 3, b), (0, 0, 0, 14, w), (0, 0, 2, 2, 2)] (xa_up M 60 21 0) _
              refine ct_ofBuild (by omega) (by omega) (by omega) (by omega) (by omega) (by omega) ?_
              refine And.intro ?_ ?_
              · intro (c5 : (M 104 (124 * a + 1 + 5 * w + 2)) = (M 104 (124 * b + 1 + 5 * w + 2)))
                show xa_C xm_I A h0 _ 298 [(2, 60, 0, 0, 0), (0, 0, 0, 3, a), (0, 0, 0, 14, w), (0, 0, 3, 3, 2 + 1)] (xa_up M 60 21 0) _
                refine ct_ofBuild (by omega) (by omega) (by omega) (by omega) (by omega) (by omega) ?_
                show xa_C xm_I A h0 _ 298 [(2, 60, 0, 0, 0), (0, 0, 0, 3, b), (0, 0, 0, 14, w), (0, 0, 3, 3, 2 + 1)] (xa_up M 60 21 0) _
                refine ct_ofBuild (by omega) (by omega) (by omega) (by omega) (by omega) (by omega) ?_
                refine And.intro ?_ ?_
                · intro (c6 : (M 104 (124 * a + 1 + 5 * w + (2 + 1))) = (M 104 (124 * b + 1 + 5 * w + (2 + 1))))
                  show xa_C xm_I A h0 _ 298 [(2, 60, 0, 0, 0), (0, 0, 0, 3, a), (0, 0, 0, 14, w), (0, 0, 4, 4, (2 + 1) + 1)] (xa_up M 60 21 0) _
                  refine ct_ofBuild (by omega) (by omega) (by omega) (by omega) (by omega) (by omega) ?_
                  show xa_C xm_I A h0 _ 298 [(2, 60, 0, 0, 0), (0, 0, 0, 3, b), (0, 0, 0, 14, w), (0, 0, 4, 4, (2 + 1) + 1)] (xa_up M 60 21 0) _
                  refine ct_ofBuild (by omega) (by omega) (by omega) (by omega) (by omega) (by omega) ?_
                  refine And.intro ?_ ?_
                  · intro (c7 : (M 104 (124 * a + 1 + 5 * w + ((2 + 1) + 1))) = (M 104 (124 * b + 1 + 5 * w + ((2 + 1) + 1))))
                    show Q 48 [(4, (0, 0, 1, 15, w + 1)), (3, (0, 0, (-2147483648), 2147483647, xa_ib 4 c 0)), (8, (0, 0, 5, 5, ((2 + 1) + 1) + 1)), (7, (0, 0, 0, 0, 0)), (6, (0, 0, 1, 1, 1)), (5, (0, 0, 1, 1, 1)), (2, (0, 0, 0, 3, b)), (1, (0, 0, 0, 3, a)), (0, (2, 60, 0, 0, 0))] [] (xa_up M 60 21 0)
                    have eb : xa_ib 4 c 0 = br_b (un_P (M 104 (124 * a)) (M 104 (124 * b)) (fun x => M 104 (124 * a + 1 + 5 * x + 2)) (fun x => M 104 (124 * a + 1 + 5 * x + 3)) (fun x => M 104 (124 * a + 1 + 5 * x + 4)) (fun x => M 104 (124 * b + 1 + 5 * x + 2)) (fun x => M 104 (124 * b + 1 + 5 * x + 3)) (fun x => M 104 (124 * b + 1 + 5 * x + 4))) (w + 1).toNat := by
                      rw [show (w + 1).toNat = w.toNat + 1 by omega, br_b0 (show ¬ (un_P (M 104 (124 * a)) (M 104 (124 * b)) (fun x => M 104 (124 * a + 1 + 5 * x + 2)) (fun x => M 104 (124 * a + 1 + 5 * x + 3)) (fun x => M 104 (124 * a + 1 + 5 * x + 4)) (fun x => M 104 (124 * b + 1 + 5 * x + 2)) (fun x => M 104 (124 * b + 1 + 5 * x + 3)) (fun x => M 104 (124 * b + 1 + 5 * x + 4))) ((w.toNat : Nat) : Int) by rw [ew]; exact fun h => h.elim (fun e => e ⟨fun _ => c4, fun _ => c2⟩) (fun e => e.2.2 ⟨c5, c6, c7⟩)), ← hc, br_or0 hr.1 hr.2]
                    refine hgo.2.1 48 _ [(4, (0, 0, 0, 14, w + 1)), (3, (0, 0, (-2147483648), 2147483647, xa_ib 4 c 0)), (2, (0, 0, 0, 3, b)), (1, (0, 0, 0, 3, a)), (0, (2, 60, 0, 0, 0))] _ _ (xa_subI rfl rfl (fun _ _ _ _ => by omega) (xa_subI rfl rfl (fun _ _ _ _ => by omega) (xa_subI rfl rfl (fun _ _ _ _ => by omega) (xa_subI rfl rfl (fun _ _ _ _ => by omega) (xa_subR rfl (xa_sub0)))))) ?_
                    exact ih (w + 1) _ (by omega) eb (by omega)
                  · intro (c7 : ¬ (M 104 (124 * a + 1 + 5 * w + ((2 + 1) + 1))) = (M 104 (124 * b + 1 + 5 * w + ((2 + 1) + 1))))
                    show Q 48 [(4, (0, 0, 1, 15, w + 1)), (3, (0, 0, (-2147483648), 2147483647, xa_ib 4 c (xa_ib 6 1 w))), (8, (0, 0, 5, 5, ((2 + 1) + 1) + 1)), (7, (0, 0, 1, 1, 1)), (6, (0, 0, 1, 1, 1)), (5, (0, 0, 1, 1, 1)), (2, (0, 0, 0, 3, b)), (1, (0, 0, 0, 3, a)), (0, (2, 60, 0, 0, 0))] [] (xa_up M 60 21 0)
                    have eb : xa_ib 4 c (xa_ib 6 1 w) = br_b (un_P (M 104 (124 * a)) (M 104 (124 * b)) (fun x => M 104 (124 * a + 1 + 5 * x + 2)) (fun x => M 104 (124 * a + 1 + 5 * x + 3)) (fun x => M 104 (124 * a + 1 + 5 * x + 4)) (fun x => M 104 (124 * b + 1 + 5 * x + 2)) (fun x => M 104 (124 * b + 1 + 5 * x + 3)) (fun x => M 104 (124 * b + 1 + 5 * x + 4))) (w + 1).toNat := by
                      rw [show (w + 1).toNat = w.toNat + 1 by omega, br_b1 (show (un_P (M 104 (124 * a)) (M 104 (124 * b)) (fun x => M 104 (124 * a + 1 + 5 * x + 2)) (fun x => M 104 (124 * a + 1 + 5 * x + 3)) (fun x => M 104 (124 * a + 1 + 5 * x + 4)) (fun x => M 104 (124 * b + 1 + 5 * x + 2)) (fun x => M 104 (124 * b + 1 + 5 * x + 3)) (fun x => M 104 (124 * b + 1 + 5 * x + 4))) ((w.toNat : Nat) : Int) by rw [ew]; exact Or.inr ⟨c2, c4, fun e => c7 e.2.2⟩), ← hc, ew]
                    refine hgo.2.1 48 _ [(4, (0, 0, 0, 14, w + 1)), (3, (0, 0, (-2147483648), 2147483647, xa_ib 4 c (xa_ib 6 1 w))), (2, (0, 0, 0, 3, b)), (1, (0, 0, 0, 3, a)), (0, (2, 60, 0, 0, 0))] _ _ (xa_subI rfl rfl (fun _ _ _ _ => by omega) (xa_subI rfl rfl (fun _ _ _ _ => by omega) (xa_subI rfl rfl (fun _ _ _ _ => by omega) (xa_subI rfl rfl (fun _ _ _ _ => by omega) (xa_subR rfl (xa_sub0)))))) ?_
                    exact ih (w + 1) _ (by omega) eb (by omega)
                · intro (c6 : ¬ (M 104 (124 * a + 1 + 5 * w + (2 + 1))) = (M 104 (124 * b + 1 + 5 * w + (2 + 1))))
                  show Q 48 [(4, (0, 0, 1, 15, w + 1)), (3, (0, 0, (-2147483648), 2147483647, xa_ib 4 c (xa_ib 6 1 w))), (8, (0, 0, 5, 5, ((2 + 1) + 1) + 1)), (7, (0, 0, 1, 1, 1)), (6, (0, 0, 1, 1, 1)), (5, (0, 0, 1, 1, 1)), (2, (0, 0, 0, 3, b)), (1, (0, 0, 0, 3, a)), (0, (2, 60, 0, 0, 0))] [] (xa_up M 60 21 0)
                  have eb : xa_ib 4 c (xa_ib 6 1 w) = br_b (un_P (M 104 (124 * a)) (M 104 (124 * b)) (fun x => M 104 (124 * a + 1 + 5 * x + 2)) (fun x => M 104 (124 * a + 1 + 5 * x + 3)) (fun x => M 104 (124 * a + 1 + 5 * x + 4)) (fun x => M 104 (124 * b + 1 + 5 * x + 2)) (fun x => M 104 (124 * b + 1 + 5 * x + 3)) (fun x => M 104 (124 * b + 1 + 5 * x + 4))) (w + 1).toNat := by
                    rw [show (w + 1).toNat = w.toNat + 1 by omega, br_b1 (show (un_P (M 104 (124 * a)) (M 104 (124 * b)) (fun x => M 104 (124 * a + 1 + 5 * x + 2)) (fun x => M 104 (124 * a + 1 + 5 * x + 3)) (fun x => M 104 (124 * a + 1 + 5 * x + 4)) (fun x => M 104 (124 * b + 1 + 5 * x + 2)) (fun x => M 104 (124 * b + 1 + 5 * x + 3)) (fun x => M 104 (124 * b + 1 + 5 * x + 4))) ((w.toNat : Nat) : Int) by rw [ew]; exact Or.inr ⟨c2, c4, fun e => c6 e.2.1⟩), ← hc, ew]
                  refine hgo.2.1 48 _ [(4, (0, 0, 0, 14, w + 1)), (3, (0, 0, (-2147483648), 2147483647, xa_ib 4 c (xa_ib 6 1 w))), (2, (0, 0, 0, 3, b)), (1, (0, 0, 0, 3, a)), (0, (2, 60, 0, 0, 0))] _ _ (xa_subI rfl rfl (fun _ _ _ _ => by omega) (xa_subI rfl rfl (fun _ _ _ _ => by omega) (xa_subI rfl rfl (fun _ _ _ _ => by omega) (xa_subI rfl rfl (fun _ _ _ _ => by omega) (xa_subR rfl (xa_sub0)))))) ?_
                  exact ih (w + 1) _ (by omega) eb (by omega)
              · intro (c5 : ¬ (M 104 (124 * a + 1 + 5 * w + 2)) = (M 104 (124 * b + 1 + 5 * w + 2)))
                show Q 48 [(4, (0, 0, 1, 15, w + 1)), (3, (0, 0, (-2147483648), 2147483647, xa_ib 4 c (xa_ib 6 1 w))), (8, (0, 0, 5, 5, ((2 + 1) + 1) + 1)), (7, (0, 0, 1, 1, 1)), (6, (0, 0, 1, 1, 1)), (5, (0, 0, 1, 1, 1)), (2, (0, 0, 0, 3, b)), (1, (0, 0, 0, 3, a)), (0, (2, 60, 0, 0, 0))] [] (xa_up M 60 21 0)
                have eb : xa_ib 4 c (xa_ib 6 1 w) = br_b (un_P (M 104 (124 * a)) (M 104 (124 * b)) (fun x => M 104 (124 * a + 1 + 5 * x + 2)) (fun x => M 104 (124 * a + 1 + 5 * x + 3)) (fun x => M 104 (124 * a + 1 + 5 * x + 4)) (fun x => M 104 (124 * b + 1 + 5 * x + 2)) (fun x => M 104 (124 * b + 1 + 5 * x + 3)) (fun x => M 104 (124 * b + 1 + 5 * x + 4))) (w + 1).toNat := by
                  rw [show (w + 1).toNat = w.toNat + 1 by omega, br_b1 (show (un_P (M 104 (124 * a)) (M 104 (124 * b)) (fun x => M 104 (124 * a + 1 + 5 * x + 2)) (fun x => M 104 (124 * a + 1 + 5 * x + 3)) (fun x => M 104 (124 * a + 1 + 5 * x + 4)) (fun x => M 104 (124 * b + 1 + 5 * x + 2)) (fun x => M 104 (124 * b + 1 + 5 * x + 3)) (fun x => M 104 (124 * b + 1 + 5 * x + 4))) ((w.toNat : Nat) : Int) by rw [ew]; exact Or.inr ⟨c2, c4, fun e => c5 e.1⟩), ← hc, ew]
                refine hgo.2.1 48 _ [(4, (0, 0, 0, 14, w + 1)), (3, (0, 0, (-2147483648), 2147483647, xa_ib 4 c (xa_ib 6 1 w))), (2, (0, 0, 0, 3, b)), (1, (0, 0, 0, 3, a)), (0, (2, 60, 0, 0, 0))] _ _ (xa_subI rfl rfl (fun _ _ _ _ => by omega) (xa_subI rfl rfl (fun _ _ _ _ => by omega) (xa_subI rfl rfl (fun _ _ _ _ => by omega) (xa_subI rfl rfl (fun _ _ _ _ => by omega) (xa_subR rfl (xa_sub0)))))) ?_
                exact ih (w + 1) _ (by omega) eb (by omega)
    exact loop 15 0 0 (by omega) rfl (by omega)
  refine hgo.1 29 [43] 0 _ _ _ ?_
  show xa_C xm_I A h0 _ 214 [(0, 0, (-2147483648), 2147483647, a), (0, 0, 0, 0, 0), (0, 0, 3, 3, 3)] (xa_up M 60 21 0) _
  refine ct_in ?_ ?_
  · intro (i1 : 0 ≤ a ∧ a ≤ 3)
    show xa_C xm_I A h0 _ 214 [(0, 0, (-2147483648), 2147483647, b), (0, 0, 0, 0, 0), (0, 0, 3, 3, 3)] (xa_up M 60 21 0) _
    refine ct_in ?_ ?_
    · intro (i2 : 0 ≤ b ∧ b ≤ 3)
      refine And.intro (show 0 ≤ a ∧ a < 4 by omega) ?_
      refine And.intro ?_ ?_
      · intro (c3 : (M 105 a) = 0)
        show xa_wk post (some (0, 0, (-1), (-1), (-1))) (xa_up M 60 21 0)
        exact xa_wkI (-1) rfl (fun _ _ => by omega) (k _ _ (Or.inr ⟨fun h => by omega, rfl⟩) (xm_cor_f (by omega) xm_cor_r) (Or.inr ⟨fun h => by unfold rz_uk at h; omega, xa_up_ne (by omega)⟩))
      · intro (c3 : ¬ (M 105 a) = 0)
        refine And.intro (show 0 ≤ b ∧ b < 4 by omega) ?_
        refine And.intro ?_ ?_
        · intro (c4 : ¬ (M 105 b) = 0)
          show Q 43 [(0, (2, 60, 0, 0, 0)), (1, (0, 0, (-2147483648), 2147483647, a)), (2, (0, 0, (-2147483648), 2147483647, b))] [] (xa_up M 60 21 0)
          refine hgo.2.1 43 _ [(0, (2, 60, 0, 0, 0)), (1, (0, 0, 0, 3, a)), (2, (0, 0, 0, 3, b))] _ _ (xa_subR rfl (xa_subI rfl rfl (fun _ _ _ _ => by omega) (xa_subI rfl rfl (fun _ _ _ _ => by omega) (xa_sub0)))) ?_
          refine hgo.1 9 [48] 43 _ _ _ ?_
          show Q 48 [(4, (0, 0, 0, 0, 0)), (3, (0, 0, 0, 0, 0)), (0, (2, 60, 0, 0, 0)), (1, (0, 0, 0, 3, a)), (2, (0, 0, 0, 3, b))] [] (xa_up M 60 21 0)
          refine hgo.2.1 48 _ [(4, (0, 0, 0, 14, 0)), (3, (0, 0, (-2147483648), 2147483647, 0)), (2, (0, 0, 0, 3, b)), (1, (0, 0, 0, 3, a)), (0, (2, 60, 0, 0, 0))] _ _ (xa_subI rfl rfl (fun _ _ _ _ => by omega) (xa_subI rfl rfl (fun _ _ _ _ => by omega) (xa_subI rfl rfl (fun _ _ _ _ => by omega) (xa_subI rfl rfl (fun _ _ _ _ => by omega) (xa_subR rfl (xa_sub0)))))) ?_
          exact key (by omega) (by omega) (by omega) (by omega) (by have := t105a (by omega) (by omega); omega) (by have := t105b (by omega) (by omega); omega)
        · intro (c4 : (M 105 b) = 0)
          show xa_wk post (some (0, 0, (-1), (-1), (-1))) (xa_up M 60 21 0)
          exact xa_wkI (-1) rfl (fun _ _ => by omega) (k _ _ (Or.inr ⟨fun h => by omega, rfl⟩) (xm_cor_f (by omega) xm_cor_r) (Or.inr ⟨fun h => by unfold rz_uk at h; omega, xa_up_ne (by omega)⟩))
    · intro (i5 : ¬ (0 ≤ b ∧ b ≤ 3))
      show xa_wk post (some (0, 0, (-1), (-1), (-1))) (xa_up M 60 21 0)
      exact xa_wkI (-1) rfl (fun _ _ => by omega) (k _ _ (Or.inr ⟨fun h => by omega, rfl⟩) (xm_cor_f (by omega) xm_cor_r) (Or.inr ⟨fun h => by unfold rz_uk at h; omega, xa_up_ne (by omega)⟩))
  · intro (i6 : ¬ (0 ≤ a ∧ a ≤ 3))
    show xa_wk post (some (0, 0, (-1), (-1), (-1))) (xa_up M 60 21 0)
    exact xa_wkI (-1) rfl (fun _ _ => by omega) (k _ _ (Or.inr ⟨fun h => by omega, rfl⟩) (xm_cor_f (by omega) xm_cor_r) (Or.inr ⟨fun h => by unfold rz_uk at h; omega, xa_up_ne (by omega)⟩))
theorem rz_p205 (A : Nat → Nat) (cmp : Bool) : iv_pair (rz_J A) A 205 297 [0, 0] cmp false := by
  intro h as hI hs
  obtain ⟨m1, ys, rfl, -, hs⟩ := iv_spc hs
  obtain ⟨m2, ys, rfl, -, hs⟩ := iv_spc hs
  obtain rfl := iv_sp0 hs
  obtain ⟨⟨W, b, hJ⟩, hz0⟩ := hI
  obtain ⟨M, hM, hInv⟩ := hJ.1.2.2
  refine ⟨0, 0, by decide, by decide, g_run_mono (rz_unlX hJ hM hInv m1 m2) (fun r1 h1 hp => ?_)⟩
  obtain ⟨v, W1, rfl, hJ1, hM1, hA, z1⟩ := hp
  have e60 : iv_num h 60 20 = M 60 20 := iv_num_M (j := 20) hM rfl (by decide) (by decide) (by show (0 : Nat) < 2; decide)
  have hQ : iv_Q A W1 b h1 (iv_num h1) := ⟨hJ1.1, hJ1.2.1, hJ1.2.2.2, fun _ _ _ _ => rfl⟩
  refine ⟨v, rfl, iv_sh_ok (iv_iW_inv hJ1.1), g_run_mono (iv_mrun hM1 (vs := [(2, 60, 0, 0, 0), (0, 0, (-2147483648), 2147483647, m1.toInt), (0, 0, (-2147483648), 2147483647, m2.toInt)]) (xs := [.ref (A 60), .int m1, .int m2]) ⟨rfl, iv_i m1, iv_i m2, trivial⟩ (rm_unlike (d := 55) (M := M) (a := m1.toInt) (b := m2.toInt) hInv (post := fun o M2 => ∃ ans, o = some (0, 0, (-2147483648), 2147483647, ans) ∧ un_A M m1.toInt m2.toInt ans ∧ xm_cor M M2 ∧ rz_c (rz_uk M m1.toInt m2.toInt) (M 60 20) (M2 60 20) 3) (fun r M2 x1 x2 x3 => ⟨r, rfl, x1, x2, x3⟩))) (fun r2 h2 hp2 => ?_)⟩
  obtain ⟨v2, M2, ⟨ans, rfl, k1, k2, y2⟩, hr2, hM2⟩ := hp2
  obtain ⟨z2, rfl, hz2⟩ := iv_gRi hr2
  refine ⟨⟨z2, rfl, fun _ => Int32.toInt_inj.mp (by rw [hz2]; exact un_A1 (fun x x0 x1 => iv_104 hM x0 x1) (fun x x0 x1 => iv_105 hM x0 x1) hA k1)⟩, ⟨W1, b, iv_Qm hQ hM1 hM2 (xm_Inv_cor k2 hInv) (fun x => k2 104 x (by unfold xm_scr; omega)) (fun x => k2 105 x (by unfold xm_scr; omega)) (xq_lmR (iv_xj hJ1 hM1) (fun _ _ _ _ => rfl) k2)⟩, ?_⟩
  have a1 : iv_num h2 48 1 = iv_num h1 48 1 := iv_num_h (hM2.2.2 48 (xm_I_none (by omega))) 1
  have a2 : iv_num h2 60 20 = M2 60 20 := iv_num_M (j := 20) hM2 rfl (by decide) (by decide) (by show (0 : Nat) < 2; decide)
  exact a1.trans ((rz_c1 z1 y2 (rz_uke (fun x x0 x1 => iv_105 hM x0 x1)) (hz0.trans e60)).trans a2.symm)
def rz_vc (p : Nat) (M : xa_M) (a : Int) : Int := if a = 0 then M 1 9 else if a = 1 then M 1 10 else if a = 2 then M p 4 else if a = 3 then M 38 4 else if a = 4 then M 38 5 else if a = 5 then M 38 6 else if a = 6 then M 43 4 else if a = 7 then M 48 1 else if a = 8 then M 30 1 else if a = 9 then M 32 0 else M 32 1
def rz_vr (M : xa_M) (a : Int) : Int := if a = 0 then M 60 0 else if a = 1 then M 60 6 else if a = 2 then M 60 11 else if a = 3 then M 60 55 else if a = 4 then M 60 56 else if a = 5 then M 60 59 else if a = 6 then M 60 61 else if a = 7 then M 60 20 else if a = 8 then M 60 18 else if a = 9 then M 60 15 else M 60 16
def rz_cn (v : Int → Int) (a r : Int) : Prop := ((a < 0 ∨ 10 < a) ∧ r = -1) ∨ ((0 ≤ a ∧ a ≤ 10) ∧ r = v a)
theorem rz_cn1 {v v' : Int → Int} {a r r' : Int} (e : ∀ a, 0 ≤ a → a ≤ 10 → v a = v' a) (h : rz_cn v a r) (h' : rz_cn v' a r') : r = r' := by
  rcases h with ⟨h1, h2⟩ | ⟨h1, h2⟩
  · rcases h' with ⟨h3, h4⟩ | ⟨h3, h4⟩
    · exact h2.trans h4.symm
    · omega
  · rcases h' with ⟨h3, h4⟩ | ⟨h3, h4⟩
    · omega
    · rw [h2, h4]
      exact e a h1.1 h1.2
theorem rx_207_50 {A : Nat → Nat} {h0 : g_H} {d : Nat} {M : xa_M} {post : Option xa_V → xa_M → Prop} {l1 u1 x1 : Int} (k : ∀ (lo hi r : Int), rz_cn (rz_vc 50 M) x1 r → post (some (0, 0, lo, hi, r)) M) : xa_C (xl_I false) A h0 (d + 1) 207 [(2, 0, 0, 0, 0), (0, 0, l1, u1, x1)] M post := by
  refine xa_C_arg [(2, 0, 0, 0, 0), (0, 0, (-2147483648), 2147483647, x1)] (xa_svR (xa_svI (fun _ _ _ _ => by omega) xa_sv0)) ?_
  refine xa_meth (Q0 := (2, 1, false, 0, 0, 11)) (by decide +kernel) ⟨rfl, rfl⟩ (full := s_c_207) rfl rfl ?_
  intro hM hv Q hgo
  refine hgo.1 12 [] 0 _ _ _ ?_
  refine And.intro ?_ (And.intro ?_ (And.intro ?_ (And.intro ?_ (And.intro ?_ (And.intro ?_ (And.intro ?_ (And.intro ?_ (And.intro ?_ (And.intro ?_ (And.intro ?_ (And.intro ?_ trivial)))))))))))
  · intro (c1 : x1 < 0 ∨ 10 < x1)
    show post (some (0, 0, (-1), (-1), (-1))) M
    exact k _ _ _ (Or.inl ⟨c1, rfl⟩)
  · intro (c1 : x1 = 0)
    show post (some (0, 0, (-2147483648), 2147483647, M 1 9)) M
    exact k _ _ _ (Or.inr ⟨by omega, by rw [c1]; rfl⟩)
  · intro (c1 : x1 = 1)
    show post (some (0, 0, (-2147483648), 2147483647, M 1 10)) M
    exact k _ _ _ (Or.inr ⟨by omega, by rw [c1]; rfl⟩)
  · intro (c1 : x1 = 2)
    show post (some (0, 0, (-2147483648), 2147483647, M 50 4)) M
    exact k _ _ _ (Or.inr ⟨by omega, by rw [c1]; rfl⟩)
  · intro (c1 : x1 = 3)
    show post (some (0, 0, (-2147483648), 2147483647, M 38 4)) M
    exact k _ _ _ (Or.inr ⟨by omega, by rw [c1]; rfl⟩)
  · intro (c1 : x1 = 4)
    show post (some (0, 0, 0, 20, M 38 5)) M
    exact k _ _ _ (Or.inr ⟨by omega, by rw [c1]; rfl⟩)
  · intro (c1 : x1 = 5)
    show post (some (0, 0, (-2147483648), 2147483647, M 38 6)) M
    exact k _ _ _ (Or.inr ⟨by omega, by rw [c1]; rfl⟩)
  · intro (c1 : x1 = 6)
    show post (some (0, 0, (-2147483648), 2147483647, M 43 4)) M
    exact k _ _ _ (Or.inr ⟨by omega, by rw [c1]; rfl⟩)
  · intro (c1 : x1 = 7)
    show post (some (0, 0, (-2147483648), 2147483647, M 48 1)) M
    exact k _ _ _ (Or.inr ⟨by omega, by rw [c1]; rfl⟩)
  · intro (c1 : x1 = 8)
    show post (some (0, 0, (-2147483648), 2147483647, M 30 1)) M
    exact k _ _ _ (Or.inr ⟨by omega, by rw [c1]; rfl⟩)
  · intro (c1 : x1 = 9)
    show post (some (0, 0, 10, 400, M 32 0)) M
    exact k _ _ _ (Or.inr ⟨by omega, by rw [c1]; rfl⟩)
  · intro (c1 : x1 = 10)
    show post (some (0, 0, 10, 400, M 32 1)) M
    exact k _ _ _ (Or.inr ⟨by omega, by rw [c1]; rfl⟩)
theorem rx_207_55 {A : Nat → Nat} {h0 : g_H} {d : Nat} {M : xa_M} {post : Option xa_V → xa_M → Prop} {l1 u1 x1 : Int} (k : ∀ (lo hi r : Int), rz_cn (rz_vc 55 M) x1 r → post (some (0, 0, lo, hi, r)) M) : xa_C (xl_I true) A h0 (d + 1) 207 [(2, 0, 0, 0, 0), (0, 0, l1, u1, x1)] M post := by
  refine xa_C_arg [(2, 0, 0, 0, 0), (0, 0, (-2147483648), 2147483647, x1)] (xa_svR (xa_svI (fun _ _ _ _ => by omega) xa_sv0)) ?_
  refine xa_meth (Q0 := (2, 1, false, 0, 0, 11)) (by decide +kernel) ⟨rfl, rfl⟩ (full := s_c_207) rfl rfl ?_
  intro hM hv Q hgo
  refine hgo.1 12 [] 0 _ _ _ ?_
  refine And.intro ?_ (And.intro ?_ (And.intro ?_ (And.intro ?_ (And.intro ?_ (And.intro ?_ (And.intro ?_ (And.intro ?_ (And.intro ?_ (And.intro ?_ (And.intro ?_ (And.intro ?_ trivial)))))))))))
  · intro (c1 : x1 < 0 ∨ 10 < x1)
    show post (some (0, 0, (-1), (-1), (-1))) M
    exact k _ _ _ (Or.inl ⟨c1, rfl⟩)
  · intro (c1 : x1 = 0)
    show post (some (0, 0, (-2147483648), 2147483647, M 1 9)) M
    exact k _ _ _ (Or.inr ⟨by omega, by rw [c1]; rfl⟩)
  · intro (c1 : x1 = 1)
    show post (some (0, 0, (-2147483648), 2147483647, M 1 10)) M
    exact k _ _ _ (Or.inr ⟨by omega, by rw [c1]; rfl⟩)
  · intro (c1 : x1 = 2)
    show post (some (0, 0, (-2147483648), 2147483647, M 55 4)) M
    exact k _ _ _ (Or.inr ⟨by omega, by rw [c1]; rfl⟩)
  · intro (c1 : x1 = 3)
    show post (some (0, 0, (-2147483648), 2147483647, M 38 4)) M
    exact k _ _ _ (Or.inr ⟨by omega, by rw [c1]; rfl⟩)
  · intro (c1 : x1 = 4)
    show post (some (0, 0, 0, 20, M 38 5)) M
    exact k _ _ _ (Or.inr ⟨by omega, by rw [c1]; rfl⟩)
  · intro (c1 : x1 = 5)
    show post (some (0, 0, (-2147483648), 2147483647, M 38 6)) M
    exact k _ _ _ (Or.inr ⟨by omega, by rw [c1]; rfl⟩)
  · intro (c1 : x1 = 6)
    show post (some (0, 0, (-2147483648), 2147483647, M 43 4)) M
    exact k _ _ _ (Or.inr ⟨by omega, by rw [c1]; rfl⟩)
  · intro (c1 : x1 = 7)
    show post (some (0, 0, (-2147483648), 2147483647, M 48 1)) M
    exact k _ _ _ (Or.inr ⟨by omega, by rw [c1]; rfl⟩)
  · intro (c1 : x1 = 8)
    show post (some (0, 0, (-2147483648), 2147483647, M 30 1)) M
    exact k _ _ _ (Or.inr ⟨by omega, by rw [c1]; rfl⟩)
  · intro (c1 : x1 = 9)
    show post (some (0, 0, 10, 400, M 32 0)) M
    exact k _ _ _ (Or.inr ⟨by omega, by rw [c1]; rfl⟩)
  · intro (c1 : x1 = 10)
    show post (some (0, 0, 10, 400, M 32 1)) M
    exact k _ _ _ (Or.inr ⟨by omega, by rw [c1]; rfl⟩)
theorem rx_207 {b : Bool} {A : Nat → Nat} {h0 : g_H} {d : Nat} {M : xa_M} {post : Option xa_V → xa_M → Prop} {l1 u1 x1 : Int} (k : ∀ (lo hi r : Int), rz_cn (rz_vc (bk_p b) M) x1 r → post (some (0, 0, lo, hi, r)) M) : xa_C (xl_I b) A h0 (d + 1) 207 [(2, 0, 0, 0, 0), (0, 0, l1, u1, x1)] M post := by
  cases b
  · exact rx_207_50 k
  · exact rx_207_55 k
theorem rm_count {A : Nat → Nat} {h0 : g_H} {d : Nat} {M : xa_M} {post : Option xa_V → xa_M → Prop} {l1 u1 : Int} {a : Int} (k : ∀ (lo hi r : Int), rz_cn (rz_vr M) a r → post (some (0, 0, lo, hi, r)) (xa_up M 60 21 0)) : xa_C xm_I A h0 (d + 1) 300 [(2, 60, 0, 0, 0), (0, 0, l1, u1, a)] M post := by
  refine xa_C_arg [(2, 60, 0, 0, 0), (0, 0, (-2147483648), 2147483647, a)] (xa_svR (xa_svI (fun _ _ _ _ => by omega) xa_sv0)) ?_
  refine xa_meth (Q0 := (2, 1, false, 0, 0, 12)) (by decide +kernel) ⟨rfl, rfl⟩ (full := s_c_300) rfl rfl ?_
  intro hM hv Q hgo
  refine hgo.1 12 [] 0 _ _ _ ?_
  refine And.intro ?_ (And.intro ?_ (And.intro ?_ (And.intro ?_ (And.intro ?_ (And.intro ?_ (And.intro ?_ (And.intro ?_ (And.intro ?_ (And.intro ?_ (And.intro ?_ (And.intro ?_ trivial)))))))))))
  · intro (c1 : a < 0 ∨ 10 < a)
    show post (some (0, 0, (-1), (-1), (-1))) (xa_up M 60 21 0)
    exact k _ _ _ (Or.inl ⟨c1, rfl⟩)
  · intro (c1 : a = 0)
    show post (some (0, 0, 0, 14, M 60 0)) (xa_up M 60 21 0)
    exact k _ _ _ (Or.inr ⟨by omega, by rw [c1]; rfl⟩)
  · intro (c1 : a = 1)
    show post (some (0, 0, 0, 16, M 60 6)) (xa_up M 60 21 0)
    exact k _ _ _ (Or.inr ⟨by omega, by rw [c1]; rfl⟩)
  · intro (c1 : a = 2)
    show post (some (0, 0, 0, 8, M 60 11)) (xa_up M 60 21 0)
    exact k _ _ _ (Or.inr ⟨by omega, by rw [c1]; rfl⟩)
  · intro (c1 : a = 3)
    show post (some (0, 0, (-2147483648), 2147483647, M 60 55)) (xa_up M 60 21 0)
    exact k _ _ _ (Or.inr ⟨by omega, by rw [c1]; rfl⟩)
  · intro (c1 : a = 4)
    show post (some (0, 0, 0, 20, M 60 56)) (xa_up M 60 21 0)
    exact k _ _ _ (Or.inr ⟨by omega, by rw [c1]; rfl⟩)
  · intro (c1 : a = 5)
    show post (some (0, 0, 0, 8, M 60 59)) (xa_up M 60 21 0)
    exact k _ _ _ (Or.inr ⟨by omega, by rw [c1]; rfl⟩)
  · intro (c1 : a = 6)
    show post (some (0, 0, 0, 12, M 60 61)) (xa_up M 60 21 0)
    exact k _ _ _ (Or.inr ⟨by omega, by rw [c1]; rfl⟩)
  · intro (c1 : a = 7)
    show post (some (0, 0, 0, 32, M 60 20)) (xa_up M 60 21 0)
    exact k _ _ _ (Or.inr ⟨by omega, by rw [c1]; rfl⟩)
  · intro (c1 : a = 8)
    show post (some (0, 0, 0, 80, M 60 18)) (xa_up M 60 21 0)
    exact k _ _ _ (Or.inr ⟨by omega, by rw [c1]; rfl⟩)
  · intro (c1 : a = 9)
    show post (some (0, 0, 10, 400, M 60 15)) (xa_up M 60 21 0)
    exact k _ _ _ (Or.inr ⟨by omega, by rw [c1]; rfl⟩)
  · intro (c1 : a = 10)
    show post (some (0, 0, 10, 400, M 60 16)) (xa_up M 60 21 0)
    exact k _ _ _ (Or.inr ⟨by omega, by rw [c1]; rfl⟩)
theorem rz_p207 (A : Nat → Nat) (cmp : Bool) : iv_pair (rz_J A) A 207 300 [0] cmp false := rz_armV (fun W b h as M hJ hM hInv hs hR hz => by
  obtain ⟨m1, ys, rfl, -, hs⟩ := iv_spc hs
  obtain rfl := iv_sp0 hs
  obtain ⟨s1, s2, s3, s4⟩ := lm_Sx.mp hR.2.1
  have hc := rx_207 (b := b) (A := A) (h0 := h) (d := 59) (M := iv_num h) (l1 := -2147483648) (u1 := 2147483647) (x1 := m1.toInt) (post := fun o M1 => ∃ lo hi n, o = some (0, 0, lo, hi, n) ∧ (rz_cn (rz_vc (bk_p b) (iv_num h)) m1.toInt n ∧ M1 = iv_num h)) (fun lo hi r x1 => ⟨lo, hi, r, rfl, x1, rfl⟩)
  have hm := fun (h1 : g_H) => rm_count (A := A) (h0 := h1) (d := 59) (M := M) (l1 := -2147483648) (u1 := 2147483647) (a := m1.toInt) (post := fun o M2 => (∃ lo hi n, o = some (0, 0, lo, hi, n) ∧ (rz_cn (rz_vr M) m1.toInt n ∧ M2 = xa_up M 60 21 0)) ∧ xm_Inv M2) (fun lo hi r x1 => ⟨⟨lo, hi, r, rfl, x1, rfl⟩, xm_Inv_is (xm_is_u rfl xm_is_r) hInv⟩)
  refine ⟨[(2, 0, 0, 0, 0), (0, 0, -2147483648, 2147483647, m1.toInt)], [(2, 60, 0, 0, 0), (0, 0, -2147483648, 2147483647, m1.toInt)], _, _, ⟨rfl, iv_i m1, trivial⟩, ⟨rfl, iv_i m1, trivial⟩, fun n n' M1 M2 h1 h2 => ?_, hc, hm⟩
  obtain ⟨x1, rfl⟩ := h1
  obtain ⟨x2, rfl⟩ := h2
  refine ⟨fun _ => rz_cn1 (fun a a0 a1 => ?_) x1 x2, fun x => xa_up_ne (by omega), fun x => xa_up_ne (by omega), lm_R_k (fun q j hC => ?_) hR, hz.trans (xa_up_ne (by omega)).symm⟩
  · rcases (show a = 0 ∨ a = 1 ∨ a = 2 ∨ a = 3 ∨ a = 4 ∨ a = 5 ∨ a = 6 ∨ a = 7 ∨ a = 8 ∨ a = 9 ∨ a = 10 by omega) with rfl | rfl | rfl | rfl | rfl | rfl | rfl | rfl | rfl | rfl | rfl
    · exact hR.1.1
    · exact hR.1.2.1
    · exact s3
    · exact hR.2.2.2.2.2.1
    · exact hR.2.2.2.2.2.2.1
    · exact hR.2.2.2.2.2.2.2.1
    · exact hR.2.2.2.2.1
    · exact hz
    · exact s1
    · exact hR.2.2.1
    · exact hR.2.2.2.1
  · unfold xj
    by_cases hq : q < 60
    · rw [if_pos hq, if_pos hq]
    · rw [if_neg hq, if_neg hq]
      exact xa_up_ne (by first | (have t9 := lm_Cq hC; omega) | (unfold lm_C at hC; omega)))
