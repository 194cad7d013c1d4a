set_option maxRecDepth 20000
/-- how many of the first periods are asked for -/
def rz_i (x p : Int) : Int := if xa_ib 3 (xa_ib 7 x p) 1 = 1 then 1 else 0
def rz_n (x : Int) : Nat → Int
  | 0 => 0
  | p + 1 => rz_n x p + rz_i x (p : Int)
theorem rz_i1 {x p : Int} (h : xa_ib 3 (xa_ib 7 x p) 1 = 1) : rz_i x p = 1 := if_pos h
theorem rz_i0 {x p : Int} (h : ¬ xa_ib 3 (xa_ib 7 x p) 1 = 1) : rz_i x p = 0 := if_neg h
theorem rz_ns {x p : Int} (h : 0 ≤ p) : rz_n x (p + 1).toNat = rz_n x p.toNat + rz_i x p := by
  rw [show (p + 1).toNat = p.toNat + 1 by omega]
  show rz_n x p.toNat + rz_i x ((p.toNat : Nat) : Int) = _
  rw [Int.toNat_of_nonneg h]
theorem rz_nb (x : Int) : ∀ n : Nat, 0 ≤ rz_n x n ∧ rz_n x n ≤ (n : Int) := by
  intro n
  induction n with
  | zero => exact ⟨Int.le_refl _, Int.le_refl _⟩
  | succ n ih =>
    have h : 0 ≤ rz_i x (n : Int) ∧ rz_i x (n : Int) ≤ 1 := by
      by_cases c : xa_ib 3 (xa_ib 7 x (n : Int)) 1 = 1
      · rw [rz_i1 c]
        omega
      · rw [rz_i0 c]
        omega
    show 0 ≤ rz_n x n + rz_i x (n : Int) ∧ rz_n x n + rz_i x (n : Int) ≤ ((n + 1 : Nat) : Int)
    omega
theorem rz_169_50 {b : Bool} {A : Nat → Nat} {h0 : g_H} {d : Nat} {M : xa_M} {post : Option xa_V → xa_M → Prop} {l1 u1 l2 u2 x1 x2 : Int} (hp : 0 ≤ M 50 4 ∧ M 50 4 ≤ 8) (hU : ∀ i, 0 ≤ i → i < M 50 4 → (1 ≤ M 51 i ∧ M 51 i ≤ 2000) ∧ (1 ≤ M 52 i ∧ M 52 i ≤ 2000)) (hx : 1 ≤ x2 ∧ x2 ≤ 1000000) (hz : M 48 1 = 0) (k : ∀ M1 : xa_M, (∀ q j, ¬ q = 48 → ¬ q = 49 → M1 q j = M q j) → M1 48 1 = rz_n x1 (M 50 4).toNat → post none M1) : xa_C (xl_I b) A h0 (d + 3) 169 [(2, 50, 0, 0, 0), (0, 0, l1, u1, x1), (0, 0, l2, u2, x2), (2, 48, 0, 0, 0)] M post := by
  refine xa_C_arg [(2, 50, 0, 0, 0), (0, 0, (-2147483648), 2147483647, x1), (0, 0, 1, 1000000, x2), (2, 48, 0, 0, 0)] (xa_svR (xa_svI (fun _ _ _ _ => by omega) (xa_svI (fun _ _ _ _ => by omega) (xa_svR xa_sv0)))) ?_
  refine xa_meth (Q0 := (5, 0, false, 0, 0, 0)) (by decide +kernel) ⟨rfl, rfl⟩ (full := s_c_169) rfl rfl ?_
  intro hM hv Q hgo
  have loop : ∀ (f : Nat) (p : Int) (M1 : xa_M), 0 ≤ p ∧ p ≤ 8 → (∀ q j, ¬ q = 48 → ¬ q = 49 → M1 q j = M q j) → (p ≤ M 50 4 ∧ M1 48 1 = rz_n x1 p.toNat) → 8 - p < (f : Int) → Q 3 [(4, (0, 0, 0, 8, p)), (0, (2, 50, 0, 0, 0)), (1, (0, 0, (-2147483648), 2147483647, x1)), (2, (0, 0, 1, 1000000, x2)), (3, (2, 48, 0, 0, 0))] [] M1 := by
    intro f
    induction f with
    | zero => intro p M1 p1 hk hz hms; omega
    | succ f ih =>
      intro p M1 p1 hk hz hms
      have hzb := rz_nb x1 p.toNat
      have e4 : M1 50 4 = M 50 4 := hk 50 4 (by decide) (by decide)
      have eU : M1 51 p = M 51 p := hk 51 p (by decide) (by decide)
      have eL : M1 52 p = M 52 p := hk 52 p (by decide) (by decide)
      have hu := hU p
      refine hgo.1 30 [3] 3 _ _ _ ?_
      refine And.intro ?_ ?_
      · intro (c1 : (M1 50 4) ≤ p)
        show post none M1
        exact k _ hk (by have q := hz.2; rw [show p = M 50 4 by omega] at q; exact q)
      · intro (c1 : p < (M1 50 4))
        refine And.intro ?_ ?_
        · intro (c2 : ¬ (xa_ib 3 (xa_ib 7 x1 p) 1) = 1)
          show Q 3 [(4, (0, 0, 1, 9, p + 1)), (0, (2, 50, 0, 0, 0)), (1, (0, 0, (-2147483648), 2147483647, x1)), (2, (0, 0, 1, 1000000, x2)), (3, (2, 48, 0, 0, 0))] [] M1
          refine hgo.2.1 3 _ [(4, (0, 0, 0, 8, p + 1)), (0, (2, 50, 0, 0, 0)), (1, (0, 0, (-2147483648), 2147483647, x1)), (2, (0, 0, 1, 1000000, x2)), (3, (2, 48, 0, 0, 0))] _ _ (xa_subI rfl rfl (fun _ _ _ _ => by omega) (xa_subR rfl (xa_subI rfl rfl (fun _ _ _ _ => by omega) (xa_subI rfl rfl (fun _ _ _ _ => by omega) (xa_subR rfl (xa_sub0)))))) ?_
          exact ih (p + 1) _ (by omega) (fun q j h1 h2 => hk q j h1 h2) ⟨by omega, by rw [rz_ns p1.1, rz_i0 c2]; omega⟩ (by omega)
        · intro (c2 : (xa_ib 3 (xa_ib 7 x1 p) 1) = 1)
          show xa_C (xl_I b) A h0 _ 65 [(2, 50, 0, 0, 0), (0, 0, 0, 8, p)] M1 _
          refine cx_65_50 (show 0 ≤ p ∧ p < 8 by omega) ?_
          show xa_C (xl_I b) A h0 _ 64 [(2, 50, 0, 0, 0), (0, 0, 0, 8, p)] M1 _
          refine cx_64_50 (show 0 ≤ p ∧ p < 8 by omega) ?_
          show xa_C (xl_I b) A h0 _ 21 [(1, 0, (-2147483648000000), 2147483647000000, (M1 51 p) * x2), (1, 0, (-2147483648), 2147483647, M1 52 p)] M1 _
          have mp := xm_mulp (p := M1 51 p) (q := x2) (a := 2000) (b := 1000000) (by omega) (by omega) (by omega) (by omega)
          have dq0 := Int.ediv_nonneg (show 0 ≤ (M1 51 p) * x2 by omega) (show 0 ≤ M1 52 p by omega)
          have dq1 := Int.ediv_le_self (M1 52 p) (show 0 ≤ (M1 51 p) * x2 by omega)
          refine cx_21f 0 2000000000 (by omega) (by omega) (by omega) ?_
          show xa_C (xl_I b) A h0 _ 60 [(2, 48, 0, 0, 0), (1, 0, 0, 2000000000, ((M1 51 p) * x2) / (M1 52 p))] M1 _
          refine cx_60_48 (show (0 : Int) ≤ (M1 48 1) by omega) ?_ ?_
          · intro (i3 : 16 ≤ (M1 48 1))
            show Q 3 [(4, (0, 0, 1, 9, p + 1)), (0, (2, 50, 0, 0, 0)), (1, (0, 0, (-2147483648), 2147483647, x1)), (2, (0, 0, 1, 1000000, x2)), (3, (2, 48, 0, 0, 0))] [] M1
            refine hgo.2.1 3 _ [(4, (0, 0, 0, 8, p + 1)), (0, (2, 50, 0, 0, 0)), (1, (0, 0, (-2147483648), 2147483647, x1)), (2, (0, 0, 1, 1000000, x2)), (3, (2, 48, 0, 0, 0))] _ _ (xa_subI rfl rfl (fun _ _ _ _ => by omega) (xa_subR rfl (xa_subI rfl rfl (fun _ _ _ _ => by omega) (xa_subI rfl rfl (fun _ _ _ _ => by omega) (xa_subR rfl (xa_sub0)))))) ?_
            exact ih (p + 1) _ (by omega) (fun q j h1 h2 => hk q j h1 h2) ⟨by omega, by exfalso; omega⟩ (by omega)
          · intro (i4 : (M1 48 1) < 16)
            show Q 3 [(4, (0, 0, 1, 9, p + 1)), (0, (2, 50, 0, 0, 0)), (1, (0, 0, (-2147483648), 2147483647, x1)), (2, (0, 0, 1, 1000000, x2)), (3, (2, 48, 0, 0, 0))] [] (xa_up (xa_up M1 49 (M1 48 1) (((M1 51 p) * x2) / (M1 52 p))) 48 1 (xa_w32 ((M1 48 1) + 1)))
            have e9 := xa_w32_id (n := M1 48 1 + 1) (by omega) (by omega)
            refine hgo.2.1 3 _ [(4, (0, 0, 0, 8, p + 1)), (0, (2, 50, 0, 0, 0)), (1, (0, 0, (-2147483648), 2147483647, x1)), (2, (0, 0, 1, 1000000, x2)), (3, (2, 48, 0, 0, 0))] _ _ (xa_subI rfl rfl (fun _ _ _ _ => by omega) (xa_subR rfl (xa_subI rfl rfl (fun _ _ _ _ => by omega) (xa_subI rfl rfl (fun _ _ _ _ => by omega) (xa_subR rfl (xa_sub0)))))) ?_
            exact ih (p + 1) _ (by omega) (fun q j h1 h2 => (xa_up_ne (by omega)).trans ((xa_up_ne (by omega)).trans (hk q j h1 h2))) ⟨by omega, by show xa_w32 ((M1 48 1) + 1) = rz_n x1 (p + 1).toNat; rw [rz_ns p1.1, rz_i1 c2]; omega⟩ (by omega)
  refine hgo.1 7 [3] 0 _ _ _ ?_
  show Q 3 [(4, (0, 0, 0, 0, 0)), (0, (2, 50, 0, 0, 0)), (1, (0, 0, (-2147483648), 2147483647, x1)), (2, (0, 0, 1, 1000000, x2)), (3, (2, 48, 0, 0, 0))] [] M
  refine hgo.2.1 3 _ [(4, (0, 0, 0, 8, 0)), (0, (2, 50, 0, 0, 0)), (1, (0, 0, (-2147483648), 2147483647, x1)), (2, (0, 0, 1, 1000000, x2)), (3, (2, 48, 0, 0, 0))] _ _ (xa_subI rfl rfl (fun _ _ _ _ => by omega) (xa_subR rfl (xa_subI rfl rfl (fun _ _ _ _ => by omega) (xa_subI rfl rfl (fun _ _ _ _ => by omega) (xa_subR rfl (xa_sub0)))))) ?_
  exact loop 9 0 M (by omega) (fun _ _ _ _ => rfl) ⟨by omega, by rw [hz]; rfl⟩ (by omega)
theorem rx_167_50 {A : Nat → Nat} {h0 : g_H} {d : Nat} {M : xa_M} {post : Option xa_V → xa_M → Prop} {l1 u1 x1 : Int} (hp : 0 ≤ M 50 4 ∧ M 50 4 ≤ 8) (hU : ∀ i, 0 ≤ i → i < M 50 4 → (1 ≤ M 51 i ∧ M 51 i ≤ 2000) ∧ (1 ≤ M 52 i ∧ M 52 i ≤ 2000)) (k : ∀ (r : Int) (M1 : xa_M), r = mt_r x1 (xa_ib 6 1 (M 50 4)) (mt_y (fun p => xa_ib 3 (xa_ib 7 x1 p) 1 = 1) (mt_d (M 52) (M 51)) (M 50 4).toNat) → (∀ q j, ¬ q = 48 → ¬ q = 49 → M1 q j = M q j) → rz_c (0 ≤ r) (M 48 1) (M1 48 1) (rz_n x1 (M 50 4).toNat) → post (some (0, 0, (-2), 1000000, r)) M1) : xa_C (xl_I false) A h0 (d + 4) 167 [(2, 0, 0, 0, 0), (0, 0, l1, u1, x1)] M post := by
  refine xa_C_wk ?_
  refine xa_C_arg [(2, 0, 0, 0, 0), (0, 0, (-2147483648), 2147483647, x1)] (xa_svR (xa_svI (fun _ _ _ _ => by omega) xa_sv0)) ?_
  refine xa_meth (Q0 := (3, 1, false, 0, 0, 11)) (by decide +kernel) ⟨rfl, rfl⟩ (full := s_c_167) rfl rfl ?_
  intro hM hv Q hgo
  refine hgo.1 29 [] 0 _ _ _ ?_
  show xa_C (xl_I false) A h0 _ 133 [(2, 50, 0, 0, 0), (0, 0, (-2147483648), 2147483647, x1)] M _
  refine cx_133_50 ?_ ?_ ?_
  · intro (i1 : x1 ≤ 0)
    show xa_wk post (some (0, 0, (-1), (-1), (-1))) M
    exact xa_wkI (-1) rfl (fun _ _ => by omega) (k _ _ (mt_r1 (by omega)).symm (fun _ _ _ _ => rfl) (by unfold rz_c; omega))
  · intro (i2 : 0 < x1) (i3 : (xa_ib 6 1 (M 50 4)) ≤ x1)
    show xa_wk post (some (0, 0, (-1), (-1), (-1))) M
    exact xa_wkI (-1) rfl (fun _ _ => by omega) (k _ _ (mt_r1 (by omega)).symm (fun _ _ _ _ => rfl) (by unfold rz_c; omega))
  · intro (i4 : 0 < x1) (i5 : x1 < (xa_ib 6 1 (M 50 4)))
    show xa_C (xl_I false) A h0 _ 168 [(2, 50, 0, 0, 0), (0, 0, (-2147483648), 2147483647, x1)] M _
    refine cx_168_50 hp hU ?_
    intro r144 (i6 : r144 = -1 ∨ (1 ≤ r144 ∧ r144 ≤ 1000000)) (i7 : r144 = (mt_y (fun p => xa_ib 3 (xa_ib 7 x1 p) 1 = 1) (mt_d (M 52) (M 51)) (M 50 4).toNat))
    refine And.intro ?_ ?_
    · intro (c8 : ¬ r144 = (-1))
      show xa_C (xl_I false) A h0 _ 59 [(2, 48, 0, 0, 0)] M _
      refine cx_59_48 ?_
      show xa_C (xl_I false) A h0 _ 169 [(2, 50, 0, 0, 0), (0, 0, (-2147483648), 2147483647, x1), (0, 0, (-1), 1000000, r144), (2, 48, 0, 0, 0)] (xa_up M 48 1 0) _
      refine rz_169_50 hp hU (by omega) xa_up_eq ?_
      intro M145 (i9 : ∀ q j, ¬ q = 48 → ¬ q = 49 → M145 q j = (xa_up M 48 1 0) q j) (z9 : M145 48 1 = rz_n x1 (M 50 4).toNat)
      show xa_wk post (some (0, 0, (-1), 1000000, r144)) M145
      exact xa_wkI _ rfl (fun _ _ => by omega) (k _ _ (by rw [mt_r3 (by omega) (by rw [← i7]; omega)]; exact i7) (fun q j h1 h2 => (i9 q j h1 h2).trans (xa_up_ne (by omega))) (Or.inl ⟨by omega, z9⟩))
    · intro (c8 : r144 = (-1))
      show xa_wk post (some (0, 0, (-2), (-2), (-2))) M
      exact xa_wkI (-2) rfl (fun _ _ => by omega) (k _ _ (mt_r2 (by omega) (by rw [← i7]; omega)).symm (fun _ _ _ _ => rfl) (by unfold rz_c; omega))
theorem rz_169_55 {b : Bool} {A : Nat → Nat} {h0 : g_H} {d : Nat} {M : xa_M} {post : Option xa_V → xa_M → Prop} {l1 u1 l2 u2 x1 x2 : Int} (hp : 0 ≤ M 55 4 ∧ M 55 4 ≤ 8) (hU : ∀ i, 0 ≤ i → i < M 55 4 → (1 ≤ M 56 i ∧ M 56 i ≤ 2000) ∧ (1 ≤ M 57 i ∧ M 57 i ≤ 2000)) (hx : 1 ≤ x2 ∧ x2 ≤ 1000000) (hz : M 48 1 = 0) (k : ∀ M1 : xa_M, (∀ q j, ¬ q = 48 → ¬ q = 49 → M1 q j = M q j) → M1 48 1 = rz_n x1 (M 55 4).toNat → post none M1) : xa_C (xl_I b) A h0 (d + 3) 169 [(2, 55, 0, 0, 0), (0, 0, l1, u1, x1), (0, 0, l2, u2, x2), (2, 48, 0, 0, 0)] M post := by
  refine xa_C_arg [(2, 55, 0, 0, 0), (0, 0, (-2147483648), 2147483647, x1), (0, 0, 1, 1000000, x2), (2, 48, 0, 0, 0)] (xa_svR (xa_svI (fun _ _ _ _ => by omega) (xa_svI (fun _ _ _ _ => by omega) (xa_svR xa_sv0)))) ?_
  refine xa_meth (Q0 := (5, 0, false, 0, 0, 0)) (by decide +kernel) ⟨rfl, rfl⟩ (full := s_c_169) rfl rfl ?_
  intro hM hv Q hgo
  have loop : ∀ (f : Nat) (p : Int) (M1 : xa_M), 0 ≤ p ∧ p ≤ 8 → (∀ q j, ¬ q = 48 → ¬ q = 49 → M1 q j = M q j) → (p ≤ M 55 4 ∧ M1 48 1 = rz_n x1 p.toNat) → 8 - p < (f : Int) → Q 3 [(4, (0, 0, 0, 8, p)), (0, (2, 55, 0, 0, 0)), (1, (0, 0, (-2147483648), 2147483647, x1)), (2, (0, 0, 1, 1000000, x2)), (3, (2, 48, 0, 0, 0))] [] M1 := by
    intro f
    induction f with
    | zero => intro p M1 p1 hk hz hms; omega
    | succ f ih =>
      intro p M1 p1 hk hz hms
      have hzb := rz_nb x1 p.toNat
      have e4 : M1 55 4 = M 55 4 := hk 55 4 (by decide) (by decide)
      have eU : M1 56 p = M 56 p := hk 56 p (by decide) (by decide)
      have eL : M1 57 p = M 57 p := hk 57 p (by decide) (by decide)
      have hu := hU p
      refine hgo.1 30 [3] 3 _ _ _ ?_
      refine And.intro ?_ ?_
      · intro (c1 : (M1 55 4) ≤ p)
        show post none M1
        exact k _ hk (by have q := hz.2; rw [show p = M 55 4 by omega] at q; exact q)
      · intro (c1 : p < (M1 55 4))
        refine And.intro ?_ ?_
        · intro (c2 : ¬ (xa_ib 3 (xa_ib 7 x1 p) 1) = 1)
          show Q 3 [(4, (0, 0, 1, 9, p + 1)), (0, (2, 55, 0, 0, 0)), (1, (0, 0, (-2147483648), 2147483647, x1)), (2, (0, 0, 1, 1000000, x2)), (3, (2, 48, 0, 0, 0))] [] M1
          refine hgo.2.1 3 _ [(4, (0, 0, 0, 8, p + 1)), (0, (2, 55, 0, 0, 0)), (1, (0, 0, (-2147483648), 2147483647, x1)), (2, (0, 0, 1, 1000000, x2)), (3, (2, 48, 0, 0, 0))] _ _ (xa_subI rfl rfl (fun _ _ _ _ => by omega) (xa_subR rfl (xa_subI rfl rfl (fun _ _ _ _ => by omega) (xa_subI rfl rfl (fun _ _ _ _ => by omega) (xa_subR rfl (xa_sub0)))))) ?_
          exact ih (p + 1) _ (by omega) (fun q j h1 h2 => hk q j h1 h2) ⟨by omega, by rw [rz_ns p1.1, rz_i0 c2]; omega⟩ (by omega)
        · intro (c2 : (xa_ib 3 (xa_ib 7 x1 p) 1) = 1)
          show xa_C (xl_I b) A h0 _ 65 [(2, 55, 0, 0, 0), (0, 0, 0, 8, p)] M1 _
          refine cx_65_55 (show 0 ≤ p ∧ p < 8 by omega) ?_
          show xa_C (xl_I b) A h0 _ 64 [(2, 55, 0, 0, 0), (0, 0, 0, 8, p)] M1 _
          refine cx_64_55 (show 0 ≤ p ∧ p < 8 by omega) ?_
          show xa_C (xl_I b) A h0 _ 21 [(1, 0, (-2147483648000000), 2147483647000000, (M1 56 p) * x2), (1, 0, (-2147483648), 2147483647, M1 57 p)] M1 _
          have mp := xm_mulp (p := M1 56 p) (q := x2) (a := 2000) (b := 1000000) (by omega) (by omega) (by omega) (by omega)
          have dq0 := Int.ediv_nonneg (show 0 ≤ (M1 56 p) * x2 by omega) (show 0 ≤ M1 57 p by omega)
          have dq1 := Int.ediv_le_self (M1 57 p) (show 0 ≤ (M1 56 p) * x2 by omega)
          refine cx_21f 0 2000000000 (by omega) (by omega) (by omega) ?_
          show xa_C (xl_I b) A h0 _ 60 [(2, 48, 0, 0, 0), (1, 0, 0, 2000000000, ((M1 56 p) * x2) / (M1 57 p))] M1 _
          refine cx_60_48 (show (0 : Int) ≤ (M1 48 1) by omega) ?_ ?_
          · intro (i3 : 16 ≤ (M1 48 1))
            show Q 3 [(4, (0, 0, 1, 9, p + 1)), (0, (2, 55, 0, 0, 0)), (1, (0, 0, (-2147483648), 2147483647, x1)), (2, (0, 0, 1, 1000000, x2)), (3, (2, 48, 0, 0, 0))] [] M1
            refine hgo.2.1 3 _ [(4, (0, 0, 0, 8, p + 1)), (0, (2, 55, 0, 0, 0)), (1, (0, 0, (-2147483648), 2147483647, x1)), (2, (0, 0, 1, 1000000, x2)), (3, (2, 48, 0, 0, 0))] _ _ (xa_subI rfl rfl (fun _ _ _ _ => by omega) (xa_subR rfl (xa_subI rfl rfl (fun _ _ _ _ => by omega) (xa_subI rfl rfl (fun _ _ _ _ => by omega) (xa_subR rfl (xa_sub0)))))) ?_
            exact ih (p + 1) _ (by omega) (fun q j h1 h2 => hk q j h1 h2) ⟨by omega, by exfalso; omega⟩ (by omega)
          · intro (i4 : (M1 48 1) < 16)
            show Q 3 [(4, (0, 0, 1, 9, p + 1)), (0, (2, 55, 0, 0, 0)), (1, (0, 0, (-2147483648), 2147483647, x1)), (2, (0, 0, 1, 1000000, x2)), (3, (2, 48, 0, 0, 0))] [] (xa_up (xa_up M1 49 (M1 48 1) (((M1 56 p) * x2) / (M1 57 p))) 48 1 (xa_w32 ((M1 48 1) + 1)))
            have e9 := xa_w32_id (n := M1 48 1 + 1) (by omega) (by omega)
            refine hgo.2.1 3 _ [(4, (0, 0, 0, 8, p + 1)), (0, (2, 55, 0, 0, 0)), (1, (0, 0, (-2147483648), 2147483647, x1)), (2, (0, 0, 1, 1000000, x2)), (3, (2, 48, 0, 0, 0))] _ _ (xa_subI rfl rfl (fun _ _ _ _ => by omega) (xa_subR rfl (xa_subI rfl rfl (fun _ _ _ _ => by omega) (xa_subI rfl rfl (fun _ _ _ _ => by omega) (xa_subR rfl (xa_sub0)))))) ?_
            exact ih (p + 1) _ (by omega) (fun q j h1 h2 => (xa_up_ne (by omega)).trans ((xa_up_ne (by omega)).trans (hk q j h1 h2))) ⟨by omega, by show xa_w32 ((M1 48 1) + 1) = rz_n x1 (p + 1).toNat; rw [rz_ns p1.1, rz_i1 c2]; omega⟩ (by omega)
  refine hgo.1 7 [3] 0 _ _ _ ?_
  show Q 3 [(4, (0, 0, 0, 0, 0)), (0, (2, 55, 0, 0, 0)), (1, (0, 0, (-2147483648), 2147483647, x1)), (2, (0, 0, 1, 1000000, x2)), (3, (2, 48, 0, 0, 0))] [] M
  refine hgo.2.1 3 _ [(4, (0, 0, 0, 8, 0)), (0, (2, 55, 0, 0, 0)), (1, (0, 0, (-2147483648), 2147483647, x1)), (2, (0, 0, 1, 1000000, x2)), (3, (2, 48, 0, 0, 0))] _ _ (xa_subI rfl rfl (fun _ _ _ _ => by omega) (xa_subR rfl (xa_subI rfl rfl (fun _ _ _ _ => by omega) (xa_subI rfl rfl (fun _ _ _ _ => by omega) (xa_subR rfl (xa_sub0)))))) ?_
  exact loop 9 0 M (by omega) (fun _ _ _ _ => rfl) ⟨by omega, by rw [hz]; rfl⟩ (by omega)
theorem rx_167_55 {A : Nat → Nat} {h0 : g_H} {d : Nat} {M : xa_M} {post : Option xa_V → xa_M → Prop} {l1 u1 x1 : Int} (hp : 0 ≤ M 55 4 ∧ M 55 4 ≤ 8) (hU : ∀ i, 0 ≤ i → i < M 55 4 → (1 ≤ M 56 i ∧ M 56 i ≤ 2000) ∧ (1 ≤ M 57 i ∧ M 57 i ≤ 2000)) (k : ∀ (r : Int) (M1 : xa_M), r = mt_r x1 (xa_ib 6 1 (M 55 4)) (mt_y (fun p => xa_ib 3 (xa_ib 7 x1 p) 1 = 1) (mt_d (M 57) (M 56)) (M 55 4).toNat) → (∀ q j, ¬ q = 48 → ¬ q = 49 → M1 q j = M q j) → rz_c (0 ≤ r) (M 48 1) (M1 48 1) (rz_n x1 (M 55 4).toNat) → post (some (0, 0, (-2), 1000000, r)) M1) : xa_C (xl_I true) A h0 (d + 4) 167 [(2, 0, 0, 0, 0), (0, 0, l1, u1, x1)] M post := by
  refine xa_C_wk ?_
  refine xa_C_arg [(2, 0, 0, 0, 0), (0, 0, (-2147483648), 2147483647, x1)] (xa_svR (xa_svI (fun _ _ _ _ => by omega) xa_sv0)) ?_
  refine xa_meth (Q0 := (3, 1, false, 0, 0, 11)) (by decide +kernel) ⟨rfl, rfl⟩ (full := s_c_167) rfl rfl ?_
  intro hM hv Q hgo
  refine hgo.1 29 [] 0 _ _ _ ?_
  show xa_C (xl_I true) A h0 _ 133 [(2, 55, 0, 0, 0), (0, 0, (-2147483648), 2147483647, x1)] M _
  refine cx_133_55 ?_ ?_ ?_
  · intro (i1 : x1 ≤ 0)
    show xa_wk post (some (0, 0, (-1), (-1), (-1))) M
    exact xa_wkI (-1) rfl (fun _ _ => by omega) (k _ _ (mt_r1 (by omega)).symm (fun _ _ _ _ => rfl) (by unfold rz_c; omega))
  · intro (i2 : 0 < x1) (i3 : (xa_ib 6 1 (M 55 4)) ≤ x1)
    show xa_wk post (some (0, 0, (-1), (-1), (-1))) M
    exact xa_wkI (-1) rfl (fun _ _ => by omega) (k _ _ (mt_r1 (by omega)).symm (fun _ _ _ _ => rfl) (by unfold rz_c; omega))
  · intro (i4 : 0 < x1) (i5 : x1 < (xa_ib 6 1 (M 55 4)))
    show xa_C (xl_I true) A h0 _ 168 [(2, 55, 0, 0, 0), (0, 0, (-2147483648), 2147483647, x1)] M _
    refine cx_168_55 hp hU ?_
    intro r148 (i6 : r148 = -1 ∨ (1 ≤ r148 ∧ r148 ≤ 1000000)) (i7 : r148 = (mt_y (fun p => xa_ib 3 (xa_ib 7 x1 p) 1 = 1) (mt_d (M 57) (M 56)) (M 55 4).toNat))
    refine And.intro ?_ ?_
    · intro (c8 : ¬ r148 = (-1))
      show xa_C (xl_I true) A h0 _ 59 [(2, 48, 0, 0, 0)] M _
      refine cx_59_48 ?_
      show xa_C (xl_I true) A h0 _ 169 [(2, 55, 0, 0, 0), (0, 0, (-2147483648), 2147483647, x1), (0, 0, (-1), 1000000, r148), (2, 48, 0, 0, 0)] (xa_up M 48 1 0) _
      refine rz_169_55 hp hU (by omega) xa_up_eq ?_
      intro M149 (i9 : ∀ q j, ¬ q = 48 → ¬ q = 49 → M149 q j = (xa_up M 48 1 0) q j) (z9 : M149 48 1 = rz_n x1 (M 55 4).toNat)
      show xa_wk post (some (0, 0, (-1), 1000000, r148)) M149
      exact xa_wkI _ rfl (fun _ _ => by omega) (k _ _ (by rw [mt_r3 (by omega) (by rw [← i7]; omega)]; exact i7) (fun q j h1 h2 => (i9 q j h1 h2).trans (xa_up_ne (by omega))) (Or.inl ⟨by omega, z9⟩))
    · intro (c8 : r148 = (-1))
      show xa_wk post (some (0, 0, (-2), (-2), (-2))) M
      exact xa_wkI (-2) rfl (fun _ _ => by omega) (k _ _ (mt_r2 (by omega) (by rw [← i7]; omega)).symm (fun _ _ _ _ => rfl) (by unfold rz_c; omega))
theorem rx_167 {b : Bool} {A : Nat → Nat} {h0 : g_H} {d : Nat} {M : xa_M} {post : Option xa_V → xa_M → Prop} {l1 u1 x1 : Int} (hp : 0 ≤ M (bk_p b) 4 ∧ M (bk_p b) 4 ≤ 8) (hU : ∀ i, 0 ≤ i → i < M (bk_p b) 4 → (1 ≤ M (bk_p b + 1) i ∧ M (bk_p b + 1) i ≤ 2000) ∧ (1 ≤ M (bk_p b + 2) i ∧ M (bk_p b + 2) i ≤ 2000)) (k : ∀ (r : Int) (M1 : xa_M), r = mt_r x1 (xa_ib 6 1 (M (bk_p b) 4)) (mt_y (fun p => xa_ib 3 (xa_ib 7 x1 p) 1 = 1) (mt_d (M (bk_p b + 2)) (M (bk_p b + 1))) (M (bk_p b) 4).toNat) → (∀ q j, ¬ q = 48 → ¬ q = 49 → M1 q j = M q j) → rz_c (0 ≤ r) (M 48 1) (M1 48 1) (rz_n x1 (M (bk_p b) 4).toNat) → post (some (0, 0, (-2), 1000000, r)) M1) : xa_C (xl_I b) A h0 (d + 4) 167 [(2, 0, 0, 0, 0), (0, 0, l1, u1, x1)] M post := by
  cases b
  · exact rx_167_50 hp hU k
  · exact rx_167_55 hp hU k
theorem rm_meets {A : Nat → Nat} {h0 : g_H} {d : Nat} {M : xa_M} {post : Option xa_V → xa_M → Prop} {l1 u1 : Int} {a : Int} (hI : xm_Inv M) (k : ∀ (lo hi r : Int) (M1 : xa_M), r = mt_r a (xa_ib 6 1 (M 60 11)) (mt_y (fun p => xa_ib 3 (xa_ib 7 a p) 1 = 1) (mt_d (M 71) (M 70)) (M 60 11).toNat) → xm_cor M M1 → rz_c (0 ≤ r) (M 60 20) (M1 60 20) (rz_n a (M 60 11).toNat) → post (some (0, 0, lo, hi, r)) M1) : xa_C xm_I A h0 (d + 4) 278 [(2, 60, 0, 0, 0), (0, 0, l1, u1, a)] M post := by
  refine xa_C_arg [(2, 60, 0, 0, 0), (0, 0, (-2147483648), 2147483647, a)] (xa_svR (xa_svI (fun _ _ _ _ => by omega) xa_sv0)) ?_
  refine xa_meth (Q0 := (7, 1, false, 0, 0, 12)) (by decide +kernel) ⟨rfl, rfl⟩ (full := s_c_278) rfl rfl ?_
  intro hM hv Q hgo
  have b0 := xm_f0 hM
  have b6 := xm_f6 hM
  have b61 := xm_f61 hM
  have b11 := xm_f11 hM
  have b15 := xm_f15 hM
  have b16 := xm_f16 hM
  have hlh := hI.2.2.2.1
  have loop1 : ∀ (n : Nat) (x4 x2 x1 : Int) (M1 : xa_M), 0 ≤ x4 ∧ x4 ≤ 8 → 1 ≤ x2 ∧ x2 ≤ 1000000 → xm_cor M M1 → (x1 = a ∧ x4 ≤ M 60 11 ∧ M1 60 20 = rz_n a x4.toNat) → x2 = mt_y (fun p => xa_ib 3 (xa_ib 7 a p) 1 = 1) (mt_d (M 71) (M 70)) (M 60 11).toNat → ¬ (a ≤ 0 ∨ xa_ib 6 1 (M 60 11) ≤ a) → 8 - x4 < (n : Int) → Q 114 [(4, (0, 0, 0, 8, x4)), (2, (1, 0, 1, 1000000, x2)), (1, (0, 0, (-2147483648), 2147483647, x1)), (0, (2, 60, 0, 0, 0))] [] M1 := by
    intro n
    induction n with
    | zero => intro x4 x2 x1 M1 b4 b2 hc h20 hy hv9 hms; omega
    | succ n ih1 =>
      intro x4 x2 x1 M1 b4 b2 hc h20 hy hv9 hms1
      have hzb := rz_nb a x4.toNat
      have e0 := xm_corf hc 0 (by omega)
      have e6 := xm_corf hc 6 (by omega)
      have e61 := xm_corf hc 61 (by omega)
      have e11 := xm_corf hc 11 (by omega)
      have e15 := xm_corf hc 15 (by omega)
      have e16 := xm_corf hc 16 (by omega)
      refine hgo.2.2 _ _ _ _ (fun hM1 _ => ?_)
      have t70 : x4 < M1 60 11 → 0 ≤ M1 70 x4 ∧ M1 70 x4 ≤ 2000 := fun h => xm_t70 hM1 x4 (by omega) (by omega)
      have t71 : x4 < M1 60 11 → 0 ≤ M1 71 x4 ∧ M1 71 x4 ≤ 2000 := fun h => xm_t71 hM1 x4 (by omega) (by omega)
      have hpp := (xm_Inv_cor hc hI).2.2.1 x4 (by omega)
      have b20 := xm_f20 hM1
      refine hgo.1 30 [26, 114] 114 _ _ _ ?_
      refine And.intro ?_ ?_
      · intro (c1 : (M1 60 11) ≤ x4)
        show post (some (0, 0, 1, 1000000, x2)) M1
        exact k _ _ _ _ (by rw [mt_r3 hv9 (by rw [← hy]; omega)]; exact hy) hc (Or.inl ⟨by omega, by rw [h20.2.2, show x4 = M 60 11 by omega]⟩)
      · intro (c1 : x4 < (M1 60 11))
        show xa_C xm_I A h0 _ 248 [(0, 0, (-2147483648), 2147483647, x1), (0, 0, 0, 8, x4)] M1 _
        refine ct_has (fun r2 zr2 er2 => ?_)
        refine And.intro ?_ ?_
        · intro (c3 : r2 = 0)
          show Q 114 [(4, (0, 0, 1, 9, x4 + 1)), (2, (1, 0, 1, 1000000, x2)), (1, (0, 0, (-2147483648), 2147483647, x1)), (0, (2, 60, 0, 0, 0))] [] M1
          refine hgo.2.1 114 _ [(4, (0, 0, 0, 8, x4 + 1)), (2, (1, 0, 1, 1000000, x2)), (1, (0, 0, (-2147483648), 2147483647, x1)), (0, (2, 60, 0, 0, 0))] _ _ (xa_subI rfl rfl (fun _ _ _ _ => by omega) (xa_subL rfl rfl (fun _ _ _ _ => by omega) (xa_subI rfl rfl (fun _ _ _ _ => by omega) (xa_subR rfl xa_sub0)))) ?_
          exact ih1 (x4 + 1) x2 x1 M1 (by omega) (by omega) hc ⟨h20.1, by omega, by rw [rz_ns b4.1, rz_i0 (by rw [← h20.1]; exact fun h => absurd (er2.mpr h) (by omega))]; omega⟩ hy hv9 (by omega)
        · intro (c3 : ¬ r2 = 0)
          refine And.intro (show 0 ≤ x4 ∧ x4 < 8 by omega) ?_
          refine And.intro (show 0 ≤ x4 ∧ x4 < 8 by omega) ?_
          refine And.intro (show 0 < (M1 71 x4) by omega) ?_
          show xa_C xm_I A h0 _ 231 [(2, 60, 0, 0, 0), (1, 0, 0, 2000000000, (x2 * (M1 70 x4)) / (M1 71 x4))] M1 _
          refine ct_tell (n := M1 60 20) (by first | rfl | (simp [xa_up]; done) | omega) (by omega) (by omega) ?_
          show Q 114 [(4, (0, 0, 1, 9, x4 + 1)), (2, (1, 0, 1, 1000000, x2)), (1, (0, 0, (-2147483648), 2147483647, x1)), (0, (2, 60, 0, 0, 0))] [] (xa_up (xa_up M1 74 (M1 60 20) ((x2 * (M1 70 x4)) / (M1 71 x4))) 60 20 ((M1 60 20) + 1))
          refine hgo.2.1 114 _ [(4, (0, 0, 0, 8, x4 + 1)), (2, (1, 0, 1, 1000000, x2)), (1, (0, 0, (-2147483648), 2147483647, x1)), (0, (2, 60, 0, 0, 0))] _ _ (xa_subI rfl rfl (fun _ _ _ _ => by omega) (xa_subL rfl rfl (fun _ _ _ _ => by omega) (xa_subI rfl rfl (fun _ _ _ _ => by omega) (xa_subR rfl xa_sub0)))) ?_
          exact ih1 (x4 + 1) x2 x1 (xa_up (xa_up M1 74 (M1 60 20) ((x2 * (M1 70 x4)) / (M1 71 x4))) 60 20 ((M1 60 20) + 1)) (by omega) (by omega) (xm_cor_f (by omega) (xm_cor_a rfl hc)) ⟨h20.1, by omega, by rw [xa_up_eq, rz_ns b4.1, rz_i1 (by rw [← h20.1]; exact er2.mp (by omega))]; omega⟩ hy hv9 (by omega)
  have loop0 : ∀ (n : Nat) (x4 x2 x1 : Int) (M1 : xa_M), 0 ≤ x4 ∧ x4 ≤ 8 → 1 ≤ x2 ∧ x2 ≤ 1000000 → xm_cor M M1 → M1 60 20 = M 60 20 → x1 = a → x4 ≤ M 60 11 → x2 = mt_y (fun p => xa_ib 3 (xa_ib 7 a p) 1 = 1) (mt_d (M 71) (M 70)) x4.toNat → ¬ (a ≤ 0 ∨ xa_ib 6 1 (M 60 11) ≤ a) → 8 - x4 < (n : Int) → Q 26 [(4, (0, 0, 0, 8, x4)), (2, (1, 0, 1, 1000000, x2)), (1, (0, 0, (-2147483648), 2147483647, x1)), (0, (2, 60, 0, 0, 0))] [] M1 := by
    intro n
    induction n with
    | zero => intro x4 x2 x1 M1 b4 b2 hc h20 ha hn hy hv9 hms; omega
    | succ n ih0 =>
      intro x4 x2 x1 M1 b4 b2 hc h20 ha hn hy hv9 hms0
      have ei : ((x4.toNat : Nat) : Int) = x4 := Int.toNat_of_nonneg (by omega)
      have k70 : M1 70 x4 = M 70 x4 := hc 70 x4 (by unfold xm_scr; omega)
      have k71 : M1 71 x4 = M 71 x4 := hc 71 x4 (by unfold xm_scr; omega)
      have e0 := xm_corf hc 0 (by omega)
      have e6 := xm_corf hc 6 (by omega)
      have e61 := xm_corf hc 61 (by omega)
      have e11 := xm_corf hc 11 (by omega)
      have e15 := xm_corf hc 15 (by omega)
      have e16 := xm_corf hc 16 (by omega)
      refine hgo.2.2 _ _ _ _ (fun hM1 _ => ?_)
      have t70 : x4 < M1 60 11 → 0 ≤ M1 70 x4 ∧ M1 70 x4 ≤ 2000 := fun h => xm_t70 hM1 x4 (by omega) (by omega)
      have t71 : x4 < M1 60 11 → 0 ≤ M1 71 x4 ∧ M1 71 x4 ≤ 2000 := fun h => xm_t71 hM1 x4 (by omega) (by omega)
      have hpp := (xm_Inv_cor hc hI).2.2.1 x4 (by omega)
      refine hgo.1 44 [26, 114] 26 _ _ _ ?_
      refine And.intro ?_ ?_
      · intro (c1 : (M1 60 11) ≤ x4)
        show Q 114 [(4, (0, 0, 0, 0, 0)), (2, (1, 0, 1, 1000000, x2)), (1, (0, 0, (-2147483648), 2147483647, x1)), (0, (2, 60, 0, 0, 0))] [] (xa_up M1 60 20 0)
        refine hgo.2.1 114 _ [(4, (0, 0, 0, 8, 0)), (2, (1, 0, 1, 1000000, x2)), (1, (0, 0, (-2147483648), 2147483647, x1)), (0, (2, 60, 0, 0, 0))] _ _ (xa_subI rfl rfl (fun _ _ _ _ => by omega) (xa_subL rfl rfl (fun _ _ _ _ => by omega) (xa_subI rfl rfl (fun _ _ _ _ => by omega) (xa_subR rfl xa_sub0)))) ?_
        exact loop1 9 0 x2 x1 (xa_up M1 60 20 0) (by omega) (by omega) (xm_cor_f (by omega) hc) ⟨ha, by omega, by rw [xa_up_eq]; rfl⟩ (by rw [hy, show x4 = M 60 11 by omega]) hv9 (by omega)
      · intro (c1 : x4 < (M1 60 11))
        show xa_C xm_I A h0 _ 248 [(0, 0, (-2147483648), 2147483647, x1), (0, 0, 0, 8, x4)] M1 _
        refine ct_has (fun r2 zr2 er2 => ?_)
        refine And.intro ?_ ?_
        · intro (c3 : ¬ r2 = 0)
          refine And.intro (show 0 ≤ x4 ∧ x4 < 8 by omega) ?_
          refine And.intro (show 0 ≤ x4 ∧ x4 < 8 by omega) ?_
          refine And.intro (show 0 ≤ x4 ∧ x4 < 8 by omega) ?_
          show xa_C xm_I A h0 _ 229 [(1, 0, 0, 2000, M1 70 x4), (1, 0, 0, 2000, M1 71 x4)] M1 _
          refine ct_gcd3 (by omega) (by omega) (fun g4 eg4 pg4 qg4 ug4 => ?_)
          have dg4 := xm_edb (g := g4) (y := M1 71 x4) (B := 2000) (by omega) (by omega) (by omega)
          show xa_C xm_I A h0 _ 229 [(1, 0, 1, 1000000, x2), (1, 0, 0, 2000, (M1 71 x4) / g4)] M1 _
          refine ct_gcd3 (by omega) (by omega) (fun g5 eg5 pg5 qg5 ug5 => ?_)
          have dg5 := xm_edb (g := g5) (y := x2) (B := 1000000) (by omega) (by omega) (by omega)
          have mg5 := xm_mulp (p := x2 / g5) (q := M1 71 x4 / g4) (a := 1000000) (b := 2000) (by omega) (by omega) (by omega) (by omega)
          have zg5 := xa_w64_id (n := (x2 / g5) * (M1 71 x4 / g4)) (by omega) (by omega)
          refine And.intro ?_ ?_
          · intro (c6 : ((x2 / g5) * ((M1 71 x4) / g4)) ≤ 1000000)
            show Q 26 [(4, (0, 0, 1, 9, x4 + 1)), (2, (1, 0, 0, 2000000000, (x2 / g5) * ((M1 71 x4) / g4))), (5, (1, 0, 0, 2000, (M1 71 x4) / g4)), (1, (0, 0, (-2147483648), 2147483647, x1)), (0, (2, 60, 0, 0, 0))] [] M1
            refine hgo.2.1 26 _ [(4, (0, 0, 0, 8, x4 + 1)), (2, (1, 0, 1, 1000000, (x2 / g5) * ((M1 71 x4) / g4))), (1, (0, 0, (-2147483648), 2147483647, x1)), (0, (2, 60, 0, 0, 0))] _ _ (xa_subI rfl rfl (fun _ _ _ _ => by omega) (xa_subL rfl rfl (fun _ _ _ _ => by omega) (xa_subI rfl rfl (fun _ _ _ _ => by omega) (xa_subR rfl xa_sub0)))) ?_
            have ed : mt_d (M 71) (M 70) x4 = M1 71 x4 / g4 := by
              rw [eg4, k70, k71]
              rfl
            have en : (x2 / g5) * ((M1 71 x4) / g4) = mt_y (fun p => xa_ib 3 (xa_ib 7 a p) 1 = 1) (mt_d (M 71) (M 70)) (x4 + 1).toNat := by
              rw [show (x4 + 1).toNat = x4.toNat + 1 by omega, mt_y1 (by rw [← hy]; omega) (by rw [ei, ← ha]; exact er2.mp (by omega)), ei, ed, ← hy, mt_s0 (by rw [← mt_swap, ← eg5]; omega), ← mt_swap, ← eg5]
            exact ih0 (x4 + 1) ((x2 / g5) * ((M1 71 x4) / g4)) x1 M1 (by omega) (by omega) hc h20 ha (by omega) en hv9 (by omega)
          · intro (c6 : 1000000 < ((x2 / g5) * ((M1 71 x4) / g4)))
            show post (some (0, 0, (-2), (-2), (-2))) M1
            have ed : mt_d (M 71) (M 70) x4 = M1 71 x4 / g4 := by
              rw [eg4, k70, k71]
              rfl
            have en : mt_y (fun p => xa_ib 3 (xa_ib 7 a p) 1 = 1) (mt_d (M 71) (M 70)) (x4.toNat + 1) = -1 := by
              rw [mt_y1 (by rw [← hy]; omega) (by rw [ei, ← ha]; exact er2.mp (by omega)), ei, ed, ← hy]
              refine mt_s1 ?_
              rw [← mt_swap, ← eg5]
              exact c6
            exact k _ _ _ _ (mt_r2 hv9 (mt_yn en (by omega))).symm hc (by show rz_c (0 ≤ ((-2) : Int)) (M 60 20) (M1 60 20) (rz_n a (M 60 11).toNat); unfold rz_c; omega)
        · intro (c3 : r2 = 0)
          show Q 26 [(4, (0, 0, 1, 9, x4 + 1)), (2, (1, 0, 1, 1000000, x2)), (1, (0, 0, (-2147483648), 2147483647, x1)), (0, (2, 60, 0, 0, 0))] [] M1
          refine hgo.2.1 26 _ [(4, (0, 0, 0, 8, x4 + 1)), (2, (1, 0, 1, 1000000, x2)), (1, (0, 0, (-2147483648), 2147483647, x1)), (0, (2, 60, 0, 0, 0))] _ _ (xa_subI rfl rfl (fun _ _ _ _ => by omega) (xa_subL rfl rfl (fun _ _ _ _ => by omega) (xa_subI rfl rfl (fun _ _ _ _ => by omega) (xa_subR rfl xa_sub0)))) ?_
          exact ih0 (x4 + 1) x2 x1 M1 (by omega) (by omega) hc h20 ha (by omega) (by rw [show (x4 + 1).toNat = x4.toNat + 1 by omega, mt_y0 (by rw [← hy]; omega) (by rw [ei, ← ha]; exact fun h => absurd (er2.mpr h) (by omega))]; exact hy) hv9 (by omega)
  refine hgo.1 20 [26, 114] 0 _ _ _ ?_
  refine And.intro ?_ ?_
  · intro (c1 : a ≤ 0)
    show post (some (0, 0, (-1), (-1), (-1))) (xa_up M 60 21 0)
    exact k _ _ _ _ (mt_r1 (by omega)).symm (xm_cor_f (by omega) xm_cor_r) (by show rz_c (0 ≤ ((-1) : Int)) (M 60 20) (M 60 20) (rz_n a (M 60 11).toNat); unfold rz_c; omega)
  · intro (c1 : 0 < a)
    refine And.intro ?_ ?_
    · intro (c2 : a < (xa_ib 6 1 (M 60 11)))
      show Q 26 [(4, (0, 0, 0, 0, 0)), (2, (1, 0, 1, 1, 1)), (0, (2, 60, 0, 0, 0)), (1, (0, 0, (-2147483648), 2147483647, a))] [] (xa_up M 60 21 0)
      refine hgo.2.1 26 _ [(4, (0, 0, 0, 8, 0)), (2, (1, 0, 1, 1000000, 1)), (1, (0, 0, (-2147483648), 2147483647, a)), (0, (2, 60, 0, 0, 0))] _ _ (xa_subI rfl rfl (fun _ _ _ _ => by omega) (xa_subL rfl rfl (fun _ _ _ _ => by omega) (xa_subI rfl rfl (fun _ _ _ _ => by omega) (xa_subR rfl xa_sub0)))) ?_
      exact loop0 9 0 1 a (xa_up M 60 21 0) (by omega) (by omega) (xm_cor_f (by omega) xm_cor_r) (xa_up_ne (by omega)) rfl (by omega) rfl (by omega) (by omega)
    · intro (c2 : (xa_ib 6 1 (M 60 11)) ≤ a)
      show post (some (0, 0, (-1), (-1), (-1))) (xa_up M 60 21 0)
      exact k _ _ _ _ (mt_r1 (by omega)).symm (xm_cor_f (by omega) xm_cor_r) (by show rz_c (0 ≤ ((-1) : Int)) (M 60 20) (M 60 20) (rz_n a (M 60 11).toNat); unfold rz_c; omega)
set_option maxRecDepth 100000 in
theorem rz_p167 (A : Nat → Nat) (cmp : Bool) : iv_pair (rz_J A) A 167 278 [0] cmp false := rz_armV (fun W b h as M hJ hM hInv hs hR hz => by
  obtain ⟨m1, ys, rfl, -, hs⟩ := iv_spc hs
  obtain rfl := iv_sp0 hs
  obtain ⟨s1, s2, s3, s4⟩ := lm_Sx.mp hR.2.1
  have hMk := xa_H_Mok hM
  have b18 := xm_f18 hMk
  have b11 := xm_f11 hMk
  have hU : ∀ i, 0 ≤ i → i < iv_num h (bk_p b) 4 → (1 ≤ iv_num h (bk_p b + 1) i ∧ iv_num h (bk_p b + 1) i ≤ 2000) ∧ (1 ≤ iv_num h (bk_p b + 2) i ∧ iv_num h (bk_p b + 2) i ≤ 2000) := fun i i0 i1 => by
    rw [s3] at i1
    obtain ⟨g1, g2, -⟩ := s4 i i0 (by omega) i1
    have t1 := xm_t70 hMk i i0 (by omega)
    have t2 := xm_t71 hMk i i0 (by omega)
    have t3 := hInv.2.2.1 i i0 i1
    rw [g1, g2]
    omega
  have ey : mt_y (fun p => xa_ib 3 (xa_ib 7 m1.toInt p) 1 = 1) (mt_d (iv_num h (bk_p b + 2)) (iv_num h (bk_p b + 1))) (M 60 11).toNat = (mt_y (fun p => xa_ib 3 (xa_ib 7 m1.toInt p) 1 = 1) (mt_d (M 71) (M 70)) (M 60 11).toNat) := mt_y_e _ (fun p hp => by
    obtain ⟨g1, g2, -⟩ := s4 p (by omega) (by omega) (by omega)
    unfold mt_d
    rw [g1, g2])
  have hc := rx_167 (b := b) (A := A) (h0 := h) (d := 56) (M := iv_num h) (l1 := -2147483648) (u1 := 2147483647) (x1 := m1.toInt) (post := fun o M1 => ∃ lo hi n, o = some (0, 0, lo, hi, n) ∧ ((n = mt_r m1.toInt (xa_ib 6 1 (M 60 11)) (mt_y (fun p => xa_ib 3 (xa_ib 7 m1.toInt p) 1 = 1) (mt_d (M 71) (M 70)) (M 60 11).toNat) ∧ ∀ q j, ¬ q = 48 → ¬ q = 49 → M1 q j = iv_num h q j) ∧ rz_c (0 ≤ n) (iv_num h 48 1) (M1 48 1) (rz_n m1.toInt (M 60 11).toNat))) (by omega) hU (fun n M1 x1 x2 x3 => ⟨_, _, n, rfl, ⟨by rw [x1, s3, ey], x2⟩, by rw [s3] at x3; exact x3⟩)
  have hm := fun (h1 : g_H) => rm_meets (A := A) (h0 := h1) (d := 56) (M := M) (l1 := -2147483648) (u1 := 2147483647) (a := m1.toInt) (post := fun o M2 => (∃ lo hi n, o = some (0, 0, lo, hi, n) ∧ ((n = mt_r m1.toInt (xa_ib 6 1 (M 60 11)) (mt_y (fun p => xa_ib 3 (xa_ib 7 m1.toInt p) 1 = 1) (mt_d (M 71) (M 70)) (M 60 11).toNat) ∧ xm_cor M M2) ∧ rz_c (0 ≤ n) (M 60 20) (M2 60 20) (rz_n m1.toInt (M 60 11).toNat))) ∧ xm_Inv M2) hInv (fun lo hi r M2 x1 x2 x3 => ⟨⟨lo, hi, r, rfl, ⟨x1, x2⟩, x3⟩, xm_Inv_cor x2 hInv⟩)
  refine ⟨[(2, 0, 0, 0, 0), (0, 0, -2147483648, 2147483647, m1.toInt)], [(2, 60, 0, 0, 0), (0, 0, -2147483648, 2147483647, m1.toInt)], _, _, ⟨rfl, iv_i m1, trivial⟩, ⟨rfl, iv_i m1, trivial⟩, fun n n' M1 M2 h1 h2 => ⟨fun _ => h1.1.1.trans h2.1.1.symm, fun x => h2.1.2 104 x (by unfold xm_scr; omega), fun x => h2.1.2 105 x (by unfold xm_scr; omega), lm_R_k (fun q j hC => ?_) hR, rz_c2 (h1.1.1.trans h2.1.1.symm) h1.2 h2.2 hz⟩, hc, hm⟩
  unfold xj
  by_cases hq : q < 60
  · rw [if_pos hq, if_pos hq]
    exact h1.1.2 q j (by first | (have t9 := lm_Cq hC; omega) | (unfold lm_C at hC; omega)) (by first | (have t9 := lm_Cq hC; omega) | (unfold lm_C at hC; omega))
  · rw [if_neg hq, if_neg hq]
    exact h2.1.2 q j (by first | (have t9 := lm_Cq hC; unfold xm_scr; omega) | (unfold lm_C at hC; unfold xm_scr; omega)))
theorem rz_171_50 {b : Bool} {A : Nat → Nat} {h0 : g_H} {d : Nat} {M : xa_M} {post : Option xa_V → xa_M → Prop} {T : Int → Int} {l1 u1 x2 : Int} (hT : (∀ i, 0 ≤ i → i < 80 → M 31 i = T i)) (hB : ∀ i, 0 ≤ T i ∧ T i ≤ 255) (hz : 0 ≤ M 30 1 ∧ M 30 1 ≤ 80) (hp : 0 ≤ M 50 4 ∧ M 50 4 ≤ 8) (hU : ∀ i, 0 ≤ i → i < M 50 4 → (0 ≤ M 51 i ∧ M 51 i ≤ 2000) ∧ (0 ≤ M 52 i ∧ M 52 i ≤ 2000)) (hx : 0 ≤ x2 ∧ x2 ≤ 1) (k : ∀ (r : Int) (M1 : xa_M), wd_A T (M 30 1) (wd_P T (M 30 1) x2 (M 52) (M 51)) (M 50 4).toNat r → (∀ q j, ¬ q = 48 → ¬ q = 49 → M1 q j = M q j) → rz_c (0 ≤ r) (M 48 1) (M1 48 1) 1 → post (some (0, 0, (-2147483648), 2147483647, r)) M1) : xa_C (xl_I b) A h0 (d + 5) 171 [(2, 50, 0, 0, 0), (2, 30, 0, 0, 0), (0, 0, l1, u1, x2), (2, 48, 0, 0, 0)] M post := by
  refine xa_C_wk ?_
  refine xa_C_arg [(2, 50, 0, 0, 0), (2, 30, 0, 0, 0), (0, 0, 0, 1, x2), (2, 48, 0, 0, 0)] (xa_svR (xa_svR (xa_svI (fun _ _ _ _ => by omega) (xa_svR xa_sv0)))) ?_
  refine xa_meth (Q0 := (7, 1, false, 0, 0, 0)) (by decide +kernel) ⟨rfl, rfl⟩ (full := s_c_171) rfl rfl ?_
  intro hM hv Q hgo
  have loop3 : (∀ i, 0 ≤ i → i < M 30 1 → i < 4 → wd_s (T i)) → (1 ≤ M 30 1 ∧ M 30 1 ≤ 4) → ∀ (f : Nat) (bb al n : Int), 1 ≤ n ∧ n ≤ 2001 → 0 ≤ al ∧ al < n → bb = wd_b (wd_P T (M 30 1) x2 (M 52) (M 51)) (M 50 4).toNat → 2001 - n < (f : Int) → Q 142 [(4, (0, 0, (-2147483648), 2147483647, bb)), (5, (0, 0, 0, 2000, al)), (6, (0, 0, 1, 2001, n)), (2, (0, 0, 0, 1, x2)), (0, (2, 50, 0, 0, 0)), (1, (2, 30, 0, 0, 0)), (3, (2, 48, 0, 0, 0))] [] M := by
    intro hg hs f
    induction f with
    | zero => intro bb al n n1 a1 hb hms; omega
    | succ f ih =>
      intro bb al n n1 a1 hb hms
      refine hgo.1 19 [3, 76, 142] 142 _ _ _ ?_
      refine And.intro ?_ ?_
      · intro (c1 : 2000 < n)
        show xa_C (xl_I b) A h0 _ 59 [(2, 48, 0, 0, 0)] M _
        refine cx_59_48 ?_
        show xa_C (xl_I b) A h0 _ 60 [(2, 48, 0, 0, 0), (1, 0, 0, 2000, al)] (xa_up M 48 1 0) _
        refine cx_60_48 (by show (0 : Int) ≤ 0; omega) ?_ ?_
        · intro (i2 : 16 ≤ 0)
          exfalso
          omega
        · intro (i3 : 0 < 16)
          show xa_wk post (some (0, 0, (-2147483648), 2147483647, bb)) (xa_up (xa_up (xa_up M 48 1 0) 49 0 al) 48 1 (xa_w32 (0 + 1)))
          exact xa_wkI bb rfl (fun _ _ => by omega) (k _ _ (Or.inr ⟨hg, Or.inr (Or.inr ⟨hs.1, hs.2, hb⟩)⟩) (fun q j h1 h2 => by
            first
              | exact (xa_up_ne (by omega)).trans ((xa_up_ne (by omega)).trans (xa_up_ne (by omega)))
              | simp [xa_up, h1, h2]) (Or.inl ⟨by rw [hb]; exact rz_wn _ (by omega), by show xa_w32 (0 + 1) = 1; decide⟩))
      · intro (c1 : n ≤ 2000)
        show xa_C (xl_I b) A h0 _ 173 [(2, 30, 0, 0, 0), (0, 0, 1, 2001, n)] M _
        refine cx_173f (by first | exact hT | exact hT1) hB (by omega) (by first | omega | exact hn8 _ (by omega) (by omega)) ?_ ?_
        · intro (i4 : wd_m T (M 30 1).toNat n)
          show Q 142 [(6, (0, 0, 2, 2002, n + 1)), (5, (0, 0, 1, 2001, al + 1)), (4, (0, 0, (-2147483648), 2147483647, bb)), (2, (0, 0, 0, 1, x2)), (0, (2, 50, 0, 0, 0)), (1, (2, 30, 0, 0, 0)), (3, (2, 48, 0, 0, 0))] [] M
          refine hgo.2.1 142 _ [(4, (0, 0, (-2147483648), 2147483647, bb)), (5, (0, 0, 0, 2000, al + 1)), (6, (0, 0, 1, 2001, n + 1)), (2, (0, 0, 0, 1, x2)), (0, (2, 50, 0, 0, 0)), (1, (2, 30, 0, 0, 0)), (3, (2, 48, 0, 0, 0))] _ _ (xa_subI rfl rfl (fun _ _ _ _ => by omega) (xa_subI rfl rfl (fun _ _ _ _ => by omega) (xa_subI rfl rfl (fun _ _ _ _ => by omega) (xa_subI rfl rfl (fun _ _ _ _ => by omega) (xa_subR rfl (xa_subR rfl (xa_subR rfl (xa_sub0)))))))) ?_
          exact ih bb (al + 1) (n + 1) (by omega) (by omega) hb (by omega)
        · intro (i5 : ¬ wd_m T (M 30 1).toNat n)
          show Q 142 [(6, (0, 0, 2, 2002, n + 1)), (5, (0, 0, 0, 2000, al + 0)), (4, (0, 0, (-2147483648), 2147483647, bb)), (2, (0, 0, 0, 1, x2)), (0, (2, 50, 0, 0, 0)), (1, (2, 30, 0, 0, 0)), (3, (2, 48, 0, 0, 0))] [] M
          refine hgo.2.1 142 _ [(4, (0, 0, (-2147483648), 2147483647, bb)), (5, (0, 0, 0, 2000, al + 0)), (6, (0, 0, 1, 2001, n + 1)), (2, (0, 0, 0, 1, x2)), (0, (2, 50, 0, 0, 0)), (1, (2, 30, 0, 0, 0)), (3, (2, 48, 0, 0, 0))] _ _ (xa_subI rfl rfl (fun _ _ _ _ => by omega) (xa_subI rfl rfl (fun _ _ _ _ => by omega) (xa_subI rfl rfl (fun _ _ _ _ => by omega) (xa_subI rfl rfl (fun _ _ _ _ => by omega) (xa_subR rfl (xa_subR rfl (xa_subR rfl (xa_sub0)))))))) ?_
          exact ih bb (al + 0) (n + 1) (by omega) (by omega) hb (by omega)
  have loop2 : (∀ i, 0 ≤ i → i < M 30 1 → i < 4 → wd_s (T i)) → (1 ≤ M 30 1 ∧ M 30 1 ≤ 4) → ∀ (f : Nat) (bb p : Int), 0 ≤ p ∧ p ≤ M 50 4 → p ≤ 8 → bb = wd_b (wd_P T (M 30 1) x2 (M 52) (M 51)) p.toNat → 8 - p < (f : Int) → Q 76 [(4, (0, 0, (-2147483648), 2147483647, bb)), (5, (0, 0, 0, 8, p)), (2, (0, 0, 0, 1, x2)), (0, (2, 50, 0, 0, 0)), (1, (2, 30, 0, 0, 0)), (3, (2, 48, 0, 0, 0))] [] M := by
    intro hg hs f
    induction f with
    | zero => intro bb p p1 p2 hb hms; omega
    | succ f ih =>
      intro bb p p1 p2 hb hms
      have hn8 := hU p
      have hr := wd_b_r (P := (wd_P T (M 30 1) x2 (M 52) (M 51))) p.toNat
      rw [← hb] at hr
      refine hgo.1 28 [3, 76, 142] 76 _ _ _ ?_
      refine And.intro ?_ ?_
      · intro (c1 : (M 50 4) ≤ p)
        show Q 142 [(6, (0, 0, 1, 1, 1)), (5, (0, 0, 0, 0, 0)), (4, (0, 0, (-2147483648), 2147483647, bb)), (2, (0, 0, 0, 1, x2)), (0, (2, 50, 0, 0, 0)), (1, (2, 30, 0, 0, 0)), (3, (2, 48, 0, 0, 0))] [] M
        refine hgo.2.1 142 _ [(4, (0, 0, (-2147483648), 2147483647, bb)), (5, (0, 0, 0, 2000, 0)), (6, (0, 0, 1, 2001, 1)), (2, (0, 0, 0, 1, x2)), (0, (2, 50, 0, 0, 0)), (1, (2, 30, 0, 0, 0)), (3, (2, 48, 0, 0, 0))] _ _ (xa_subI rfl rfl (fun _ _ _ _ => by omega) (xa_subI rfl rfl (fun _ _ _ _ => by omega) (xa_subI rfl rfl (fun _ _ _ _ => by omega) (xa_subI rfl rfl (fun _ _ _ _ => by omega) (xa_subR rfl (xa_subR rfl (xa_subR rfl (xa_sub0)))))))) ?_
        exact loop3 hg hs 2001 bb 0 1 (by omega) (by omega) (by rw [hb, show p = M 50 4 by omega]) (by omega)
      · intro (c1 : p < (M 50 4))
        refine And.intro ?_ ?_
        · intro (c2 : ¬ x2 = 0)
          show xa_C (xl_I b) A h0 _ 23 [(2, 51, 0, 0, 0), (0, 0, 0, 8, p)] M _
          refine cx_23_51 (show 0 ≤ p ∧ p < 8 by omega) ?_
          show xa_C (xl_I b) A h0 _ 173 [(2, 30, 0, 0, 0), (0, 0, (-2147483648), 2147483647, M 51 p)] M _
          refine cx_173f (by first | exact hT | exact hT1) hB (by omega) (by first | omega | exact hn8 _ (by omega) (by omega)) ?_ ?_
          · intro (i3 : wd_m T (M 30 1).toNat (M 51 p))
            show Q 76 [(5, (0, 0, 1, 9, p + 1)), (4, (0, 0, (-2147483648), 2147483647, xa_ib 4 bb (xa_ib 6 1 p))), (2, (0, 0, 0, 1, x2)), (0, (2, 50, 0, 0, 0)), (1, (2, 30, 0, 0, 0)), (3, (2, 48, 0, 0, 0))] [] M
            have ei : ((p.toNat : Nat) : Int) = p := Int.toNat_of_nonneg (by omega)
            have f9 : (wd_P T (M 30 1) x2 (M 52) (M 51)) ((p.toNat : Nat) : Int) := by
              rw [ei]
              exact (wd_P1 (by omega)).mpr i3
            have eb : xa_ib 4 bb (xa_ib 6 1 p) = wd_b (wd_P T (M 30 1) x2 (M 52) (M 51)) (p + 1).toNat := by
              rw [show (p + 1).toNat = p.toNat + 1 by omega, wd_b1 f9, ← hb, ei]
            refine hgo.2.1 76 _ [(4, (0, 0, (-2147483648), 2147483647, xa_ib 4 bb (xa_ib 6 1 p))), (5, (0, 0, 0, 8, p + 1)), (2, (0, 0, 0, 1, x2)), (0, (2, 50, 0, 0, 0)), (1, (2, 30, 0, 0, 0)), (3, (2, 48, 0, 0, 0))] _ _ (xa_subI rfl rfl (fun _ _ _ _ => by omega) (xa_subI rfl rfl (fun _ _ _ _ => by omega) (xa_subI rfl rfl (fun _ _ _ _ => by omega) (xa_subR rfl (xa_subR rfl (xa_subR rfl (xa_sub0))))))) ?_
            exact ih _ (p + 1) (by omega) (by omega) eb (by omega)
          · intro (i4 : ¬ wd_m T (M 30 1).toNat (M 51 p))
            show Q 76 [(5, (0, 0, 1, 9, p + 1)), (4, (0, 0, (-2147483648), 2147483647, xa_ib 4 bb 0)), (2, (0, 0, 0, 1, x2)), (0, (2, 50, 0, 0, 0)), (1, (2, 30, 0, 0, 0)), (3, (2, 48, 0, 0, 0))] [] M
            have ei : ((p.toNat : Nat) : Int) = p := Int.toNat_of_nonneg (by omega)
            have f9 : ¬ (wd_P T (M 30 1) x2 (M 52) (M 51)) ((p.toNat : Nat) : Int) := by
              rw [ei]
              exact fun h => i4 ((wd_P1 (by omega)).mp h)
            have eb : xa_ib 4 bb 0 = wd_b (wd_P T (M 30 1) x2 (M 52) (M 51)) (p + 1).toNat := by
              rw [show (p + 1).toNat = p.toNat + 1 by omega, wd_b0 f9, ← hb, bk_or0 hr.1 hr.2]
            refine hgo.2.1 76 _ [(4, (0, 0, (-2147483648), 2147483647, xa_ib 4 bb 0)), (5, (0, 0, 0, 8, p + 1)), (2, (0, 0, 0, 1, x2)), (0, (2, 50, 0, 0, 0)), (1, (2, 30, 0, 0, 0)), (3, (2, 48, 0, 0, 0))] _ _ (xa_subI rfl rfl (fun _ _ _ _ => by omega) (xa_subI rfl rfl (fun _ _ _ _ => by omega) (xa_subI rfl rfl (fun _ _ _ _ => by omega) (xa_subR rfl (xa_subR rfl (xa_subR rfl (xa_sub0))))))) ?_
            exact ih _ (p + 1) (by omega) (by omega) eb (by omega)
        · intro (c2 : x2 = 0)
          show xa_C (xl_I b) A h0 _ 23 [(2, 52, 0, 0, 0), (0, 0, 0, 8, p)] M _
          refine cx_23_52 (show 0 ≤ p ∧ p < 8 by omega) ?_
          show xa_C (xl_I b) A h0 _ 173 [(2, 30, 0, 0, 0), (0, 0, (-2147483648), 2147483647, M 52 p)] M _
          refine cx_173f (by first | exact hT | exact hT1) hB (by omega) (by first | omega | exact hn8 _ (by omega) (by omega)) ?_ ?_
          · intro (i5 : wd_m T (M 30 1).toNat (M 52 p))
            show Q 76 [(5, (0, 0, 1, 9, p + 1)), (4, (0, 0, (-2147483648), 2147483647, xa_ib 4 bb (xa_ib 6 1 p))), (2, (0, 0, 0, 1, x2)), (0, (2, 50, 0, 0, 0)), (1, (2, 30, 0, 0, 0)), (3, (2, 48, 0, 0, 0))] [] M
            have ei : ((p.toNat : Nat) : Int) = p := Int.toNat_of_nonneg (by omega)
            have f9 : (wd_P T (M 30 1) x2 (M 52) (M 51)) ((p.toNat : Nat) : Int) := by
              rw [ei]
              exact (wd_P0 (by omega)).mpr i5
            have eb : xa_ib 4 bb (xa_ib 6 1 p) = wd_b (wd_P T (M 30 1) x2 (M 52) (M 51)) (p + 1).toNat := by
              rw [show (p + 1).toNat = p.toNat + 1 by omega, wd_b1 f9, ← hb, ei]
            refine hgo.2.1 76 _ [(4, (0, 0, (-2147483648), 2147483647, xa_ib 4 bb (xa_ib 6 1 p))), (5, (0, 0, 0, 8, p + 1)), (2, (0, 0, 0, 1, x2)), (0, (2, 50, 0, 0, 0)), (1, (2, 30, 0, 0, 0)), (3, (2, 48, 0, 0, 0))] _ _ (xa_subI rfl rfl (fun _ _ _ _ => by omega) (xa_subI rfl rfl (fun _ _ _ _ => by omega) (xa_subI rfl rfl (fun _ _ _ _ => by omega) (xa_subR rfl (xa_subR rfl (xa_subR rfl (xa_sub0))))))) ?_
            exact ih _ (p + 1) (by omega) (by omega) eb (by omega)
          · intro (i6 : ¬ wd_m T (M 30 1).toNat (M 52 p))
            show Q 76 [(5, (0, 0, 1, 9, p + 1)), (4, (0, 0, (-2147483648), 2147483647, xa_ib 4 bb 0)), (2, (0, 0, 0, 1, x2)), (0, (2, 50, 0, 0, 0)), (1, (2, 30, 0, 0, 0)), (3, (2, 48, 0, 0, 0))] [] M
            have ei : ((p.toNat : Nat) : Int) = p := Int.toNat_of_nonneg (by omega)
            have f9 : ¬ (wd_P T (M 30 1) x2 (M 52) (M 51)) ((p.toNat : Nat) : Int) := by
              rw [ei]
              exact fun h => i6 ((wd_P0 (by omega)).mp h)
            have eb : xa_ib 4 bb 0 = wd_b (wd_P T (M 30 1) x2 (M 52) (M 51)) (p + 1).toNat := by
              rw [show (p + 1).toNat = p.toNat + 1 by omega, wd_b0 f9, ← hb, bk_or0 hr.1 hr.2]
            refine hgo.2.1 76 _ [(4, (0, 0, (-2147483648), 2147483647, xa_ib 4 bb 0)), (5, (0, 0, 0, 8, p + 1)), (2, (0, 0, 0, 1, x2)), (0, (2, 50, 0, 0, 0)), (1, (2, 30, 0, 0, 0)), (3, (2, 48, 0, 0, 0))] _ _ (xa_subI rfl rfl (fun _ _ _ _ => by omega) (xa_subI rfl rfl (fun _ _ _ _ => by omega) (xa_subI rfl rfl (fun _ _ _ _ => by omega) (xa_subR rfl (xa_subR rfl (xa_subR rfl (xa_sub0))))))) ?_
            exact ih _ (p + 1) (by omega) (by omega) eb (by omega)
  have loop1 : ∀ (f : Nat) (p : Int), 0 ≤ p ∧ p ≤ 4 → p ≤ M 30 1 → (∀ i, 0 ≤ i → i < p → wd_s (T i)) → 4 - p < (f : Int) → Q 3 [(4, (0, 0, 0, 4, p)), (2, (0, 0, 0, 1, x2)), (0, (2, 50, 0, 0, 0)), (1, (2, 30, 0, 0, 0)), (3, (2, 48, 0, 0, 0))] [] M := by
    intro f
    induction f with
    | zero => intro p p1 p2 hg hms; omega
    | succ f ih =>
      intro p p1 p2 hg hms
      refine hgo.1 27 [3, 76, 142] 3 _ _ _ ?_
      refine And.intro ?_ ?_
      · intro (c1 : (M 30 1) ≤ p)
        refine And.intro ?_ ?_
        · intro (c2 : ¬ (M 30 1) = 0)
          show Q 76 [(5, (0, 0, 0, 0, 0)), (4, (0, 0, 0, 0, 0)), (2, (0, 0, 0, 1, x2)), (0, (2, 50, 0, 0, 0)), (1, (2, 30, 0, 0, 0)), (3, (2, 48, 0, 0, 0))] [] M
          refine hgo.2.1 76 _ [(4, (0, 0, (-2147483648), 2147483647, 0)), (5, (0, 0, 0, 8, 0)), (2, (0, 0, 0, 1, x2)), (0, (2, 50, 0, 0, 0)), (1, (2, 30, 0, 0, 0)), (3, (2, 48, 0, 0, 0))] _ _ (xa_subI rfl rfl (fun _ _ _ _ => by omega) (xa_subI rfl rfl (fun _ _ _ _ => by omega) (xa_subI rfl rfl (fun _ _ _ _ => by omega) (xa_subR rfl (xa_subR rfl (xa_subR rfl (xa_sub0))))))) ?_
          exact loop2 (fun i g0 g1 g2 => hg i g0 (by omega)) (by omega) 9 0 0 (by omega) (by omega) rfl (by omega)
        · intro (c2 : (M 30 1) = 0)
          show xa_wk post (some (0, 0, (-100), (-100), (-100))) M
          exact xa_wkI (-100) rfl (fun _ _ => by omega) (k _ _ (Or.inr ⟨fun i g0 g1 g2 => hg i g0 (by omega), Or.inl ⟨by omega, rfl⟩⟩) (fun _ _ _ _ => rfl) (by unfold rz_c; omega))
      · intro (c1 : p < (M 30 1))
        refine And.intro ?_ ?_
        · intro (c3 : 4 ≤ p)
          show xa_wk post (some (0, 0, (-104), (-100), (-100) - p)) M
          exact xa_wkI _ rfl (fun _ _ => by omega) (k _ _ (Or.inr ⟨fun i g0 g1 g2 => hg i g0 (by omega), Or.inr (Or.inl ⟨by omega, by omega⟩)⟩) (fun _ _ _ _ => rfl) (by unfold rz_c; omega))
        · intro (c3 : p < 4)
          show xa_C (xl_I b) A h0 _ 118 [(2, 30, 0, 0, 0), (0, 0, 0, 4, p)] M _
          refine cg_118 (show 0 ≤ (M 30 1) ∧ (M 30 1) ≤ 80 by omega) ?_ ?_
          · intro (i4 : (0 ≤ p ∧ p < (M 30 1)) ∧ 48 ≤ M 31 p ∧ M 31 p ≤ 57)
            show Q 3 [(4, (0, 0, 1, 5, p + 1)), (5, (0, 0, 1, 1, 1)), (2, (0, 0, 0, 1, x2)), (0, (2, 50, 0, 0, 0)), (1, (2, 30, 0, 0, 0)), (3, (2, 48, 0, 0, 0))] [] M
            refine hgo.2.1 3 _ [(4, (0, 0, 0, 4, p + 1)), (2, (0, 0, 0, 1, x2)), (0, (2, 50, 0, 0, 0)), (1, (2, 30, 0, 0, 0)), (3, (2, 48, 0, 0, 0))] _ _ (xa_subI rfl rfl (fun _ _ _ _ => by omega) (xa_subI rfl rfl (fun _ _ _ _ => by omega) (xa_subR rfl (xa_subR rfl (xa_subR rfl (xa_sub0)))))) ?_
            exact ih (p + 1) (by omega) (by omega) (fun i g0 g1 => by
              by_cases e : i = p
              · rw [e]
                have t9 := hT p (by omega) (by omega)
                unfold wd_s
                omega
              · exact hg i g0 (by omega)) (by omega)
          · intro (i5 : ¬ ((0 ≤ p ∧ p < (M 30 1)) ∧ 48 ≤ M 31 p ∧ M 31 p ≤ 57))
            show xa_C (xl_I b) A h0 _ 172 [(2, 30, 0, 0, 0), (0, 0, 0, 4, p)] M _
            refine cg_172 (show 0 ≤ (M 30 1) ∧ (M 30 1) ≤ 80 by omega) ?_ ?_
            · intro (i6 : (0 ≤ p ∧ p < (M 30 1)) ∧ M 31 p = 63)
              show Q 3 [(4, (0, 0, 1, 5, p + 1)), (5, (0, 0, 1, 1, 1)), (2, (0, 0, 0, 1, x2)), (0, (2, 50, 0, 0, 0)), (1, (2, 30, 0, 0, 0)), (3, (2, 48, 0, 0, 0))] [] M
              refine hgo.2.1 3 _ [(4, (0, 0, 0, 4, p + 1)), (2, (0, 0, 0, 1, x2)), (0, (2, 50, 0, 0, 0)), (1, (2, 30, 0, 0, 0)), (3, (2, 48, 0, 0, 0))] _ _ (xa_subI rfl rfl (fun _ _ _ _ => by omega) (xa_subI rfl rfl (fun _ _ _ _ => by omega) (xa_subR rfl (xa_subR rfl (xa_subR rfl (xa_sub0)))))) ?_
              exact ih (p + 1) (by omega) (by omega) (fun i g0 g1 => by
                by_cases e : i = p
                · rw [e]
                  have t9 := hT p (by omega) (by omega)
                  unfold wd_s
                  omega
                · exact hg i g0 (by omega)) (by omega)
            · intro (i7 : ¬ ((0 ≤ p ∧ p < (M 30 1)) ∧ M 31 p = 63))
              show xa_wk post (some (0, 0, (-104), (-100), (-100) - p)) M
              have t9 := hT p (by omega) (by omega)
              exact xa_wkI _ rfl (fun _ _ => by omega) (k _ _ (Or.inl ⟨p, by omega, by omega, by omega, by unfold wd_s; omega, hg, by omega⟩) (fun _ _ _ _ => rfl) (by unfold rz_c; omega))
  refine hgo.1 7 [3] 0 _ _ _ ?_
  show Q 3 [(4, (0, 0, 0, 0, 0)), (0, (2, 50, 0, 0, 0)), (1, (2, 30, 0, 0, 0)), (2, (0, 0, 0, 1, x2)), (3, (2, 48, 0, 0, 0))] [] M
  refine hgo.2.1 3 _ [(4, (0, 0, 0, 4, 0)), (2, (0, 0, 0, 1, x2)), (0, (2, 50, 0, 0, 0)), (1, (2, 30, 0, 0, 0)), (3, (2, 48, 0, 0, 0))] _ _ (xa_subI rfl rfl (fun _ _ _ _ => by omega) (xa_subI rfl rfl (fun _ _ _ _ => by omega) (xa_subR rfl (xa_subR rfl (xa_subR rfl (xa_sub0)))))) ?_
  exact loop1 5 0 (by omega) (by omega) (fun i g0 g1 => by omega) (by omega)
theorem rx_170_50 {A : Nat → Nat} {h0 : g_H} {d : Nat} {M : xa_M} {post : Option xa_V → xa_M → Prop} {T : Int → Int} {l1 u1 x1 : Int} (hT : (∀ i, 0 ≤ i → i < 80 → M 31 i = T i)) (hB : ∀ i, 0 ≤ T i ∧ T i ≤ 255) (hz : 0 ≤ M 30 1 ∧ M 30 1 ≤ 80) (hp : 0 ≤ M 50 4 ∧ M 50 4 ≤ 8) (hU : ∀ i, 0 ≤ i → i < M 50 4 → (0 ≤ M 51 i ∧ M 51 i ≤ 2000) ∧ (0 ≤ M 52 i ∧ M 52 i ≤ 2000)) (k : ∀ (r : Int) (M1 : xa_M), wd_W x1 (wd_A T (M 30 1) (wd_P T (M 30 1) x1 (M 52) (M 51)) (M 50 4).toNat r) r → M1 30 1 = 0 → (∀ q j, ¬ q = 48 → ¬ q = 49 → ¬ (q = 30 ∧ j = 1) → ¬ (q = 60 ∧ j = 21) → M1 q j = M q j) → rz_c (0 ≤ r) (M 48 1) (M1 48 1) 1 → post (some (0, 0, (-2147483648), 2147483647, r)) M1) : xa_C (xl_I false) A h0 (d + 6) 170 [(2, 0, 0, 0, 0), (0, 0, l1, u1, x1)] M post := by
  refine xa_C_wk ?_
  refine xa_C_arg [(2, 0, 0, 0, 0), (0, 0, (-2147483648), 2147483647, x1)] (xa_svR (xa_svI (fun _ _ _ _ => by omega) xa_sv0)) ?_
  refine xa_meth (Q0 := (3, 1, false, 0, 0, 11)) (by decide +kernel) ⟨rfl, rfl⟩ (full := s_c_170) rfl rfl ?_
  intro hM hv Q hgo
  refine hgo.1 25 [] 0 _ _ _ ?_
  refine And.intro ?_ ?_
  · intro (c1 : x1 < 0)
    show xa_C (xl_I false) A h0 _ 113 [(2, 30, 0, 0, 0), (0, 0, 0, 0, 0)] M _
    refine cx_113f ?_
    intro n126 M127 (i2 : lt_E M 30 1 (M 30 1) 0 n126 M127)
    show xa_wk post (some (0, 0, (-1), (-1), (-1))) M127
    have z30 : 0 ≤ M 30 1 := hz.1
    obtain ⟨h4, h5⟩ := le_cut z30 i2
    exact xa_wkI (-1) rfl (fun _ _ => by omega) (k _ _ (Or.inl ⟨by omega, rfl⟩) h4 (fun q j h1 h2 h3 h6 => (h5 q j h3 h6).trans rfl) (by have z := h5 48 1 (by omega) (by omega); unfold rz_c; omega))
  · intro (c1 : 0 ≤ x1)
    refine And.intro ?_ ?_
    · intro (c3 : x1 ≤ 1)
      show xa_C (xl_I false) A h0 _ 171 [(2, 50, 0, 0, 0), (2, 30, 0, 0, 0), (0, 0, (-2147483648), 2147483647, x1), (2, 48, 0, 0, 0)] M _
      refine rz_171_50 hT hB hz hp hU (by omega) ?_
      intro r128 M129 (i4 : wd_A T (M 30 1) (wd_P T (M 30 1) x1 (M 52) (M 51)) (M 50 4).toNat r128) (i5 : ∀ q j, ¬ q = 48 → ¬ q = 49 → M129 q j = M q j) (z9 : rz_c (0 ≤ r128) (M 48 1) (M129 48 1) 1)
      show xa_C (xl_I false) A h0 _ 113 [(2, 30, 0, 0, 0), (0, 0, 0, 0, 0)] M129 _
      refine cx_113f ?_
      intro n130 M131 (i6 : lt_E M129 30 1 (M129 30 1) 0 n130 M131)
      show xa_wk post (some (0, 0, (-2147483648), 2147483647, r128)) M131
      have z30 : 0 ≤ M129 30 1 := by rw [i5 30 1 (by decide) (by decide)]; exact hz.1
      obtain ⟨h4, h5⟩ := le_cut z30 i6
      exact xa_wkI _ rfl (fun _ _ => by omega) (k _ _ (Or.inr ⟨by omega, i4⟩) h4 (fun q j h1 h2 h3 h6 => (h5 q j h3 h6).trans (i5 q j h1 h2)) (by rw [h5 48 1 (by omega) (by omega)]; exact z9))
    · intro (c3 : 1 < x1)
      show xa_C (xl_I false) A h0 _ 113 [(2, 30, 0, 0, 0), (0, 0, 0, 0, 0)] M _
      refine cx_113f ?_
      intro n132 M133 (i7 : lt_E M 30 1 (M 30 1) 0 n132 M133)
      show xa_wk post (some (0, 0, (-1), (-1), (-1))) M133
      have z30 : 0 ≤ M 30 1 := hz.1
      obtain ⟨h4, h5⟩ := le_cut z30 i7
      exact xa_wkI (-1) rfl (fun _ _ => by omega) (k _ _ (Or.inl ⟨by omega, rfl⟩) h4 (fun q j h1 h2 h3 h6 => (h5 q j h3 h6).trans rfl) (by have z := h5 48 1 (by omega) (by omega); unfold rz_c; omega))
theorem rz_171_55 {b : Bool} {A : Nat → Nat} {h0 : g_H} {d : Nat} {M : xa_M} {post : Option xa_V → xa_M → Prop} {T : Int → Int} {l1 u1 x2 : Int} (hT : (∀ i, 0 ≤ i → i < 80 → M 31 i = T i)) (hB : ∀ i, 0 ≤ T i ∧ T i ≤ 255) (hz : 0 ≤ M 30 1 ∧ M 30 1 ≤ 80) (hp : 0 ≤ M 55 4 ∧ M 55 4 ≤ 8) (hU : ∀ i, 0 ≤ i → i < M 55 4 → (0 ≤ M 56 i ∧ M 56 i ≤ 2000) ∧ (0 ≤ M 57 i ∧ M 57 i ≤ 2000)) (hx : 0 ≤ x2 ∧ x2 ≤ 1) (k : ∀ (r : Int) (M1 : xa_M), wd_A T (M 30 1) (wd_P T (M 30 1) x2 (M 57) (M 56)) (M 55 4).toNat r → (∀ q j, ¬ q = 48 → ¬ q = 49 → M1 q j = M q j) → rz_c (0 ≤ r) (M 48 1) (M1 48 1) 1 → post (some (0, 0, (-2147483648), 2147483647, r)) M1) : xa_C (xl_I b) A h0 (d + 5) 171 [(2, 55, 0, 0, 0), (2, 30, 0, 0, 0), (0, 0, l1, u1, x2), (2, 48, 0, 0, 0)] M post := by
  refine xa_C_wk ?_
  refine xa_C_arg [(2, 55, 0, 0, 0), (2, 30, 0, 0, 0), (0, 0, 0, 1, x2), (2, 48, 0, 0, 0)] (xa_svR (xa_svR (xa_svI (fun _ _ _ _ => by omega) (xa_svR xa_sv0)))) ?_
  refine xa_meth (Q0 := (7, 1, false, 0, 0, 0)) (by decide +kernel) ⟨rfl, rfl⟩ (full := s_c_171) rfl rfl ?_
  intro hM hv Q hgo
  have loop3 : (∀ i, 0 ≤ i → i < M 30 1 → i < 4 → wd_s (T i)) → (1 ≤ M 30 1 ∧ M 30 1 ≤ 4) → ∀ (f : Nat) (bb al n : Int), 1 ≤ n ∧ n ≤ 2001 → 0 ≤ al ∧ al < n → bb = wd_b (wd_P T (M 30 1) x2 (M 57) (M 56)) (M 55 4).toNat → 2001 - n < (f : Int) → Q 142 [(4, (0, 0, (-2147483648), 2147483647, bb)), (5, (0, 0, 0, 2000, al)), (6, (0, 0, 1, 2001, n)), (2, (0, 0, 0, 1, x2)), (0, (2, 55, 0, 0, 0)), (1, (2, 30, 0, 0, 0)), (3, (2, 48, 0, 0, 0))] [] M := by
    intro hg hs f
    induction f with
    | zero => intro bb al n n1 a1 hb hms; omega
    | succ f ih =>
      intro bb al n n1 a1 hb hms
      refine hgo.1 19 [3, 76, 142] 142 _ _ _ ?_
      refine And.intro ?_ ?_
      · intro (c1 : 2000 < n)
        show xa_C (xl_I b) A h0 _ 59 [(2, 48, 0, 0, 0)] M _
        refine cx_59_48 ?_
        show xa_C (xl_I b) A h0 _ 60 [(2, 48, 0, 0, 0), (1, 0, 0, 2000, al)] (xa_up M 48 1 0) _
        refine cx_60_48 (by show (0 : Int) ≤ 0; omega) ?_ ?_
        · intro (i2 : 16 ≤ 0)
          exfalso
          omega
        · intro (i3 : 0 < 16)
          show xa_wk post (some (0, 0, (-2147483648), 2147483647, bb)) (xa_up (xa_up (xa_up M 48 1 0) 49 0 al) 48 1 (xa_w32 (0 + 1)))
          exact xa_wkI bb rfl (fun _ _ => by omega) (k _ _ (Or.inr ⟨hg, Or.inr (Or.inr ⟨hs.1, hs.2, hb⟩)⟩) (fun q j h1 h2 => by
            first
              | exact (xa_up_ne (by omega)).trans ((xa_up_ne (by omega)).trans (xa_up_ne (by omega)))
              | simp [xa_up, h1, h2]) (Or.inl ⟨by rw [hb]; exact rz_wn _ (by omega), by show xa_w32 (0 + 1) = 1; decide⟩))
      · intro (c1 : n ≤ 2000)
        show xa_C (xl_I b) A h0 _ 173 [(2, 30, 0, 0, 0), (0, 0, 1, 2001, n)] M _
        refine cx_173f (by first | exact hT | exact hT1) hB (by omega) (by first | omega | exact hn8 _ (by omega) (by omega)) ?_ ?_
        · intro (i4 : wd_m T (M 30 1).toNat n)
          show Q 142 [(6, (0, 0, 2, 2002, n + 1)), (5, (0, 0, 1, 2001, al + 1)), (4, (0, 0, (-2147483648), 2147483647, bb)), (2, (0, 0, 0, 1, x2)), (0, (2, 55, 0, 0, 0)), (1, (2, 30, 0, 0, 0)), (3, (2, 48, 0, 0, 0))] [] M
          refine hgo.2.1 142 _ [(4, (0, 0, (-2147483648), 2147483647, bb)), (5, (0, 0, 0, 2000, al + 1)), (6, (0, 0, 1, 2001, n + 1)), (2, (0, 0, 0, 1, x2)), (0, (2, 55, 0, 0, 0)), (1, (2, 30, 0, 0, 0)), (3, (2, 48, 0, 0, 0))] _ _ (xa_subI rfl rfl (fun _ _ _ _ => by omega) (xa_subI rfl rfl (fun _ _ _ _ => by omega) (xa_subI rfl rfl (fun _ _ _ _ => by omega) (xa_subI rfl rfl (fun _ _ _ _ => by omega) (xa_subR rfl (xa_subR rfl (xa_subR rfl (xa_sub0)))))))) ?_
          exact ih bb (al + 1) (n + 1) (by omega) (by omega) hb (by omega)
        · intro (i5 : ¬ wd_m T (M 30 1).toNat n)
          show Q 142 [(6, (0, 0, 2, 2002, n + 1)), (5, (0, 0, 0, 2000, al + 0)), (4, (0, 0, (-2147483648), 2147483647, bb)), (2, (0, 0, 0, 1, x2)), (0, (2, 55, 0, 0, 0)), (1, (2, 30, 0, 0, 0)), (3, (2, 48, 0, 0, 0))] [] M
          refine hgo.2.1 142 _ [(4, (0, 0, (-2147483648), 2147483647, bb)), (5, (0, 0, 0, 2000, al + 0)), (6, (0, 0, 1, 2001, n + 1)), (2, (0, 0, 0, 1, x2)), (0, (2, 55, 0, 0, 0)), (1, (2, 30, 0, 0, 0)), (3, (2, 48, 0, 0, 0))] _ _ (xa_subI rfl rfl (fun _ _ _ _ => by omega) (xa_subI rfl rfl (fun _ _ _ _ => by omega) (xa_subI rfl rfl (fun _ _ _ _ => by omega) (xa_subI rfl rfl (fun _ _ _ _ => by omega) (xa_subR rfl (xa_subR rfl (xa_subR rfl (xa_sub0)))))))) ?_
          exact ih bb (al + 0) (n + 1) (by omega) (by omega) hb (by omega)
  have loop2 : (∀ i, 0 ≤ i → i < M 30 1 → i < 4 → wd_s (T i)) → (1 ≤ M 30 1 ∧ M 30 1 ≤ 4) → ∀ (f : Nat) (bb p : Int), 0 ≤ p ∧ p ≤ M 55 4 → p ≤ 8 → bb = wd_b (wd_P T (M 30 1) x2 (M 57) (M 56)) p.toNat → 8 - p < (f : Int) → Q 76 [(4, (0, 0, (-2147483648), 2147483647, bb)), (5, (0, 0, 0, 8, p)), (2, (0, 0, 0, 1, x2)), (0, (2, 55, 0, 0, 0)), (1, (2, 30, 0, 0, 0)), (3, (2, 48, 0, 0, 0))] [] M := by
    intro hg hs f
    induction f with
    | zero => intro bb p p1 p2 hb hms; omega
    | succ f ih =>
      intro bb p p1 p2 hb hms
      have hn8 := hU p
      have hr := wd_b_r (P := (wd_P T (M 30 1) x2 (M 57) (M 56))) p.toNat
      rw [← hb] at hr
      refine hgo.1 28 [3, 76, 142] 76 _ _ _ ?_
      refine And.intro ?_ ?_
      · intro (c1 : (M 55 4) ≤ p)
        show Q 142 [(6, (0, 0, 1, 1, 1)), (5, (0, 0, 0, 0, 0)), (4, (0, 0, (-2147483648), 2147483647, bb)), (2, (0, 0, 0, 1, x2)), (0, (2, 55, 0, 0, 0)), (1, (2, 30, 0, 0, 0)), (3, (2, 48, 0, 0, 0))] [] M
        refine hgo.2.1 142 _ [(4, (0, 0, (-2147483648), 2147483647, bb)), (5, (0, 0, 0, 2000, 0)), (6, (0, 0, 1, 2001, 1)), (2, (0, 0, 0, 1, x2)), (0, (2, 55, 0, 0, 0)), (1, (2, 30, 0, 0, 0)), (3, (2, 48, 0, 0, 0))] _ _ (xa_subI rfl rfl (fun _ _ _ _ => by omega) (xa_subI rfl rfl (fun _ _ _ _ => by omega) (xa_subI rfl rfl (fun _ _ _ _ => by omega) (xa_subI rfl rfl (fun _ _ _ _ => by omega) (xa_subR rfl (xa_subR rfl (xa_subR rfl (xa_sub0)))))))) ?_
        exact loop3 hg hs 2001 bb 0 1 (by omega) (by omega) (by rw [hb, show p = M 55 4 by omega]) (by omega)
      · intro (c1 : p < (M 55 4))
        refine And.intro ?_ ?_
        · intro (c2 : ¬ x2 = 0)
          show xa_C (xl_I b) A h0 _ 23 [(2, 56, 0, 0, 0), (0, 0, 0, 8, p)] M _
          refine cx_23_56 (show 0 ≤ p ∧ p < 8 by omega) ?_
          show xa_C (xl_I b) A h0 _ 173 [(2, 30, 0, 0, 0), (0, 0, (-2147483648), 2147483647, M 56 p)] M _
          refine cx_173f (by first | exact hT | exact hT1) hB (by omega) (by first | omega | exact hn8 _ (by omega) (by omega)) ?_ ?_
          · intro (i3 : wd_m T (M 30 1).toNat (M 56 p))
            show Q 76 [(5, (0, 0, 1, 9, p + 1)), (4, (0, 0, (-2147483648), 2147483647, xa_ib 4 bb (xa_ib 6 1 p))), (2, (0, 0, 0, 1, x2)), (0, (2, 55, 0, 0, 0)), (1, (2, 30, 0, 0, 0)), (3, (2, 48, 0, 0, 0))] [] M
            have ei : ((p.toNat : Nat) : Int) = p := Int.toNat_of_nonneg (by omega)
            have f9 : (wd_P T (M 30 1) x2 (M 57) (M 56)) ((p.toNat : Nat) : Int) := by
              rw [ei]
              exact (wd_P1 (by omega)).mpr i3
            have eb : xa_ib 4 bb (xa_ib 6 1 p) = wd_b (wd_P T (M 30 1) x2 (M 57) (M 56)) (p + 1).toNat := by
              rw [show (p + 1).toNat = p.toNat + 1 by omega, wd_b1 f9, ← hb, ei]
            refine hgo.2.1 76 _ [(4, (0, 0, (-2147483648), 2147483647, xa_ib 4 bb (xa_ib 6 1 p))), (5, (0, 0, 0, 8, p + 1)), (2, (0, 0, 0, 1, x2)), (0, (2, 55, 0, 0, 0)), (1, (2, 30, 0, 0, 0)), (3, (2, 48, 0, 0, 0))] _ _ (xa_subI rfl rfl (fun _ _ _ _ => by omega) (xa_subI rfl rfl (fun _ _ _ _ => by omega) (xa_subI rfl rfl (fun _ _ _ _ => by omega) (xa_subR rfl (xa_subR rfl (xa_subR rfl (xa_sub0))))))) ?_
            exact ih _ (p + 1) (by omega) (by omega) eb (by omega)
          · intro (i4 : ¬ wd_m T (M 30 1).toNat (M 56 p))
            show Q 76 [(5, (0, 0, 1, 9, p + 1)), (4, (0, 0, (-2147483648), 2147483647, xa_ib 4 bb 0)), (2, (0, 0, 0, 1, x2)), (0, (2, 55, 0, 0, 0)), (1, (2, 30, 0, 0, 0)), (3, (2, 48, 0, 0, 0))] [] M
            have ei : ((p.toNat : Nat) : Int) = p := Int.toNat_of_nonneg (by omega)
            have f9 : ¬ (wd_P T (M 30 1) x2 (M 57) (M 56)) ((p.toNat : Nat) : Int) := by
              rw [ei]
              exact fun h => i4 ((wd_P1 (by omega)).mp h)
            have eb : xa_ib 4 bb 0 = wd_b (wd_P T (M 30 1) x2 (M 57) (M 56)) (p + 1).toNat := by
              rw [show (p + 1).toNat = p.toNat + 1 by omega, wd_b0 f9, ← hb, bk_or0 hr.1 hr.2]
            refine hgo.2.1 76 _ [(4, (0, 0, (-2147483648), 2147483647, xa_ib 4 bb 0)), (5, (0, 0, 0, 8, p + 1)), (2, (0, 0, 0, 1, x2)), (0, (2, 55, 0, 0, 0)), (1, (2, 30, 0, 0, 0)), (3, (2, 48, 0, 0, 0))] _ _ (xa_subI rfl rfl (fun _ _ _ _ => by omega) (xa_subI rfl rfl (fun _ _ _ _ => by omega) (xa_subI rfl rfl (fun _ _ _ _ => by omega) (xa_subR rfl (xa_subR rfl (xa_subR rfl (xa_sub0))))))) ?_
            exact ih _ (p + 1) (by omega) (by omega) eb (by omega)
        · intro (c2 : x2 = 0)
          show xa_C (xl_I b) A h0 _ 23 [(2, 57, 0, 0, 0), (0, 0, 0, 8, p)] M _
          refine cx_23_57 (show 0 ≤ p ∧ p < 8 by omega) ?_
          show xa_C (xl_I b) A h0 _ 173 [(2, 30, 0, 0, 0), (0, 0, (-2147483648), 2147483647, M 57 p)] M _
          refine cx_173f (by first | exact hT | exact hT1) hB (by omega) (by first | omega | exact hn8 _ (by omega) (by omega)) ?_ ?_
          · intro (i5 : wd_m T (M 30 1).toNat (M 57 p))
            show Q 76 [(5, (0, 0, 1, 9, p + 1)), (4, (0, 0, (-2147483648), 2147483647, xa_ib 4 bb (xa_ib 6 1 p))), (2, (0, 0, 0, 1, x2)), (0, (2, 55, 0, 0, 0)), (1, (2, 30, 0, 0, 0)), (3, (2, 48, 0, 0, 0))] [] M
            have ei : ((p.toNat : Nat) : Int) = p := Int.toNat_of_nonneg (by omega)
            have f9 : (wd_P T (M 30 1) x2 (M 57) (M 56)) ((p.toNat : Nat) : Int) := by
              rw [ei]
              exact (wd_P0 (by omega)).mpr i5
            have eb : xa_ib 4 bb (xa_ib 6 1 p) = wd_b (wd_P T (M 30 1) x2 (M 57) (M 56)) (p + 1).toNat := by
              rw [show (p + 1).toNat = p.toNat + 1 by omega, wd_b1 f9, ← hb, ei]
            refine hgo.2.1 76 _ [(4, (0, 0, (-2147483648), 2147483647, xa_ib 4 bb (xa_ib 6 1 p))), (5, (0, 0, 0, 8, p + 1)), (2, (0, 0, 0, 1, x2)), (0, (2, 55, 0, 0, 0)), (1, (2, 30, 0, 0, 0)), (3, (2, 48, 0, 0, 0))] _ _ (xa_subI rfl rfl (fun _ _ _ _ => by omega) (xa_subI rfl rfl (fun _ _ _ _ => by omega) (xa_subI rfl rfl (fun _ _ _ _ => by omega) (xa_subR rfl (xa_subR rfl (xa_subR rfl (xa_sub0))))))) ?_
            exact ih _ (p + 1) (by omega) (by omega) eb (by omega)
          · intro (i6 : ¬ wd_m T (M 30 1).toNat (M 57 p))
            show Q 76 [(5, (0, 0, 1, 9, p + 1)), (4, (0, 0, (-2147483648), 2147483647, xa_ib 4 bb 0)), (2, (0, 0, 0, 1, x2)), (0, (2, 55, 0, 0, 0)), (1, (2, 30, 0, 0, 0)), (3, (2, 48, 0, 0, 0))] [] M
            have ei : ((p.toNat : Nat) : Int) = p := Int.toNat_of_nonneg (by omega)
            have f9 : ¬ (wd_P T (M 30 1) x2 (M 57) (M 56)) ((p.toNat : Nat) : Int) := by
              rw [ei]
              exact fun h => i6 ((wd_P0 (by omega)).mp h)
            have eb : xa_ib 4 bb 0 = wd_b (wd_P T (M 30 1) x2 (M 57) (M 56)) (p + 1).toNat := by
              rw [show (p + 1).toNat = p.toNat + 1 by omega, wd_b0 f9, ← hb, bk_or0 hr.1 hr.2]
            refine hgo.2.1 76 _ [(4, (0, 0, (-2147483648), 2147483647, xa_ib 4 bb 0)), (5, (0, 0, 0, 8, p + 1)), (2, (0, 0, 0, 1, x2)), (0, (2, 55, 0, 0, 0)), (1, (2, 30, 0, 0, 0)), (3, (2, 48, 0, 0, 0))] _ _ (xa_subI rfl rfl (fun _ _ _ _ => by omega) (xa_subI rfl rfl (fun _ _ _ _ => by omega) (xa_subI rfl rfl (fun _ _ _ _ => by omega) (xa_subR rfl (xa_subR rfl (xa_subR rfl (xa_sub0))))))) ?_
            exact ih _ (p + 1) (by omega) (by omega) eb (by omega)
  have loop1 : ∀ (f : Nat) (p : Int), 0 ≤ p ∧ p ≤ 4 → p ≤ M 30 1 → (∀ i, 0 ≤ i → i < p → wd_s (T i)) → 4 - p < (f : Int) → Q 3 [(4, (0, 0, 0, 4, p)), (2, (0, 0, 0, 1, x2)), (0, (2, 55, 0, 0, 0)), (1, (2, 30, 0, 0, 0)), (3, (2, 48, 0, 0, 0))] [] M := by
    intro f
    induction f with
    | zero => intro p p1 p2 hg hms; omega
    | succ f ih =>
      intro p p1 p2 hg hms
      refine hgo.1 27 [3, 76, 142] 3 _ _ _ ?_
      refine And.intro ?_ ?_
      · intro (c1 : (M 30 1) ≤ p)
        refine And.intro ?_ ?_
        · intro (c2 : ¬ (M 30 1) = 0)
          show Q 76 [(5, (0, 0, 0, 0, 0)), (4, (0, 0, 0, 0, 0)), (2, (0, 0, 0, 1, x2)), (0, (2, 55, 0, 0, 0)), (1, (2, 30, 0, 0, 0)), (3, (2, 48, 0, 0, 0))] [] M
          refine hgo.2.1 76 _ [(4, (0, 0, (-2147483648), 2147483647, 0)), (5, (0, 0, 0, 8, 0)), (2, (0, 0, 0, 1, x2)), (0, (2, 55, 0, 0, 0)), (1, (2, 30, 0, 0, 0)), (3, (2, 48, 0, 0, 0))] _ _ (xa_subI rfl rfl (fun _ _ _ _ => by omega) (xa_subI rfl rfl (fun _ _ _ _ => by omega) (xa_subI rfl rfl (fun _ _ _ _ => by omega) (xa_subR rfl (xa_subR rfl (xa_subR rfl (xa_sub0))))))) ?_
          exact loop2 (fun i g0 g1 g2 => hg i g0 (by omega)) (by omega) 9 0 0 (by omega) (by omega) rfl (by omega)
        · intro (c2 : (M 30 1) = 0)
          show xa_wk post (some (0, 0, (-100), (-100), (-100))) M
          exact xa_wkI (-100) rfl (fun _ _ => by omega) (k _ _ (Or.inr ⟨fun i g0 g1 g2 => hg i g0 (by omega), Or.inl ⟨by omega, rfl⟩⟩) (fun _ _ _ _ => rfl) (by unfold rz_c; omega))
      · intro (c1 : p < (M 30 1))
        refine And.intro ?_ ?_
        · intro (c3 : 4 ≤ p)
          show xa_wk post (some (0, 0, (-104), (-100), (-100) - p)) M
          exact xa_wkI _ rfl (fun _ _ => by omega) (k _ _ (Or.inr ⟨fun i g0 g1 g2 => hg i g0 (by omega), Or.inr (Or.inl ⟨by omega, by omega⟩)⟩) (fun _ _ _ _ => rfl) (by unfold rz_c; omega))
        · intro (c3 : p < 4)
          show xa_C (xl_I b) A h0 _ 118 [(2, 30, 0, 0, 0), (0, 0, 0, 4, p)] M _
          refine cg_118 (show 0 ≤ (M 30 1) ∧ (M 30 1) ≤ 80 by omega) ?_ ?_
          · intro (i4 : (0 ≤ p ∧ p < (M 30 1)) ∧ 48 ≤ M 31 p ∧ M 31 p ≤ 57)
            show Q 3 [(4, (0, 0, 1, 5, p + 1)), (5, (0, 0, 1, 1, 1)), (2, (0, 0, 0, 1, x2)), (0, (2, 55, 0, 0, 0)), (1, (2, 30, 0, 0, 0)), (3, (2, 48, 0, 0, 0))] [] M
            refine hgo.2.1 3 _ [(4, (0, 0, 0, 4, p + 1)), (2, (0, 0, 0, 1, x2)), (0, (2, 55, 0, 0, 0)), (1, (2, 30, 0, 0, 0)), (3, (2, 48, 0, 0, 0))] _ _ (xa_subI rfl rfl (fun _ _ _ _ => by omega) (xa_subI rfl rfl (fun _ _ _ _ => by omega) (xa_subR rfl (xa_subR rfl (xa_subR rfl (xa_sub0)))))) ?_
            exact ih (p + 1) (by omega) (by omega) (fun i g0 g1 => by
              by_cases e : i = p
              · rw [e]
                have t9 := hT p (by omega) (by omega)
                unfold wd_s
                omega
              · exact hg i g0 (by omega)) (by omega)
          · intro (i5 : ¬ ((0 ≤ p ∧ p < (M 30 1)) ∧ 48 ≤ M 31 p ∧ M 31 p ≤ 57))
            show xa_C (xl_I b) A h0 _ 172 [(2, 30, 0, 0, 0), (0, 0, 0, 4, p)] M _
            refine cg_172 (show 0 ≤ (M 30 1) ∧ (M 30 1) ≤ 80 by omega) ?_ ?_
            · intro (i6 : (0 ≤ p ∧ p < (M 30 1)) ∧ M 31 p = 63)
              show Q 3 [(4, (0, 0, 1, 5, p + 1)), (5, (0, 0, 1, 1, 1)), (2, (0, 0, 0, 1, x2)), (0, (2, 55, 0, 0, 0)), (1, (2, 30, 0, 0, 0)), (3, (2, 48, 0, 0, 0))] [] M
              refine hgo.2.1 3 _ [(4, (0, 0, 0, 4, p + 1)), (2, (0, 0, 0, 1, x2)), (0, (2, 55, 0, 0, 0)), (1, (2, 30, 0, 0, 0)), (3, (2, 48, 0, 0, 0))] _ _ (xa_subI rfl rfl (fun _ _ _ _ => by omega) (xa_subI rfl rfl (fun _ _ _ _ => by omega) (xa_subR rfl (xa_subR rfl (xa_subR rfl (xa_sub0)))))) ?_
              exact ih (p + 1) (by omega) (by omega) (fun i g0 g1 => by
                by_cases e : i = p
                · rw [e]
                  have t9 := hT p (by omega) (by omega)
                  unfold wd_s
                  omega
                · exact hg i g0 (by omega)) (by omega)
            · intro (i7 : ¬ ((0 ≤ p ∧ p < (M 30 1)) ∧ M 31 p = 63))
              show xa_wk post (some (0, 0, (-104), (-100), (-100) - p)) M
              have t9 := hT p (by omega) (by omega)
              exact xa_wkI _ rfl (fun _ _ => by omega) (k _ _ (Or.inl ⟨p, by omega, by omega, by omega, by unfold wd_s; omega, hg, by omega⟩) (fun _ _ _ _ => rfl) (by unfold rz_c; omega))
  refine hgo.1 7 [3] 0 _ _ _ ?_
  show Q 3 [(4, (0, 0, 0, 0, 0)), (0, (2, 55, 0, 0, 0)), (1, (2, 30, 0, 0, 0)), (2, (0, 0, 0, 1, x2)), (3, (2, 48, 0, 0, 0))] [] M
  refine hgo.2.1 3 _ [(4, (0, 0, 0, 4, 0)), (2, (0, 0, 0, 1, x2)), (0, (2, 55, 0, 0, 0)), (1, (2, 30, 0, 0, 0)), (3, (2, 48, 0, 0, 0))] _ _ (xa_subI rfl rfl (fun _ _ _ _ => by omega) (xa_subI rfl rfl (fun _ _ _ _ => by omega) (xa_subR rfl (xa_subR rfl (xa_subR rfl (xa_sub0)))))) ?_
  exact loop1 5 0 (by omega) (by omega) (fun i g0 g1 => by omega) (by omega)
theorem rx_170_55 {A : Nat → Nat} {h0 : g_H} {d : Nat} {M : xa_M} {post : Option xa_V → xa_M → Prop} {T : Int → Int} {l1 u1 x1 : Int} (hT : (∀ i, 0 ≤ i → i < 80 → M 31 i = T i)) (hB : ∀ i, 0 ≤ T i ∧ T i ≤ 255) (hz : 0 ≤ M 30 1 ∧ M 30 1 ≤ 80) (hp : 0 ≤ M 55 4 ∧ M 55 4 ≤ 8) (hU : ∀ i, 0 ≤ i → i < M 55 4 → (0 ≤ M 56 i ∧ M 56 i ≤ 2000) ∧ (0 ≤ M 57 i ∧ M 57 i ≤ 2000)) (k : ∀ (r : Int) (M1 : xa_M), wd_W x1 (wd_A T (M 30 1) (wd_P T (M 30 1) x1 (M 57) (M 56)) (M 55 4).toNat r) r → M1 30 1 = 0 → (∀ q j, ¬ q = 48 → ¬ q = 49 → ¬ (q = 30 ∧ j = 1) → ¬ (q = 60 ∧ j = 21) → M1 q j = M q j) → rz_c (0 ≤ r) (M 48 1) (M1 48 1) 1 → post (some (0, 0, (-2147483648), 2147483647, r)) M1) : xa_C (xl_I true) A h0 (d + 6) 170 [(2, 0, 0, 0, 0), (0, 0, l1, u1, x1)] M post := by
  refine xa_C_wk ?_
  refine xa_C_arg [(2, 0, 0, 0, 0), (0, 0, (-2147483648), 2147483647, x1)] (xa_svR (xa_svI (fun _ _ _ _ => by omega) xa_sv0)) ?_
  refine xa_meth (Q0 := (3, 1, false, 0, 0, 11)) (by decide +kernel) ⟨rfl, rfl⟩ (full := s_c_170) rfl rfl ?_
  intro hM hv Q hgo
  refine hgo.1 25 [] 0 _ _ _ ?_
  refine And.intro ?_ ?_
  · intro (c1 : x1 < 0)
    show xa_C (xl_I true) A h0 _ 113 [(2, 30, 0, 0, 0), (0, 0, 0, 0, 0)] M _
    refine cx_113f ?_
    intro n134 M135 (i2 : lt_E M 30 1 (M 30 1) 0 n134 M135)
    show xa_wk post (some (0, 0, (-1), (-1), (-1))) M135
    have z30 : 0 ≤ M 30 1 := hz.1
    obtain ⟨h4, h5⟩ := le_cut z30 i2
    exact xa_wkI (-1) rfl (fun _ _ => by omega) (k _ _ (Or.inl ⟨by omega, rfl⟩) h4 (fun q j h1 h2 h3 h6 => (h5 q j h3 h6).trans rfl) (by have z := h5 48 1 (by omega) (by omega); unfold rz_c; omega))
  · intro (c1 : 0 ≤ x1)
    refine And.intro ?_ ?_
    · intro (c3 : x1 ≤ 1)
      show xa_C (xl_I true) A h0 _ 171 [(2, 55, 0, 0, 0), (2, 30, 0, 0, 0), (0, 0, (-2147483648), 2147483647, x1), (2, 48, 0, 0, 0)] M _
      refine rz_171_55 hT hB hz hp hU (by omega) ?_
      intro r136 M137 (i4 : wd_A T (M 30 1) (wd_P T (M 30 1) x1 (M 57) (M 56)) (M 55 4).toNat r136) (i5 : ∀ q j, ¬ q = 48 → ¬ q = 49 → M137 q j = M q j) (z9 : rz_c (0 ≤ r136) (M 48 1) (M137 48 1) 1)
      show xa_C (xl_I true) A h0 _ 113 [(2, 30, 0, 0, 0), (0, 0, 0, 0, 0)] M137 _
      refine cx_113f ?_
      intro n138 M139 (i6 : lt_E M137 30 1 (M137 30 1) 0 n138 M139)
      show xa_wk post (some (0, 0, (-2147483648), 2147483647, r136)) M139
      have z30 : 0 ≤ M137 30 1 := by rw [i5 30 1 (by decide) (by decide)]; exact hz.1
      obtain ⟨h4, h5⟩ := le_cut z30 i6
      exact xa_wkI _ rfl (fun _ _ => by omega) (k _ _ (Or.inr ⟨by omega, i4⟩) h4 (fun q j h1 h2 h3 h6 => (h5 q j h3 h6).trans (i5 q j h1 h2)) (by rw [h5 48 1 (by omega) (by omega)]; exact z9))
    · intro (c3 : 1 < x1)
      show xa_C (xl_I true) A h0 _ 113 [(2, 30, 0, 0, 0), (0, 0, 0, 0, 0)] M _
      refine cx_113f ?_
      intro n140 M141 (i7 : lt_E M 30 1 (M 30 1) 0 n140 M141)
      show xa_wk post (some (0, 0, (-1), (-1), (-1))) M141
      have z30 : 0 ≤ M 30 1 := hz.1
      obtain ⟨h4, h5⟩ := le_cut z30 i7
      exact xa_wkI (-1) rfl (fun _ _ => by omega) (k _ _ (Or.inl ⟨by omega, rfl⟩) h4 (fun q j h1 h2 h3 h6 => (h5 q j h3 h6).trans rfl) (by have z := h5 48 1 (by omega) (by omega); unfold rz_c; omega))
theorem rx_170 {b : Bool} {A : Nat → Nat} {h0 : g_H} {d : Nat} {M : xa_M} {post : Option xa_V → xa_M → Prop} {T : Int → Int} {l1 u1 x1 : Int} (hT : (∀ i, 0 ≤ i → i < 80 → M 31 i = T i)) (hB : ∀ i, 0 ≤ T i ∧ T i ≤ 255) (hz : 0 ≤ M 30 1 ∧ M 30 1 ≤ 80) (hp : 0 ≤ M (bk_p b) 4 ∧ M (bk_p b) 4 ≤ 8) (hU : ∀ i, 0 ≤ i → i < M (bk_p b) 4 → (0 ≤ M (bk_p b + 1) i ∧ M (bk_p b + 1) i ≤ 2000) ∧ (0 ≤ M (bk_p b + 2) i ∧ M (bk_p b + 2) i ≤ 2000)) (k : ∀ (r : Int) (M1 : xa_M), wd_W x1 (wd_A T (M 30 1) (wd_P T (M 30 1) x1 (M (bk_p b + 2)) (M (bk_p b + 1))) (M (bk_p b) 4).toNat r) r → M1 30 1 = 0 → (∀ q j, ¬ q = 48 → ¬ q = 49 → ¬ (q = 30 ∧ j = 1) → ¬ (q = 60 ∧ j = 21) → M1 q j = M q j) → rz_c (0 ≤ r) (M 48 1) (M1 48 1) 1 → post (some (0, 0, (-2147483648), 2147483647, r)) M1) : xa_C (xl_I b) A h0 (d + 6) 170 [(2, 0, 0, 0, 0), (0, 0, l1, u1, x1)] M post := by
  cases b
  · exact rx_170_50 hT hB hz hp hU k
  · exact rx_170_55 hT hB hz hp hU k
theorem rm_word {A : Nat → Nat} {h0 : g_H} {d : Nat} {M : xa_M} {post : Option xa_V → xa_M → Prop} {T : Int → Int} {l1 u1 x1 : Int} (hT : ∀ i, 0 ≤ i → i < 80 → T i = M 73 i % 256) (k : ∀ (r : Int) (M1 : xa_M), wd_W x1 (wd_A T (M 60 18) (wd_P T (M 60 18) x1 (M 71) (M 70)) (M 60 11).toNat r) r → xm_cor (xa_up (xa_up M 60 21 0) 60 18 0) M1 → rz_c (0 ≤ r) (M 60 20) (M1 60 20) 1 → post (some (0, 0, (-2147483648), 2147483647, r)) M1) : xa_C xm_I A h0 (d + 2) 279 [(2, 60, 0, 0, 0), (0, 0, l1, u1, x1)] M post := by
  refine xa_C_wk ?_
  refine xa_C_arg [(2, 60, 0, 0, 0), (0, 0, (-2147483648), 2147483647, x1)] (xa_svR (xa_svI (fun _ _ _ _ => by omega) xa_sv0)) ?_
  refine xa_meth (Q0 := (6, 1, false, 0, 0, 12)) (by decide +kernel) ⟨rfl, rfl⟩ (full := s_c_279) rfl rfl ?_
  intro hM hv Q hgo
  have b18 := xm_f18 hM
  have b11 := xm_f11 hM
  have loop3 : (0 ≤ x1 ∧ x1 ≤ 1) → ∀ (M1 : xa_M), xm_cor (xa_up (xa_up M 60 21 0) 60 18 0) M1 → M1 60 20 = M 60 20 → ∀ (sz : Int), sz = M 60 18 → (∀ i, 0 ≤ i → i < sz → i < 4 → wd_s (T i)) → (1 ≤ sz ∧ sz ≤ 4) → ∀ (f : Nat) (bb al n : Int), 1 ≤ n ∧ n ≤ 2001 → 0 ≤ al ∧ al < n → bb = wd_b (wd_P T (M 60 18) x1 (M 71) (M 70)) (M 60 11).toNat → 2001 - n < (f : Int) → Q 153 [(5, (0, 0, 1, 2001, n)), (4, (0, 0, 0, 2000, al)), (3, (0, 0, (-2147483648), 2147483647, bb)), (2, (0, 0, 1, 4, sz)), (0, (2, 60, 0, 0, 0))] [] M1 := by
    intro hx M1 hc0 h20 sz hs9 hg hs f
    have h73 : ∀ i, M1 73 i = M 73 i := fun i => (hc0 73 i (by unfold xm_scr; omega)).trans ((xa_up_ne (by omega)).trans (xa_up_ne (by omega)))
    have k70 : ∀ i, M1 70 i = M 70 i := fun i => (hc0 70 i (by unfold xm_scr; omega)).trans ((xa_up_ne (by omega)).trans (xa_up_ne (by omega)))
    have k71 : ∀ i, M1 71 i = M 71 i := fun i => (hc0 71 i (by unfold xm_scr; omega)).trans ((xa_up_ne (by omega)).trans (xa_up_ne (by omega)))
    have e11 : M1 60 11 = M 60 11 := (hc0 60 11 (by unfold xm_scr; omega)).trans ((xa_up_ne (by omega)).trans (xa_up_ne (by omega)))
    have hT1 : ∀ i, 0 ≤ i → i < 80 → T i = M1 73 i % 256 := fun i i0 i1 => by rw [h73 i]; exact hT i i0 i1
    induction f with
    | zero => intro bb al n n1 a1 hb hms; omega
    | succ f ih =>
      intro bb al n n1 a1 hb hms
      refine hgo.1 20 [28, 96, 153] 153 _ _ _ ?_
      refine And.intro ?_ ?_
      · intro (c1 : 2000 < n)
        show xa_C xm_I A h0 _ 231 [(2, 60, 0, 0, 0), (1, 0, 0, 2000, al)] (xa_up M1 60 20 0) _
        refine ct_tell (n := 0) (by first | rfl | (simp [xa_up]; done) | omega) (by omega) (by omega) ?_
        show xa_wk post (some (0, 0, (-2147483648), 2147483647, bb)) (xa_up (xa_up (xa_up M1 60 20 0) 74 0 al) 60 20 1)
        exact xa_wkI bb rfl (fun _ _ => by omega) (k _ _ (Or.inr ⟨by omega, Or.inr ⟨by rw [← hs9]; exact hg, Or.inr (Or.inr ⟨by omega, by omega, hb⟩)⟩⟩) (xm_cor_u (by unfold xm_scr; omega) (xm_cor_u (by unfold xm_scr; omega) (xm_cor_u (by unfold xm_scr; omega) (hc0)))) (Or.inl ⟨by rw [hb]; exact rz_wn _ (by omega), xa_up_eq⟩))
      · intro (c1 : n ≤ 2000)
        show xa_C xm_I A h0 _ 280 [(2, 60, 0, 0, 0), (0, 0, 1, 2001, n), (0, 0, 1, 4, sz)] M1 _
        refine ct_isWordF hT1 (by first | omega | exact hn8) (by omega) ?_ ?_
        · intro (i2 : wd_m T (sz).toNat n)
          show Q 153 [(5, (0, 0, 2, 2002, n + 1)), (4, (0, 0, 1, 2001, al + 1)), (3, (0, 0, (-2147483648), 2147483647, bb)), (2, (0, 0, 1, 4, sz)), (0, (2, 60, 0, 0, 0))] [] M1
          refine hgo.2.1 153 _ [(5, (0, 0, 1, 2001, n + 1)), (4, (0, 0, 0, 2000, al + 1)), (3, (0, 0, (-2147483648), 2147483647, bb)), (2, (0, 0, 1, 4, sz)), (0, (2, 60, 0, 0, 0))] _ _ (xa_subI rfl rfl (fun _ _ _ _ => by omega) (xa_subI rfl rfl (fun _ _ _ _ => by omega) (xa_subI rfl rfl (fun _ _ _ _ => by omega) (xa_subI rfl rfl (fun _ _ _ _ => by omega) (xa_subR rfl (xa_sub0)))))) ?_
          exact ih bb (al + 1) (n + 1) (by omega) (by omega) hb (by omega)
        · intro (i3 : ¬ wd_m T (sz).toNat n)
          show Q 153 [(5, (0, 0, 2, 2002, n + 1)), (4, (0, 0, 0, 2000, al + 0)), (3, (0, 0, (-2147483648), 2147483647, bb)), (2, (0, 0, 1, 4, sz)), (0, (2, 60, 0, 0, 0))] [] M1
          refine hgo.2.1 153 _ [(5, (0, 0, 1, 2001, n + 1)), (4, (0, 0, 0, 2000, al + 0)), (3, (0, 0, (-2147483648), 2147483647, bb)), (2, (0, 0, 1, 4, sz)), (0, (2, 60, 0, 0, 0))] _ _ (xa_subI rfl rfl (fun _ _ _ _ => by omega) (xa_subI rfl rfl (fun _ _ _ _ => by omega) (xa_subI rfl rfl (fun _ _ _ _ => by omega) (xa_subI rfl rfl (fun _ _ _ _ => by omega) (xa_subR rfl (xa_sub0)))))) ?_
          exact ih bb (al + 0) (n + 1) (by omega) (by omega) hb (by omega)
  have loop2 : (0 ≤ x1 ∧ x1 ≤ 1) → ∀ (M1 : xa_M), xm_cor (xa_up (xa_up M 60 21 0) 60 18 0) M1 → M1 60 20 = M 60 20 → ∀ (sz : Int), sz = M 60 18 → (∀ i, 0 ≤ i → i < sz → i < 4 → wd_s (T i)) → (1 ≤ sz ∧ sz ≤ 4) → ∀ (f : Nat) (bb p : Int), 0 ≤ p ∧ p ≤ M 60 11 → bb = wd_b (wd_P T (M 60 18) x1 (M 71) (M 70)) p.toNat → 8 - p < (f : Int) → Q 96 [(4, (0, 0, 0, 8, p)), (3, (0, 0, (-2147483648), 2147483647, bb)), (2, (0, 0, 1, 4, sz)), (1, (0, 0, 0, 1, x1)), (0, (2, 60, 0, 0, 0))] [] M1 := by
    intro hx M1 hc0 h20 sz hs9 hg hs f
    have loop3 := loop3 hx M1 hc0 h20
    have h73 : ∀ i, M1 73 i = M 73 i := fun i => (hc0 73 i (by unfold xm_scr; omega)).trans ((xa_up_ne (by omega)).trans (xa_up_ne (by omega)))
    have k70 : ∀ i, M1 70 i = M 70 i := fun i => (hc0 70 i (by unfold xm_scr; omega)).trans ((xa_up_ne (by omega)).trans (xa_up_ne (by omega)))
    have k71 : ∀ i, M1 71 i = M 71 i := fun i => (hc0 71 i (by unfold xm_scr; omega)).trans ((xa_up_ne (by omega)).trans (xa_up_ne (by omega)))
    have e11 : M1 60 11 = M 60 11 := (hc0 60 11 (by unfold xm_scr; omega)).trans ((xa_up_ne (by omega)).trans (xa_up_ne (by omega)))
    have hT1 : ∀ i, 0 ≤ i → i < 80 → T i = M1 73 i % 256 := fun i i0 i1 => by rw [h73 i]; exact hT i i0 i1
    induction f with
    | zero => intro bb p p1 hb hms; omega
    | succ f ih =>
      intro bb p p1 hb hms
      refine hgo.2.2 _ _ _ _ (fun hM1 _ => ?_)
      have t70 := xm_t70 hM1 p
      have t71 := xm_t71 hM1 p
      refine hgo.1 28 [28, 96, 153] 96 _ _ _ ?_
      refine And.intro ?_ ?_
      · intro (c1 : (M1 60 11) ≤ p)
        show Q 153 [(5, (0, 0, 1, 1, 1)), (4, (0, 0, 0, 0, 0)), (3, (0, 0, (-2147483648), 2147483647, bb)), (2, (0, 0, 1, 4, sz)), (1, (0, 0, 0, 1, x1)), (0, (2, 60, 0, 0, 0))] [] M1
        refine hgo.2.1 153 _ [(5, (0, 0, 1, 2001, 1)), (4, (0, 0, 0, 2000, 0)), (3, (0, 0, (-2147483648), 2147483647, bb)), (2, (0, 0, 1, 4, sz)), (0, (2, 60, 0, 0, 0))] _ _ (xa_subI rfl rfl (fun _ _ _ _ => by omega) (xa_subI rfl rfl (fun _ _ _ _ => by omega) (xa_subI rfl rfl (fun _ _ _ _ => by omega) (xa_subI rfl rfl (fun _ _ _ _ => by omega) (xa_subR rfl (xa_sub0)))))) ?_
        exact loop3 sz hs9 hg hs 2001 bb 0 1 (by omega) (by omega) (by rw [hb, show p = M 60 11 by omega]) (by omega)
      · intro (c1 : p < (M1 60 11))
        refine And.intro ?_ ?_
        · intro (c2 : ¬ x1 = 0)
          refine And.intro (show 0 ≤ p ∧ p < 8 by omega) ?_
          show xa_C xm_I A h0 _ 280 [(2, 60, 0, 0, 0), (0, 0, 0, 2000, M1 70 p), (0, 0, 1, 4, sz)] M1 _
          refine ct_isWordF hT1 (by first | omega | exact hn8) (by omega) ?_ ?_
          · intro (i3 : wd_m T (sz).toNat (M1 70 p))
            show Q 96 [(4, (0, 0, 1, 9, p + 1)), (3, (0, 0, (-2147483648), 2147483647, xa_ib 4 bb (xa_ib 6 1 p))), (2, (0, 0, 1, 4, sz)), (1, (0, 0, 0, 1, x1)), (0, (2, 60, 0, 0, 0))] [] M1
            have ei : ((p.toNat : Nat) : Int) = p := Int.toNat_of_nonneg (by omega)
            have w8 := i3
            rw [hs9, k70 p] at w8
            have f9 : (wd_P T (M 60 18) x1 (M 71) (M 70)) ((p.toNat : Nat) : Int) := by
              rw [ei]
              exact (wd_P1 (by omega)).mpr w8
            have eb : xa_ib 4 bb (xa_ib 6 1 p) = wd_b (wd_P T (M 60 18) x1 (M 71) (M 70)) (p + 1).toNat := by
              rw [show (p + 1).toNat = p.toNat + 1 by omega, wd_b1 f9, ← hb, ei]
            refine hgo.2.1 96 _ [(4, (0, 0, 0, 8, p + 1)), (3, (0, 0, (-2147483648), 2147483647, xa_ib 4 bb (xa_ib 6 1 p))), (2, (0, 0, 1, 4, sz)), (1, (0, 0, 0, 1, x1)), (0, (2, 60, 0, 0, 0))] _ _ (xa_subI rfl rfl (fun _ _ _ _ => by omega) (xa_subI rfl rfl (fun _ _ _ _ => by omega) (xa_subI rfl rfl (fun _ _ _ _ => by omega) (xa_subI rfl rfl (fun _ _ _ _ => by omega) (xa_subR rfl (xa_sub0)))))) ?_
            exact ih _ (p + 1) (by omega) eb (by omega)
          · intro (i4 : ¬ wd_m T (sz).toNat (M1 70 p))
            show Q 96 [(4, (0, 0, 1, 9, p + 1)), (3, (0, 0, (-2147483648), 2147483647, bb)), (2, (0, 0, 1, 4, sz)), (1, (0, 0, 0, 1, x1)), (0, (2, 60, 0, 0, 0))] [] M1
            have ei : ((p.toNat : Nat) : Int) = p := Int.toNat_of_nonneg (by omega)
            have w8 := i4
            rw [hs9, k70 p] at w8
            have f9 : ¬ (wd_P T (M 60 18) x1 (M 71) (M 70)) ((p.toNat : Nat) : Int) := by
              rw [ei]
              exact fun h => w8 ((wd_P1 (by omega)).mp h)
            have eb : bb = wd_b (wd_P T (M 60 18) x1 (M 71) (M 70)) (p + 1).toNat := by
              rw [show (p + 1).toNat = p.toNat + 1 by omega, wd_b0 f9, ← hb]
            refine hgo.2.1 96 _ [(4, (0, 0, 0, 8, p + 1)), (3, (0, 0, (-2147483648), 2147483647, bb)), (2, (0, 0, 1, 4, sz)), (1, (0, 0, 0, 1, x1)), (0, (2, 60, 0, 0, 0))] _ _ (xa_subI rfl rfl (fun _ _ _ _ => by omega) (xa_subI rfl rfl (fun _ _ _ _ => by omega) (xa_subI rfl rfl (fun _ _ _ _ => by omega) (xa_subI rfl rfl (fun _ _ _ _ => by omega) (xa_subR rfl (xa_sub0)))))) ?_
            exact ih _ (p + 1) (by omega) eb (by omega)
        · intro (c2 : x1 = 0)
          refine And.intro (show 0 ≤ p ∧ p < 8 by omega) ?_
          show xa_C xm_I A h0 _ 280 [(2, 60, 0, 0, 0), (0, 0, 0, 2000, M1 71 p), (0, 0, 1, 4, sz)] M1 _
          refine ct_isWordF hT1 (by first | omega | exact hn8) (by omega) ?_ ?_
          · intro (i5 : wd_m T (sz).toNat (M1 71 p))
            show Q 96 [(4, (0, 0, 1, 9, p + 1)), (3, (0, 0, (-2147483648), 2147483647, xa_ib 4 bb (xa_ib 6 1 p))), (2, (0, 0, 1, 4, sz)), (1, (0, 0, 0, 1, x1)), (0, (2, 60, 0, 0, 0))] [] M1
            have ei : ((p.toNat : Nat) : Int) = p := Int.toNat_of_nonneg (by omega)
            have w8 := i5
            rw [hs9, k71 p] at w8
            have f9 : (wd_P T (M 60 18) x1 (M 71) (M 70)) ((p.toNat : Nat) : Int) := by
              rw [ei]
              exact (wd_P0 (by omega)).mpr w8
            have eb : xa_ib 4 bb (xa_ib 6 1 p) = wd_b (wd_P T (M 60 18) x1 (M 71) (M 70)) (p + 1).toNat := by
              rw [show (p + 1).toNat = p.toNat + 1 by omega, wd_b1 f9, ← hb, ei]
            refine hgo.2.1 96 _ [(4, (0, 0, 0, 8, p + 1)), (3, (0, 0, (-2147483648), 2147483647, xa_ib 4 bb (xa_ib 6 1 p))), (2, (0, 0, 1, 4, sz)), (1, (0, 0, 0, 1, x1)), (0, (2, 60, 0, 0, 0))] _ _ (xa_subI rfl rfl (fun _ _ _ _ => by omega) (xa_subI rfl rfl (fun _ _ _ _ => by omega) (xa_subI rfl rfl (fun _ _ _ _ => by omega) (xa_subI rfl rfl (fun _ _ _ _ => by omega) (xa_subR rfl (xa_sub0)))))) ?_
            exact ih _ (p + 1) (by omega) eb (by omega)
          · intro (i6 : ¬ wd_m T (sz).toNat (M1 71 p))
            show Q 96 [(4, (0, 0, 1, 9, p + 1)), (3, (0, 0, (-2147483648), 2147483647, bb)), (2, (0, 0, 1, 4, sz)), (1, (0, 0, 0, 1, x1)), (0, (2, 60, 0, 0, 0))] [] M1
            have ei : ((p.toNat : Nat) : Int) = p := Int.toNat_of_nonneg (by omega)
            have w8 := i6
            rw [hs9, k71 p] at w8
            have f9 : ¬ (wd_P T (M 60 18) x1 (M 71) (M 70)) ((p.toNat : Nat) : Int) := by
              rw [ei]
              exact fun h => w8 ((wd_P0 (by omega)).mp h)
            have eb : bb = wd_b (wd_P T (M 60 18) x1 (M 71) (M 70)) (p + 1).toNat := by
              rw [show (p + 1).toNat = p.toNat + 1 by omega, wd_b0 f9, ← hb]
            refine hgo.2.1 96 _ [(4, (0, 0, 0, 8, p + 1)), (3, (0, 0, (-2147483648), 2147483647, bb)), (2, (0, 0, 1, 4, sz)), (1, (0, 0, 0, 1, x1)), (0, (2, 60, 0, 0, 0))] _ _ (xa_subI rfl rfl (fun _ _ _ _ => by omega) (xa_subI rfl rfl (fun _ _ _ _ => by omega) (xa_subI rfl rfl (fun _ _ _ _ => by omega) (xa_subI rfl rfl (fun _ _ _ _ => by omega) (xa_subR rfl (xa_sub0)))))) ?_
            exact ih _ (p + 1) (by omega) eb (by omega)
  have loop1 : (0 ≤ x1 ∧ x1 ≤ 1) → ∀ (sz : Int), sz = M 60 18 → ∀ (M1 : xa_M), xm_cor (xa_up (xa_up M 60 21 0) 60 18 0) M1 → M1 60 20 = M 60 20 → ∀ (f : Nat) (p : Int), 0 ≤ p ∧ p ≤ 4 ∧ p ≤ sz → (∀ i, 0 ≤ i → i < p → wd_s (T i)) → 4 - p < (f : Int) → Q 28 [(3, (0, 0, 0, 4, p)), (2, (0, 0, 0, 80, sz)), (1, (0, 0, 0, 1, x1)), (0, (2, 60, 0, 0, 0))] [] M1 := by
    intro hx sz hs9 M1 hc0 h20 f
    have loop2 := loop2 hx M1 hc0 h20
    have h73 : ∀ i, M1 73 i = M 73 i := fun i => (hc0 73 i (by unfold xm_scr; omega)).trans ((xa_up_ne (by omega)).trans (xa_up_ne (by omega)))
    have k70 : ∀ i, M1 70 i = M 70 i := fun i => (hc0 70 i (by unfold xm_scr; omega)).trans ((xa_up_ne (by omega)).trans (xa_up_ne (by omega)))
    have k71 : ∀ i, M1 71 i = M 71 i := fun i => (hc0 71 i (by unfold xm_scr; omega)).trans ((xa_up_ne (by omega)).trans (xa_up_ne (by omega)))
    have e11 : M1 60 11 = M 60 11 := (hc0 60 11 (by unfold xm_scr; omega)).trans ((xa_up_ne (by omega)).trans (xa_up_ne (by omega)))
    have hT1 : ∀ i, 0 ≤ i → i < 80 → T i = M1 73 i % 256 := fun i i0 i1 => by rw [h73 i]; exact hT i i0 i1
    induction f with
    | zero => intro p p1 hg hms; omega
    | succ f ih =>
      intro p p1 hg hms
      refine hgo.2.2 _ _ _ _ (fun hM1 _ => ?_)
      refine hgo.1 28 [28, 96, 153] 28 _ _ _ ?_
      refine And.intro ?_ ?_
      · intro (c1 : sz ≤ p)
        refine And.intro ?_ ?_
        · intro (c2 : ¬ sz = 0)
          refine And.intro ?_ ?_
          · intro (c3 : sz ≤ 4)
            show Q 96 [(4, (0, 0, 0, 0, 0)), (3, (0, 0, 0, 0, 0)), (2, (0, 0, 0, 80, sz)), (1, (0, 0, 0, 1, x1)), (0, (2, 60, 0, 0, 0))] [] M1
            refine hgo.2.1 96 _ [(4, (0, 0, 0, 8, 0)), (3, (0, 0, (-2147483648), 2147483647, 0)), (2, (0, 0, 1, 4, sz)), (1, (0, 0, 0, 1, x1)), (0, (2, 60, 0, 0, 0))] _ _ (xa_subI rfl rfl (fun _ _ _ _ => by omega) (xa_subI rfl rfl (fun _ _ _ _ => by omega) (xa_subI rfl rfl (fun _ _ _ _ => by omega) (xa_subI rfl rfl (fun _ _ _ _ => by omega) (xa_subR rfl (xa_sub0)))))) ?_
            exact loop2 sz (by omega) (fun i g0 g1 g2 => hg i g0 (by omega)) (by omega) 9 0 0 (by omega) rfl (by omega)
          · intro (c3 : 4 < sz)
            show xa_wk post (some (0, 0, (-104), (-104), (-104))) M1
            exact xa_wkI _ rfl (fun _ _ => by omega) (k _ _ (Or.inr ⟨by omega, Or.inr ⟨fun i g0 g1 g2 => hg i g0 (by omega), Or.inr (Or.inl ⟨by omega, by omega⟩)⟩⟩) hc0 (by show rz_c (0 ≤ ((-104) : Int)) (M 60 20) (M1 60 20) 1; unfold rz_c; omega))
        · intro (c2 : sz = 0)
          show xa_wk post (some (0, 0, (-100), (-100), (-100))) M1
          exact xa_wkI (-100) rfl (fun _ _ => by omega) (k _ _ (Or.inr ⟨by omega, Or.inr ⟨fun i g0 g1 g2 => hg i g0 (by omega), Or.inl ⟨by omega, rfl⟩⟩⟩) hc0 (by show rz_c (0 ≤ ((-100) : Int)) (M 60 20) (M1 60 20) 1; unfold rz_c; omega))
      · intro (c1 : p < sz)
        refine And.intro ?_ ?_
        · intro (c4 : 4 ≤ p)
          refine And.intro ?_ ?_
          · intro (c5 : ¬ sz = 0)
            refine And.intro ?_ ?_
            · intro (c6 : sz ≤ 4)
              show Q 96 [(4, (0, 0, 0, 0, 0)), (3, (0, 0, 0, 0, 0)), (2, (0, 0, 0, 80, sz)), (1, (0, 0, 0, 1, x1)), (0, (2, 60, 0, 0, 0))] [] M1
              refine hgo.2.1 96 _ [(4, (0, 0, 0, 8, 0)), (3, (0, 0, (-2147483648), 2147483647, 0)), (2, (0, 0, 1, 4, sz)), (1, (0, 0, 0, 1, x1)), (0, (2, 60, 0, 0, 0))] _ _ (xa_subI rfl rfl (fun _ _ _ _ => by omega) (xa_subI rfl rfl (fun _ _ _ _ => by omega) (xa_subI rfl rfl (fun _ _ _ _ => by omega) (xa_subI rfl rfl (fun _ _ _ _ => by omega) (xa_subR rfl (xa_sub0)))))) ?_
              exact loop2 sz (by omega) (fun i g0 g1 g2 => hg i g0 (by omega)) (by omega) 9 0 0 (by omega) rfl (by omega)
            · intro (c6 : 4 < sz)
              show xa_wk post (some (0, 0, (-104), (-104), (-104))) M1
              exact xa_wkI _ rfl (fun _ _ => by omega) (k _ _ (Or.inr ⟨by omega, Or.inr ⟨fun i g0 g1 g2 => hg i g0 (by omega), Or.inr (Or.inl ⟨by omega, by omega⟩)⟩⟩) hc0 (by show rz_c (0 ≤ ((-104) : Int)) (M 60 20) (M1 60 20) 1; unfold rz_c; omega))
          · intro (c5 : sz = 0)
            show xa_wk post (some (0, 0, (-100), (-100), (-100))) M1
            exact xa_wkI (-100) rfl (fun _ _ => by omega) (k _ _ (Or.inr ⟨by omega, Or.inr ⟨fun i g0 g1 g2 => hg i g0 (by omega), Or.inl ⟨by omega, rfl⟩⟩⟩) hc0 (by show rz_c (0 ≤ ((-100) : Int)) (M 60 20) (M1 60 20) 1; unfold rz_c; omega))
        · intro (c4 : p < 4)
          refine And.intro ?_ ?_
          · intro (c7 : (M1 73 p) = 63)
            show Q 28 [(3, (0, 0, 1, 5, p + 1)), (2, (0, 0, 0, 80, sz)), (1, (0, 0, 0, 1, x1)), (0, (2, 60, 0, 0, 0))] [] M1
            refine hgo.2.1 28 _ [(3, (0, 0, 0, 4, p + 1)), (2, (0, 0, 0, 80, sz)), (1, (0, 0, 0, 1, x1)), (0, (2, 60, 0, 0, 0))] _ _ (xa_subI rfl rfl (fun _ _ _ _ => by omega) (xa_subI rfl rfl (fun _ _ _ _ => by omega) (xa_subI rfl rfl (fun _ _ _ _ => by omega) (xa_subR rfl (xa_sub0))))) ?_
            exact ih (p + 1) (by omega) (fun i g0 g1 => by
              by_cases e : i = p
              · rw [e]
                have t9 := hT1 p (by omega) (by omega)
                have h9 := xm_t73 hM1 p (by omega) (by omega)
                unfold wd_s
                omega
              · exact hg i g0 (by omega)) (by omega)
          · intro (c7 : ¬ (M1 73 p) = 63)
            show xa_C xm_I A h0 _ 214 [(0, 0, (-128), 127, M1 73 p), (0, 0, 48, 48, 48), (0, 0, 57, 57, 57)] M1 _
            refine ct_in ?_ ?_
            · intro (i8 : 48 ≤ (M1 73 p) ∧ (M1 73 p) ≤ 57)
              show Q 28 [(3, (0, 0, 1, 5, p + 1)), (2, (0, 0, 0, 80, sz)), (1, (0, 0, 0, 1, x1)), (0, (2, 60, 0, 0, 0))] [] M1
              refine hgo.2.1 28 _ [(3, (0, 0, 0, 4, p + 1)), (2, (0, 0, 0, 80, sz)), (1, (0, 0, 0, 1, x1)), (0, (2, 60, 0, 0, 0))] _ _ (xa_subI rfl rfl (fun _ _ _ _ => by omega) (xa_subI rfl rfl (fun _ _ _ _ => by omega) (xa_subI rfl rfl (fun _ _ _ _ => by omega) (xa_subR rfl (xa_sub0))))) ?_
              exact ih (p + 1) (by omega) (fun i g0 g1 => by
                by_cases e : i = p
                · rw [e]
                  have t9 := hT1 p (by omega) (by omega)
                  have h9 := xm_t73 hM1 p (by omega) (by omega)
                  unfold wd_s
                  omega
                · exact hg i g0 (by omega)) (by omega)
            · intro (i9 : ¬ (48 ≤ (M1 73 p) ∧ (M1 73 p) ≤ 57))
              show xa_wk post (some (0, 0, (-104), (-100), (-100) - p)) M1
              have t9 := hT1 p (by omega) (by omega)
              have h9 := xm_t73 hM1 p (by omega) (by omega)
              exact xa_wkI _ rfl (fun _ _ => by omega) (k _ _ (Or.inr ⟨by omega, Or.inl ⟨p, by omega, by omega, by omega, by unfold wd_s; omega, hg, by omega⟩⟩) hc0 (by show rz_c (0 ≤ ((-100) - p : Int)) (M 60 20) (M1 60 20) 1; unfold rz_c; omega))
  refine hgo.1 21 [28] 0 _ _ _ ?_
  show xa_C xm_I A h0 _ 214 [(0, 0, (-2147483648), 2147483647, x1), (0, 0, 0, 0, 0), (0, 0, 1, 1, 1)] (xa_up (xa_up M 60 21 0) 60 18 0) _
  refine ct_in ?_ ?_
  · intro (i1 : 0 ≤ x1 ∧ x1 ≤ 1)
    show Q 28 [(3, (0, 0, 0, 0, 0)), (2, (0, 0, 0, 80, M 60 18)), (0, (2, 60, 0, 0, 0)), (1, (0, 0, (-2147483648), 2147483647, x1))] [] (xa_up (xa_up M 60 21 0) 60 18 0)
    refine hgo.2.1 28 _ [(3, (0, 0, 0, 4, 0)), (2, (0, 0, 0, 80, M 60 18)), (1, (0, 0, 0, 1, x1)), (0, (2, 60, 0, 0, 0))] _ _ (xa_subI rfl rfl (fun _ _ _ _ => by omega) (xa_subI rfl rfl (fun _ _ _ _ => by omega) (xa_subI rfl rfl (fun _ _ _ _ => by omega) (xa_subR rfl (xa_sub0))))) ?_
    exact loop1 (by omega) (M 60 18) rfl (xa_up (xa_up M 60 21 0) 60 18 0) xm_cor_r ((xa_up_ne (by omega)).trans (xa_up_ne (by omega))) 5 0 (by omega) (fun i g0 g1 => by omega) (by omega)
  · intro (i2 : ¬ (0 ≤ x1 ∧ x1 ≤ 1))
    show xa_wk post (some (0, 0, (-1), (-1), (-1))) (xa_up (xa_up M 60 21 0) 60 18 0)
    exact xa_wkI (-1) rfl (fun _ _ => by omega) (k _ _ (Or.inl ⟨by omega, rfl⟩) xm_cor_r (by show rz_c (0 ≤ ((-1) : Int)) (M 60 20) (M 60 20) 1; unfold rz_c; omega))
theorem rz_p170 (A : Nat → Nat) (cmp : Bool) : iv_pair (rz_J A) A 170 279 [0] cmp false := rz_armV (fun W b h as M hJ hM hInv hs hR hz => by
  obtain ⟨m1, ys, rfl, -, hs⟩ := iv_spc hs
  obtain rfl := iv_sp0 hs
  obtain ⟨s1, s2, s3, s4⟩ := lm_Sx.mp hR.2.1
  have hMk := xa_H_Mok hM
  have b18 := xm_f18 hMk
  have b11 := xm_f11 hMk
  have hU : ∀ i, 0 ≤ i → i < iv_num h (bk_p b) 4 → (0 ≤ iv_num h (bk_p b + 1) i ∧ iv_num h (bk_p b + 1) i ≤ 2000) ∧ (0 ≤ iv_num h (bk_p b + 2) i ∧ iv_num h (bk_p b + 2) i ≤ 2000) := fun i i0 i1 => by
    rw [s3] at i1
    obtain ⟨g1, g2, -⟩ := s4 i i0 (by omega) i1
    rw [g1, g2]
    exact ⟨xm_t70 hMk i i0 (by omega), xm_t71 hMk i i0 (by omega)⟩
  have hc := rx_170 (b := b) (A := A) (h0 := h) (d := 54) (M := iv_num h) (T := fun i => M 73 i % 256) (l1 := -2147483648) (u1 := 2147483647) (x1 := m1.toInt) (post := fun o M1 => ∃ lo hi n, o = some (0, 0, lo, hi, n) ∧ ((wd_W m1.toInt (wd_A (fun i => M 73 i % 256) (iv_num h 30 1) (wd_P (fun i => M 73 i % 256) (iv_num h 30 1) m1.toInt (iv_num h (bk_p b + 2)) (iv_num h (bk_p b + 1))) (iv_num h (bk_p b) 4).toNat n) n ∧ M1 30 1 = 0 ∧ ∀ q j, ¬ q = 48 → ¬ q = 49 → ¬ (q = 30 ∧ j = 1) → ¬ (q = 60 ∧ j = 21) → M1 q j = iv_num h q j) ∧ rz_c (0 ≤ n) (iv_num h 48 1) (M1 48 1) 1)) s2 (fun i => by show 0 ≤ M 73 i % 256 ∧ M 73 i % 256 ≤ 255; omega) (by omega) (by omega) hU (fun n M1 x1 x2 x3 x4 => ⟨_, _, n, rfl, ⟨x1, x2, x3⟩, x4⟩)
  have hm := fun (h1 : g_H) => rm_word (A := A) (h0 := h1) (d := 58) (M := M) (T := fun i => M 73 i % 256) (l1 := -2147483648) (u1 := 2147483647) (x1 := m1.toInt) (post := fun o M2 => (∃ lo hi n, o = some (0, 0, lo, hi, n) ∧ ((wd_W m1.toInt (wd_A (fun i => M 73 i % 256) (M 60 18) (wd_P (fun i => M 73 i % 256) (M 60 18) m1.toInt (M 71) (M 70)) (M 60 11).toNat n) n ∧ xm_cor (xa_up (xa_up M 60 21 0) 60 18 0) M2) ∧ rz_c (0 ≤ n) (M 60 20) (M2 60 20) 1)) ∧ xm_Inv M2) (fun i _ _ => rfl) (fun n M2 x1 x2 x3 => ⟨⟨_, _, n, rfl, ⟨x1, x2⟩, x3⟩, cor_Inv hInv x2⟩)
  refine ⟨[(2, 0, 0, 0, 0), (0, 0, -2147483648, 2147483647, m1.toInt)], [(2, 60, 0, 0, 0), (0, 0, -2147483648, 2147483647, m1.toInt)], _, _, ⟨rfl, iv_i m1, trivial⟩, ⟨rfl, iv_i m1, trivial⟩, fun n n' M1 M2 h1 h2 => ?_, hc, hm⟩
  obtain ⟨⟨a1, a2, a3⟩, z1⟩ := h1
  obtain ⟨⟨c1, c2⟩, z2⟩ := h2
  obtain ⟨d1, d2⟩ := cor_k c2
  have en : n = n' := by
    rcases a1 with ⟨a4, a5⟩ | ⟨a4, a5⟩
    · rcases c1 with ⟨c4, c5⟩ | ⟨c4, c5⟩
      · omega
      · omega
    · rcases c1 with ⟨c4, c5⟩ | ⟨c4, c5⟩
      · omega
      · rw [s1, s3] at a5
        refine wd_A_one (fun p hp => ?_) a5 c5
        obtain ⟨g1, g2, -⟩ := s4 p (by omega) (by omega) (by omega)
        unfold wd_P
        rw [g1, g2]
  refine ⟨fun _ => en, fun x => cor_kk c2 (by omega) x, fun x => cor_kk c2 (by omega) x, lm_Rt hR (by omega) (fun i i0 i1 => ?_) (fun q j hC hq e1 e2 => a3 q j (by first | (have t9 := lm_Cq hC; omega) | (unfold lm_C at hC; omega)) (by first | (have t9 := lm_Cq hC; omega) | (unfold lm_C at hC; omega)) e1 (by omega)) (fun q j hC hq e1 e2 => d2 q j hC hq e1), rz_c2 en z1 z2 hz⟩
  rw [a3 31 i (by omega) (by omega) (by omega) (by omega), d2 73 i (by unfold lm_C; first | (simp; done) | (simp; omega) | omega) (by omega) (by omega)]
  exact s2 i i0 i1)
