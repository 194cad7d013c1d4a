-- nearest: both sides
set_option maxRecDepth 20000
theorem cw_129_50 {A : Nat → Nat} {h0 : g_H} {d : Nat} {M : xa_M} {post : Option xa_V → xa_M → Prop} {l1 u1 x1 : Int} (hL : 10 ≤ M 32 0 ∧ M 32 0 ≤ M 32 1 ∧ M 32 1 ≤ 400) (hp : 0 ≤ M 50 4 ∧ M 50 4 ≤ 8) (hUU : ∀ i : Int, 0 ≤ i → i < M 50 4 → (1 ≤ M 51 i ∧ M 51 i ≤ 2000) ∧ (1 ≤ M 52 i ∧ M 52 i ≤ 2000)) (k : ∀ (r : Int) (M1 : xa_M), nr_A (M 32 0) (M 32 1) (M 50 4) (M 51 x1) (M 52 x1) x1 r → (∀ (q : Nat) (j : Int), ¬ (q = 48 ∨ q = 49) → M1 q j = M q j) → post (some (0, 0, (-1), 2, r)) M1) : xa_C (xl_I false) A h0 (d + 5) 129 [(2, 0, 0, 0, 0), (0, 0, l1, u1, x1)] M post := by
  refine xa_C_wk ?_
  refine xa_C_arg [(2, 0, 0, 0, 0), (0, 0, (-2147483648), 2147483647, x1)] (xa_svR (xa_svI (fun _ _ _ _ => by omega) xa_sv0)) ?_
  refine xa_meth (Q0 := (2, 1, false, 0, 0, 11)) (by decide +kernel) ⟨rfl, rfl⟩ (full := s_c_129) rfl rfl ?_
  intro hM hv Q hgo
  have hu := hUU x1
  refine hgo.1 23 [] 0 _ _ _ ?_
  show xa_C (xl_I false) A h0 _ 87 [(2, 50, 0, 0, 0), (0, 0, (-2147483648), 2147483647, x1)] M _
  refine cx_87_50 ?_ ?_ ?_
  · intro (i1 : x1 < 0)
    show xa_wk post (some (0, 0, (-1), (-1), (-1))) M
    exact xa_wkI (-1) rfl (fun _ _ => by omega) (k _ _ (Or.inl ⟨by omega, rfl⟩) (fun _ _ _ => rfl))
  · intro (i2 : 0 ≤ x1) (i3 : (M 50 4) ≤ x1)
    show xa_wk post (some (0, 0, (-1), (-1), (-1))) M
    exact xa_wkI (-1) rfl (fun _ _ => by omega) (k _ _ (Or.inl ⟨by omega, rfl⟩) (fun _ _ _ => rfl))
  · intro (i4 : 0 ≤ x1) (i5 : x1 < (M 50 4))
    show xa_C (xl_I false) A h0 _ 65 [(2, 50, 0, 0, 0), (0, 0, (-2147483648), 2147483647, x1)] M _
    refine cx_65_50 (show 0 ≤ x1 ∧ x1 < 8 by omega) ?_
    show xa_C (xl_I false) A h0 _ 64 [(2, 50, 0, 0, 0), (0, 0, (-2147483648), 2147483647, x1)] M _
    refine cx_64_50 (show 0 ≤ x1 ∧ x1 < 8 by omega) ?_
    show xa_C (xl_I false) A h0 _ 130 [(2, 32, 0, 0, 0), (1, 0, (-2147483648), 2147483647, M 51 x1), (1, 0, (-2147483648), 2147483647, M 52 x1), (2, 48, 0, 0, 0)] M _
    refine cx_130f hL (by omega) (by omega) ?_
    intro M141 r142 a143 c144 (i6 : nr_P (M 32 0) (M 32 1) (M 51 x1) (M 52 x1) a143 c144) (i7 : nr_s (a143 * (M 52 x1) - c144 * (M 51 x1)) r142) (i8 : ∀ (q : Nat) (j : Int), ¬ (q = 48 ∨ q = 49) → M141 q j = M q j)
    show xa_wk post (some (0, 0, 0, 2, r142)) M141
    exact xa_wkI _ rfl (fun _ _ => by omega) (k _ _ (Or.inr ⟨⟨by omega, by omega⟩, _, _, i6, i7⟩) i8)
theorem cw_129_55 {A : Nat → Nat} {h0 : g_H} {d : Nat} {M : xa_M} {post : Option xa_V → xa_M → Prop} {l1 u1 x1 : Int} (hL : 10 ≤ M 32 0 ∧ M 32 0 ≤ M 32 1 ∧ M 32 1 ≤ 400) (hp : 0 ≤ M 55 4 ∧ M 55 4 ≤ 8) (hUU : ∀ i : Int, 0 ≤ i → i < M 55 4 → (1 ≤ M 56 i ∧ M 56 i ≤ 2000) ∧ (1 ≤ M 57 i ∧ M 57 i ≤ 2000)) (k : ∀ (r : Int) (M1 : xa_M), nr_A (M 32 0) (M 32 1) (M 55 4) (M 56 x1) (M 57 x1) x1 r → (∀ (q : Nat) (j : Int), ¬ (q = 48 ∨ q = 49) → M1 q j = M q j) → post (some (0, 0, (-1), 2, r)) M1) : xa_C (xl_I true) A h0 (d + 5) 129 [(2, 0, 0, 0, 0), (0, 0, l1, u1, x1)] M post := by
  refine xa_C_wk ?_
  refine xa_C_arg [(2, 0, 0, 0, 0), (0, 0, (-2147483648), 2147483647, x1)] (xa_svR (xa_svI (fun _ _ _ _ => by omega) xa_sv0)) ?_
  refine xa_meth (Q0 := (2, 1, false, 0, 0, 11)) (by decide +kernel) ⟨rfl, rfl⟩ (full := s_c_129) rfl rfl ?_
  intro hM hv Q hgo
  have hu := hUU x1
  refine hgo.1 23 [] 0 _ _ _ ?_
  show xa_C (xl_I true) A h0 _ 87 [(2, 55, 0, 0, 0), (0, 0, (-2147483648), 2147483647, x1)] M _
  refine cx_87_55 ?_ ?_ ?_
  · intro (i1 : x1 < 0)
    show xa_wk post (some (0, 0, (-1), (-1), (-1))) M
    exact xa_wkI (-1) rfl (fun _ _ => by omega) (k _ _ (Or.inl ⟨by omega, rfl⟩) (fun _ _ _ => rfl))
  · intro (i2 : 0 ≤ x1) (i3 : (M 55 4) ≤ x1)
    show xa_wk post (some (0, 0, (-1), (-1), (-1))) M
    exact xa_wkI (-1) rfl (fun _ _ => by omega) (k _ _ (Or.inl ⟨by omega, rfl⟩) (fun _ _ _ => rfl))
  · intro (i4 : 0 ≤ x1) (i5 : x1 < (M 55 4))
    show xa_C (xl_I true) A h0 _ 65 [(2, 55, 0, 0, 0), (0, 0, (-2147483648), 2147483647, x1)] M _
    refine cx_65_55 (show 0 ≤ x1 ∧ x1 < 8 by omega) ?_
    show xa_C (xl_I true) A h0 _ 64 [(2, 55, 0, 0, 0), (0, 0, (-2147483648), 2147483647, x1)] M _
    refine cx_64_55 (show 0 ≤ x1 ∧ x1 < 8 by omega) ?_
    show xa_C (xl_I true) A h0 _ 130 [(2, 32, 0, 0, 0), (1, 0, (-2147483648), 2147483647, M 56 x1), (1, 0, (-2147483648), 2147483647, M 57 x1), (2, 48, 0, 0, 0)] M _
    refine cx_130f hL (by omega) (by omega) ?_
    intro M145 r146 a147 c148 (i6 : nr_P (M 32 0) (M 32 1) (M 56 x1) (M 57 x1) a147 c148) (i7 : nr_s (a147 * (M 57 x1) - c148 * (M 56 x1)) r146) (i8 : ∀ (q : Nat) (j : Int), ¬ (q = 48 ∨ q = 49) → M145 q j = M q j)
    show xa_wk post (some (0, 0, 0, 2, r146)) M145
    exact xa_wkI _ rfl (fun _ _ => by omega) (k _ _ (Or.inr ⟨⟨by omega, by omega⟩, _, _, i6, i7⟩) i8)
theorem ct_isNearerF {A : Nat → Nat} {h0 : g_H} {d : Nat} {M : xa_M} {post : Option xa_V → xa_M → Prop} {I : xa_I} {l0 u0 l1 u1 l2 u2 l3 u3 l4 u4 l5 u5 : Int} {a b c e f g : Int} (h1 : 0 ≤ a ∧ a ≤ 800000) (h2 : 10 ≤ b ∧ b ≤ 400) (h3 : 10 ≤ c ∧ c ≤ 400) (h4 : 0 ≤ e ∧ e ≤ 800000) (h5 : 0 ≤ f ∧ f ≤ 400) (h6 : 0 ≤ g ∧ g ≤ 400) (k : ∀ r : Int, (r = 0 ∨ r = 1) → (r = 1 ↔ (a * g = e * c ∧ (b + c < f + g ∨ (b + c = f + g ∧ b < f))) ∨ a * g < e * c) → post (some (0, 0, 0, 1, r)) M) : xa_C I A h0 (d + 1) 260 [(1, 0, l0, u0, a), (0, 0, l1, u1, b), (0, 0, l2, u2, c), (1, 0, l3, u3, e), (0, 0, l4, u4, f), (0, 0, l5, u5, g)] M post := by
  refine xa_C_arg [(1, 0, 0, 800000, a), (0, 0, 10, 400, b), (0, 0, 10, 400, c), (1, 0, 0, 800000, e), (0, 0, 0, 400, f), (0, 0, 0, 400, g)] (xa_svL (fun _ _ _ _ => by omega) (xa_svI (fun _ _ _ _ => by omega) (xa_svI (fun _ _ _ _ => by omega) (xa_svL (fun _ _ _ _ => by omega) (xa_svI (fun _ _ _ _ => by omega) (xa_svI (fun _ _ _ _ => by omega) xa_sv0)))))) (xa_C_wk ?_)
  refine xa_meth (Q0 := (12, 2, false, 0, 0, 12)) (by decide +kernel) ⟨rfl, rfl⟩ (full := s_c_260) rfl rfl ?_
  intro hM hv Q hgo
  refine hgo.1 34 [] 0 _ _ _ ?_
  refine And.intro ?_ ?_
  · intro (c1 : (a * g) = (e * c))
    refine And.intro ?_ ?_
    · intro (c2 : (b + c) = (f + g))
      refine And.intro ?_ ?_
      · intro (c3 : f ≤ b)
        show xa_wk post (some (0, 0, 0, 0, 0)) M
        exact xa_wkI 0 rfl (fun _ _ => by omega) (k 0 (by omega) (by omega))
      · intro (c3 : b < f)
        show xa_wk post (some (0, 0, 1, 1, 1)) M
        exact xa_wkI 1 rfl (fun _ _ => by omega) (k 1 (by omega) (by omega))
    · intro (c2 : ¬ (b + c) = (f + g))
      refine And.intro ?_ ?_
      · intro (c4 : (f + g) ≤ (b + c))
        show xa_wk post (some (0, 0, 0, 0, 0)) M
        exact xa_wkI 0 rfl (fun _ _ => by omega) (k 0 (by omega) (by omega))
      · intro (c4 : (b + c) < (f + g))
        show xa_wk post (some (0, 0, 1, 1, 1)) M
        exact xa_wkI 1 rfl (fun _ _ => by omega) (k 1 (by omega) (by omega))
  · intro (c1 : ¬ (a * g) = (e * c))
    refine And.intro ?_ ?_
    · intro (c5 : (e * c) ≤ (a * g))
      show xa_wk post (some (0, 0, 0, 0, 0)) M
      exact xa_wkI 0 rfl (fun _ _ => by omega) (k 0 (by omega) (by omega))
    · intro (c5 : (a * g) < (e * c))
      show xa_wk post (some (0, 0, 1, 1, 1)) M
      exact xa_wkI 1 rfl (fun _ _ => by omega) (k 1 (by omega) (by omega))

theorem ms_nearestF {A : Nat → Nat} {h0 : g_H} {d : Nat} {M : xa_M} {post : Option xa_V → xa_M → Prop} {l1 u1 : Int} {a : Int} (hI : xm_Inv M) (k : ∀ (lo hi r : Int) (M1 : xa_M), nr_B (M 60 15) (M 60 16) (M 60 11) (M 70 a) (M 71 a) a r → xm_cor M M1 → post (some (0, 0, lo, hi, r)) M1) : xa_C xm_I A h0 (d + 4) 259 [(2, 60, 0, 0, 0), (0, 0, l1, u1, a)] M post := by
  refine xa_C_arg [(2, 60, 0, 0, 0), (0, 0, (-2147483648), 2147483647, a)] (xa_svR (xa_svI (fun _ _ _ _ => by omega) xa_sv0)) ?_
  refine xa_meth (Q0 := (10, 1, false, 0, 0, 12)) (by decide +kernel) ⟨rfl, rfl⟩ (full := s_c_259) rfl rfl ?_
  intro hM hv Q hgo
  have b0 := xm_f0 hM
  have b6 := xm_f6 hM
  have b61 := xm_f61 hM
  have b11 := xm_f11 hM
  have b15 := xm_f15 hM
  have b16 := xm_f16 hM
  have hlh := hI.2.2.2.1
  have loop0 : ∀ (n : Nat) (x6 x4 x3 x2 x1 : Int) (M1 : xa_M), 10 ≤ x6 ∧ x6 ≤ 401 → 0 ≤ x4 ∧ x4 ≤ 800000 → 0 ≤ x3 ∧ x3 ≤ 400 → 0 ≤ x2 ∧ x2 ≤ 400 → 0 ≤ x1 ∧ x1 ≤ 7 → xm_cor M M1 → x1 < M 60 11 → (x6 = M 60 15 ∧ x2 = 0) ∨ (10 ≤ x2 ∧ 10 ≤ x3) → (x1 = a ∧ M 60 15 ≤ x6 ∧ x6 ≤ M 60 16 + 1) → ((x6 = M 60 15 ∧ x2 = 0) ∨ ((M 60 15 ≤ x2 ∧ x2 ≤ M 60 16) ∧ (M 60 15 ≤ x3 ∧ x3 ≤ M 60 16) ∧ x4 = nr_d (M 70 x1) (M 71 x1) x2 x3 ∧ nr_T (M 60 15) (M 60 16) (M 70 x1) (M 71 x1) x6 (M 60 15) x2 x3)) → 401 - x6 < (n : Int) → Q 28 [(6, (0, 0, 10, 401, x6)), (4, (1, 0, 0, 800000, x4)), (3, (0, 0, 0, 400, x3)), (2, (0, 0, 0, 400, x2)), (1, (0, 0, 0, 7, x1)), (0, (2, 60, 0, 0, 0))] [] M1 := by
    intro n
    induction n with
    | zero => intro x6 x4 x3 x2 x1 M1 b6 b4 b3 b2 b1 hc hx1 hJ hT hB hms; omega
    | succ n ih0 =>
      intro x6 x4 x3 x2 x1 M1 b6 b4 b3 b2 b1 hc hx1 hJ hT hB hms0
      have j71 : M1 71 x1 = M 71 x1 := hc 71 x1 (by unfold xm_scr; omega)
      have j70 : M1 70 x1 = M 70 x1 := hc 70 x1 (by unfold xm_scr; omega)
      have e0 := xm_corf hc 0 (by omega)
      have e6 := xm_corf hc 6 (by omega)
      have e61 := xm_corf hc 61 (by omega)
      have e11 := xm_corf hc 11 (by omega)
      have e15 := xm_corf hc 15 (by omega)
      have e16 := xm_corf hc 16 (by omega)
      refine hgo.2.2 _ _ _ _ (fun hM1 _ => ?_)
      have t71 := xm_t71 hM1 x1 (by omega) (by omega)
      have hp1 := (xm_Inv_cor hc hI).2.2.1 x1 (by omega) (by omega)
      have hmm : 10 ≤ x3 → 1 ≤ x3 * M1 71 x1 ∧ x3 * M1 71 x1 ≤ 400 * 2000 := fun h => xm_mulp (by omega) (by omega) (by omega) (by omega)
      have loop1 : ∀ (n : Nat) (x7 x4 x3 x2 : Int) (M1 : xa_M), 10 ≤ x7 ∧ x7 ≤ 401 → 0 ≤ x4 ∧ x4 ≤ 800000 → 0 ≤ x3 ∧ x3 ≤ 400 → 0 ≤ x2 ∧ x2 ≤ 400 → 10 ≤ x6 ∧ x6 ≤ 400 → 0 ≤ x1 ∧ x1 ≤ 7 → xm_cor M M1 → x1 < M 60 11 → ((x6 = M 60 15 ∧ x7 = M 60 15) ∧ x2 = 0) ∨ (10 ≤ x2 ∧ 10 ≤ x3) → (x1 = a ∧ M 60 15 ≤ x6 ∧ x6 ≤ M 60 16 ∧ M 60 15 ≤ x7 ∧ x7 ≤ M 60 16 + 1) → (((x6 = M 60 15 ∧ x7 = M 60 15) ∧ x2 = 0) ∨ ((M 60 15 ≤ x2 ∧ x2 ≤ M 60 16) ∧ (M 60 15 ≤ x3 ∧ x3 ≤ M 60 16) ∧ x4 = nr_d (M 70 x1) (M 71 x1) x2 x3 ∧ nr_T (M 60 15) (M 60 16) (M 70 x1) (M 71 x1) x6 x7 x2 x3)) → 401 - x7 < (n : Int) → Q 43 [(7, (0, 0, 10, 401, x7)), (6, (0, 0, 10, 400, x6)), (4, (1, 0, 0, 800000, x4)), (3, (0, 0, 0, 400, x3)), (2, (0, 0, 0, 400, x2)), (1, (0, 0, 0, 7, x1)), (0, (2, 60, 0, 0, 0))] [] M1 := by
        intro n
        induction n with
        | zero => intro x7 x4 x3 x2 M1 b7 b4 b3 b2 f6 f1 hc hx1b hJ2 hT1 hB1 hms; omega
        | succ n ih1 =>
          intro x7 x4 x3 x2 M1 b7 b4 b3 b2 f6 f1 hc hx1b hJ2 hT1 hB1 hms1
          have i71 : M1 71 x1 = M 71 x1 := hc 71 x1 (by unfold xm_scr; omega)
          have i70 : M1 70 x1 = M 70 x1 := hc 70 x1 (by unfold xm_scr; omega)
          have e0 := xm_corf hc 0 (by omega)
          have e6 := xm_corf hc 6 (by omega)
          have e61 := xm_corf hc 61 (by omega)
          have e11 := xm_corf hc 11 (by omega)
          have e15 := xm_corf hc 15 (by omega)
          have e16 := xm_corf hc 16 (by omega)
          refine hgo.2.2 _ _ _ _ (fun hM1 _ => ?_)
          have t71 := xm_t71 hM1 x1 (by omega) (by omega)
          have t70 := xm_t70 hM1 x1 (by omega) (by omega)
          have q6 := xm_mulq (p := x6) (q := M1 71 x1) (by omega) (by omega) (by omega) (by omega)
          have q7 : x7 ≤ 400 → 0 ≤ x7 * M1 70 x1 ∧ x7 * M1 70 x1 ≤ 800000 := fun h => xm_mulq (by omega) (by omega) (by omega) (by omega)
          refine hgo.1 46 [28, 43] 43 _ _ _ ?_
          refine And.intro ?_ ?_
          · intro (c1 : (M1 60 16) < x7)
            show Q 28 [(6, (0, 0, 11, 401, x6 + 1)), (7, (0, 0, 10, 401, x7)), (4, (1, 0, 0, 800000, x4)), (3, (0, 0, 0, 400, x3)), (2, (0, 0, 0, 400, x2)), (1, (0, 0, 0, 7, x1)), (0, (2, 60, 0, 0, 0))] [] M1
            refine hgo.2.1 28 _ [(6, (0, 0, 10, 401, x6 + 1)), (4, (1, 0, 0, 800000, x4)), (3, (0, 0, 0, 400, x3)), (2, (0, 0, 0, 400, x2)), (1, (0, 0, 0, 7, x1)), (0, (2, 60, 0, 0, 0))] _ _ (xa_subI rfl rfl (fun _ _ _ _ => by omega) (xa_subL rfl rfl (fun _ _ _ _ => by omega) (xa_subI rfl rfl (fun _ _ _ _ => by omega) (xa_subI rfl rfl (fun _ _ _ _ => by omega) (xa_subI rfl rfl (fun _ _ _ _ => by omega) (xa_subR rfl xa_sub0)))))) ?_
            exact ih0 (x6 + 1) x4 x3 x2 x1 M1 (by omega) (by omega) (by omega) (by omega) (by omega) hc (by omega) (by omega) (by omega) (by rcases hB1 with hB1 | ⟨g1, g2, g3, g4⟩; exact absurd hB1.1.2 (by omega); exact Or.inr ⟨g1, g2, g3, nr_Ti (show M 60 16 < x7 by omega) g4⟩) (by omega)
          · intro (c1 : x7 ≤ (M1 60 16))
            show xa_C xm_I A h0 _ 56 [(1, 0, (-802000), 800000, (x6 * (M1 71 x1)) - (x7 * (M1 70 x1)))] M1 _
            refine ct_absb 802000 (by decide) (by decide) (by decide) (fun a2 ea2 => ?_)
            have ea : a2 = nr_d (M 70 x1) (M 71 x1) x6 x7 := by
              rw [ea2, i71, i70]
              rfl
            refine And.intro ?_ ?_
            · intro (c3 : x2 ≤ 0)
              show Q 43 [(7, (0, 0, 11, 402, x7 + 1)), (4, (1, 0, 0, 802000, a2)), (3, (0, 0, 10, 401, x7)), (2, (0, 0, 10, 400, x6)), (8, (1, 0, 0, 802000, a2)), (6, (0, 0, 10, 400, x6)), (1, (0, 0, 0, 7, x1)), (0, (2, 60, 0, 0, 0))] [] M1
              refine hgo.2.1 43 _ [(7, (0, 0, 10, 401, x7 + 1)), (6, (0, 0, 10, 400, x6)), (4, (1, 0, 0, 800000, a2)), (3, (0, 0, 0, 400, x7)), (2, (0, 0, 0, 400, x6)), (1, (0, 0, 0, 7, x1)), (0, (2, 60, 0, 0, 0))] _ _ (xa_subI rfl rfl (fun _ _ _ _ => by omega) (xa_subI rfl rfl (fun _ _ _ _ => by omega) (xa_subL rfl rfl (fun _ _ _ _ => by omega) (xa_subI rfl rfl (fun _ _ _ _ => by omega) (xa_subI rfl rfl (fun _ _ _ _ => by omega) (xa_subI rfl rfl (fun _ _ _ _ => by omega) (xa_subR rfl xa_sub0))))))) ?_
              exact ih1 (x7 + 1) a2 x7 x6 M1 (by omega) (by omega) (by omega) (by omega) (by omega) (by omega) hc (by omega) (by omega) (by omega) (Or.inr ⟨by omega, by omega, ea, (by rcases hB1 with hB1 | hB1; exact nr_Tf hB1.1.1 hB1.1.2; exact absurd c3 (by omega))⟩) (by omega)
            · intro (c3 : 0 < x2)
              show xa_C xm_I A h0 _ 260 [(1, 0, 0, 802000, a2), (0, 0, 10, 400, x6), (0, 0, 10, 401, x7), (1, 0, 0, 800000, x4), (0, 0, 0, 400, x2), (0, 0, 0, 400, x3)] M1 _
              refine ct_isNearerF (by omega) (by omega) (by omega) (by omega) (by omega) (by omega) (fun r4 br4 er4 => ?_)
              refine And.intro ?_ ?_
              · intro (c5 : ¬ r4 = 0)
                show Q 43 [(7, (0, 0, 11, 402, x7 + 1)), (4, (1, 0, 0, 802000, a2)), (3, (0, 0, 10, 401, x7)), (2, (0, 0, 10, 400, x6)), (8, (1, 0, 0, 802000, a2)), (6, (0, 0, 10, 400, x6)), (1, (0, 0, 0, 7, x1)), (0, (2, 60, 0, 0, 0))] [] M1
                refine hgo.2.1 43 _ [(7, (0, 0, 10, 401, x7 + 1)), (6, (0, 0, 10, 400, x6)), (4, (1, 0, 0, 800000, a2)), (3, (0, 0, 0, 400, x7)), (2, (0, 0, 0, 400, x6)), (1, (0, 0, 0, 7, x1)), (0, (2, 60, 0, 0, 0))] _ _ (xa_subI rfl rfl (fun _ _ _ _ => by omega) (xa_subI rfl rfl (fun _ _ _ _ => by omega) (xa_subL rfl rfl (fun _ _ _ _ => by omega) (xa_subI rfl rfl (fun _ _ _ _ => by omega) (xa_subI rfl rfl (fun _ _ _ _ => by omega) (xa_subI rfl rfl (fun _ _ _ _ => by omega) (xa_subR rfl xa_sub0))))))) ?_
                rcases hB1 with hB1 | ⟨g1, g2, g3, g4⟩
                · exact absurd hB1.2 (by omega)
                · exact ih1 (x7 + 1) a2 x7 x6 M1 (by omega) (by omega) (by omega) (by omega) (by omega) (by omega) hc (by omega) (by omega) (by omega) (Or.inr ⟨by omega, by omega, ea, nr_T1 (by omega) (by omega) (by omega) g4 (by have q := er4.mp (by omega); rw [ea, g3] at q; unfold nr_N; omega)⟩) (by omega)
              · intro (c5 : r4 = 0)
                show Q 43 [(7, (0, 0, 11, 402, x7 + 1)), (8, (1, 0, 0, 802000, a2)), (6, (0, 0, 10, 400, x6)), (4, (1, 0, 0, 800000, x4)), (3, (0, 0, 0, 400, x3)), (2, (0, 0, 0, 400, x2)), (1, (0, 0, 0, 7, x1)), (0, (2, 60, 0, 0, 0))] [] M1
                refine hgo.2.1 43 _ [(7, (0, 0, 10, 401, x7 + 1)), (6, (0, 0, 10, 400, x6)), (4, (1, 0, 0, 800000, x4)), (3, (0, 0, 0, 400, x3)), (2, (0, 0, 0, 400, x2)), (1, (0, 0, 0, 7, x1)), (0, (2, 60, 0, 0, 0))] _ _ (xa_subI rfl rfl (fun _ _ _ _ => by omega) (xa_subI rfl rfl (fun _ _ _ _ => by omega) (xa_subL rfl rfl (fun _ _ _ _ => by omega) (xa_subI rfl rfl (fun _ _ _ _ => by omega) (xa_subI rfl rfl (fun _ _ _ _ => by omega) (xa_subI rfl rfl (fun _ _ _ _ => by omega) (xa_subR rfl xa_sub0))))))) ?_
                rcases hB1 with hB1 | ⟨g1, g2, g3, g4⟩
                · exact absurd hB1.2 (by omega)
                · exact ih1 (x7 + 1) x4 x3 x2 M1 (by omega) (by omega) (by omega) (by omega) (by omega) (by omega) hc (by omega) (by omega) (by omega) (Or.inr ⟨g1, g2, g3, nr_T0 g4 (fun hN => by have q := er4.mpr (by rw [ea, g3]; unfold nr_N at hN; omega); omega)⟩) (by omega)
      refine hgo.1 57 [28, 43] 28 _ _ _ ?_
      refine And.intro ?_ ?_
      · intro (c1 : (M1 60 16) < x6)
        have hq : nr_Q (M 60 15) (M 60 16) (M 70 x1) (M 71 x1) x2 x3 := by
          rcases hB with hB | ⟨g1, g2, g3, g4⟩
          · exact absurd hB.1 (by omega)
          · rw [show x6 = M 60 16 + 1 by omega] at g4
            exact nr_TQ g1 g2 g4
        show xa_C xm_I A h0 _ 231 [(2, 60, 0, 0, 0), (1, 0, 0, 400, x2)] (xa_up M1 60 20 0) _
        refine ct_tell (n := 0) (by first | rfl | (simp [xa_up]; done) | omega) (by omega) (by omega) ?_
        show xa_C xm_I A h0 _ 231 [(2, 60, 0, 0, 0), (1, 0, 0, 400, x3)] (xa_up (xa_up (xa_up M1 60 20 0) 74 0 x2) 60 20 1) _
        refine ct_tell (n := 1) (by first | rfl | (simp [xa_up]; done) | omega) (by omega) (by omega) ?_
        show xa_C xm_I A h0 _ 230 [(2, 60, 0, 0, 0), (1, 0, (-800000), 800000, (x2 * (M1 71 x1)) - (x3 * (M1 70 x1))), (1, 0, 0, 800000, x3 * (M1 71 x1))] (xa_up (xa_up (xa_up (xa_up (xa_up M1 60 20 0) 74 0 x2) 60 20 1) 74 1 x3) 60 20 2) _
        refine ct_tellPart (n := 2) (by first | rfl | (simp [xa_up]; done)) (by decide) (by decide) (by decide) (by omega) (fun g2 eg2 pg2 qg2 => ?_)
        refine And.intro ?_ ?_
        · intro (c3 : ((x2 * (M1 71 x1)) - (x3 * (M1 70 x1))) ≤ 0)
          refine And.intro ?_ ?_
          · intro (c4 : 0 ≤ ((x2 * (M1 71 x1)) - (x3 * (M1 70 x1))))
            show post (some (0, 0, 0, 0, 0)) (xa_up (xa_up (xa_up (xa_up (xa_up (xa_up (xa_up (xa_up (xa_up M1 60 20 0) 74 0 x2) 60 20 1) 74 1 x3) 60 20 2) 74 2 (((x2 * (M1 71 x1)) - (x3 * (M1 70 x1))).tdiv g2)) 60 20 3) 74 3 ((x3 * (M1 71 x1)).tdiv g2)) 60 20 4)
            exact k _ _ _ _ (by rw [← hT.1]; exact Or.inr ⟨⟨by omega, by omega⟩, x2, x3, hq, by rw [← j71, ← j70]; unfold nr_s; omega⟩) (xm_cor_f (by omega) (xm_cor_a rfl (xm_cor_f (by omega) (xm_cor_a rfl (xm_cor_f (by omega) (xm_cor_a rfl (xm_cor_f (by omega) (xm_cor_a rfl (xm_cor_f (by omega) hc)))))))))
          · intro (c4 : ((x2 * (M1 71 x1)) - (x3 * (M1 70 x1))) < 0)
            show post (some (0, 0, 2, 2, 2)) (xa_up (xa_up (xa_up (xa_up (xa_up (xa_up (xa_up (xa_up (xa_up M1 60 20 0) 74 0 x2) 60 20 1) 74 1 x3) 60 20 2) 74 2 (((x2 * (M1 71 x1)) - (x3 * (M1 70 x1))).tdiv g2)) 60 20 3) 74 3 ((x3 * (M1 71 x1)).tdiv g2)) 60 20 4)
            exact k _ _ _ _ (by rw [← hT.1]; exact Or.inr ⟨⟨by omega, by omega⟩, x2, x3, hq, by rw [← j71, ← j70]; unfold nr_s; omega⟩) (xm_cor_f (by omega) (xm_cor_a rfl (xm_cor_f (by omega) (xm_cor_a rfl (xm_cor_f (by omega) (xm_cor_a rfl (xm_cor_f (by omega) (xm_cor_a rfl (xm_cor_f (by omega) hc)))))))))
        · intro (c3 : 0 < ((x2 * (M1 71 x1)) - (x3 * (M1 70 x1))))
          show post (some (0, 0, 1, 1, 1)) (xa_up (xa_up (xa_up (xa_up (xa_up (xa_up (xa_up (xa_up (xa_up M1 60 20 0) 74 0 x2) 60 20 1) 74 1 x3) 60 20 2) 74 2 (((x2 * (M1 71 x1)) - (x3 * (M1 70 x1))).tdiv g2)) 60 20 3) 74 3 ((x3 * (M1 71 x1)).tdiv g2)) 60 20 4)
          exact k _ _ _ _ (by rw [← hT.1]; exact Or.inr ⟨⟨by omega, by omega⟩, x2, x3, hq, by rw [← j71, ← j70]; unfold nr_s; omega⟩) (xm_cor_f (by omega) (xm_cor_a rfl (xm_cor_f (by omega) (xm_cor_a rfl (xm_cor_f (by omega) (xm_cor_a rfl (xm_cor_f (by omega) (xm_cor_a rfl (xm_cor_f (by omega) hc)))))))))
      · intro (c1 : x6 ≤ (M1 60 16))
        show Q 43 [(7, (0, 0, 10, 400, M1 60 15)), (6, (0, 0, 10, 401, x6)), (4, (1, 0, 0, 800000, x4)), (3, (0, 0, 0, 400, x3)), (2, (0, 0, 0, 400, x2)), (1, (0, 0, 0, 7, x1)), (0, (2, 60, 0, 0, 0))] [] M1
        refine hgo.2.1 43 _ [(7, (0, 0, 10, 401, M1 60 15)), (6, (0, 0, 10, 400, x6)), (4, (1, 0, 0, 800000, x4)), (3, (0, 0, 0, 400, x3)), (2, (0, 0, 0, 400, x2)), (1, (0, 0, 0, 7, x1)), (0, (2, 60, 0, 0, 0))] _ _ (xa_subI rfl rfl (fun _ _ _ _ => by omega) (xa_subI rfl rfl (fun _ _ _ _ => by omega) (xa_subL rfl rfl (fun _ _ _ _ => by omega) (xa_subI rfl rfl (fun _ _ _ _ => by omega) (xa_subI rfl rfl (fun _ _ _ _ => by omega) (xa_subI rfl rfl (fun _ _ _ _ => by omega) (xa_subR rfl xa_sub0))))))) ?_
        exact loop1 402 (M1 60 15) x4 x3 x2 M1 (by omega) (by omega) (by omega) (by omega) (by omega) (by omega) hc (by omega) (by omega) (by omega) (by rw [e15]; rcases hB with hB | hB; exact Or.inl ⟨⟨hB.1, rfl⟩, hB.2⟩; exact Or.inr hB) (by omega)
  refine hgo.1 13 [15] 0 _ _ _ ?_
  show xa_C xm_I A h0 _ 239 [(2, 60, 0, 0, 0), (0, 0, (-2147483648), 2147483647, a)] (xa_up M 60 21 0) _
  refine ct_isPeriod ?_ ?_
  · intro (i1 : 0 ≤ a ∧ a < (M 60 11))
    show Q 15 [(0, (2, 60, 0, 0, 0)), (1, (0, 0, (-2147483648), 2147483647, a))] [] (xa_up M 60 21 0)
    refine hgo.2.1 15 _ [(1, (0, 0, 0, 7, a)), (0, (2, 60, 0, 0, 0))] _ _ (xa_subI rfl rfl (fun _ _ _ _ => by omega) (xa_subR rfl xa_sub0)) ?_
    refine hgo.1 14 [28, 43] 15 _ _ _ ?_
    show Q 28 [(6, (0, 0, 10, 400, M 60 15)), (4, (1, 0, 0, 0, 0)), (3, (0, 0, 0, 0, 0)), (2, (0, 0, 0, 0, 0)), (1, (0, 0, 0, 7, a)), (0, (2, 60, 0, 0, 0))] [] (xa_up M 60 21 0)
    refine hgo.2.1 28 _ [(6, (0, 0, 10, 401, M 60 15)), (4, (1, 0, 0, 800000, 0)), (3, (0, 0, 0, 400, 0)), (2, (0, 0, 0, 400, 0)), (1, (0, 0, 0, 7, a)), (0, (2, 60, 0, 0, 0))] _ _ (xa_subI rfl rfl (fun _ _ _ _ => by omega) (xa_subL rfl rfl (fun _ _ _ _ => by omega) (xa_subI rfl rfl (fun _ _ _ _ => by omega) (xa_subI rfl rfl (fun _ _ _ _ => by omega) (xa_subI rfl rfl (fun _ _ _ _ => by omega) (xa_subR rfl xa_sub0)))))) ?_
    exact loop0 402 (M 60 15) 0 0 0 a (xa_up M 60 21 0) (by omega) (by omega) (by omega) (by omega) (by omega) (xm_cor_f (by omega) xm_cor_r) (by omega) (by omega) (by omega) (Or.inl ⟨rfl, rfl⟩) (by omega)
  · intro (i1 : ¬ (0 ≤ a ∧ a < (M 60 11)))
    show post (some (0, 0, (-1), (-1), (-1))) (xa_up M 60 21 0)
    exact k _ _ _ _ (Or.inl ⟨i1, rfl⟩) (xm_cor_f (by omega) xm_cor_r)

