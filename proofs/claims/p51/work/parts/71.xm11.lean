-- loops over teeth, plates, signs and months (made by wip/p24/xa/xm11.py)
set_option maxRecDepth 20000
theorem xm_sq (x : Int) : 0 ≤ x * x := by
  rcases Int.le_total 0 x with h | h
  · exact Int.mul_nonneg h h
  · have := Int.mul_nonneg (show 0 ≤ -x by omega) (show 0 ≤ -x by omega)
    rw [Int.neg_mul_neg] at this
    exact this
theorem ct_has {A : Nat → Nat} {h0 : g_H} {d : Nat} {M : xa_M} {post : Option xa_V → xa_M → Prop} {I : xa_I} {l0 u0 l1 u1 a b : Int} (k : ∀ r : Int, (r = 0 ∨ r = 1) → (r = 1 ↔ xa_ib 3 (xa_ib 7 a b) 1 = 1) → post (some (0, 0, 0, 1, r)) M) : xa_C I A h0 (d + 1) 248 [(0, 0, l0, u0, a), (0, 0, l1, u1, b)] M post := by
  refine xa_C_arg [(0, 0, (-2147483648), 2147483647, a), (0, 0, (-2147483648), 2147483647, b)] (xa_svI (fun _ _ _ _ => by omega) (xa_svI (fun _ _ _ _ => by omega) xa_sv0)) (xa_C_wk ?_)
  refine xa_meth (Q0 := (2, 2, false, 0, 0, 12)) (by decide +kernel) ⟨rfl, rfl⟩ (full := s_c_248) rfl rfl ?_
  intro hM hv Q hgo
  refine hgo.1 14 [] 0 _ _ _ ?_
  refine And.intro ?_ ?_
  · intro (c1 : ¬ (xa_ib 3 (xa_ib 7 a b) 1) = 1)
    show xa_wk post (some (0, 0, 0, 0, 0)) M
    exact xa_wkI 0 rfl (fun _ _ => by omega) (k 0 (by omega) (by omega))
  · intro (c1 : (xa_ib 3 (xa_ib 7 a b) 1) = 1)
    show xa_wk post (some (0, 0, 1, 1, 1)) M
    exact xa_wkI 1 rfl (fun _ _ => by omega) (k 1 (by omega) (by omega))
theorem ct_apart {A : Nat → Nat} {h0 : g_H} {d : Nat} {M : xa_M} {post : Option xa_V → xa_M → Prop} {l1 u1 l2 u2 : Int} {a b : Int} (ha0 : 0 ≤ a) (ha1 : a ≤ 9) (hb0 : 0 ≤ b) (hb1 : b ≤ 9) (k : ∀ r : Int, r = (M 68 a - M 68 b) * (M 68 a - M 68 b) + (M 69 a - M 69 b) * (M 69 a - M 69 b) → post (some (0, 0, 0, 2000000, r)) M) : xa_C xm_I A h0 (d + 1) 265 [(2, 60, 0, 0, 0), (0, 0, l1, u1, a), (0, 0, l2, u2, b)] M post := by
  refine xa_C_arg [(2, 60, 0, 0, 0), (0, 0, 0, 9, a), (0, 0, 0, 9, b)] (xa_svR (xa_svI (fun _ _ _ _ => by omega) (xa_svI (fun _ _ _ _ => by omega) xa_sv0))) (xa_C_wk ?_)
  refine xa_meth (Q0 := (5, 1, false, 0, 0, 12)) (by decide +kernel) ⟨rfl, rfl⟩ (full := s_c_265) rfl rfl ?_
  intro hM hv Q hgo
  have x1 := xm_t68 hM a (by omega) (by omega)
  have x2 := xm_t68 hM b (by omega) (by omega)
  have x3 := xm_t69 hM a (by omega) (by omega)
  have x4 := xm_t69 hM b (by omega) (by omega)
  have m1 := xa_mul_ok (p := -1000) (q := 1000) (r := -1000) (s := 1000) (m := M 68 a - M 68 b) (n := M 68 a - M 68 b) (by omega) (by omega) (by omega) (by omega)
  have m2 := xa_mul_ok (p := -1000) (q := 1000) (r := -1000) (s := 1000) (m := M 69 a - M 69 b) (n := M 69 a - M 69 b) (by omega) (by omega) (by omega) (by omega)
  have n1 := xm_sq (M 68 a - M 68 b)
  have n2 := xm_sq (M 69 a - M 69 b)
  have e1 : xa_mhi (-1000) 1000 (-1000) 1000 = 1000000 := by decide
  rw [e1] at m1 m2
  refine hgo.1 32 [] 0 _ _ _ ?_
  show xa_wk post (some (0, 0, (-2000000), 2000000, (((M 68 a) - (M 68 b)) * ((M 68 a) - (M 68 b))) + (((M 69 a) - (M 69 b)) * ((M 69 a) - (M 69 b))))) M
  exact xa_wkI _ rfl (fun _ _ => by omega) (k _ rfl)
theorem ct_areNear {A : Nat → Nat} {h0 : g_H} {d : Nat} {M : xa_M} {post : Option xa_V → xa_M → Prop} {l1 u1 l2 u2 : Int} {a b : Int} (ha0 : 0 ≤ a) (ha1 : a ≤ 13) (hb0 : 0 ≤ b) (hb1 : b ≤ 13) (k : ∀ r : Int, (r = 0 ∨ r = 1) → post (some (0, 0, 0, 1, r)) M) : xa_C xm_I A h0 (d + 2) 264 [(2, 60, 0, 0, 0), (0, 0, l1, u1, a), (0, 0, l2, u2, b)] M post := by
  refine xa_C_arg [(2, 60, 0, 0, 0), (0, 0, 0, 13, a), (0, 0, 0, 13, b)] (xa_svR (xa_svI (fun _ _ _ _ => by omega) (xa_svI (fun _ _ _ _ => by omega) xa_sv0))) (xa_C_wk ?_)
  refine xa_meth (Q0 := (4, 2, false, 0, 0, 12)) (by decide +kernel) ⟨rfl, rfl⟩ (full := s_c_264) rfl rfl ?_
  intro hM hv Q hgo
  have x1 := xm_t64 hM a (by omega) (by omega)
  have x2 := xm_t64 hM b (by omega) (by omega)
  refine hgo.1 40 [] 0 _ _ _ ?_
  refine And.intro ?_ ?_
  · intro (c1 : (M 64 a) = (M 64 b))
    show xa_wk post (some (0, 0, 0, 0, 0)) M
    exact xa_wkI 0 rfl (fun _ _ => by omega) (k 0 (by omega))
  · intro (c1 : ¬ (M 64 a) = (M 64 b))
    show xa_C xm_I A h0 _ 265 [(2, 60, 0, 0, 0), (0, 0, 0, 9, M 64 a), (0, 0, 0, 9, M 64 b)] M _
    refine ct_apart (by omega) (by omega) (by omega) (by omega) (fun r2 br2 => ?_)
    refine And.intro ?_ ?_
    · intro (c3 : (((M 63 a) + (M 63 b)) * ((M 63 a) + (M 63 b))) ≤ r2)
      show xa_wk post (some (0, 0, 0, 0, 0)) M
      exact xa_wkI 0 rfl (fun _ _ => by omega) (k 0 (by omega))
    · intro (c3 : r2 < (((M 63 a) + (M 63 b)) * ((M 63 a) + (M 63 b))))
      show xa_wk post (some (0, 0, 1, 1, 1)) M
      exact xa_wkI 1 rfl (fun _ _ => by omega) (k 1 (by omega))
theorem ct_against {A : Nat → Nat} {h0 : g_H} {d : Nat} {M : xa_M} {post : Option xa_V → xa_M → Prop} {l1 u1 : Int} {a : Int} (ha0 : 0 ≤ a) (ha1 : a ≤ 222) (k : ∀ r : Int, post (some (0, 0, -2147483648, 2147483647, r)) M) : xa_C xm_I A h0 (d + 1) 287 [(2, 60, 0, 0, 0), (0, 0, l1, u1, a)] M post := by
  refine xa_C_arg [(2, 60, 0, 0, 0), (0, 0, 0, 222, a)] (xa_svR (xa_svI (fun _ _ _ _ => by omega) xa_sv0)) ?_
  refine xa_meth (Q0 := (4, 1, false, 0, 0, 12)) (by decide +kernel) ⟨rfl, rfl⟩ (full := s_c_287) rfl rfl ?_
  intro hM hv Q hgo
  have b56 := xm_f56 hM
  have loop0 : ∀ (n : Nat) (x3 x2 : Int), 0 ≤ x3 ∧ x3 ≤ 20 → 20 - x3 < (n : Int) → Q 4 [(3, (0, 0, 0, 20, x3)), (2, (0, 0, (-2147483648), 2147483647, x2)), (1, (0, 0, 0, 222, a)), (0, (2, 60, 0, 0, 0))] [] M := by
    intro n
    induction n with
    | zero => intro x3 x2 b3 hms; omega
    | succ n ih0 =>
      intro x3 x2 b3 hms0
      refine hgo.1 33 [4] 4 _ _ _ ?_
      refine And.intro ?_ ?_
      · intro (c1 : (M 60 56) ≤ x3)
        show post (some (0, 0, (-2147483648), 2147483647, x2)) M
        exact k _
      · intro (c1 : x3 < (M 60 56))
        refine And.intro (show 0 ≤ x3 ∧ x3 < 20 by omega) ?_
        refine And.intro (show 0 ≤ x3 ∧ x3 < 20 by omega) ?_
        refine And.intro ?_ ?_
        · intro (c2 : (M 96 ((a + (M 97 x3)) % 223)) = (M 98 x3))
          show Q 4 [(3, (0, 0, 1, 21, x3 + 1)), (2, (0, 0, (-2147483648), 2147483647, x2)), (1, (0, 0, 0, 222, a)), (0, (2, 60, 0, 0, 0))] [] M
          refine hgo.2.1 4 _ [(3, (0, 0, 0, 20, x3 + 1)), (2, (0, 0, (-2147483648), 2147483647, x2)), (1, (0, 0, 0, 222, a)), (0, (2, 60, 0, 0, 0))] _ _ (xa_subI rfl rfl (fun _ _ _ _ => by omega) (xa_subI rfl rfl (fun _ _ _ _ => by omega) (xa_subI rfl rfl (fun _ _ _ _ => by omega) (xa_subR rfl xa_sub0)))) ?_
          exact ih0 (x3 + 1) x2 (by omega) (by omega)
        · intro (c2 : ¬ (M 96 ((a + (M 97 x3)) % 223)) = (M 98 x3))
          show Q 4 [(3, (0, 0, 1, 21, x3 + 1)), (2, (0, 0, (-2147483648), 2147483647, xa_ib 4 x2 (xa_ib 6 1 x3))), (1, (0, 0, 0, 222, a)), (0, (2, 60, 0, 0, 0))] [] M
          refine hgo.2.1 4 _ [(3, (0, 0, 0, 20, x3 + 1)), (2, (0, 0, (-2147483648), 2147483647, xa_ib 4 x2 (xa_ib 6 1 x3))), (1, (0, 0, 0, 222, a)), (0, (2, 60, 0, 0, 0))] _ _ (xa_subI rfl rfl (fun _ _ _ _ => by omega) (xa_subI rfl rfl (fun _ _ _ _ => by omega) (xa_subI rfl rfl (fun _ _ _ _ => by omega) (xa_subR rfl xa_sub0)))) ?_
          exact ih0 (x3 + 1) (xa_ib 4 x2 (xa_ib 6 1 x3)) (by omega) (by omega)
  refine hgo.1 9 [4] 0 _ _ _ ?_
  show Q 4 [(3, (0, 0, 0, 0, 0)), (2, (0, 0, 0, 0, 0)), (0, (2, 60, 0, 0, 0)), (1, (0, 0, 0, 222, a))] [] M
  refine hgo.2.1 4 _ [(3, (0, 0, 0, 20, 0)), (2, (0, 0, (-2147483648), 2147483647, 0)), (1, (0, 0, 0, 222, a)), (0, (2, 60, 0, 0, 0))] _ _ (xa_subI rfl rfl (fun _ _ _ _ => by omega) (xa_subI rfl rfl (fun _ _ _ _ => by omega) (xa_subI rfl rfl (fun _ _ _ _ => by omega) (xa_subR rfl xa_sub0)))) ?_
  exact loop0 21 0 0 (by omega) (by omega)
theorem ct_isWord {A : Nat → Nat} {h0 : g_H} {d : Nat} {M : xa_M} {post : Option xa_V → xa_M → Prop} {l1 u1 l2 u2 : Int} {a b : Int} (ha0 : 0 ≤ a) (ha1 : a ≤ 2000) (hb0 : 1 ≤ b) (hb1 : b ≤ 4) (k : ∀ r : Int, (r = 0 ∨ r = 1) → post (some (0, 0, 0, 1, r)) M) : xa_C xm_I A h0 (d + 1) 280 [(2, 60, 0, 0, 0), (0, 0, l1, u1, a), (0, 0, l2, u2, b)] M post := by
  refine xa_C_arg [(2, 60, 0, 0, 0), (0, 0, 0, 2000, a), (0, 0, 1, 4, b)] (xa_svR (xa_svI (fun _ _ _ _ => by omega) (xa_svI (fun _ _ _ _ => by omega) xa_sv0))) (xa_C_wk ?_)
  refine xa_meth (Q0 := (5, 2, false, 0, 0, 12)) (by decide +kernel) ⟨rfl, rfl⟩ (full := s_c_280) rfl rfl ?_
  intro hM hv Q hgo
  have loop0 : ∀ (n : Nat) (x4 x3 : Int), (-1) ≤ x4 ∧ x4 ≤ 3 → 0 ≤ x3 ∧ x3 ≤ 2000 → x4 + 1 < (n : Int) → Q 7 [(4, (0, 0, (-1), 3, x4)), (3, (0, 0, 0, 2000, x3)), (2, (0, 0, 1, 4, b)), (0, (2, 60, 0, 0, 0))] [] M := by
    intro n
    induction n with
    | zero => intro x4 x3 b4 b3 hms; omega
    | succ n ih0 =>
      intro x4 x3 b4 b3 hms0
      refine hgo.1 31 [7] 7 _ _ _ ?_
      refine And.intro ?_ ?_
      · intro (c1 : x4 < 0)
        refine And.intro ?_ ?_
        · intro (c2 : ¬ x3 = 0)
          show xa_wk post (some (0, 0, 0, 0, 0)) M
          exact xa_wkI 0 rfl (fun _ _ => by omega) (k 0 (by omega))
        · intro (c2 : x3 = 0)
          show xa_wk post (some (0, 0, 1, 1, 1)) M
          exact xa_wkI 1 rfl (fun _ _ => by omega) (k 1 (by omega))
      · intro (c1 : 0 ≤ x4)
        refine And.intro ?_ ?_
        · intro (c3 : x3 = 0)
          show xa_wk post (some (0, 0, 0, 0, 0)) M
          exact xa_wkI 0 rfl (fun _ _ => by omega) (k 0 (by omega))
        · intro (c3 : ¬ x3 = 0)
          refine And.intro (show 0 ≤ x4 ∧ x4 < 80 by omega) ?_
          refine And.intro ?_ ?_
          · intro (c4 : (M 73 x4) = 63)
            show Q 7 [(4, (0, 0, (-2), 2, x4 + (-1))), (3, (0, 0, 0, 2000, x3 / 10)), (2, (0, 0, 1, 4, b)), (0, (2, 60, 0, 0, 0))] [] M
            refine hgo.2.1 7 _ [(4, (0, 0, (-1), 3, x4 + (-1))), (3, (0, 0, 0, 2000, x3 / 10)), (2, (0, 0, 1, 4, b)), (0, (2, 60, 0, 0, 0))] _ _ (xa_subI rfl rfl (fun _ _ _ _ => by omega) (xa_subI rfl rfl (fun _ _ _ _ => by omega) (xa_subI rfl rfl (fun _ _ _ _ => by omega) (xa_subR rfl xa_sub0)))) ?_
            exact ih0 (x4 + (-1)) (x3 / 10) (by omega) (by omega) (by omega)
          · intro (c4 : ¬ (M 73 x4) = 63)
            refine And.intro (show 0 ≤ x4 ∧ x4 < 80 by omega) ?_
            refine And.intro ?_ ?_
            · intro (c5 : ((M 73 x4) - 48) = (x3 % 10))
              show Q 7 [(4, (0, 0, (-2), 2, x4 + (-1))), (3, (0, 0, 0, 2000, x3 / 10)), (2, (0, 0, 1, 4, b)), (0, (2, 60, 0, 0, 0))] [] M
              refine hgo.2.1 7 _ [(4, (0, 0, (-1), 3, x4 + (-1))), (3, (0, 0, 0, 2000, x3 / 10)), (2, (0, 0, 1, 4, b)), (0, (2, 60, 0, 0, 0))] _ _ (xa_subI rfl rfl (fun _ _ _ _ => by omega) (xa_subI rfl rfl (fun _ _ _ _ => by omega) (xa_subI rfl rfl (fun _ _ _ _ => by omega) (xa_subR rfl xa_sub0)))) ?_
              exact ih0 (x4 + (-1)) (x3 / 10) (by omega) (by omega) (by omega)
            · intro (c5 : ¬ ((M 73 x4) - 48) = (x3 % 10))
              show xa_wk post (some (0, 0, 0, 0, 0)) M
              exact xa_wkI 0 rfl (fun _ _ => by omega) (k 0 (by omega))
  refine hgo.1 11 [7] 0 _ _ _ ?_
  show Q 7 [(4, (0, 0, 0, 3, b - 1)), (3, (0, 0, 0, 2000, a)), (0, (2, 60, 0, 0, 0)), (1, (0, 0, 0, 2000, a)), (2, (0, 0, 1, 4, b))] [] M
  refine hgo.2.1 7 _ [(4, (0, 0, (-1), 3, b - 1)), (3, (0, 0, 0, 2000, a)), (2, (0, 0, 1, 4, b)), (0, (2, 60, 0, 0, 0))] _ _ (xa_subI rfl rfl (fun _ _ _ _ => by omega) (xa_subI rfl rfl (fun _ _ _ _ => by omega) (xa_subI rfl rfl (fun _ _ _ _ => by omega) (xa_subR rfl xa_sub0)))) ?_
  exact loop0 5 (b - 1) a (by omega) (by omega) (by omega)
