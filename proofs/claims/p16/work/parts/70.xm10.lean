-- joined: 70.xm10, 71.xm11
section
-- the book (made by wip/p24/xa/xm10.py)
set_option maxRecDepth 20000
/-- only at and wrong may be others -/
def xm_f2 (M M1 : xa_M) : Prop := ∀ q j, ¬ (q = 60 ∧ (j = 41 ∨ j = 42)) → M1 q j = M q j
def xm_c18 (M M1 : xa_M) : Prop := ∀ q j, ¬ xm_scr q j → ¬ (q = 60 ∧ j = 18) → M1 q j = M q j
theorem xm_c18_u {M M1 : xa_M} {q : Nat} {j v : Int} (hs : ((74 ≤ q ∧ q ≤ 95) ∨ (q = 60 ∧ ((20 ≤ j ∧ j ≤ 53) ∨ j = 68))) ∨ (q = 60 ∧ j = 18)) (h : xm_c18 M M1) : xm_c18 M (xa_up M1 q j v) := fun q' j' hn hn2 => by
  rw [xa_up_ne (fun e => by
    rcases hs with hs | hs
    · exact hn (by rw [e.1, e.2]; exact hs)
    · exact hn2 (by rw [e.1, e.2]; exact hs))]
  exact h q' j' hn hn2
theorem xm_c18_f {M M1 M2 : xa_M} (h : xm_c18 M M1) (h2 : xm_f2 M1 M2) : xm_c18 M M2 := fun q j hn hn2 => (h2 q j (fun e => hn (by omega))).trans (h q j hn hn2)
theorem xm_c18_I {M M1 : xa_M} (hI : xm_Inv M) (h : xm_c18 M M1) : xm_Inv M1 := by
  refine xm_Inv_b (M := M) (fun j => h 104 j (by omega) (by omega)) (fun j => h 105 j (by omega) (by omega)) hI (fun w w0 w1 => ?_) (fun m m0 m1 => ?_) (fun p p0 p1 => ?_) ?_
  · rw [h 60 0 (by omega) (by omega)] at w1
    rw [h 61 w (by omega) (by omega), h 62 w (by omega) (by omega), h 63 w (by omega) (by omega)]
    exact hI.1 w w0 w1
  · rw [h 60 6 (by omega) (by omega)] at m1
    rw [h 66 m (by omega) (by omega), h 67 m (by omega) (by omega), h 60 0 (by omega) (by omega)]
    exact hI.2.1 m m0 m1
  · rw [h 60 11 (by omega) (by omega)] at p1
    rw [h 70 p (by omega) (by omega), h 71 p (by omega) (by omega)]
    exact hI.2.2.1 p p0 p1
  · rw [h 60 15 (by omega) (by omega), h 60 16 (by omega) (by omega)]
    exact hI.2.2.2.1
/-- the book is copied -/
def xm_bkc (M M1 : xa_M) (n p : Int) : Prop := (∀ q j, ¬ xm_scr q j → ¬ (q = 60 ∧ (j = 18 ∨ j = 11)) → ¬ (70 ≤ q ∧ q ≤ 72) → M1 q j = M q j) ∧ M1 60 11 = n ∧ (∀ x, 0 ≤ x → x < n → 1 ≤ M1 88 x ∧ 1 ≤ M1 89 x) ∧ (∀ x, 0 ≤ x → x < p → 1 ≤ M1 70 x ∧ 1 ≤ M1 71 x)
theorem xm_bkc_I {M M1 : xa_M} {n : Int} (hI : xm_Inv M) (h : xm_bkc M M1 n n) : xm_Inv M1 := by
  obtain ⟨h1, h2, h3, h4⟩ := h
  refine xm_Inv_b (M := M) (fun j => h1 104 j (by omega) (by omega) (by omega)) (fun j => h1 105 j (by omega) (by omega) (by omega)) hI (fun w w0 w1 => ?_) (fun m m0 m1 => ?_) (fun p p0 p1 => ?_) ?_
  · rw [h1 60 0 (by omega) (by omega) (by omega)] at w1
    rw [h1 61 w (by omega) (by omega) (by omega), h1 62 w (by omega) (by omega) (by omega), h1 63 w (by omega) (by omega) (by omega)]
    exact hI.1 w w0 w1
  · rw [h1 60 6 (by omega) (by omega) (by omega)] at m1
    rw [h1 66 m (by omega) (by omega) (by omega), h1 67 m (by omega) (by omega) (by omega), h1 60 0 (by omega) (by omega) (by omega)]
    exact hI.2.1 m m0 m1
  · exact h4 p p0 (by omega)
  · rw [h1 60 15 (by omega) (by omega) (by omega), h1 60 16 (by omega) (by omega) (by omega)]
    exact hI.2.2.2.1
theorem ct_here {A : Nat → Nat} {h0 : g_H} {d : Nat} {M : xa_M} {post : Option xa_V → xa_M → Prop} (k : ∀ r : Int, ((M 60 41 < M 60 40 ∧ M 60 41 < 60 ∧ r = M 73 (M 60 41)) ∨ (¬ (M 60 41 < M 60 40 ∧ M 60 41 < 60) ∧ r = -1)) → post (some (0, 0, -128, 127, r)) M) : xa_C xm_I A h0 (d + 1) 254 [(2, 60, 0, 0, 0)] M post := by
  refine xa_C_wk ?_
  refine xa_meth (Q0 := (1, 1, false, 0, 0, 12)) (by decide +kernel) ⟨rfl, rfl⟩ (full := s_c_254) rfl rfl ?_
  intro hM hv Q hgo
  have b41 := xm_f41 hM
  refine hgo.1 20 [] 0 _ _ _ ?_
  refine And.intro ?_ ?_
  · intro (c1 : (M 60 40) ≤ (M 60 41))
    show xa_wk post (some (0, 0, (-1), (-1), (-1))) M
    exact xa_wkI (-1) rfl (fun _ _ => by omega) (k _ (by omega))
  · intro (c1 : (M 60 41) < (M 60 40))
    refine And.intro ?_ ?_
    · intro (c2 : 60 ≤ (M 60 41))
      show xa_wk post (some (0, 0, (-1), (-1), (-1))) M
      exact xa_wkI (-1) rfl (fun _ _ => by omega) (k _ (by omega))
    · intro (c2 : (M 60 41) < 60)
      refine And.intro (show 0 ≤ (M 60 41) ∧ (M 60 41) < 80 by omega) ?_
      show xa_wk post (some (0, 0, (-128), 127, M 73 (M 60 41))) M
      exact xa_wkI (M 73 (M 60 41)) rfl (fun _ _ => by omega) (k _ (by omega))
theorem ct_fault {A : Nat → Nat} {h0 : g_H} {d : Nat} {M : xa_M} {post : Option xa_V → xa_M → Prop} {l1 u1 : Int} {a : Int} (ha : True) (k1 : M 60 42 = -1 → post none (xa_up M 60 42 a)) (k2 : ¬ M 60 42 = -1 → post none M) : xa_C xm_I A h0 (d + 1) 255 [(2, 60, 0, 0, 0), (0, 0, l1, u1, a)] M post := by
  refine xa_C_arg [(2, 60, 0, 0, 0), (0, 0, (-2147483648), 2147483647, a)] (xa_svR (xa_svI (fun _ _ _ _ => by omega) xa_sv0)) ?_
  refine xa_meth (Q0 := (2, 0, false, 0, 0, 12)) (by decide +kernel) ⟨rfl, rfl⟩ (full := s_c_255) rfl rfl ?_
  intro hM hv Q hgo
  refine hgo.1 12 [] 0 _ _ _ ?_
  refine And.intro ?_ ?_
  · intro (c1 : ¬ (M 60 42) = (-1))
    show post none M
    first | exact k1 c1 | exact k2 c1
  · intro (c1 : (M 60 42) = (-1))
    show post none (xa_up M 60 42 a)
    first | exact k1 c1 | exact k2 c1
end
section
-- loops over teeth, plates, signs and months (made by wip/p24/xa/xm11.py)
set_option maxRecDepth 20000
theorem xm_sq (x : Int) : 0 ≤ x * x := by
  rcases Int.le_total 0 x with h | h
  · exact Int.mul_nonneg h h
  · have := Int.mul_nonneg (show 0 ≤ -x by omega) (show 0 ≤ -x by omega)
    rw [Int.neg_mul_neg] at this
    exact this
theorem ct_has {A : Nat → Nat} {h0 : g_H} {d : Nat} {M : xa_M} {post : Option xa_V → xa_M → Prop} {I : xa_I} {l0 u0 l1 u1 a b : Int} (k : ∀ r : Int, (r = 0 ∨ r = 1) → (r = 1 ↔ xa_ib 3 (xa_ib 7 a b) 1 = 1) → post (some (0, 0, 0, 1, r)) M) : xa_C I A h0 (d + 1) 248 [(0, 0, l0, u0, a), (0, 0, l1, u1, b)] M post := by
  refine xa_C_arg [(0, 0, (-2147483648), 2147483647, a), (0, 0, (-2147483648), 2147483647, b)] (xa_svI (fun _ _ _ _ => by omega) (xa_svI (fun _ _ _ _ => by omega) xa_sv0)) (xa_C_wk ?_)
  refine xa_meth (Q0 := (2, 2, false, 0, 0, 12)) (by decide +kernel) ⟨rfl, rfl⟩ (full := s_c_248) rfl rfl ?_
  intro hM hv Q hgo
  refine hgo.1 14 [] 0 _ _ _ ?_
  refine And.intro ?_ ?_
  · intro (c1 : ¬ (xa_ib 3 (xa_ib 7 a b) 1) = 1)
    show xa_wk post (some (0, 0, 0, 0, 0)) M
    exact xa_wkI 0 rfl (fun _ _ => by omega) (k 0 (by omega) (by omega))
  · intro (c1 : (xa_ib 3 (xa_ib 7 a b) 1) = 1)
    show xa_wk post (some (0, 0, 1, 1, 1)) M
    exact xa_wkI 1 rfl (fun _ _ => by omega) (k 1 (by omega) (by omega))
theorem ct_apart {A : Nat → Nat} {h0 : g_H} {d : Nat} {M : xa_M} {post : Option xa_V → xa_M → Prop} {l1 u1 l2 u2 : Int} {a b : Int} (ha0 : 0 ≤ a) (ha1 : a ≤ 9) (hb0 : 0 ≤ b) (hb1 : b ≤ 9) (k : ∀ r : Int, r = (M 68 a - M 68 b) * (M 68 a - M 68 b) + (M 69 a - M 69 b) * (M 69 a - M 69 b) → post (some (0, 0, 0, 2000000, r)) M) : xa_C xm_I A h0 (d + 1) 265 [(2, 60, 0, 0, 0), (0, 0, l1, u1, a), (0, 0, l2, u2, b)] M post := by
  refine xa_C_arg [(2, 60, 0, 0, 0), (0, 0, 0, 9, a), (0, 0, 0, 9, b)] (xa_svR (xa_svI (fun _ _ _ _ => by omega) (xa_svI (fun _ _ _ _ => by omega) xa_sv0))) (xa_C_wk ?_)
  refine xa_meth (Q0 := (5, 1, false, 0, 0, 12)) (by decide +kernel) ⟨rfl, rfl⟩ (full := s_c_265) rfl rfl ?_
  intro hM hv Q hgo
  have x1 := xm_t68 hM a (by omega) (by omega)
  have x2 := xm_t68 hM b (by omega) (by omega)
  have x3 := xm_t69 hM a (by omega) (by omega)
  have x4 := xm_t69 hM b (by omega) (by omega)
  have m1 := xa_mul_ok (p := -1000) (q := 1000) (r := -1000) (s := 1000) (m := M 68 a - M 68 b) (n := M 68 a - M 68 b) (by omega) (by omega) (by omega) (by omega)
  have m2 := xa_mul_ok (p := -1000) (q := 1000) (r := -1000) (s := 1000) (m := M 69 a - M 69 b) (n := M 69 a - M 69 b) (by omega) (by omega) (by omega) (by omega)
  have n1 := xm_sq (M 68 a - M 68 b)
  have n2 := xm_sq (M 69 a - M 69 b)
  have e1 : xa_mhi (-1000) 1000 (-1000) 1000 = 1000000 := by decide
  rw [e1] at m1 m2
  refine hgo.1 32 [] 0 _ _ _ ?_
  show xa_wk post (some (0, 0, (-2000000), 2000000, (((M 68 a) - (M 68 b)) * ((M 68 a) - (M 68 b))) + (((M 69 a) - (M 69 b)) * ((M 69 a) - (M 69 b))))) M
  exact xa_wkI _ rfl (fun _ _ => by omega) (k _ rfl)
theorem ct_areNear {A : Nat → Nat} {h0 : g_H} {d : Nat} {M : xa_M} {post : Option xa_V → xa_M → Prop} {l1 u1 l2 u2 : Int} {a b : Int} (ha0 : 0 ≤ a) (ha1 : a ≤ 13) (hb0 : 0 ≤ b) (hb1 : b ≤ 13) (k : ∀ r : Int, (r = 0 ∨ r = 1) → post (some (0, 0, 0, 1, r)) M) : xa_C xm_I A h0 (d + 2) 264 [(2, 60, 0, 0, 0), (0, 0, l1, u1, a), (0, 0, l2, u2, b)] M post := by
  refine xa_C_arg [(2, 60, 0, 0, 0), (0, 0, 0, 13, a), (0, 0, 0, 13, b)] (xa_svR (xa_svI (fun _ _ _ _ => by omega) (xa_svI (fun _ _ _ _ => by omega) xa_sv0))) (xa_C_wk ?_)
  refine xa_meth (Q0 := (4, 2, false, 0, 0, 12)) (by decide +kernel) ⟨rfl, rfl⟩ (full := s_c_264) rfl rfl ?_
  intro hM hv Q hgo
  have x1 := xm_t64 hM a (by omega) (by omega)
  have x2 := xm_t64 hM b (by omega) (by omega)
  refine hgo.1 40 [] 0 _ _ _ ?_
  refine And.intro ?_ ?_
  · intro (c1 : (M 64 a) = (M 64 b))
    show xa_wk post (some (0, 0, 0, 0, 0)) M
    exact xa_wkI 0 rfl (fun _ _ => by omega) (k 0 (by omega))
  · intro (c1 : ¬ (M 64 a) = (M 64 b))
    show xa_C xm_I A h0 _ 265 [(2, 60, 0, 0, 0), (0, 0, 0, 9, M 64 a), (0, 0, 0, 9, M 64 b)] M _
    refine ct_apart (by omega) (by omega) (by omega) (by omega) (fun r2 br2 => ?_)
    refine And.intro ?_ ?_
    · intro (c3 : (((M 63 a) + (M 63 b)) * ((M 63 a) + (M 63 b))) ≤ r2)
      show xa_wk post (some (0, 0, 0, 0, 0)) M
      exact xa_wkI 0 rfl (fun _ _ => by omega) (k 0 (by omega))
    · intro (c3 : r2 < (((M 63 a) + (M 63 b)) * ((M 63 a) + (M 63 b))))
      show xa_wk post (some (0, 0, 1, 1, 1)) M
      exact xa_wkI 1 rfl (fun _ _ => by omega) (k 1 (by omega))
theorem ct_against {A : Nat → Nat} {h0 : g_H} {d : Nat} {M : xa_M} {post : Option xa_V → xa_M → Prop} {l1 u1 : Int} {a : Int} (ha0 : 0 ≤ a) (ha1 : a ≤ 222) (k : ∀ r : Int, post (some (0, 0, -2147483648, 2147483647, r)) M) : xa_C xm_I A h0 (d + 1) 287 [(2, 60, 0, 0, 0), (0, 0, l1, u1, a)] M post := by
  refine xa_C_arg [(2, 60, 0, 0, 0), (0, 0, 0, 222, a)] (xa_svR (xa_svI (fun _ _ _ _ => by omega) xa_sv0)) ?_
  refine xa_meth (Q0 := (4, 1, false, 0, 0, 12)) (by decide +kernel) ⟨rfl, rfl⟩ (full := s_c_287) rfl rfl ?_
  intro hM hv Q hgo
  have b56 := xm_f56 hM
  have loop0 : ∀ (n : Nat) (x3 x2 : Int), 0 ≤ x3 ∧ x3 ≤ 20 → 20 - x3 < (n : Int) → Q 4 [(3, (0, 0, 0, 20, x3)), (2, (0, 0, (-2147483648), 2147483647, x2)), (1, (0, 0, 0, 222, a)), (0, (2, 60, 0, 0, 0))] [] M := by
    intro n
    induction n with
    | zero => intro x3 x2 b3 hms; omega
    | succ n ih0 =>
      intro x3 x2 b3 hms0
      refine hgo.1 33 [4] 4 _ _ _ ?_
      refine And.intro ?_ ?_
      · intro (c1 : (M 60 56) ≤ x3)
        show post (some (0, 0, (-2147483648), 2147483647, x2)) M
        exact k _
      · intro (c1 : x3 < (M 60 56))
        refine And.intro (show 0 ≤ x3 ∧ x3 < 20 by omega) ?_
        refine And.intro (show 0 ≤ x3 ∧ x3 < 20 by omega) ?_
        refine And.intro ?_ ?_
        · intro (c2 : (M 96 ((a + (M 97 x3)) % 223)) = (M 98 x3))
          show Q 4 [(3, (0, 0, 1, 21, x3 + 1)), (2, (0, 0, (-2147483648), 2147483647, x2)), (1, (0, 0, 0, 222, a)), (0, (2, 60, 0, 0, 0))] [] M
          refine hgo.2.1 4 _ [(3, (0, 0, 0, 20, x3 + 1)), (2, (0, 0, (-2147483648), 2147483647, x2)), (1, (0, 0, 0, 222, a)), (0, (2, 60, 0, 0, 0))] _ _ (xa_subI rfl rfl (fun _ _ _ _ => by omega) (xa_subI rfl rfl (fun _ _ _ _ => by omega) (xa_subI rfl rfl (fun _ _ _ _ => by omega) (xa_subR rfl xa_sub0)))) ?_
          exact ih0 (x3 + 1) x2 (by omega) (by omega)
        · intro (c2 : ¬ (M 96 ((a + (M 97 x3)) % 223)) = (M 98 x3))
          show Q 4 [(3, (0, 0, 1, 21, x3 + 1)), (2, (0, 0, (-2147483648), 2147483647, xa_ib 4 x2 (xa_ib 6 1 x3))), (1, (0, 0, 0, 222, a)), (0, (2, 60, 0, 0, 0))] [] M
          refine hgo.2.1 4 _ [(3, (0, 0, 0, 20, x3 + 1)), (2, (0, 0, (-2147483648), 2147483647, xa_ib 4 x2 (xa_ib 6 1 x3))), (1, (0, 0, 0, 222, a)), (0, (2, 60, 0, 0, 0))] _ _ (xa_subI rfl rfl (fun _ _ _ _ => by omega) (xa_subI rfl rfl (fun _ _ _ _ => by omega) (xa_subI rfl rfl (fun _ _ _ _ => by omega) (xa_subR rfl xa_sub0)))) ?_
          exact ih0 (x3 + 1) (xa_ib 4 x2 (xa_ib 6 1 x3)) (by omega) (by omega)
  refine hgo.1 9 [4] 0 _ _ _ ?_
  show Q 4 [(3, (0, 0, 0, 0, 0)), (2, (0, 0, 0, 0, 0)), (0, (2, 60, 0, 0, 0)), (1, (0, 0, 0, 222, a))] [] M
  refine hgo.2.1 4 _ [(3, (0, 0, 0, 20, 0)), (2, (0, 0, (-2147483648), 2147483647, 0)), (1, (0, 0, 0, 222, a)), (0, (2, 60, 0, 0, 0))] _ _ (xa_subI rfl rfl (fun _ _ _ _ => by omega) (xa_subI rfl rfl (fun _ _ _ _ => by omega) (xa_subI rfl rfl (fun _ _ _ _ => by omega) (xa_subR rfl xa_sub0)))) ?_
  exact loop0 21 0 0 (by omega) (by omega)
end
