-- what is left: the pair that changes it (made by wip/u/mkbr.py)
set_option maxRecDepth 20000
/-- both sides have gone on; what is told beside the book is told anew -/
theorem lm_R_X {b : Bool} {U V U' V' : xa_M} (h : lm_R b (xj U V)) (e1 : ∀ q j, lm_C q j → q < 60 → ¬ lm_XC q j → U' q j = U q j) (e2 : ∀ q j, lm_C q j → ¬ q < 60 → ¬ lm_XC q j → V' q j = V q j) (hX : lm_X (xj U' V')) : lm_R b (xj U' V') := by
  refine ⟨lm_R0x h.1 (fun q j hC hS hq => e1 q j hC hq (fun e => hS (lm_XC_S e))) (fun q j hC hS hq => e2 q j hC hq (fun e => hS (lm_XC_S e))), lm_Sb_k (fun q j hc => ?_) h.2.1, hX⟩
  have hC : lm_C q j := lm_CS_C (lm_CSb_S hc)
  have hn : ¬ lm_XC q j := fun hx => by
    unfold lm_CSb at hc
    unfold lm_XC at hx
    omega
  unfold xj
  by_cases hq : q < 60
  · rw [if_pos hq, if_pos hq]
    exact e1 q j hC hq hn
  · rw [if_neg hq, if_neg hq]
    exact e2 q j hC hq hn
def ll_ok (a b c e n : Int) : Prop := 0 ≤ a ∧ a ≤ 9 ∧ 0 ≤ b ∧ b ≤ 9 ∧ 10 ≤ c ∧ c ≤ e ∧ e ≤ 400 ∧ n < 12
theorem cx_18_44 {b : Bool} {A : Nat → Nat} {h0 : g_H} {d : Nat} {M : xa_M} {post : Option xa_V → xa_M → Prop} {l1 u1 l2 u2 : Int} {i v : Int} (h1 : 0 ≤ i ∧ i < 12) (k1 : post none (xa_up M 44 i v)) : xa_C (xl_I b) A h0 (d + 1) 18 [(2, 44, 0, 0, 0), (0, 0, l1, u1, i), (0, 0, l2, u2, v)] M post := by
  refine xa_C_arg [(2, 44, 0, 0, 0), (0, 0, (-2147483648), 2147483647, i), (0, 0, (-2147483648), 2147483647, v)] (xa_svR (xa_svI (fun _ _ _ _ => by omega) (xa_svI (fun _ _ _ _ => by omega) xa_sv0))) ?_
  refine xa_meth (Q0 := (3, 0, false, 0, 0, 11)) (by decide +kernel) ⟨rfl, rfl⟩ (full := s_c_18) rfl rfl ?_
  intro hM hv Q hgo
  refine hgo.1 15 [] 0 _ _ _ ?_
  refine And.intro ?_ ?_
  · intro (c1 : i < 0)
    show post none M
    exact absurd h1 (by omega)
  · intro (c1 : 0 ≤ i)
    refine And.intro ?_ ?_
    · intro (c2 : 12 ≤ i)
      show post none M
      exact absurd h1 (by omega)
    · intro (c2 : i < 12)
      refine And.intro (show 0 ≤ i ∧ i < 12 by omega) ?_
      show post none (xa_up M 44 i v)
      exact k1
theorem cx_18_45 {b : Bool} {A : Nat → Nat} {h0 : g_H} {d : Nat} {M : xa_M} {post : Option xa_V → xa_M → Prop} {l1 u1 l2 u2 : Int} {i v : Int} (h1 : 0 ≤ i ∧ i < 12) (k1 : post none (xa_up M 45 i v)) : xa_C (xl_I b) A h0 (d + 1) 18 [(2, 45, 0, 0, 0), (0, 0, l1, u1, i), (0, 0, l2, u2, v)] M post := by
  refine xa_C_arg [(2, 45, 0, 0, 0), (0, 0, (-2147483648), 2147483647, i), (0, 0, (-2147483648), 2147483647, v)] (xa_svR (xa_svI (fun _ _ _ _ => by omega) (xa_svI (fun _ _ _ _ => by omega) xa_sv0))) ?_
  refine xa_meth (Q0 := (3, 0, false, 0, 0, 11)) (by decide +kernel) ⟨rfl, rfl⟩ (full := s_c_18) rfl rfl ?_
  intro hM hv Q hgo
  refine hgo.1 15 [] 0 _ _ _ ?_
  refine And.intro ?_ ?_
  · intro (c1 : i < 0)
    show post none M
    exact absurd h1 (by omega)
  · intro (c1 : 0 ≤ i)
    refine And.intro ?_ ?_
    · intro (c2 : 12 ≤ i)
      show post none M
      exact absurd h1 (by omega)
    · intro (c2 : i < 12)
      refine And.intro (show 0 ≤ i ∧ i < 12 by omega) ?_
      show post none (xa_up M 45 i v)
      exact k1
theorem cx_18_46 {b : Bool} {A : Nat → Nat} {h0 : g_H} {d : Nat} {M : xa_M} {post : Option xa_V → xa_M → Prop} {l1 u1 l2 u2 : Int} {i v : Int} (h1 : 0 ≤ i ∧ i < 12) (k1 : post none (xa_up M 46 i v)) : xa_C (xl_I b) A h0 (d + 1) 18 [(2, 46, 0, 0, 0), (0, 0, l1, u1, i), (0, 0, l2, u2, v)] M post := by
  refine xa_C_arg [(2, 46, 0, 0, 0), (0, 0, (-2147483648), 2147483647, i), (0, 0, (-2147483648), 2147483647, v)] (xa_svR (xa_svI (fun _ _ _ _ => by omega) (xa_svI (fun _ _ _ _ => by omega) xa_sv0))) ?_
  refine xa_meth (Q0 := (3, 0, false, 0, 0, 11)) (by decide +kernel) ⟨rfl, rfl⟩ (full := s_c_18) rfl rfl ?_
  intro hM hv Q hgo
  refine hgo.1 15 [] 0 _ _ _ ?_
  refine And.intro ?_ ?_
  · intro (c1 : i < 0)
    show post none M
    exact absurd h1 (by omega)
  · intro (c1 : 0 ≤ i)
    refine And.intro ?_ ?_
    · intro (c2 : 12 ≤ i)
      show post none M
      exact absurd h1 (by omega)
    · intro (c2 : i < 12)
      refine And.intro (show 0 ≤ i ∧ i < 12 by omega) ?_
      show post none (xa_up M 46 i v)
      exact k1
theorem cx_18_47 {b : Bool} {A : Nat → Nat} {h0 : g_H} {d : Nat} {M : xa_M} {post : Option xa_V → xa_M → Prop} {l1 u1 l2 u2 : Int} {i v : Int} (h1 : 0 ≤ i ∧ i < 12) (k1 : post none (xa_up M 47 i v)) : xa_C (xl_I b) A h0 (d + 1) 18 [(2, 47, 0, 0, 0), (0, 0, l1, u1, i), (0, 0, l2, u2, v)] M post := by
  refine xa_C_arg [(2, 47, 0, 0, 0), (0, 0, (-2147483648), 2147483647, i), (0, 0, (-2147483648), 2147483647, v)] (xa_svR (xa_svI (fun _ _ _ _ => by omega) (xa_svI (fun _ _ _ _ => by omega) xa_sv0))) ?_
  refine xa_meth (Q0 := (3, 0, false, 0, 0, 11)) (by decide +kernel) ⟨rfl, rfl⟩ (full := s_c_18) rfl rfl ?_
  intro hM hv Q hgo
  refine hgo.1 15 [] 0 _ _ _ ?_
  refine And.intro ?_ ?_
  · intro (c1 : i < 0)
    show post none M
    exact absurd h1 (by omega)
  · intro (c1 : 0 ≤ i)
    refine And.intro ?_ ?_
    · intro (c2 : 12 ≤ i)
      show post none M
      exact absurd h1 (by omega)
    · intro (c2 : i < 12)
      refine And.intro (show 0 ≤ i ∧ i < 12 by omega) ?_
      show post none (xa_up M 47 i v)
      exact k1
theorem cx_193_43 {b : Bool} {A : Nat → Nat} {h0 : g_H} {d : Nat} {M : xa_M} {post : Option xa_V → xa_M → Prop} {l1 u1 l2 u2 l3 u3 l4 u4 : Int} {x1 x2 x3 x4 : Int} (h1 : 0 ≤ (M 43 4) ∧ (M 43 4) ≤ 12) (k1 : ((M 43 4) < 12) → post (some (0, 0, (-2147483648), 2147483647, xa_w32 ((xa_w32 ((M 43 4) + 1)) - 1))) (xa_up (xa_up (xa_up (xa_up (xa_up M 44 (M 43 4) x1) 45 (M 43 4) x2) 46 (M 43 4) x3) 47 (M 43 4) x4) 43 4 (xa_w32 ((M 43 4) + 1)))) (k2 : (12 ≤ (M 43 4)) → post (some (0, 0, (-1), (-1), (-1))) M) : xa_C (xl_I b) A h0 (d + 2) 193 [(2, 43, 0, 0, 0), (0, 0, l1, u1, x1), (0, 0, l2, u2, x2), (0, 0, l3, u3, x3), (0, 0, l4, u4, x4)] M post := by
  refine xa_C_arg [(2, 43, 0, 0, 0), (0, 0, (-2147483648), 2147483647, x1), (0, 0, (-2147483648), 2147483647, x2), (0, 0, (-2147483648), 2147483647, x3), (0, 0, (-2147483648), 2147483647, x4)] (xa_svR (xa_svI (fun _ _ _ _ => by omega) (xa_svI (fun _ _ _ _ => by omega) (xa_svI (fun _ _ _ _ => by omega) (xa_svI (fun _ _ _ _ => by omega) (xa_sv0)))))) ?_
  refine xa_meth (Q0 := (5, 1, false, 0, 0, 5)) (by decide +kernel) ⟨rfl, rfl⟩ (full := s_c_193) rfl rfl ?_
  intro hM hv Q hgo
  refine hgo.1 43 [] 0 _ _ _ ?_
  refine And.intro ?_ ?_
  · intro (c1 : (M 43 4) < 12)
    show xa_C (xl_I b) A h0 _ 18 [(2, 44, 0, 0, 0), (0, 0, (-2147483648), 2147483647, M 43 4), (0, 0, (-2147483648), 2147483647, x1)] M _
    refine cx_18_44 (show 0 ≤ (M 43 4) ∧ (M 43 4) < 12 by omega) ?_
    show xa_C (xl_I b) A h0 _ 18 [(2, 45, 0, 0, 0), (0, 0, (-2147483648), 2147483647, M 43 4), (0, 0, (-2147483648), 2147483647, x2)] (xa_up M 44 (M 43 4) x1) _
    refine cx_18_45 (show 0 ≤ (M 43 4) ∧ (M 43 4) < 12 by omega) ?_
    show xa_C (xl_I b) A h0 _ 18 [(2, 46, 0, 0, 0), (0, 0, (-2147483648), 2147483647, M 43 4), (0, 0, (-2147483648), 2147483647, x3)] (xa_up (xa_up M 44 (M 43 4) x1) 45 (M 43 4) x2) _
    refine cx_18_46 (show 0 ≤ (M 43 4) ∧ (M 43 4) < 12 by omega) ?_
    show xa_C (xl_I b) A h0 _ 18 [(2, 47, 0, 0, 0), (0, 0, (-2147483648), 2147483647, M 43 4), (0, 0, (-2147483648), 2147483647, x4)] (xa_up (xa_up (xa_up M 44 (M 43 4) x1) 45 (M 43 4) x2) 46 (M 43 4) x3) _
    refine cx_18_47 (show 0 ≤ (M 43 4) ∧ (M 43 4) < 12 by omega) ?_
    show post (some (0, 0, (-2147483648), 2147483647, xa_w32 ((xa_w32 ((M 43 4) + 1)) - 1))) (xa_up (xa_up (xa_up (xa_up (xa_up M 44 (M 43 4) x1) 45 (M 43 4) x2) 46 (M 43 4) x3) 47 (M 43 4) x4) 43 4 (xa_w32 ((M 43 4) + 1)))
    exact k1 c1
  · intro (c1 : 12 ≤ (M 43 4))
    show post (some (0, 0, (-1), (-1), (-1))) M
    exact k2 c1
theorem cx_192_0 {b : Bool} {A : Nat → Nat} {h0 : g_H} {d : Nat} {M : xa_M} {post : Option xa_V → xa_M → Prop} {l1 u1 l2 u2 l3 u3 l4 u4 : Int} {x1 x2 x3 x4 : Int} (h1 : 0 ≤ (M 43 4) ∧ (M 43 4) ≤ 12) (k1 : (x1 < 0) → post (some (0, 0, (-1), (-1), (-1))) M) (k2 : (0 ≤ x1) → (10 ≤ x1) → post (some (0, 0, (-1), (-1), (-1))) M) (k3 : (0 ≤ x1) → (x1 < 10) → (x2 < 0) → post (some (0, 0, (-1), (-1), (-1))) M) (k4 : (0 ≤ x1) → (x1 < 10) → (0 ≤ x2) → (10 ≤ x2) → post (some (0, 0, (-1), (-1), (-1))) M) (k5 : (0 ≤ x1) → (x1 < 10) → (0 ≤ x2) → (x2 < 10) → (x3 < 10) → post (some (0, 0, (-1), (-1), (-1))) M) (k6 : (0 ≤ x1) → (x1 < 10) → (0 ≤ x2) → (x2 < 10) → (10 ≤ x3) → (400 < x4) → post (some (0, 0, (-1), (-1), (-1))) M) (k7 : (0 ≤ x1) → (x1 < 10) → (0 ≤ x2) → (x2 < 10) → (10 ≤ x3) → (x4 ≤ 400) → (x4 < x3) → post (some (0, 0, (-1), (-1), (-1))) M) (k8 : (0 ≤ x1) → (x1 < 10) → (0 ≤ x2) → (x2 < 10) → (10 ≤ x3) → (x4 ≤ 400) → (x3 ≤ x4) → ((M 43 4) < 12) → post (some (0, 0, (-2147483648), 2147483647, xa_w32 ((xa_w32 ((M 43 4) + 1)) - 1))) (xa_up (xa_up (xa_up (xa_up (xa_up M 44 (M 43 4) x1) 45 (M 43 4) x2) 46 (M 43 4) x3) 47 (M 43 4) x4) 43 4 (xa_w32 ((M 43 4) + 1)))) (k9 : (0 ≤ x1) → (x1 < 10) → (0 ≤ x2) → (x2 < 10) → (10 ≤ x3) → (x4 ≤ 400) → (x3 ≤ x4) → (12 ≤ (M 43 4)) → post (some (0, 0, (-1), (-1), (-1))) M) : xa_C (xl_I b) A h0 (d + 3) 192 [(2, 0, 0, 0, 0), (0, 0, l1, u1, x1), (0, 0, l2, u2, x2), (0, 0, l3, u3, x3), (0, 0, l4, u4, x4)] M post := by
  refine xa_C_arg [(2, 0, 0, 0, 0), (0, 0, (-2147483648), 2147483647, x1), (0, 0, (-2147483648), 2147483647, x2), (0, 0, (-2147483648), 2147483647, x3), (0, 0, (-2147483648), 2147483647, x4)] (xa_svR (xa_svI (fun _ _ _ _ => by omega) (xa_svI (fun _ _ _ _ => by omega) (xa_svI (fun _ _ _ _ => by omega) (xa_svI (fun _ _ _ _ => by omega) (xa_sv0)))))) ?_
  refine xa_meth (Q0 := (5, 1, false, 0, 0, 11)) (by decide +kernel) ⟨rfl, rfl⟩ (full := s_c_192) rfl rfl ?_
  intro hM hv Q hgo
  refine hgo.1 22 [] 0 _ _ _ ?_
  show xa_C (xl_I b) A h0 _ 14 [(0, 0, (-2147483648), 2147483647, x1)] M _
  refine cx_14 ?_ ?_ ?_
  · intro (i1 : x1 < 0)
    show post (some (0, 0, (-1), (-1), (-1))) M
    exact k1 i1
  · intro (i2 : 0 ≤ x1) (i3 : 10 ≤ x1)
    show post (some (0, 0, (-1), (-1), (-1))) M
    exact k2 i2 i3
  · intro (i4 : 0 ≤ x1) (i5 : x1 < 10)
    show xa_C (xl_I b) A h0 _ 15 [(0, 0, (-2147483648), 2147483647, x2)] M _
    refine cx_15 ?_ ?_ ?_
    · intro (i6 : x2 < 0)
      show post (some (0, 0, (-1), (-1), (-1))) M
      exact k3 i4 i5 i6
    · intro (i7 : 0 ≤ x2) (i8 : 10 ≤ x2)
      show post (some (0, 0, (-1), (-1), (-1))) M
      exact k4 i4 i5 i7 i8
    · intro (i9 : 0 ≤ x2) (i10 : x2 < 10)
      show xa_C (xl_I b) A h0 _ 13 [(0, 0, (-2147483648), 2147483647, x3), (0, 0, (-2147483648), 2147483647, x4)] M _
      refine cx_13 ?_ ?_ ?_ ?_
      · intro (i11 : x3 < 10)
        show post (some (0, 0, (-1), (-1), (-1))) M
        exact k5 i4 i5 i9 i10 i11
      · intro (i12 : 10 ≤ x3) (i13 : 400 < x4)
        show post (some (0, 0, (-1), (-1), (-1))) M
        exact k6 i4 i5 i9 i10 i12 i13
      · intro (i14 : 10 ≤ x3) (i15 : x4 ≤ 400) (i16 : x4 < x3)
        show post (some (0, 0, (-1), (-1), (-1))) M
        exact k7 i4 i5 i9 i10 i14 i15 i16
      · intro (i17 : 10 ≤ x3) (i18 : x4 ≤ 400) (i19 : x3 ≤ x4)
        show xa_C (xl_I b) A h0 _ 193 [(2, 43, 0, 0, 0), (0, 0, (-2147483648), 2147483647, x1), (0, 0, (-2147483648), 2147483647, x2), (0, 0, (-2147483648), 2147483647, x3), (0, 0, (-2147483648), 2147483647, x4)] M _
        refine cx_193_43 (show 0 ≤ (M 43 4) ∧ (M 43 4) ≤ 12 by omega) ?_ ?_
        · intro (i20 : (M 43 4) < 12)
          show post (some (0, 0, (-2147483648), 2147483647, xa_w32 ((xa_w32 ((M 43 4) + 1)) - 1))) (xa_up (xa_up (xa_up (xa_up (xa_up M 44 (M 43 4) x1) 45 (M 43 4) x2) 46 (M 43 4) x3) 47 (M 43 4) x4) 43 4 (xa_w32 ((M 43 4) + 1)))
          exact k8 i4 i5 i9 i10 i17 i18 i19 i20
        · intro (i21 : 12 ≤ (M 43 4))
          show post (some (0, 0, (-1), (-1), (-1))) M
          exact k9 i4 i5 i9 i10 i17 i18 i19 i21
theorem cw_192 {b : Bool} {A : Nat → Nat} {h0 : g_H} {d : Nat} {M : xa_M} {post : Option xa_V → xa_M → Prop} {l1 u1 l2 u2 l3 u3 l4 u4 x1 x2 x3 x4 : Int} (h1 : 0 ≤ (M 43 4) ∧ (M 43 4) ≤ 12) (k : ∀ o M1, iv_P (ll_ok x1 x2 x3 x4 (M 43 4)) (M 43 4) (xa_up (xa_up (xa_up (xa_up (xa_up M 44 (M 43 4) x1) 45 (M 43 4) x2) 46 (M 43 4) x3) 47 (M 43 4) x4) 43 4 (M 43 4 + 1)) (-1) M o M1 → post o M1) : xa_C (xl_I b) A h0 (d + 3) 192 [(2, 0, 0, 0, 0), (0, 0, l1, u1, x1), (0, 0, l2, u2, x2), (0, 0, l3, u3, x3), (0, 0, l4, u4, x4)] M post := by
  refine cx_192_0 h1 ?_ ?_ ?_ ?_ ?_ ?_ ?_ ?_ ?_
  · intro (c0 : x1 < 0)
    exact k _ _ (Or.inr ⟨by unfold ll_ok; omega, ⟨_, _, rfl⟩, rfl⟩)
  · intro (c0 : 0 ≤ x1) (c1 : 10 ≤ x1)
    exact k _ _ (Or.inr ⟨by unfold ll_ok; omega, ⟨_, _, rfl⟩, rfl⟩)
  · intro (c0 : 0 ≤ x1) (c1 : x1 < 10) (c2 : x2 < 0)
    exact k _ _ (Or.inr ⟨by unfold ll_ok; omega, ⟨_, _, rfl⟩, rfl⟩)
  · intro (c0 : 0 ≤ x1) (c1 : x1 < 10) (c2 : 0 ≤ x2) (c3 : 10 ≤ x2)
    exact k _ _ (Or.inr ⟨by unfold ll_ok; omega, ⟨_, _, rfl⟩, rfl⟩)
  · intro (c0 : 0 ≤ x1) (c1 : x1 < 10) (c2 : 0 ≤ x2) (c3 : x2 < 10) (c4 : x3 < 10)
    exact k _ _ (Or.inr ⟨by unfold ll_ok; omega, ⟨_, _, rfl⟩, rfl⟩)
  · intro (c0 : 0 ≤ x1) (c1 : x1 < 10) (c2 : 0 ≤ x2) (c3 : x2 < 10) (c4 : 10 ≤ x3) (c5 : 400 < x4)
    exact k _ _ (Or.inr ⟨by unfold ll_ok; omega, ⟨_, _, rfl⟩, rfl⟩)
  · intro (c0 : 0 ≤ x1) (c1 : x1 < 10) (c2 : 0 ≤ x2) (c3 : x2 < 10) (c4 : 10 ≤ x3) (c5 : x4 ≤ 400) (c6 : x4 < x3)
    exact k _ _ (Or.inr ⟨by unfold ll_ok; omega, ⟨_, _, rfl⟩, rfl⟩)
  · intro (c0 : 0 ≤ x1) (c1 : x1 < 10) (c2 : 0 ≤ x2) (c3 : x2 < 10) (c4 : 10 ≤ x3) (c5 : x4 ≤ 400) (c6 : x3 ≤ x4) (c7 : (M 43 4) < 12)
    have w1 : xa_w32 ((M 43 4) + 1) = M 43 4 + 1 := xa_w32_id (by omega) (by omega)
    have ex : xa_w32 ((xa_w32 ((M 43 4) + 1)) - 1) = M 43 4 := by
      rw [w1]
      exact (xa_w32_id (by omega) (by omega)).trans (by omega)
    exact k _ _ (Or.inl ⟨by unfold ll_ok; omega, iv_so ex, by rw [w1]⟩)
  · intro (c0 : 0 ≤ x1) (c1 : x1 < 10) (c2 : 0 ≤ x2) (c3 : x2 < 10) (c4 : 10 ≤ x3) (c5 : x4 ≤ 400) (c6 : x3 ≤ x4) (c7 : 12 ≤ (M 43 4))
    exact k _ _ (Or.inr ⟨by unfold ll_ok; omega, ⟨_, _, rfl⟩, rfl⟩)
theorem ms_leftF {A : Nat → Nat} {h0 : g_H} {d : Nat} {M : xa_M} {post : Option xa_V → xa_M → Prop} {l1 u1 l2 u2 l3 u3 l4 u4 : Int} {a b c e : Int} (hI : xm_Inv M) (k : ∀ (o : Option xa_V) (M1 : xa_M), iv_P (ll_ok a b c e (M 60 61)) (((M 60 61) + 1) - 1) (xa_up (xa_up (xa_up (xa_up (xa_up (xa_up M 60 21 0) 100 (M 60 61) a) 101 (M 60 61) b) 102 (M 60 61) c) 103 (M 60 61) e) 60 61 ((M 60 61) + 1)) (-1) (xa_up M 60 21 0) o M1 → xm_Inv M1 → post o M1) : xa_C xm_I A h0 (d + 3) 290 [(2, 60, 0, 0, 0), (0, 0, l1, u1, a), (0, 0, l2, u2, b), (0, 0, l3, u3, c), (0, 0, l4, u4, e)] M post := by
  refine xa_C_arg [(2, 60, 0, 0, 0), (0, 0, (-2147483648), 2147483647, a), (0, 0, (-2147483648), 2147483647, b), (0, 0, (-2147483648), 2147483647, c), (0, 0, (-2147483648), 2147483647, e)] (xa_svR (xa_svI (fun _ _ _ _ => by omega) (xa_svI (fun _ _ _ _ => by omega) (xa_svI (fun _ _ _ _ => by omega) (xa_svI (fun _ _ _ _ => by omega) xa_sv0))))) ?_
  refine xa_meth (Q0 := (5, 1, false, 0, 0, 12)) (by decide +kernel) ⟨rfl, rfl⟩ (full := s_c_290) rfl rfl ?_
  intro hM hv Q hgo
  have b61 := xm_f61 hM
  refine hgo.1 64 [] 0 _ _ _ ?_
  show xa_C xm_I A h0 _ 215 [(0, 0, (-2147483648), 2147483647, a)] (xa_up M 60 21 0) _
  refine ct_isAxle ?_ ?_
  · intro (i1 : 0 ≤ a ∧ a ≤ 9)
    show xa_C xm_I A h0 _ 214 [(0, 0, (-2147483648), 2147483647, b), (0, 0, 0, 0, 0), (0, 0, 9, 9, 9)] (xa_up M 60 21 0) _
    refine ct_in ?_ ?_
    · intro (i2 : 0 ≤ b ∧ b ≤ 9)
      show xa_C xm_I A h0 _ 214 [(0, 0, (-2147483648), 2147483647, c), (0, 0, 10, 10, 10), (0, 0, 400, 400, 400)] (xa_up M 60 21 0) _
      refine ct_in ?_ ?_
      · intro (i3 : 10 ≤ c ∧ c ≤ 400)
        show xa_C xm_I A h0 _ 214 [(0, 0, (-2147483648), 2147483647, e), (0, 0, (-2147483648), 2147483647, c), (0, 0, 400, 400, 400)] (xa_up M 60 21 0) _
        refine ct_in ?_ ?_
        · intro (i4 : c ≤ e ∧ e ≤ 400)
          refine And.intro ?_ ?_
          · intro (c5 : ¬ (M 60 61) = 12)
            refine And.intro (show 0 ≤ (M 60 61) ∧ (M 60 61) < 12 by omega) ?_
            refine And.intro (show 0 ≤ (M 60 61) ∧ (M 60 61) < 12 by omega) ?_
            refine And.intro (show 0 ≤ (M 60 61) ∧ (M 60 61) < 12 by omega) ?_
            refine And.intro (show 0 ≤ (M 60 61) ∧ (M 60 61) < 12 by omega) ?_
            refine And.intro (show 0 ≤ ((M 60 61) + 1) ∧ ((M 60 61) + 1) ≤ 12 by omega) ?_
            show post (some (0, 0, (-1), 11, ((M 60 61) + 1) - 1)) (xa_up (xa_up (xa_up (xa_up (xa_up (xa_up M 60 21 0) 100 (M 60 61) a) 101 (M 60 61) b) 102 (M 60 61) c) 103 (M 60 61) e) 60 61 ((M 60 61) + 1))
            exact k _ _ (by first | exact Or.inr ⟨by unfold ll_ok; omega, ⟨_, _, rfl⟩, rfl⟩ | exact Or.inl ⟨by unfold ll_ok; omega, ⟨_, _, rfl⟩, rfl⟩) (xm_Inv_is (xm_is_u rfl (xm_is_u rfl (xm_is_u rfl (xm_is_u rfl (xm_is_u rfl (xm_is_u rfl xm_is_r)))))) hI)
          · intro (c5 : (M 60 61) = 12)
            show post (some (0, 0, (-1), (-1), (-1))) (xa_up M 60 21 0)
            exact k _ _ (by first | exact Or.inr ⟨by unfold ll_ok; omega, ⟨_, _, rfl⟩, rfl⟩ | exact Or.inl ⟨by unfold ll_ok; omega, ⟨_, _, rfl⟩, rfl⟩) (xm_Inv_is (xm_is_u rfl xm_is_r) hI)
        · intro (i4 : ¬ (c ≤ e ∧ e ≤ 400))
          show post (some (0, 0, (-1), (-1), (-1))) (xa_up M 60 21 0)
          exact k _ _ (by first | exact Or.inr ⟨by unfold ll_ok; omega, ⟨_, _, rfl⟩, rfl⟩ | exact Or.inl ⟨by unfold ll_ok; omega, ⟨_, _, rfl⟩, rfl⟩) (xm_Inv_is (xm_is_u rfl xm_is_r) hI)
      · intro (i3 : ¬ (10 ≤ c ∧ c ≤ 400))
        show post (some (0, 0, (-1), (-1), (-1))) (xa_up M 60 21 0)
        exact k _ _ (by first | exact Or.inr ⟨by unfold ll_ok; omega, ⟨_, _, rfl⟩, rfl⟩ | exact Or.inl ⟨by unfold ll_ok; omega, ⟨_, _, rfl⟩, rfl⟩) (xm_Inv_is (xm_is_u rfl xm_is_r) hI)
    · intro (i2 : ¬ (0 ≤ b ∧ b ≤ 9))
      show post (some (0, 0, (-1), (-1), (-1))) (xa_up M 60 21 0)
      exact k _ _ (by first | exact Or.inr ⟨by unfold ll_ok; omega, ⟨_, _, rfl⟩, rfl⟩ | exact Or.inl ⟨by unfold ll_ok; omega, ⟨_, _, rfl⟩, rfl⟩) (xm_Inv_is (xm_is_u rfl xm_is_r) hI)
  · intro (i1 : ¬ (0 ≤ a ∧ a ≤ 9))
    show post (some (0, 0, (-1), (-1), (-1))) (xa_up M 60 21 0)
    exact k _ _ (by first | exact Or.inr ⟨by unfold ll_ok; omega, ⟨_, _, rfl⟩, rfl⟩ | exact Or.inl ⟨by unfold ll_ok; omega, ⟨_, _, rfl⟩, rfl⟩) (xm_Inv_is (xm_is_u rfl xm_is_r) hI)
theorem iv_p192 (A : Nat → Nat) (cmp : Bool) : iv_pair (iv_J A) A 192 290 [0, 0, 0, 0] cmp false := iv_armP (fun W b h as M hJ hM hInv hs hR => by
  obtain ⟨m1, ys, rfl, -, hs⟩ := iv_spc hs
  obtain ⟨m2, ys, rfl, -, hs⟩ := iv_spc hs
  obtain ⟨m3, ys, rfl, -, hs⟩ := iv_spc hs
  obtain ⟨m4, ys, rfl, -, hs⟩ := iv_spc hs
  obtain rfl := iv_sp0 hs
  have hX : lm_X (xj (iv_num h) M) := hR.2.2
  have s1 : iv_num h 43 4 = M 60 61 := hX.2.2.1
  have b61 := xm_f61 (xa_H_Mok hM)
  have hc := cw_192 (b := b) (A := A) (h0 := h) (d := 57) (M := iv_num h) (l1 := -2147483648) (u1 := 2147483647) (l2 := -2147483648) (u2 := 2147483647) (l3 := -2147483648) (u3 := 2147483647) (l4 := -2147483648) (u4 := 2147483647) (x1 := m1.toInt) (x2 := m2.toInt) (x3 := m3.toInt) (x4 := m4.toInt) (by omega) (fun _ _ h => h)
  rw [s1] at hc
  have hm := fun (h1 : g_H) => ms_leftF (A := A) (h0 := h1) (d := 57) (M := M) (l1 := -2147483648) (u1 := 2147483647) (l2 := -2147483648) (u2 := 2147483647) (l3 := -2147483648) (u3 := 2147483647) (l4 := -2147483648) (u4 := 2147483647) (a := m1.toInt) (b := m2.toInt) (c := m3.toInt) (e := m4.toInt) (post := fun o M2 => iv_P (ll_ok m1.toInt m2.toInt m3.toInt m4.toInt (M 60 61)) (M 60 61 + 1 - 1) _ (-1) _ o M2 ∧ xm_Inv M2) hInv (fun o M1 hP hI => ⟨hP, hI⟩)
  rw [show M 60 61 + 1 - 1 = M 60 61 by omega] at hm
  refine ⟨[(2, 0, 0, 0, 0), (0, 0, -2147483648, 2147483647, m1.toInt), (0, 0, -2147483648, 2147483647, m2.toInt), (0, 0, -2147483648, 2147483647, m3.toInt), (0, 0, -2147483648, 2147483647, m4.toInt)], [(2, 60, 0, 0, 0), (0, 0, -2147483648, 2147483647, m1.toInt), (0, 0, -2147483648, 2147483647, m2.toInt), (0, 0, -2147483648, 2147483647, m3.toInt), (0, 0, -2147483648, 2147483647, m4.toInt)], _, _, _, _, _, _, _, ⟨rfl, iv_i m1, iv_i m2, iv_i m3, iv_i m4, trivial⟩, ⟨rfl, iv_i m1, iv_i m2, iv_i m3, iv_i m4, trivial⟩, hc, hm, fun hok => ⟨?_, fun z => ?_, fun z => ?_⟩, fun hok => ⟨?_, fun z => ?_, fun z => ?_⟩⟩
  · refine lm_R_X hR (fun q j hC hq hn => ?_) (fun q j hC hq hn => ?_) ?_
    · unfold ll_ok at hok
      exact (xa_up_ne (fun e => hn (by obtain ⟨rfl, rfl⟩ := e; unfold lm_XC; first | (simp; done) | (simp; omega) | omega))).trans ((xa_up_ne (fun e => hn (by obtain ⟨rfl, rfl⟩ := e; unfold lm_XC; first | (simp; done) | (simp; omega) | omega))).trans ((xa_up_ne (fun e => hn (by obtain ⟨rfl, rfl⟩ := e; unfold lm_XC; first | (simp; done) | (simp; omega) | omega))).trans ((xa_up_ne (fun e => hn (by obtain ⟨rfl, rfl⟩ := e; unfold lm_XC; first | (simp; done) | (simp; omega) | omega))).trans (xa_up_ne (fun e => hn (by obtain ⟨rfl, rfl⟩ := e; unfold lm_XC; first | (simp; done) | (simp; omega) | omega))))))
    · unfold ll_ok at hok
      exact (xa_up_ne (fun e => hn (by obtain ⟨rfl, rfl⟩ := e; unfold lm_XC; first | (simp; done) | (simp; omega) | omega))).trans ((xa_up_ne (fun e => hn (by obtain ⟨rfl, rfl⟩ := e; unfold lm_XC; first | (simp; done) | (simp; omega) | omega))).trans ((xa_up_ne (fun e => hn (by obtain ⟨rfl, rfl⟩ := e; unfold lm_XC; first | (simp; done) | (simp; omega) | omega))).trans ((xa_up_ne (fun e => hn (by obtain ⟨rfl, rfl⟩ := e; unfold lm_XC; first | (simp; done) | (simp; omega) | omega))).trans ((xa_up_ne (fun e => hn (by obtain ⟨rfl, rfl⟩ := e; unfold lm_XC; first | (simp; done) | (simp; omega) | omega))).trans (xa_up_ne (by first | (have t9 := lm_Cq hC; omega) | (unfold lm_C at hC; omega)))))))
    · refine ⟨?_, ?_, ?_, ?_, ?_, ?_, fun i i0 i1 => ?_, fun i i0 i1 => ?_, fun i i0 i1 => ?_, fun i i0 i1 => ?_, fun i i0 i1 => ?_, fun i i0 i1 => ?_, fun i i0 i1 => ?_, fun i i0 i1 => ?_, fun i i0 i1 => ?_, fun i i0 i1 => ?_⟩
      · simp [xj, xa_up]
        exact hX.1
      · simp [xj, xa_up]
        exact hX.2.1
      · simp [xj, xa_up]
      · simp [xj, xa_up]
        exact hX.2.2.2.1
      · simp [xj, xa_up]
        exact hX.2.2.2.2.1
      · simp [xj, xa_up]
        exact hX.2.2.2.2.2.1
      · by_cases e : i = M 60 61
        · simp [xj, xa_up, e]
        · simp [xj, xa_up, e]
          exact hX.2.2.2.2.2.2.1 i i0 i1
      · by_cases e : i = M 60 61
        · simp [xj, xa_up, e]
        · simp [xj, xa_up, e]
          exact hX.2.2.2.2.2.2.2.1 i i0 i1
      · by_cases e : i = M 60 61
        · simp [xj, xa_up, e]
        · simp [xj, xa_up, e]
          exact hX.2.2.2.2.2.2.2.2.1 i i0 i1
      · by_cases e : i = M 60 61
        · simp [xj, xa_up, e]
        · simp [xj, xa_up, e]
          exact hX.2.2.2.2.2.2.2.2.2.1 i i0 i1
      · simp [xj, xa_up]
        exact hX.2.2.2.2.2.2.2.2.2.2.1 i i0 i1
      · simp [xj, xa_up]
        exact hX.2.2.2.2.2.2.2.2.2.2.2.1 i i0 i1
      · simp [xj, xa_up]
        exact hX.2.2.2.2.2.2.2.2.2.2.2.2.1 i i0 i1
      · simp [xj, xa_up]
        exact hX.2.2.2.2.2.2.2.2.2.2.2.2.2.1 i i0 i1
      · simp [xj, xa_up]
        exact hX.2.2.2.2.2.2.2.2.2.2.2.2.2.2.1 i i0 i1
      · simp [xj, xa_up]
        exact hX.2.2.2.2.2.2.2.2.2.2.2.2.2.2.2 i i0 i1
  · simp [xa_up]
  · simp [xa_up]
  · refine lm_R_k (fun q j hC => ?_) hR
    unfold xj
    by_cases hq : q < 60
    · rw [if_pos hq, if_pos hq]
    · rw [if_neg hq, if_neg hq]
      exact xa_up_ne (by first | (have t9 := lm_Cq hC; omega) | (unfold lm_C at hC; omega))
  · simp [xa_up]
  · simp [xa_up])
