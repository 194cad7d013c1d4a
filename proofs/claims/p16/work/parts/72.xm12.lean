-- when, pierced, room, breaks of the model (made by wip/p24/xa/xm12.py)
set_option maxRecDepth 20000
theorem xa_ib_rg (a : Nat) (x y : Int) : -2147483648 ≤ xa_ib a x y ∧ xa_ib a x y ≤ 2147483647 := by
  unfold xa_ib
  have h1 := Int32.le_toInt (s_fib a (Int32.ofInt x) (Int32.ofInt y))
  have h2 := Int32.toInt_lt (s_fib a (Int32.ofInt x) (Int32.ofInt y))
  omega
theorem ms_when {A : Nat → Nat} {h0 : g_H} {d : Nat} {M : xa_M} {post : Option xa_V → xa_M → Prop} (hI : xm_Inv M) (k : ∀ (o : Option xa_V) (M1 : xa_M), xm_cor M M1 → post o M1) : xa_C xm_I A h0 (d + 2) 286 [(2, 60, 0, 0, 0)] M post := by
  refine xa_meth (Q0 := (3, 1, false, 0, 0, 12)) (by decide +kernel) ⟨rfl, rfl⟩ (full := s_c_286) rfl rfl ?_
  intro hM hv Q hgo
  have loop0 : ∀ (n : Nat) (x2 x1 : Int) (M1 : xa_M), 0 ≤ x2 ∧ x2 ≤ 223 → 0 ≤ x1 ∧ x1 ≤ 223 → xm_cor M M1 → x1 ≤ x2 → M1 60 20 ≤ x1 → 223 - x2 < (n : Int) → Q 14 [(2, (0, 0, 0, 223, x2)), (1, (0, 0, 0, 223, x1)), (0, (2, 60, 0, 0, 0))] [] M1 := by
    intro n
    induction n with
    | zero => intro x2 x1 M1 b2 b1 hc h12 h20 hms; omega
    | succ n ih0 =>
      intro x2 x1 M1 b2 b1 hc h12 h20 hms0
      refine hgo.2.2 _ _ _ _ (fun hM1 _ => ?_)
      have b20 := xm_f20 hM1
      refine hgo.1 22 [14] 14 _ _ _ ?_
      refine And.intro ?_ ?_
      · intro (c1 : 223 ≤ x2)
        show post (some (0, 0, 0, 223, x1)) M1
        exact k _ _ hc
      · intro (c1 : x2 < 223)
        show xa_C xm_I A h0 _ 287 [(2, 60, 0, 0, 0), (0, 0, 0, 223, x2)] M1 _
        refine ct_against (by omega) (by omega) (fun r2 => ?_)
        refine And.intro ?_ ?_
        · intro (c3 : r2 = 0)
          refine And.intro ?_ ?_
          · intro (c4 : 10 ≤ x1)
            show Q 14 [(2, (0, 0, 1, 224, x2 + 1)), (1, (0, 0, 1, 224, x1 + 1)), (0, (2, 60, 0, 0, 0))] [] M1
            refine hgo.2.1 14 _ [(2, (0, 0, 0, 223, x2 + 1)), (1, (0, 0, 0, 223, x1 + 1)), (0, (2, 60, 0, 0, 0))] _ _ (xa_subI rfl rfl (fun _ _ _ _ => by omega) (xa_subI rfl rfl (fun _ _ _ _ => by omega) (xa_subR rfl xa_sub0))) ?_
            exact ih0 (x2 + 1) (x1 + 1) M1 (by omega) (by omega) hc (by omega) (by first | omega | (simp [xa_up]; done) | (simp [xa_up]; omega)) (by omega)
          · intro (c4 : x1 < 10)
            show xa_C xm_I A h0 _ 231 [(2, 60, 0, 0, 0), (1, 0, 0, 223, x2)] M1 _
            refine ct_tell (n := M1 60 20) (by first | rfl | (simp [xa_up]; done) | omega) (by omega) (by omega) ?_
            show Q 14 [(2, (0, 0, 1, 224, x2 + 1)), (1, (0, 0, 1, 224, x1 + 1)), (0, (2, 60, 0, 0, 0))] [] (xa_up (xa_up M1 74 (M1 60 20) x2) 60 20 ((M1 60 20) + 1))
            refine hgo.2.1 14 _ [(2, (0, 0, 0, 223, x2 + 1)), (1, (0, 0, 0, 223, x1 + 1)), (0, (2, 60, 0, 0, 0))] _ _ (xa_subI rfl rfl (fun _ _ _ _ => by omega) (xa_subI rfl rfl (fun _ _ _ _ => by omega) (xa_subR rfl xa_sub0))) ?_
            exact ih0 (x2 + 1) (x1 + 1) (xa_up (xa_up M1 74 (M1 60 20) x2) 60 20 ((M1 60 20) + 1)) (by omega) (by omega) (xm_cor_f (by omega) (xm_cor_a rfl hc)) (by omega) (by first | omega | (simp [xa_up]; done) | (simp [xa_up]; omega)) (by omega)
        · intro (c3 : ¬ r2 = 0)
          show Q 14 [(2, (0, 0, 1, 224, x2 + 1)), (1, (0, 0, 0, 223, x1)), (0, (2, 60, 0, 0, 0))] [] M1
          refine hgo.2.1 14 _ [(2, (0, 0, 0, 223, x2 + 1)), (1, (0, 0, 0, 223, x1)), (0, (2, 60, 0, 0, 0))] _ _ (xa_subI rfl rfl (fun _ _ _ _ => by omega) (xa_subI rfl rfl (fun _ _ _ _ => by omega) (xa_subR rfl xa_sub0))) ?_
          exact ih0 (x2 + 1) x1 M1 (by omega) (by omega) hc (by omega) (by first | omega | (simp [xa_up]; done) | (simp [xa_up]; omega)) (by omega)
  refine hgo.1 15 [14] 0 _ _ _ ?_
  show Q 14 [(2, (0, 0, 0, 0, 0)), (1, (0, 0, 0, 0, 0)), (0, (2, 60, 0, 0, 0))] [] (xa_up (xa_up M 60 21 0) 60 20 0)
  refine hgo.2.1 14 _ [(2, (0, 0, 0, 223, 0)), (1, (0, 0, 0, 223, 0)), (0, (2, 60, 0, 0, 0))] _ _ (xa_subI rfl rfl (fun _ _ _ _ => by omega) (xa_subI rfl rfl (fun _ _ _ _ => by omega) (xa_subR rfl xa_sub0))) ?_
  exact loop0 224 0 0 (xa_up (xa_up M 60 21 0) 60 20 0) (by omega) (by omega) (xm_cor_f (by omega) (xm_cor_f (by omega) xm_cor_r)) (by omega) (by first | omega | (simp [xa_up]; done) | (simp [xa_up]; omega)) (by omega)
theorem ms_pierced {A : Nat → Nat} {h0 : g_H} {d : Nat} {M : xa_M} {post : Option xa_V → xa_M → Prop} (hI : xm_Inv M) (k : ∀ (o : Option xa_V) (M1 : xa_M), xm_cor M M1 → post o M1) : xa_C xm_I A h0 (d + 2) 266 [(2, 60, 0, 0, 0)] M post := by
  refine xa_meth (Q0 := (6, 1, false, 0, 0, 12)) (by decide +kernel) ⟨rfl, rfl⟩ (full := s_c_266) rfl rfl ?_
  intro hM hv Q hgo
  have b0 := xm_f0 hM
  have b6 := xm_f6 hM
  have b61 := xm_f61 hM
  have b11 := xm_f11 hM
  have b15 := xm_f15 hM
  have b16 := xm_f16 hM
  have hlh := hI.2.2.2.1
  have loop0 : ∀ (n : Nat) (x2 x1 : Int) (M1 : xa_M), 0 ≤ x2 ∧ x2 ≤ 10 → xm_cor M M1 → 10 - x2 < (n : Int) → Q 9 [(2, (0, 0, 0, 10, x2)), (1, (0, 0, (-2147483648), 2147483647, x1)), (0, (2, 60, 0, 0, 0))] [] M1 := by
    intro n
    induction n with
    | zero => intro x2 x1 M1 b2 hc hms; omega
    | succ n ih0 =>
      intro x2 x1 M1 b2 hc hms0
      have e0 := xm_corf hc 0 (by omega)
      have e6 := xm_corf hc 6 (by omega)
      have e61 := xm_corf hc 61 (by omega)
      have e11 := xm_corf hc 11 (by omega)
      have e15 := xm_corf hc 15 (by omega)
      have e16 := xm_corf hc 16 (by omega)
      have loop2 : ∀ (n : Nat) (x5 x4 x3 x1 : Int) (M1 : xa_M), 0 ≤ x5 ∧ x5 ≤ 14 → (-1) ≤ x4 ∧ x4 ≤ 9 → 0 ≤ x3 ∧ x3 ≤ 10 → 0 ≤ x2 ∧ x2 ≤ 9 → xm_cor M M1 → 14 - x5 < (n : Int) → Q 82 [(5, (0, 0, 0, 14, x5)), (4, (0, 0, (-1), 9, x4)), (3, (0, 0, 0, 10, x3)), (2, (0, 0, 0, 9, x2)), (1, (0, 0, (-2147483648), 2147483647, x1)), (0, (2, 60, 0, 0, 0))] [] M1 := by
        intro n
        induction n with
        | zero => intro x5 x4 x3 x1 M1 b5 b4 b3 f2 hc hms; omega
        | succ n ih2 =>
          intro x5 x4 x3 x1 M1 b5 b4 b3 f2 hc hms2
          have e0 := xm_corf hc 0 (by omega)
          have e6 := xm_corf hc 6 (by omega)
          have e61 := xm_corf hc 61 (by omega)
          have e11 := xm_corf hc 11 (by omega)
          have e15 := xm_corf hc 15 (by omega)
          have e16 := xm_corf hc 16 (by omega)
          refine hgo.2.2 _ _ _ _ (fun hM1 _ => ?_)
          have t64 : x5 < M1 60 0 → 0 ≤ M1 64 x5 ∧ M1 64 x5 ≤ 9 := fun h => xm_t64 hM1 x5 (by omega) (by omega)
          refine hgo.1 52 [9, 24, 82] 82 _ _ _ ?_
          refine And.intro ?_ ?_
          · intro (c1 : (M1 60 0) ≤ x5)
            show Q 9 [(2, (0, 0, 1, 10, x2 + 1)), (5, (0, 0, 0, 14, x5)), (4, (0, 0, (-1), 9, x4)), (3, (0, 0, 0, 10, x3)), (1, (0, 0, (-2147483648), 2147483647, x1)), (0, (2, 60, 0, 0, 0))] [] M1
            refine hgo.2.1 9 _ [(2, (0, 0, 0, 10, x2 + 1)), (1, (0, 0, (-2147483648), 2147483647, x1)), (0, (2, 60, 0, 0, 0))] _ _ (xa_subI rfl rfl (fun _ _ _ _ => by omega) (xa_subI rfl rfl (fun _ _ _ _ => by omega) (xa_subR rfl xa_sub0))) ?_
            exact ih0 (x2 + 1) x1 M1 (by omega) hc (by omega)
          · intro (c1 : x5 < (M1 60 0))
            refine And.intro (show 0 ≤ x5 ∧ x5 < 14 by omega) ?_
            refine And.intro ?_ ?_
            · intro (c2 : (M1 64 x5) = x2)
              show Q 82 [(5, (0, 0, 1, 15, x5 + 1)), (4, (0, 0, (-1), 9, x4)), (3, (0, 0, 0, 10, x3)), (2, (0, 0, 0, 9, x2)), (1, (0, 0, (-2147483648), 2147483647, x1)), (0, (2, 60, 0, 0, 0))] [] M1
              refine hgo.2.1 82 _ [(5, (0, 0, 0, 14, x5 + 1)), (4, (0, 0, (-1), 9, x4)), (3, (0, 0, 0, 10, x3)), (2, (0, 0, 0, 9, x2)), (1, (0, 0, (-2147483648), 2147483647, x1)), (0, (2, 60, 0, 0, 0))] _ _ (xa_subI rfl rfl (fun _ _ _ _ => by omega) (xa_subI rfl rfl (fun _ _ _ _ => by omega) (xa_subI rfl rfl (fun _ _ _ _ => by omega) (xa_subI rfl rfl (fun _ _ _ _ => by omega) (xa_subI rfl rfl (fun _ _ _ _ => by omega) (xa_subR rfl xa_sub0)))))) ?_
              exact ih2 (x5 + 1) x4 x3 x1 M1 (by omega) (by omega) (by omega) (by omega) hc (by omega)
            · intro (c2 : ¬ (M1 64 x5) = x2)
              refine And.intro (show 0 ≤ x5 ∧ x5 < 14 by omega) ?_
              refine And.intro ?_ ?_
              · intro (c3 : (M1 65 x5) ≤ x3)
                show Q 82 [(5, (0, 0, 1, 15, x5 + 1)), (4, (0, 0, (-1), 9, x4)), (3, (0, 0, 0, 10, x3)), (2, (0, 0, 0, 9, x2)), (1, (0, 0, (-2147483648), 2147483647, x1)), (0, (2, 60, 0, 0, 0))] [] M1
                refine hgo.2.1 82 _ [(5, (0, 0, 0, 14, x5 + 1)), (4, (0, 0, (-1), 9, x4)), (3, (0, 0, 0, 10, x3)), (2, (0, 0, 0, 9, x2)), (1, (0, 0, (-2147483648), 2147483647, x1)), (0, (2, 60, 0, 0, 0))] _ _ (xa_subI rfl rfl (fun _ _ _ _ => by omega) (xa_subI rfl rfl (fun _ _ _ _ => by omega) (xa_subI rfl rfl (fun _ _ _ _ => by omega) (xa_subI rfl rfl (fun _ _ _ _ => by omega) (xa_subI rfl rfl (fun _ _ _ _ => by omega) (xa_subR rfl xa_sub0)))))) ?_
                exact ih2 (x5 + 1) x4 x3 x1 M1 (by omega) (by omega) (by omega) (by omega) hc (by omega)
              · intro (c3 : x3 < (M1 65 x5))
                refine And.intro (show 0 ≤ x5 ∧ x5 < 14 by omega) ?_
                refine And.intro ?_ ?_
                · intro (c4 : (M1 65 x5) < x4)
                  refine And.intro (show 0 ≤ x5 ∧ x5 < 14 by omega) ?_
                  show xa_C xm_I A h0 _ 265 [(2, 60, 0, 0, 0), (0, 0, 0, 9, x2), (0, 0, 0, 9, M1 64 x5)] M1 _
                  refine ct_apart (by omega) (by omega) (by omega) (by omega) (fun r5 br5 => ?_)
                  refine And.intro (show 0 ≤ x5 ∧ x5 < 14 by omega) ?_
                  refine And.intro (show 0 ≤ x5 ∧ x5 < 14 by omega) ?_
                  refine And.intro ?_ ?_
                  · intro (c6 : ((M1 63 x5) * (M1 63 x5)) ≤ r5)
                    show Q 82 [(5, (0, 0, 1, 15, x5 + 1)), (4, (0, 0, (-1), 9, x4)), (3, (0, 0, 0, 10, x3)), (2, (0, 0, 0, 9, x2)), (1, (0, 0, (-2147483648), 2147483647, x1)), (0, (2, 60, 0, 0, 0))] [] M1
                    refine hgo.2.1 82 _ [(5, (0, 0, 0, 14, x5 + 1)), (4, (0, 0, (-1), 9, x4)), (3, (0, 0, 0, 10, x3)), (2, (0, 0, 0, 9, x2)), (1, (0, 0, (-2147483648), 2147483647, x1)), (0, (2, 60, 0, 0, 0))] _ _ (xa_subI rfl rfl (fun _ _ _ _ => by omega) (xa_subI rfl rfl (fun _ _ _ _ => by omega) (xa_subI rfl rfl (fun _ _ _ _ => by omega) (xa_subI rfl rfl (fun _ _ _ _ => by omega) (xa_subI rfl rfl (fun _ _ _ _ => by omega) (xa_subR rfl xa_sub0)))))) ?_
                    exact ih2 (x5 + 1) x4 x3 x1 M1 (by omega) (by omega) (by omega) (by omega) hc (by omega)
                  · intro (c6 : r5 < ((M1 63 x5) * (M1 63 x5)))
                    show Q 82 [(5, (0, 0, 1, 15, x5 + 1)), (1, (0, 0, (-2147483648), 2147483647, xa_ib 4 x1 (xa_ib 6 1 x2))), (4, (0, 0, (-1), 9, x4)), (3, (0, 0, 0, 10, x3)), (2, (0, 0, 0, 9, x2)), (0, (2, 60, 0, 0, 0))] [] M1
                    refine hgo.2.1 82 _ [(5, (0, 0, 0, 14, x5 + 1)), (4, (0, 0, (-1), 9, x4)), (3, (0, 0, 0, 10, x3)), (2, (0, 0, 0, 9, x2)), (1, (0, 0, (-2147483648), 2147483647, xa_ib 4 x1 (xa_ib 6 1 x2))), (0, (2, 60, 0, 0, 0))] _ _ (xa_subI rfl rfl (fun _ _ _ _ => by omega) (xa_subI rfl rfl (fun _ _ _ _ => by omega) (xa_subI rfl rfl (fun _ _ _ _ => by omega) (xa_subI rfl rfl (fun _ _ _ _ => by omega) (xa_subI rfl rfl (fun _ _ _ _ => by omega) (xa_subR rfl xa_sub0)))))) ?_
                    exact ih2 (x5 + 1) x4 x3 (xa_ib 4 x1 (xa_ib 6 1 x2)) M1 (by omega) (by omega) (by omega) (by omega) hc (by omega)
                · intro (c4 : x4 ≤ (M1 65 x5))
                  show Q 82 [(5, (0, 0, 1, 15, x5 + 1)), (4, (0, 0, (-1), 9, x4)), (3, (0, 0, 0, 10, x3)), (2, (0, 0, 0, 9, x2)), (1, (0, 0, (-2147483648), 2147483647, x1)), (0, (2, 60, 0, 0, 0))] [] M1
                  refine hgo.2.1 82 _ [(5, (0, 0, 0, 14, x5 + 1)), (4, (0, 0, (-1), 9, x4)), (3, (0, 0, 0, 10, x3)), (2, (0, 0, 0, 9, x2)), (1, (0, 0, (-2147483648), 2147483647, x1)), (0, (2, 60, 0, 0, 0))] _ _ (xa_subI rfl rfl (fun _ _ _ _ => by omega) (xa_subI rfl rfl (fun _ _ _ _ => by omega) (xa_subI rfl rfl (fun _ _ _ _ => by omega) (xa_subI rfl rfl (fun _ _ _ _ => by omega) (xa_subI rfl rfl (fun _ _ _ _ => by omega) (xa_subR rfl xa_sub0)))))) ?_
                  exact ih2 (x5 + 1) x4 x3 x1 M1 (by omega) (by omega) (by omega) (by omega) hc (by omega)
      have loop1 : ∀ (n : Nat) (x5 x4 x3 : Int) (M1 : xa_M), 0 ≤ x5 ∧ x5 ≤ 14 → (-1) ≤ x4 ∧ x4 ≤ 9 → 0 ≤ x3 ∧ x3 ≤ 10 → 0 ≤ x2 ∧ x2 ≤ 9 → xm_cor M M1 → 14 - x5 < (n : Int) → Q 24 [(5, (0, 0, 0, 14, x5)), (4, (0, 0, (-1), 9, x4)), (3, (0, 0, 0, 10, x3)), (2, (0, 0, 0, 9, x2)), (1, (0, 0, (-2147483648), 2147483647, x1)), (0, (2, 60, 0, 0, 0))] [] M1 := by
        intro n
        induction n with
        | zero => intro x5 x4 x3 M1 b5 b4 b3 f2 hc hms; omega
        | succ n ih1 =>
          intro x5 x4 x3 M1 b5 b4 b3 f2 hc hms1
          have e0 := xm_corf hc 0 (by omega)
          have e6 := xm_corf hc 6 (by omega)
          have e61 := xm_corf hc 61 (by omega)
          have e11 := xm_corf hc 11 (by omega)
          have e15 := xm_corf hc 15 (by omega)
          have e16 := xm_corf hc 16 (by omega)
          refine hgo.1 31 [9, 24, 82] 24 _ _ _ ?_
          refine And.intro ?_ ?_
          · intro (c1 : (M1 60 0) ≤ x5)
            show Q 82 [(5, (0, 0, 0, 0, 0)), (4, (0, 0, (-1), 9, x4)), (3, (0, 0, 0, 10, x3)), (2, (0, 0, 0, 9, x2)), (1, (0, 0, (-2147483648), 2147483647, x1)), (0, (2, 60, 0, 0, 0))] [] M1
            refine hgo.2.1 82 _ [(5, (0, 0, 0, 14, 0)), (4, (0, 0, (-1), 9, x4)), (3, (0, 0, 0, 10, x3)), (2, (0, 0, 0, 9, x2)), (1, (0, 0, (-2147483648), 2147483647, x1)), (0, (2, 60, 0, 0, 0))] _ _ (xa_subI rfl rfl (fun _ _ _ _ => by omega) (xa_subI rfl rfl (fun _ _ _ _ => by omega) (xa_subI rfl rfl (fun _ _ _ _ => by omega) (xa_subI rfl rfl (fun _ _ _ _ => by omega) (xa_subI rfl rfl (fun _ _ _ _ => by omega) (xa_subR rfl xa_sub0)))))) ?_
            exact loop2 15 0 x4 x3 x1 M1 (by omega) (by omega) (by omega) (by omega) hc (by omega)
          · intro (c1 : x5 < (M1 60 0))
            refine And.intro (show 0 ≤ x5 ∧ x5 < 14 by omega) ?_
            refine And.intro ?_ ?_
            · intro (c2 : (M1 64 x5) = x2)
              refine And.intro (show 0 ≤ x5 ∧ x5 < 14 by omega) ?_
              show xa_C xm_I A h0 _ 32 [(0, 0, 0, 10, x3), (0, 0, 0, 9, M1 65 x5)] M1 _
              refine ct_min 0 9 (by decide) (by decide) (by decide) (fun r3 br3 er3 => ?_)
              refine And.intro (show 0 ≤ x5 ∧ x5 < 14 by omega) ?_
              show xa_C xm_I A h0 _ 35 [(0, 0, (-1), 9, x4), (0, 0, 0, 9, M1 65 x5)] M1 _
              refine ct_max 0 9 (by decide) (by decide) (by decide) (fun r4 br4 er4 => ?_)
              show Q 24 [(5, (0, 0, 1, 15, x5 + 1)), (4, (0, 0, 0, 9, r4)), (3, (0, 0, 0, 9, r3)), (2, (0, 0, 0, 9, x2)), (1, (0, 0, (-2147483648), 2147483647, x1)), (0, (2, 60, 0, 0, 0))] [] M1
              refine hgo.2.1 24 _ [(5, (0, 0, 0, 14, x5 + 1)), (4, (0, 0, (-1), 9, r4)), (3, (0, 0, 0, 10, r3)), (2, (0, 0, 0, 9, x2)), (1, (0, 0, (-2147483648), 2147483647, x1)), (0, (2, 60, 0, 0, 0))] _ _ (xa_subI rfl rfl (fun _ _ _ _ => by omega) (xa_subI rfl rfl (fun _ _ _ _ => by omega) (xa_subI rfl rfl (fun _ _ _ _ => by omega) (xa_subI rfl rfl (fun _ _ _ _ => by omega) (xa_subI rfl rfl (fun _ _ _ _ => by omega) (xa_subR rfl xa_sub0)))))) ?_
              exact ih1 (x5 + 1) r4 r3 M1 (by omega) (by omega) (by omega) (by omega) hc (by omega)
            · intro (c2 : ¬ (M1 64 x5) = x2)
              show Q 24 [(5, (0, 0, 1, 15, x5 + 1)), (4, (0, 0, (-1), 9, x4)), (3, (0, 0, 0, 10, x3)), (2, (0, 0, 0, 9, x2)), (1, (0, 0, (-2147483648), 2147483647, x1)), (0, (2, 60, 0, 0, 0))] [] M1
              refine hgo.2.1 24 _ [(5, (0, 0, 0, 14, x5 + 1)), (4, (0, 0, (-1), 9, x4)), (3, (0, 0, 0, 10, x3)), (2, (0, 0, 0, 9, x2)), (1, (0, 0, (-2147483648), 2147483647, x1)), (0, (2, 60, 0, 0, 0))] _ _ (xa_subI rfl rfl (fun _ _ _ _ => by omega) (xa_subI rfl rfl (fun _ _ _ _ => by omega) (xa_subI rfl rfl (fun _ _ _ _ => by omega) (xa_subI rfl rfl (fun _ _ _ _ => by omega) (xa_subI rfl rfl (fun _ _ _ _ => by omega) (xa_subR rfl xa_sub0)))))) ?_
              exact ih1 (x5 + 1) x4 x3 M1 (by omega) (by omega) (by omega) (by omega) hc (by omega)
      refine hgo.1 14 [9, 24, 82] 9 _ _ _ ?_
      refine And.intro ?_ ?_
      · intro (c1 : 10 ≤ x2)
        show post (some (0, 0, (-2147483648), 2147483647, x1)) M1
        exact k _ _ hc
      · intro (c1 : x2 < 10)
        show Q 24 [(5, (0, 0, 0, 0, 0)), (4, (0, 0, (-1), (-1), (-1))), (3, (0, 0, 10, 10, 10)), (2, (0, 0, 0, 10, x2)), (1, (0, 0, (-2147483648), 2147483647, x1)), (0, (2, 60, 0, 0, 0))] [] M1
        refine hgo.2.1 24 _ [(5, (0, 0, 0, 14, 0)), (4, (0, 0, (-1), 9, (-1))), (3, (0, 0, 0, 10, 10)), (2, (0, 0, 0, 9, x2)), (1, (0, 0, (-2147483648), 2147483647, x1)), (0, (2, 60, 0, 0, 0))] _ _ (xa_subI rfl rfl (fun _ _ _ _ => by omega) (xa_subI rfl rfl (fun _ _ _ _ => by omega) (xa_subI rfl rfl (fun _ _ _ _ => by omega) (xa_subI rfl rfl (fun _ _ _ _ => by omega) (xa_subI rfl rfl (fun _ _ _ _ => by omega) (xa_subR rfl xa_sub0)))))) ?_
        exact loop1 15 0 (-1) 10 M1 (by omega) (by omega) (by omega) (by omega) hc (by omega)
  refine hgo.1 12 [9, 24, 82] 0 _ _ _ ?_
  show Q 9 [(2, (0, 0, 0, 0, 0)), (1, (0, 0, 0, 0, 0)), (0, (2, 60, 0, 0, 0))] [] (xa_up M 60 21 0)
  refine hgo.2.1 9 _ [(2, (0, 0, 0, 10, 0)), (1, (0, 0, (-2147483648), 2147483647, 0)), (0, (2, 60, 0, 0, 0))] _ _ (xa_subI rfl rfl (fun _ _ _ _ => by omega) (xa_subI rfl rfl (fun _ _ _ _ => by omega) (xa_subR rfl xa_sub0))) ?_
  exact loop0 11 0 0 (xa_up M 60 21 0) (by omega) (xm_cor_f (by omega) xm_cor_r) (by omega)
theorem ms_room {A : Nat → Nat} {h0 : g_H} {d : Nat} {M : xa_M} {post : Option xa_V → xa_M → Prop} {l1 u1 : Int} {a : Int} (hI : xm_Inv M) (k : ∀ (o : Option xa_V) (M1 : xa_M), xm_cor M M1 → post o M1) : xa_C xm_I A h0 (d + 4) 263 [(2, 60, 0, 0, 0), (0, 0, l1, u1, a)] M post := by
  refine xa_C_arg [(2, 60, 0, 0, 0), (0, 0, (-2147483648), 2147483647, a)] (xa_svR (xa_svI (fun _ _ _ _ => by omega) xa_sv0)) ?_
  refine xa_meth (Q0 := (16, 1, false, 0, 0, 12)) (by decide +kernel) ⟨rfl, rfl⟩ (full := s_c_263) rfl rfl ?_
  intro hM hv Q hgo
  have b0 := xm_f0 hM
  have b6 := xm_f6 hM
  have b61 := xm_f61 hM
  have b11 := xm_f11 hM
  have b15 := xm_f15 hM
  have b16 := xm_f16 hM
  have hlh := hI.2.2.2.1
  have loop2 : ∀ (n : Nat) (x10 x9 x8 x7 x6 x5 x4 x3 x2 x1 : Int) (M1 : xa_M), (-1) ≤ x10 ∧ x10 ≤ 15 → 0 ≤ x1 ∧ x1 ≤ 50 → xm_cor M M1 → x10 + 1 < (n : Int) → Q 165 [(10, (0, 0, (-1), 15, x10)), (9, (0, 0, (-2147483648), 2147483647, x9)), (8, (0, 0, (-2147483648), 2147483647, x8)), (7, (0, 0, (-2147483648), 2147483647, x7)), (6, (0, 0, (-2147483648), 2147483647, x6)), (5, (0, 0, (-2147483648), 2147483647, x5)), (4, (0, 0, (-2147483648), 2147483647, x4)), (3, (0, 0, (-2147483648), 2147483647, x3)), (2, (0, 0, (-2147483648), 2147483647, x2)), (1, (0, 0, 0, 50, x1)), (0, (2, 60, 0, 0, 0))] [] M1 := by
    intro n
    induction n with
    | zero => intro x10 x9 x8 x7 x6 x5 x4 x3 x2 x1 M1 b10 b1 hc hms; omega
    | succ n ih2 =>
      intro x10 x9 x8 x7 x6 x5 x4 x3 x2 x1 M1 b10 b1 hc hms2
      have e0 := xm_corf hc 0 (by omega)
      have e6 := xm_corf hc 6 (by omega)
      have e61 := xm_corf hc 61 (by omega)
      have e11 := xm_corf hc 11 (by omega)
      have e15 := xm_corf hc 15 (by omega)
      have e16 := xm_corf hc 16 (by omega)
      refine hgo.2.2 _ _ _ _ (fun hM1 _ => ?_)
      have t66 : 0 ≤ x10 → 0 ≤ M1 66 x10 ∧ M1 66 x10 ≤ 13 := fun h => xm_t66 hM1 x10 h (by omega)
      have t67 : 0 ≤ x10 → 0 ≤ M1 67 x10 ∧ M1 67 x10 ≤ 13 := fun h => xm_t67 hM1 x10 h (by omega)
      have t64 : 0 ≤ x10 → (0 ≤ M1 64 (M1 66 x10) ∧ M1 64 (M1 66 x10) ≤ 9) ∧ (0 ≤ M1 64 (M1 67 x10) ∧ M1 64 (M1 67 x10) ≤ 9) := fun h => ⟨xm_t64 hM1 _ (t66 h).1 (by have := t66 h; omega), xm_t64 hM1 _ (t67 h).1 (by have := t67 h; omega)⟩
      refine hgo.1 81 [30, 45, 165] 165 _ _ _ ?_
      refine And.intro ?_ ?_
      · intro (c1 : x10 < 0)
        show xa_C xm_I A h0 _ 231 [(2, 60, 0, 0, 0), (1, 0, (-2147483648), 2147483647, x2)] (xa_up M1 60 20 0) _
        refine ct_tell (n := 0) (by first | rfl | (simp [xa_up]; done) | omega) (by omega) (by omega) ?_
        show xa_C xm_I A h0 _ 231 [(2, 60, 0, 0, 0), (1, 0, (-2147483648), 2147483647, x3)] (xa_up (xa_up (xa_up M1 60 20 0) 74 0 x2) 60 20 1) _
        refine ct_tell (n := 1) (by first | rfl | (simp [xa_up]; done) | omega) (by omega) (by omega) ?_
        show xa_C xm_I A h0 _ 231 [(2, 60, 0, 0, 0), (1, 0, (-2147483648), 2147483647, x4)] (xa_up (xa_up (xa_up (xa_up (xa_up M1 60 20 0) 74 0 x2) 60 20 1) 74 1 x3) 60 20 2) _
        refine ct_tell (n := 2) (by first | rfl | (simp [xa_up]; done) | omega) (by omega) (by omega) ?_
        show xa_C xm_I A h0 _ 231 [(2, 60, 0, 0, 0), (1, 0, (-2147483648), 2147483647, x6)] (xa_up (xa_up (xa_up (xa_up (xa_up (xa_up (xa_up M1 60 20 0) 74 0 x2) 60 20 1) 74 1 x3) 60 20 2) 74 2 x4) 60 20 3) _
        refine ct_tell (n := 3) (by first | rfl | (simp [xa_up]; done) | omega) (by omega) (by omega) ?_
        show xa_C xm_I A h0 _ 231 [(2, 60, 0, 0, 0), (1, 0, (-2147483648), 2147483647, x7)] (xa_up (xa_up (xa_up (xa_up (xa_up (xa_up (xa_up (xa_up (xa_up M1 60 20 0) 74 0 x2) 60 20 1) 74 1 x3) 60 20 2) 74 2 x4) 60 20 3) 74 3 x6) 60 20 4) _
        refine ct_tell (n := 4) (by first | rfl | (simp [xa_up]; done) | omega) (by omega) (by omega) ?_
        show xa_C xm_I A h0 _ 231 [(2, 60, 0, 0, 0), (1, 0, (-2147483648), 2147483647, x8)] (xa_up (xa_up (xa_up (xa_up (xa_up (xa_up (xa_up (xa_up (xa_up (xa_up (xa_up M1 60 20 0) 74 0 x2) 60 20 1) 74 1 x3) 60 20 2) 74 2 x4) 60 20 3) 74 3 x6) 60 20 4) 74 4 x7) 60 20 5) _
        refine ct_tell (n := 5) (by first | rfl | (simp [xa_up]; done) | omega) (by omega) (by omega) ?_
        show xa_C xm_I A h0 _ 231 [(2, 60, 0, 0, 0), (1, 0, (-2147483648), 2147483647, x9)] (xa_up (xa_up (xa_up (xa_up (xa_up (xa_up (xa_up (xa_up (xa_up (xa_up (xa_up (xa_up (xa_up M1 60 20 0) 74 0 x2) 60 20 1) 74 1 x3) 60 20 2) 74 2 x4) 60 20 3) 74 3 x6) 60 20 4) 74 4 x7) 60 20 5) 74 5 x8) 60 20 6) _
        refine ct_tell (n := 6) (by first | rfl | (simp [xa_up]; done) | omega) (by omega) (by omega) ?_
        show xa_C xm_I A h0 _ 231 [(2, 60, 0, 0, 0), (1, 0, (-2147483648), 2147483647, x5)] (xa_up (xa_up (xa_up (xa_up (xa_up (xa_up (xa_up (xa_up (xa_up (xa_up (xa_up (xa_up (xa_up (xa_up (xa_up M1 60 20 0) 74 0 x2) 60 20 1) 74 1 x3) 60 20 2) 74 2 x4) 60 20 3) 74 3 x6) 60 20 4) 74 4 x7) 60 20 5) 74 5 x8) 60 20 6) 74 6 x9) 60 20 7) _
        refine ct_tell (n := 7) (by first | rfl | (simp [xa_up]; done) | omega) (by omega) (by omega) ?_
        show post (some (0, 0, (-2147483648), 2147483647, xa_w32 ((xa_w32 ((xa_w32 (x2 + x6)) + x8)) + x5))) (xa_up (xa_up (xa_up (xa_up (xa_up (xa_up (xa_up (xa_up (xa_up (xa_up (xa_up (xa_up (xa_up (xa_up (xa_up (xa_up (xa_up M1 60 20 0) 74 0 x2) 60 20 1) 74 1 x3) 60 20 2) 74 2 x4) 60 20 3) 74 3 x6) 60 20 4) 74 4 x7) 60 20 5) 74 5 x8) 60 20 6) 74 6 x9) 60 20 7) 74 7 x5) 60 20 8)
        exact k _ _ (xm_cor_f (by omega) (xm_cor_a rfl (xm_cor_f (by omega) (xm_cor_a rfl (xm_cor_f (by omega) (xm_cor_a rfl (xm_cor_f (by omega) (xm_cor_a rfl (xm_cor_f (by omega) (xm_cor_a rfl (xm_cor_f (by omega) (xm_cor_a rfl (xm_cor_f (by omega) (xm_cor_a rfl (xm_cor_f (by omega) (xm_cor_a rfl (xm_cor_f (by omega) hc)))))))))))))))))
      · intro (c1 : 0 ≤ x10)
        refine And.intro (show 0 ≤ x10 ∧ x10 < 16 by omega) ?_
        refine And.intro (show 0 ≤ x10 ∧ x10 < 16 by omega) ?_
        refine And.intro ?_ ?_
        · intro (c2 : (M1 65 (M1 66 x10)) = (M1 65 (M1 67 x10)))
          show xa_C xm_I A h0 _ 265 [(2, 60, 0, 0, 0), (0, 0, 0, 9, M1 64 (M1 66 x10)), (0, 0, 0, 9, M1 64 (M1 67 x10))] M1 _
          refine ct_apart (by omega) (by omega) (by omega) (by omega) (fun r3 br3 => ?_)
          refine And.intro ?_ ?_
          · intro (c4 : ((((M1 63 (M1 66 x10)) + (M1 63 (M1 67 x10))) + x1) * (((M1 63 (M1 66 x10)) + (M1 63 (M1 67 x10))) + x1)) < r3)
            show Q 165 [(10, (0, 0, (-2), 14, x10 + (-1))), (9, (0, 0, (-1), 15, x10)), (8, (0, 0, (-2147483648), 2147483647, xa_w32 (x8 + 1))), (15, (0, 0, (-50), 800, ((M1 63 (M1 66 x10)) + (M1 63 (M1 67 x10))) - x1)), (14, (0, 0, 0, 850, ((M1 63 (M1 66 x10)) + (M1 63 (M1 67 x10))) + x1)), (13, (0, 0, 0, 2000000, r3)), (12, (0, 0, 0, 13, M1 67 x10)), (11, (0, 0, 0, 13, M1 66 x10)), (7, (0, 0, (-2147483648), 2147483647, x7)), (6, (0, 0, (-2147483648), 2147483647, x6)), (5, (0, 0, (-2147483648), 2147483647, x5)), (4, (0, 0, (-2147483648), 2147483647, x4)), (3, (0, 0, (-2147483648), 2147483647, x3)), (2, (0, 0, (-2147483648), 2147483647, x2)), (1, (0, 0, 0, 50, x1)), (0, (2, 60, 0, 0, 0))] [] M1
            refine hgo.2.1 165 _ [(10, (0, 0, (-1), 15, x10 + (-1))), (9, (0, 0, (-2147483648), 2147483647, x10)), (8, (0, 0, (-2147483648), 2147483647, xa_w32 (x8 + 1))), (7, (0, 0, (-2147483648), 2147483647, x7)), (6, (0, 0, (-2147483648), 2147483647, x6)), (5, (0, 0, (-2147483648), 2147483647, x5)), (4, (0, 0, (-2147483648), 2147483647, x4)), (3, (0, 0, (-2147483648), 2147483647, x3)), (2, (0, 0, (-2147483648), 2147483647, x2)), (1, (0, 0, 0, 50, x1)), (0, (2, 60, 0, 0, 0))] _ _ (xa_subI rfl rfl (fun _ _ _ _ => by omega) (xa_subI rfl rfl (fun _ _ _ _ => by omega) (xa_subI rfl rfl (fun _ _ _ _ => by omega) (xa_subI rfl rfl (fun _ _ _ _ => by omega) (xa_subI rfl rfl (fun _ _ _ _ => by omega) (xa_subI rfl rfl (fun _ _ _ _ => by omega) (xa_subI rfl rfl (fun _ _ _ _ => by omega) (xa_subI rfl rfl (fun _ _ _ _ => by omega) (xa_subI rfl rfl (fun _ _ _ _ => by omega) (xa_subI rfl rfl (fun _ _ _ _ => by omega) (xa_subR rfl xa_sub0))))))))))) ?_
            exact ih2 (x10 + (-1)) x10 (xa_w32 (x8 + 1)) x7 x6 x5 x4 x3 x2 x1 M1 (by omega) (by omega) hc (by omega)
          · intro (c4 : r3 ≤ ((((M1 63 (M1 66 x10)) + (M1 63 (M1 67 x10))) + x1) * (((M1 63 (M1 66 x10)) + (M1 63 (M1 67 x10))) + x1)))
            refine And.intro ?_ ?_
            · intro (c5 : (((M1 63 (M1 66 x10)) + (M1 63 (M1 67 x10))) - x1) ≤ 0)
              show Q 165 [(10, (0, 0, (-2), 14, x10 + (-1))), (15, (0, 0, (-50), 800, ((M1 63 (M1 66 x10)) + (M1 63 (M1 67 x10))) - x1)), (14, (0, 0, 0, 850, ((M1 63 (M1 66 x10)) + (M1 63 (M1 67 x10))) + x1)), (13, (0, 0, 0, 2000000, r3)), (12, (0, 0, 0, 13, M1 67 x10)), (11, (0, 0, 0, 13, M1 66 x10)), (9, (0, 0, (-2147483648), 2147483647, x9)), (8, (0, 0, (-2147483648), 2147483647, x8)), (7, (0, 0, (-2147483648), 2147483647, x7)), (6, (0, 0, (-2147483648), 2147483647, x6)), (5, (0, 0, (-2147483648), 2147483647, x5)), (4, (0, 0, (-2147483648), 2147483647, x4)), (3, (0, 0, (-2147483648), 2147483647, x3)), (2, (0, 0, (-2147483648), 2147483647, x2)), (1, (0, 0, 0, 50, x1)), (0, (2, 60, 0, 0, 0))] [] M1
              refine hgo.2.1 165 _ [(10, (0, 0, (-1), 15, x10 + (-1))), (9, (0, 0, (-2147483648), 2147483647, x9)), (8, (0, 0, (-2147483648), 2147483647, x8)), (7, (0, 0, (-2147483648), 2147483647, x7)), (6, (0, 0, (-2147483648), 2147483647, x6)), (5, (0, 0, (-2147483648), 2147483647, x5)), (4, (0, 0, (-2147483648), 2147483647, x4)), (3, (0, 0, (-2147483648), 2147483647, x3)), (2, (0, 0, (-2147483648), 2147483647, x2)), (1, (0, 0, 0, 50, x1)), (0, (2, 60, 0, 0, 0))] _ _ (xa_subI rfl rfl (fun _ _ _ _ => by omega) (xa_subI rfl rfl (fun _ _ _ _ => by omega) (xa_subI rfl rfl (fun _ _ _ _ => by omega) (xa_subI rfl rfl (fun _ _ _ _ => by omega) (xa_subI rfl rfl (fun _ _ _ _ => by omega) (xa_subI rfl rfl (fun _ _ _ _ => by omega) (xa_subI rfl rfl (fun _ _ _ _ => by omega) (xa_subI rfl rfl (fun _ _ _ _ => by omega) (xa_subI rfl rfl (fun _ _ _ _ => by omega) (xa_subI rfl rfl (fun _ _ _ _ => by omega) (xa_subR rfl xa_sub0))))))))))) ?_
              exact ih2 (x10 + (-1)) x9 x8 x7 x6 x5 x4 x3 x2 x1 M1 (by omega) (by omega) hc (by omega)
            · intro (c5 : 0 < (((M1 63 (M1 66 x10)) + (M1 63 (M1 67 x10))) - x1))
              refine And.intro ?_ ?_
              · intro (c6 : ((((M1 63 (M1 66 x10)) + (M1 63 (M1 67 x10))) - x1) * (((M1 63 (M1 66 x10)) + (M1 63 (M1 67 x10))) - x1)) ≤ r3)
                show Q 165 [(10, (0, 0, (-2), 14, x10 + (-1))), (15, (0, 0, (-50), 800, ((M1 63 (M1 66 x10)) + (M1 63 (M1 67 x10))) - x1)), (14, (0, 0, 0, 850, ((M1 63 (M1 66 x10)) + (M1 63 (M1 67 x10))) + x1)), (13, (0, 0, 0, 2000000, r3)), (12, (0, 0, 0, 13, M1 67 x10)), (11, (0, 0, 0, 13, M1 66 x10)), (9, (0, 0, (-2147483648), 2147483647, x9)), (8, (0, 0, (-2147483648), 2147483647, x8)), (7, (0, 0, (-2147483648), 2147483647, x7)), (6, (0, 0, (-2147483648), 2147483647, x6)), (5, (0, 0, (-2147483648), 2147483647, x5)), (4, (0, 0, (-2147483648), 2147483647, x4)), (3, (0, 0, (-2147483648), 2147483647, x3)), (2, (0, 0, (-2147483648), 2147483647, x2)), (1, (0, 0, 0, 50, x1)), (0, (2, 60, 0, 0, 0))] [] M1
                refine hgo.2.1 165 _ [(10, (0, 0, (-1), 15, x10 + (-1))), (9, (0, 0, (-2147483648), 2147483647, x9)), (8, (0, 0, (-2147483648), 2147483647, x8)), (7, (0, 0, (-2147483648), 2147483647, x7)), (6, (0, 0, (-2147483648), 2147483647, x6)), (5, (0, 0, (-2147483648), 2147483647, x5)), (4, (0, 0, (-2147483648), 2147483647, x4)), (3, (0, 0, (-2147483648), 2147483647, x3)), (2, (0, 0, (-2147483648), 2147483647, x2)), (1, (0, 0, 0, 50, x1)), (0, (2, 60, 0, 0, 0))] _ _ (xa_subI rfl rfl (fun _ _ _ _ => by omega) (xa_subI rfl rfl (fun _ _ _ _ => by omega) (xa_subI rfl rfl (fun _ _ _ _ => by omega) (xa_subI rfl rfl (fun _ _ _ _ => by omega) (xa_subI rfl rfl (fun _ _ _ _ => by omega) (xa_subI rfl rfl (fun _ _ _ _ => by omega) (xa_subI rfl rfl (fun _ _ _ _ => by omega) (xa_subI rfl rfl (fun _ _ _ _ => by omega) (xa_subI rfl rfl (fun _ _ _ _ => by omega) (xa_subI rfl rfl (fun _ _ _ _ => by omega) (xa_subR rfl xa_sub0))))))))))) ?_
                exact ih2 (x10 + (-1)) x9 x8 x7 x6 x5 x4 x3 x2 x1 M1 (by omega) (by omega) hc (by omega)
              · intro (c6 : r3 < ((((M1 63 (M1 66 x10)) + (M1 63 (M1 67 x10))) - x1) * (((M1 63 (M1 66 x10)) + (M1 63 (M1 67 x10))) - x1)))
                show Q 165 [(10, (0, 0, (-2), 14, x10 + (-1))), (9, (0, 0, (-1), 15, x10)), (8, (0, 0, (-2147483648), 2147483647, xa_w32 (x8 + 1))), (15, (0, 0, (-50), 800, ((M1 63 (M1 66 x10)) + (M1 63 (M1 67 x10))) - x1)), (14, (0, 0, 0, 850, ((M1 63 (M1 66 x10)) + (M1 63 (M1 67 x10))) + x1)), (13, (0, 0, 0, 2000000, r3)), (12, (0, 0, 0, 13, M1 67 x10)), (11, (0, 0, 0, 13, M1 66 x10)), (7, (0, 0, (-2147483648), 2147483647, x7)), (6, (0, 0, (-2147483648), 2147483647, x6)), (5, (0, 0, (-2147483648), 2147483647, x5)), (4, (0, 0, (-2147483648), 2147483647, x4)), (3, (0, 0, (-2147483648), 2147483647, x3)), (2, (0, 0, (-2147483648), 2147483647, x2)), (1, (0, 0, 0, 50, x1)), (0, (2, 60, 0, 0, 0))] [] M1
                refine hgo.2.1 165 _ [(10, (0, 0, (-1), 15, x10 + (-1))), (9, (0, 0, (-2147483648), 2147483647, x10)), (8, (0, 0, (-2147483648), 2147483647, xa_w32 (x8 + 1))), (7, (0, 0, (-2147483648), 2147483647, x7)), (6, (0, 0, (-2147483648), 2147483647, x6)), (5, (0, 0, (-2147483648), 2147483647, x5)), (4, (0, 0, (-2147483648), 2147483647, x4)), (3, (0, 0, (-2147483648), 2147483647, x3)), (2, (0, 0, (-2147483648), 2147483647, x2)), (1, (0, 0, 0, 50, x1)), (0, (2, 60, 0, 0, 0))] _ _ (xa_subI rfl rfl (fun _ _ _ _ => by omega) (xa_subI rfl rfl (fun _ _ _ _ => by omega) (xa_subI rfl rfl (fun _ _ _ _ => by omega) (xa_subI rfl rfl (fun _ _ _ _ => by omega) (xa_subI rfl rfl (fun _ _ _ _ => by omega) (xa_subI rfl rfl (fun _ _ _ _ => by omega) (xa_subI rfl rfl (fun _ _ _ _ => by omega) (xa_subI rfl rfl (fun _ _ _ _ => by omega) (xa_subI rfl rfl (fun _ _ _ _ => by omega) (xa_subI rfl rfl (fun _ _ _ _ => by omega) (xa_subR rfl xa_sub0))))))))))) ?_
                exact ih2 (x10 + (-1)) x10 (xa_w32 (x8 + 1)) x7 x6 x5 x4 x3 x2 x1 M1 (by omega) (by omega) hc (by omega)
        · intro (c2 : ¬ (M1 65 (M1 66 x10)) = (M1 65 (M1 67 x10)))
          show xa_C xm_I A h0 _ 265 [(2, 60, 0, 0, 0), (0, 0, 0, 9, M1 64 (M1 66 x10)), (0, 0, 0, 9, M1 64 (M1 67 x10))] M1 _
          refine ct_apart (by omega) (by omega) (by omega) (by omega) (fun r7 br7 => ?_)
          refine And.intro ?_ ?_
          · intro (c8 : ((((M1 63 (M1 66 x10)) + (M1 63 (M1 67 x10))) + x1) * (((M1 63 (M1 66 x10)) + (M1 63 (M1 67 x10))) + x1)) < r7)
            show Q 165 [(10, (0, 0, (-2), 14, x10 + (-1))), (9, (0, 0, (-1), 15, x10)), (8, (0, 0, (-2147483648), 2147483647, xa_w32 (x8 + 1))), (15, (0, 0, (-50), 800, ((M1 63 (M1 66 x10)) + (M1 63 (M1 67 x10))) - x1)), (14, (0, 0, 0, 850, ((M1 63 (M1 66 x10)) + (M1 63 (M1 67 x10))) + x1)), (13, (0, 0, 0, 2000000, r7)), (7, (0, 0, (-1), 15, x10)), (6, (0, 0, (-2147483648), 2147483647, xa_w32 (x6 + 1))), (12, (0, 0, 0, 13, M1 67 x10)), (11, (0, 0, 0, 13, M1 66 x10)), (5, (0, 0, (-2147483648), 2147483647, x5)), (4, (0, 0, (-2147483648), 2147483647, x4)), (3, (0, 0, (-2147483648), 2147483647, x3)), (2, (0, 0, (-2147483648), 2147483647, x2)), (1, (0, 0, 0, 50, x1)), (0, (2, 60, 0, 0, 0))] [] M1
            refine hgo.2.1 165 _ [(10, (0, 0, (-1), 15, x10 + (-1))), (9, (0, 0, (-2147483648), 2147483647, x10)), (8, (0, 0, (-2147483648), 2147483647, xa_w32 (x8 + 1))), (7, (0, 0, (-2147483648), 2147483647, x10)), (6, (0, 0, (-2147483648), 2147483647, xa_w32 (x6 + 1))), (5, (0, 0, (-2147483648), 2147483647, x5)), (4, (0, 0, (-2147483648), 2147483647, x4)), (3, (0, 0, (-2147483648), 2147483647, x3)), (2, (0, 0, (-2147483648), 2147483647, x2)), (1, (0, 0, 0, 50, x1)), (0, (2, 60, 0, 0, 0))] _ _ (xa_subI rfl rfl (fun _ _ _ _ => by omega) (xa_subI rfl rfl (fun _ _ _ _ => by omega) (xa_subI rfl rfl (fun _ _ _ _ => by omega) (xa_subI rfl rfl (fun _ _ _ _ => by omega) (xa_subI rfl rfl (fun _ _ _ _ => by omega) (xa_subI rfl rfl (fun _ _ _ _ => by omega) (xa_subI rfl rfl (fun _ _ _ _ => by omega) (xa_subI rfl rfl (fun _ _ _ _ => by omega) (xa_subI rfl rfl (fun _ _ _ _ => by omega) (xa_subI rfl rfl (fun _ _ _ _ => by omega) (xa_subR rfl xa_sub0))))))))))) ?_
            exact ih2 (x10 + (-1)) x10 (xa_w32 (x8 + 1)) x10 (xa_w32 (x6 + 1)) x5 x4 x3 x2 x1 M1 (by omega) (by omega) hc (by omega)
          · intro (c8 : r7 ≤ ((((M1 63 (M1 66 x10)) + (M1 63 (M1 67 x10))) + x1) * (((M1 63 (M1 66 x10)) + (M1 63 (M1 67 x10))) + x1)))
            refine And.intro ?_ ?_
            · intro (c9 : (((M1 63 (M1 66 x10)) + (M1 63 (M1 67 x10))) - x1) ≤ 0)
              show Q 165 [(10, (0, 0, (-2), 14, x10 + (-1))), (15, (0, 0, (-50), 800, ((M1 63 (M1 66 x10)) + (M1 63 (M1 67 x10))) - x1)), (14, (0, 0, 0, 850, ((M1 63 (M1 66 x10)) + (M1 63 (M1 67 x10))) + x1)), (13, (0, 0, 0, 2000000, r7)), (7, (0, 0, (-1), 15, x10)), (6, (0, 0, (-2147483648), 2147483647, xa_w32 (x6 + 1))), (12, (0, 0, 0, 13, M1 67 x10)), (11, (0, 0, 0, 13, M1 66 x10)), (9, (0, 0, (-2147483648), 2147483647, x9)), (8, (0, 0, (-2147483648), 2147483647, x8)), (5, (0, 0, (-2147483648), 2147483647, x5)), (4, (0, 0, (-2147483648), 2147483647, x4)), (3, (0, 0, (-2147483648), 2147483647, x3)), (2, (0, 0, (-2147483648), 2147483647, x2)), (1, (0, 0, 0, 50, x1)), (0, (2, 60, 0, 0, 0))] [] M1
              refine hgo.2.1 165 _ [(10, (0, 0, (-1), 15, x10 + (-1))), (9, (0, 0, (-2147483648), 2147483647, x9)), (8, (0, 0, (-2147483648), 2147483647, x8)), (7, (0, 0, (-2147483648), 2147483647, x10)), (6, (0, 0, (-2147483648), 2147483647, xa_w32 (x6 + 1))), (5, (0, 0, (-2147483648), 2147483647, x5)), (4, (0, 0, (-2147483648), 2147483647, x4)), (3, (0, 0, (-2147483648), 2147483647, x3)), (2, (0, 0, (-2147483648), 2147483647, x2)), (1, (0, 0, 0, 50, x1)), (0, (2, 60, 0, 0, 0))] _ _ (xa_subI rfl rfl (fun _ _ _ _ => by omega) (xa_subI rfl rfl (fun _ _ _ _ => by omega) (xa_subI rfl rfl (fun _ _ _ _ => by omega) (xa_subI rfl rfl (fun _ _ _ _ => by omega) (xa_subI rfl rfl (fun _ _ _ _ => by omega) (xa_subI rfl rfl (fun _ _ _ _ => by omega) (xa_subI rfl rfl (fun _ _ _ _ => by omega) (xa_subI rfl rfl (fun _ _ _ _ => by omega) (xa_subI rfl rfl (fun _ _ _ _ => by omega) (xa_subI rfl rfl (fun _ _ _ _ => by omega) (xa_subR rfl xa_sub0))))))))))) ?_
              exact ih2 (x10 + (-1)) x9 x8 x10 (xa_w32 (x6 + 1)) x5 x4 x3 x2 x1 M1 (by omega) (by omega) hc (by omega)
            · intro (c9 : 0 < (((M1 63 (M1 66 x10)) + (M1 63 (M1 67 x10))) - x1))
              refine And.intro ?_ ?_
              · intro (c10 : ((((M1 63 (M1 66 x10)) + (M1 63 (M1 67 x10))) - x1) * (((M1 63 (M1 66 x10)) + (M1 63 (M1 67 x10))) - x1)) ≤ r7)
                show Q 165 [(10, (0, 0, (-2), 14, x10 + (-1))), (15, (0, 0, (-50), 800, ((M1 63 (M1 66 x10)) + (M1 63 (M1 67 x10))) - x1)), (14, (0, 0, 0, 850, ((M1 63 (M1 66 x10)) + (M1 63 (M1 67 x10))) + x1)), (13, (0, 0, 0, 2000000, r7)), (7, (0, 0, (-1), 15, x10)), (6, (0, 0, (-2147483648), 2147483647, xa_w32 (x6 + 1))), (12, (0, 0, 0, 13, M1 67 x10)), (11, (0, 0, 0, 13, M1 66 x10)), (9, (0, 0, (-2147483648), 2147483647, x9)), (8, (0, 0, (-2147483648), 2147483647, x8)), (5, (0, 0, (-2147483648), 2147483647, x5)), (4, (0, 0, (-2147483648), 2147483647, x4)), (3, (0, 0, (-2147483648), 2147483647, x3)), (2, (0, 0, (-2147483648), 2147483647, x2)), (1, (0, 0, 0, 50, x1)), (0, (2, 60, 0, 0, 0))] [] M1
                refine hgo.2.1 165 _ [(10, (0, 0, (-1), 15, x10 + (-1))), (9, (0, 0, (-2147483648), 2147483647, x9)), (8, (0, 0, (-2147483648), 2147483647, x8)), (7, (0, 0, (-2147483648), 2147483647, x10)), (6, (0, 0, (-2147483648), 2147483647, xa_w32 (x6 + 1))), (5, (0, 0, (-2147483648), 2147483647, x5)), (4, (0, 0, (-2147483648), 2147483647, x4)), (3, (0, 0, (-2147483648), 2147483647, x3)), (2, (0, 0, (-2147483648), 2147483647, x2)), (1, (0, 0, 0, 50, x1)), (0, (2, 60, 0, 0, 0))] _ _ (xa_subI rfl rfl (fun _ _ _ _ => by omega) (xa_subI rfl rfl (fun _ _ _ _ => by omega) (xa_subI rfl rfl (fun _ _ _ _ => by omega) (xa_subI rfl rfl (fun _ _ _ _ => by omega) (xa_subI rfl rfl (fun _ _ _ _ => by omega) (xa_subI rfl rfl (fun _ _ _ _ => by omega) (xa_subI rfl rfl (fun _ _ _ _ => by omega) (xa_subI rfl rfl (fun _ _ _ _ => by omega) (xa_subI rfl rfl (fun _ _ _ _ => by omega) (xa_subI rfl rfl (fun _ _ _ _ => by omega) (xa_subR rfl xa_sub0))))))))))) ?_
                exact ih2 (x10 + (-1)) x9 x8 x10 (xa_w32 (x6 + 1)) x5 x4 x3 x2 x1 M1 (by omega) (by omega) hc (by omega)
              · intro (c10 : r7 < ((((M1 63 (M1 66 x10)) + (M1 63 (M1 67 x10))) - x1) * (((M1 63 (M1 66 x10)) + (M1 63 (M1 67 x10))) - x1)))
                show Q 165 [(10, (0, 0, (-2), 14, x10 + (-1))), (9, (0, 0, (-1), 15, x10)), (8, (0, 0, (-2147483648), 2147483647, xa_w32 (x8 + 1))), (15, (0, 0, (-50), 800, ((M1 63 (M1 66 x10)) + (M1 63 (M1 67 x10))) - x1)), (14, (0, 0, 0, 850, ((M1 63 (M1 66 x10)) + (M1 63 (M1 67 x10))) + x1)), (13, (0, 0, 0, 2000000, r7)), (7, (0, 0, (-1), 15, x10)), (6, (0, 0, (-2147483648), 2147483647, xa_w32 (x6 + 1))), (12, (0, 0, 0, 13, M1 67 x10)), (11, (0, 0, 0, 13, M1 66 x10)), (5, (0, 0, (-2147483648), 2147483647, x5)), (4, (0, 0, (-2147483648), 2147483647, x4)), (3, (0, 0, (-2147483648), 2147483647, x3)), (2, (0, 0, (-2147483648), 2147483647, x2)), (1, (0, 0, 0, 50, x1)), (0, (2, 60, 0, 0, 0))] [] M1
                refine hgo.2.1 165 _ [(10, (0, 0, (-1), 15, x10 + (-1))), (9, (0, 0, (-2147483648), 2147483647, x10)), (8, (0, 0, (-2147483648), 2147483647, xa_w32 (x8 + 1))), (7, (0, 0, (-2147483648), 2147483647, x10)), (6, (0, 0, (-2147483648), 2147483647, xa_w32 (x6 + 1))), (5, (0, 0, (-2147483648), 2147483647, x5)), (4, (0, 0, (-2147483648), 2147483647, x4)), (3, (0, 0, (-2147483648), 2147483647, x3)), (2, (0, 0, (-2147483648), 2147483647, x2)), (1, (0, 0, 0, 50, x1)), (0, (2, 60, 0, 0, 0))] _ _ (xa_subI rfl rfl (fun _ _ _ _ => by omega) (xa_subI rfl rfl (fun _ _ _ _ => by omega) (xa_subI rfl rfl (fun _ _ _ _ => by omega) (xa_subI rfl rfl (fun _ _ _ _ => by omega) (xa_subI rfl rfl (fun _ _ _ _ => by omega) (xa_subI rfl rfl (fun _ _ _ _ => by omega) (xa_subI rfl rfl (fun _ _ _ _ => by omega) (xa_subI rfl rfl (fun _ _ _ _ => by omega) (xa_subI rfl rfl (fun _ _ _ _ => by omega) (xa_subI rfl rfl (fun _ _ _ _ => by omega) (xa_subR rfl xa_sub0))))))))))) ?_
                exact ih2 (x10 + (-1)) x10 (xa_w32 (x8 + 1)) x10 (xa_w32 (x6 + 1)) x5 x4 x3 x2 x1 M1 (by omega) (by omega) hc (by omega)
  have loop0 : ∀ (n : Nat) (x6 x5 x4 x3 x2 x1 : Int) (M1 : xa_M), 0 ≤ x6 ∧ x6 ≤ 14 → 0 ≤ x1 ∧ x1 ≤ 50 → xm_cor M M1 → 14 - x6 < (n : Int) → Q 30 [(6, (0, 0, 0, 14, x6)), (5, (0, 0, (-2147483648), 2147483647, x5)), (4, (0, 0, (-2147483648), 2147483647, x4)), (3, (0, 0, (-2147483648), 2147483647, x3)), (2, (0, 0, (-2147483648), 2147483647, x2)), (1, (0, 0, 0, 50, x1)), (0, (2, 60, 0, 0, 0))] [] M1 := by
    intro n
    induction n with
    | zero => intro x6 x5 x4 x3 x2 x1 M1 b6 b1 hc hms; omega
    | succ n ih0 =>
      intro x6 x5 x4 x3 x2 x1 M1 b6 b1 hc hms0
      have e0 := xm_corf hc 0 (by omega)
      have e6 := xm_corf hc 6 (by omega)
      have e61 := xm_corf hc 61 (by omega)
      have e11 := xm_corf hc 11 (by omega)
      have e15 := xm_corf hc 15 (by omega)
      have e16 := xm_corf hc 16 (by omega)
      have loop1 : ∀ (n : Nat) (x7 x5 x4 x3 x2 : Int) (M1 : xa_M), 1 ≤ x7 ∧ x7 ≤ 15 → 0 ≤ x6 ∧ x6 ≤ 13 → 0 ≤ x1 ∧ x1 ≤ 50 → xm_cor M M1 → 15 - x7 < (n : Int) → Q 45 [(7, (0, 0, 1, 15, x7)), (6, (0, 0, 0, 13, x6)), (5, (0, 0, (-2147483648), 2147483647, x5)), (4, (0, 0, (-2147483648), 2147483647, x4)), (3, (0, 0, (-2147483648), 2147483647, x3)), (2, (0, 0, (-2147483648), 2147483647, x2)), (1, (0, 0, 0, 50, x1)), (0, (2, 60, 0, 0, 0))] [] M1 := by
        intro n
        induction n with
        | zero => intro x7 x5 x4 x3 x2 M1 b7 f6 f1 hc hms; omega
        | succ n ih1 =>
          intro x7 x5 x4 x3 x2 M1 b7 f6 f1 hc hms1
          have e0 := xm_corf hc 0 (by omega)
          have e6 := xm_corf hc 6 (by omega)
          have e61 := xm_corf hc 61 (by omega)
          have e11 := xm_corf hc 11 (by omega)
          have e15 := xm_corf hc 15 (by omega)
          have e16 := xm_corf hc 16 (by omega)
          refine hgo.1 47 [30, 45, 165] 45 _ _ _ ?_
          refine And.intro ?_ ?_
          · intro (c1 : (M1 60 0) ≤ x7)
            show Q 30 [(6, (0, 0, 1, 14, x6 + 1)), (7, (0, 0, 1, 15, x7)), (5, (0, 0, (-2147483648), 2147483647, x5)), (4, (0, 0, (-2147483648), 2147483647, x4)), (3, (0, 0, (-2147483648), 2147483647, x3)), (2, (0, 0, (-2147483648), 2147483647, x2)), (1, (0, 0, 0, 50, x1)), (0, (2, 60, 0, 0, 0))] [] M1
            refine hgo.2.1 30 _ [(6, (0, 0, 0, 14, x6 + 1)), (5, (0, 0, (-2147483648), 2147483647, x5)), (4, (0, 0, (-2147483648), 2147483647, x4)), (3, (0, 0, (-2147483648), 2147483647, x3)), (2, (0, 0, (-2147483648), 2147483647, x2)), (1, (0, 0, 0, 50, x1)), (0, (2, 60, 0, 0, 0))] _ _ (xa_subI rfl rfl (fun _ _ _ _ => by omega) (xa_subI rfl rfl (fun _ _ _ _ => by omega) (xa_subI rfl rfl (fun _ _ _ _ => by omega) (xa_subI rfl rfl (fun _ _ _ _ => by omega) (xa_subI rfl rfl (fun _ _ _ _ => by omega) (xa_subI rfl rfl (fun _ _ _ _ => by omega) (xa_subR rfl xa_sub0))))))) ?_
            exact ih0 (x6 + 1) x5 x4 x3 x2 x1 M1 (by omega) (by omega) hc (by omega)
          · intro (c1 : x7 < (M1 60 0))
            refine And.intro (show 0 ≤ x7 ∧ x7 < 14 by omega) ?_
            refine And.intro ?_ ?_
            · intro (c2 : (M1 65 x6) = (M1 65 x7))
              refine And.intro (show 0 ≤ x7 ∧ x7 < 14 by omega) ?_
              refine And.intro ?_ ?_
              · intro (c3 : ¬ (M1 64 x6) = (M1 64 x7))
                show xa_C xm_I A h0 _ 264 [(2, 60, 0, 0, 0), (0, 0, 0, 13, x6), (0, 0, 1, 15, x7)] M1 _
                refine ct_areNear (by omega) (by omega) (by omega) (by omega) (fun r4 br4 => ?_)
                refine And.intro ?_ ?_
                · intro (c5 : r4 = 0)
                  show Q 45 [(7, (0, 0, 2, 16, x7 + 1)), (6, (0, 0, 0, 13, x6)), (5, (0, 0, (-2147483648), 2147483647, x5)), (4, (0, 0, (-2147483648), 2147483647, x4)), (3, (0, 0, (-2147483648), 2147483647, x3)), (2, (0, 0, (-2147483648), 2147483647, x2)), (1, (0, 0, 0, 50, x1)), (0, (2, 60, 0, 0, 0))] [] M1
                  refine hgo.2.1 45 _ [(7, (0, 0, 1, 15, x7 + 1)), (6, (0, 0, 0, 13, x6)), (5, (0, 0, (-2147483648), 2147483647, x5)), (4, (0, 0, (-2147483648), 2147483647, x4)), (3, (0, 0, (-2147483648), 2147483647, x3)), (2, (0, 0, (-2147483648), 2147483647, x2)), (1, (0, 0, 0, 50, x1)), (0, (2, 60, 0, 0, 0))] _ _ (xa_subI rfl rfl (fun _ _ _ _ => by omega) (xa_subI rfl rfl (fun _ _ _ _ => by omega) (xa_subI rfl rfl (fun _ _ _ _ => by omega) (xa_subI rfl rfl (fun _ _ _ _ => by omega) (xa_subI rfl rfl (fun _ _ _ _ => by omega) (xa_subI rfl rfl (fun _ _ _ _ => by omega) (xa_subI rfl rfl (fun _ _ _ _ => by omega) (xa_subR rfl xa_sub0)))))))) ?_
                  exact ih1 (x7 + 1) x5 x4 x3 x2 M1 (by omega) (by omega) (by omega) hc (by omega)
                · intro (c5 : ¬ r4 = 0)
                  show xa_C xm_I A h0 _ 221 [(2, 60, 0, 0, 0), (0, 0, 0, 13, x6), (0, 0, 1, 15, x7)] M1 _
                  refine ct_areMeshed (fun r6 zr6 er6 => ?_)
                  refine And.intro ?_ ?_
                  · intro (c7 : r6 = 0)
                    refine And.intro ?_ ?_
                    · intro (c8 : ¬ x2 = 0)
                      show Q 45 [(7, (0, 0, 2, 16, x7 + 1)), (2, (0, 0, (-2147483648), 2147483647, xa_w32 (x2 + 1))), (6, (0, 0, 0, 13, x6)), (5, (0, 0, (-2147483648), 2147483647, x5)), (4, (0, 0, (-2147483648), 2147483647, x4)), (3, (0, 0, (-2147483648), 2147483647, x3)), (1, (0, 0, 0, 50, x1)), (0, (2, 60, 0, 0, 0))] [] M1
                      refine hgo.2.1 45 _ [(7, (0, 0, 1, 15, x7 + 1)), (6, (0, 0, 0, 13, x6)), (5, (0, 0, (-2147483648), 2147483647, x5)), (4, (0, 0, (-2147483648), 2147483647, x4)), (3, (0, 0, (-2147483648), 2147483647, x3)), (2, (0, 0, (-2147483648), 2147483647, xa_w32 (x2 + 1))), (1, (0, 0, 0, 50, x1)), (0, (2, 60, 0, 0, 0))] _ _ (xa_subI rfl rfl (fun _ _ _ _ => by omega) (xa_subI rfl rfl (fun _ _ _ _ => by omega) (xa_subI rfl rfl (fun _ _ _ _ => by omega) (xa_subI rfl rfl (fun _ _ _ _ => by omega) (xa_subI rfl rfl (fun _ _ _ _ => by omega) (xa_subI rfl rfl (fun _ _ _ _ => by omega) (xa_subI rfl rfl (fun _ _ _ _ => by omega) (xa_subR rfl xa_sub0)))))))) ?_
                      exact ih1 (x7 + 1) x5 x4 x3 (xa_w32 (x2 + 1)) M1 (by omega) (by omega) (by omega) hc (by omega)
                    · intro (c8 : x2 = 0)
                      show Q 45 [(7, (0, 0, 2, 16, x7 + 1)), (2, (0, 0, (-2147483648), 2147483647, xa_w32 (x2 + 1))), (4, (0, 0, 1, 15, x7)), (3, (0, 0, 0, 13, x6)), (6, (0, 0, 0, 13, x6)), (5, (0, 0, (-2147483648), 2147483647, x5)), (1, (0, 0, 0, 50, x1)), (0, (2, 60, 0, 0, 0))] [] M1
                      refine hgo.2.1 45 _ [(7, (0, 0, 1, 15, x7 + 1)), (6, (0, 0, 0, 13, x6)), (5, (0, 0, (-2147483648), 2147483647, x5)), (4, (0, 0, (-2147483648), 2147483647, x7)), (3, (0, 0, (-2147483648), 2147483647, x6)), (2, (0, 0, (-2147483648), 2147483647, xa_w32 (x2 + 1))), (1, (0, 0, 0, 50, x1)), (0, (2, 60, 0, 0, 0))] _ _ (xa_subI rfl rfl (fun _ _ _ _ => by omega) (xa_subI rfl rfl (fun _ _ _ _ => by omega) (xa_subI rfl rfl (fun _ _ _ _ => by omega) (xa_subI rfl rfl (fun _ _ _ _ => by omega) (xa_subI rfl rfl (fun _ _ _ _ => by omega) (xa_subI rfl rfl (fun _ _ _ _ => by omega) (xa_subI rfl rfl (fun _ _ _ _ => by omega) (xa_subR rfl xa_sub0)))))))) ?_
                      exact ih1 (x7 + 1) x5 x7 x6 (xa_w32 (x2 + 1)) M1 (by omega) (by omega) (by omega) hc (by omega)
                  · intro (c7 : ¬ r6 = 0)
                    show Q 45 [(7, (0, 0, 2, 16, x7 + 1)), (6, (0, 0, 0, 13, x6)), (5, (0, 0, (-2147483648), 2147483647, x5)), (4, (0, 0, (-2147483648), 2147483647, x4)), (3, (0, 0, (-2147483648), 2147483647, x3)), (2, (0, 0, (-2147483648), 2147483647, x2)), (1, (0, 0, 0, 50, x1)), (0, (2, 60, 0, 0, 0))] [] M1
                    refine hgo.2.1 45 _ [(7, (0, 0, 1, 15, x7 + 1)), (6, (0, 0, 0, 13, x6)), (5, (0, 0, (-2147483648), 2147483647, x5)), (4, (0, 0, (-2147483648), 2147483647, x4)), (3, (0, 0, (-2147483648), 2147483647, x3)), (2, (0, 0, (-2147483648), 2147483647, x2)), (1, (0, 0, 0, 50, x1)), (0, (2, 60, 0, 0, 0))] _ _ (xa_subI rfl rfl (fun _ _ _ _ => by omega) (xa_subI rfl rfl (fun _ _ _ _ => by omega) (xa_subI rfl rfl (fun _ _ _ _ => by omega) (xa_subI rfl rfl (fun _ _ _ _ => by omega) (xa_subI rfl rfl (fun _ _ _ _ => by omega) (xa_subI rfl rfl (fun _ _ _ _ => by omega) (xa_subI rfl rfl (fun _ _ _ _ => by omega) (xa_subR rfl xa_sub0)))))))) ?_
                    exact ih1 (x7 + 1) x5 x4 x3 x2 M1 (by omega) (by omega) (by omega) hc (by omega)
              · intro (c3 : (M1 64 x6) = (M1 64 x7))
                show xa_C xm_I A h0 _ 264 [(2, 60, 0, 0, 0), (0, 0, 0, 13, x6), (0, 0, 1, 15, x7)] M1 _
                refine ct_areNear (by omega) (by omega) (by omega) (by omega) (fun r9 br9 => ?_)
                refine And.intro ?_ ?_
                · intro (c10 : r9 = 0)
                  show Q 45 [(7, (0, 0, 2, 16, x7 + 1)), (5, (0, 0, (-2147483648), 2147483647, xa_w32 (x5 + 1))), (6, (0, 0, 0, 13, x6)), (4, (0, 0, (-2147483648), 2147483647, x4)), (3, (0, 0, (-2147483648), 2147483647, x3)), (2, (0, 0, (-2147483648), 2147483647, x2)), (1, (0, 0, 0, 50, x1)), (0, (2, 60, 0, 0, 0))] [] M1
                  refine hgo.2.1 45 _ [(7, (0, 0, 1, 15, x7 + 1)), (6, (0, 0, 0, 13, x6)), (5, (0, 0, (-2147483648), 2147483647, xa_w32 (x5 + 1))), (4, (0, 0, (-2147483648), 2147483647, x4)), (3, (0, 0, (-2147483648), 2147483647, x3)), (2, (0, 0, (-2147483648), 2147483647, x2)), (1, (0, 0, 0, 50, x1)), (0, (2, 60, 0, 0, 0))] _ _ (xa_subI rfl rfl (fun _ _ _ _ => by omega) (xa_subI rfl rfl (fun _ _ _ _ => by omega) (xa_subI rfl rfl (fun _ _ _ _ => by omega) (xa_subI rfl rfl (fun _ _ _ _ => by omega) (xa_subI rfl rfl (fun _ _ _ _ => by omega) (xa_subI rfl rfl (fun _ _ _ _ => by omega) (xa_subI rfl rfl (fun _ _ _ _ => by omega) (xa_subR rfl xa_sub0)))))))) ?_
                  exact ih1 (x7 + 1) (xa_w32 (x5 + 1)) x4 x3 x2 M1 (by omega) (by omega) (by omega) hc (by omega)
                · intro (c10 : ¬ r9 = 0)
                  show xa_C xm_I A h0 _ 221 [(2, 60, 0, 0, 0), (0, 0, 0, 13, x6), (0, 0, 1, 15, x7)] M1 _
                  refine ct_areMeshed (fun r11 zr11 er11 => ?_)
                  refine And.intro ?_ ?_
                  · intro (c12 : r11 = 0)
                    refine And.intro ?_ ?_
                    · intro (c13 : ¬ x2 = 0)
                      show Q 45 [(7, (0, 0, 2, 16, x7 + 1)), (2, (0, 0, (-2147483648), 2147483647, xa_w32 (x2 + 1))), (5, (0, 0, (-2147483648), 2147483647, xa_w32 (x5 + 1))), (6, (0, 0, 0, 13, x6)), (4, (0, 0, (-2147483648), 2147483647, x4)), (3, (0, 0, (-2147483648), 2147483647, x3)), (1, (0, 0, 0, 50, x1)), (0, (2, 60, 0, 0, 0))] [] M1
                      refine hgo.2.1 45 _ [(7, (0, 0, 1, 15, x7 + 1)), (6, (0, 0, 0, 13, x6)), (5, (0, 0, (-2147483648), 2147483647, xa_w32 (x5 + 1))), (4, (0, 0, (-2147483648), 2147483647, x4)), (3, (0, 0, (-2147483648), 2147483647, x3)), (2, (0, 0, (-2147483648), 2147483647, xa_w32 (x2 + 1))), (1, (0, 0, 0, 50, x1)), (0, (2, 60, 0, 0, 0))] _ _ (xa_subI rfl rfl (fun _ _ _ _ => by omega) (xa_subI rfl rfl (fun _ _ _ _ => by omega) (xa_subI rfl rfl (fun _ _ _ _ => by omega) (xa_subI rfl rfl (fun _ _ _ _ => by omega) (xa_subI rfl rfl (fun _ _ _ _ => by omega) (xa_subI rfl rfl (fun _ _ _ _ => by omega) (xa_subI rfl rfl (fun _ _ _ _ => by omega) (xa_subR rfl xa_sub0)))))))) ?_
                      exact ih1 (x7 + 1) (xa_w32 (x5 + 1)) x4 x3 (xa_w32 (x2 + 1)) M1 (by omega) (by omega) (by omega) hc (by omega)
                    · intro (c13 : x2 = 0)
                      show Q 45 [(7, (0, 0, 2, 16, x7 + 1)), (2, (0, 0, (-2147483648), 2147483647, xa_w32 (x2 + 1))), (4, (0, 0, 1, 15, x7)), (3, (0, 0, 0, 13, x6)), (5, (0, 0, (-2147483648), 2147483647, xa_w32 (x5 + 1))), (6, (0, 0, 0, 13, x6)), (1, (0, 0, 0, 50, x1)), (0, (2, 60, 0, 0, 0))] [] M1
                      refine hgo.2.1 45 _ [(7, (0, 0, 1, 15, x7 + 1)), (6, (0, 0, 0, 13, x6)), (5, (0, 0, (-2147483648), 2147483647, xa_w32 (x5 + 1))), (4, (0, 0, (-2147483648), 2147483647, x7)), (3, (0, 0, (-2147483648), 2147483647, x6)), (2, (0, 0, (-2147483648), 2147483647, xa_w32 (x2 + 1))), (1, (0, 0, 0, 50, x1)), (0, (2, 60, 0, 0, 0))] _ _ (xa_subI rfl rfl (fun _ _ _ _ => by omega) (xa_subI rfl rfl (fun _ _ _ _ => by omega) (xa_subI rfl rfl (fun _ _ _ _ => by omega) (xa_subI rfl rfl (fun _ _ _ _ => by omega) (xa_subI rfl rfl (fun _ _ _ _ => by omega) (xa_subI rfl rfl (fun _ _ _ _ => by omega) (xa_subI rfl rfl (fun _ _ _ _ => by omega) (xa_subR rfl xa_sub0)))))))) ?_
                      exact ih1 (x7 + 1) (xa_w32 (x5 + 1)) x7 x6 (xa_w32 (x2 + 1)) M1 (by omega) (by omega) (by omega) hc (by omega)
                  · intro (c12 : ¬ r11 = 0)
                    show Q 45 [(7, (0, 0, 2, 16, x7 + 1)), (5, (0, 0, (-2147483648), 2147483647, xa_w32 (x5 + 1))), (6, (0, 0, 0, 13, x6)), (4, (0, 0, (-2147483648), 2147483647, x4)), (3, (0, 0, (-2147483648), 2147483647, x3)), (2, (0, 0, (-2147483648), 2147483647, x2)), (1, (0, 0, 0, 50, x1)), (0, (2, 60, 0, 0, 0))] [] M1
                    refine hgo.2.1 45 _ [(7, (0, 0, 1, 15, x7 + 1)), (6, (0, 0, 0, 13, x6)), (5, (0, 0, (-2147483648), 2147483647, xa_w32 (x5 + 1))), (4, (0, 0, (-2147483648), 2147483647, x4)), (3, (0, 0, (-2147483648), 2147483647, x3)), (2, (0, 0, (-2147483648), 2147483647, x2)), (1, (0, 0, 0, 50, x1)), (0, (2, 60, 0, 0, 0))] _ _ (xa_subI rfl rfl (fun _ _ _ _ => by omega) (xa_subI rfl rfl (fun _ _ _ _ => by omega) (xa_subI rfl rfl (fun _ _ _ _ => by omega) (xa_subI rfl rfl (fun _ _ _ _ => by omega) (xa_subI rfl rfl (fun _ _ _ _ => by omega) (xa_subI rfl rfl (fun _ _ _ _ => by omega) (xa_subI rfl rfl (fun _ _ _ _ => by omega) (xa_subR rfl xa_sub0)))))))) ?_
                    exact ih1 (x7 + 1) (xa_w32 (x5 + 1)) x4 x3 x2 M1 (by omega) (by omega) (by omega) hc (by omega)
            · intro (c2 : ¬ (M1 65 x6) = (M1 65 x7))
              show Q 45 [(7, (0, 0, 2, 16, x7 + 1)), (6, (0, 0, 0, 13, x6)), (5, (0, 0, (-2147483648), 2147483647, x5)), (4, (0, 0, (-2147483648), 2147483647, x4)), (3, (0, 0, (-2147483648), 2147483647, x3)), (2, (0, 0, (-2147483648), 2147483647, x2)), (1, (0, 0, 0, 50, x1)), (0, (2, 60, 0, 0, 0))] [] M1
              refine hgo.2.1 45 _ [(7, (0, 0, 1, 15, x7 + 1)), (6, (0, 0, 0, 13, x6)), (5, (0, 0, (-2147483648), 2147483647, x5)), (4, (0, 0, (-2147483648), 2147483647, x4)), (3, (0, 0, (-2147483648), 2147483647, x3)), (2, (0, 0, (-2147483648), 2147483647, x2)), (1, (0, 0, 0, 50, x1)), (0, (2, 60, 0, 0, 0))] _ _ (xa_subI rfl rfl (fun _ _ _ _ => by omega) (xa_subI rfl rfl (fun _ _ _ _ => by omega) (xa_subI rfl rfl (fun _ _ _ _ => by omega) (xa_subI rfl rfl (fun _ _ _ _ => by omega) (xa_subI rfl rfl (fun _ _ _ _ => by omega) (xa_subI rfl rfl (fun _ _ _ _ => by omega) (xa_subI rfl rfl (fun _ _ _ _ => by omega) (xa_subR rfl xa_sub0)))))))) ?_
              exact ih1 (x7 + 1) x5 x4 x3 x2 M1 (by omega) (by omega) (by omega) hc (by omega)
      refine hgo.1 22 [30, 45, 165] 30 _ _ _ ?_
      refine And.intro ?_ ?_
      · intro (c1 : (M1 60 0) ≤ x6)
        show Q 165 [(10, (0, 0, (-1), 15, (M1 60 6) - 1)), (9, (0, 0, (-1), (-1), (-1))), (8, (0, 0, 0, 0, 0)), (7, (0, 0, (-1), (-1), (-1))), (6, (0, 0, 0, 0, 0)), (5, (0, 0, (-2147483648), 2147483647, x5)), (4, (0, 0, (-2147483648), 2147483647, x4)), (3, (0, 0, (-2147483648), 2147483647, x3)), (2, (0, 0, (-2147483648), 2147483647, x2)), (1, (0, 0, 0, 50, x1)), (0, (2, 60, 0, 0, 0))] [] M1
        refine hgo.2.1 165 _ [(10, (0, 0, (-1), 15, (M1 60 6) - 1)), (9, (0, 0, (-2147483648), 2147483647, (-1))), (8, (0, 0, (-2147483648), 2147483647, 0)), (7, (0, 0, (-2147483648), 2147483647, (-1))), (6, (0, 0, (-2147483648), 2147483647, 0)), (5, (0, 0, (-2147483648), 2147483647, x5)), (4, (0, 0, (-2147483648), 2147483647, x4)), (3, (0, 0, (-2147483648), 2147483647, x3)), (2, (0, 0, (-2147483648), 2147483647, x2)), (1, (0, 0, 0, 50, x1)), (0, (2, 60, 0, 0, 0))] _ _ (xa_subI rfl rfl (fun _ _ _ _ => by omega) (xa_subI rfl rfl (fun _ _ _ _ => by omega) (xa_subI rfl rfl (fun _ _ _ _ => by omega) (xa_subI rfl rfl (fun _ _ _ _ => by omega) (xa_subI rfl rfl (fun _ _ _ _ => by omega) (xa_subI rfl rfl (fun _ _ _ _ => by omega) (xa_subI rfl rfl (fun _ _ _ _ => by omega) (xa_subI rfl rfl (fun _ _ _ _ => by omega) (xa_subI rfl rfl (fun _ _ _ _ => by omega) (xa_subI rfl rfl (fun _ _ _ _ => by omega) (xa_subR rfl xa_sub0))))))))))) ?_
        exact loop2 17 ((M1 60 6) - 1) (-1) 0 (-1) 0 x5 x4 x3 x2 x1 M1 (by omega) (by omega) hc (by omega)
      · intro (c1 : x6 < (M1 60 0))
        show Q 45 [(7, (0, 0, 1, 15, x6 + 1)), (6, (0, 0, 0, 14, x6)), (5, (0, 0, (-2147483648), 2147483647, x5)), (4, (0, 0, (-2147483648), 2147483647, x4)), (3, (0, 0, (-2147483648), 2147483647, x3)), (2, (0, 0, (-2147483648), 2147483647, x2)), (1, (0, 0, 0, 50, x1)), (0, (2, 60, 0, 0, 0))] [] M1
        refine hgo.2.1 45 _ [(7, (0, 0, 1, 15, x6 + 1)), (6, (0, 0, 0, 13, x6)), (5, (0, 0, (-2147483648), 2147483647, x5)), (4, (0, 0, (-2147483648), 2147483647, x4)), (3, (0, 0, (-2147483648), 2147483647, x3)), (2, (0, 0, (-2147483648), 2147483647, x2)), (1, (0, 0, 0, 50, x1)), (0, (2, 60, 0, 0, 0))] _ _ (xa_subI rfl rfl (fun _ _ _ _ => by omega) (xa_subI rfl rfl (fun _ _ _ _ => by omega) (xa_subI rfl rfl (fun _ _ _ _ => by omega) (xa_subI rfl rfl (fun _ _ _ _ => by omega) (xa_subI rfl rfl (fun _ _ _ _ => by omega) (xa_subI rfl rfl (fun _ _ _ _ => by omega) (xa_subI rfl rfl (fun _ _ _ _ => by omega) (xa_subR rfl xa_sub0)))))))) ?_
        exact loop1 16 (x6 + 1) x5 x4 x3 x2 M1 (by omega) (by omega) (by omega) hc (by omega)
  refine hgo.1 14 [17] 0 _ _ _ ?_
  show xa_C xm_I A h0 _ 214 [(0, 0, (-2147483648), 2147483647, a), (0, 0, 0, 0, 0), (0, 0, 50, 50, 50)] (xa_up M 60 21 0) _
  refine ct_in ?_ ?_
  · intro (i1 : 0 ≤ a ∧ a ≤ 50)
    show Q 17 [(0, (2, 60, 0, 0, 0)), (1, (0, 0, (-2147483648), 2147483647, a))] [] (xa_up M 60 21 0)
    refine hgo.2.1 17 _ [(1, (0, 0, 0, 50, a)), (0, (2, 60, 0, 0, 0))] _ _ (xa_subI rfl rfl (fun _ _ _ _ => by omega) (xa_subR rfl xa_sub0)) ?_
    refine hgo.1 15 [30, 45, 165] 17 _ _ _ ?_
    show Q 30 [(6, (0, 0, 0, 0, 0)), (5, (0, 0, 0, 0, 0)), (4, (0, 0, (-1), (-1), (-1))), (3, (0, 0, (-1), (-1), (-1))), (2, (0, 0, 0, 0, 0)), (1, (0, 0, 0, 50, a)), (0, (2, 60, 0, 0, 0))] [] (xa_up M 60 21 0)
    refine hgo.2.1 30 _ [(6, (0, 0, 0, 14, 0)), (5, (0, 0, (-2147483648), 2147483647, 0)), (4, (0, 0, (-2147483648), 2147483647, (-1))), (3, (0, 0, (-2147483648), 2147483647, (-1))), (2, (0, 0, (-2147483648), 2147483647, 0)), (1, (0, 0, 0, 50, a)), (0, (2, 60, 0, 0, 0))] _ _ (xa_subI rfl rfl (fun _ _ _ _ => by omega) (xa_subI rfl rfl (fun _ _ _ _ => by omega) (xa_subI rfl rfl (fun _ _ _ _ => by omega) (xa_subI rfl rfl (fun _ _ _ _ => by omega) (xa_subI rfl rfl (fun _ _ _ _ => by omega) (xa_subI rfl rfl (fun _ _ _ _ => by omega) (xa_subR rfl xa_sub0))))))) ?_
    exact loop0 15 0 0 (-1) (-1) 0 a (xa_up M 60 21 0) (by omega) (by omega) (xm_cor_f (by omega) xm_cor_r) (by omega)
  · intro (i1 : ¬ (0 ≤ a ∧ a ≤ 50))
    show post (some (0, 0, (-1), (-1), (-1))) (xa_up M 60 21 0)
    exact k _ _ (xm_cor_f (by omega) xm_cor_r)
