-- when, pierced, room, breaks of the model (made by wip/p24/xa/xm12.py)
set_option maxRecDepth 20000
theorem xa_ib_rg (a : Nat) (x y : Int) : -2147483648 ≤ xa_ib a x y ∧ xa_ib a x y ≤ 2147483647 := by
  unfold xa_ib
  have h1 := Int32.le_toInt (s_fib a (Int32.ofInt x) (Int32.ofInt y))
  have h2 := Int32.toInt_lt (s_fib a (Int32.ofInt x) (Int32.ofInt y))
  omega
theorem ms_pierced {A : Nat → Nat} {h0 : g_H} {d : Nat} {M : xa_M} {post : Option xa_V → xa_M → Prop} (hI : xm_Inv M) (k : ∀ (o : Option xa_V) (M1 : xa_M), xm_cor M M1 → post o M1) : xa_C xm_I A h0 (d + 2) 266 [(2, 60, 0, 0, 0)] M post := by
  refine xa_meth (Q0 := (6, 1, false, 0, 0, 12)) (by decide +kernel) ⟨rfl, rfl⟩ (full := s_c_266) rfl rfl ?_
  intro hM hv Q hgo
  have b0 := xm_f0 hM
  have b6 := xm_f6 hM
  have b61 := xm_f61 hM
  have b11 := xm_f11 hM
  have b15 := xm_f15 hM
  have b16 := xm_f16 hM
  have hlh := hI.2.2.2.1
  have loop0 : ∀ (n : Nat) (x2 x1 : Int) (M1 : xa_M), 0 ≤ x2 ∧ x2 ≤ 10 → xm_cor M M1 → 10 - x2 < (n : Int) → Q 9 [(2, (0, 0, 0, 10, x2)), (1, (0, 0, (-2147483648), 2147483647, x1)), (0, (2, 60, 0, 0, 0))] [] M1 := by
    intro n
    induction n with
    | zero => intro x2 x1 M1 b2 hc hms; omega
    | succ n ih0 =>
      intro x2 x1 M1 b2 hc hms0
      have e0 := xm_corf hc 0 (by omega)
      have e6 := xm_corf hc 6 (by omega)
      have e61 := xm_corf hc 61 (by omega)
      have e11 := xm_corf hc 11 (by omega)
      have e15 := xm_corf hc 15 (by omega)
      have e16 := xm_corf hc 16 (by omega)
      have loop2 : ∀ (n : Nat) (x5 x4 x3 x1 : Int) (M1 : xa_M), 0 ≤ x5 ∧ x5 ≤ 14 → (-1) ≤ x4 ∧ x4 ≤ 9 → 0 ≤ x3 ∧ x3 ≤ 10 → 0 ≤ x2 ∧ x2 ≤ 9 → xm_cor M M1 → 14 - x5 < (n : Int) → Q 82 [(5, (0, 0, 0, 14, x5)), (4, (0, 0, (-1), 9, x4)), (3, (0, 0, 0, 10, x3)), (2, (0, 0, 0, 9, x2)), (1, (0, 0, (-2147483648), 2147483647, x1)), (0, (2, 60, 0, 0, 0))] [] M1 := by
        intro n
        induction n with
        | zero => intro x5 x4 x3 x1 M1 b5 b4 b3 f2 hc hms; omega
        | succ n ih2 =>
          intro x5 x4 x3 x1 M1 b5 b4 b3 f2 hc hms2
          have e0 := xm_corf hc 0 (by omega)
          have e6 := xm_corf hc 6 (by omega)
          have e61 := xm_corf hc 61 (by omega)
          have e11 := xm_corf hc 11 (by omega)
          have e15 := xm_corf hc 15 (by omega)
          have e16 := xm_corf hc 16 (by omega)
          refine hgo.2.2 _ _ _ _ (fun hM1 _ => ?_)
          have t64 : x5 < M1 60 0 → 0 ≤ M1 64 x5 ∧ M1 64 x5 ≤ 9 := fun h => xm_t64 hM1 x5 (by omega) (by omega)
          refine hgo.1 52 [9, 24, 82] 82 _ _ _ ?_
          refine And.intro ?_ ?_
          · intro (c1 : (M1 60 0) ≤ x5)
            show Q 9 [(2, (0, 0, 1, 10, x2 + 1)), (5, (0, 0, 0, 14, x5)), (4, (0, 0, (-1), 9, x4)), (3, (0, 0, 0, 10, x3)), (1, (0, 0, (-2147483648), 2147483647, x1)), (0, (2, 60, 0, 0, 0))] [] M1
            refine hgo.2.1 9 _ [(2, (0, 0, 0, 10, x2 + 1)), (1, (0, 0, (-2147483648), 2147483647, x1)), (0, (2, 60, 0, 0, 0))] _ _ (xa_subI rfl rfl (fun _ _ _ _ => by omega) (xa_subI rfl rfl (fun _ _ _ _ => by omega) (xa_subR rfl xa_sub0))) ?_
            exact ih0 (x2 + 1) x1 M1 (by omega) hc (by omega)
          · intro (c1 : x5 < (M1 60 0))
            refine And.intro (show 0 ≤ x5 ∧ x5 < 14 by omega) ?_
            refine And.intro ?_ ?_
            · intro (c2 : (M1 64 x5) = x2)
              show Q 82 [(5, (0, 0, 1, 15, x5 + 1)), (4, (0, 0, (-1), 9, x4)), (3, (0, 0, 0, 10, x3)), (2, (0, 0, 0, 9, x2)), (1, (0, 0, (-2147483648), 2147483647, x1)), (0, (2, 60, 0, 0, 0))] [] M1
              refine hgo.2.1 82 _ [(5, (0, 0, 0, 14, x5 + 1)), (4, (0, 0, (-1), 9, x4)), (3, (0, 0, 0, 10, x3)), (2, (0, 0, 0, 9, x2)), (1, (0, 0, (-2147483648), 2147483647, x1)), (0, (2, 60, 0, 0, 0))] _ _ (xa_subI rfl rfl (fun _ _ _ _ => by omega) (xa_subI rfl rfl (fun _ _ _ _ => by omega) (xa_subI rfl rfl (fun _ _ _ _ => by omega) (xa_subI rfl rfl (fun _ _ _ _ => by omega) (xa_subI rfl rfl (fun _ _ _ _ => by omega) (xa_subR rfl xa_sub0)))))) ?_
              exact ih2 (x5 + 1) x4 x3 x1 M1 (by omega) (by omega) (by omega) (by omega) hc (by omega)
            · intro (c2 : ¬ (M1 64 x5) = x2)
              refine And.intro (show 0 ≤ x5 ∧ x5 < 14 by omega) ?_
              refine And.intro ?_ ?_
              · intro (c3 : (M1 65 x5) ≤ x3)
                show Q 82 [(5, (0, 0, 1, 15, x5 + 1)), (4, (0, 0, (-1), 9, x4)), (3, (0, 0, 0, 10, x3)), (2, (0, 0, 0, 9, x2)), (1, (0, 0, (-2147483648), 2147483647, x1)), (0, (2, 60, 0, 0, 0))] [] M1
                refine hgo.2.1 82 _ [(5, (0, 0, 0, 14, x5 + 1)), (4, (0, 0, (-1), 9, x4)), (3, (0, 0, 0, 10, x3)), (2, (0, 0, 0, 9, x2)), (1, (0, 0, (-2147483648), 2147483647, x1)), (0, (2, 60, 0, 0, 0))] _ _ (xa_subI rfl rfl (fun _ _ _ _ => by omega) (xa_subI rfl rfl (fun _ _ _ _ => by omega) (xa_subI rfl rfl (fun _ _ _ _ => by omega) (xa_subI rfl rfl (fun _ _ _ _ => by omega) (xa_subI rfl rfl (fun _ _ _ _ => by omega) (xa_subR rfl xa_sub0)))))) ?_
                exact ih2 (x5 + 1) x4 x3 x1 M1 (by omega) (by omega) (by omega) (by omega) hc (by omega)
              · intro (c3 : x3 < (M1 65 x5))
                refine And.intro (show 0 ≤ x5 ∧ x5 < 14 by omega) ?_
                refine And.intro ?_ ?_
                · intro (c4 : (M1 65 x5) < x4)
                  refine And.intro (show 0 ≤ x5 ∧ x5 < 14 by omega) ?_
                  show xa_C xm_I A h0 _ 265 [(2, 60, 0, 0, 0), (0, 0, 0, 9, x2), (0, 0, 0, 9, M1 64 x5)] M1 _
                  refine ct_apart (by omega) (by omega) (by omega) (by omega) (fun r5 br5 => ?_)
                  refine And.intro (show 0 ≤ x5 ∧ x5 < 14 by omega) ?_
                  refine And.intro (show 0 ≤ x5 ∧ x5 < 14 by omega) ?_
                  refine And.intro ?_ ?_
                  · intro (c6 : ((M1 63 x5) * (M1 63 x5)) ≤ r5)
                    show Q 82 [(5, (0, 0, 1, 15, x5 + 1)), (4, (0, 0, (-1), 9, x4)), (3, (0, 0, 0, 10, x3)), (2, (0, 0, 0, 9, x2)), (1, (0, 0, (-2147483648), 2147483647, x1)), (0, (2, 60, 0, 0, 0))] [] M1
                    refine hgo.2.1 82 _ [(5, (0, 0, 0, 14, x5 + 1)), (4, (0, 0, (-1), 9, x4)), (3, (0, 0, 0, 10, x3)), (2, (0, 0, 0, 9, x2)), (1, (0, 0, (-2147483648), 2147483647, x1)), (0, (2, 60, 0, 0, 0))] _ _ (xa_subI rfl rfl (fun _ _ _ _ => by omega) (xa_subI rfl rfl (fun _ _ _ _ => by omega) (xa_subI rfl rfl (fun _ _ _ _ => by omega) (xa_subI rfl rfl (fun _ _ _ _ => by omega) (xa_subI rfl rfl (fun _ _ _ _ => by omega) (xa_subR rfl xa_sub0)))))) ?_
                    exact ih2 (x5 + 1) x4 x3 x1 M1 (by omega) (by omega) (by omega) (by omega) hc (by omega)
                  · intro (c6 : r5 < ((M1 63 x5) * (M1 63 x5)))
                    show Q 82 [(5, (0, 0, 1, 15, x5 + 1)), (1, (0, 0, (-2147483648), 2147483647, xa_ib 4 x1 (xa_ib 6 1 x2))), (4, (0, 0, (-1), 9, x4)), (3, (0, 0, 0, 10, x3)), (2, (0, 0, 0, 9, x2)), (0, (2, 60, 0, 0, 0))] [] M1
                    refine hgo.2.1 82 _ [(5, (0, 0, 0, 14, x5 + 1)), (4, (0, 0, (-1), 9, x4)), (3, (0, 0, 0, 10, x3)), (2, (0, 0, 0, 9, x2)), (1, (0, 0, (-2147483648), 2147483647, xa_ib 4 x1 (xa_ib 6 1 x2))), (0, (2, 60, 0, 0, 0))] _ _ (xa_subI rfl rfl (fun _ _ _ _ => by omega) (xa_subI rfl rfl (fun _ _ _ _ => by omega) (xa_subI rfl rfl (fun _ _ _ _ => by omega) (xa_subI rfl rfl (fun _ _ _ _ => by omega) (xa_subI rfl rfl (fun _ _ _ _ => by omega) (xa_subR rfl xa_sub0)))))) ?_
                    exact ih2 (x5 + 1) x4 x3 (xa_ib 4 x1 (xa_ib 6 1 x2)) M1 (by omega) (by omega) (by omega) (by omega) hc (by omega)
                · intro (c4 : x4 ≤ (M1 65 x5))
                  show Q 82 [(5, (0, 0, 1, 15, x5 + 1)), (4, (0, 0, (-1), 9, x4)), (3, (0, 0, 0, 10, x3)), (2, (0, 0, 0, 9, x2)), (1, (0, 0, (-2147483648), 2147483647, x1)), (0, (2, 60, 0, 0, 0))] [] M1
                  refine hgo.2.1 82 _ [(5, (0, 0, 0, 14, x5 + 1)), (4, (0, 0, (-1), 9, x4)), (3, (0, 0, 0, 10, x3)), (2, (0, 0, 0, 9, x2)), (1, (0, 0, (-2147483648), 2147483647, x1)), (0, (2, 60, 0, 0, 0))] _ _ (xa_subI rfl rfl (fun _ _ _ _ => by omega) (xa_subI rfl rfl (fun _ _ _ _ => by omega) (xa_subI rfl rfl (fun _ _ _ _ => by omega) (xa_subI rfl rfl (fun _ _ _ _ => by omega) (xa_subI rfl rfl (fun _ _ _ _ => by omega) (xa_subR rfl xa_sub0)))))) ?_
                  exact ih2 (x5 + 1) x4 x3 x1 M1 (by omega) (by omega) (by omega) (by omega) hc (by omega)
      have loop1 : ∀ (n : Nat) (x5 x4 x3 : Int) (M1 : xa_M), 0 ≤ x5 ∧ x5 ≤ 14 → (-1) ≤ x4 ∧ x4 ≤ 9 → 0 ≤ x3 ∧ x3 ≤ 10 → 0 ≤ x2 ∧ x2 ≤ 9 → xm_cor M M1 → 14 - x5 < (n : Int) → Q 24 [(5, (0, 0, 0, 14, x5)), (4, (0, 0, (-1), 9, x4)), (3, (0, 0, 0, 10, x3)), (2, (0, 0, 0, 9, x2)), (1, (0, 0, (-2147483648), 2147483647, x1)), (0, (2, 60, 0, 0, 0))] [] M1 := by
        intro n
        induction n with
        | zero => intro x5 x4 x3 M1 b5 b4 b3 f2 hc hms; omega
        | succ n ih1 =>
          intro x5 x4 x3 M1 b5 b4 b3 f2 hc hms1
          have e0 := xm_corf hc 0 (by omega)
          have e6 := xm_corf hc 6 (by omega)
          have e61 := xm_corf hc 61 (by omega)
          have e11 := xm_corf hc 11 (by omega)
          have e15 := xm_corf hc 15 (by omega)
          have e16 := xm_corf hc 16 (by omega)
          refine hgo.1 31 [9, 24, 82] 24 _ _ _ ?_
          refine And.intro ?_ ?_
          · intro (c1 : (M1 60 0) ≤ x5)
            show Q 82 [(5, (0, 0, 0, 0, 0)), (4, (0, 0, (-1), 9, x4)), (3, (0, 0, 0, 10, x3)), (2, (0, 0, 0, 9, x2)), (1, (0, 0, (-2147483648), 2147483647, x1)), (0, (2, 60, 0, 0, 0))] [] M1
            refine hgo.2.1 82 _ [(5, (0, 0, 0, 14, 0)), (4, (0, 0, (-1), 9, x4)), (3, (0, 0, 0, 10, x3)), (2, (0, 0, 0, 9, x2)), (1, (0, 0, (-2147483648), 2147483647, x1)), (0, (2, 60, 0, 0, 0))] _ _ (xa_subI rfl rfl (fun _ _ _ _ => by omega) (xa_subI rfl rfl (fun _ _ _ _ => by omega) (xa_subI rfl rfl (fun _ _ _ _ => by omega) (xa_subI rfl rfl (fun _ _ _ _ => by omega) (xa_subI rfl rfl (fun _ _ _ _ => by omega) (xa_subR rfl xa_sub0)))))) ?_
            exact loop2 15 0 x4 x3 x1 M1 (by omega) (by omega) (by omega) (by omega) hc (by omega)
          · intro (c1 : x5 < (M1 60 0))
            refine And.intro (show 0 ≤ x5 ∧ x5 < 14 by omega) ?_
            refine And.intro ?_ ?_
            · intro (c2 : (M1 64 x5) = x2)
              refine And.intro (show 0 ≤ x5 ∧ x5 < 14 by omega) ?_
              show xa_C xm_I A h0 _ 32 [(0, 0, 0, 10, x3), (0, 0, 0, 9, M1 65 x5)] M1 _
              refine ct_min 0 9 (by decide) (by decide) (by decide) (fun r3 br3 er3 => ?_)
              refine And.intro (show 0 ≤ x5 ∧ x5 < 14 by omega) ?_
              show xa_C xm_I A h0 _ 35 [(0, 0, (-1), 9, x4), (0, 0, 0, 9, M1 65 x5)] M1 _
              refine ct_max 0 9 (by decide) (by decide) (by decide) (fun r4 br4 er4 => ?_)
              show Q 24 [(5, (0, 0, 1, 15, x5 + 1)), (4, (0, 0, 0, 9, r4)), (3, (0, 0, 0, 9, r3)), (2, (0, 0, 0, 9, x2)), (1, (0, 0, (-2147483648), 2147483647, x1)), (0, (2, 60, 0, 0, 0))] [] M1
              refine hgo.2.1 24 _ [(5, (0, 0, 0, 14, x5 + 1)), (4, (0, 0, (-1), 9, r4)), (3, (0, 0, 0, 10, r3)), (2, (0, 0, 0, 9, x2)), (1, (0, 0, (-2147483648), 2147483647, x1)), (0, (2, 60, 0, 0, 0))] _ _ (xa_subI rfl rfl (fun _ _ _ _ => by omega) (xa_subI rfl rfl (fun _ _ _ _ => by omega) (xa_subI rfl rfl (fun _ _ _ _ => by omega) (xa_subI rfl rfl (fun _ _ _ _ => by omega) (xa_subI rfl rfl (fun _ _ _ _ => by omega) (xa_subR rfl xa_sub0)))))) ?_
              exact ih1 (x5 + 1) r4 r3 M1 (by omega) (by omega) (by omega) (by omega) hc (by omega)
            · intro (c2 : ¬ (M1 64 x5) = x2)
              show Q 24 [(5, (0, 0, 1, 15, x5 + 1)), (4, (0, 0, (-1), 9, x4)), (3, (0, 0, 0, 10, x3)), (2, (0, 0, 0, 9, x2)), (1, (0, 0, (-2147483648), 2147483647, x1)), (0, (2, 60, 0, 0, 0))] [] M1
              refine hgo.2.1 24 _ [(5, (0, 0, 0, 14, x5 + 1)), (4, (0, 0, (-1), 9, x4)), (3, (0, 0, 0, 10, x3)), (2, (0, 0, 0, 9, x2)), (1, (0, 0, (-2147483648), 2147483647, x1)), (0, (2, 60, 0, 0, 0))] _ _ (xa_subI rfl rfl (fun _ _ _ _ => by omega) (xa_subI rfl rfl (fun _ _ _ _ => by omega) (xa_subI rfl rfl (fun _ _ _ _ => by omega) (xa_subI rfl rfl (fun _ _ _ _ => by omega) (xa_subI rfl rfl (fun _ _ _ _ => by omega) (xa_subR rfl xa_sub0)))))) ?_
              exact ih1 (x5 + 1) x4 x3 M1 (by omega) (by omega) (by omega) (by omega) hc (by omega)
      refine hgo.1 14 [9, 24, 82] 9 _ _ _ ?_
      refine And.intro ?_ ?_
      · intro (c1 : 10 ≤ x2)
        show post (some (0, 0, (-2147483648), 2147483647, x1)) M1
        exact k _ _ hc
      · intro (c1 : x2 < 10)
        show Q 24 [(5, (0, 0, 0, 0, 0)), (4, (0, 0, (-1), (-1), (-1))), (3, (0, 0, 10, 10, 10)), (2, (0, 0, 0, 10, x2)), (1, (0, 0, (-2147483648), 2147483647, x1)), (0, (2, 60, 0, 0, 0))] [] M1
        refine hgo.2.1 24 _ [(5, (0, 0, 0, 14, 0)), (4, (0, 0, (-1), 9, (-1))), (3, (0, 0, 0, 10, 10)), (2, (0, 0, 0, 9, x2)), (1, (0, 0, (-2147483648), 2147483647, x1)), (0, (2, 60, 0, 0, 0))] _ _ (xa_subI rfl rfl (fun _ _ _ _ => by omega) (xa_subI rfl rfl (fun _ _ _ _ => by omega) (xa_subI rfl rfl (fun _ _ _ _ => by omega) (xa_subI rfl rfl (fun _ _ _ _ => by omega) (xa_subI rfl rfl (fun _ _ _ _ => by omega) (xa_subR rfl xa_sub0)))))) ?_
        exact loop1 15 0 (-1) 10 M1 (by omega) (by omega) (by omega) (by omega) hc (by omega)
  refine hgo.1 12 [9, 24, 82] 0 _ _ _ ?_
  show Q 9 [(2, (0, 0, 0, 0, 0)), (1, (0, 0, 0, 0, 0)), (0, (2, 60, 0, 0, 0))] [] (xa_up M 60 21 0)
  refine hgo.2.1 9 _ [(2, (0, 0, 0, 10, 0)), (1, (0, 0, (-2147483648), 2147483647, 0)), (0, (2, 60, 0, 0, 0))] _ _ (xa_subI rfl rfl (fun _ _ _ _ => by omega) (xa_subI rfl rfl (fun _ _ _ _ => by omega) (xa_subR rfl xa_sub0))) ?_
  exact loop0 11 0 0 (xa_up M 60 21 0) (by omega) (xm_cor_f (by omega) xm_cor_r) (by omega)
