-- word, breaks of the model (made by wip/p24/xa/xm13.py)
set_option maxRecDepth 20000
theorem ms_breaks {A : Nat → Nat} {h0 : g_H} {d : Nat} {M : xa_M} {post : Option xa_V → xa_M → Prop} (hI : xm_Inv M) (k : ∀ (o : Option xa_V) (M1 : xa_M), xm_cor M M1 → post o M1) : xa_C xm_I A h0 (d + 3) 291 [(2, 60, 0, 0, 0)] M post := by
  refine xa_meth (Q0 := (8, 1, false, 0, 0, 12)) (by decide +kernel) ⟨rfl, rfl⟩ (full := s_c_291) rfl rfl ?_
  intro hM hv Q hgo
  have b0 := xm_f0 hM
  have b6 := xm_f6 hM
  have b61 := xm_f61 hM
  have b11 := xm_f11 hM
  have b15 := xm_f15 hM
  have b16 := xm_f16 hM
  have hlh := hI.2.2.2.1
  have loop2 : ∀ (n : Nat) (x3 x2 x1 : Int) (M1 : xa_M), 0 ≤ x3 ∧ x3 ≤ 2147483647 → xm_cor M M1 → ((xa_ib 6 1 (M 60 0) - x3).toNat : Int) < (n : Int) → Q 100 [(3, (0, 0, 0, 2147483647, x3)), (2, (0, 0, (-2147483648), 2147483647, x2)), (1, (0, 0, (-2147483648), 2147483647, x1)), (0, (2, 60, 0, 0, 0))] [] M1 := by
    intro n
    induction n with
    | zero => intro x3 x2 x1 M1 b3 hc hms; omega
    | succ n ih2 =>
      intro x3 x2 x1 M1 b3 hc hms2
      have e0 := xm_corf hc 0 (by omega)
      have e6 := xm_corf hc 6 (by omega)
      have e61 := xm_corf hc 61 (by omega)
      have e11 := xm_corf hc 11 (by omega)
      have e15 := xm_corf hc 15 (by omega)
      have e16 := xm_corf hc 16 (by omega)
      have rT := xa_ib_rg 6 1 (M 60 0)
      have eT : xa_ib 6 1 (M1 60 0) = xa_ib 6 1 (M 60 0) := by rw [e0]
      have w3 : x3 < xa_ib 6 1 (M 60 0) → xa_w32 (x3 + 1) = x3 + 1 := fun h => xa_w32_id (by omega) (by omega)
      have loop3 : ∀ (n : Nat) (x5 x4 : Int) (M1 : xa_M), 0 ≤ x5 ∧ x5 ≤ 12 → 0 ≤ x4 ∧ x4 ≤ 1 → 0 ≤ x3 ∧ x3 ≤ 2147483646 → xm_cor M M1 → x3 < xa_ib 6 1 (M 60 0) → 12 - x5 < (n : Int) → Q 136 [(5, (0, 0, 0, 12, x5)), (4, (0, 0, 0, 1, x4)), (3, (0, 0, 0, 2147483646, x3)), (2, (0, 0, (-2147483648), 2147483647, x2)), (1, (0, 0, (-2147483648), 2147483647, x1)), (0, (2, 60, 0, 0, 0))] [] M1 := by
        intro n
        induction n with
        | zero => intro x5 x4 M1 b5 b4 f3 hc h3T hms; omega
        | succ n ih3 =>
          intro x5 x4 M1 b5 b4 f3 hc h3T hms3
          have e0 := xm_corf hc 0 (by omega)
          have e6 := xm_corf hc 6 (by omega)
          have e61 := xm_corf hc 61 (by omega)
          have e11 := xm_corf hc 11 (by omega)
          have e15 := xm_corf hc 15 (by omega)
          have e16 := xm_corf hc 16 (by omega)
          have rT := xa_ib_rg 6 1 (M 60 0)
          have loop4 : ∀ (n : Nat) (x7 x6 : Int) (M1 : xa_M), 0 ≤ x7 ∧ x7 ≤ 14 → 0 ≤ x6 ∧ x6 ≤ 1 → 0 ≤ x5 ∧ x5 ≤ 11 → 0 ≤ x4 ∧ x4 ≤ 1 → 0 ≤ x3 ∧ x3 ≤ 2147483646 → xm_cor M M1 → x3 < xa_ib 6 1 (M 60 0) → 14 - x7 < (n : Int) → Q 156 [(7, (0, 0, 0, 14, x7)), (6, (0, 0, 0, 1, x6)), (5, (0, 0, 0, 11, x5)), (4, (0, 0, 0, 1, x4)), (3, (0, 0, 0, 2147483646, x3)), (2, (0, 0, (-2147483648), 2147483647, x2)), (1, (0, 0, (-2147483648), 2147483647, x1)), (0, (2, 60, 0, 0, 0))] [] M1 := by
            intro n
            induction n with
            | zero => intro x7 x6 M1 b7 b6 f5 f4 f3 hc h3T hms; omega
            | succ n ih4 =>
              intro x7 x6 M1 b7 b6 f5 f4 f3 hc h3T hms4
              have e0 := xm_corf hc 0 (by omega)
              have e6 := xm_corf hc 6 (by omega)
              have e61 := xm_corf hc 61 (by omega)
              have e11 := xm_corf hc 11 (by omega)
              have e15 := xm_corf hc 15 (by omega)
              have e16 := xm_corf hc 16 (by omega)
              have rT := xa_ib_rg 6 1 (M 60 0)
              refine hgo.1 36 [9, 22, 100, 136, 156] 156 _ _ _ ?_
              refine And.intro ?_ ?_
              · intro (c1 : (M1 60 0) ≤ x7)
                show Q 136 [(5, (0, 0, 1, 12, x5 + 1)), (4, (0, 0, 0, 1, x6)), (7, (0, 0, 0, 14, x7)), (6, (0, 0, 0, 1, x6)), (3, (0, 0, 0, 2147483646, x3)), (2, (0, 0, (-2147483648), 2147483647, x2)), (1, (0, 0, (-2147483648), 2147483647, x1)), (0, (2, 60, 0, 0, 0))] [] M1
                refine hgo.2.1 136 _ [(5, (0, 0, 0, 12, x5 + 1)), (4, (0, 0, 0, 1, x6)), (3, (0, 0, 0, 2147483646, x3)), (2, (0, 0, (-2147483648), 2147483647, x2)), (1, (0, 0, (-2147483648), 2147483647, x1)), (0, (2, 60, 0, 0, 0))] _ _ (xa_subI rfl rfl (fun _ _ _ _ => by omega) (xa_subI rfl rfl (fun _ _ _ _ => by omega) (xa_subI rfl rfl (fun _ _ _ _ => by omega) (xa_subI rfl rfl (fun _ _ _ _ => by omega) (xa_subI rfl rfl (fun _ _ _ _ => by omega) (xa_subR rfl xa_sub0)))))) ?_
                exact ih3 (x5 + 1) x6 M1 (by omega) (by omega) (by omega) hc (by omega) (by omega)
              · intro (c1 : x7 < (M1 60 0))
                refine And.intro ?_ ?_
                · intro (c2 : ¬ x6 = 0)
                  show Q 156 [(7, (0, 0, 1, 15, x7 + 1)), (6, (0, 0, 1, 1, 1)), (5, (0, 0, 0, 11, x5)), (4, (0, 0, 0, 1, x4)), (3, (0, 0, 0, 2147483646, x3)), (2, (0, 0, (-2147483648), 2147483647, x2)), (1, (0, 0, (-2147483648), 2147483647, x1)), (0, (2, 60, 0, 0, 0))] [] M1
                  refine hgo.2.1 156 _ [(7, (0, 0, 0, 14, x7 + 1)), (6, (0, 0, 0, 1, 1)), (5, (0, 0, 0, 11, x5)), (4, (0, 0, 0, 1, x4)), (3, (0, 0, 0, 2147483646, x3)), (2, (0, 0, (-2147483648), 2147483647, x2)), (1, (0, 0, (-2147483648), 2147483647, x1)), (0, (2, 60, 0, 0, 0))] _ _ (xa_subI rfl rfl (fun _ _ _ _ => by omega) (xa_subI rfl rfl (fun _ _ _ _ => by omega) (xa_subI rfl rfl (fun _ _ _ _ => by omega) (xa_subI rfl rfl (fun _ _ _ _ => by omega) (xa_subI rfl rfl (fun _ _ _ _ => by omega) (xa_subI rfl rfl (fun _ _ _ _ => by omega) (xa_subI rfl rfl (fun _ _ _ _ => by omega) (xa_subR rfl xa_sub0)))))))) ?_
                  exact ih4 (x7 + 1) 1 M1 (by omega) (by omega) (by omega) (by omega) (by omega) hc (by omega) (by omega)
                · intro (c2 : x6 = 0)
                  show xa_C xm_I A h0 _ 248 [(0, 0, 0, 2147483646, x3), (0, 0, 0, 14, x7)] M1 _
                  refine ct_has (fun r3 zr3 er3 => ?_)
                  refine And.intro ?_ ?_
                  · intro (c4 : r3 = 0)
                    show Q 156 [(7, (0, 0, 1, 15, x7 + 1)), (6, (0, 0, 0, 0, 0)), (5, (0, 0, 0, 11, x5)), (4, (0, 0, 0, 1, x4)), (3, (0, 0, 0, 2147483646, x3)), (2, (0, 0, (-2147483648), 2147483647, x2)), (1, (0, 0, (-2147483648), 2147483647, x1)), (0, (2, 60, 0, 0, 0))] [] M1
                    refine hgo.2.1 156 _ [(7, (0, 0, 0, 14, x7 + 1)), (6, (0, 0, 0, 1, 0)), (5, (0, 0, 0, 11, x5)), (4, (0, 0, 0, 1, x4)), (3, (0, 0, 0, 2147483646, x3)), (2, (0, 0, (-2147483648), 2147483647, x2)), (1, (0, 0, (-2147483648), 2147483647, x1)), (0, (2, 60, 0, 0, 0))] _ _ (xa_subI rfl rfl (fun _ _ _ _ => by omega) (xa_subI rfl rfl (fun _ _ _ _ => by omega) (xa_subI rfl rfl (fun _ _ _ _ => by omega) (xa_subI rfl rfl (fun _ _ _ _ => by omega) (xa_subI rfl rfl (fun _ _ _ _ => by omega) (xa_subI rfl rfl (fun _ _ _ _ => by omega) (xa_subI rfl rfl (fun _ _ _ _ => by omega) (xa_subR rfl xa_sub0)))))))) ?_
                    exact ih4 (x7 + 1) 0 M1 (by omega) (by omega) (by omega) (by omega) (by omega) hc (by omega) (by omega)
                  · intro (c4 : ¬ r3 = 0)
                    refine And.intro (show 0 ≤ x7 ∧ x7 < 14 by omega) ?_
                    refine And.intro (show 0 ≤ x7 ∧ x7 < 14 by omega) ?_
                    refine And.intro (show 0 ≤ x7 ∧ x7 < 14 by omega) ?_
                    show xa_C xm_I A h0 _ 292 [(2, 60, 0, 0, 0), (0, 0, 0, 11, x5), (0, 0, 0, 9, M1 64 x7), (0, 0, 0, 9, M1 65 x7), (0, 0, 0, 400, M1 63 x7)] M1 _
                    refine ct_isLeft (by omega) (by omega) (fun r5 zr5 er5 => ?_)
                    refine And.intro ?_ ?_
                    · intro (c6 : r5 = 0)
                      show Q 156 [(7, (0, 0, 1, 15, x7 + 1)), (6, (0, 0, 0, 0, 0)), (5, (0, 0, 0, 11, x5)), (4, (0, 0, 0, 1, x4)), (3, (0, 0, 0, 2147483646, x3)), (2, (0, 0, (-2147483648), 2147483647, x2)), (1, (0, 0, (-2147483648), 2147483647, x1)), (0, (2, 60, 0, 0, 0))] [] M1
                      refine hgo.2.1 156 _ [(7, (0, 0, 0, 14, x7 + 1)), (6, (0, 0, 0, 1, 0)), (5, (0, 0, 0, 11, x5)), (4, (0, 0, 0, 1, x4)), (3, (0, 0, 0, 2147483646, x3)), (2, (0, 0, (-2147483648), 2147483647, x2)), (1, (0, 0, (-2147483648), 2147483647, x1)), (0, (2, 60, 0, 0, 0))] _ _ (xa_subI rfl rfl (fun _ _ _ _ => by omega) (xa_subI rfl rfl (fun _ _ _ _ => by omega) (xa_subI rfl rfl (fun _ _ _ _ => by omega) (xa_subI rfl rfl (fun _ _ _ _ => by omega) (xa_subI rfl rfl (fun _ _ _ _ => by omega) (xa_subI rfl rfl (fun _ _ _ _ => by omega) (xa_subI rfl rfl (fun _ _ _ _ => by omega) (xa_subR rfl xa_sub0)))))))) ?_
                      exact ih4 (x7 + 1) 0 M1 (by omega) (by omega) (by omega) (by omega) (by omega) hc (by omega) (by omega)
                    · intro (c6 : ¬ r5 = 0)
                      show Q 156 [(7, (0, 0, 1, 15, x7 + 1)), (6, (0, 0, 1, 1, 1)), (5, (0, 0, 0, 11, x5)), (4, (0, 0, 0, 1, x4)), (3, (0, 0, 0, 2147483646, x3)), (2, (0, 0, (-2147483648), 2147483647, x2)), (1, (0, 0, (-2147483648), 2147483647, x1)), (0, (2, 60, 0, 0, 0))] [] M1
                      refine hgo.2.1 156 _ [(7, (0, 0, 0, 14, x7 + 1)), (6, (0, 0, 0, 1, 1)), (5, (0, 0, 0, 11, x5)), (4, (0, 0, 0, 1, x4)), (3, (0, 0, 0, 2147483646, x3)), (2, (0, 0, (-2147483648), 2147483647, x2)), (1, (0, 0, (-2147483648), 2147483647, x1)), (0, (2, 60, 0, 0, 0))] _ _ (xa_subI rfl rfl (fun _ _ _ _ => by omega) (xa_subI rfl rfl (fun _ _ _ _ => by omega) (xa_subI rfl rfl (fun _ _ _ _ => by omega) (xa_subI rfl rfl (fun _ _ _ _ => by omega) (xa_subI rfl rfl (fun _ _ _ _ => by omega) (xa_subI rfl rfl (fun _ _ _ _ => by omega) (xa_subI rfl rfl (fun _ _ _ _ => by omega) (xa_subR rfl xa_sub0)))))))) ?_
                      exact ih4 (x7 + 1) 1 M1 (by omega) (by omega) (by omega) (by omega) (by omega) hc (by omega) (by omega)
          refine hgo.1 18 [9, 22, 100, 136, 156] 136 _ _ _ ?_
          refine And.intro ?_ ?_
          · intro (c1 : (M1 60 61) ≤ x5)
            refine And.intro ?_ ?_
            · intro (c2 : x4 = 0)
              show Q 100 [(3, (0, 0, 1, 2147483647, x3 + 1)), (5, (0, 0, 0, 12, x5)), (4, (0, 0, 0, 1, x4)), (2, (0, 0, (-2147483648), 2147483647, x2)), (1, (0, 0, (-2147483648), 2147483647, x1)), (0, (2, 60, 0, 0, 0))] [] M1
              refine hgo.2.1 100 _ [(3, (0, 0, 0, 2147483647, x3 + 1)), (2, (0, 0, (-2147483648), 2147483647, x2)), (1, (0, 0, (-2147483648), 2147483647, x1)), (0, (2, 60, 0, 0, 0))] _ _ (xa_subI rfl rfl (fun _ _ _ _ => by omega) (xa_subI rfl rfl (fun _ _ _ _ => by omega) (xa_subI rfl rfl (fun _ _ _ _ => by omega) (xa_subR rfl xa_sub0)))) ?_
              exact ih2 (x3 + 1) x2 x1 M1 (by omega) hc (by omega)
            · intro (c2 : ¬ x4 = 0)
              show xa_C xm_I A h0 _ 136 [(0, 0, 0, 2147483646, x3)] M1 _
              refine ct_bitCount ?_
              show Q 100 [(3, (0, 0, 1, 2147483647, x3 + 1)), (2, (0, 0, (-2147483648), 2147483647, xa_bc x3)), (5, (0, 0, 0, 12, x5)), (4, (0, 0, 0, 1, x4)), (1, (0, 0, (-2147483648), 2147483647, x1)), (0, (2, 60, 0, 0, 0))] [] M1
              refine hgo.2.1 100 _ [(3, (0, 0, 0, 2147483647, x3 + 1)), (2, (0, 0, (-2147483648), 2147483647, xa_bc x3)), (1, (0, 0, (-2147483648), 2147483647, x1)), (0, (2, 60, 0, 0, 0))] _ _ (xa_subI rfl rfl (fun _ _ _ _ => by omega) (xa_subI rfl rfl (fun _ _ _ _ => by omega) (xa_subI rfl rfl (fun _ _ _ _ => by omega) (xa_subR rfl xa_sub0)))) ?_
              exact ih2 (x3 + 1) (xa_bc x3) x1 M1 (by omega) hc (by omega)
          · intro (c1 : x5 < (M1 60 61))
            refine And.intro ?_ ?_
            · intro (c3 : x4 = 0)
              refine And.intro ?_ ?_
              · intro (c4 : x4 = 0)
                show Q 100 [(3, (0, 0, 1, 2147483647, x3 + 1)), (5, (0, 0, 0, 12, x5)), (4, (0, 0, 0, 1, x4)), (2, (0, 0, (-2147483648), 2147483647, x2)), (1, (0, 0, (-2147483648), 2147483647, x1)), (0, (2, 60, 0, 0, 0))] [] M1
                refine hgo.2.1 100 _ [(3, (0, 0, 0, 2147483647, x3 + 1)), (2, (0, 0, (-2147483648), 2147483647, x2)), (1, (0, 0, (-2147483648), 2147483647, x1)), (0, (2, 60, 0, 0, 0))] _ _ (xa_subI rfl rfl (fun _ _ _ _ => by omega) (xa_subI rfl rfl (fun _ _ _ _ => by omega) (xa_subI rfl rfl (fun _ _ _ _ => by omega) (xa_subR rfl xa_sub0)))) ?_
                exact ih2 (x3 + 1) x2 x1 M1 (by omega) hc (by omega)
              · intro (c4 : ¬ x4 = 0)
                show xa_C xm_I A h0 _ 136 [(0, 0, 0, 2147483646, x3)] M1 _
                refine ct_bitCount ?_
                show Q 100 [(3, (0, 0, 1, 2147483647, x3 + 1)), (2, (0, 0, (-2147483648), 2147483647, xa_bc x3)), (5, (0, 0, 0, 12, x5)), (4, (0, 0, 0, 1, x4)), (1, (0, 0, (-2147483648), 2147483647, x1)), (0, (2, 60, 0, 0, 0))] [] M1
                refine hgo.2.1 100 _ [(3, (0, 0, 0, 2147483647, x3 + 1)), (2, (0, 0, (-2147483648), 2147483647, xa_bc x3)), (1, (0, 0, (-2147483648), 2147483647, x1)), (0, (2, 60, 0, 0, 0))] _ _ (xa_subI rfl rfl (fun _ _ _ _ => by omega) (xa_subI rfl rfl (fun _ _ _ _ => by omega) (xa_subI rfl rfl (fun _ _ _ _ => by omega) (xa_subR rfl xa_sub0)))) ?_
                exact ih2 (x3 + 1) (xa_bc x3) x1 M1 (by omega) hc (by omega)
            · intro (c3 : ¬ x4 = 0)
              show Q 156 [(7, (0, 0, 0, 0, 0)), (6, (0, 0, 0, 0, 0)), (5, (0, 0, 0, 12, x5)), (4, (0, 0, 0, 1, x4)), (3, (0, 0, 0, 2147483646, x3)), (2, (0, 0, (-2147483648), 2147483647, x2)), (1, (0, 0, (-2147483648), 2147483647, x1)), (0, (2, 60, 0, 0, 0))] [] M1
              refine hgo.2.1 156 _ [(7, (0, 0, 0, 14, 0)), (6, (0, 0, 0, 1, 0)), (5, (0, 0, 0, 11, x5)), (4, (0, 0, 0, 1, x4)), (3, (0, 0, 0, 2147483646, x3)), (2, (0, 0, (-2147483648), 2147483647, x2)), (1, (0, 0, (-2147483648), 2147483647, x1)), (0, (2, 60, 0, 0, 0))] _ _ (xa_subI rfl rfl (fun _ _ _ _ => by omega) (xa_subI rfl rfl (fun _ _ _ _ => by omega) (xa_subI rfl rfl (fun _ _ _ _ => by omega) (xa_subI rfl rfl (fun _ _ _ _ => by omega) (xa_subI rfl rfl (fun _ _ _ _ => by omega) (xa_subI rfl rfl (fun _ _ _ _ => by omega) (xa_subI rfl rfl (fun _ _ _ _ => by omega) (xa_subR rfl xa_sub0)))))))) ?_
              exact loop4 15 0 0 M1 (by omega) (by omega) (by omega) (by omega) (by omega) hc (by omega) (by omega)
      refine hgo.1 24 [9, 22, 100, 136, 156] 100 _ _ _ ?_
      refine And.intro ?_ ?_
      · intro (c1 : (xa_ib 6 1 (M1 60 0)) ≤ x3)
        show xa_C xm_I A h0 _ 231 [(2, 60, 0, 0, 0), (1, 0, (-2147483648), 2147483647, x2)] (xa_up M1 60 20 0) _
        refine ct_tell (n := 0) (by first | rfl | (simp [xa_up]; done) | omega) (by omega) (by omega) ?_
        show post (some (0, 0, (-2147483648), 2147483647, x1)) (xa_up (xa_up (xa_up M1 60 20 0) 74 0 x2) 60 20 1)
        exact k _ _ (xm_cor_f (by omega) (xm_cor_a rfl (xm_cor_f (by omega) hc)))
      · intro (c1 : x3 < (xa_ib 6 1 (M1 60 0)))
        refine And.intro ?_ ?_
        · intro (c2 : ¬ x1 = 0)
          show xa_C xm_I A h0 _ 231 [(2, 60, 0, 0, 0), (1, 0, (-2147483648), 2147483647, x2)] (xa_up M1 60 20 0) _
          refine ct_tell (n := 0) (by first | rfl | (simp [xa_up]; done) | omega) (by omega) (by omega) ?_
          show post (some (0, 0, (-2147483648), 2147483647, x1)) (xa_up (xa_up (xa_up M1 60 20 0) 74 0 x2) 60 20 1)
          exact k _ _ (xm_cor_f (by omega) (xm_cor_a rfl (xm_cor_f (by omega) hc)))
        · intro (c2 : x1 = 0)
          refine And.intro ?_ ?_
          · intro (c3 : x2 = (-1))
            show Q 136 [(5, (0, 0, 0, 0, 0)), (4, (0, 0, 1, 1, 1)), (3, (0, 0, 0, 2147483647, x3)), (2, (0, 0, (-2147483648), 2147483647, x2)), (1, (0, 0, (-2147483648), 2147483647, x1)), (0, (2, 60, 0, 0, 0))] [] M1
            refine hgo.2.1 136 _ [(5, (0, 0, 0, 12, 0)), (4, (0, 0, 0, 1, 1)), (3, (0, 0, 0, 2147483646, x3)), (2, (0, 0, (-2147483648), 2147483647, x2)), (1, (0, 0, (-2147483648), 2147483647, x1)), (0, (2, 60, 0, 0, 0))] _ _ (xa_subI rfl rfl (fun _ _ _ _ => by omega) (xa_subI rfl rfl (fun _ _ _ _ => by omega) (xa_subI rfl rfl (fun _ _ _ _ => by omega) (xa_subI rfl rfl (fun _ _ _ _ => by omega) (xa_subI rfl rfl (fun _ _ _ _ => by omega) (xa_subR rfl xa_sub0)))))) ?_
            exact loop3 13 0 1 M1 (by omega) (by omega) (by omega) hc (by omega) (by omega)
          · intro (c3 : ¬ x2 = (-1))
            show xa_C xm_I A h0 _ 136 [(0, 0, 0, 2147483647, x3)] M1 _
            refine ct_bitCount ?_
            refine And.intro ?_ ?_
            · intro (c4 : (xa_bc x3) < x2)
              show Q 136 [(5, (0, 0, 0, 0, 0)), (4, (0, 0, 1, 1, 1)), (3, (0, 0, 0, 2147483647, x3)), (2, (0, 0, (-2147483648), 2147483647, x2)), (1, (0, 0, (-2147483648), 2147483647, x1)), (0, (2, 60, 0, 0, 0))] [] M1
              refine hgo.2.1 136 _ [(5, (0, 0, 0, 12, 0)), (4, (0, 0, 0, 1, 1)), (3, (0, 0, 0, 2147483646, x3)), (2, (0, 0, (-2147483648), 2147483647, x2)), (1, (0, 0, (-2147483648), 2147483647, x1)), (0, (2, 60, 0, 0, 0))] _ _ (xa_subI rfl rfl (fun _ _ _ _ => by omega) (xa_subI rfl rfl (fun _ _ _ _ => by omega) (xa_subI rfl rfl (fun _ _ _ _ => by omega) (xa_subI rfl rfl (fun _ _ _ _ => by omega) (xa_subI rfl rfl (fun _ _ _ _ => by omega) (xa_subR rfl xa_sub0)))))) ?_
              exact loop3 13 0 1 M1 (by omega) (by omega) (by omega) hc (by omega) (by omega)
            · intro (c4 : x2 ≤ (xa_bc x3))
              show Q 100 [(3, (0, 0, (-2147483648), 2147483647, xa_w32 (x3 + 1))), (2, (0, 0, (-2147483648), 2147483647, x2)), (1, (0, 0, (-2147483648), 2147483647, x1)), (0, (2, 60, 0, 0, 0))] [] M1
              refine hgo.2.1 100 _ [(3, (0, 0, 0, 2147483647, xa_w32 (x3 + 1))), (2, (0, 0, (-2147483648), 2147483647, x2)), (1, (0, 0, (-2147483648), 2147483647, x1)), (0, (2, 60, 0, 0, 0))] _ _ (xa_subI rfl rfl (fun _ _ _ _ => by omega) (xa_subI rfl rfl (fun _ _ _ _ => by omega) (xa_subI rfl rfl (fun _ _ _ _ => by omega) (xa_subR rfl xa_sub0)))) ?_
              exact ih2 (xa_w32 (x3 + 1)) x2 x1 M1 (by omega) hc (by omega)
  have loop0 : ∀ (n : Nat) (x2 x1 : Int) (M1 : xa_M), 0 ≤ x2 ∧ x2 ≤ 12 → xm_cor M M1 → 12 - x2 < (n : Int) → Q 9 [(2, (0, 0, 0, 12, x2)), (1, (0, 0, (-2147483648), 2147483647, x1)), (0, (2, 60, 0, 0, 0))] [] M1 := by
    intro n
    induction n with
    | zero => intro x2 x1 M1 b2 hc hms; omega
    | succ n ih0 =>
      intro x2 x1 M1 b2 hc hms0
      have e0 := xm_corf hc 0 (by omega)
      have e6 := xm_corf hc 6 (by omega)
      have e61 := xm_corf hc 61 (by omega)
      have e11 := xm_corf hc 11 (by omega)
      have e15 := xm_corf hc 15 (by omega)
      have e16 := xm_corf hc 16 (by omega)
      have loop1 : ∀ (n : Nat) (x4 x3 : Int) (M1 : xa_M), 0 ≤ x4 ∧ x4 ≤ 14 → 0 ≤ x3 ∧ x3 ≤ 1 → 0 ≤ x2 ∧ x2 ≤ 11 → xm_cor M M1 → 14 - x4 < (n : Int) → Q 22 [(4, (0, 0, 0, 14, x4)), (3, (0, 0, 0, 1, x3)), (2, (0, 0, 0, 11, x2)), (1, (0, 0, (-2147483648), 2147483647, x1)), (0, (2, 60, 0, 0, 0))] [] M1 := by
        intro n
        induction n with
        | zero => intro x4 x3 M1 b4 b3 f2 hc hms; omega
        | succ n ih1 =>
          intro x4 x3 M1 b4 b3 f2 hc hms1
          have e0 := xm_corf hc 0 (by omega)
          have e6 := xm_corf hc 6 (by omega)
          have e61 := xm_corf hc 61 (by omega)
          have e11 := xm_corf hc 11 (by omega)
          have e15 := xm_corf hc 15 (by omega)
          have e16 := xm_corf hc 16 (by omega)
          refine hgo.1 32 [9, 22, 100, 136, 156] 22 _ _ _ ?_
          refine And.intro ?_ ?_
          · intro (c1 : (M1 60 0) ≤ x4)
            refine And.intro ?_ ?_
            · intro (c2 : x3 = 0)
              show Q 9 [(2, (0, 0, 1, 12, x2 + 1)), (1, (0, 0, (-2147483648), 2147483647, xa_ib 4 x1 (xa_ib 6 1 x2))), (4, (0, 0, 0, 14, x4)), (3, (0, 0, 0, 1, x3)), (0, (2, 60, 0, 0, 0))] [] M1
              refine hgo.2.1 9 _ [(2, (0, 0, 0, 12, x2 + 1)), (1, (0, 0, (-2147483648), 2147483647, xa_ib 4 x1 (xa_ib 6 1 x2))), (0, (2, 60, 0, 0, 0))] _ _ (xa_subI rfl rfl (fun _ _ _ _ => by omega) (xa_subI rfl rfl (fun _ _ _ _ => by omega) (xa_subR rfl xa_sub0))) ?_
              exact ih0 (x2 + 1) (xa_ib 4 x1 (xa_ib 6 1 x2)) M1 (by omega) hc (by omega)
            · intro (c2 : ¬ x3 = 0)
              show Q 9 [(2, (0, 0, 1, 12, x2 + 1)), (1, (0, 0, (-2147483648), 2147483647, xa_ib 4 x1 0)), (4, (0, 0, 0, 14, x4)), (3, (0, 0, 0, 1, x3)), (0, (2, 60, 0, 0, 0))] [] M1
              refine hgo.2.1 9 _ [(2, (0, 0, 0, 12, x2 + 1)), (1, (0, 0, (-2147483648), 2147483647, xa_ib 4 x1 0)), (0, (2, 60, 0, 0, 0))] _ _ (xa_subI rfl rfl (fun _ _ _ _ => by omega) (xa_subI rfl rfl (fun _ _ _ _ => by omega) (xa_subR rfl xa_sub0))) ?_
              exact ih0 (x2 + 1) (xa_ib 4 x1 0) M1 (by omega) hc (by omega)
          · intro (c1 : x4 < (M1 60 0))
            refine And.intro ?_ ?_
            · intro (c3 : ¬ x3 = 0)
              show Q 22 [(4, (0, 0, 1, 15, x4 + 1)), (3, (0, 0, 1, 1, 1)), (2, (0, 0, 0, 11, x2)), (1, (0, 0, (-2147483648), 2147483647, x1)), (0, (2, 60, 0, 0, 0))] [] M1
              refine hgo.2.1 22 _ [(4, (0, 0, 0, 14, x4 + 1)), (3, (0, 0, 0, 1, 1)), (2, (0, 0, 0, 11, x2)), (1, (0, 0, (-2147483648), 2147483647, x1)), (0, (2, 60, 0, 0, 0))] _ _ (xa_subI rfl rfl (fun _ _ _ _ => by omega) (xa_subI rfl rfl (fun _ _ _ _ => by omega) (xa_subI rfl rfl (fun _ _ _ _ => by omega) (xa_subI rfl rfl (fun _ _ _ _ => by omega) (xa_subR rfl xa_sub0))))) ?_
              exact ih1 (x4 + 1) 1 M1 (by omega) (by omega) (by omega) hc (by omega)
            · intro (c3 : x3 = 0)
              refine And.intro (show 0 ≤ x4 ∧ x4 < 14 by omega) ?_
              refine And.intro (show 0 ≤ x4 ∧ x4 < 14 by omega) ?_
              refine And.intro (show 0 ≤ x4 ∧ x4 < 14 by omega) ?_
              show xa_C xm_I A h0 _ 292 [(2, 60, 0, 0, 0), (0, 0, 0, 11, x2), (0, 0, 0, 9, M1 64 x4), (0, 0, 0, 9, M1 65 x4), (0, 0, 0, 400, M1 63 x4)] M1 _
              refine ct_isLeft (by omega) (by omega) (fun r4 zr4 er4 => ?_)
              refine And.intro ?_ ?_
              · intro (c5 : r4 = 0)
                show Q 22 [(4, (0, 0, 1, 15, x4 + 1)), (3, (0, 0, 0, 0, 0)), (2, (0, 0, 0, 11, x2)), (1, (0, 0, (-2147483648), 2147483647, x1)), (0, (2, 60, 0, 0, 0))] [] M1
                refine hgo.2.1 22 _ [(4, (0, 0, 0, 14, x4 + 1)), (3, (0, 0, 0, 1, 0)), (2, (0, 0, 0, 11, x2)), (1, (0, 0, (-2147483648), 2147483647, x1)), (0, (2, 60, 0, 0, 0))] _ _ (xa_subI rfl rfl (fun _ _ _ _ => by omega) (xa_subI rfl rfl (fun _ _ _ _ => by omega) (xa_subI rfl rfl (fun _ _ _ _ => by omega) (xa_subI rfl rfl (fun _ _ _ _ => by omega) (xa_subR rfl xa_sub0))))) ?_
                exact ih1 (x4 + 1) 0 M1 (by omega) (by omega) (by omega) hc (by omega)
              · intro (c5 : ¬ r4 = 0)
                show Q 22 [(4, (0, 0, 1, 15, x4 + 1)), (3, (0, 0, 1, 1, 1)), (2, (0, 0, 0, 11, x2)), (1, (0, 0, (-2147483648), 2147483647, x1)), (0, (2, 60, 0, 0, 0))] [] M1
                refine hgo.2.1 22 _ [(4, (0, 0, 0, 14, x4 + 1)), (3, (0, 0, 0, 1, 1)), (2, (0, 0, 0, 11, x2)), (1, (0, 0, (-2147483648), 2147483647, x1)), (0, (2, 60, 0, 0, 0))] _ _ (xa_subI rfl rfl (fun _ _ _ _ => by omega) (xa_subI rfl rfl (fun _ _ _ _ => by omega) (xa_subI rfl rfl (fun _ _ _ _ => by omega) (xa_subI rfl rfl (fun _ _ _ _ => by omega) (xa_subR rfl xa_sub0))))) ?_
                exact ih1 (x4 + 1) 1 M1 (by omega) (by omega) (by omega) hc (by omega)
      refine hgo.1 13 [9, 22, 100, 136, 156] 9 _ _ _ ?_
      refine And.intro ?_ ?_
      · intro (c1 : (M1 60 61) ≤ x2)
        show Q 100 [(3, (0, 0, 0, 0, 0)), (2, (0, 0, (-1), (-1), (-1))), (1, (0, 0, (-2147483648), 2147483647, x1)), (0, (2, 60, 0, 0, 0))] [] M1
        refine hgo.2.1 100 _ [(3, (0, 0, 0, 2147483647, 0)), (2, (0, 0, (-2147483648), 2147483647, (-1))), (1, (0, 0, (-2147483648), 2147483647, x1)), (0, (2, 60, 0, 0, 0))] _ _ (xa_subI rfl rfl (fun _ _ _ _ => by omega) (xa_subI rfl rfl (fun _ _ _ _ => by omega) (xa_subI rfl rfl (fun _ _ _ _ => by omega) (xa_subR rfl xa_sub0)))) ?_
        exact loop2 ((xa_ib 6 1 (M 60 0)).toNat + 1) 0 (-1) x1 M1 (by omega) hc (by omega)
      · intro (c1 : x2 < (M1 60 61))
        show Q 22 [(4, (0, 0, 0, 0, 0)), (3, (0, 0, 0, 0, 0)), (2, (0, 0, 0, 12, x2)), (1, (0, 0, (-2147483648), 2147483647, x1)), (0, (2, 60, 0, 0, 0))] [] M1
        refine hgo.2.1 22 _ [(4, (0, 0, 0, 14, 0)), (3, (0, 0, 0, 1, 0)), (2, (0, 0, 0, 11, x2)), (1, (0, 0, (-2147483648), 2147483647, x1)), (0, (2, 60, 0, 0, 0))] _ _ (xa_subI rfl rfl (fun _ _ _ _ => by omega) (xa_subI rfl rfl (fun _ _ _ _ => by omega) (xa_subI rfl rfl (fun _ _ _ _ => by omega) (xa_subI rfl rfl (fun _ _ _ _ => by omega) (xa_subR rfl xa_sub0))))) ?_
        exact loop1 15 0 0 M1 (by omega) (by omega) (by omega) hc (by omega)
  refine hgo.1 12 [9, 22, 100, 136, 156] 0 _ _ _ ?_
  show Q 9 [(2, (0, 0, 0, 0, 0)), (1, (0, 0, 0, 0, 0)), (0, (2, 60, 0, 0, 0))] [] (xa_up M 60 21 0)
  refine hgo.2.1 9 _ [(2, (0, 0, 0, 12, 0)), (1, (0, 0, (-2147483648), 2147483647, 0)), (0, (2, 60, 0, 0, 0))] _ _ (xa_subI rfl rfl (fun _ _ _ _ => by omega) (xa_subI rfl rfl (fun _ _ _ _ => by omega) (xa_subR rfl xa_sub0))) ?_
  exact loop0 13 0 0 (xa_up M 60 21 0) (by omega) (xm_cor_f (by omega) xm_cor_r) (by omega)
